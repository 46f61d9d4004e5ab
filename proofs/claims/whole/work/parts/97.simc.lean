-- ===== create =====
theorem Lk_cg {F F' : Nat → Int32} : ∀ (L : List Nat), (∀ q ∈ L, F' q = F q) → Lk F L → Lk F' L
  | [], _, _ => trivial
  | [p], h, hL => (h p List.mem_cons_self).trans hL
  | p :: q :: r, h, hL => ⟨(h p List.mem_cons_self).trans hL.1, Lk_cg (q :: r) (fun x hx => h x (List.mem_cons_of_mem _ hx)) hL.2⟩
theorem slots_cg {M M' : aR} {V : aN} {mn p : Nat} (h : ∀ i, 7 ≤ i → i ≤ 15 → M' i = M i) (h19 : M' 19 = M 19) (h20 : M' 20 = M 20) (h21 : M' 21 = M 21) : slots_of M' V mn p = slots_of M V mn p := by
  funext s
  unfold slots_of mrec
  rw [fd_cg (h 7 (by omega) (by omega))]
  rw [vrec_cg (fun i hi => by rw [h (8 + i) (by omega) (by omega)]) (h 15 (by omega) (by omega)) h19 h20 h21]
/-- a free page holds nothing -/
theorem free_pg {M : aR} {V : aN} {mn sn p : Nat} (hPl : PlS M mn sn) (hp : p < 60) (h : M 3 p = -1) : (∀ j, j < mn → M 7 j / 256 ≠ nI p) ∧ y_vn M (nI p) mn = 0 ∧ y_fr M p mn = 496 - 4 * M 4 p ∧ slots_of M V mn p = fun _ => none := by
  have h1 : ∀ j, j < mn → M 7 j / 256 ≠ nI p := by
    intro j hj e
    obtain ⟨p', s, a1, a2, a3, t, a4, a5⟩ := hPl.1 j hj
    rw [a3, (pl_dv a1 a2).1] at e
    have : p' = p := (nI_eq (by omega) (by omega)).mp e
    rw [this, h] at a5
    exact nI_m1 (by omega) a5.symm
  have z : ∀ n, vsum (fun _ => 0) n = 0 := by
    intro n
    induction n with
    | zero => rfl
    | succ n ih =>
      show vsum (fun _ => 0) n + 0 = 0
      rw [ih]
      rfl
  refine ⟨h1, ?_, ?_, ?_⟩
  · rw [vn_sum, vsum_cg (g := fun _ => 0) (fun j hj => if_neg (h1 j hj)), z]
  · rw [fr_sum, vsum_cg (g := fun _ => 0) (fun j hj => if_neg (h1 j hj)), z, Int32.sub_zero]
  · funext s
    unfold slots_of
    by_cases hs : s < 256
    · rw [if_pos hs]
      refine mrec_none (fun j hj e => h1 j hj ?_)
      rw [e, (pl_dv hp hs).1]
    · rw [if_neg hs]
theorem ol_spec {P : aR} : ∀ (d k : Nat), (o_l P d k = none ∧ ∀ p, k ≤ p → p < k + d → P p 0 ≠ -1) ∨ ∃ q, o_l P d k = some q ∧ k ≤ q ∧ q < k + d ∧ P q 0 = -1 ∧ ∀ p, k ≤ p → p < q → P p 0 ≠ -1
  | 0, k => Or.inl ⟨rfl, fun p h1 h2 => absurd h1 (by omega)⟩
  | d + 1, k => by
    show ((if P k 0 = -1 then some k else o_l P d (k + 1)) = none ∧ _) ∨ ∃ q, (if P k 0 = -1 then some k else o_l P d (k + 1)) = some q ∧ _
    by_cases h : P k 0 = -1
    · rw [if_pos h]
      exact Or.inr ⟨k, rfl, Nat.le_refl k, by omega, h, fun p h1 h2 => absurd h1 (by omega)⟩
    · rw [if_neg h]
      rcases ol_spec d (k + 1) with ⟨i1, i2⟩ | ⟨q, i1, i2, i3, i4, i5⟩
      · refine Or.inl ⟨i1, fun p h1 h2 => ?_⟩
        by_cases e : p = k
        · rw [e]; exact h
        · exact i2 p (by omega) (by omega)
      · refine Or.inr ⟨q, i1, by omega, by omega, i4, fun p h1 h2 => ?_⟩
        by_cases e : p = k
        · rw [e]; exact h
        · exact i5 p (by omega) h2
theorem lf_none {M : aR} : ∀ (n : Nat) (a : Int32), (∀ p, p < n → ¬ M 3 p < 0) → y_lf M n a = a
  | 0, _, _ => rfl
  | n + 1, a, h => by
    show y_lf M n (if M 3 n < 0 then nI n else a) = a
    rw [if_neg (h n (by omega)), lf_none n a (fun p hp => h p (by omega))]
theorem lf_some {M : aR} {q : Nat} : ∀ (n : Nat) (a : Int32), q < n → M 3 q < 0 → (∀ p, p < q → ¬ M 3 p < 0) → y_lf M n a = nI q
  | 0, _, h, _, _ => absurd h (by omega)
  | n + 1, a, h, hq, hp => by
    show y_lf M n (if M 3 n < 0 then nI n else a) = nI q
    by_cases e : q = n
    · subst e
      rw [if_pos hq, lf_none q _ hp]
    · exact lf_some n _ (by omega) hq hp
theorem free_eq {tl pl : aB} {P M : aR} {mn : Nat} (h : PagS tl pl P M mn) : (o_l P 60 0 = none ∧ y_lf M 60 (-1) = -1) ∨ ∃ q, q < 60 ∧ o_l P 60 0 = some q ∧ y_lf M 60 (-1) = nI q ∧ M 3 q = -1 := by
  have hn : ∀ p, p < 60 → (M 3 p < 0 ↔ P p 0 = -1) := by
    intro p hp
    obtain ⟨e, q⟩ := h p hp
    rw [e]
    rcases q with q | ⟨t, h1, h2, -⟩
    · rw [q]; exact ⟨fun _ => rfl, fun _ => by decide⟩
    · rw [h2]
      exact ⟨fun w => absurd w (nI_pos (by omega)), fun w => absurd w (nI_m1 (by omega))⟩
  rcases ol_spec (P := P) 60 0 with ⟨i1, i2⟩ | ⟨q, i1, i2, i3, i4, i5⟩
  · exact Or.inl ⟨i1, lf_none 60 _ (fun p hp w => i2 p (Nat.zero_le p) (by omega) ((hn p hp).mp w))⟩
  · refine Or.inr ⟨q, by omega, i1, lf_some 60 _ (by omega) ((hn q (by omega)).mpr i4) (fun p hp w => i5 p (Nat.zero_le p) hp ((hn p (by omega)).mp w)), ?_⟩
    rw [← (h q (by omega)).1]
    exact i4
theorem t1_eq (x : Int32) (c : Nat) : d_t1 x c = m_in (dg x c) 1 3 := by
  unfold d_t1 m_in
  rw [← Bool.decide_or, ← Bool.decide_or, ← Bool.decide_and]
  refine decide_eq_decide.mpr ?_
  rw [← Int32.toInt_inj, ← Int32.toInt_inj, ← Int32.toInt_inj, Int32.le_iff_toInt_le, Int32.le_iff_toInt_le, show (1 : Int32).toInt = 1 from rfl, show (2 : Int32).toInt = 2 from rfl, show (3 : Int32).toInt = 3 from rfl]
  omega
theorem ty_all {x : Int32} : ∀ (d c : Nat), (d_ty x d c = true ↔ ∀ i, c ≤ i → i < c + d → d_t1 x i = true)
  | 0, c => ⟨fun _ i h1 h2 => absurd h1 (by omega), fun _ => rfl⟩
  | d + 1, c => by
    show (d_t1 x c && d_ty x d (c + 1)) = true ↔ _
    rw [Bool.and_eq_true, ty_all d (c + 1)]
    constructor
    · intro h i h1 h2
      by_cases e : i = c
      · rw [e]; exact h.1
      · exact h.2 i (by omega) (by omega)
    · intro h
      exact ⟨h c (Nat.le_refl c) (by omega), fun i h1 h2 => h i (by omega) (by omega)⟩
theorem cg_all {x : Int32} {b : Bool} : ∀ (n : Nat), (y_cg b x n = true ↔ b = true ∧ ∀ i, i < n → m_in (dg x i) 1 3 = true)
  | 0 => ⟨fun h => ⟨h, fun i h => absurd h (by omega)⟩, fun h => h.1⟩
  | n + 1 => by
    show (y_cg b x n && m_in (dg x n) 1 3) = true ↔ _
    rw [Bool.and_eq_true, cg_all n]
    constructor
    · rintro ⟨⟨h1, h2⟩, h3⟩
      refine ⟨h1, fun i hi => ?_⟩
      by_cases e : i = n
      · rw [e]; exact h3
      · exact h2 i (by omega)
    · rintro ⟨h1, h2⟩
      exact ⟨⟨h1, fun i hi => h2 i (by omega)⟩, h2 n (by omega)⟩
theorem cg_eq {x : Int32} {b : Bool} (n : Nat) : y_cg b x n = (b && d_ty x n 0) := by
  rw [Bool.eq_iff_iff, Bool.and_eq_true, cg_all, ty_all]
  constructor
  · rintro ⟨h1, h2⟩
    exact ⟨h1, fun i _ hi => by rw [t1_eq]; exact h2 i (by omega)⟩
  · rintro ⟨h1, h2⟩
    exact ⟨h1, fun i hi => by rw [← t1_eq]; exact h2 i (Nat.zero_le i) (by omega)⟩
theorem new_fit : fitB pg_new := by
  intro i hi
  unfold pg_new
  rw [if_neg (by omega), if_neg (by omega)]
  rfl
theorem OkS.fit {tl pl : aB} {P M : aR} (h : OkS tl pl P M) {p : Nat} (hp : p < 60) : fitB (P p) := by
  cases e : pl p with
  | true => exact (h.2.1 p hp e).2.2.2.2
  | false => rw [h.1.1 p e]; exact new_fit
theorem rs_at {Z : Nat → Int32} {t : Int32} : pg_rs Z t 0 = t ∧ pg_rs Z t 1 = -1 ∧ pg_rs Z t 2 = 0 ∧ pg_rs Z t 3 = 0 ∧ pg_rs Z t 4 = 496 := by
  unfold pg_rs
  refine ⟨?_, ?_, ?_, ?_, ?_⟩
  · rw [pk_un (by decide), pk_un (by decide), pk_un (by decide), pk_un (by decide), pk_us]
  · rw [pk_un (by decide), pk_un (by decide), pk_un (by decide), pk_us]
  · rw [pk_un (by decide), pk_un (by decide), pk_us]
  · rw [pk_un (by decide), pk_us]
  · rw [pk_us]
/-- types that are written where no table is -/
theorem Sim0.types {R : aR} {N : aN} {tl : aB} {T : aR} {pl : aB} {P : aR} {M M' : aR} {V : aN} {sn mn tt : Nat} (h : Sim0 R N tl T pl P M V sn mn) (hf : tl tt = false) (hc : ∀ j, j ≠ 1 → M' j = M j) (h1 : ∀ j, j < 8 * tt ∨ 8 * tt + 8 ≤ j → M' 1 j = M 1 j) : Sim0 R N tl T pl P M' V sn mn := by
  obtain ⟨⟨hR, hSt, hH⟩, hT, ⟨hD, hP, hF, hSl, hSh⟩, hPg, ⟨Ls, hC⟩, hPl, hV⟩ := h
  have hSame : Same M M' V V sn := fun s _ => ⟨by rw [hc 19 (by decide)], by rw [hc 20 (by decide)], by rw [hc 21 (by decide)], rfl⟩
  refine ⟨⟨hR, ?_, fun c hcc => ?_⟩, fun t ht => ⟨fun htl => ?_, fun htl => ?_⟩, ⟨hD, hP, ?_, ?_, ?_⟩, fun p hp => ?_, ⟨Ls, fun t ht htl => ?_⟩, ⟨?_, ?_, fun j hj c hcc => ?_⟩, fun p hp t ht e => ?_⟩
  · unfold StI
    rw [hc 19 (by decide), hc 20 (by decide), hc 21 (by decide)]
    exact hSt
  · rw [hc 16 (by decide), mcell_cg (hc 19 (by decide)) (hc 20 (by decide)) (hc 21 (by decide))]
    exact ⟨cok_same hSame (Nat.le_refl _) (hH c hcc).1, (hH c hcc).2⟩
  · obtain ⟨m, a1, a2, a3, a4, a5, a6⟩ := (hT t ht).1 htl
    have hne : t ≠ tt := fun e => by rw [e, hf] at htl; cases htl
    refine ⟨m, a1, a2, a3, by rw [hc 0 (by decide)]; exact a4, by rw [hc 2 (by decide)]; exact a5, fun c hcm => ?_⟩
    rw [h1 (8 * t + c) (by omega)]
    exact a6 c hcm
  · rw [hc 0 (by decide)]
    exact (hT t ht).2 htl
  · unfold F_ok
    rw [hc 5 (by decide)]
    exact hF
  · unfold Sl_ok sl
    rw [hc 4 (by decide)]
    exact hSl
  · unfold S_ok
    rw [hc 15 (by decide)]
    exact hSh
  · rw [hc 3 (by decide), hc 4 (by decide), hc 5 (by decide), vn_cg (hc 7 (by decide)), fr_cg (hc 4 (by decide)) (hc 7 (by decide)) (hc 14 (by decide))]
    exact hPg p hp
  · unfold Chain
    rw [hc 2 (by decide), hc 3 (by decide), hc 5 (by decide)]
    exact hC t ht htl
  · rw [hc 7 (by decide), hc 3 (by decide)]
    exact hPl.1
  · unfold Inj
    rw [hc 7 (by decide)]
    exact hPl.2.1
  · rw [hc 15 (by decide)]
    exact cok_same hSame (Nat.le_refl _) (hPl.2.2 j hj c hcc)
  · rw [hc 3 (by decide)] at e
    rw [slots_cg (fun i h1 h2 => hc i (by omega)) (hc 19 (by decide)) (hc 20 (by decide)) (hc 21 (by decide))]
    exact hV p hp t ht e
