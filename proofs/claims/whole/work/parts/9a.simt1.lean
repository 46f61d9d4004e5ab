-- ===== take: the version goes =====
theorem Sim0.take1 {R : aR} {N : aN} {tl : aB} {T : aR} {pl : aB} {P : aR} {M : aR} {V : aN} {sn e p s t j : Nat} (h : Sim0 R N tl T pl P M V sn (e + 1)) (hm : e + 1 ≤ 512) (hp : p < 60) (hs : s < 256) (t1 : t < 8) (t2 : M 3 p = nI t) (t4 : pl p = true) (hj : j < e + 1) (ej : M 7 j = nI (256 * p + s)) (hsl : slots_of M V (e + 1) p s = some (vrec M V j)) (hG : PG (P p) (T t 2) (tm T t) (slots_of M V (e + 1) p)) : Sim0 R N tl T pl (va_up P p (pg_rm (P p) s (z4 (P p)) (z2 (P p)))) (y_d0 M j e 8) V sn e := by
  obtain ⟨⟨hR, hSt, hH⟩, hT, ⟨hD, hP, hF, hSl, hSh⟩, hPg, ⟨Ls, hC⟩, hPl, hV⟩ := h
  obtain ⟨a1, a2, a3, a4⟩ := d0_ok (V := V) (k := j) (e := e) (by omega) (by omega) hPl
  obtain ⟨g1, g2, g3, g4⟩ := hG.take hsl
  have hSame : Same M (y_d0 M j e 8) V V sn := fun s _ => ⟨by rw [d0_o (by omega)], by rw [d0_o (by omega)], by rw [d0_o (by omega)], rfl⟩
  have hdv : M 7 j / 256 = nI p := by rw [ej]; exact (pl_dv hp hs).1
  have h14 : M 14 j = nI (sz_N (P p) s) := (hG.2.2.2.1 s _ hsl).2.2.2.1
  refine ⟨⟨hR, ?_, fun c hcc => ?_⟩, ?_, ⟨⟨fun q hq => ?_, hD.2⟩, fun q hq hql => ?_, ?_, ?_, y_d0_sh hSh rfl⟩, fun q hq => ?_, ⟨Ls, fun t' ht htl => ?_⟩, a1, fun q hq t' ht e' => ?_⟩
  · unfold StI
    rw [d0_o (by omega), d0_o (by omega), d0_o (by omega)]
    exact hSt
  · rw [d0_o (j := 16) (by omega), mcell_cg (d0_o (by omega)) (d0_o (by omega)) (d0_o (by omega))]
    exact ⟨cok_same hSame (Nat.le_refl _) (hH c hcc).1, (hH c hcc).2⟩
  · unfold TabS
    rw [d0_o (j := 0) (by omega), d0_o (j := 1) (by omega), d0_o (j := 2) (by omega)]
    exact hT
  · have : q ≠ p := fun w => by rw [w, t4] at hq; cases hq
    rw [va_up_ne _ _ this]
    exact hD.1 q hq
  · by_cases w : q = p
    · rw [w, va_up_self]; exact g1.1
    · rw [va_up_ne _ _ w]; exact hP q hq hql
  · unfold F_ok
    rw [d0_o (j := 5) (by omega)]
    exact hF
  · unfold Sl_ok sl
    rw [d0_o (j := 4) (by omega)]
    exact hSl
  · rw [d0_o (j := 3) (by omega), d0_o (j := 4) (by omega), d0_o (j := 5) (by omega), a3, a4, hdv]
    obtain ⟨b1, b2⟩ := hPg q hq
    by_cases w : q = p
    · rw [w, va_up_self, g2 0 (by omega), g2 1 (by omega), g2 2 (by omega), g3, g4, if_pos rfl, if_pos rfl]
      rw [w] at b1 b2
      refine ⟨b1, ?_⟩
      rcases b2 with b2 | ⟨t', c1, c2, c3, c4, c5, c6, c7, c8⟩
      · exact Or.inl b2
      · refine Or.inr ⟨t', c1, c2, c3, c4, c5, c6, by rw [c7], ?_⟩
        rw [← c8, h14, ← nI_add, ← hG.1.2.2.1]
        grind
    · have hne : ¬ nI p = nI q := fun z => w ((nI_eq (by omega) (by omega)).mp z).symm
      rw [va_up_ne _ _ w, if_neg hne, if_neg hne, Int32.sub_zero, Int32.add_zero]
      exact ⟨b1, b2⟩
  · unfold Chain
    rw [d0_o (j := 2) (by omega), d0_o (j := 3) (by omega), d0_o (j := 5) (by omega)]
    exact hC t' ht htl
  · rw [d0_o (j := 3) (by omega)] at e'
    by_cases w : q = p
    · have : t' = t := by
        rw [w, t2] at e'
        exact ((nI_eq (by omega) (by omega)).mp e').symm
      have es : slots_of (y_d0 M j e 8) V e p = va_up (slots_of M V (e + 1) p) s none := by
        funext s'
        by_cases z : s' = s
        · rw [z, va_up_self]
          unfold slots_of
          rw [if_pos hs, a2 _ (by omega), if_pos ej]
        · rw [va_up_ne _ _ z]
          unfold slots_of
          by_cases hs' : s' < 256
          · rw [if_pos hs', if_pos hs', a2 _ (by omega), if_neg]
            rw [ej]
            intro y
            have := (nI_eq (by omega) (by omega)).mp y
            omega
          · rw [if_neg hs', if_neg hs']
      rw [w, va_up_self, this, es]
      exact g1
    · have es : slots_of (y_d0 M j e 8) V e q = slots_of M V (e + 1) q := by
        funext s'
        unfold slots_of
        by_cases hs' : s' < 256
        · rw [if_pos hs', if_pos hs', a2 _ (by omega), if_neg]
          rw [ej]
          intro y
          have := (nI_eq (by omega) (by omega)).mp y
          omega
        · rw [if_neg hs', if_neg hs']
      rw [va_up_ne _ _ w, es]
      exact hV q hq t' ht e'
-- ===== chains without one page =====
theorem Lk_mem {F : Nat → Int32} {c : Nat} (hc : c < 60) : ∀ (l : List Nat) (a q : Nat), (∀ x ∈ a :: l, x < 60) → Lk F (a :: l) → q ∈ a :: l → F q = nI c → c ∈ l
  | [], a, q, h, hL, hq, e => by
    have : q = a := by simpa using hq
    rw [this] at e
    have hL : F a = -1 := hL
    rw [hL] at e
    exact absurd e.symm (nI_m1 (by omega))
  | b :: l, a, q, h, hL, hq, e => by
    have hL : F a = nI b ∧ Lk F (b :: l) := hL
    have hb : b < 60 := h b (List.mem_cons_of_mem _ List.mem_cons_self)
    rcases List.mem_cons.mp hq with w | w
    · rw [w, hL.1] at e
      rw [← (nI_eq (by omega) (by omega)).mp e]
      exact List.mem_cons_self
    · exact List.mem_cons_of_mem _ (Lk_mem hc l b q (fun x hx => h x (List.mem_cons_of_mem _ hx)) hL.2 w e)
theorem Lk_pred {F : Nat → Int32} {p i : Nat} {r : List Nat} : ∀ (l1 : List Nat) (q : Nat), (∀ x ∈ l1 ++ i :: p :: r, x < 60) → (l1 ++ i :: p :: r).Nodup → Lk F (l1 ++ i :: p :: r) → q ∈ l1 ++ i :: p :: r → F q = nI p → q = i
  | [], q, h, hn, hL, hq, e => by
    have hL : F i = nI p ∧ Lk F (p :: r) := hL
    rcases List.mem_cons.mp hq with w | w
    · exact w
    · have hp : p < 60 := h p (List.mem_cons_of_mem _ List.mem_cons_self)
      have := Lk_mem hp r p q (fun x hx => h x (List.mem_cons_of_mem _ hx)) hL.2 w e
      have hn : (i :: p :: r).Nodup := hn
      exact absurd this (List.nodup_cons.mp (List.nodup_cons.mp hn).2).1
  | a :: l1, q, h, hn, hL, hq, e => by
    have hn : (a :: (l1 ++ i :: p :: r)).Nodup := hn
    have hp : p < 60 := h p (by simp)
    have hL2 : Lk F (l1 ++ i :: p :: r) := Lk_suf [a] _ hL
    rcases List.mem_cons.mp hq with w | w
    · exfalso
      cases l1 with
      | nil =>
        have hL : F a = nI i ∧ Lk F (i :: p :: r) := hL
        rw [w, hL.1] at e
        have : i = p := (nI_eq (by have := h i (by simp); omega) (by omega)).mp e
        have hn2 : (i :: p :: r).Nodup := (List.nodup_cons.mp hn).2
        exact (List.nodup_cons.mp hn2).1 (by rw [this]; exact List.mem_cons_self)
      | cons b l2 =>
        have hL : F a = nI b ∧ Lk F (b :: (l2 ++ i :: p :: r)) := hL
        rw [w, hL.1] at e
        have : b = p := (nI_eq (by have := h b (by simp); omega) (by omega)).mp e
        have hn2 : (b :: (l2 ++ i :: p :: r)).Nodup := (List.nodup_cons.mp hn).2
        exact (List.nodup_cons.mp hn2).1 (by rw [this]; simp)
    · exact Lk_pred l1 q (fun x hx => h x (List.mem_cons_of_mem _ hx)) (List.nodup_cons.mp hn).2 hL2 w e
theorem Lk_rm {F F' : Nat → Int32} {p i : Nat} {r : List Nat} (hi : F' i = F p) : ∀ (l1 : List Nat), (∀ q ∈ l1, F' q = F q) → (∀ q ∈ r, F' q = F q) → Lk F (l1 ++ i :: p :: r) → Lk F' (l1 ++ i :: r)
  | [], _, h2, hL => by
    have hL : F i = nI p ∧ Lk F (p :: r) := hL
    cases r with
    | nil => exact hi.trans hL.2
    | cons b r => exact ⟨hi.trans hL.2.1, Lk_cg _ h2 hL.2.2⟩
  | [a], h1, h2, hL => ⟨(h1 a List.mem_cons_self).trans hL.1, Lk_rm hi [] (fun q hq => by cases hq) h2 hL.2⟩
  | a :: b :: l1, h1, h2, hL => ⟨(h1 a List.mem_cons_self).trans hL.1, Lk_rm hi (b :: l1) (fun q hq => h1 q (List.mem_cons_of_mem _ hq)) h2 hL.2⟩
theorem tl_ok {p : Nat} {t : Int32} : ∀ (d q0 : Nat) (M : aR), M 5 p ≠ nI p → (∀ j, j ≠ 5 → y_tl p t d q0 M j = M j) ∧ ∀ q, y_tl p t d q0 M 5 q = if (q0 ≤ q ∧ q < q0 + d) ∧ M 3 q = t ∧ M 5 q = nI p then M 5 p else M 5 q
  | 0, q0, M, _ => ⟨fun _ _ => rfl, fun q => by rw [if_neg (by omega)]; rfl⟩
  | d + 1, q0, M, hp => by
    have u : y_tl p t (d + 1) q0 M = y_tl p t d (q0 + 1) (y_t1 p t q0 M) := rfl
    have o1 : ∀ j, j ≠ 5 → y_t1 p t q0 M j = M j := fun j hj => by unfold y_t1; rw [va_up_ne _ _ hj]
    have o5 : ∀ q, y_t1 p t q0 M 5 q = if q = q0 then (if M 3 q0 = t ∧ M 5 q0 = nI p then M 5 p else M 5 q0) else M 5 q := by
      intro q
      unfold y_t1
      rw [va_up_self]
      by_cases e : q = q0
      · rw [if_pos e, e, pk_us]
      · rw [if_neg e, pk_un e]
    have o5p : y_t1 p t q0 M 5 p = M 5 p := by
      rw [o5]
      by_cases e : p = q0
      · rw [if_pos e, if_neg (fun w => hp (by rw [e] at *; exact w.2)), e]
      · rw [if_neg e]
    obtain ⟨i1, i2⟩ := tl_ok (t := t) d (q0 + 1) (y_t1 p t q0 M) (by rw [o5p]; exact hp)
    rw [u]
    refine ⟨fun j hj => (i1 j hj).trans (o1 j hj), fun q => ?_⟩
    rw [i2 q, o5p, o1 3 (by decide), o5 q]
    by_cases e : q = q0
    · rw [if_pos e, if_neg (by omega), e]
      by_cases hc : M 3 q0 = t ∧ M 5 q0 = nI p
      · rw [if_pos hc, if_pos ⟨by omega, hc⟩]
      · rw [if_neg hc, if_neg (fun w => hc w.2)]
    · rw [if_neg e]
      by_cases hc : M 3 q = t ∧ M 5 q = nI p
      · by_cases hr : q0 + 1 ≤ q ∧ q < q0 + 1 + d
        · rw [if_pos ⟨hr, hc⟩, if_pos ⟨by omega, hc⟩]
        · rw [if_neg (fun w => hr w.1), if_neg (fun w => by omega)]
      · rw [if_neg (fun w => hc w.2), if_neg (fun w => hc w.2)]
theorem vn_N (M : aR) (p : Int32) : ∀ n, ∃ c, c ≤ n ∧ y_vn M p n = nI c ∧ (c = 0 → ∀ j, j < n → M 7 j / 256 ≠ p)
  | 0 => ⟨0, Nat.le_refl _, rfl, fun _ j h => absurd h (by omega)⟩
  | n + 1 => by
    obtain ⟨c, h1, h2, h3⟩ := vn_N M p n
    have u : y_vn M p (n + 1) = if M 7 n / 256 = p then y_vn M p n + 1 else y_vn M p n := rfl
    rw [u]
    by_cases h : M 7 n / 256 = p
    · rw [if_pos h, h2, nI_1]
      exact ⟨c + 1, by omega, rfl, fun w => absurd w (by omega)⟩
    · rw [if_neg h]
      refine ⟨c, by omega, h2, fun w j hj => ?_⟩
      by_cases e : j = n
      · rw [e]; exact h
      · exact h3 w j (by omega)
theorem vn_0 {M : aR} {p : Int32} {n : Nat} (hn : n ≤ 514) (h : y_vn M p n = 0) : ∀ j, j < n → M 7 j / 256 ≠ p := by
  obtain ⟨c, h1, h2, h3⟩ := vn_N M p n
  have : c = 0 := (nI_eq (b := 0) (by omega) (by omega)).mp (h2.symm.trans h)
  exact h3 this
