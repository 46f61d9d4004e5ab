-- ===== the hand =====
theorem in_eq {n : Nat} (hn : n + 1 < 2 ^ 31) (c : Int32) : d_in c (nI (n + 1)) = m_in c 0 (nI n) := by
  unfold d_in m_in
  congr 1
  refine decide_eq_decide.mpr ?_
  rw [Int32.lt_iff_toInt_lt, Int32.le_iff_toInt_le, nI_toInt hn, nI_toInt (by omega)]
  omega
def ck (q : cv) : Int32 := match q with
  | none => 0
  | some (.inl _) => 1
  | some (.inr _) => 2
def cw (q : cv) : Int64 := match q with
  | none => 0
  | some (.inl v) => v
  | some (.inr l) => lN l.length
theorem dcell_ck {R : aR} {N : aN} {c : Nat} (h : HOK R) (hc : c < 8) : R 0 c = ck (dcell R N c) := by
  unfold dcell
  rcases (h c hc).1 with e | e | e
  · rw [if_pos e, e]; rfl
  · rw [if_neg (by rw [e]; decide), if_neg (by rw [e]; decide), e]; rfl
  · rw [if_neg (by rw [e]; decide), if_pos e, e]; rfl
theorem mcell_ck {M : aR} {V : aN} (w : Int32) : (if w = 0 then (0 : Int32) else if y_tx M w = true then 2 else 1) = ck (mcell M V w) := by
  unfold mcell
  by_cases h : w = 0
  · rw [if_pos h, if_pos h]; rfl
  · rw [if_neg h, if_neg h]
    have e : y_tx M w = decide (0 ≤ M 19 (so w)) := by
      unfold y_tx
      rw [decide_eq_false h]
      rfl
    rw [e]
    by_cases h2 : 0 ≤ M 19 (so w)
    · rw [decide_eq_true h2, if_pos rfl, if_pos h2]; rfl
    · rw [decide_eq_false h2, if_neg (by decide), if_neg h2]
      by_cases h3 : 0 < w
      · rw [if_pos h3]; rfl
      · rw [if_neg h3]; rfl
theorem sim_kind : lk_kind Sim := by
  intro k R N tl T pl P M V c hk h
  obtain ⟨h0, -, -, ⟨hR, hSt, hH⟩, -⟩ := h
  unfold h_kd y_kd
  rw [in_eq (n := 7) (by decide) c]
  cases hi : m_in c 0 (nI 7) with
  | false => rfl
  | true =>
    obtain ⟨i, hi8, rfl⟩ := m_in_of (by decide) hi
    rw [if_pos rfl, if_pos rfl, nI_clamp (by omega)]
    rw [mcell_ck (V := V), ← (hH i hi8).2]
    exact dcell_ck hR hi8
theorem dcell_cw {R : aR} {N : aN} {c : Nat} (h : HOK R) (hc : c < 8) : d_val R N (nI c) = cw (dcell R N c) := by
  unfold d_val h_nm h_ln dcell
  rw [h_kd_nI hc, nI_clamp (by omega)]
  rcases (h c hc).1 with e | e | e
  · rw [if_neg (by rw [e]; decide), if_neg (by rw [e]; decide), if_pos e]; rfl
  · rw [if_pos e, if_pos e, if_neg (by rw [e]; decide), if_neg (by rw [e]; decide)]; rfl
  · rw [if_neg (by rw [e]; decide), if_pos e, if_pos e, if_neg (by rw [e]; decide), if_pos e]
    obtain ⟨n, hn, en⟩ := (h c hc).2
    show (R 1 c).toInt64 = lN (dtxt R c).length
    rw [dtxt_len hn en, en, nI_l (by omega)]
theorem mcell_cw {M : aR} {V : aN} {sn c : Nat} (hS : StI M sn) (hsn : sn < 515) (h : cok M sn (M 16 c)) : y_va M V c = cw (mcell M V (M 16 c)) := by
  unfold y_va mcell
  have es : hs M c = so (M 16 c) := rfl
  rw [es]
  obtain ⟨-, hle, -⟩ := cok_so hsn h
  by_cases h0 : M 16 c = 0
  · rw [if_pos h0, if_pos h0]; rfl
  · rw [if_neg h0, if_neg h0]
    by_cases h1 : 0 ≤ M 19 (so (M 16 c))
    · rw [if_pos h1, if_pos h1]
      obtain ⟨n, l, -, -, hl, -, e21, -⟩ := hS.text hle h1
      show _ = lN (mtxt M V (so (M 16 c))).length
      rw [mtxt_len e21 hl, e21, nI_l (by omega)]
    · rw [if_neg h1, if_neg h1]
      by_cases h2 : 0 < M 16 c
      · rw [if_pos h2, if_pos h2]; rfl
      · rw [if_neg h2, if_neg h2]; rfl
theorem sim_value : lk_value Sim := by
  intro k R N tl T pl P M V c hk h
  obtain ⟨h0, ⟨-, hs⟩, -, ⟨hR, hSt, hH⟩, -⟩ := h
  unfold y_val
  cases hi : m_in c 0 (nI 7) with
  | false =>
    unfold d_val h_kd
    rw [in_eq (n := 7) (by decide) c, hi]
    rfl
  | true =>
    obtain ⟨i, hi8, rfl⟩ := m_in_of (by decide) hi
    rw [if_pos rfl, nI_clamp (by omega), dcell_cw hR hi8, mcell_cw hSt (by omega) (hH i hi8).1, (hH i hi8).2]
theorem mtxt_at {M : aR} {V : aN} {s i : Nat} (h : i < (mtxt M V s).length) : (mtxt M V s).getD i 0 = mtl M V s i := by
  have h2 : i < (M 21 s).toNatClampNeg := by
    unfold mtxt at h
    rw [List.length_map, List.length_range] at h
    exact h
  unfold mtxt
  rw [List.getD_eq_getElem?_getD, List.getElem?_map, List.getElem?_range h2]
  rfl
theorem sim_letter : lk_letter Sim := by
  intro k R N tl T pl P M V c i hk h
  obtain ⟨h0, ⟨-, hs9⟩, -, ⟨hR, hSt, hH⟩, -⟩ := h
  have hsn : y_sn M < 515 := by omega
  unfold y_lt
  cases hi : m_in c 0 (nI 7) with
  | false =>
    rw [if_neg (by simp)]
    have e0 : h_ln R c = 0 := by
      unfold h_ln h_kd
      rw [in_eq (n := 7) (by decide) c, hi]
      rfl
    unfold h_lt
    rw [e0, if_pos]
    by_cases q : i < 0
    · exact Or.inl q
    · exact Or.inr (Int32.not_lt.mp q)
  | true =>
    obtain ⟨j, hj8, rfl⟩ := m_in_of (by decide) hi
    rw [nI_clamp (by omega)]
    obtain ⟨hc1, hc2⟩ := hH j hj8
    obtain ⟨-, hle, hso⟩ := cok_so hsn hc1
    have es : hs M j = so (M 16 j) := rfl
    obtain ⟨l1, l2⟩ := ln_otx (N := N) hj8 hR
    cases ht : y_tx M (M 16 j) with
    | false =>
      rw [if_neg (by simp)]
      have e : otx (dcell R N j) = [] := by
        rw [hc2]
        unfold mcell
        unfold y_tx at ht
        by_cases w0 : M 16 j = 0
        · rw [if_pos w0]; rfl
        · rw [if_neg w0]
          rw [decide_eq_false w0] at ht
          have ht : decide (0 ≤ M 19 (so (M 16 j))) = false := ht
          rw [if_neg (of_decide_eq_false ht)]
          by_cases w1 : 0 < M 16 j
          · rw [if_pos w1]; rfl
          · rw [if_neg w1]; rfl
      rw [e] at l1
      unfold h_lt
      rw [l1, if_pos]
      by_cases q : i < 0
      · exact Or.inl q
      · exact Or.inr (Int32.not_lt.mp q)
    | true =>
      have ht0 := ht
      unfold y_tx at ht
      rw [Bool.and_eq_true, decide_eq_true_eq] at ht
      have w0 : ¬ M 16 j = 0 := by simpa using ht.1
      have w1 : (0 : Int32) ≤ M 19 (so (M 16 j)) := ht.2
      obtain ⟨n, l, -, -, hl, -, e21, -⟩ := hSt.text hle w1
      have ed : dcell R N j = some (.inr (mtxt M V (so (M 16 j)))) := by
        rw [hc2]
        unfold mcell
        rw [if_neg w0, if_pos w1]
      have ek : R 0 j = 2 := by rw [dcell_ck (N := N) hR hj8, ed]; rfl
      have edt : dtxt R j = mtxt M V (so (M 16 j)) := by
        have := ed
        unfold dcell at this
        rw [if_neg (by rw [ek]; decide), if_pos ek] at this
        injection this with this
        injection this
      have hlen : (dtxt R j).length = l := by rw [edt, mtxt_len e21 hl]
      rw [ed] at l1
      have l1 : h_ln R (nI j) = nI l := by
        rw [l1]
        show nI (mtxt M V (so (M 16 j))).length = nI l
        rw [mtxt_len e21 hl]
      by_cases hin : m_in i 0 (M 21 (hs M j) - 1) = true
      · rw [if_pos ⟨rfl, rfl, hin⟩]
        have hin2 : (0 : Int32) ≤ i ∧ i ≤ nI l - 1 := by
          unfold m_in at hin
          rw [es, e21, Bool.and_eq_true, decide_eq_true_eq, decide_eq_true_eq] at hin
          exact hin
        obtain ⟨q, hq, rfl⟩ := nI_of (Int32.not_lt.mpr hin2.1)
        have hql : q < l := by
          by_cases l0 : l = 0
          · have : nI q ≤ -1 := by
              have h9 := hin2.2
              rw [l0] at h9
              exact h9
            exact absurd (Int32.le_trans (nI_pos' hq) this) (by decide)
          · have h9 := hin2.2
            rw [show (1 : Int32) = nI 1 from rfl, nI_sb (by omega)] at h9
            have := (nI_leI hq (by omega)).mp h9
            omega
        obtain ⟨r1, -⟩ := mtl_N (V := V) hSt hsn hle w1 e21 hl hql
        rw [es, r1, (lt_at hj8 hR ek (by rw [hlen]; exact hql)).1, edt, mtxt_at (by rw [mtxt_len e21 hl]; exact hql)]
      · rw [if_neg (fun w => hin w.2.2)]
        unfold h_lt
        rw [l1, if_pos]
        by_cases q0 : i < 0
        · exact Or.inl q0
        · obtain ⟨q, hq, rfl⟩ := nI_of q0
          refine Or.inr ?_
          have : ¬ q < l := by
            intro hql
            refine hin ?_
            unfold m_in
            rw [es, e21, show (1 : Int32) = nI 1 from rfl, nI_sb (by omega), decide_eq_true (nI_pos' hq), decide_eq_true ((nI_leI hq (by omega)).mpr (show q ≤ l - 1 by omega))]
            rfl
          exact (nI_leI (by omega) hq).mpr (by omega)
theorem sim_clear : lk_clear Sim := by
  intro k R N tl T pl P M V hk h
  obtain ⟨h0, ⟨s1, s2⟩, ⟨m1, m2⟩, hS⟩ := h
  have c16 : ∀ c, c < 8 → y_cl M 8 16 c = 0 := by
    intro c hc
    unfold y_cl
    rw [va_up_self]
    show (if c < 8 then (0 : Int32) else M 16 c) = 0
    rw [if_pos hc]
  have co : ∀ j, j ≠ 16 → y_cl M 8 j = M j := fun j hj => by unfold y_cl; rw [va_up_ne _ _ hj]
  have es : y_sn (y_cl M 8) = y_sn M := by unfold y_sn; rw [co 17 (by decide)]
  have em : y_mn (y_cl M 8) = y_mn M := by unfold y_mn; rw [co 6 (by decide)]
  refine ⟨by omega, ⟨by rw [es, co 17 (by decide)]; exact s1, by omega⟩, ⟨by rw [em, co 6 (by decide)]; exact m1, by omega⟩, ?_⟩
  rw [es, em]
  have hSame : Same M (y_cl M 8) V V (y_sn M) := fun s _ => ⟨by rw [co 19 (by decide)], by rw [co 20 (by decide)], by rw [co 21 (by decide)], rfl⟩
  refine hS.hand (by omega) (by omega) (Nat.le_refl _) (fun j hj => co j (by omega)) hSame ⟨cl_HOK hS.1.1, ?_, fun c hc => ?_⟩
  · unfold StI
    rw [co 19 (by decide), co 20 (by decide), co 21 (by decide)]
    exact hS.1.2.1
  · rw [c16 c hc, cl_cell hc]
    refine ⟨⟨0, Nat.zero_le _, Or.inl rfl⟩, ?_⟩
    unfold mcell
    rw [if_pos rfl]
theorem step_ok {M : aR} {V : aN} {sn c f : Nat} {n : Int32} {v : Int64} (hS : StI M sn) (hsn : sn + 1 < 515) (hn : (n = -1 ∧ f = 0) ∨ ∃ nn lf, n = nI nn ∧ nn ≤ 8 ∧ f ≤ sn ∧ 0 ≤ M 19 f ∧ M 21 f = nI lf ∧ lf + nn ≤ 31) : StI (y_ce M c (sn + 1) n f) (sn + 1) ∧ Same M (y_ce M c (sn + 1) n f) V (vp_updL V (sn + 1) v) sn ∧ (∀ j, j ≤ 15 → y_ce M c (sn + 1) n f j = M j) ∧ y_ce M c (sn + 1) n f 17 0 = nI (sn + 1) ∧ y_ce M c (sn + 1) n f 16 = upd (M 16) c (nI (sn + 1)) ∧ mcell (y_ce M c (sn + 1) n f) (vp_updL V (sn + 1) v) (nI (sn + 1)) = if n = -1 then some (.inl v) else some (.inr (mtxt M V f ++ (List.range n.toNatClampNeg).map (fun j => bv v.toBitVec.toNat (n.toNatClampNeg - 1 - j)))) := by
  obtain ⟨M', eM⟩ : ∃ M', M' = y_ce M c (sn + 1) n f := ⟨_, rfl⟩
  obtain ⟨V', eV⟩ : ∃ V', V' = vp_updL V (sn + 1) v := ⟨_, rfl⟩
  have c16 : M' 16 = upd (M 16) c (nI (sn + 1)) := by rw [eM]; unfold y_ce; rw [va_up_self]
  have c19 : M' 19 = upd (M 19) (sn + 1) n := by rw [eM]; unfold y_ce y_st; rw [va_up_ne _ _ (by decide), va_up_ne _ _ (by decide), va_up_ne _ _ (by decide), va_up_self]
  have c20 : M' 20 = upd (M 20) (sn + 1) (nI f) := by rw [eM]; unfold y_ce y_st; rw [va_up_ne _ _ (by decide), va_up_ne _ _ (by decide), va_up_self]
  have c21 : M' 21 = upd (M 21) (sn + 1) (if n < 0 then 0 else M 21 f + n) := by rw [eM]; unfold y_ce y_st; rw [va_up_ne _ _ (by decide), va_up_self]
  have c17 : M' 17 0 = nI (sn + 1) := by rw [eM]; unfold y_ce; rw [va_up_ne _ _ (by decide)]; exact y_st_17 _ _ _ _
  have co : ∀ j, j ≤ 15 → M' j = M j := fun j hj => by rw [eM]; unfold y_ce; rw [va_up_ne _ _ (by omega)]; exact y_st_o _ _ _ _ _ (by omega)
  have vo : ∀ s, s ≤ sn → V' s = V s := fun s hs => by rw [eV]; unfold vp_updL; rw [if_neg (by omega)]
  have vn : V' (sn + 1) = v := by rw [eV]; unfold vp_updL; rw [if_pos rfl]
  rw [← eM, ← eV]
  have hSame : Same M M' V V' sn := fun s hs => ⟨by rw [c19, pk_un (by omega)], by rw [c20, pk_un (by omega)], by rw [c21, pk_un (by omega)], vo s hs⟩
  have q0 : ∀ j, (upd (M j) (sn + 1) (0 : Int32)) 0 = M j 0 := fun j => pk_un (by omega)
  have hSt : StI M' (sn + 1) := by
    refine ⟨⟨by rw [c19, pk_un (by omega)]; exact hS.1.1, by rw [c20, pk_un (by omega)]; exact hS.1.2.1, by rw [c21, pk_un (by omega)]; exact hS.1.2.2⟩, fun s h1 h2 => ?_, fun s h1 h2 => ?_⟩
    · by_cases e : s = sn + 1
      · rw [e]
        rcases hn with ⟨e1, e2⟩ | ⟨nn, lf, e1, h8, hf, ht, el, hl⟩
        · exact ⟨0, by omega, by rw [c20, pk_us, e2], Or.inl (by rw [c19, pk_us, e1])⟩
        · refine ⟨f, by omega, by rw [c20, pk_us], Or.inr ⟨nn, lf, h8, by rw [c19, pk_us, e1], by rw [c19, pk_un (by omega)]; exact ht, by rw [c21, pk_un (by omega)]; exact el, hl, ?_⟩⟩
          rw [c21, pk_us, e1, if_neg (nI_pos (by omega)), el, nI_add]
      · obtain ⟨b, hb, eb, q⟩ := hS.2.1 s h1 (by omega)
        refine ⟨b, hb, by rw [c20, pk_un e]; exact eb, ?_⟩
        rcases q with q | ⟨nn, lb, a1, a2, a3, a4, a5, a6⟩
        · exact Or.inl (by rw [c19, pk_un e]; exact q)
        · exact Or.inr ⟨nn, lb, a1, by rw [c19, pk_un e]; exact a2, by rw [c19, pk_un (by omega)]; exact a3, by rw [c21, pk_un (by omega)]; exact a4, a5, by rw [c21, pk_un e]; exact a6⟩
    · rw [c20, pk_un (by omega)]
      exact hS.2.2 s (by omega) h2
  refine ⟨hSt, hSame, co, c17, c16, ?_⟩
  have eso : so (nI (sn + 1)) = sn + 1 := by unfold so; rw [so_pos (by omega), nI_clamp (by omega)]
  unfold mcell
  rw [if_neg (nI_ne0 (by omega) (by omega)), eso, c19, pk_us, vn]
  rcases hn with ⟨e1, e2⟩ | ⟨nn, lf, e1, h8, hf, ht, el, hl⟩
  · have pos : (0 : Int32) < nI (sn + 1) := (nI_ltI (a := 0) (by omega) (by omega)).mpr (by omega)
    rw [e1, if_neg (by decide), if_pos pos, if_pos rfl]
  · have hne : ¬ n = -1 := by
      intro q
      have := nI_pos (n := nn) (by omega)
      rw [← e1, q] at this
      exact this (by decide)
    rw [if_neg hne, e1, if_pos (nI_pos' (by omega)), nI_clamp (by omega)]
    have := mtxt_new (V := V') (s := sn + 1) (b := f) (n := nn) (lb := lf) hSt (by omega) (Nat.le_refl _) (by omega) (by rw [c20, pk_us]) h8 (by rw [c19, pk_us, e1]) (by rw [c19, pk_un (by omega)]; exact ht) (by rw [c21, pk_un (by omega)]; exact el) hl (by rw [c21, pk_us, e1, if_neg (nI_pos (by omega)), el, nI_add])
    rw [this, vn, mtxt_same hS (by omega) hSame hf]
theorem sim_cell : lk_cell Sim := by
  intro k R N tl T pl P M V c v hk h
  refine ⟨in_eq (n := 7) (by decide) c, ?_⟩
  have h9 := (sim_base k R N tl T pl P M V hk h).2
  cases hi : m_in c 0 (nI 7) with
  | false =>
    have hd : d_in c (nI 8) = false := (in_eq (n := 7) (by decide) c).trans hi
    unfold h_snR h_snN y_clM y_clV
    rw [hd, hi]
    exact h9
  | true =>
    obtain ⟨i, hi8, rfl⟩ := m_in_of (by decide) hi
    obtain ⟨h0, ⟨s1, s2⟩, ⟨m1, m2⟩, hS⟩ := h
    obtain ⟨a1, a2, a3, a4, a5, a6⟩ := step_ok (V := V) (c := i) (n := -1) (f := 0) (v := v) hS.1.2.1 (by omega) (Or.inl ⟨rfl, rfl⟩)
    rw [if_pos rfl] at a6
    unfold y_clM y_clV
    rw [hi, if_pos rfl, if_pos rfl, nI_clamp (by omega)]
    generalize y_ce M i (y_sn M + 1) (-1) 0 = M' at *
    generalize vp_updL V (y_sn M + 1) v = V' at *
    have es : y_sn M' = y_sn M + 1 := by
      show (M' 17 0).toNatClampNeg = _
      rw [a4, nI_clamp (by omega)]
    have em : y_mn M' = y_mn M := by unfold y_mn; rw [a3 6 (by omega)]
    refine ⟨by omega, ⟨by rw [es]; exact a4, by omega⟩, ⟨by rw [em, a3 6 (by omega)]; exact m1, by omega⟩, ?_⟩
    rw [es, em]
    refine hS.hand (by omega) (by omega) (by omega) a3 a2 ⟨snR_HOK hi8 hS.1.1, a1, fun c' hc' => ?_⟩
    rw [a5, sn_cell hi8]
    by_cases e : c' = i
    · rw [e, pk_us, if_pos rfl]
      exact ⟨⟨_, Nat.le_refl _, Or.inl rfl⟩, a6.symm⟩
    · rw [pk_un e, if_neg e]
      exact ⟨cok_same a2 (by omega) (hS.1.2.2 c' hc').1, by rw [mcell_same hS.1.2.1 (by omega) a2 (hS.1.2.2 c' hc').1]; exact (hS.1.2.2 c' hc').2⟩
