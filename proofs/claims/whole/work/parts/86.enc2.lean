-- ===== into the bytes =====
def fitB (Z : Nat → Int32) : Prop := ∀ i, i < 496 → fits .byte (.int (Z (5 + i))) = true
def ED (Z Z' : Nat → Int32) (lo hi : Nat) : Prop := (∀ j, j < 5 → Z' j = Z j) ∧ (∀ j, j < lo ∨ hi ≤ j → by_N Z' j = by_N Z j) ∧ (fitB Z → fitB Z')
theorem ED.rf {Z : Nat → Int32} {lo hi : Nat} : ED Z Z lo hi := ⟨fun _ _ => rfl, fun _ _ => rfl, fun h => h⟩
theorem ED.tr {Z Z1 Z2 : Nat → Int32} {lo hi : Nat} (h1 : ED Z Z1 lo hi) (h2 : ED Z1 Z2 lo hi) : ED Z Z2 lo hi := ⟨fun j hj => (h2.1 j hj).trans (h1.1 j hj), fun j hj => (h2.2.1 j hj).trans (h1.2.1 j hj), fun h => h2.2.2 (h1.2.2 h)⟩
theorem ED.mono {Z Z' : Nat → Int32} {lo hi lo' hi' : Nat} (h : ED Z Z' lo hi) (h1 : lo' ≤ lo) (h2 : hi ≤ hi') : ED Z Z' lo' hi' := ⟨h.1, fun j hj => h.2.1 j (by omega), h.2.2⟩
theorem fit8 (z : Int8) : fits .byte (.int z.toInt32) = true := by
  have h1 := Int8.le_toInt z
  have h2 := Int8.toInt_lt z
  show (decide ((-128 : Int32) ≤ z.toInt32) && decide (z.toInt32 ≤ 127)) = true
  rw [Bool.and_eq_true, decide_eq_true_eq, decide_eq_true_eq, Int32.le_iff_toInt_le, Int32.le_iff_toInt_le, Int8.toInt_toInt32, show (-128 : Int32).toInt = -128 from rfl, show (127 : Int32).toInt = 127 from rfl]
  omega
theorem wr_fit {Z : Nat → Int32} {a n : Nat} {v : Int64} (h : fitB Z) : ∀ k, fitB (pg_wr Z a n v k)
  | 0 => h
  | k + 1 => by
    intro i hi
    show fits .byte (.int (pg_w1 (pg_wr Z a n v k) (a + n - 1 - k) (pg_vb v k) (5 + i))) = true
    unfold pg_w1
    by_cases ht : a + n - 1 - k < 496
    · rw [if_pos ht]
      by_cases e : i = a + n - 1 - k
      · rw [e, pk_us]
        exact fit8 _
      · rw [pk_un (by omega)]
        exact wr_fit h k i hi
    · rw [if_neg ht]
      exact wr_fit h k i hi
theorem ED_wr {Z : Nat → Int32} {a n : Nat} {v : Int64} (ha : a + n ≤ 496) (hn : n ≤ 8) : ED Z (pg_wr Z a n v n) a (a + n) := ⟨fun j hj => pg_wr_lo _ _ _ _ _ _ hj, fun j hj => by_wr_out ha hn (by omega), fun h => wr_fit h n⟩
theorem lo_256 (x : Int32) : x.toInt64.toBitVec.toNat % 256 = x.toBitVec.toNat % 256 := by
  obtain ⟨a, ha, e⟩ := wb_of x.toInt64
  have e2 : x = nI a := by rw [← lN_i, ← e, Int32.toInt32_toInt64]
  rw [e, wb_tn ha, e2, nI_m256]
theorem by_wr1 {Z : Nat → Int32} {a : Nat} {v : Int64} (ha : a < 496) : by_N (pg_wr Z a 1 v 1) a = v.toBitVec.toNat % 256 := by
  rw [by_wr' (by omega) (by omega), if_pos (by omega), show a + 1 - 1 - a = 0 by omega]
  unfold bv
  rw [Nat.pow_zero, Nat.div_one]
theorem dtxt_at {R : aR} {c i : Nat} (h : i < (dtxt R c).length) : (dtxt R c).getD i 0 = (R 2 (c * 31 + i)).toBitVec.toNat % 256 := by
  have h2 : i < (R 1 c).toNatClampNeg := by
    unfold dtxt at h
    rw [List.length_map, List.length_range] at h
    exact h
  unfold dtxt
  rw [List.getD_eq_getElem?_getD, List.getElem?_map, List.getElem?_range h2]
  rfl
theorem lt_at {R : aR} {c i : Nat} (hc : c < 8) (h : HOK R) (hk : R 0 c = 2) (hi : i < (dtxt R c).length) : h_lt R (nI c) (nI i) = nI ((dtxt R c).getD i 0) ∧ (dtxt R c).getD i 0 < 256 := by
  obtain ⟨n, hn, en⟩ := (h c hc).2
  have hi2 := hi
  rw [dtxt_len hn en] at hi2
  have e : h_ln R (nI c) = nI n := by
    unfold h_ln
    rw [h_kd_nI hc, if_pos hk, nI_clamp (by omega), en]
  refine ⟨?_, by rw [dtxt_at hi]; exact Nat.mod_lt _ (by decide)⟩
  unfold h_lt
  rw [e, if_neg (fun q => by
    rcases q with q | q
    · exact nI_pos (by omega) q
    · exact absurd ((nI_leI (by omega) (by omega)).mp q) (by omega)), nI_clamp (by omega), nI_clamp (by omega), dtxt_at hi, ← i32_m256]
  obtain ⟨a, ha, ea⟩ := wb_of32 (R 2 (c * 31 + i) &&& 255)
  rw [ea]
  show nI a = nI (BitVec.ofNat 32 a).toNat
  rw [BitVec.toNat_ofNat, Nat.mod_eq_of_lt ha]
theorem p_tx_ok {R : aR} {c a : Nat} {Z : Nat → Int32} (hc : c < 8) (h : HOK R) (hk : R 0 c = 2) (ha : a + 1 + (dtxt R c).length ≤ 496) : ∀ i, i ≤ (dtxt R c).length → ED Z (p_tx R c a (dtxt R c).length Z i) a (a + 1 + i) ∧ by_N (p_tx R c a (dtxt R c).length Z i) a = (dtxt R c).length ∧ ∀ j, j < i → by_N (p_tx R c a (dtxt R c).length Z i) (a + 1 + j) = (dtxt R c).getD j 0
  | 0, _ => by
    obtain ⟨n, hn, en⟩ := (h c hc).2
    have hl := dtxt_len hn en
    refine ⟨ED_wr (by omega) (by omega), ?_, fun j hj => absurd hj (by omega)⟩
    show by_N (pg_wr Z a 1 (nI (dtxt R c).length).toInt64 1) a = _
    rw [by_wr1 (by omega), tn_64 (by omega), Nat.mod_eq_of_lt (by omega)]
  | i + 1, hi => by
    obtain ⟨h1, h2, h3⟩ := p_tx_ok (Z := Z) hc h hk ha i (by omega)
    have hw : ED (p_tx R c a (dtxt R c).length Z i) (p_tx R c a (dtxt R c).length Z (i + 1)) (a + 1 + i) (a + 1 + i + 1) := ED_wr (by omega) (by omega)
    obtain ⟨e1, e2⟩ := lt_at hc h hk (show i < (dtxt R c).length by omega)
    refine ⟨(h1.mono (Nat.le_refl _) (by omega)).tr (hw.mono (by omega) (by omega)), (hw.2.1 a (by omega)).trans h2, fun j hj => ?_⟩
    by_cases e : j = i
    · subst e
      show by_N (pg_wr (p_tx R c a (dtxt R c).length Z j) (a + 1 + j) 1 (h_lt R (nI c) (nI j)).toInt64 1) (a + 1 + j) = _
      rw [by_wr1 (by omega), e1, tn_64 (Nat.lt_of_lt_of_le e2 (by decide)), Nat.mod_eq_of_lt e2]
    · exact (hw.2.1 _ (by omega)).trans (h3 j (by omega))
def scell (y : Int32) (q : cv) : cv := match q with
  | some (.inl v) => some (.inl (if y = 1 then v else if v = 0 then 0 else 1))
  | q => q
theorem dcell_0 {R : aR} {N : aN} {c : Nat} : dcell R N c = none ↔ R 0 c = 0 := by
  unfold dcell
  by_cases h : R 0 c = 0
  · rw [if_pos h]; exact ⟨fun _ => h, fun _ => rfl⟩
  · rw [if_neg h]
    refine ⟨fun q => ?_, fun q => absurd q h⟩
    by_cases h2 : R 0 c = 2
    · rw [if_pos h2] at q; cases q
    · rw [if_neg h2] at q; cases q
theorem scell_0 {y : Int32} {q : cv} : (scell y q).isSome = q.isSome := by
  match q with
  | none => rfl
  | some (.inl v) => rfl
  | some (.inr l) => rfl
theorem p_cell {R : aR} {N : aN} {y : Int32} {c a : Nat} {Z : Nat → Int32} (hc : c < 8) (h : HOK R) (h0 : R 0 c ≠ 0) (hs : (R 0 c = 2) ↔ (y = 2)) (ha : a + csz y (scell y (dcell R N c)) ≤ 496) : ED Z (p_cZ R N y c a Z) a (a + csz y (scell y (dcell R N c))) ∧ CE (by_N (p_cZ R N y c a Z)) a y (scell y (dcell R N c)) ∧ p_cA R y c a = a + csz y (scell y (dcell R N c)) ∧ cfit y (scell y (dcell R N c)) := by
  unfold p_cZ p_cA
  by_cases h2 : R 0 c = 2
  · have hy := hs.mp h2
    have h21 : ¬ y = 1 := by rw [hy]; decide
    have e : dcell R N c = some (.inr (dtxt R c)) := by
      unfold dcell
      rw [if_neg h0, if_pos h2]
    rw [e] at ha ⊢
    have ha : a + (1 + (dtxt R c).length) ≤ 496 := ha
    obtain ⟨n, hn, en⟩ := (h c hc).2
    have hl := dtxt_len hn en
    have ep : p_ln R c = (dtxt R c).length := by
      unfold p_ln h_ln
      rw [h_kd_nI hc, if_pos h2, nI_clamp (by omega), en, nI_clamp (by omega), hl]
    rw [if_neg h21, if_pos hy, if_neg h21, if_pos hy, ep]
    obtain ⟨t1, t2, t3⟩ := p_tx_ok (Z := Z) (a := a) hc h h2 (by omega) (dtxt R c).length (Nat.le_refl _)
    have es : csz y (scell y (some (.inr (dtxt R c)))) = 1 + (dtxt R c).length := rfl
    rw [es]
    exact ⟨t1.mono (Nat.le_refl _) (by omega), ⟨t2, t3⟩, by omega, hy, by omega⟩
  · have hy : ¬ y = 2 := fun q => h2 (hs.mpr q)
    have h1 : R 0 c = 1 := by
      rcases (h c hc).1 with q | q | q
      · exact absurd q h0
      · exact q
      · exact absurd q h2
    have e : dcell R N c = some (.inl (N c)) := by
      unfold dcell
      rw [if_neg h0, if_neg h2]
    have en : h_nm R N (nI c) = N c := by
      unfold h_nm
      rw [h_kd_nI hc, if_pos h1, nI_clamp (by omega)]
    rw [e] at ha
    rw [e, en]
    by_cases y1 : y = 1
    · have es : scell y (some (.inl (N c))) = some (.inl (N c)) := by
        show some (Sum.inl (if y = 1 then N c else if N c = 0 then 0 else 1)) = some (Sum.inl (N c))
        rw [if_pos y1]
      rw [es] at ha ⊢
      have ez : csz y (some (.inl (N c))) = 8 := by
        show (if y = 1 then 8 else 1) = 8
        rw [if_pos y1]
      rw [ez] at ha ⊢
      rw [if_pos y1, if_pos y1]
      refine ⟨ED_wr ha (by omega), ?_, rfl, hy, fun q => absurd y1 q⟩
      show if y = 1 then _ else _
      rw [if_pos y1, rd_wr ha (by omega)]
      exact Nat.mod_eq_of_lt (BitVec.isLt _)
    · have es : scell y (some (.inl (N c))) = some (.inl (if N c = 0 then 0 else 1)) := by
        show some (Sum.inl (if y = 1 then N c else if N c = 0 then 0 else 1)) = some (Sum.inl (if N c = 0 then 0 else 1))
        rw [if_neg y1]
      rw [es] at ha ⊢
      have ez : ∀ v, csz y (some (.inl v)) = 1 := by
        intro v
        show (if y = 1 then 8 else 1) = 1
        rw [if_neg y1]
      rw [ez] at ha ⊢
      rw [if_neg y1, if_neg hy, if_neg y1, if_neg hy]
      refine ⟨ED_wr ha (by omega), ?_, rfl, hy, fun _ => ?_⟩
      · show if y = 1 then _ else _
        rw [if_neg y1, by_wr1 (by omega)]
        by_cases n0 : N c = 0
        · rw [if_pos n0]; rfl
        · rw [if_neg n0]; rfl
      · by_cases n0 : N c = 0
        · rw [if_pos n0]; exact Or.inl rfl
        · rw [if_neg n0]; exact Or.inr rfl
theorem p_hZ_ok {R : aR} {N : aN} {x : Int32} (h : HOK R) (g : Nat → cv) (m : Nat) (hm : m ≤ 8) (hg : ∀ c, c < m → g c = scell (dg x c) (dcell R N c)) (hs : ∀ c, c < m → R 0 c ≠ 0 → ((R 0 c = 2) ↔ (dg x c = 2))) (st : Nat) (hst : st + csum x g m ≤ 496) : ∀ (d c : Nat) (Z : Nat → Int32), c + d = m → ED Z (p_hZ R N x d c (st + csum x g c) Z) (st + csum x g c) (st + csum x g m) ∧ ∀ c', c ≤ c' → c' < m → cfit (dg x c') (g c') ∧ CE (by_N (p_hZ R N x d c (st + csum x g c) Z)) (st + csum x g c') (dg x c') (g c')
  | 0, c, Z, hd => ⟨ED.rf, fun c' q1 q2 => absurd q1 (by omega)⟩
  | d + 1, c, Z, hd => by
    have es : csum x g (c + 1) = csum x g c + csz (dg x c) (g c) := rfl
    show ED Z (if R 0 c = 0 then p_hZ R N x d (c + 1) (st + csum x g c) Z else p_hZ R N x d (c + 1) (p_cA R (dg x c) c (st + csum x g c)) (p_cZ R N (dg x c) c (st + csum x g c) Z)) _ _ ∧ ∀ c', c ≤ c' → c' < m → cfit (dg x c') (g c') ∧ CE (by_N (if R 0 c = 0 then p_hZ R N x d (c + 1) (st + csum x g c) Z else p_hZ R N x d (c + 1) (p_cA R (dg x c) c (st + csum x g c)) (p_cZ R N (dg x c) c (st + csum x g c) Z))) _ _ _
    have hgc := hg c (by omega)
    by_cases h0 : R 0 c = 0
    · have e0 : g c = none := by rw [hgc, dcell_0.mpr h0]; rfl
      rw [e0] at es
      have es : csum x g (c + 1) = csum x g c := es
      have ih := p_hZ_ok h g m hm hg hs st hst d (c + 1) Z (by omega)
      rw [es] at ih
      rw [if_pos h0]
      refine ⟨ih.1, fun c' q1 q2 => ?_⟩
      by_cases e : c' = c
      · rw [e, e0]; exact ⟨trivial, trivial⟩
      · exact ih.2 c' (by omega) q2
    · have hl := csum_lt (x := x) (g := g) (c := c) (m := m) (by omega)
      rw [if_neg h0]
      have pc := p_cell (N := N) (y := dg x c) (a := st + csum x g c) (Z := Z) (by omega) h h0 (hs c (by omega) h0) (by rw [← hgc]; omega)
      rw [← hgc] at pc
      obtain ⟨p1, p2, p3, p4⟩ := pc
      have ih := p_hZ_ok h g m hm hg hs st hst d (c + 1) (p_cZ R N (dg x c) c (st + csum x g c) Z) (by omega)
      rw [p3, show st + csum x g c + csz (dg x c) (g c) = st + csum x g (c + 1) by rw [es]; omega]
      have hle := csum_le (x := x) (g := g) (c := c + 1) (m := m) (by omega)
      refine ⟨(p1.mono (Nat.le_refl _) (by omega)).tr (ih.1.mono (by omega) (Nat.le_refl _)), fun c' q1 q2 => ?_⟩
      by_cases e : c' = c
      · rw [e]
        exact ⟨p4, CE_cg (fun i hi => ih.1.2.1 _ (by omega)) p2⟩
      · exact ih.2 c' (by omega) q2
theorem p_hF_bt {R : aR} : ∀ (d c : Nat) (f : Int32) (i : Nat), c + d ≤ 8 → i < 32 → bt (p_hF R d c f) i = (bt f i || (decide (c ≤ i ∧ i < c + d) && !decide (R 0 i = 0)))
  | 0, c, f, i, _, _ => by
    rw [decide_eq_false (by omega)]
    simp [p_hF]
  | d + 1, c, f, i, hd, hi => by
    show bt (p_hF R d (c + 1) (if R 0 c = 0 then f else f ||| ((1 : Int32) <<< (nI c &&& 31)))) i = _
    rw [p_hF_bt d (c + 1) _ i (by omega) hi]
    have h1 : bt ((1 : Int32) <<< (nI c &&& 31)) i = decide (i = c) := by
      rw [b_shl c (by omega) _ hi]
      by_cases e : i = c
      · rw [e, Nat.sub_self]; simp; decide
      · by_cases hci : c ≤ i
        · have hb : ∀ j, j < 32 → 0 < j → bt 1 j = false := by decide +kernel
          rw [hb (i - c) (by omega) (by omega)]
          simp [e]
        · simp [hci, e]
    by_cases h0 : R 0 c = 0
    · rw [if_pos h0]
      by_cases e : i = c
      · subst e
        simp [h0]
      · rw [show decide (c + 1 ≤ i ∧ i < c + 1 + d) = decide (c ≤ i ∧ i < c + (d + 1)) from decide_eq_decide.mpr (by omega)]
    · rw [if_neg h0, b_or, h1]
      by_cases e : i = c
      · subst e
        simp [h0]
      · rw [show decide (c + 1 ≤ i ∧ i < c + 1 + d) = decide (c ≤ i ∧ i < c + (d + 1)) from decide_eq_decide.mpr (by omega)]
        simp [e]
theorem p_hF_ok {R : aR} {m c : Nat} (hm : m ≤ 8) (hc : c < m) : ((p_hF R m 0 0).toInt64.toBitVec.toNat % 256).testBit c = !decide (R 0 c = 0) := by
  rw [lo_256, show (256 : Nat) = 2 ^ 8 from rfl, Nat.testBit_mod_two_pow]
  have h := p_hF_bt (R := R) m 0 0 c (by omega) (by omega)
  rw [b_0, decide_eq_true (show 0 ≤ c ∧ c < 0 + m by omega)] at h
  have h : (p_hF R m 0 0).toBitVec.toNat.testBit c = (false || (true && !decide (R 0 c = 0))) := h
  rw [h]
  simp
  omega
