-- ===== a version's bytes =====
def csz (y : Int32) (q : cv) : Nat := match q with
  | none => 0
  | some (.inl _) => if y = 1 then 8 else 1
  | some (.inr l) => 1 + l.length
def cfit (y : Int32) (q : cv) : Prop := match q with
  | none => True
  | some (.inl v) => y ≠ 2 ∧ (y ≠ 1 → v = 0 ∨ v = 1)
  | some (.inr l) => y = 2 ∧ l.length ≤ 31
def csum (x : Int32) (g : Nat → cv) : Nat → Nat
  | 0 => 0
  | c + 1 => csum x g c + csz (dg x c) (g c)
def CE (b : bF) (a : Nat) (y : Int32) (q : cv) : Prop := match q with
  | none => True
  | some (.inl v) => if y = 1 then rdb b a 8 = v.toBitVec.toNat else b a = v.toBitVec.toNat
  | some (.inr l) => b a = l.length ∧ ∀ i, i < l.length → b (a + 1 + i) = l.getD i 0
def CB (b : bF) (x : Int32) (m : Nat) (g : Nat → cv) : Prop := (∀ c, c < m → (b 14).testBit c = (g c).isSome) ∧ ∀ c, c < m → cfit (dg x c) (g c) ∧ CE b (16 + csum x g c) (dg x c) (g c)
theorem csum_le {x : Int32} {g : Nat → cv} {c : Nat} : ∀ {m : Nat}, c ≤ m → csum x g c ≤ csum x g m
  | 0, h => by rw [show c = 0 by omega]; exact Nat.le_refl _
  | m + 1, h => by
    by_cases e : c = m + 1
    · rw [e]; exact Nat.le_refl _
    · exact Nat.le_trans (csum_le (m := m) (by omega)) (Nat.le_add_right _ _)
theorem csum_lt {x : Int32} {g : Nat → cv} {c m : Nat} (h : c < m) : csum x g c + csz (dg x c) (g c) ≤ csum x g m := csum_le (x := x) (g := g) (c := c + 1) (m := m) h
theorem CE_cg {b b' : bF} {a a' : Nat} {y : Int32} {q : cv} (h : ∀ i, i < csz y q → b' (a' + i) = b (a + i)) (hc : CE b a y q) : CE b' a' y q := by
  match q, h, hc with
  | none, _, _ => trivial
  | some (.inl v), h, hc =>
    show if y = 1 then _ else _
    have hc : if y = 1 then rdb b a 8 = v.toBitVec.toNat else b a = v.toBitVec.toNat := hc
    have h : ∀ i, i < (if y = 1 then 8 else 1) → b' (a' + i) = b (a + i) := h
    by_cases e : y = 1
    · rw [if_pos e] at hc h ⊢
      rw [← hc]
      exact rdb_cg 8 h
    · rw [if_neg e] at hc h ⊢
      rw [← hc]
      exact h 0 (by omega)
  | some (.inr l), h, hc =>
    have h : ∀ i, i < 1 + l.length → b' (a' + i) = b (a + i) := h
    refine ⟨(h 0 (by omega)).trans hc.1, fun i hi => ?_⟩
    have := h (1 + i) (by omega)
    rw [← Nat.add_assoc, ← Nat.add_assoc] at this
    rw [this]
    exact hc.2 i hi
theorem CB_cg {b b' : bF} {x : Int32} {m : Nat} {g : Nat → cv} (h : ∀ i, 14 ≤ i → i < 16 + csum x g m → b' i = b i) (hc : CB b x m g) : CB b' x m g := by
  refine ⟨fun c hcm => ?_, fun c hcm => ⟨(hc.2 c hcm).1, CE_cg (fun i hi => ?_) (hc.2 c hcm).2⟩⟩
  · rw [h 14 (by omega) (by omega)]
    exact hc.1 c hcm
  · have := csum_lt (x := x) (g := g) hcm
    exact h _ (by omega) (by omega)
-- ===== out of the bytes =====
theorem u_bit_N : ∀ q, q < 256 → ∀ c, c < 8 → u_bit (nI q) c = q.testBit c := by decide +kernel
theorem u_tx_AL {Z : Nat → Int32} {c a : Nat} {R : aR} {N : aN} (hc : c < 8) (h : HOK R) (h0 : dcell R N c = none) : ∀ i, i ≤ 31 → AL (h_mt R (nI c)) (u_tx Z c a R i) c ((List.range i).map (fun j => by_N Z (a + 1 + j)))
  | 0, _ => AL.rf (mt_AL (N := N) hc h).1
  | i + 1, hi => by
    have ih := u_tx_AL (Z := Z) (a := a) hc h h0 i (by omega)
    obtain ⟨m1, m2, -, m4, -⟩ := mt_AL (N := N) hc h
    rw [h0] at m4
    have h1 := al_AL (x := (pg_rd Z (a + 1 + i) 1).toInt32) hc ih.1 (by rw [ih.2.1]; exact m2) (by rw [ih.2.2.1, m4, List.length_append, List.length_map, List.length_range]; show 0 + i < 31; omega)
    have h2 := ih.tr h1
    have hx : (pg_rd Z (a + 1 + i) 1).toInt32.toBitVec.toNat % 256 = by_N Z (a + 1 + i) := by rw [i32_rd (by omega), rdb_1, nI_m256, Nat.mod_eq_of_lt (by_N_lt _ _)]
    rw [hx] at h2
    rw [List.range_succ, List.map_append]
    exact h2
theorem getD_map_range (f : Nat → Nat) {l : List Nat} (h : ∀ i, i < l.length → f i = l.getD i 0) : (List.range l.length).map f = l := by
  apply List.ext_getElem?
  intro i
  by_cases hi : i < l.length
  · rw [List.getElem?_map, List.getElem?_range hi, List.getElem?_eq_getElem hi]
    show some (f i) = _
    rw [h i hi, List.getD_eq_getElem?_getD, List.getElem?_eq_getElem hi]
    rfl
  · rw [List.getElem?_eq_none (by simp; omega), List.getElem?_eq_none (by omega)]
theorem u_cell {Z : Nat → Int32} {c a : Nat} {y : Int32} {R : aR} {N : aN} {q : cv} (hc : c < 8) (h : HOK R) (h0 : dcell R N c = none) (hq : q.isSome = true) (hf : cfit y q) (he : CE (by_N Z) a y q) : HOK (u_cR Z y c a R) ∧ u_cA Z y a = a + csz y q ∧ ∀ c', c' < 8 → dcell (u_cR Z y c a R) (u_cN Z y c a N) c' = if c' = c then q else dcell R N c' := by
  unfold u_cR u_cN u_cA
  match q, hq, hf, he with
  | some (.inl v), _, hf, he =>
    have hf : y ≠ 2 ∧ (y ≠ 1 → v = 0 ∨ v = 1) := hf
    have he : if y = 1 then rdb (by_N Z) a 8 = v.toBitVec.toNat else by_N Z a = v.toBitVec.toNat := he
    have vv : lN v.toBitVec.toNat = v := wb_inj (by rw [wb_tb]; simp)
    by_cases e : y = 1
    · rw [if_pos e] at he
      rw [if_pos e, if_pos e, if_pos e, lN_rd (by omega), he, vv]
      refine ⟨snR_HOK hc h, ?_, fun c' hc' => sn_cell hc⟩
      show a + 8 = a + (if y = 1 then 8 else 1)
      rw [if_pos e]
    · rw [if_neg e] at he
      rw [if_neg e, if_neg e, if_neg e, if_neg hf.1, if_neg hf.1, if_neg hf.1, lN_rd (by omega), rdb_1, he, vv]
      refine ⟨snR_HOK hc h, ?_, fun c' hc' => sn_cell hc⟩
      show a + 1 = a + (if y = 1 then 8 else 1)
      rw [if_neg e]
  | some (.inr l), _, hf, he =>
    obtain ⟨hy, hl⟩ : y = 2 ∧ l.length ≤ 31 := hf
    obtain ⟨he1, he2⟩ : by_N Z a = l.length ∧ ∀ i, i < l.length → by_N Z (a + 1 + i) = l.getD i 0 := he
    have hn : rd_N Z a 1 = l.length := by rw [rd_rdb, rdb_1, he1]
    have h21 : ¬ y = 1 := by rw [hy]; decide
    rw [if_neg h21, if_neg h21, if_neg h21, if_pos hy, if_pos hy, if_pos hy, hn]
    have hA := u_tx_AL (Z := Z) (a := a) (N := N) hc h h0 l.length hl
    rw [getD_map_range _ he2] at hA
    obtain ⟨m1, m2, m3, m4, m5⟩ := mt_AL (N := N) hc h
    refine ⟨hA.1, by show a + 1 + l.length = a + (1 + l.length); omega, fun c' hc' => ?_⟩
    rw [AL_cell hA m2 hc', m4, h0]
    by_cases e : c' = c
    · rw [if_pos e, if_pos e]; rfl
    · rw [if_neg e, if_neg e, mt_cell hc h, if_neg e]
theorem u_h_ok {Z : Nat → Int32} {x : Int32} {st m : Nat} {g : Nat → cv} (hm : m ≤ 8) (hB : CB (fun i => by_N Z (st + i)) x m g) : ∀ (d c : Nat) (R : aR) (N : aN), c + d ≤ m → HOK R → (∀ c', c ≤ c' → c' < 8 → dcell R N c' = none) → HOK (u_hR Z (nI (by_N Z (st + 14))) x d c (st + 16 + csum x g c) R) ∧ ∀ c', c' < 8 → dcell (u_hR Z (nI (by_N Z (st + 14))) x d c (st + 16 + csum x g c) R) (u_hN Z (nI (by_N Z (st + 14))) x d c (st + 16 + csum x g c) N) c' = if c ≤ c' ∧ c' < c + d then g c' else dcell R N c'
  | 0, c, R, N, _, h, h0 => by
    refine ⟨h, fun c' hc' => ?_⟩
    rw [if_neg (by omega)]
    rfl
  | d + 1, c, R, N, hd, h, h0 => by
    obtain ⟨b1, b2⟩ := hB
    have hbit : u_bit (nI (by_N Z (st + 14))) c = (g c).isSome := by
      rw [u_bit_N _ (by_N_lt _ _) c (by omega)]
      exact b1 c (by omega)
    have es : csum x g (c + 1) = csum x g c + csz (dg x c) (g c) := rfl
    show HOK (if u_bit (nI (by_N Z (st + 14))) c = true then u_hR Z (nI (by_N Z (st + 14))) x d (c + 1) (u_cA Z (dg x c) (st + 16 + csum x g c)) (u_cR Z (dg x c) c (st + 16 + csum x g c) R) else u_hR Z (nI (by_N Z (st + 14))) x d (c + 1) (st + 16 + csum x g c) R) ∧ ∀ c', c' < 8 → dcell (if u_bit (nI (by_N Z (st + 14))) c = true then u_hR Z (nI (by_N Z (st + 14))) x d (c + 1) (u_cA Z (dg x c) (st + 16 + csum x g c)) (u_cR Z (dg x c) c (st + 16 + csum x g c) R) else u_hR Z (nI (by_N Z (st + 14))) x d (c + 1) (st + 16 + csum x g c) R) (if u_bit (nI (by_N Z (st + 14))) c = true then u_hN Z (nI (by_N Z (st + 14))) x d (c + 1) (u_cA Z (dg x c) (st + 16 + csum x g c)) (u_cN Z (dg x c) c (st + 16 + csum x g c) N) else u_hN Z (nI (by_N Z (st + 14))) x d (c + 1) (st + 16 + csum x g c) N) c' = _
    rw [hbit]
    cases hq : (g c).isSome with
    | false =>
      have hg : g c = none := by
        cases hh : g c with
        | none => rfl
        | some q => rw [hh] at hq; cases hq
      rw [hg] at es
      have es : csum x g (c + 1) = csum x g c := es
      have ih := u_h_ok hm ⟨b1, b2⟩ d (c + 1) R N (by omega) h (fun c' q1 q2 => h0 c' (by omega) q2)
      rw [es] at ih
      refine ⟨ih.1, fun c' hc' => ?_⟩
      refine (ih.2 c' hc').trans ?_
      by_cases e : c' = c
      · rw [e, if_neg (by omega), if_pos (by omega), hg]
        exact h0 c (Nat.le_refl c) (by omega)
      · by_cases e2 : c ≤ c' ∧ c' < c + (d + 1)
        · rw [if_pos e2, if_pos (by omega)]
        · rw [if_neg e2, if_neg (by omega)]
    | true =>
      obtain ⟨f1, f2⟩ := b2 c (by omega)
      have f2 : CE (by_N Z) (st + 16 + csum x g c) (dg x c) (g c) := CE_cg (fun i hi => by rw [show st + 16 + csum x g c + i = st + (16 + csum x g c + i) by omega]) f2
      obtain ⟨u1, u2, u3⟩ := u_cell (c := c) (R := R) (N := N) (by omega) h (h0 c (Nat.le_refl c) (by omega)) hq f1 f2
      rw [if_pos rfl, if_pos rfl, u2, show st + 16 + csum x g c + csz (dg x c) (g c) = st + 16 + csum x g (c + 1) by rw [es]; omega]
      have ih := u_h_ok hm ⟨b1, b2⟩ d (c + 1) (u_cR Z (dg x c) c (st + 16 + csum x g c) R) (u_cN Z (dg x c) c (st + 16 + csum x g c) N) (by omega) u1 (fun c' q1 q2 => by rw [u3 c' q2, if_neg (by omega)]; exact h0 c' (by omega) q2)
      refine ⟨ih.1, fun c' hc' => ?_⟩
      rw [ih.2 c' hc', u3 c' hc']
      by_cases e : c' = c
      · rw [if_neg (by omega), if_pos e, if_pos (by omega), e]
      · rw [if_neg e]
        by_cases e2 : c ≤ c' ∧ c' < c + (d + 1)
        · rw [if_pos e2, if_pos (by omega)]
        · rw [if_neg e2, if_neg (by omega)]
theorem u_ok {Z : Nat → Int32} {x : Int32} {st m : Nat} {g : Nat → cv} {R : aR} {N : aN} (hm : m ≤ 8) (hB : CB (fun i => by_N Z (st + i)) x m g) (h : HOK R) : HOK (u_R Z x m st (h_cl R)) ∧ ∀ c, c < 8 → dcell (u_R Z x m st (h_cl R)) (u_N Z x m st N) c = if c < m then g c else none := by
  have e : (pg_rd Z (st + 14) 1).toInt32 = nI (by_N Z (st + 14)) := by rw [i32_rd (by omega), rdb_1]
  have := u_h_ok hm hB m 0 (h_cl R) N (by omega) (cl_HOK h) (fun c' _ q => cl_cell q)
  unfold u_R u_N
  rw [e]
  refine ⟨this.1, fun c hc => ?_⟩
  refine (this.2 c hc).trans ?_
  rw [cl_cell hc]
  by_cases hcm : c < m
  · rw [if_pos hcm, if_pos (by omega)]
  · rw [if_neg hcm, if_neg (by omega)]
