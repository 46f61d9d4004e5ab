-- ===== the reference's steps: a code is a cell's value =====
def so (w : Int32) : Nat := (y_so w).toNatClampNeg
theorem ng_1 : ∀ s, s < 515 → 0 < s → (-(nI s) < 0 ∧ -(-(nI s)) = nI s ∧ ¬ 0 < -(nI s) ∧ ¬ -(nI s) = 0) := by decide +kernel
theorem so_pos {s : Nat} (h : s < 515) : y_so (nI s) = nI s := by
  unfold y_so
  rw [if_neg (nI_pos (by omega))]
theorem so_neg {s : Nat} (h : s < 515) : y_so (-(nI s)) = nI s := by
  unfold y_so
  by_cases h0 : 0 < s
  · rw [if_pos (ng_1 s h h0).1, (ng_1 s h h0).2.1]
  · have : s = 0 := by omega
    subst this
    decide
def StI (M : aR) (sn : Nat) : Prop := (M 19 0 = 0 ∧ M 20 0 = 0 ∧ M 21 0 = 0) ∧ (∀ s, 1 ≤ s → s ≤ sn → ∃ b, b < s ∧ M 20 s = nI b ∧ (M 19 s = -1 ∨ ∃ n lb, n ≤ 8 ∧ M 19 s = nI n ∧ 0 ≤ M 19 b ∧ M 21 b = nI lb ∧ lb + n ≤ 31 ∧ M 21 s = nI (lb + n))) ∧ ∀ s, sn < s → s < 515 → M 20 s = 0
def cok (M : aR) (sn : Nat) (w : Int32) : Prop := ∃ s, s ≤ sn ∧ (w = nI s ∨ (w = -(nI s) ∧ M 19 s < 0))
theorem cok_so {M : aR} {sn : Nat} {w : Int32} (hsn : sn < 515) (h : cok M sn w) : y_so w = nI (so w) ∧ so w ≤ sn ∧ (w = nI (so w) ∨ (w = -(nI (so w)) ∧ M 19 (so w) < 0)) := by
  obtain ⟨s, hs, h⟩ := h
  have e : y_so w = nI s := by
    rcases h with h | h
    · rw [h, so_pos (by omega)]
    · rw [h.1, so_neg (by omega)]
  have e2 : so w = s := by unfold so; rw [e, nI_clamp (by omega)]
  rw [e2]
  exact ⟨e, hs, h⟩
def mtl (M : aR) (V : aN) (s i : Nat) : Nat := (y_lb M V (nI i) (y_lw M (nI i) 515 s)).toNatClampNeg
def mtxt (M : aR) (V : aN) (s : Nat) : List Nat := (List.range (M 21 s).toNatClampNeg).map (mtl M V s)
def mcell (M : aR) (V : aN) (w : Int32) : cv := if w = 0 then none else if 0 ≤ M 19 (so w) then some (.inr (mtxt M V (so w))) else if 0 < w then some (.inl (V (so w))) else some (.inl (if V (so w) = 0 then 0 else 1))
theorem StI.text {M : aR} {sn : Nat} (h : StI M sn) {s : Nat} (hs : s ≤ sn) (ht : 0 ≤ M 19 s) : ∃ n l, n ≤ 8 ∧ n ≤ l ∧ l ≤ 31 ∧ M 19 s = nI n ∧ M 21 s = nI l ∧ (l - n = 0 ∨ ∃ b, b < s ∧ M 20 s = nI b ∧ 0 ≤ M 19 b ∧ M 21 b = nI (l - n)) ∧ (1 ≤ s → ∃ b, b < s ∧ M 20 s = nI b ∧ 0 ≤ M 19 b ∧ M 21 b = nI (l - n)) := by
  by_cases h0 : s = 0
  · subst h0
    exact ⟨0, 0, by omega, by omega, by omega, h.1.1, h.1.2.2, Or.inl rfl, fun q => absurd q (by omega)⟩
  · obtain ⟨b, hb, e, q⟩ := h.2.1 s (by omega) hs
    rcases q with q | ⟨n, lb, h1, h2, h3, h4, h5, h6⟩
    · rw [q] at ht; exact absurd ht (by decide)
    · have : lb + n - n = lb := by omega
      exact ⟨n, lb + n, h1, by omega, h5, h2, h6, Or.inr ⟨b, hb, e, h3, by rw [this]; exact h4⟩, fun _ => ⟨b, hb, e, h3, by rw [this]; exact h4⟩⟩
theorem nI_sb {a b : Nat} (h : b ≤ a) : nI a - nI b = nI (a - b) := by
  obtain ⟨q, rfl⟩ : ∃ q, a = q + b := ⟨a - b, by omega⟩
  rw [show q + b - b = q by omega, ← nI_add, Int32.add_sub_cancel]
/-- the walk back: fuel is no matter, and where it ends -/
theorem lw_end {M : aR} {sn : Nat} (h : StI M sn) (hsn : sn < 515) (i : Nat) (hi : i < 31) : ∀ (f s : Nat), s ≤ f → s ≤ sn → 0 ≤ M 19 s → (∀ d, s ≤ d → y_lw M (nI i) d s = y_lw M (nI i) s s) ∧ (∀ l, M 21 s = nI l → l ≤ 31 → i < l → ∃ n l', n ≤ 8 ∧ n ≤ l' ∧ l' ≤ 31 ∧ M 21 (y_lw M (nI i) s s) = nI l' ∧ l' - n ≤ i ∧ i < l') := by
  intro f
  induction f with
  | zero =>
    intro s hs hs2 ht
    have : s = 0 := by omega
    subst this
    refine ⟨fun d _ => ?_, fun l el hl hil => ?_⟩
    · cases d with
      | zero => rfl
      | succ d =>
        show (if nI i < M 21 0 - M 19 0 then _ else 0) = 0
        rw [h.1.1, h.1.2.2, show (0 : Int32) - 0 = 0 from rfl, if_neg (nI_pos (n := i) (by omega))]
    · rw [h.1.2.2] at el
      have : (0 : Nat) = l := (nI_eq (a := 0) (by omega) (by omega)).mp el
      omega
  | succ f ih =>
    intro s hs hs2 ht
    by_cases h0 : s = 0
    · exact ih s (by omega) hs2 ht
    · obtain ⟨n, l, hn, hnl, hl, e19, e21, -, hb⟩ := h.text hs2 ht
      obtain ⟨b, hbs, e20, htb, e21b⟩ := hb (by omega)
      obtain ⟨g, rfl⟩ : ∃ g, s = g + 1 := ⟨s - 1, by omega⟩
      have eb : bs M (g + 1) = b := by unfold bs; rw [e20, nI_clamp (by omega)]
      obtain ⟨ih1, ih2⟩ := ih b (by omega) (by omega) htb
      have u : ∀ d, y_lw M (nI i) (d + 1) (g + 1) = if i < l - n then y_lw M (nI i) d b else g + 1 := by
        intro d
        show (if nI i < M 21 (g + 1) - M 19 (g + 1) then y_lw M (nI i) d (bs M (g + 1)) else g + 1) = _
        rw [e21, e19, nI_sb hnl, eb]
        by_cases hc : i < l - n
        · rw [if_pos hc, if_pos ((nI_ltI (by omega) (by omega)).mpr hc)]
        · rw [if_neg hc, if_neg (fun q => hc ((nI_ltI (by omega) (by omega)).mp q))]
      refine ⟨fun d hd => ?_, fun l2 el hl2 hil => ?_⟩
      · obtain ⟨d, rfl⟩ : ∃ q, d = q + 1 := ⟨d - 1, by omega⟩
        rw [u, u]
        by_cases hc : i < l - n
        · rw [if_pos hc, if_pos hc, ih1 d (by omega), ih1 g (by omega)]
        · rw [if_neg hc, if_neg hc]
      · have : l2 = l := by
          rw [e21] at el
          exact ((nI_eq (by omega) (by omega)).mp el).symm
        subst this
        rw [u]
        by_cases hc : i < l2 - n
        · rw [if_pos hc, ih1 g (by omega)]
          exact ih2 (l2 - n) e21b (by omega) hc
        · rw [if_neg hc]
          exact ⟨n, l2, hn, hnl, hl, e21, by omega, hil⟩
theorem wb_sshr {a k : Nat} (ha : a < 2 ^ 64) (hk : k ≤ 56) : (lN a >>> ((nI k).toInt64 &&& 63)) &&& 255 = lN (a / 2 ^ k % 256) := by
  rw [wb_c k (by omega)]
  apply wb_inj
  rw [Int64.toBitVec_and, Int64.toBitVec_shiftRight]
  have e : (lN k).toBitVec.smod 64 = BitVec.ofNat 64 k := wb_sm k (by omega)
  rw [e]
  show (BitVec.sshiftRight (lN a).toBitVec (BitVec.ofNat 64 k).toNat) &&& (255#64) = BitVec.ofNat 64 _
  rw [BitVec.toNat_ofNat, Nat.mod_eq_of_lt (by omega), wb_tb]
  apply BitVec.eq_of_getLsbD_eq
  intro i hi
  rw [BitVec.getLsbD_and, BitVec.getLsbD_sshiftRight, BitVec.getLsbD_ofNat, BitVec.getLsbD_ofNat, BitVec.getLsbD_ofNat]
  have h255 : (255 : Nat).testBit i = decide (i < 8) := Nat.testBit_two_pow_sub_one 8 i
  rw [h255, show (256 : Nat) = 2 ^ 8 from rfl, Nat.testBit_mod_two_pow, Nat.testBit_div_two_pow]
  by_cases h8 : i < 8
  · simp only [h8, decide_true, Bool.and_true, Bool.true_and]
    rw [if_pos (by omega)]
    simp [hi, show k + i < 64 by omega, Nat.add_comm]
  · simp [h8]
theorem y_lb_N {M : aR} {V : aN} {s l i : Nat} (e : M 21 s = nI l) (hl : l ≤ 31) (hi : i < l) (h7 : l - 1 - i ≤ 7) : y_lb M V (nI i) s = nI (bv (V s).toBitVec.toNat (l - 1 - i)) := by
  unfold y_lb bv
  have e1 : (8 : Int32) * (M 21 s - 1 - nI i) = nI (8 * (l - 1 - i)) := by
    rw [e, show (1 : Int32) = nI 1 from rfl, nI_sb (by omega), nI_sb (by omega), show (8 : Int32) = nI 8 from rfl]
    exact (Int32.ofNat_mul 8 (l - 1 - i)).symm
  obtain ⟨a, ha, ea⟩ := wb_of (V s)
  rw [e1, ea, wb_sshr ha (by omega), lN_i, wb_tn ha, pw_256]
theorem bv_lt (v k : Nat) : bv v k < 256 := Nat.mod_lt _ (by decide)
/-- the letter at i of a text -/
theorem mtl_N {M : aR} {V : aN} {sn s l i : Nat} (h : StI M sn) (hsn : sn < 515) (hs : s ≤ sn) (ht : 0 ≤ M 19 s) (e : M 21 s = nI l) (hl : l ≤ 31) (hi : i < l) : y_lb M V (nI i) (y_lw M (nI i) 515 s) = nI (mtl M V s i) ∧ mtl M V s i < 256 := by
  obtain ⟨h1, h2⟩ := lw_end h hsn i (by omega) s s (Nat.le_refl s) hs ht
  obtain ⟨n, l', a1, a2, a3, a4, a5, a6⟩ := h2 l e hl hi
  have e1 := h1 515 (by omega)
  have e2 := y_lb_N (V := V) a4 a3 a6 (by omega)
  have e3 : mtl M V s i = bv (V (y_lw M (nI i) s s)).toBitVec.toNat (l' - 1 - i) := by
    unfold mtl
    rw [e1, e2, nI_clamp (Nat.lt_of_lt_of_le (bv_lt _ _) (by decide))]
  rw [e3, e1, e2]
  exact ⟨rfl, bv_lt _ _⟩
theorem mtxt_len {M : aR} {V : aN} {s l : Nat} (e : M 21 s = nI l) (hl : l ≤ 31) : (mtxt M V s).length = l := by
  unfold mtxt
  rw [List.length_map, List.length_range, e, nI_clamp (by omega)]
/-- a text step: the text before it, and its own bytes -/
theorem mtxt_new {M : aR} {V : aN} {sn s b n lb : Nat} (h : StI M sn) (hsn : sn < 515) (hs : s ≤ sn) (hbs : b < s) (e20 : M 20 s = nI b) (hn : n ≤ 8) (e19 : M 19 s = nI n) (htb : 0 ≤ M 19 b) (e21b : M 21 b = nI lb) (hl : lb + n ≤ 31) (e21 : M 21 s = nI (lb + n)) : mtxt M V s = mtxt M V b ++ (List.range n).map (fun j => bv (V s).toBitVec.toNat (n - 1 - j)) := by
  have ht : 0 ≤ M 19 s := by rw [e19]; exact nI_pos' (by omega)
  have eb : bs M s = b := by unfold bs; rw [e20, nI_clamp (by omega)]
  have u : ∀ i, i < 31 → y_lw M (nI i) 515 s = if i < lb then y_lw M (nI i) 514 b else s := by
    intro i hi
    show (if nI i < M 21 s - M 19 s then y_lw M (nI i) 514 (bs M s) else s) = _
    rw [e21, e19, nI_sb (by omega), eb, show lb + n - n = lb by omega]
    by_cases hc : i < lb
    · rw [if_pos hc, if_pos ((nI_ltI (by omega) (by omega)).mpr hc)]
    · rw [if_neg hc, if_neg (fun q => hc ((nI_ltI (by omega) (by omega)).mp q))]
  unfold mtxt
  rw [e21, e21b, nI_clamp (by omega), nI_clamp (by omega), List.range_add, List.map_append, List.map_map]
  congr 1
  · refine List.map_congr_left (fun i hi => ?_)
    have hi := List.mem_range.mp hi
    obtain ⟨h1, -⟩ := lw_end h hsn i (by omega) b b (Nat.le_refl b) (by omega) htb
    unfold mtl
    rw [u i (by omega), if_pos hi, h1 514 (by omega), h1 515 (by omega)]
  · refine List.map_congr_left (fun i hi => ?_)
    have hi := List.mem_range.mp hi
    show mtl M V s (lb + i) = _
    unfold mtl
    rw [u (lb + i) (by omega), if_neg (by omega), y_lb_N e21 hl (by omega) (by omega), nI_clamp (Nat.lt_of_lt_of_le (bv_lt _ _) (by decide)), show lb + n - 1 - (lb + i) = n - 1 - i by omega]
theorem mtxt_0 {M : aR} {V : aN} {sn : Nat} (h : StI M sn) : mtxt M V 0 = [] := by
  unfold mtxt
  rw [h.1.2.2]
  rfl
-- steps that stand are never changed
def Same (M M' : aR) (V V' : aN) (sn : Nat) : Prop := ∀ s, s ≤ sn → M' 19 s = M 19 s ∧ M' 20 s = M 20 s ∧ M' 21 s = M 21 s ∧ V' s = V s
theorem lw_same {M M' : aR} {V V' : aN} {sn : Nat} (h : StI M sn) (hsn : sn < 515) (hs : Same M M' V V' sn) (i : Int32) : ∀ (d s : Nat), s ≤ sn → y_lw M' i d s = y_lw M i d s ∧ y_lw M i d s ≤ sn := by
  intro d
  induction d with
  | zero => intro s hs; exact ⟨rfl, hs⟩
  | succ d ih =>
    intro s hsl
    obtain ⟨e1, e2, e3, -⟩ := hs s hsl
    have eb : bs M' s = bs M s := by unfold bs; rw [e2]
    have hb : bs M s ≤ sn := by
      unfold bs
      by_cases h0 : s = 0
      · rw [h0, h.1.2.1]; exact Nat.zero_le _
      · obtain ⟨b, hb, e, -⟩ := h.2.1 s (by omega) hsl
        rw [e, nI_clamp (by omega)]
        omega
    obtain ⟨i1, i2⟩ := ih (bs M s) hb
    show (if i < M' 21 s - M' 19 s then y_lw M' i d (bs M' s) else s) = (if i < M 21 s - M 19 s then y_lw M i d (bs M s) else s) ∧ (if i < M 21 s - M 19 s then y_lw M i d (bs M s) else s) ≤ sn
    rw [e1, e3, eb, i1]
    refine ⟨rfl, ?_⟩
    by_cases hc : i < M 21 s - M 19 s
    · rw [if_pos hc]; exact i2
    · rw [if_neg hc]; exact hsl
theorem mtxt_same {M M' : aR} {V V' : aN} {sn s : Nat} (h : StI M sn) (hsn : sn < 515) (hs : Same M M' V V' sn) (hsl : s ≤ sn) : mtxt M' V' s = mtxt M V s := by
  unfold mtxt
  rw [(hs s hsl).2.2.1]
  refine List.map_congr_left (fun i hi => ?_)
  unfold mtl
  obtain ⟨e1, e2⟩ := lw_same h hsn hs (nI i) 515 s hsl
  rw [e1]
  unfold y_lb
  rw [(hs _ e2).2.2.1, (hs _ e2).2.2.2]
theorem mcell_same {M M' : aR} {V V' : aN} {sn : Nat} {w : Int32} (h : StI M sn) (hsn : sn < 515) (hs : Same M M' V V' sn) (hw : cok M sn w) : mcell M' V' w = mcell M V w := by
  obtain ⟨-, hsl, -⟩ := cok_so hsn hw
  unfold mcell
  rw [(hs _ hsl).1, (hs _ hsl).2.2.2, mtxt_same h hsn hs hsl]
theorem cok_same {M M' : aR} {V V' : aN} {sn sn' : Nat} {w : Int32} (hs : Same M M' V V' sn) (hle : sn ≤ sn') (hw : cok M sn w) : cok M' sn' w := by
  obtain ⟨s, h1, h2⟩ := hw
  refine ⟨s, by omega, ?_⟩
  rcases h2 with h2 | h2
  · exact Or.inl h2
  · exact Or.inr ⟨h2.1, by rw [(hs s h1).1]; exact h2.2⟩
