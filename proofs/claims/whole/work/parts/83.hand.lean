-- ===== cells as values: none, a number, a text =====
abbrev cv : Type := Option (Sum Int64 (List Nat))
def dtxt (R : aR) (c : Nat) : List Nat := (List.range (R 1 c).toNatClampNeg).map (fun i => (R 2 (c * 31 + i)).toBitVec.toNat % 256)
def dcell (R : aR) (N : aN) (c : Nat) : cv := if R 0 c = 0 then none else if R 0 c = 2 then some (.inr (dtxt R c)) else some (.inl (N c))
def HOK (R : aR) : Prop := ∀ c, c < 8 → (R 0 c = 0 ∨ R 0 c = 1 ∨ R 0 c = 2) ∧ ∃ n, n ≤ 31 ∧ R 1 c = nI n
theorem HOK.ok {R : aR} (h : HOK R) : h_ok R := fun c hc => (h c hc).2
theorem dtxt_len {R : aR} {c n : Nat} (hn : n ≤ 31) (h : R 1 c = nI n) : (dtxt R c).length = n := by
  unfold dtxt
  rw [List.length_map, List.length_range, h, nI_clamp (by omega)]
theorem dtxt_cg {R R' : aR} {c n : Nat} (hn : n ≤ 31) (h : R 1 c = nI n) (h1 : R' 1 c = R 1 c) (h2 : ∀ i, i < n → R' 2 (c * 31 + i) = R 2 (c * 31 + i)) : dtxt R' c = dtxt R c := by
  unfold dtxt
  rw [h1, h, nI_clamp (by omega)]
  refine List.map_congr_left (fun i hi => ?_)
  rw [h2 i (List.mem_range.mp hi)]
-- a number
theorem snR_HOK {R : aR} {c : Nat} (hc : c < 8) (h : HOK R) : HOK (h_snR R (nI c)) := by
  intro c' hc'
  obtain ⟨h1, h2⟩ := h c' hc'
  unfold h_snR
  rw [d_in_nI hc (by omega), if_pos rfl, nI_clamp (by omega)]
  refine ⟨?_, ?_⟩
  · rw [va_up_self]
    by_cases e : c' = c
    · rw [e, pk_us]; exact Or.inr (Or.inl rfl)
    · rw [pk_un e]; exact h1
  · rw [va_up_ne _ _ (by decide)]; exact h2
theorem sn_cell {R : aR} {N : aN} {c c' : Nat} {v : Int64} (hc : c < 8) : dcell (h_snR R (nI c)) (h_snN N (nI c) v) c' = if c' = c then some (.inl v) else dcell R N c' := by
  unfold dcell h_snR h_snN dtxt
  rw [d_in_nI hc (by omega), if_pos rfl, if_pos rfl, nI_clamp (by omega), va_up_self, va_up_ne _ _ (by decide), va_up_ne _ _ (by decide)]
  by_cases e : c' = c
  · rw [e, pk_us, if_neg (by decide), if_neg (by decide), if_pos rfl]
    unfold vp_updL
    rw [if_pos rfl]
  · rw [pk_un e, if_neg e]
    unfold vp_updL
    rw [if_neg e]
-- all null
theorem cl_HOK {R : aR} (h : HOK R) : HOK (h_cl R) := by
  intro c hc
  unfold h_cl h_fl
  rw [va_up_self, va_up_ne _ _ (by decide)]
  refine ⟨Or.inl ?_, (h c hc).2⟩
  show (if c < 8 then (0 : Int32) else R 0 c) = 0
  rw [if_pos hc]
theorem cl_cell {R : aR} {N : aN} {c : Nat} (hc : c < 8) : dcell (h_cl R) N c = none := by
  unfold dcell h_cl h_fl
  rw [va_up_self]
  show (if (if c < 8 then (0 : Int32) else R 0 c) = 0 then none else _) = none
  rw [if_pos hc, if_pos rfl]
-- a text
def otx (x : cv) : List Nat := match x with
  | some (.inr l) => l
  | _ => []
def AL (R R' : aR) (c : Nat) (l : List Nat) : Prop := HOK R' ∧ R' 0 = R 0 ∧ dtxt R' c = dtxt R c ++ l ∧ ∀ c', c' < 8 → c' ≠ c → dtxt R' c' = dtxt R c'
theorem AL.rf {R : aR} {c : Nat} (h : HOK R) : AL R R c [] := ⟨h, rfl, by rw [List.append_nil], fun _ _ _ => rfl⟩
theorem AL.tr {R R1 R2 : aR} {c : Nat} {l1 l2 : List Nat} (h1 : AL R R1 c l1) (h2 : AL R1 R2 c l2) : AL R R2 c (l1 ++ l2) := ⟨h2.1, h2.2.1.trans h1.2.1, by rw [h2.2.2.1, h1.2.2.1, List.append_assoc], fun c' a b => (h2.2.2.2 c' a b).trans (h1.2.2.2 c' a b)⟩
theorem al_AL {R : aR} {c : Nat} {x : Int32} (hc : c < 8) (h : HOK R) (hk : R 0 c = 2) (hl : (dtxt R c).length < 31) : AL R (h_al R (nI c) x) c [x.toBitVec.toNat % 256] := by
  obtain ⟨n, hn, en⟩ := (h c hc).2
  rw [dtxt_len hn en] at hl
  have e : h_al R (nI c) x = va_up (va_up R 2 (upd (R 2) (c * 31 + n) x.toInt8.toInt32)) 1 (upd (R 1) c (nI (n + 1))) := by
    unfold h_al
    rw [h_kd_nI hc, nI_clamp (by omega), en, if_pos ⟨hk, (nI_ltI (b := 31) (by omega) (by decide)).mpr hl⟩, nI_clamp (by omega), nI_1]
  rw [e]
  have r0 : ∀ A B : Nat → Int32, va_up (va_up R 2 A) 1 B 0 = R 0 := fun A B => by rw [va_up_ne _ _ (by decide), va_up_ne _ _ (by decide)]
  have r1 : ∀ A B : Nat → Int32, va_up (va_up R 2 A) 1 B 1 = B := fun A B => va_up_self _ _ _
  have r2 : ∀ A B : Nat → Int32, va_up (va_up R 2 A) 1 B 2 = A := fun A B => by rw [va_up_ne _ _ (by decide), va_up_self]
  refine ⟨?_, r0 _ _, ?_, ?_⟩
  · intro c' hc'
    rw [r0, r1]
    refine ⟨(h c' hc').1, ?_⟩
    by_cases e : c' = c
    · rw [e, pk_us]; exact ⟨n + 1, by omega, rfl⟩
    · rw [pk_un e]; exact (h c' hc').2
  · unfold dtxt
    rw [r1, r2, pk_us, en, nI_clamp (by omega), nI_clamp (by omega), List.range_succ, List.map_append]
    congr 1
    · refine List.map_congr_left (fun i hi => ?_)
      have := List.mem_range.mp hi
      rw [pk_un (by omega)]
    · show [(upd (R 2) (c * 31 + n) x.toInt8.toInt32 (c * 31 + n)).toBitVec.toNat % 256] = [_]
      rw [pk_us, i8_m256]
  · intro c' hc' hne
    obtain ⟨n', hn', en'⟩ := (h c' hc').2
    refine dtxt_cg hn' en' (by rw [r1, pk_un hne]) (fun i hi => ?_)
    rw [r2, pk_un (by omega)]
theorem mt_AL {R : aR} {N : aN} {c : Nat} (hc : c < 8) (h : HOK R) : HOK (h_mt R (nI c)) ∧ h_mt R (nI c) 0 c = 2 ∧ (∀ c', c' ≠ c → h_mt R (nI c) 0 c' = R 0 c') ∧ dtxt (h_mt R (nI c)) c = otx (dcell R N c) ∧ ∀ c', c' ≠ c → dtxt (h_mt R (nI c)) c' = dtxt R c' := by
  unfold h_mt
  rw [d_in_nI hc (by omega), nI_clamp (by omega)]
  by_cases e : R 0 c = 2
  · rw [if_neg (fun q => q.2 e)]
    refine ⟨h, e, fun _ _ => rfl, ?_, fun _ _ => rfl⟩
    unfold dcell
    rw [if_neg (by rw [e]; decide), if_pos e]
    rfl
  · rw [if_pos ⟨rfl, e⟩]
    have r0 : va_up (va_up R 0 (upd (R 0) c 2)) 1 (upd (R 1) c 0) 0 = upd (R 0) c 2 := by rw [va_up_ne _ _ (by decide), va_up_self]
    have r1 : va_up (va_up R 0 (upd (R 0) c 2)) 1 (upd (R 1) c 0) 1 = upd (R 1) c 0 := va_up_self _ _ _
    have r2 : va_up (va_up R 0 (upd (R 0) c 2)) 1 (upd (R 1) c 0) 2 = R 2 := by rw [va_up_ne _ _ (by decide), va_up_ne _ _ (by decide)]
    refine ⟨?_, by rw [r0, pk_us], fun c' hne => by rw [r0, pk_un hne], ?_, fun c' hne => ?_⟩
    · intro c' hc'
      rw [r0, r1]
      by_cases e2 : c' = c
      · rw [e2, pk_us, pk_us]; exact ⟨Or.inr (Or.inr rfl), 0, by omega, rfl⟩
      · rw [pk_un e2, pk_un e2]; exact h c' hc'
    · have a : dtxt (va_up (va_up R 0 (upd (R 0) c 2)) 1 (upd (R 1) c 0)) c = [] := by
        unfold dtxt
        rw [r1, pk_us]
        rfl
      rw [a]
      unfold dcell
      by_cases e0 : R 0 c = 0
      · rw [if_pos e0]; rfl
      · rw [if_neg e0, if_neg e]; rfl
    · unfold dtxt
      rw [r1, r2, pk_un hne]
theorem tl_AL {c : Nat} {v : Int64} (hc : c < 8) : ∀ (n : Nat) (R : aR), n ≤ 8 → HOK R → R 0 c = 2 → (dtxt R c).length + n ≤ 31 → AL R (d_tl (nI c) v n R) c ((List.range n).map (fun j => bv v.toBitVec.toNat (n - 1 - j)))
  | 0, R, _, h, _, _ => AL.rf h
  | n + 1, R, hn, h, hk, hl => by
    have h1 := al_AL (x := d_vb v n) hc h hk (by omega)
    have h2 := tl_AL (v := v) hc n (h_al R (nI c) (d_vb v n)) (by omega) h1.1 (by rw [h1.2.1]; exact hk) (by rw [h1.2.2.1, List.length_append, List.length_singleton]; omega)
    have h3 := h1.tr h2
    rw [d_vb_N v (by omega)] at h3
    show AL R (d_tl (nI c) v n (h_al R (nI c) (d_vb v n))) c _
    have e : (List.range (n + 1)).map (fun j => bv v.toBitVec.toNat (n + 1 - 1 - j)) = [bv v.toBitVec.toNat n] ++ (List.range n).map (fun j => bv v.toBitVec.toNat (n - 1 - j)) := by
      rw [List.range_succ_eq_map, List.map_cons, List.map_map]
      show _ :: _ = _ :: _
      congr 1
      refine List.map_congr_left (fun i hi => ?_)
      show bv _ (n + 1 - 1 - (i + 1)) = _
      congr 1
      omega
    rw [e]
    exact h3
theorem AL_cell {R R' : aR} {N : aN} {c c' : Nat} {l : List Nat} (h : AL R R' c l) (hk : R 0 c = 2) (hc' : c' < 8) : dcell R' N c' = if c' = c then some (.inr (dtxt R c ++ l)) else dcell R N c' := by
  by_cases e : c' = c
  · rw [if_pos e, e]
    unfold dcell
    rw [h.2.1, if_neg (by rw [hk]; decide), if_pos hk, h.2.2.1]
  · rw [if_neg e]
    unfold dcell
    rw [h.2.1, h.2.2.2 c' hc' e]
theorem mt_cell {R : aR} {N : aN} {c c' : Nat} (hc : c < 8) (h : HOK R) : dcell (h_mt R (nI c)) N c' = if c' = c then some (.inr (otx (dcell R N c))) else dcell R N c' := by
  obtain ⟨h1, h2, h3, h4, h5⟩ := mt_AL (N := N) hc h
  by_cases e : c' = c
  · rw [if_pos e, e, ← h4]
    show dcell (h_mt R (nI c)) N c = _
    generalize h_mt R (nI c) = R1 at h2 ⊢
    unfold dcell
    rw [if_neg (by rw [h2]; decide), if_pos h2]
  · rw [if_neg e]
    unfold dcell
    rw [h3 c' e, h5 c' e]
theorem ln_otx {R : aR} {N : aN} {c : Nat} (hc : c < 8) (h : HOK R) : h_ln R (nI c) = nI (otx (dcell R N c)).length ∧ (otx (dcell R N c)).length ≤ 31 := by
  obtain ⟨n, hn, en⟩ := (h c hc).2
  unfold h_ln dcell
  rw [h_kd_nI hc]
  by_cases e : R 0 c = 2
  · rw [if_pos e, if_neg (by rw [e]; decide), if_pos e, nI_clamp (by omega)]
    show R 1 c = nI (dtxt R c).length ∧ (dtxt R c).length ≤ 31
    rw [dtxt_len hn en]
    exact ⟨en, hn⟩
  · rw [if_neg e]
    by_cases e0 : R 0 c = 0
    · rw [if_pos e0]; exact ⟨rfl, by decide⟩
    · rw [if_neg e0, if_neg e]; exact ⟨rfl, Nat.zero_le _⟩
