-- ===== the reference: the hand =====
theorem y_st_17 (M : Nat → Nat → Int32) (s : Nat) (n : Int32) (f : Nat) : y_st M s n f 17 0 = nI s := by
  unfold y_st
  rw [va_up_ne _ _ (by decide), va_up_ne _ _ (by decide), va_up_ne _ _ (by decide), va_up_self, pk_us]
theorem y_st_o (M : Nat → Nat → Int32) (s : Nat) (n : Int32) (f j : Nat) (h : j ≠ 17 ∧ j ≠ 19 ∧ j ≠ 20 ∧ j ≠ 21) : y_st M s n f j = M j := by
  unfold y_st
  rw [va_up_ne _ _ h.2.2.2, va_up_ne _ _ h.2.2.1, va_up_ne _ _ h.2.1, va_up_ne _ _ h.1]
/-- a step comes, and the cell c of the hand is it -/
def y_ce (M : Nat → Nat → Int32) (c s : Nat) (n : Int32) (f : Nat) : Nat → Nat → Int32 := va_up (y_st M s n f) 16 (upd (M 16) c (nI s))
def y_clM (M : Nat → Nat → Int32) (c : Int32) (s : Nat) : Nat → Nat → Int32 := if m_in c 0 (nI 7) then y_ce M c.toNatClampNeg s (-1) 0 else M
def y_clV (V : Nat → Int64) (c : Int32) (s : Nat) (v : Int64) : Nat → Int64 := if m_in c 0 (nI 7) then vp_updL V s v else V
theorem kX4_cell_wX4 : ∀ w ∈ u_ws RX4 TX4 22, w ∈ wsX4_cell := by decide +kernel
theorem kX4_cell_f56 : Cond.fieldLink RX4 56 "VersionDeskModel" "hand" "[I" ∈ wsX4_cell := by decide +kernel
theorem kX4_cell_f80 : Cond.fieldLink RX4 80 "VersionDeskModel" "steps" "I" ∈ wsX4_cell := by decide +kernel
set_option maxHeartbeats 4000000 in
set_option maxRecDepth 100000 in
/-- cell -/
theorem c_X4_cell (l : Launch) (G : x_G) (ad : Nat → Nat) (D : Nat → Option va_E) (M : Nat → Nat → Int32) (V : Nat → Int64) (c0 : Int32) (v : Int64) (s0 : Nat) (hst : M 17 0 = nI s0) (hs1 : s0 + 1 < 515) : Met l yX4_cell wsX4_cell ({ frames := 2, cells := 0, slots := 0, locals := 42 } : Room) (x_Pc G ad (y_con G ad D M V) [.ref (ad 200), .int c0, .long v]) (x_Qw G ad (y_con G ad D (y_clM M c0 (s0 + 1)) (y_clV V c0 (s0 + 1) v)) (some (.int (zb (m_in c0 0 (nI 7)))))) 0 0 (x_A G) := by
  refine x_met (cc := cX4_cell) (maxL := 4) (ret := (some .boolean)) (by decide) rfl _ (Nat.le_of_ble_eq_true rfl) ?_
  intro p e s m args below meth c C0 hini hK hS ls hl
  have hl : lv_has ls 4 [(0, .ref (ad 200)), (1, .int c0), (2, .long v)] := hl
  obtain ⟨hx, hb, hr, hml, hown, hts, hlk⟩ := id C0
  refine lv_iload_n hx hb dX4_cell_0 rfl (lv_at hl 1 rfl) ?_
  refine x_callr (x_rS C0 hl.1 hK hS (c_X4_isColumn l G ad D M V c0) gX4_cell_X4_isColumn 1 rfl rfl rfl (by decide +kernel) ⟨Nat.le_of_ble_eq_true rfl, Nat.le_of_ble_eq_true rfl⟩ rfl rfl (Nat.le_of_ble_eq_true rfl) dX4_cell_1 ⟨Nat.le_of_ble_eq_true rfl, Nat.le_of_ble_eq_true rfl⟩) ?_
  show W _ _ _ _ _ _ _ _ _ _ _ _ _ _ _ (F0 m 4 ls [.int (zb (m_in c0 0 (nI 7)))])
  refine lv_if_ne (tgt := 9) hx hb dX4_cell_4 (by decide) (fun c4 => ?_) (fun c4 => ?_)
  · have hc := zb_ne c4
    obtain ⟨i, hi, rfl⟩ := m_in_of (n := 7) (by decide) (zb_ne c4)
    have hci : (nI i).toNatClampNeg = i := nI_clamp (by omega)
    refine lv_aload_n hx hb dX4_cell_9 rfl (lv_at hl 0 rfl) ?_
    refine lv_lload_n hx hb dX4_cell_10 rfl (lv_at hl 2 rfl) ?_
    refine lv_iconst (v := (-1)) hx hb dX4_cell_11 (by decide) ?_
    refine lv_iconst (v := 0) hx hb dX4_cell_12 (by decide) ?_
    refine x_callw hS (x_rV C0 hl.1 hK hS (c_X4_step l G ad D M V v (-1) 0 s0 hst hs1 (by omega)) (show y_con G ad D M V 200 = some (x_mo ad M) from rfl) rfl gX4_cell_X4_step 3 rfl rfl rfl (by decide +kernel) ⟨Nat.le_of_ble_eq_true rfl, Nat.le_of_ble_eq_true rfl⟩ rfl rfl (Nat.le_of_ble_eq_true rfl) dX4_cell_13 ⟨Nat.le_of_ble_eq_true rfl, Nat.le_of_ble_eq_true rfl⟩) (fun H locs hS => ?_)
    obtain ⟨M1, eM1⟩ : ∃ zz, zz = y_st M (s0 + 1) (-1) 0 := ⟨_, rfl⟩
    rw [← eM1] at hS
    obtain ⟨V2, eV2⟩ : ∃ zz, zz = vp_updL V (s0 + 1) v := ⟨_, rfl⟩
    rw [← eV2] at hS
    have h17 : M1 17 0 = nI (s0 + 1) := by rw [eM1]; exact y_st_17 _ _ _ _
    show W _ _ _ _ _ _ _ _ _ _ _ _ _ _ _ (F0 m 16 ls [])
    refine lv_aload_n hx hb dX4_cell_16 rfl (lv_at hl 0 rfl) ?_
    refine y_get (j := 16) C0 hK hS (by decide) (by decide) kX4_cell_wX4 kX4_cell_f56 dX4_cell_17 ?_
    refine lv_iload_n hx hb dX4_cell_20 rfl (lv_at hl 1 rfl) ?_
    refine lv_aload_n hx hb dX4_cell_21 rfl (lv_at hl 0 rfl) ?_
    refine y_geti (j := 17) C0 hK hS (by decide) kX4_cell_wX4 kX4_cell_f80 dX4_cell_22 ?_
    rw [h17]
    refine y_iast (j := 16) (i := i) (n := 8) C0 hK hS (by decide) (by decide) (by decide) (by omega) rfl dX4_cell_25 (fun H locs hS => ?_)
    obtain ⟨M3, eM3⟩ : ∃ zz, zz = va_up M1 16 (upd (M1 16) i (nI (s0 + 1))) := ⟨_, rfl⟩
    rw [← eM3] at hS
    have hM3_17 : M3 17 0 = nI (s0 + 1) := by rw [eM3, va_up_ne _ _ (by decide)]; exact h17
    refine lv_iconst (v := 1) hx hb dX4_cell_26 (by decide) ?_
    exact x_wretz C0 hS (by unfold y_clM y_clV; rw [if_pos hc, if_pos hc, hci]; subst_vars; unfold y_ce; rw [y_st_o _ _ _ _ 16 (by decide)]) (by rw [hc]; rfl) rfl dX4_cell_27
  · refine lv_iconst (v := 0) hx hb dX4_cell_7 (by decide) ?_
    exact x_wretz C0 hS (by unfold y_clM y_clV; rw [zb_eq c4]; rfl) (by rw [zb_eq c4]; rfl) rfl dX4_cell_8
def y_fr0 (M : Nat → Nat → Int32) (c : Nat) : Nat := if y_tx M (M 16 c) then hs M c else 0
def y_tk (M : Nat → Nat → Int32) (c n : Int32) : Bool := m_in c 0 (nI 7) && (m_in n 0 (nI 8) && decide (M 21 (y_fr0 M c.toNatClampNeg) + n ≤ 31))
def y_tkM (M : Nat → Nat → Int32) (c n : Int32) (s : Nat) : Nat → Nat → Int32 := if y_tk M c n then y_ce M c.toNatClampNeg s n (y_fr0 M c.toNatClampNeg) else M
def y_tkV (M : Nat → Nat → Int32) (V : Nat → Int64) (c n : Int32) (s : Nat) (v : Int64) : Nat → Int64 := if y_tk M c n then vp_updL V s v else V
theorem kX4_text_wX4 : ∀ w ∈ u_ws RX4 TX4 22, w ∈ wsX4_text := by decide +kernel
theorem kX4_text_f56 : Cond.fieldLink RX4 56 "VersionDeskModel" "hand" "[I" ∈ wsX4_text := by decide +kernel
theorem kX4_text_f69 : Cond.fieldLink RX4 69 "VersionDeskModel" "length" "[I" ∈ wsX4_text := by decide +kernel
theorem kX4_text_f80 : Cond.fieldLink RX4 80 "VersionDeskModel" "steps" "I" ∈ wsX4_text := by decide +kernel
set_option maxHeartbeats 4000000 in
set_option maxRecDepth 100000 in
/-- text -/
theorem c_X4_text (l : Launch) (G : x_G) (ad : Nat → Nat) (D : Nat → Option va_E) (M : Nat → Nat → Int32) (V : Nat → Int64) (c0 n0 : Int32) (v : Int64) (s0 : Nat) (hst : M 17 0 = nI s0) (hs1 : s0 + 1 < 515) (hH : H_ok M) : Met l yX4_text wsX4_text ({ frames := 2, cells := 0, slots := 0, locals := 42 } : Room) (x_Pc G ad (y_con G ad D M V) [.ref (ad 200), .int c0, .long v, .int n0]) (x_Qw G ad (y_con G ad D (y_tkM M c0 n0 (s0 + 1)) (y_tkV M V c0 n0 (s0 + 1) v)) (some (.int (zb (y_tk M c0 n0))))) 0 0 (x_A G) := by
  refine x_met (cc := cX4_text) (maxL := 6) (ret := (some .boolean)) (by decide) rfl _ (Nat.le_of_ble_eq_true rfl) ?_
  intro p e s m args below meth c C0 hini hK hS ls hl
  have hl : lv_has ls 6 [(0, .ref (ad 200)), (1, .int c0), (2, .long v), (4, .int n0)] := hl
  obtain ⟨hx, hb, hr, hml, hown, hts, hlk⟩ := id C0
  refine lv_iload_n hx hb dX4_text_0 rfl (lv_at hl 1 rfl) ?_
  refine x_callr (x_rS C0 hl.1 hK hS (c_X4_isColumn l G ad D M V c0) gX4_text_X4_isColumn 1 rfl rfl rfl (by decide +kernel) ⟨Nat.le_of_ble_eq_true rfl, Nat.le_of_ble_eq_true rfl⟩ rfl rfl (Nat.le_of_ble_eq_true rfl) dX4_text_1 ⟨Nat.le_of_ble_eq_true rfl, Nat.le_of_ble_eq_true rfl⟩) ?_
  show W _ _ _ _ _ _ _ _ _ _ _ _ _ _ _ (F0 m 4 ls [.int (zb (m_in c0 0 (nI 7)))])
  refine lv_if_eq (tgt := 29) hx hb dX4_text_4 (by decide) (fun c4 => ?_) (fun c4 => ?_)
  · refine lv_iconst (v := 0) hx hb dX4_text_29 (by decide) ?_
    refine lv_istore (lv' := [(5, .int 0), (0, .ref (ad 200)), (1, .int c0), (2, .long v), (4, .int n0)]) hx hb dX4_text_30 hl (by decide) rfl (fun ls hl => ?_)
    refine lv_iload_n hx hb dX4_text_32 rfl (lv_at hl 2 rfl) ?_
    refine x_callr (x_rS C0 hl.1 hK hS (c_X4_isColumn l G ad D M V c0) gX4_text_X4_isColumn 1 rfl rfl rfl (by decide +kernel) ⟨Nat.le_of_ble_eq_true rfl, Nat.le_of_ble_eq_true rfl⟩ rfl rfl (Nat.le_of_ble_eq_true rfl) dX4_text_33 ⟨Nat.le_of_ble_eq_true rfl, Nat.le_of_ble_eq_true rfl⟩) ?_
    show W _ _ _ _ _ _ _ _ _ _ _ _ _ _ _ (F0 m 36 ls [.int (zb (m_in c0 0 (nI 7)))])
    refine lv_if_eq (tgt := 65) hx hb dX4_text_36 (by decide) (fun c36 => ?_) (fun c36 => absurd (zb_eq c4) (by rw [zb_ne c36]; decide))
    refine lv_iconst (v := 0) hx hb dX4_text_65 (by decide) ?_
    have hk : y_tk M c0 n0 = false := by unfold y_tk; rw [zb_eq c4]; simp
    exact x_wretz C0 hS (by unfold y_tkM y_tkV; rw [hk]; rfl) (by rw [hk]; rfl) rfl dX4_text_66
  · have hcc := zb_ne c4
    obtain ⟨i, hi, rfl⟩ := m_in_of (n := 7) (by decide) (zb_ne c4)
    have hci : (nI i).toNatClampNeg = i := nI_clamp (by omega)
    obtain ⟨hH1, hH2, hH3⟩ := hH i (by omega)
    refine lv_aload_n hx hb dX4_text_7 rfl (lv_at hl 0 rfl) ?_
    refine lv_aload_n hx hb dX4_text_8 rfl (lv_at hl 0 rfl) ?_
    refine y_get (j := 16) C0 hK hS (by decide) (by decide) kX4_text_wX4 kX4_text_f56 dX4_text_9 ?_
    refine lv_iload_n hx hb dX4_text_12 rfl (lv_at hl 1 rfl) ?_
    refine y_iald (j := 16) (i := i) (n := 8) C0 hK hS (by decide) (by decide) (by decide) (by omega) rfl dX4_text_13 ?_
    refine x_callr (x_rV C0 hl.1 hK hS (c_X4_isText l G ad D M V (M 16 i) (hs M i) hH2 hH1) (show y_con G ad D M V 200 = some (x_mo ad M) from rfl) rfl gX4_text_X4_isText 1 rfl rfl rfl (by decide +kernel) ⟨Nat.le_of_ble_eq_true rfl, Nat.le_of_ble_eq_true rfl⟩ rfl rfl (Nat.le_of_ble_eq_true rfl) dX4_text_14 ⟨Nat.le_of_ble_eq_true rfl, Nat.le_of_ble_eq_true rfl⟩) ?_
    show W _ _ _ _ _ _ _ _ _ _ _ _ _ _ _ (F0 m 17 ls [.int (zb (y_tx M (M 16 i)))])
    refine lv_if_eq (tgt := 29) hx hb dX4_text_17 (by decide) (fun c17 => ?_) (fun c17 => ?_)
    · refine lv_iconst (v := 0) hx hb dX4_text_29 (by decide) ?_
      have hfr : (0 : Int32) = nI (y_fr0 M i) := by unfold y_fr0; rw [zb_eq c17]; rfl
      have hfl : y_fr0 M i < 515 := by unfold y_fr0; split <;> omega
      rw [hfr]
      refine lv_istore (lv' := [(5, .int (nI (y_fr0 M i))), (0, .ref (ad 200)), (1, .int (nI i)), (2, .long v), (4, .int n0)]) hx hb dX4_text_30 hl (by decide) rfl (fun ls hl => ?_)
      refine lv_iload_n hx hb dX4_text_32 rfl (lv_at hl 2 rfl) ?_
      refine x_callr (x_rS C0 hl.1 hK hS (c_X4_isColumn l G ad D M V (nI i)) gX4_text_X4_isColumn 1 rfl rfl rfl (by decide +kernel) ⟨Nat.le_of_ble_eq_true rfl, Nat.le_of_ble_eq_true rfl⟩ rfl rfl (Nat.le_of_ble_eq_true rfl) dX4_text_33 ⟨Nat.le_of_ble_eq_true rfl, Nat.le_of_ble_eq_true rfl⟩) ?_
      show W _ _ _ _ _ _ _ _ _ _ _ _ _ _ _ (F0 m 36 ls [.int (zb (m_in (nI i) 0 (nI 7)))])
      refine lv_if_eq (tgt := 65) hx hb dX4_text_36 (by decide) (fun c36 => absurd (zb_eq c36) (by rw [hcc]; decide)) (fun c36 => ?_)
      refine lv_iload hx hb dX4_text_39 (lv_at hl 4 rfl) ?_
      refine lv_iconst (v := 0) hx hb dX4_text_41 (by decide) ?_
      refine lv_bipush (v := 8) hx hb dX4_text_42 (by decide) ?_
      refine x_callr (x_rS C0 hl.1 hK hS (c_X4_in l G ad D M V n0 0 8) gX4_text_X4_in 3 rfl rfl rfl (by decide +kernel) ⟨Nat.le_of_ble_eq_true rfl, Nat.le_of_ble_eq_true rfl⟩ rfl rfl (Nat.le_of_ble_eq_true rfl) dX4_text_44 ⟨Nat.le_of_ble_eq_true rfl, Nat.le_of_ble_eq_true rfl⟩) ?_
      show W _ _ _ _ _ _ _ _ _ _ _ _ _ _ _ (F0 m 47 ls [.int (zb (m_in n0 0 8))])
      refine lv_if_eq (tgt := 65) hx hb dX4_text_47 (by decide) (fun c47 => ?_) (fun c47 => ?_)
      · refine lv_iconst (v := 0) hx hb dX4_text_65 (by decide) ?_
        have hk : y_tk M (nI i) n0 = false := by unfold y_tk; rw [show m_in n0 0 (nI 8) = false from zb_eq c47]; simp
        exact x_wretz C0 hS (by unfold y_tkM y_tkV; rw [hk]; rfl) (by rw [hk]; rfl) rfl dX4_text_66
      · refine lv_aload_n hx hb dX4_text_50 rfl (lv_at hl 1 rfl) ?_
        refine y_get (j := 21) C0 hK hS (by decide) (by decide) kX4_text_wX4 kX4_text_f69 dX4_text_51 ?_
        refine lv_iload hx hb dX4_text_54 (lv_at hl 0 rfl) ?_
        refine y_iald (j := 21) (i := y_fr0 M i) (n := 515) C0 hK hS (by decide) (by decide) (by decide) (by omega) rfl dX4_text_56 ?_
        refine lv_iload hx hb dX4_text_57 (lv_at hl 4 rfl) ?_
        refine lv_iadd hx hb dX4_text_59 ?_
        refine lv_bipush (v := 31) hx hb dX4_text_60 (by decide) ?_
        refine lv_icmp_le (tgt := 67) hx hb dX4_text_62 (by decide) (fun c62 => ?_) (fun c62 => ?_)
        · refine lv_aload_n hx hb dX4_text_67 rfl (lv_at hl 1 rfl) ?_
          refine lv_lload_n hx hb dX4_text_68 rfl (lv_at hl 3 rfl) ?_
          refine lv_iload hx hb dX4_text_69 (lv_at hl 4 rfl) ?_
          refine lv_iload hx hb dX4_text_71 (lv_at hl 0 rfl) ?_
          refine x_callw hS (x_rV C0 hl.1 hK hS (c_X4_step l G ad D M V v n0 (y_fr0 M i) s0 hst hs1 hfl) (show y_con G ad D M V 200 = some (x_mo ad M) from rfl) rfl gX4_text_X4_step 3 rfl rfl rfl (by decide +kernel) ⟨Nat.le_of_ble_eq_true rfl, Nat.le_of_ble_eq_true rfl⟩ rfl rfl (Nat.le_of_ble_eq_true rfl) dX4_text_73 ⟨Nat.le_of_ble_eq_true rfl, Nat.le_of_ble_eq_true rfl⟩) (fun H locs hS => ?_)
          obtain ⟨M1, eM1⟩ : ∃ zz, zz = y_st M (s0 + 1) n0 (y_fr0 M i) := ⟨_, rfl⟩
          rw [← eM1] at hS
          obtain ⟨V2, eV2⟩ : ∃ zz, zz = vp_updL V (s0 + 1) v := ⟨_, rfl⟩
          rw [← eV2] at hS
          have h17 : M1 17 0 = nI (s0 + 1) := by rw [eM1]; exact y_st_17 _ _ _ _
          show W _ _ _ _ _ _ _ _ _ _ _ _ _ _ _ (F0 m 76 ls [])
          refine lv_aload_n hx hb dX4_text_76 rfl (lv_at hl 1 rfl) ?_
          refine y_get (j := 16) C0 hK hS (by decide) (by decide) kX4_text_wX4 kX4_text_f56 dX4_text_77 ?_
          refine lv_iload_n hx hb dX4_text_80 rfl (lv_at hl 2 rfl) ?_
          refine lv_aload_n hx hb dX4_text_81 rfl (lv_at hl 1 rfl) ?_
          refine y_geti (j := 17) C0 hK hS (by decide) kX4_text_wX4 kX4_text_f80 dX4_text_82 ?_
          rw [h17]
          refine y_iast (j := 16) (i := i) (n := 8) C0 hK hS (by decide) (by decide) (by decide) (by omega) rfl dX4_text_85 (fun H locs hS => ?_)
          obtain ⟨M3, eM3⟩ : ∃ zz, zz = va_up M1 16 (upd (M1 16) i (nI (s0 + 1))) := ⟨_, rfl⟩
          rw [← eM3] at hS
          have hM3_17 : M3 17 0 = nI (s0 + 1) := by rw [eM3, va_up_ne _ _ (by decide)]; exact h17
          refine lv_iconst (v := 1) hx hb dX4_text_86 (by decide) ?_
          have hk : y_tk M (nI i) n0 = true := by unfold y_tk; rw [hcc, show m_in n0 0 (nI 8) = true from zb_ne c47, hci, decide_eq_true c62]; rfl
          exact x_wretz C0 hS (by unfold y_tkM y_tkV; rw [if_pos hk, if_pos hk, hci]; subst_vars; unfold y_ce; rw [y_st_o _ _ _ _ 16 (by decide)]) (by rw [hk]; rfl) rfl dX4_text_87
        · refine lv_iconst (v := 0) hx hb dX4_text_65 (by decide) ?_
          have hk : y_tk M (nI i) n0 = false := by unfold y_tk; rw [hci, decide_eq_false c62]; simp
          exact x_wretz C0 hS (by unfold y_tkM y_tkV; rw [hk]; rfl) (by rw [hk]; rfl) rfl dX4_text_66
    · refine lv_aload_n hx hb dX4_text_20 rfl (lv_at hl 0 rfl) ?_
      refine y_get (j := 16) C0 hK hS (by decide) (by decide) kX4_text_wX4 kX4_text_f56 dX4_text_21 ?_
      refine lv_iload_n hx hb dX4_text_24 rfl (lv_at hl 1 rfl) ?_
      refine y_iald (j := 16) (i := i) (n := 8) C0 hK hS (by decide) (by decide) (by decide) (by omega) rfl dX4_text_25 ?_
      refine lv_goto (tgt := 30) hx hb dX4_text_26 (by decide) ?_
      have hfr : M 16 i = nI (y_fr0 M i) := by unfold y_fr0; rw [zb_ne c17]; exact hH3 (zb_ne c17)
      have hfl : y_fr0 M i < 515 := by unfold y_fr0; split <;> omega
      rw [hfr]
      refine lv_istore (lv' := [(5, .int (nI (y_fr0 M i))), (0, .ref (ad 200)), (1, .int (nI i)), (2, .long v), (4, .int n0)]) hx hb dX4_text_30 hl (by decide) rfl (fun ls hl => ?_)
      refine lv_iload_n hx hb dX4_text_32 rfl (lv_at hl 2 rfl) ?_
      refine x_callr (x_rS C0 hl.1 hK hS (c_X4_isColumn l G ad D M V (nI i)) gX4_text_X4_isColumn 1 rfl rfl rfl (by decide +kernel) ⟨Nat.le_of_ble_eq_true rfl, Nat.le_of_ble_eq_true rfl⟩ rfl rfl (Nat.le_of_ble_eq_true rfl) dX4_text_33 ⟨Nat.le_of_ble_eq_true rfl, Nat.le_of_ble_eq_true rfl⟩) ?_
      show W _ _ _ _ _ _ _ _ _ _ _ _ _ _ _ (F0 m 36 ls [.int (zb (m_in (nI i) 0 (nI 7)))])
      refine lv_if_eq (tgt := 65) hx hb dX4_text_36 (by decide) (fun c36 => absurd (zb_eq c36) (by rw [hcc]; decide)) (fun c36 => ?_)
      refine lv_iload hx hb dX4_text_39 (lv_at hl 4 rfl) ?_
      refine lv_iconst (v := 0) hx hb dX4_text_41 (by decide) ?_
      refine lv_bipush (v := 8) hx hb dX4_text_42 (by decide) ?_
      refine x_callr (x_rS C0 hl.1 hK hS (c_X4_in l G ad D M V n0 0 8) gX4_text_X4_in 3 rfl rfl rfl (by decide +kernel) ⟨Nat.le_of_ble_eq_true rfl, Nat.le_of_ble_eq_true rfl⟩ rfl rfl (Nat.le_of_ble_eq_true rfl) dX4_text_44 ⟨Nat.le_of_ble_eq_true rfl, Nat.le_of_ble_eq_true rfl⟩) ?_
      show W _ _ _ _ _ _ _ _ _ _ _ _ _ _ _ (F0 m 47 ls [.int (zb (m_in n0 0 8))])
      refine lv_if_eq (tgt := 65) hx hb dX4_text_47 (by decide) (fun c47 => ?_) (fun c47 => ?_)
      · refine lv_iconst (v := 0) hx hb dX4_text_65 (by decide) ?_
        have hk : y_tk M (nI i) n0 = false := by unfold y_tk; rw [show m_in n0 0 (nI 8) = false from zb_eq c47]; simp
        exact x_wretz C0 hS (by unfold y_tkM y_tkV; rw [hk]; rfl) (by rw [hk]; rfl) rfl dX4_text_66
      · refine lv_aload_n hx hb dX4_text_50 rfl (lv_at hl 1 rfl) ?_
        refine y_get (j := 21) C0 hK hS (by decide) (by decide) kX4_text_wX4 kX4_text_f69 dX4_text_51 ?_
        refine lv_iload hx hb dX4_text_54 (lv_at hl 0 rfl) ?_
        refine y_iald (j := 21) (i := y_fr0 M i) (n := 515) C0 hK hS (by decide) (by decide) (by decide) (by omega) rfl dX4_text_56 ?_
        refine lv_iload hx hb dX4_text_57 (lv_at hl 4 rfl) ?_
        refine lv_iadd hx hb dX4_text_59 ?_
        refine lv_bipush (v := 31) hx hb dX4_text_60 (by decide) ?_
        refine lv_icmp_le (tgt := 67) hx hb dX4_text_62 (by decide) (fun c62 => ?_) (fun c62 => ?_)
        · refine lv_aload_n hx hb dX4_text_67 rfl (lv_at hl 1 rfl) ?_
          refine lv_lload_n hx hb dX4_text_68 rfl (lv_at hl 3 rfl) ?_
          refine lv_iload hx hb dX4_text_69 (lv_at hl 4 rfl) ?_
          refine lv_iload hx hb dX4_text_71 (lv_at hl 0 rfl) ?_
          refine x_callw hS (x_rV C0 hl.1 hK hS (c_X4_step l G ad D M V v n0 (y_fr0 M i) s0 hst hs1 hfl) (show y_con G ad D M V 200 = some (x_mo ad M) from rfl) rfl gX4_text_X4_step 3 rfl rfl rfl (by decide +kernel) ⟨Nat.le_of_ble_eq_true rfl, Nat.le_of_ble_eq_true rfl⟩ rfl rfl (Nat.le_of_ble_eq_true rfl) dX4_text_73 ⟨Nat.le_of_ble_eq_true rfl, Nat.le_of_ble_eq_true rfl⟩) (fun H locs hS => ?_)
          obtain ⟨M4, eM4⟩ : ∃ zz, zz = y_st M (s0 + 1) n0 (y_fr0 M i) := ⟨_, rfl⟩
          rw [← eM4] at hS
          obtain ⟨V5, eV5⟩ : ∃ zz, zz = vp_updL V (s0 + 1) v := ⟨_, rfl⟩
          rw [← eV5] at hS
          have h17 : M4 17 0 = nI (s0 + 1) := by rw [eM4]; exact y_st_17 _ _ _ _
          show W _ _ _ _ _ _ _ _ _ _ _ _ _ _ _ (F0 m 76 ls [])
          refine lv_aload_n hx hb dX4_text_76 rfl (lv_at hl 1 rfl) ?_
          refine y_get (j := 16) C0 hK hS (by decide) (by decide) kX4_text_wX4 kX4_text_f56 dX4_text_77 ?_
          refine lv_iload_n hx hb dX4_text_80 rfl (lv_at hl 2 rfl) ?_
          refine lv_aload_n hx hb dX4_text_81 rfl (lv_at hl 1 rfl) ?_
          refine y_geti (j := 17) C0 hK hS (by decide) kX4_text_wX4 kX4_text_f80 dX4_text_82 ?_
          rw [h17]
          refine y_iast (j := 16) (i := i) (n := 8) C0 hK hS (by decide) (by decide) (by decide) (by omega) rfl dX4_text_85 (fun H locs hS => ?_)
          obtain ⟨M6, eM6⟩ : ∃ zz, zz = va_up M4 16 (upd (M4 16) i (nI (s0 + 1))) := ⟨_, rfl⟩
          rw [← eM6] at hS
          have hM6_17 : M6 17 0 = nI (s0 + 1) := by rw [eM6, va_up_ne _ _ (by decide)]; exact h17
          refine lv_iconst (v := 1) hx hb dX4_text_86 (by decide) ?_
          have hk : y_tk M (nI i) n0 = true := by unfold y_tk; rw [hcc, show m_in n0 0 (nI 8) = true from zb_ne c47, hci, decide_eq_true c62]; rfl
          exact x_wretz C0 hS (by unfold y_tkM y_tkV; rw [if_pos hk, if_pos hk, hci]; subst_vars; unfold y_ce; rw [y_st_o _ _ _ _ 16 (by decide)]) (by rw [hk]; rfl) rfl dX4_text_87
        · refine lv_iconst (v := 0) hx hb dX4_text_65 (by decide) ?_
          have hk : y_tk M (nI i) n0 = false := by unfold y_tk; rw [hci, decide_eq_false c62]; simp
          exact x_wretz C0 hS (by unfold y_tkM y_tkV; rw [hk]; rfl) (by rw [hk]; rfl) rfl dX4_text_66
def y_va (M : Nat → Nat → Int32) (V : Nat → Int64) (c : Nat) : Int64 := if M 16 c = 0 then 0 else if 0 ≤ M 19 (hs M c) then (M 21 (hs M c)).toInt64 else if 0 < M 16 c then V (hs M c) else if V (hs M c) = 0 then 0 else 1
def y_val (M : Nat → Nat → Int32) (V : Nat → Int64) (c : Int32) : Int64 := if m_in c 0 (nI 7) then y_va M V c.toNatClampNeg else 0
def y_kd (M : Nat → Nat → Int32) (c : Int32) : Int32 := if m_in c 0 (nI 7) then (if M 16 c.toNatClampNeg = 0 then 0 else if y_tx M (M 16 c.toNatClampNeg) then 2 else 1) else -1
theorem kX4_value_wX4 : ∀ w ∈ u_ws RX4 TX4 22, w ∈ wsX4_value := by decide +kernel
theorem kX4_value_f56 : Cond.fieldLink RX4 56 "VersionDeskModel" "hand" "[I" ∈ wsX4_value := by decide +kernel
theorem kX4_value_f59 : Cond.fieldLink RX4 59 "VersionDeskModel" "given" "[J" ∈ wsX4_value := by decide +kernel
theorem kX4_value_f63 : Cond.fieldLink RX4 63 "VersionDeskModel" "bytes" "[I" ∈ wsX4_value := by decide +kernel
theorem kX4_value_f69 : Cond.fieldLink RX4 69 "VersionDeskModel" "length" "[I" ∈ wsX4_value := by decide +kernel
set_option maxHeartbeats 4000000 in
set_option maxRecDepth 100000 in
/-- value -/
theorem c_X4_value (l : Launch) (G : x_G) (ad : Nat → Nat) (D : Nat → Option va_E) (M : Nat → Nat → Int32) (V : Nat → Int64) (c0 : Int32) (hH : H_ok M) : Met l yX4_value wsX4_value ({ frames := 2, cells := 0, slots := 0, locals := 42 } : Room) (x_Pc G ad (y_con G ad D M V) [.ref (ad 200), .int c0]) (x_Qr (some (.long (y_val M V c0)))) 0 0 (fun _ => False) := by
  refine x_met (cc := cX4_value) (maxL := 3) (ret := (some .long)) (by decide) rfl _ (Nat.le_of_ble_eq_true rfl) ?_
  intro p e s m args below meth c C0 hini hK hS ls hl
  have hl : lv_has ls 3 [(0, .ref (ad 200)), (1, .int c0)] := hl
  obtain ⟨hx, hb, hr, hml, hown, hts, hlk⟩ := id C0
  refine lv_iload_n hx hb dX4_value_0 rfl (lv_at hl 1 rfl) ?_
  refine x_callr (x_rS C0 hl.1 hK hS (c_X4_isColumn l G ad D M V c0) gX4_value_X4_isColumn 1 rfl rfl rfl (by decide +kernel) ⟨Nat.le_of_ble_eq_true rfl, Nat.le_of_ble_eq_true rfl⟩ rfl rfl (Nat.le_of_ble_eq_true rfl) dX4_value_1 ⟨Nat.le_of_ble_eq_true rfl, Nat.le_of_ble_eq_true rfl⟩) ?_
  show W _ _ _ _ _ _ _ _ _ _ _ _ _ _ _ (F0 m 4 ls [.int (zb (m_in c0 0 (nI 7)))])
  refine lv_if_eq (tgt := 16) hx hb dX4_value_4 (by decide) (fun c4 => ?_) (fun c4 => ?_)
  · refine lv_lconst (v := 0) hx hb dX4_value_16 (by decide) ?_
    exact x_retl C0 (by unfold y_val; rw [zb_eq c4]; rfl) dX4_value_17
  · have hcc := zb_ne c4
    obtain ⟨i, hi, rfl⟩ := m_in_of (n := 7) (by decide) (zb_ne c4)
    have hci : (nI i).toNatClampNeg = i := nI_clamp (by omega)
    obtain ⟨hH1, hH2, hH3⟩ := hH i (by omega)
    refine lv_aload_n hx hb dX4_value_7 rfl (lv_at hl 0 rfl) ?_
    refine y_get (j := 16) C0 hK hS (by decide) (by decide) kX4_value_wX4 kX4_value_f56 dX4_value_8 ?_
    refine lv_iload_n hx hb dX4_value_11 rfl (lv_at hl 1 rfl) ?_
    refine y_iald (j := 16) (i := i) (n := 8) C0 hK hS (by decide) (by decide) (by decide) (by omega) rfl dX4_value_12 ?_
    refine lv_if_ne (tgt := 18) hx hb dX4_value_13 (by decide) (fun c13 => ?_) (fun c13 => ?_)
    · refine lv_aload_n hx hb dX4_value_18 rfl (lv_at hl 0 rfl) ?_
      refine y_get (j := 16) C0 hK hS (by decide) (by decide) kX4_value_wX4 kX4_value_f56 dX4_value_19 ?_
      refine lv_iload_n hx hb dX4_value_22 rfl (lv_at hl 1 rfl) ?_
      refine y_iald (j := 16) (i := i) (n := 8) C0 hK hS (by decide) (by decide) (by decide) (by omega) rfl dX4_value_23 ?_
      refine x_callr (x_rS C0 hl.1 hK hS (c_X4_stepOf l G ad D M V (M 16 i)) gX4_value_X4_stepOf 1 rfl rfl rfl (by decide +kernel) ⟨Nat.le_of_ble_eq_true rfl, Nat.le_of_ble_eq_true rfl⟩ rfl rfl (Nat.le_of_ble_eq_true rfl) dX4_value_24 ⟨Nat.le_of_ble_eq_true rfl, Nat.le_of_ble_eq_true rfl⟩) ?_
      rw [hH1]
      show W _ _ _ _ _ _ _ _ _ _ _ _ _ _ _ (F0 m 27 ls [.int (nI (hs M i))])
      refine lv_istore_n (lv' := [(2, .int (nI (hs M i))), (0, .ref (ad 200)), (1, .int (nI i))]) hx hb dX4_value_27 rfl hl (by decide) rfl (fun ls hl => ?_)
      refine lv_aload_n hx hb dX4_value_28 rfl (lv_at hl 1 rfl) ?_
      refine y_get (j := 19) C0 hK hS (by decide) (by decide) kX4_value_wX4 kX4_value_f63 dX4_value_29 ?_
      refine lv_iload_n hx hb dX4_value_32 rfl (lv_at hl 0 rfl) ?_
      refine y_iald (j := 19) (i := hs M i) (n := 515) C0 hK hS (by decide) (by decide) (by decide) (by omega) rfl dX4_value_33 ?_
      refine lv_if_lt (tgt := 47) hx hb dX4_value_34 (by decide) (fun c34 => ?_) (fun c34 => ?_)
      · refine lv_aload_n hx hb dX4_value_47 rfl (lv_at hl 1 rfl) ?_
        refine y_get (j := 16) C0 hK hS (by decide) (by decide) kX4_value_wX4 kX4_value_f56 dX4_value_48 ?_
        refine lv_iload_n hx hb dX4_value_51 rfl (lv_at hl 2 rfl) ?_
        refine y_iald (j := 16) (i := i) (n := 8) C0 hK hS (by decide) (by decide) (by decide) (by omega) rfl dX4_value_52 ?_
        refine lv_if_le (tgt := 65) hx hb dX4_value_53 (by decide) (fun c53 => ?_) (fun c53 => ?_)
        · refine lv_aload_n hx hb dX4_value_65 rfl (lv_at hl 1 rfl) ?_
          refine y_get (j := 18) C0 hK hS (by decide) (by decide) kX4_value_wX4 kX4_value_f59 dX4_value_66 ?_
          refine lv_iload_n hx hb dX4_value_69 rfl (lv_at hl 0 rfl) ?_
          refine y_lald (i := hs M i) C0 hK hS (by omega) rfl dX4_value_70 ?_
          refine lv_lconst (v := 0) hx hb dX4_value_71 (by decide) ?_
          refine W.lcmp hx hb dX4_value_72 ?_
          refine lv_if_ne (tgt := 80) hx hb dX4_value_73 (by decide) (fun c73 => ?_) (fun c73 => ?_)
          · refine lv_lconst (v := 1) hx hb dX4_value_80 (by decide) ?_
            exact x_retl C0 (by unfold y_val y_va; rw [if_pos hcc, hci, if_neg c13, if_neg (Int32.not_le.mpr c34), if_neg (Int32.not_lt.mpr c53), if_neg (fun q => c73 ((lg_cmp_eq _ _).mpr q))]) dX4_value_81
          · refine lv_lconst (v := 0) hx hb dX4_value_76 (by decide) ?_
            refine lv_goto (tgt := 81) hx hb dX4_value_77 (by decide) ?_
            exact x_retl C0 (by unfold y_val y_va; rw [if_pos hcc, hci, if_neg c13, if_neg (Int32.not_le.mpr c34), if_neg (Int32.not_lt.mpr c53), if_pos ((lg_cmp_eq _ _).mp c73)]) dX4_value_81
        · refine lv_aload_n hx hb dX4_value_56 rfl (lv_at hl 1 rfl) ?_
          refine y_get (j := 18) C0 hK hS (by decide) (by decide) kX4_value_wX4 kX4_value_f59 dX4_value_57 ?_
          refine lv_iload_n hx hb dX4_value_60 rfl (lv_at hl 0 rfl) ?_
          refine y_lald (i := hs M i) C0 hK hS (by omega) rfl dX4_value_61 ?_
          refine lv_goto (tgt := 81) hx hb dX4_value_62 (by decide) ?_
          exact x_retl C0 (by unfold y_val y_va; rw [if_pos hcc, hci, if_neg c13, if_neg (Int32.not_le.mpr c34), if_pos (Int32.not_le.mp c53)]) dX4_value_81
      · refine lv_aload_n hx hb dX4_value_37 rfl (lv_at hl 1 rfl) ?_
        refine y_get (j := 21) C0 hK hS (by decide) (by decide) kX4_value_wX4 kX4_value_f69 dX4_value_38 ?_
        refine lv_iload_n hx hb dX4_value_41 rfl (lv_at hl 0 rfl) ?_
        refine y_iald (j := 21) (i := hs M i) (n := 515) C0 hK hS (by decide) (by decide) (by decide) (by omega) rfl dX4_value_42 ?_
        refine lv_i2l hx hb dX4_value_43 rfl ?_
        refine lv_goto (tgt := 81) hx hb dX4_value_44 (by decide) ?_
        exact x_retl C0 (by unfold y_val y_va; rw [if_pos hcc, hci, if_neg c13, if_pos (Int32.not_lt.mp c34)]) dX4_value_81
    · refine lv_lconst (v := 0) hx hb dX4_value_16 (by decide) ?_
      exact x_retl C0 (by unfold y_val y_va; rw [if_pos hcc, hci, if_pos c13]) dX4_value_17
theorem kX4_kind_wX4 : ∀ w ∈ u_ws RX4 TX4 22, w ∈ wsX4_kind := by decide +kernel
theorem kX4_kind_f56 : Cond.fieldLink RX4 56 "VersionDeskModel" "hand" "[I" ∈ wsX4_kind := by decide +kernel
set_option maxHeartbeats 4000000 in
set_option maxRecDepth 100000 in
/-- kind -/
theorem c_X4_kind (l : Launch) (G : x_G) (ad : Nat → Nat) (D : Nat → Option va_E) (M : Nat → Nat → Int32) (V : Nat → Int64) (c0 : Int32) (hH : H_ok M) : Met l yX4_kind wsX4_kind ({ frames := 2, cells := 0, slots := 0, locals := 42 } : Room) (x_Pc G ad (y_con G ad D M V) [.ref (ad 200), .int c0]) (x_Qr (some (.int (y_kd M c0)))) 0 0 (fun _ => False) := by
  refine x_met (cc := cX4_kind) (maxL := 2) (ret := (some .int)) (by decide) rfl _ (Nat.le_of_ble_eq_true rfl) ?_
  intro p e s m args below meth c C0 hini hK hS ls hl
  have hl : lv_has ls 2 [(0, .ref (ad 200)), (1, .int c0)] := hl
  obtain ⟨hx, hb, hr, hml, hown, hts, hlk⟩ := id C0
  refine lv_iload_n hx hb dX4_kind_0 rfl (lv_at hl 1 rfl) ?_
  refine x_callr (x_rS C0 hl.1 hK hS (c_X4_isColumn l G ad D M V c0) gX4_kind_X4_isColumn 1 rfl rfl rfl (by decide +kernel) ⟨Nat.le_of_ble_eq_true rfl, Nat.le_of_ble_eq_true rfl⟩ rfl rfl (Nat.le_of_ble_eq_true rfl) dX4_kind_1 ⟨Nat.le_of_ble_eq_true rfl, Nat.le_of_ble_eq_true rfl⟩) ?_
  show W _ _ _ _ _ _ _ _ _ _ _ _ _ _ _ (F0 m 4 ls [.int (zb (m_in c0 0 (nI 7)))])
  refine lv_if_ne (tgt := 11) hx hb dX4_kind_4 (by decide) (fun c4 => ?_) (fun c4 => ?_)
  · have hcc := zb_ne c4
    obtain ⟨i, hi, rfl⟩ := m_in_of (n := 7) (by decide) (zb_ne c4)
    have hci : (nI i).toNatClampNeg = i := nI_clamp (by omega)
    obtain ⟨hH1, hH2, hH3⟩ := hH i (by omega)
    refine lv_aload_n hx hb dX4_kind_11 rfl (lv_at hl 0 rfl) ?_
    refine y_get (j := 16) C0 hK hS (by decide) (by decide) kX4_kind_wX4 kX4_kind_f56 dX4_kind_12 ?_
    refine lv_iload_n hx hb dX4_kind_15 rfl (lv_at hl 1 rfl) ?_
    refine y_iald (j := 16) (i := i) (n := 8) C0 hK hS (by decide) (by decide) (by decide) (by omega) rfl dX4_kind_16 ?_
    refine lv_if_ne (tgt := 24) hx hb dX4_kind_17 (by decide) (fun c17 => ?_) (fun c17 => ?_)
    · refine lv_aload_n hx hb dX4_kind_24 rfl (lv_at hl 0 rfl) ?_
      refine lv_aload_n hx hb dX4_kind_25 rfl (lv_at hl 0 rfl) ?_
      refine y_get (j := 16) C0 hK hS (by decide) (by decide) kX4_kind_wX4 kX4_kind_f56 dX4_kind_26 ?_
      refine lv_iload_n hx hb dX4_kind_29 rfl (lv_at hl 1 rfl) ?_
      refine y_iald (j := 16) (i := i) (n := 8) C0 hK hS (by decide) (by decide) (by decide) (by omega) rfl dX4_kind_30 ?_
      refine x_callr (x_rV C0 hl.1 hK hS (c_X4_isText l G ad D M V (M 16 i) (hs M i) hH2 hH1) (show y_con G ad D M V 200 = some (x_mo ad M) from rfl) rfl gX4_kind_X4_isText 1 rfl rfl rfl (by decide +kernel) ⟨Nat.le_of_ble_eq_true rfl, Nat.le_of_ble_eq_true rfl⟩ rfl rfl (Nat.le_of_ble_eq_true rfl) dX4_kind_31 ⟨Nat.le_of_ble_eq_true rfl, Nat.le_of_ble_eq_true rfl⟩) ?_
      show W _ _ _ _ _ _ _ _ _ _ _ _ _ _ _ (F0 m 34 ls [.int (zb (y_tx M (M 16 i)))])
      refine lv_if_eq (tgt := 41) hx hb dX4_kind_34 (by decide) (fun c34 => ?_) (fun c34 => ?_)
      · refine lv_iconst (v := 1) hx hb dX4_kind_41 (by decide) ?_
        exact x_reti C0 (by unfold y_kd; rw [if_pos hcc, hci, if_neg c17, if_neg (by rw [zb_eq c34]; decide)]) dX4_kind_42
      · refine lv_iconst (v := 2) hx hb dX4_kind_37 (by decide) ?_
        refine lv_goto (tgt := 42) hx hb dX4_kind_38 (by decide) ?_
        exact x_reti C0 (by unfold y_kd; rw [if_pos hcc, hci, if_neg c17, if_pos (zb_ne c34)]) dX4_kind_42
    · refine lv_iconst (v := 0) hx hb dX4_kind_20 (by decide) ?_
      refine lv_goto (tgt := 42) hx hb dX4_kind_21 (by decide) ?_
      exact x_reti C0 (by unfold y_kd; rw [if_pos hcc, hci, if_pos c17]) dX4_kind_42
  · refine lv_iconst (v := (-1)) hx hb dX4_kind_7 (by decide) ?_
    refine lv_goto (tgt := 42) hx hb dX4_kind_8 (by decide) ?_
    exact x_reti C0 (by unfold y_kd; rw [if_neg (by rw [zb_eq c4]; decide)]) dX4_kind_42
def y_lw (M : Nat → Nat → Int32) (i : Int32) : Nat → Nat → Nat
  | 0, s => s
  | d + 1, s => if i < M 21 s - M 19 s then y_lw M i d (bs M s) else s
def y_lb (M : Nat → Nat → Int32) (V : Nat → Int64) (i : Int32) (s : Nat) : Int32 := ((V s >>> (((8 : Int32) * (M 21 s - 1 - i)).toInt64 &&& 63)) &&& 255).toInt32
def y_lt (M : Nat → Nat → Int32) (V : Nat → Int64) (c i : Int32) : Int32 := if m_in c 0 (nI 7) = true ∧ y_tx M (M 16 c.toNatClampNeg) = true ∧ m_in i 0 (M 21 (hs M c.toNatClampNeg) - 1) = true then y_lb M V i (y_lw M i 515 (hs M c.toNatClampNeg)) else -1
theorem kX4_letter_wX4 : ∀ w ∈ u_ws RX4 TX4 22, w ∈ wsX4_letter := by decide +kernel
theorem kX4_letter_c95 : Cond.constantLong RX4 95 (255) ∈ wsX4_letter := by decide +kernel
theorem kX4_letter_f59 : Cond.fieldLink RX4 59 "VersionDeskModel" "given" "[J" ∈ wsX4_letter := by decide +kernel
theorem kX4_letter_f63 : Cond.fieldLink RX4 63 "VersionDeskModel" "bytes" "[I" ∈ wsX4_letter := by decide +kernel
theorem kX4_letter_f66 : Cond.fieldLink RX4 66 "VersionDeskModel" "before" "[I" ∈ wsX4_letter := by decide +kernel
theorem kX4_letter_f69 : Cond.fieldLink RX4 69 "VersionDeskModel" "length" "[I" ∈ wsX4_letter := by decide +kernel
set_option maxHeartbeats 4000000 in
set_option maxRecDepth 100000 in
theorem l_X4_letter {p : Program} {l : Launch} {e : Env} {s : State} {m : MethodId} {args : Array Value} {below : List Frame} {meth : Method} {c : Code} {G : x_G} {ad : Nat → Nat} {D : Nat → Option va_E} {M : Nat → Nat → Int32} {V : Nat → Int64} (C0 : x_B p s m meth c args cX4_letter 5 (some .int) RX4 wsX4_letter) (hK : x_K G s) {c9 i0 : Int32} {r : Nat} (hB : B_ok M) (hS : x_H G ad (y_con G ad D M V) s.heap []) : ∀ (d : Nat) (j k : Nat), 515 - j < d → j ≤ 515 → k < 515 → r = y_lw M i0 (515 - j) k → ∀ (ls : Array Slot), lv_has ls 5 [(0, .ref (ad 200)), (1, .int c9), (2, .int i0), (3, .int (nI k)), (4, .int (nI j))] → W p l e ({ frames := 2, cells := 0, slots := 0, locals := 42 } : Room) s m args below meth c s.heap [] 0 0 (MQ below (x_Qr (some (.int (y_lb M V i0 r)))) args s 0 0 (fun _ => False)) (F0 m 53 ls []) := by
  obtain ⟨hx, hb, hr, hml, hown, hts, hlk⟩ := id C0
  intro d
  induction d with
  | zero =>
    intro j k hd hj hk hF ls hl
    exact absurd hd (by omega)
  | succ d ih =>
    intro j k hd hj hk hF ls hl
    refine lv_iload hx hb dX4_letter_53 (lv_at hl 4 rfl) ?_
    refine lv_sipush (v := 515) hx hb dX4_letter_55 (by decide) ?_
    refine lv_icmp_ge (tgt := 91) hx hb dX4_letter_58 (by decide) (fun c58 => ?_) (fun c58 => ?_)
    · have hj2 := nz_le (a := 515) c58 rfl rfl (by omega) (by omega)
      refine lv_aload_n hx hb dX4_letter_91 rfl (lv_at hl 0 rfl) ?_
      refine y_get (j := 18) C0 hK hS (by decide) (by decide) kX4_letter_wX4 kX4_letter_f59 dX4_letter_92 ?_
      refine lv_iload_n hx hb dX4_letter_95 rfl (lv_at hl 3 rfl) ?_
      refine y_lald (i := k) C0 hK hS (by omega) rfl dX4_letter_96 ?_
      refine lv_bipush (v := 8) hx hb dX4_letter_97 (by decide) ?_
      refine lv_aload_n hx hb dX4_letter_99 rfl (lv_at hl 0 rfl) ?_
      refine y_get (j := 21) C0 hK hS (by decide) (by decide) kX4_letter_wX4 kX4_letter_f69 dX4_letter_100 ?_
      refine lv_iload_n hx hb dX4_letter_103 rfl (lv_at hl 3 rfl) ?_
      refine y_iald (j := 21) (i := k) (n := 515) C0 hK hS (by decide) (by decide) (by decide) (by omega) rfl dX4_letter_104 ?_
      refine lv_iconst (v := 1) hx hb dX4_letter_105 (by decide) ?_
      refine lv_isub hx hb dX4_letter_106 ?_
      refine lv_iload_n hx hb dX4_letter_107 rfl (lv_at hl 2 rfl) ?_
      refine lv_isub hx hb dX4_letter_108 ?_
      refine lv_imul hx hb dX4_letter_109 ?_
      refine lv_lshr hx hb dX4_letter_110 rfl ?_
      refine lv_ldc2 (v := 255) hx hb hown (hts _ kX4_letter_c95) dX4_letter_111 ?_
      refine lv_land hx hb dX4_letter_114 ?_
      refine lv_l2i hx hb dX4_letter_115 rfl ?_
      exact x_reti C0 (by rw [hF, show 515 - j = 0 by omega]; rfl) dX4_letter_116
    · have hj2 := nz_nle (a := 515) c58 rfl rfl (by omega) (by omega)
      refine lv_iload_n hx hb dX4_letter_61 rfl (lv_at hl 2 rfl) ?_
      refine lv_aload_n hx hb dX4_letter_62 rfl (lv_at hl 0 rfl) ?_
      refine y_get (j := 21) C0 hK hS (by decide) (by decide) kX4_letter_wX4 kX4_letter_f69 dX4_letter_63 ?_
      refine lv_iload_n hx hb dX4_letter_66 rfl (lv_at hl 3 rfl) ?_
      refine y_iald (j := 21) (i := k) (n := 515) C0 hK hS (by decide) (by decide) (by decide) (by omega) rfl dX4_letter_67 ?_
      refine lv_aload_n hx hb dX4_letter_68 rfl (lv_at hl 0 rfl) ?_
      refine y_get (j := 19) C0 hK hS (by decide) (by decide) kX4_letter_wX4 kX4_letter_f63 dX4_letter_69 ?_
      refine lv_iload_n hx hb dX4_letter_72 rfl (lv_at hl 3 rfl) ?_
      refine y_iald (j := 19) (i := k) (n := 515) C0 hK hS (by decide) (by decide) (by decide) (by omega) rfl dX4_letter_73 ?_
      refine lv_isub hx hb dX4_letter_74 ?_
      refine lv_icmp_ge (tgt := 91) hx hb dX4_letter_75 (by decide) (fun c75 => ?_) (fun c75 => ?_)
      · refine lv_aload_n hx hb dX4_letter_91 rfl (lv_at hl 0 rfl) ?_
        refine y_get (j := 18) C0 hK hS (by decide) (by decide) kX4_letter_wX4 kX4_letter_f59 dX4_letter_92 ?_
        refine lv_iload_n hx hb dX4_letter_95 rfl (lv_at hl 3 rfl) ?_
        refine y_lald (i := k) C0 hK hS (by omega) rfl dX4_letter_96 ?_
        refine lv_bipush (v := 8) hx hb dX4_letter_97 (by decide) ?_
        refine lv_aload_n hx hb dX4_letter_99 rfl (lv_at hl 0 rfl) ?_
        refine y_get (j := 21) C0 hK hS (by decide) (by decide) kX4_letter_wX4 kX4_letter_f69 dX4_letter_100 ?_
        refine lv_iload_n hx hb dX4_letter_103 rfl (lv_at hl 3 rfl) ?_
        refine y_iald (j := 21) (i := k) (n := 515) C0 hK hS (by decide) (by decide) (by decide) (by omega) rfl dX4_letter_104 ?_
        refine lv_iconst (v := 1) hx hb dX4_letter_105 (by decide) ?_
        refine lv_isub hx hb dX4_letter_106 ?_
        refine lv_iload_n hx hb dX4_letter_107 rfl (lv_at hl 2 rfl) ?_
        refine lv_isub hx hb dX4_letter_108 ?_
        refine lv_imul hx hb dX4_letter_109 ?_
        refine lv_lshr hx hb dX4_letter_110 rfl ?_
        refine lv_ldc2 (v := 255) hx hb hown (hts _ kX4_letter_c95) dX4_letter_111 ?_
        refine lv_land hx hb dX4_letter_114 ?_
        refine lv_l2i hx hb dX4_letter_115 rfl ?_
        exact x_reti C0 (by rw [hF, show 515 - j = (515 - (j + 1)) + 1 by omega]; simp only [y_lw]; rw [if_neg (Int32.not_lt.mpr c75)]; rfl) dX4_letter_116
      · refine lv_aload_n hx hb dX4_letter_78 rfl (lv_at hl 0 rfl) ?_
        refine y_get (j := 20) C0 hK hS (by decide) (by decide) kX4_letter_wX4 kX4_letter_f66 dX4_letter_79 ?_
        refine lv_iload_n hx hb dX4_letter_82 rfl (lv_at hl 3 rfl) ?_
        refine y_iald (j := 20) (i := k) (n := 515) C0 hK hS (by decide) (by decide) (by decide) (by omega) rfl dX4_letter_83 ?_
        rw [(hB k (by omega)).1]
        refine lv_istore_n (lv' := [(3, .int (nI (bs M k))), (0, .ref (ad 200)), (1, .int c9), (2, .int i0), (4, .int (nI j))]) hx hb dX4_letter_84 rfl hl (by decide) rfl (fun ls hl => ?_)
        refine lv_iinc (v := nI (j + 1)) (lv' := [(4, .int (nI (j + 1))), (3, .int (nI (bs M k))), (0, .ref (ad 200)), (1, .int c9), (2, .int i0)]) hx hb dX4_letter_85 hl (k := 4) rfl (nI_1 j) (by decide) rfl (fun ls hl => ?_)
        refine lv_goto (tgt := 53) hx hb dX4_letter_88 (by decide) ?_
        exact ih (j + 1) (bs M k) (by omega) (by omega) (hB k (by omega)).2 (by rw [hF, show 515 - j = (515 - (j + 1)) + 1 by omega]; simp only [y_lw]; rw [if_pos (Int32.not_le.mp c75)]) ls (lv_sub hl [2, 3, 4, 1, 0] rfl)
theorem kX4_letter_f56 : Cond.fieldLink RX4 56 "VersionDeskModel" "hand" "[I" ∈ wsX4_letter := by decide +kernel
set_option maxHeartbeats 4000000 in
set_option maxRecDepth 100000 in
/-- letter -/
theorem c_X4_letter (l : Launch) (G : x_G) (ad : Nat → Nat) (D : Nat → Option va_E) (M : Nat → Nat → Int32) (V : Nat → Int64) (c0 i0 : Int32) (hH : H_ok M) (hB : B_ok M) : Met l yX4_letter wsX4_letter ({ frames := 2, cells := 0, slots := 0, locals := 42 } : Room) (x_Pc G ad (y_con G ad D M V) [.ref (ad 200), .int c0, .int i0]) (x_Qr (some (.int (y_lt M V c0 i0)))) 0 0 (fun _ => False) := by
  refine x_met (cc := cX4_letter) (maxL := 5) (ret := (some .int)) (by decide) rfl _ (Nat.le_of_ble_eq_true rfl) ?_
  intro p e s m args below meth c C0 hini hK hS ls hl
  have hl : lv_has ls 5 [(0, .ref (ad 200)), (1, .int c0), (2, .int i0)] := hl
  obtain ⟨hx, hb, hr, hml, hown, hts, hlk⟩ := id C0
  refine lv_iload_n hx hb dX4_letter_0 rfl (lv_at hl 1 rfl) ?_
  refine x_callr (x_rS C0 hl.1 hK hS (c_X4_isColumn l G ad D M V c0) gX4_letter_X4_isColumn 1 rfl rfl rfl (by decide +kernel) ⟨Nat.le_of_ble_eq_true rfl, Nat.le_of_ble_eq_true rfl⟩ rfl rfl (Nat.le_of_ble_eq_true rfl) dX4_letter_1 ⟨Nat.le_of_ble_eq_true rfl, Nat.le_of_ble_eq_true rfl⟩) ?_
  show W _ _ _ _ _ _ _ _ _ _ _ _ _ _ _ (F0 m 4 ls [.int (zb (m_in c0 0 (nI 7)))])
  refine lv_if_eq (tgt := 41) hx hb dX4_letter_4 (by decide) (fun c4 => ?_) (fun c4 => ?_)
  · refine lv_iconst (v := (-1)) hx hb dX4_letter_41 (by decide) ?_
    exact x_reti C0 (by unfold y_lt; rw [if_neg (fun q => by rw [zb_eq c4] at q; exact absurd q.1 (by decide))]) dX4_letter_42
  · have hcc := zb_ne c4
    obtain ⟨i, hi, rfl⟩ := m_in_of (n := 7) (by decide) (zb_ne c4)
    have hci : (nI i).toNatClampNeg = i := nI_clamp (by omega)
    obtain ⟨hH1, hH2, hH3⟩ := hH i (by omega)
    refine lv_aload_n hx hb dX4_letter_7 rfl (lv_at hl 0 rfl) ?_
    refine lv_aload_n hx hb dX4_letter_8 rfl (lv_at hl 0 rfl) ?_
    refine y_get (j := 16) C0 hK hS (by decide) (by decide) kX4_letter_wX4 kX4_letter_f56 dX4_letter_9 ?_
    refine lv_iload_n hx hb dX4_letter_12 rfl (lv_at hl 1 rfl) ?_
    refine y_iald (j := 16) (i := i) (n := 8) C0 hK hS (by decide) (by decide) (by decide) (by omega) rfl dX4_letter_13 ?_
    refine x_callr (x_rV C0 hl.1 hK hS (c_X4_isText l G ad D M V (M 16 i) (hs M i) hH2 hH1) (show y_con G ad D M V 200 = some (x_mo ad M) from rfl) rfl gX4_letter_X4_isText 1 rfl rfl rfl (by decide +kernel) ⟨Nat.le_of_ble_eq_true rfl, Nat.le_of_ble_eq_true rfl⟩ rfl rfl (Nat.le_of_ble_eq_true rfl) dX4_letter_14 ⟨Nat.le_of_ble_eq_true rfl, Nat.le_of_ble_eq_true rfl⟩) ?_
    show W _ _ _ _ _ _ _ _ _ _ _ _ _ _ _ (F0 m 17 ls [.int (zb (y_tx M (M 16 i)))])
    refine lv_if_eq (tgt := 41) hx hb dX4_letter_17 (by decide) (fun c17 => ?_) (fun c17 => ?_)
    · refine lv_iconst (v := (-1)) hx hb dX4_letter_41 (by decide) ?_
      exact x_reti C0 (by unfold y_lt; rw [if_neg (fun q => by rw [hci, zb_eq c17] at q; exact absurd q.2.1 (by decide))]) dX4_letter_42
    · refine lv_iload_n hx hb dX4_letter_20 rfl (lv_at hl 2 rfl) ?_
      refine lv_iconst (v := 0) hx hb dX4_letter_21 (by decide) ?_
      refine lv_aload_n hx hb dX4_letter_22 rfl (lv_at hl 0 rfl) ?_
      refine y_get (j := 21) C0 hK hS (by decide) (by decide) kX4_letter_wX4 kX4_letter_f69 dX4_letter_23 ?_
      refine lv_aload_n hx hb dX4_letter_26 rfl (lv_at hl 0 rfl) ?_
      refine y_get (j := 16) C0 hK hS (by decide) (by decide) kX4_letter_wX4 kX4_letter_f56 dX4_letter_27 ?_
      refine lv_iload_n hx hb dX4_letter_30 rfl (lv_at hl 1 rfl) ?_
      refine y_iald (j := 16) (i := i) (n := 8) C0 hK hS (by decide) (by decide) (by decide) (by omega) rfl dX4_letter_31 ?_
      rw [hH3 (zb_ne c17)]
      refine y_iald (j := 21) (i := hs M i) (n := 515) C0 hK hS (by decide) (by decide) (by decide) hH2 rfl dX4_letter_32 ?_
      refine lv_iconst (v := 1) hx hb dX4_letter_33 (by decide) ?_
      refine lv_isub hx hb dX4_letter_34 ?_
      refine x_callr (x_rS C0 hl.1 hK hS (c_X4_in l G ad D M V i0 0 ((M 21 (hs M i)) - 1)) gX4_letter_X4_in 3 rfl rfl rfl (by decide +kernel) ⟨Nat.le_of_ble_eq_true rfl, Nat.le_of_ble_eq_true rfl⟩ rfl rfl (Nat.le_of_ble_eq_true rfl) dX4_letter_35 ⟨Nat.le_of_ble_eq_true rfl, Nat.le_of_ble_eq_true rfl⟩) ?_
      show W _ _ _ _ _ _ _ _ _ _ _ _ _ _ _ (F0 m 38 ls [.int (zb (m_in i0 0 ((M 21 (hs M i)) - 1)))])
      refine lv_if_ne (tgt := 43) hx hb dX4_letter_38 (by decide) (fun c38 => ?_) (fun c38 => ?_)
      · refine lv_aload_n hx hb dX4_letter_43 rfl (lv_at hl 0 rfl) ?_
        refine y_get (j := 16) C0 hK hS (by decide) (by decide) kX4_letter_wX4 kX4_letter_f56 dX4_letter_44 ?_
        refine lv_iload_n hx hb dX4_letter_47 rfl (lv_at hl 1 rfl) ?_
        refine y_iald (j := 16) (i := i) (n := 8) C0 hK hS (by decide) (by decide) (by decide) (by omega) rfl dX4_letter_48 ?_
        rw [hH3 (zb_ne c17)]
        refine lv_istore_n (lv' := [(3, .int (nI (hs M i))), (0, .ref (ad 200)), (1, .int (nI i)), (2, .int i0)]) hx hb dX4_letter_49 rfl hl (by decide) rfl (fun ls hl => ?_)
        refine lv_iconst (v := 0) hx hb dX4_letter_50 (by decide) ?_
        refine lv_istore (lv' := [(4, .int 0), (3, .int (nI (hs M i))), (0, .ref (ad 200)), (1, .int (nI i)), (2, .int i0)]) hx hb dX4_letter_51 hl (by decide) rfl (fun ls hl => ?_)
        rw [show y_lt M V (nI i) i0 = y_lb M V i0 (y_lw M i0 515 (hs M i)) from (by unfold y_lt; rw [hci, if_pos ⟨hcc, zb_ne c17, zb_ne c38⟩])]
        exact l_X4_letter C0 hK hB hS 516 0 _ (by omega) (by omega) hH2 rfl ls (lv_sub hl [2, 3, 4, 1, 0] rfl)
      · refine lv_iconst (v := (-1)) hx hb dX4_letter_41 (by decide) ?_
        exact x_reti C0 (by unfold y_lt; rw [if_neg (fun q => by rw [hci, zb_eq c38] at q; exact absurd q.2.2 (by decide))]) dX4_letter_42
