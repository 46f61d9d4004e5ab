theorem kX3_clear_wX3 : ∀ w ∈ u_ws RX3 TX3 3, w ∈ wsX3_clear := by decide +kernel
theorem kX3_clear_f12 : Cond.fieldLink RX3 12 "VersionDesk" "hand" "LVersionDesk$Row;" ∈ wsX3_clear := by decide +kernel
set_option maxHeartbeats 4000000 in
set_option maxRecDepth 100000 in
/-- clear -/
theorem c_X3_clear (l : Launch) (G : x_G) (ad : Nat → Nat) (R : Nat → Nat → Int32) (N : Nat → Int64) (tl : Nat → Bool) (T : Nat → Nat → Int32) (pl : Nat → Bool) (P : Nat → Nat → Int32) (X : Nat → Option va_E)  : Met l yX3_clear wsX3_clear ({ frames := 2, cells := 0, slots := 0, locals := 43 } : Room) (x_Pc G ad (x_con G ad R N tl T pl P X) [.ref (ad 0)]) (x_Qw G ad (x_con G ad (h_cl R) N tl T pl P X) none) 0 0 (x_A G) := by
  refine x_met (cc := cX3_clear) (maxL := 1) (ret := none) (by decide) rfl _ (Nat.le_of_ble_eq_true rfl) ?_
  intro p e s m args below meth c C0 hini hK hS ls hl
  have hl : lv_has ls 1 [(0, .ref (ad 0))] := hl
  obtain ⟨hx, hb, hr, hml, hown, hts, hlk⟩ := id C0
  refine lv_aload_n hx hb dX3_clear_0 rfl (lv_at hl 0 rfl) ?_
  refine x_dget (j := 0) C0 hK hS (by decide) kX3_clear_wX3 kX3_clear_f12 dX3_clear_1 ?_
  refine x_callw hS (x_rV C0 hl.1 hK hS (c_X1_makeAllNull l G ad R N tl T pl P X) (x_con_0 (k := 1) (by omega)) rfl gX3_clear_X1_makeAllNull 0 rfl rfl rfl (by decide +kernel) ⟨Nat.le_of_ble_eq_true rfl, Nat.le_of_ble_eq_true rfl⟩ rfl rfl (Nat.le_of_ble_eq_true rfl) dX3_clear_4 ⟨Nat.le_of_ble_eq_true rfl, Nat.le_of_ble_eq_true rfl⟩) (fun H locs hS => ?_)
  show W _ _ _ _ _ _ _ _ _ _ _ _ _ _ _ (F0 m 7 ls [])
  exact x_wretv C0 hS rfl dX3_clear_7
theorem kX3_kind_wX3 : ∀ w ∈ u_ws RX3 TX3 3, w ∈ wsX3_kind := by decide +kernel
theorem kX3_kind_f12 : Cond.fieldLink RX3 12 "VersionDesk" "hand" "LVersionDesk$Row;" ∈ wsX3_kind := by decide +kernel
set_option maxHeartbeats 4000000 in
set_option maxRecDepth 100000 in
/-- kind -/
theorem c_X3_kind (l : Launch) (G : x_G) (ad : Nat → Nat) (R : Nat → Nat → Int32) (N : Nat → Int64) (tl : Nat → Bool) (T : Nat → Nat → Int32) (pl : Nat → Bool) (P : Nat → Nat → Int32) (X : Nat → Option va_E) (c0 : Int32) : Met l yX3_kind wsX3_kind ({ frames := 2, cells := 0, slots := 0, locals := 41 } : Room) (x_Pc G ad (x_con G ad R N tl T pl P X) [.ref (ad 0), .int c0]) (x_Qr (some (.int (h_kd R c0)))) 0 0 (fun _ => False) := by
  refine x_met (cc := cX3_kind) (maxL := 2) (ret := (some .int)) (by decide) rfl _ (Nat.le_of_ble_eq_true rfl) ?_
  intro p e s m args below meth c C0 hini hK hS ls hl
  have hl : lv_has ls 2 [(0, .ref (ad 0)), (1, .int c0)] := hl
  obtain ⟨hx, hb, hr, hml, hown, hts, hlk⟩ := id C0
  refine lv_aload_n hx hb dX3_kind_0 rfl (lv_at hl 0 rfl) ?_
  refine x_dget (j := 0) C0 hK hS (by decide) kX3_kind_wX3 kX3_kind_f12 dX3_kind_1 ?_
  refine lv_iload_n hx hb dX3_kind_4 rfl (lv_at hl 1 rfl) ?_
  refine x_callr (x_rV C0 hl.1 hK hS (c_X1_kindAt l G ad R N tl T pl P X c0) (x_con_0 (k := 1) (by omega)) rfl gX3_kind_X1_kindAt 1 rfl rfl rfl (by decide +kernel) ⟨Nat.le_of_ble_eq_true rfl, Nat.le_of_ble_eq_true rfl⟩ rfl rfl (Nat.le_of_ble_eq_true rfl) dX3_kind_5 ⟨Nat.le_of_ble_eq_true rfl, Nat.le_of_ble_eq_true rfl⟩) ?_
  show W _ _ _ _ _ _ _ _ _ _ _ _ _ _ _ (F0 m 8 ls [.int (h_kd R c0)])
  exact x_reti C0 (rfl) dX3_kind_8
theorem kX3_letter_wX3 : ∀ w ∈ u_ws RX3 TX3 3, w ∈ wsX3_letter := by decide +kernel
theorem kX3_letter_f12 : Cond.fieldLink RX3 12 "VersionDesk" "hand" "LVersionDesk$Row;" ∈ wsX3_letter := by decide +kernel
set_option maxHeartbeats 4000000 in
set_option maxRecDepth 100000 in
/-- letter -/
theorem c_X3_letter (l : Launch) (G : x_G) (ad : Nat → Nat) (R : Nat → Nat → Int32) (N : Nat → Int64) (tl : Nat → Bool) (T : Nat → Nat → Int32) (pl : Nat → Bool) (P : Nat → Nat → Int32) (X : Nat → Option va_E) (c0 i0 : Int32) (hR : h_ok R) : Met l yX3_letter wsX3_letter ({ frames := 3, cells := 0, slots := 0, locals := 63 } : Room) (x_Pc G ad (x_con G ad R N tl T pl P X) [.ref (ad 0), .int c0, .int i0]) (x_Qr (some (.int (h_lt R c0 i0)))) 0 0 (fun _ => False) := by
  refine x_met (cc := cX3_letter) (maxL := 3) (ret := (some .int)) (by decide) rfl _ (Nat.le_of_ble_eq_true rfl) ?_
  intro p e s m args below meth c C0 hini hK hS ls hl
  have hl : lv_has ls 3 [(0, .ref (ad 0)), (1, .int c0), (2, .int i0)] := hl
  obtain ⟨hx, hb, hr, hml, hown, hts, hlk⟩ := id C0
  refine lv_aload_n hx hb dX3_letter_0 rfl (lv_at hl 0 rfl) ?_
  refine x_dget (j := 0) C0 hK hS (by decide) kX3_letter_wX3 kX3_letter_f12 dX3_letter_1 ?_
  refine lv_iload_n hx hb dX3_letter_4 rfl (lv_at hl 1 rfl) ?_
  refine lv_iload_n hx hb dX3_letter_5 rfl (lv_at hl 2 rfl) ?_
  refine x_callr (x_rV C0 hl.1 hK hS (c_X1_letterAt l G ad R N tl T pl P X c0 i0 hR) (x_con_0 (k := 1) (by omega)) rfl gX3_letter_X1_letterAt 2 rfl rfl rfl (by decide +kernel) ⟨Nat.le_of_ble_eq_true rfl, Nat.le_of_ble_eq_true rfl⟩ rfl rfl (Nat.le_of_ble_eq_true rfl) dX3_letter_6 ⟨Nat.le_of_ble_eq_true rfl, Nat.le_of_ble_eq_true rfl⟩) ?_
  show W _ _ _ _ _ _ _ _ _ _ _ _ _ _ _ (F0 m 9 ls [.int (h_lt R c0 i0)])
  exact x_reti C0 (rfl) dX3_letter_9
def d_val (R : Nat → Nat → Int32) (N : Nat → Int64) (c : Int32) : Int64 := if h_kd R c = 1 then h_nm R N c else if h_kd R c = 2 then (h_ln R c).toInt64 else 0
theorem kX3_value_wX3 : ∀ w ∈ u_ws RX3 TX3 3, w ∈ wsX3_value := by decide +kernel
theorem kX3_value_f12 : Cond.fieldLink RX3 12 "VersionDesk" "hand" "LVersionDesk$Row;" ∈ wsX3_value := by decide +kernel
set_option maxHeartbeats 4000000 in
set_option maxRecDepth 100000 in
/-- value -/
theorem c_X3_value (l : Launch) (G : x_G) (ad : Nat → Nat) (R : Nat → Nat → Int32) (N : Nat → Int64) (tl : Nat → Bool) (T : Nat → Nat → Int32) (pl : Nat → Bool) (P : Nat → Nat → Int32) (X : Nat → Option va_E) (c0 : Int32) : Met l yX3_value wsX3_value ({ frames := 3, cells := 0, slots := 0, locals := 62 } : Room) (x_Pc G ad (x_con G ad R N tl T pl P X) [.ref (ad 0), .int c0]) (x_Qr (some (.long (d_val R N c0)))) 0 0 (fun _ => False) := by
  refine x_met (cc := cX3_value) (maxL := 2) (ret := (some .long)) (by decide) rfl _ (Nat.le_of_ble_eq_true rfl) ?_
  intro p e s m args below meth c C0 hini hK hS ls hl
  have hl : lv_has ls 2 [(0, .ref (ad 0)), (1, .int c0)] := hl
  obtain ⟨hx, hb, hr, hml, hown, hts, hlk⟩ := id C0
  refine lv_aload_n hx hb dX3_value_0 rfl (lv_at hl 0 rfl) ?_
  refine x_dget (j := 0) C0 hK hS (by decide) kX3_value_wX3 kX3_value_f12 dX3_value_1 ?_
  refine lv_iload_n hx hb dX3_value_4 rfl (lv_at hl 1 rfl) ?_
  refine x_callr (x_rV C0 hl.1 hK hS (c_X1_kindAt l G ad R N tl T pl P X c0) (x_con_0 (k := 1) (by omega)) rfl gX3_value_X1_kindAt 1 rfl rfl rfl (by decide +kernel) ⟨Nat.le_of_ble_eq_true rfl, Nat.le_of_ble_eq_true rfl⟩ rfl rfl (Nat.le_of_ble_eq_true rfl) dX3_value_5 ⟨Nat.le_of_ble_eq_true rfl, Nat.le_of_ble_eq_true rfl⟩) ?_
  show W _ _ _ _ _ _ _ _ _ _ _ _ _ _ _ (F0 m 8 ls [.int (h_kd R c0)])
  by_cases s8_1 : h_kd R c0 = 1
  · refine lv_lookup (off := 28) (tgt := 36) hx hb dX3_value_8 (by decide) (by rw [s8_1] <;> rfl) (by decide) ?_
    refine lv_aload_n hx hb dX3_value_36 rfl (lv_at hl 0 rfl) ?_
    refine x_dget (j := 0) C0 hK hS (by decide) kX3_value_wX3 kX3_value_f12 dX3_value_37 ?_
    refine lv_iload_n hx hb dX3_value_40 rfl (lv_at hl 1 rfl) ?_
    refine x_callr (x_rV C0 hl.1 hK hS (c_X1_numberAt l G ad R N tl T pl P X c0) (x_con_0 (k := 1) (by omega)) rfl gX3_value_X1_numberAt 1 rfl rfl rfl (by decide +kernel) ⟨Nat.le_of_ble_eq_true rfl, Nat.le_of_ble_eq_true rfl⟩ rfl rfl (Nat.le_of_ble_eq_true rfl) dX3_value_41 ⟨Nat.le_of_ble_eq_true rfl, Nat.le_of_ble_eq_true rfl⟩) ?_
    show W _ _ _ _ _ _ _ _ _ _ _ _ _ _ _ (F0 m 44 ls [.long (h_nm R N c0)])
    exact x_retl C0 (by unfold d_val; rw [if_pos s8_1]) dX3_value_44
  by_cases s8_2 : h_kd R c0 = 2
  · refine lv_lookup (off := 37) (tgt := 45) hx hb dX3_value_8 (by decide) (by rw [s8_2] <;> rfl) (by decide) ?_
    refine lv_aload_n hx hb dX3_value_45 rfl (lv_at hl 0 rfl) ?_
    refine x_dget (j := 0) C0 hK hS (by decide) kX3_value_wX3 kX3_value_f12 dX3_value_46 ?_
    refine lv_iload_n hx hb dX3_value_49 rfl (lv_at hl 1 rfl) ?_
    refine x_callr (x_rV C0 hl.1 hK hS (c_X1_lengthAt l G ad R N tl T pl P X c0) (x_con_0 (k := 1) (by omega)) rfl gX3_value_X1_lengthAt 1 rfl rfl rfl (by decide +kernel) ⟨Nat.le_of_ble_eq_true rfl, Nat.le_of_ble_eq_true rfl⟩ rfl rfl (Nat.le_of_ble_eq_true rfl) dX3_value_50 ⟨Nat.le_of_ble_eq_true rfl, Nat.le_of_ble_eq_true rfl⟩) ?_
    show W _ _ _ _ _ _ _ _ _ _ _ _ _ _ _ (F0 m 53 ls [.int (h_ln R c0)])
    refine lv_i2l hx hb dX3_value_53 rfl ?_
    exact x_retl C0 (by unfold d_val; rw [if_neg s8_1, if_pos s8_2]) dX3_value_54
  · refine lv_lookup (off := 47) (tgt := 55) hx hb dX3_value_8 (by decide) (by rw [lv_osw s8_1 (by decide), lv_osw s8_2 (by decide)] <;> rfl) (by decide) ?_
    refine lv_lconst (v := 0) hx hb dX3_value_55 (by decide) ?_
    exact x_retl C0 (by unfold d_val; rw [if_neg s8_1, if_neg s8_2]) dX3_value_56
theorem kX3_cell_wX3 : ∀ w ∈ u_ws RX3 TX3 3, w ∈ wsX3_cell := by decide +kernel
theorem kX3_cell_f12 : Cond.fieldLink RX3 12 "VersionDesk" "hand" "LVersionDesk$Row;" ∈ wsX3_cell := by decide +kernel
set_option maxHeartbeats 4000000 in
set_option maxRecDepth 100000 in
/-- cell -/
theorem c_X3_cell (l : Launch) (G : x_G) (ad : Nat → Nat) (R : Nat → Nat → Int32) (N : Nat → Int64) (tl : Nat → Bool) (T : Nat → Nat → Int32) (pl : Nat → Bool) (P : Nat → Nat → Int32) (X : Nat → Option va_E) (c0 : Int32) (v : Int64) : Met l yX3_cell wsX3_cell ({ frames := 2, cells := 0, slots := 0, locals := 43 } : Room) (x_Pc G ad (x_con G ad R N tl T pl P X) [.ref (ad 0), .int c0, .long v]) (x_Qw G ad (x_con G ad (h_snR R c0) (h_snN N c0 v) tl T pl P X) (some (.int (zb (d_in c0 (nI 8)))))) 0 0 (x_A G) := by
  refine x_met (cc := cX3_cell) (maxL := 4) (ret := (some .boolean)) (by decide) rfl _ (Nat.le_of_ble_eq_true rfl) ?_
  intro p e s m args below meth c C0 hini hK hS ls hl
  have hl : lv_has ls 4 [(0, .ref (ad 0)), (1, .int c0), (2, .long v)] := hl
  obtain ⟨hx, hb, hr, hml, hown, hts, hlk⟩ := id C0
  refine lv_iload_n hx hb dX3_cell_0 rfl (lv_at hl 1 rfl) ?_
  refine x_callr (x_rS C0 hl.1 hK hS (c_X3_isColumn l G ad R N tl T pl P X c0) gX3_cell_X3_isColumn 1 rfl rfl rfl (by decide +kernel) ⟨Nat.le_of_ble_eq_true rfl, Nat.le_of_ble_eq_true rfl⟩ rfl rfl (Nat.le_of_ble_eq_true rfl) dX3_cell_1 ⟨Nat.le_of_ble_eq_true rfl, Nat.le_of_ble_eq_true rfl⟩) ?_
  show W _ _ _ _ _ _ _ _ _ _ _ _ _ _ _ (F0 m 4 ls [.int (zb (d_in c0 (nI 8)))])
  refine lv_if_ne (tgt := 9) hx hb dX3_cell_4 (by decide) (fun c4 => ?_) (fun c4 => ?_)
  · refine lv_aload_n hx hb dX3_cell_9 rfl (lv_at hl 0 rfl) ?_
    refine x_dget (j := 0) C0 hK hS (by decide) kX3_cell_wX3 kX3_cell_f12 dX3_cell_10 ?_
    refine lv_iload_n hx hb dX3_cell_13 rfl (lv_at hl 1 rfl) ?_
    refine lv_lload_n hx hb dX3_cell_14 rfl (lv_at hl 2 rfl) ?_
    refine x_callw hS (x_rV C0 hl.1 hK hS (c_X1_setNumber l G ad R N tl T pl P X c0 v) (x_con_0 (k := 1) (by omega)) rfl gX3_cell_X1_setNumber 2 rfl rfl rfl (by decide +kernel) ⟨Nat.le_of_ble_eq_true rfl, Nat.le_of_ble_eq_true rfl⟩ rfl rfl (Nat.le_of_ble_eq_true rfl) dX3_cell_15 ⟨Nat.le_of_ble_eq_true rfl, Nat.le_of_ble_eq_true rfl⟩) (fun H locs hS => ?_)
    show W _ _ _ _ _ _ _ _ _ _ _ _ _ _ _ (F0 m 18 ls [])
    refine lv_iconst (v := 1) hx hb dX3_cell_18 (by decide) ?_
    exact x_wretz C0 hS (rfl) (by rw [zb_ne c4]; rfl) rfl dX3_cell_19
  · refine lv_iconst (v := 0) hx hb dX3_cell_7 (by decide) ?_
    exact x_wretz C0 hS (by simp only [h_snR, h_snN]; rw [zb_eq c4]; rfl) (by rw [zb_eq c4]; rfl) rfl dX3_cell_8
def d_tb (tl : Nat → Bool) (t : Int32) : Bool := d_in t (nI 8) && tl t.toNatClampNeg
def d_tv (ad : Nat → Nat) (tl : Nat → Bool) (t : Int32) : Value := if d_tb tl t then .ref (ad (8 + t.toNatClampNeg)) else .null
theorem d_tb_in {tl : Nat → Bool} {t : Int32} (h : d_tb tl t = true) : ∃ i, i < 8 ∧ t = nI i ∧ tl i = true := by
  simp only [d_tb, Bool.and_eq_true] at h
  obtain ⟨i, h1, h2⟩ := d_in_of (n := 8) (by decide) h.1
  refine ⟨i, h1, h2, ?_⟩
  have := h.2
  rw [h2, nI_clamp (by omega)] at this
  exact this
theorem d_tb_nI {tl : Nat → Bool} {i : Nat} (h : i < 8) : d_tb tl (nI i) = tl i := by
  simp only [d_tb]
  rw [d_in_nI h (by decide), nI_clamp (by omega)]
  rfl
theorem d_tv_s {ad : Nat → Nat} {tl : Nat → Bool} {i : Nat} (h : i < 8) (hl : tl i = true) : d_tv ad tl (nI i) = .ref (ad (8 + i)) := by
  unfold d_tv
  rw [if_pos (by rw [d_tb_nI h]; exact hl), nI_clamp (by omega)]
theorem d_tv_n {ad : Nat → Nat} {tl : Nat → Bool} {t : Int32} (h : d_tb tl t = false) : d_tv ad tl t = .null := by
  unfold d_tv
  rw [h]
  rfl
def d_up (pl : Nat → Bool) (P : Nat → Nat → Int32) (p : Int32) : Bool := d_in p (nI 60) && (pl p.toNatClampNeg && !decide (P p.toNatClampNeg 0 = -1))
def d_pv (ad : Nat → Nat) (pl : Nat → Bool) (P : Nat → Nat → Int32) (p : Int32) : Value := if d_up pl P p then .ref (ad (16 + p.toNatClampNeg)) else .null
theorem d_up_in {pl : Nat → Bool} {P : Nat → Nat → Int32} {p : Int32} (h : d_up pl P p = true) : ∃ i, i < 60 ∧ p = nI i ∧ pl i = true ∧ P i 0 ≠ -1 := by
  simp only [d_up, Bool.and_eq_true, Bool.not_eq_true', decide_eq_false_iff_not] at h
  obtain ⟨i, h1, h2⟩ := d_in_of (n := 60) (by decide) h.1
  refine ⟨i, h1, h2, ?_⟩
  have := h.2
  rw [h2, nI_clamp (by omega)] at this
  exact this
theorem d_up_nI {pl : Nat → Bool} {P : Nat → Nat → Int32} {i : Nat} (h : i < 60) : d_up pl P (nI i) = (pl i && !decide (P i 0 = -1)) := by
  simp only [d_up]
  rw [d_in_nI h (by decide), nI_clamp (by omega)]
  rfl
theorem d_pv_s {ad : Nat → Nat} {pl : Nat → Bool} {P : Nat → Nat → Int32} {i : Nat} (h : i < 60) (hl : pl i = true) (h0 : P i 0 ≠ -1) : d_pv ad pl P (nI i) = .ref (ad (16 + i)) := by
  unfold d_pv
  rw [if_pos (by rw [d_up_nI h, hl, decide_eq_false h0]; rfl), nI_clamp (by omega)]
theorem d_pv_n {ad : Nat → Nat} {pl : Nat → Bool} {P : Nat → Nat → Int32} {p : Int32} (h : d_up pl P p = false) : d_pv ad pl P p = .null := by
  unfold d_pv
  rw [h]
  rfl
theorem kX3_tableAt_wX3 : ∀ w ∈ u_ws RX3 TX3 3, w ∈ wsX3_tableAt := by decide +kernel
theorem kX3_tableAt_f18 : Cond.fieldLink RX3 18 "VersionDesk" "tables" "[LVersionDesk$Table;" ∈ wsX3_tableAt := by decide +kernel
set_option maxHeartbeats 4000000 in
set_option maxRecDepth 100000 in
/-- tableAt -/
theorem c_X3_tableAt (l : Launch) (G : x_G) (ad : Nat → Nat) (R : Nat → Nat → Int32) (N : Nat → Int64) (tl : Nat → Bool) (T : Nat → Nat → Int32) (pl : Nat → Bool) (P : Nat → Nat → Int32) (X : Nat → Option va_E) (t0 : Int32) : Met l yX3_tableAt wsX3_tableAt ({ frames := 0, cells := 0, slots := 0, locals := 0 } : Room) (x_Pc G ad (x_con G ad R N tl T pl P X) [.ref (ad 0), .int t0]) (x_Qr (some (d_tv ad tl t0))) 0 0 (fun _ => False) := by
  refine x_met (cc := cX3_tableAt) (maxL := 2) (ret := (some (.object "VersionDesk$Table"))) (by decide) rfl _ (Nat.le_of_ble_eq_true rfl) ?_
  intro p e s m args below meth c C0 hini hK hS ls hl
  have hl : lv_has ls 2 [(0, .ref (ad 0)), (1, .int t0)] := hl
  obtain ⟨hx, hb, hr, hml, hown, hts, hlk⟩ := id C0
  refine lv_iload_n hx hb dX3_tableAt_0 rfl (lv_at hl 1 rfl) ?_
  refine lv_if_lt (tgt := 19) hx hb dX3_tableAt_1 (by decide) (fun c1 => ?_) (fun c1 => ?_)
  · refine lv_null hx hb dX3_tableAt_19 ?_
    exact x_reta C0 rfl (d_tv_n (by simp [d_tb, d_in, Int32.not_le.mpr c1])).symm (Or.inl rfl) dX3_tableAt_20
  · refine lv_iload_n hx hb dX3_tableAt_4 rfl (lv_at hl 1 rfl) ?_
    refine lv_bipush (v := 8) hx hb dX3_tableAt_5 (by decide) ?_
    refine lv_icmp_ge (tgt := 19) hx hb dX3_tableAt_7 (by decide) (fun c7 => ?_) (fun c7 => ?_)
    · refine lv_null hx hb dX3_tableAt_19 ?_
      exact x_reta C0 rfl (d_tv_n (by rw [d_tb, d_in, show nI 8 = (8 : Int32) from rfl, decide_eq_false (Int32.not_lt.mpr c7)]; simp)).symm (Or.inl rfl) dX3_tableAt_20
    · obtain ⟨i, hi, rfl⟩ : ∃ i, i < 8 ∧ t0 = nI i := by obtain ⟨j, h1, h2⟩ := nI_of c1; exact ⟨j, nz_nle (a := 8) c7 rfl h2 (by omega) h1, h2⟩
      refine lv_aload_n hx hb dX3_tableAt_10 rfl (lv_at hl 0 rfl) ?_
      refine x_dget (j := 1) C0 hK hS (by decide) kX3_tableAt_wX3 kX3_tableAt_f18 dX3_tableAt_11 ?_
      refine lv_iload_n hx hb dX3_tableAt_14 rfl (lv_at hl 1 rfl) ?_
      refine x_tald (i := i) C0 hK hS (by omega) rfl dX3_tableAt_15 (fun hl_t => ?_) (fun hl_t => ?_)
      · refine lv_goto (tgt := 20) hx hb dX3_tableAt_16 (by decide) ?_
        exact x_reta C0 rfl (d_tv_s hi hl_t).symm (Or.inr ⟨_, rfl⟩) dX3_tableAt_20
      · refine lv_goto (tgt := 20) hx hb dX3_tableAt_16 (by decide) ?_
        exact x_reta C0 rfl (d_tv_n (by rw [d_tb_nI hi]; exact hl_t)).symm (Or.inl rfl) dX3_tableAt_20
theorem kX3_usedPage_wX0 : ∀ w ∈ u_ws RX0 TX0 6, w ∈ wsX3_usedPage := by decide +kernel
theorem kX3_usedPage_wX3 : ∀ w ∈ u_ws RX3 TX3 3, w ∈ wsX3_usedPage := by decide +kernel
theorem kX3_usedPage_f24 : Cond.fieldLink RX3 24 "VersionDesk" "pages" "[LVersionDesk$Page;" ∈ wsX3_usedPage := by decide +kernel
theorem kX3_usedPage_f47 : Cond.fieldLink RX3 47 "VersionDesk$Page" "table" "I" ∈ wsX3_usedPage := by decide +kernel
set_option maxHeartbeats 4000000 in
set_option maxRecDepth 100000 in
/-- usedPage -/
theorem c_X3_usedPage (l : Launch) (G : x_G) (ad : Nat → Nat) (R : Nat → Nat → Int32) (N : Nat → Int64) (tl : Nat → Bool) (T : Nat → Nat → Int32) (pl : Nat → Bool) (P : Nat → Nat → Int32) (X : Nat → Option va_E) (p0 : Int32) : Met l yX3_usedPage wsX3_usedPage ({ frames := 0, cells := 0, slots := 0, locals := 0 } : Room) (x_Pc G ad (x_con G ad R N tl T pl P X) [.ref (ad 0), .int p0]) (x_Qr (some (d_pv ad pl P p0))) 0 0 (fun _ => False) := by
  refine x_met (cc := cX3_usedPage) (maxL := 3) (ret := (some (.object "VersionDesk$Page"))) (by decide) rfl _ (Nat.le_of_ble_eq_true rfl) ?_
  intro p e s m args below meth c C0 hini hK hS ls hl
  have hl : lv_has ls 3 [(0, .ref (ad 0)), (1, .int p0)] := hl
  obtain ⟨hx, hb, hr, hml, hown, hts, hlk⟩ := id C0
  refine lv_iload_n hx hb dX3_usedPage_0 rfl (lv_at hl 1 rfl) ?_
  refine lv_if_lt (tgt := 10) hx hb dX3_usedPage_1 (by decide) (fun c1 => ?_) (fun c1 => ?_)
  · refine lv_null hx hb dX3_usedPage_10 ?_
    exact x_reta C0 rfl (d_pv_n (by simp [d_up, d_in, Int32.not_le.mpr c1])).symm (Or.inl rfl) dX3_usedPage_11
  · refine lv_iload_n hx hb dX3_usedPage_4 rfl (lv_at hl 1 rfl) ?_
    refine lv_bipush (v := 60) hx hb dX3_usedPage_5 (by decide) ?_
    refine lv_icmp_lt (tgt := 12) hx hb dX3_usedPage_7 (by decide) (fun c7 => ?_) (fun c7 => ?_)
    · obtain ⟨i, hi, rfl⟩ : ∃ i, i < 60 ∧ p0 = nI i := by obtain ⟨j, h1, h2⟩ := nI_of c1; exact ⟨j, nz_lt (b := 60) c7 h2 rfl h1 (by omega), h2⟩
      refine lv_aload_n hx hb dX3_usedPage_12 rfl (lv_at hl 0 rfl) ?_
      refine x_dget (j := 2) C0 hK hS (by decide) kX3_usedPage_wX3 kX3_usedPage_f24 dX3_usedPage_13 ?_
      refine lv_iload_n hx hb dX3_usedPage_16 rfl (lv_at hl 1 rfl) ?_
      refine x_pald (i := i) C0 hK hS (by omega) rfl dX3_usedPage_17 (fun hl_p => ?_) (fun hl_p => ?_)
      · refine lv_astore_n (lv' := [(2, .ref (ad (16 + i))), (0, .ref (ad 0)), (1, .int (nI i))]) hx hb dX3_usedPage_18 rfl hl (by decide) rfl (fun ls hl => ?_)
        refine lv_aload_n hx hb dX3_usedPage_19 rfl (lv_at hl 0 rfl) ?_
        refine lv_ifnull hx hb dX3_usedPage_20 ?_
        refine lv_aload_n hx hb dX3_usedPage_23 rfl (lv_at hl 0 rfl) ?_
        refine x_pget (j := 0) C0 hK hS hi hl_p (by decide) kX3_usedPage_wX0 kX3_usedPage_f47 dX3_usedPage_24 ?_
        refine lv_iconst (v := (-1)) hx hb dX3_usedPage_27 (by decide) ?_
        refine lv_icmp_eq (tgt := 35) hx hb dX3_usedPage_28 (by decide) (fun c28 => ?_) (fun c28 => ?_)
        · refine lv_null hx hb dX3_usedPage_35 ?_
          exact x_reta C0 rfl (d_pv_n (by rw [d_up_nI hi, decide_eq_true c28]; simp)).symm (Or.inl rfl) dX3_usedPage_36
        · refine lv_aload_n hx hb dX3_usedPage_31 rfl (lv_at hl 0 rfl) ?_
          refine lv_goto (tgt := 36) hx hb dX3_usedPage_32 (by decide) ?_
          exact x_reta C0 rfl (d_pv_s hi hl_p c28).symm (Or.inr ⟨_, rfl⟩) dX3_usedPage_36
      · refine lv_astore_nN (lv' := [(2, .null), (0, .ref (ad 0)), (1, .int (nI i))]) hx hb dX3_usedPage_18 rfl hl (by decide) rfl (fun ls hl => ?_)
        refine lv_aload_nN hx hb dX3_usedPage_19 rfl (lv_at hl 0 rfl) ?_
        refine lv_ifnullN (tgt := 35) hx hb dX3_usedPage_20 (by decide) ?_
        refine lv_null hx hb dX3_usedPage_35 ?_
        exact x_reta C0 rfl (d_pv_n (by rw [d_up_nI hi, hl_p]; rfl)).symm (Or.inl rfl) dX3_usedPage_36
    · refine lv_null hx hb dX3_usedPage_10 ?_
      exact x_reta C0 rfl (d_pv_n (by rw [d_up, d_in, show nI 60 = (60 : Int32) from rfl, decide_eq_false c7]; simp)).symm (Or.inl rfl) dX3_usedPage_11
def d_wv (pl : Nat → Bool) (P : Nat → Nat → Int32) (q : Int32) : Bool := d_in q (nI 15360) && (d_up pl P (nI (q.toNatClampNeg / 256)) && pg_hd (P (q.toNatClampNeg / 256)) (q.toNatClampNeg % 256))
def d_wp (ad : Nat → Nat) (pl : Nat → Bool) (P : Nat → Nat → Int32) (q : Int32) : Value := if d_wv pl P q then .ref (ad (16 + q.toNatClampNeg / 256)) else .null
theorem d_wv_nI {pl : Nat → Bool} {P : Nat → Nat → Int32} {k : Nat} (h : k < 15360) : d_wv pl P (nI k) = (d_up pl P (nI (k / 256)) && pg_hd (P (k / 256)) (k % 256)) := by
  simp only [d_wv]
  rw [d_in_nI h (by decide), nI_clamp (by omega)]
  rfl
theorem d_wv_in {pl : Nat → Bool} {P : Nat → Nat → Int32} {q : Int32} (h : d_wv pl P q = true) : ∃ k, k < 15360 ∧ q = nI k ∧ k / 256 < 60 ∧ pl (k / 256) = true ∧ P (k / 256) 0 ≠ -1 ∧ pg_hd (P (k / 256)) (k % 256) = true := by
  have h1 := h
  simp only [d_wv, Bool.and_eq_true] at h1
  obtain ⟨k, h2, h3⟩ := d_in_of (n := 15360) (by decide) h1.1
  subst h3
  rw [d_wv_nI h2, Bool.and_eq_true] at h
  obtain ⟨i, h4, h5, h6, h7⟩ := d_up_in h.1
  have h8 : k / 256 = i := (nI_eq (by omega) (by omega)).mp h5
  subst h8
  exact ⟨k, h2, rfl, h4, h6, h7, h.2⟩
theorem d_wp_s {ad : Nat → Nat} {pl : Nat → Bool} {P : Nat → Nat → Int32} {k : Nat} (hk : k < 15360) (h : d_wv pl P (nI k) = true) : d_wp ad pl P (nI k) = .ref (ad (16 + k / 256)) := by
  unfold d_wp
  rw [if_pos h, nI_clamp (by omega)]
theorem d_wp_n {ad : Nat → Nat} {pl : Nat → Bool} {P : Nat → Nat → Int32} {q : Int32} (h : d_wv pl P q = false) : d_wp ad pl P q = .null := by
  unfold d_wp
  rw [h]
  rfl
set_option maxHeartbeats 4000000 in
set_option maxRecDepth 100000 in
/-- pageWithVersion -/
theorem c_X3_pageWithVersion (l : Launch) (G : x_G) (ad : Nat → Nat) (R : Nat → Nat → Int32) (N : Nat → Int64) (tl : Nat → Bool) (T : Nat → Nat → Int32) (pl : Nat → Bool) (P : Nat → Nat → Int32) (X : Nat → Option va_E) (q0 : Int32) : Met l yX3_pageWithVersion wsX3_pageWithVersion ({ frames := 3, cells := 0, slots := 0, locals := 68 } : Room) (x_Pc G ad (x_con G ad R N tl T pl P X) [.ref (ad 0), .int q0]) (x_Qr (some (d_wp ad pl P q0))) 0 0 (fun _ => False) := by
  refine x_met (cc := cX3_pageWithVersion) (maxL := 3) (ret := (some (.object "VersionDesk$Page"))) (by decide) rfl _ (Nat.le_of_ble_eq_true rfl) ?_
  intro p e s m args below meth c C0 hini hK hS ls hl
  have hl : lv_has ls 3 [(0, .ref (ad 0)), (1, .int q0)] := hl
  obtain ⟨hx, hb, hr, hml, hown, hts, hlk⟩ := id C0
  refine lv_iload_n hx hb dX3_pageWithVersion_0 rfl (lv_at hl 1 rfl) ?_
  refine x_callr (x_rS C0 hl.1 hK hS (c_X3_isPlace l G ad R N tl T pl P X q0) gX3_pageWithVersion_X3_isPlace 1 rfl rfl rfl (by decide +kernel) ⟨Nat.le_of_ble_eq_true rfl, Nat.le_of_ble_eq_true rfl⟩ rfl rfl (Nat.le_of_ble_eq_true rfl) dX3_pageWithVersion_1 ⟨Nat.le_of_ble_eq_true rfl, Nat.le_of_ble_eq_true rfl⟩) ?_
  show W _ _ _ _ _ _ _ _ _ _ _ _ _ _ _ (F0 m 4 ls [.int (zb (d_in q0 (nI 15360)))])
  refine lv_if_ne (tgt := 9) hx hb dX3_pageWithVersion_4 (by decide) (fun c4 => ?_) (fun c4 => ?_)
  · obtain ⟨k, hk, rfl⟩ := d_in_of (n := 15360) (by decide) (zb_ne c4)
    refine lv_aload_n hx hb dX3_pageWithVersion_9 rfl (lv_at hl 0 rfl) ?_
    refine lv_iload_n hx hb dX3_pageWithVersion_10 rfl (lv_at hl 1 rfl) ?_
    refine x_callr (x_rS C0 hl.1 hK hS (c_X3_pageOf l G ad R N tl T pl P X k (by omega)) gX3_pageWithVersion_X3_pageOf 1 rfl rfl rfl (by decide +kernel) ⟨Nat.le_of_ble_eq_true rfl, Nat.le_of_ble_eq_true rfl⟩ rfl rfl (Nat.le_of_ble_eq_true rfl) dX3_pageWithVersion_11 ⟨Nat.le_of_ble_eq_true rfl, Nat.le_of_ble_eq_true rfl⟩) ?_
    show W _ _ _ _ _ _ _ _ _ _ _ _ _ _ _ (F0 m 14 ls [.int (nI (k / 256)), .ref (ad 0)])
    cases hu : d_up pl P (nI (k / 256)) with
    | false =>
      refine x_callr (x_rV C0 hl.1 hK hS (c_X3_usedPage l G ad R N tl T pl P X (nI (k / 256))) (x_con_0 (k := 0) (by omega)) rfl gX3_pageWithVersion_X3_usedPage 1 rfl rfl rfl (by decide +kernel) ⟨Nat.le_of_ble_eq_true rfl, Nat.le_of_ble_eq_true rfl⟩ rfl rfl (Nat.le_of_ble_eq_true rfl) dX3_pageWithVersion_14 ⟨Nat.le_of_ble_eq_true rfl, Nat.le_of_ble_eq_true rfl⟩) ?_
      rw [d_pv_n hu]
      show W _ _ _ _ _ _ _ _ _ _ _ _ _ _ _ (F0 m 17 ls [.null])
      refine lv_astore_nN (lv' := [(2, .null), (0, .ref (ad 0)), (1, .int (nI k))]) hx hb dX3_pageWithVersion_17 rfl hl (by decide) rfl (fun ls hl => ?_)
      refine lv_aload_nN hx hb dX3_pageWithVersion_18 rfl (lv_at hl 0 rfl) ?_
      refine lv_ifnullN (tgt := 37) hx hb dX3_pageWithVersion_19 (by decide) ?_
      refine lv_null hx hb dX3_pageWithVersion_37 ?_
      exact x_reta C0 rfl (d_wp_n (by rw [d_wv_nI hk, hu]; rfl)).symm (Or.inl rfl) dX3_pageWithVersion_38
    | true =>
      obtain ⟨i, hi, hki, hl_p, hp0⟩ := d_up_in hu
      have hki : k / 256 = i := (nI_eq (by omega) (by omega)).mp hki
      subst hki
      refine x_callr (x_rV C0 hl.1 hK hS (c_X3_usedPage l G ad R N tl T pl P X (nI (k / 256))) (x_con_0 (k := 0) (by omega)) rfl gX3_pageWithVersion_X3_usedPage 1 rfl rfl rfl (by decide +kernel) ⟨Nat.le_of_ble_eq_true rfl, Nat.le_of_ble_eq_true rfl⟩ rfl rfl (Nat.le_of_ble_eq_true rfl) dX3_pageWithVersion_14 ⟨Nat.le_of_ble_eq_true rfl, Nat.le_of_ble_eq_true rfl⟩) ?_
      rw [d_pv_s hi hl_p hp0]
      show W _ _ _ _ _ _ _ _ _ _ _ _ _ _ _ (F0 m 17 ls [.ref (ad (16 + k / 256))])
      refine lv_astore_n (lv' := [(2, .ref (ad (16 + k / 256))), (0, .ref (ad 0)), (1, .int (nI k))]) hx hb dX3_pageWithVersion_17 rfl hl (by decide) rfl (fun ls hl => ?_)
      refine lv_aload_n hx hb dX3_pageWithVersion_18 rfl (lv_at hl 0 rfl) ?_
      refine lv_ifnull hx hb dX3_pageWithVersion_19 ?_
      refine lv_aload_n hx hb dX3_pageWithVersion_22 rfl (lv_at hl 0 rfl) ?_
      refine lv_iload_n hx hb dX3_pageWithVersion_23 rfl (lv_at hl 2 rfl) ?_
      refine x_callr (x_rS C0 hl.1 hK hS (c_X3_slotOf l G ad R N tl T pl P X k (by omega)) gX3_pageWithVersion_X3_slotOf 1 rfl rfl rfl (by decide +kernel) ⟨Nat.le_of_ble_eq_true rfl, Nat.le_of_ble_eq_true rfl⟩ rfl rfl (Nat.le_of_ble_eq_true rfl) dX3_pageWithVersion_24 ⟨Nat.le_of_ble_eq_true rfl, Nat.le_of_ble_eq_true rfl⟩) ?_
      show W _ _ _ _ _ _ _ _ _ _ _ _ _ _ _ (F0 m 27 ls [.int (nI (k % 256)), .ref (ad (16 + k / 256))])
      refine x_callr (x_rV C0 hl.1 hK hS (c_X0_holds l G ad R N tl T pl P X (k / 256) (k % 256) hi hl_p (by omega)) (x_con_p hi hl_p) rfl gX3_pageWithVersion_X0_holds 1 rfl rfl rfl (by decide +kernel) ⟨Nat.le_of_ble_eq_true rfl, Nat.le_of_ble_eq_true rfl⟩ rfl rfl (Nat.le_of_ble_eq_true rfl) dX3_pageWithVersion_27 ⟨Nat.le_of_ble_eq_true rfl, Nat.le_of_ble_eq_true rfl⟩) ?_
      show W _ _ _ _ _ _ _ _ _ _ _ _ _ _ _ (F0 m 30 ls [.int (zb (pg_hd (P (k / 256)) (k % 256)))])
      refine lv_if_eq (tgt := 37) hx hb dX3_pageWithVersion_30 (by decide) (fun c30 => ?_) (fun c30 => ?_)
      · refine lv_null hx hb dX3_pageWithVersion_37 ?_
        exact x_reta C0 rfl (d_wp_n (by rw [d_wv_nI hk, zb_eq c30, Bool.and_false])).symm (Or.inl rfl) dX3_pageWithVersion_38
      · refine lv_aload_n hx hb dX3_pageWithVersion_33 rfl (lv_at hl 0 rfl) ?_
        refine lv_goto (tgt := 38) hx hb dX3_pageWithVersion_34 (by decide) ?_
        exact x_reta C0 rfl (d_wp_s hk (by rw [d_wv_nI hk, hu, zb_ne c30]; rfl)).symm (Or.inr ⟨_, rfl⟩) dX3_pageWithVersion_38
  · refine lv_null hx hb dX3_pageWithVersion_7 ?_
    exact x_reta C0 rfl (d_wp_n (by rw [d_wv, zb_eq c4]; rfl)).symm (Or.inl rfl) dX3_pageWithVersion_8
