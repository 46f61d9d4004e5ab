-- ===== the reference: fits, sizeOf =====
theorem zb_1 {b : Bool} (h : zb b = 1) : b = true := by cases b <;> simp_all [zb]
theorem zb_n1 {b : Bool} (h : ¬ zb b = 1) : b = false := by cases b <;> simp_all [zb]
def y_f1 (M : Nat → Nat → Int32) (t c : Nat) : Bool := decide (M 16 c = 0) || (y_tx M (M 16 c) == decide (M 1 (8 * t + c) = 2))
def y_ft (M : Nat → Nat → Int32) (t : Nat) : Nat → Bool
  | 0 => true
  | c + 1 => y_ft M t c && y_f1 M t c
def y_sz (M : Nat → Nat → Int32) (t : Nat) : Nat → Int32
  | 0 => 16
  | c + 1 => if M 16 c = 0 then y_sz M t c else if M 1 (8 * t + c) = 1 then y_sz M t c + 8 else if M 1 (8 * t + c) = 3 then y_sz M t c + 1 else y_sz M t c + 1 + M 21 (hs M c)
theorem kX4_fits_wX4 : ∀ w ∈ u_ws RX4 TX4 22, w ∈ wsX4_fits := by decide +kernel
theorem kX4_fits_f13 : Cond.fieldLink RX4 13 "VersionDeskModel" "types" "[I" ∈ wsX4_fits := by decide +kernel
theorem kX4_fits_f56 : Cond.fieldLink RX4 56 "VersionDeskModel" "hand" "[I" ∈ wsX4_fits := by decide +kernel
theorem kX4_fits_f7 : Cond.fieldLink RX4 7 "VersionDeskModel" "columns" "[I" ∈ wsX4_fits := by decide +kernel
set_option maxHeartbeats 4000000 in
set_option maxRecDepth 100000 in
theorem l_X4_fits {p : Program} {l : Launch} {e : Env} {s : State} {m : MethodId} {args : Array Value} {below : List Frame} {meth : Method} {c : Code} {G : x_G} {ad : Nat → Nat} {D : Nat → Option va_E} {M : Nat → Nat → Int32} {V : Nat → Int64} (C0 : x_B p s m meth c args cX4_fits 4 (some .boolean) RX4 wsX4_fits) (hK : x_K G s) {t m1 : Nat} (ht : t < 8) (hm1 : m1 ≤ 8) (hcol : M 0 t = nI m1) {r : Bool} (hH : H_ok M) (hr9 : r = y_ft M t m1) (hS : x_H G ad (y_con G ad D M V) s.heap []) : ∀ (d : Nat) (c1 : Nat) (b : Bool), m1 - c1 < d → c1 ≤ m1 → b = y_ft M t c1 → ∀ (ls : Array Slot), lv_has ls 4 [(0, .ref (ad 200)), (1, .int (nI t)), (2, .int (zb b)), (3, .int (nI c1))] → W p l e ({ frames := 2, cells := 0, slots := 0, locals := 41 } : Room) s m args below meth c s.heap [] 0 0 (MQ below (x_Qr (some (.int (zb r)))) args s 0 0 (fun _ => False)) (F0 m 4 ls []) := by
  obtain ⟨hx, hb, hr, hml, hown, hts, hlk⟩ := id C0
  intro d
  induction d with
  | zero =>
    intro c1 b hd hc hF ls hl
    exact absurd hd (by omega)
  | succ d ih =>
    intro c1 b hd hc hF ls hl
    refine lv_iload_n hx hb dX4_fits_4 rfl (lv_at hl 3 rfl) ?_
    refine lv_aload_n hx hb dX4_fits_5 rfl (lv_at hl 0 rfl) ?_
    refine y_get (j := 0) C0 hK hS (by decide) (by decide) kX4_fits_wX4 kX4_fits_f7 dX4_fits_6 ?_
    refine lv_iload_n hx hb dX4_fits_9 rfl (lv_at hl 1 rfl) ?_
    refine y_iald (j := 0) (i := t) (n := 8) C0 hK hS (by decide) (by decide) (by decide) (by omega) rfl dX4_fits_10 ?_
    refine lv_icmp_ge (tgt := 72) hx hb dX4_fits_11 (by decide) (fun c11 => ?_) (fun c11 => ?_)
    · have hc2 := nz_le c11 hcol rfl (by omega) (by omega)
      refine lv_iload_n hx hb dX4_fits_72 rfl (lv_at hl 2 rfl) ?_
      exact x_retz C0 (by rw [hr9, hF, show c1 = m1 by omega]) (zb_nar _) dX4_fits_73
    · have hc2 := nz_nle c11 hcol rfl (by omega) (by omega)
      obtain ⟨hH1, hH2, hH3⟩ := hH c1 (by omega)
      refine lv_iload_n hx hb dX4_fits_14 rfl (lv_at hl 2 rfl) ?_
      refine lv_if_eq (tgt := 64) hx hb dX4_fits_15 (by decide) (fun c15 => ?_) (fun c15 => ?_)
      · refine lv_iconst (v := 0) hx hb dX4_fits_64 (by decide) ?_
        refine lv_istore_n (lv' := [(2, .int 0), (0, .ref (ad 200)), (1, .int (nI t)), (3, .int (nI c1))]) hx hb dX4_fits_65 rfl hl (by decide) rfl (fun ls hl => ?_)
        refine lv_iinc (v := nI (c1 + 1)) (lv' := [(3, .int (nI (c1 + 1))), (2, .int 0), (0, .ref (ad 200)), (1, .int (nI t))]) hx hb dX4_fits_66 hl (k := 3) rfl (nI_1 c1) (by decide) rfl (fun ls hl => ?_)
        refine lv_goto (tgt := 4) hx hb dX4_fits_69 (by decide) ?_
        exact ih (c1 + 1) false (by omega) (by omega) (by simp only [y_ft]; rw [← hF, zb_eq c15]; rfl) ls (by have := lv_sub hl [2, 3, 1, 0] rfl; exact this)
      · refine lv_aload_n hx hb dX4_fits_18 rfl (lv_at hl 0 rfl) ?_
        refine y_get (j := 16) C0 hK hS (by decide) (by decide) kX4_fits_wX4 kX4_fits_f56 dX4_fits_19 ?_
        refine lv_iload_n hx hb dX4_fits_22 rfl (lv_at hl 3 rfl) ?_
        refine y_iald (j := 16) (i := c1) (n := 8) C0 hK hS (by decide) (by decide) (by decide) (by omega) rfl dX4_fits_23 ?_
        refine lv_if_eq (tgt := 60) hx hb dX4_fits_24 (by decide) (fun c24 => ?_) (fun c24 => ?_)
        · refine lv_iconst (v := 1) hx hb dX4_fits_60 (by decide) ?_
          refine lv_goto (tgt := 65) hx hb dX4_fits_61 (by decide) ?_
          refine lv_istore_n (lv' := [(2, .int 1), (0, .ref (ad 200)), (1, .int (nI t)), (3, .int (nI c1))]) hx hb dX4_fits_65 rfl hl (by decide) rfl (fun ls hl => ?_)
          refine lv_iinc (v := nI (c1 + 1)) (lv' := [(3, .int (nI (c1 + 1))), (2, .int 1), (0, .ref (ad 200)), (1, .int (nI t))]) hx hb dX4_fits_66 hl (k := 3) rfl (nI_1 c1) (by decide) rfl (fun ls hl => ?_)
          refine lv_goto (tgt := 4) hx hb dX4_fits_69 (by decide) ?_
          have h1 : y_f1 M t c1 = true := by unfold y_f1; rw [decide_eq_true c24]; rfl
          exact ih (c1 + 1) true (by omega) (by omega) (by simp only [y_ft]; rw [← hF, zb_ne c15, h1]; rfl) ls (lv_sub hl [2, 3, 1, 0] rfl)
        · refine lv_aload_n hx hb dX4_fits_27 rfl (lv_at hl 0 rfl) ?_
          refine lv_aload_n hx hb dX4_fits_28 rfl (lv_at hl 0 rfl) ?_
          refine y_get (j := 16) C0 hK hS (by decide) (by decide) kX4_fits_wX4 kX4_fits_f56 dX4_fits_29 ?_
          refine lv_iload_n hx hb dX4_fits_32 rfl (lv_at hl 3 rfl) ?_
          refine y_iald (j := 16) (i := c1) (n := 8) C0 hK hS (by decide) (by decide) (by decide) (by omega) rfl dX4_fits_33 ?_
          refine x_callr (x_rV C0 hl.1 hK hS (c_X4_isText l G ad D M V (M 16 c1) (hs M c1) hH2 hH1) (show y_con G ad D M V 200 = some (x_mo ad M) from rfl) rfl gX4_fits_X4_isText 1 rfl rfl rfl (by decide +kernel) ⟨Nat.le_of_ble_eq_true rfl, Nat.le_of_ble_eq_true rfl⟩ rfl rfl (Nat.le_of_ble_eq_true rfl) dX4_fits_34 ⟨Nat.le_of_ble_eq_true rfl, Nat.le_of_ble_eq_true rfl⟩) ?_
          show W _ _ _ _ _ _ _ _ _ _ _ _ _ _ _ (F0 m 37 ls [.int (zb (y_tx M (M 16 c1)))])
          refine lv_aload_n hx hb dX4_fits_37 rfl (lv_at hl 0 rfl) ?_
          refine y_get (j := 1) C0 hK hS (by decide) (by decide) kX4_fits_wX4 kX4_fits_f13 dX4_fits_38 ?_
          refine lv_bipush (v := 8) hx hb dX4_fits_41 (by decide) ?_
          refine lv_iload_n hx hb dX4_fits_43 rfl (lv_at hl 1 rfl) ?_
          refine lv_imul hx hb dX4_fits_44 ?_
          refine lv_iload_n hx hb dX4_fits_45 rfl (lv_at hl 3 rfl) ?_
          refine lv_iadd hx hb dX4_fits_46 ?_
          rw [show (8 : Int32) * nI t + nI c1 = nI (8 * t + c1) from (by rw [show (8 : Int32) * nI t = nI (8 * t) from pk_mul 8 t]; exact nI_add _ _)]
          refine y_iald (j := 1) (i := 8 * t + c1) (n := 64) C0 hK hS (by decide) (by decide) (by decide) (by omega) rfl dX4_fits_47 ?_
          refine lv_iconst (v := 2) hx hb dX4_fits_48 (by decide) ?_
          refine lv_icmp_ne (tgt := 56) hx hb dX4_fits_49 (by decide) (fun c49 => ?_) (fun c49 => ?_)
          · refine lv_iconst (v := 0) hx hb dX4_fits_56 (by decide) ?_
            refine lv_icmp_ne (tgt := 64) hx hb dX4_fits_57 (by decide) (fun c57 => ?_) (fun c57 => ?_)
            · refine lv_iconst (v := 0) hx hb dX4_fits_64 (by decide) ?_
              refine lv_istore_n (lv' := [(2, .int 0), (0, .ref (ad 200)), (1, .int (nI t)), (3, .int (nI c1))]) hx hb dX4_fits_65 rfl hl (by decide) rfl (fun ls hl => ?_)
              refine lv_iinc (v := nI (c1 + 1)) (lv' := [(3, .int (nI (c1 + 1))), (2, .int 0), (0, .ref (ad 200)), (1, .int (nI t))]) hx hb dX4_fits_66 hl (k := 3) rfl (nI_1 c1) (by decide) rfl (fun ls hl => ?_)
              refine lv_goto (tgt := 4) hx hb dX4_fits_69 (by decide) ?_
              have h1 : y_f1 M t c1 = false := by unfold y_f1; rw [decide_eq_false c24, decide_eq_false c49, zb_ne c57]; rfl
              exact ih (c1 + 1) false (by omega) (by omega) (by simp only [y_ft]; rw [← hF, zb_ne c15, h1]; rfl) ls (lv_sub hl [2, 3, 1, 0] rfl)
            · refine lv_iconst (v := 1) hx hb dX4_fits_60 (by decide) ?_
              refine lv_goto (tgt := 65) hx hb dX4_fits_61 (by decide) ?_
              refine lv_istore_n (lv' := [(2, .int 1), (0, .ref (ad 200)), (1, .int (nI t)), (3, .int (nI c1))]) hx hb dX4_fits_65 rfl hl (by decide) rfl (fun ls hl => ?_)
              refine lv_iinc (v := nI (c1 + 1)) (lv' := [(3, .int (nI (c1 + 1))), (2, .int 1), (0, .ref (ad 200)), (1, .int (nI t))]) hx hb dX4_fits_66 hl (k := 3) rfl (nI_1 c1) (by decide) rfl (fun ls hl => ?_)
              refine lv_goto (tgt := 4) hx hb dX4_fits_69 (by decide) ?_
              have h1 : y_f1 M t c1 = true := by unfold y_f1; rw [decide_eq_false c24, decide_eq_false c49, zb_eq c57]; rfl
              exact ih (c1 + 1) true (by omega) (by omega) (by simp only [y_ft]; rw [← hF, zb_ne c15, h1]; rfl) ls (lv_sub hl [2, 3, 1, 0] rfl)
          · refine lv_iconst (v := 1) hx hb dX4_fits_52 (by decide) ?_
            refine lv_goto (tgt := 57) hx hb dX4_fits_53 (by decide) ?_
            refine lv_icmp_ne (tgt := 64) hx hb dX4_fits_57 (by decide) (fun c57 => ?_) (fun c57 => ?_)
            · refine lv_iconst (v := 0) hx hb dX4_fits_64 (by decide) ?_
              refine lv_istore_n (lv' := [(2, .int 0), (0, .ref (ad 200)), (1, .int (nI t)), (3, .int (nI c1))]) hx hb dX4_fits_65 rfl hl (by decide) rfl (fun ls hl => ?_)
              refine lv_iinc (v := nI (c1 + 1)) (lv' := [(3, .int (nI (c1 + 1))), (2, .int 0), (0, .ref (ad 200)), (1, .int (nI t))]) hx hb dX4_fits_66 hl (k := 3) rfl (nI_1 c1) (by decide) rfl (fun ls hl => ?_)
              refine lv_goto (tgt := 4) hx hb dX4_fits_69 (by decide) ?_
              have h1 : y_f1 M t c1 = false := by unfold y_f1; rw [decide_eq_false c24, decide_eq_true c49, zb_n1 c57]; rfl
              exact ih (c1 + 1) false (by omega) (by omega) (by simp only [y_ft]; rw [← hF, zb_ne c15, h1]; rfl) ls (lv_sub hl [2, 3, 1, 0] rfl)
            · refine lv_iconst (v := 1) hx hb dX4_fits_60 (by decide) ?_
              refine lv_goto (tgt := 65) hx hb dX4_fits_61 (by decide) ?_
              refine lv_istore_n (lv' := [(2, .int 1), (0, .ref (ad 200)), (1, .int (nI t)), (3, .int (nI c1))]) hx hb dX4_fits_65 rfl hl (by decide) rfl (fun ls hl => ?_)
              refine lv_iinc (v := nI (c1 + 1)) (lv' := [(3, .int (nI (c1 + 1))), (2, .int 1), (0, .ref (ad 200)), (1, .int (nI t))]) hx hb dX4_fits_66 hl (k := 3) rfl (nI_1 c1) (by decide) rfl (fun ls hl => ?_)
              refine lv_goto (tgt := 4) hx hb dX4_fits_69 (by decide) ?_
              have h1 : y_f1 M t c1 = true := by unfold y_f1; rw [decide_eq_false c24, decide_eq_true c49, zb_1 c57]; rfl
              exact ih (c1 + 1) true (by omega) (by omega) (by simp only [y_ft]; rw [← hF, zb_ne c15, h1]; rfl) ls (lv_sub hl [2, 3, 1, 0] rfl)
set_option maxHeartbeats 4000000 in
set_option maxRecDepth 100000 in
/-- fits -/
theorem c_X4_fits (l : Launch) (G : x_G) (ad : Nat → Nat) (D : Nat → Option va_E) (M : Nat → Nat → Int32) (V : Nat → Int64) (t : Nat) (ht : t < 8) (m1 : Nat) (hm1 : m1 ≤ 8) (hcol : M 0 t = nI m1) (hH : H_ok M) : Met l yX4_fits wsX4_fits ({ frames := 2, cells := 0, slots := 0, locals := 41 } : Room) (x_Pc G ad (y_con G ad D M V) [.ref (ad 200), .int (nI t)]) (x_Qr (some (.int (zb (y_ft M t m1))))) 0 0 (fun _ => False) := by
  refine x_met (cc := cX4_fits) (maxL := 4) (ret := (some .boolean)) (by decide) rfl _ (Nat.le_of_ble_eq_true rfl) ?_
  intro p e s m args below meth c C0 hini hK hS ls hl
  have hl : lv_has ls 4 [(0, .ref (ad 200)), (1, .int (nI t))] := hl
  obtain ⟨hx, hb, hr, hml, hown, hts, hlk⟩ := id C0
  refine lv_iconst (v := 1) hx hb dX4_fits_0 (by decide) ?_
  refine lv_istore_n (lv' := [(2, .int 1), (0, .ref (ad 200)), (1, .int (nI t))]) hx hb dX4_fits_1 rfl hl (by decide) rfl (fun ls hl => ?_)
  refine lv_iconst (v := 0) hx hb dX4_fits_2 (by decide) ?_
  refine lv_istore_n (lv' := [(3, .int 0), (2, .int 1), (0, .ref (ad 200)), (1, .int (nI t))]) hx hb dX4_fits_3 rfl hl (by decide) rfl (fun ls hl => ?_)
  exact l_X4_fits C0 hK ht hm1 hcol hH rfl hS 9 0 true (by omega) (by omega) rfl ls (lv_sub hl [2, 3, 1, 0] rfl)
theorem kX4_sizeOf_wX4 : ∀ w ∈ u_ws RX4 TX4 22, w ∈ wsX4_sizeOf := by decide +kernel
theorem kX4_sizeOf_f13 : Cond.fieldLink RX4 13 "VersionDeskModel" "types" "[I" ∈ wsX4_sizeOf := by decide +kernel
theorem kX4_sizeOf_f56 : Cond.fieldLink RX4 56 "VersionDeskModel" "hand" "[I" ∈ wsX4_sizeOf := by decide +kernel
theorem kX4_sizeOf_f69 : Cond.fieldLink RX4 69 "VersionDeskModel" "length" "[I" ∈ wsX4_sizeOf := by decide +kernel
theorem kX4_sizeOf_f7 : Cond.fieldLink RX4 7 "VersionDeskModel" "columns" "[I" ∈ wsX4_sizeOf := by decide +kernel
set_option maxHeartbeats 4000000 in
set_option maxRecDepth 100000 in
theorem l_X4_sizeOf {p : Program} {l : Launch} {e : Env} {s : State} {m : MethodId} {args : Array Value} {below : List Frame} {meth : Method} {c : Code} {G : x_G} {ad : Nat → Nat} {D : Nat → Option va_E} {M : Nat → Nat → Int32} {V : Nat → Int64} (C0 : x_B p s m meth c args cX4_sizeOf 5 (some .int) RX4 wsX4_sizeOf) (hK : x_K G s) {t m1 : Nat} (ht : t < 8) (hm1 : m1 ≤ 8) (hcol : M 0 t = nI m1) {r : Int32} (hH : H_ok M) (hx9 : ∀ c, c < m1 → M 16 c ≠ 0 → M 1 (8 * t + c) ≠ 1 → M 1 (8 * t + c) ≠ 3 → M 16 c = nI (hs M c)) (hr9 : r = y_sz M t m1) (hS : x_H G ad (y_con G ad D M V) s.heap []) : ∀ (d : Nat) (c1 : Nat) (a : Int32), m1 - c1 < d → c1 ≤ m1 → a = y_sz M t c1 → ∀ (ls : Array Slot), lv_has ls 5 [(0, .ref (ad 200)), (1, .int (nI t)), (2, .int a), (3, .int (nI c1))] → W p l e ({ frames := 0, cells := 0, slots := 0, locals := 0 } : Room) s m args below meth c s.heap [] 0 0 (MQ below (x_Qr (some (.int r))) args s 0 0 (fun _ => False)) (F0 m 5 ls []) := by
  obtain ⟨hx, hb, hr, hml, hown, hts, hlk⟩ := id C0
  intro d
  induction d with
  | zero =>
    intro c1 a hd hc hF ls hl
    exact absurd hd (by omega)
  | succ d ih =>
    intro c1 a hd hc hF ls hl
    refine lv_iload_n hx hb dX4_sizeOf_5 rfl (lv_at hl 3 rfl) ?_
    refine lv_aload_n hx hb dX4_sizeOf_6 rfl (lv_at hl 0 rfl) ?_
    refine y_get (j := 0) C0 hK hS (by decide) (by decide) kX4_sizeOf_wX4 kX4_sizeOf_f7 dX4_sizeOf_7 ?_
    refine lv_iload_n hx hb dX4_sizeOf_10 rfl (lv_at hl 1 rfl) ?_
    refine y_iald (j := 0) (i := t) (n := 8) C0 hK hS (by decide) (by decide) (by decide) (by omega) rfl dX4_sizeOf_11 ?_
    refine lv_icmp_ge (tgt := 88) hx hb dX4_sizeOf_12 (by decide) (fun c12 => ?_) (fun c12 => ?_)
    · have hc2 := nz_le c12 hcol rfl (by omega) (by omega)
      refine lv_iload_n hx hb dX4_sizeOf_88 rfl (lv_at hl 2 rfl) ?_
      exact x_reti C0 (by rw [hr9, hF, show c1 = m1 by omega]) dX4_sizeOf_89
    · have hc2 := nz_nle c12 hcol rfl (by omega) (by omega)
      refine lv_aload_n hx hb dX4_sizeOf_15 rfl (lv_at hl 0 rfl) ?_
      refine y_get (j := 1) C0 hK hS (by decide) (by decide) kX4_sizeOf_wX4 kX4_sizeOf_f13 dX4_sizeOf_16 ?_
      refine lv_bipush (v := 8) hx hb dX4_sizeOf_19 (by decide) ?_
      refine lv_iload_n hx hb dX4_sizeOf_21 rfl (lv_at hl 1 rfl) ?_
      refine lv_imul hx hb dX4_sizeOf_22 ?_
      refine lv_iload_n hx hb dX4_sizeOf_23 rfl (lv_at hl 3 rfl) ?_
      refine lv_iadd hx hb dX4_sizeOf_24 ?_
      rw [show (8 : Int32) * nI t + nI c1 = nI (8 * t + c1) from (by rw [show (8 : Int32) * nI t = nI (8 * t) from pk_mul 8 t]; exact nI_add _ _)]
      refine y_iald (j := 1) (i := 8 * t + c1) (n := 64) C0 hK hS (by decide) (by decide) (by decide) (by omega) rfl dX4_sizeOf_25 ?_
      refine lv_istore (lv' := [(4, .int (M 1 (8 * t + c1))), (0, .ref (ad 200)), (1, .int (nI t)), (2, .int a), (3, .int (nI c1))]) hx hb dX4_sizeOf_26 hl (by decide) rfl (fun ls hl => ?_)
      refine lv_aload_n hx hb dX4_sizeOf_28 rfl (lv_at hl 1 rfl) ?_
      refine y_get (j := 16) C0 hK hS (by decide) (by decide) kX4_sizeOf_wX4 kX4_sizeOf_f56 dX4_sizeOf_29 ?_
      refine lv_iload_n hx hb dX4_sizeOf_32 rfl (lv_at hl 4 rfl) ?_
      refine y_iald (j := 16) (i := c1) (n := 8) C0 hK hS (by decide) (by decide) (by decide) (by omega) rfl dX4_sizeOf_33 ?_
      refine lv_if_ne (tgt := 41) hx hb dX4_sizeOf_34 (by decide) (fun c34 => ?_) (fun c34 => ?_)
      · refine lv_iload hx hb dX4_sizeOf_41 (lv_at hl 0 rfl) ?_
        refine lv_iconst (v := 1) hx hb dX4_sizeOf_43 (by decide) ?_
        refine lv_icmp_ne (tgt := 54) hx hb dX4_sizeOf_44 (by decide) (fun c44 => ?_) (fun c44 => ?_)
        · refine lv_iload hx hb dX4_sizeOf_54 (lv_at hl 0 rfl) ?_
          refine lv_iconst (v := 3) hx hb dX4_sizeOf_56 (by decide) ?_
          refine lv_icmp_ne (tgt := 66) hx hb dX4_sizeOf_57 (by decide) (fun c57 => ?_) (fun c57 => ?_)
          · refine lv_iload_n hx hb dX4_sizeOf_66 rfl (lv_at hl 3 rfl) ?_
            refine lv_iconst (v := 1) hx hb dX4_sizeOf_67 (by decide) ?_
            refine lv_iadd hx hb dX4_sizeOf_68 ?_
            refine lv_aload_n hx hb dX4_sizeOf_69 rfl (lv_at hl 1 rfl) ?_
            refine y_get (j := 21) C0 hK hS (by decide) (by decide) kX4_sizeOf_wX4 kX4_sizeOf_f69 dX4_sizeOf_70 ?_
            refine lv_aload_n hx hb dX4_sizeOf_73 rfl (lv_at hl 1 rfl) ?_
            refine y_get (j := 16) C0 hK hS (by decide) (by decide) kX4_sizeOf_wX4 kX4_sizeOf_f56 dX4_sizeOf_74 ?_
            refine lv_iload_n hx hb dX4_sizeOf_77 rfl (lv_at hl 4 rfl) ?_
            refine y_iald (j := 16) (i := c1) (n := 8) C0 hK hS (by decide) (by decide) (by decide) (by omega) rfl dX4_sizeOf_78 ?_
            rw [hx9 c1 (by omega) c34 c44 c57]
            refine y_iald (j := 21) (i := hs M c1) (n := 515) C0 hK hS (by decide) (by decide) (by decide) (hH c1 (by omega)).2.1 rfl dX4_sizeOf_79 ?_
            refine lv_iadd hx hb dX4_sizeOf_80 ?_
            refine lv_topi (fun x1 ex1 => ?_)
            refine lv_istore_n (lv' := [(2, .int x1), (4, .int (M 1 (8 * t + c1))), (0, .ref (ad 200)), (1, .int (nI t)), (3, .int (nI c1))]) hx hb dX4_sizeOf_81 rfl hl (by decide) rfl (fun ls hl => ?_)
            refine lv_iinc (v := nI (c1 + 1)) (lv' := [(3, .int (nI (c1 + 1))), (2, .int x1), (4, .int (M 1 (8 * t + c1))), (0, .ref (ad 200)), (1, .int (nI t))]) hx hb dX4_sizeOf_82 hl (k := 4) rfl (nI_1 c1) (by decide) rfl (fun ls hl => ?_)
            refine lv_goto (tgt := 5) hx hb dX4_sizeOf_85 (by decide) ?_
            exact ih (c1 + 1) _ (by omega) (by omega) (by rw [ex1]; simp only [y_sz]; rw [if_neg c34, if_neg c44, if_neg c57, ← hF]) ls (lv_sub hl [3, 4, 1, 0] rfl)
          · refine lv_iload_n hx hb dX4_sizeOf_60 rfl (lv_at hl 3 rfl) ?_
            refine lv_iconst (v := 1) hx hb dX4_sizeOf_61 (by decide) ?_
            refine lv_iadd hx hb dX4_sizeOf_62 ?_
            refine lv_goto (tgt := 81) hx hb dX4_sizeOf_63 (by decide) ?_
            refine lv_topi (fun x2 ex2 => ?_)
            refine lv_istore_n (lv' := [(2, .int x2), (4, .int (M 1 (8 * t + c1))), (0, .ref (ad 200)), (1, .int (nI t)), (3, .int (nI c1))]) hx hb dX4_sizeOf_81 rfl hl (by decide) rfl (fun ls hl => ?_)
            refine lv_iinc (v := nI (c1 + 1)) (lv' := [(3, .int (nI (c1 + 1))), (2, .int x2), (4, .int (M 1 (8 * t + c1))), (0, .ref (ad 200)), (1, .int (nI t))]) hx hb dX4_sizeOf_82 hl (k := 4) rfl (nI_1 c1) (by decide) rfl (fun ls hl => ?_)
            refine lv_goto (tgt := 5) hx hb dX4_sizeOf_85 (by decide) ?_
            exact ih (c1 + 1) _ (by omega) (by omega) (by rw [ex2]; simp only [y_sz]; rw [if_neg c34, if_neg c44, if_pos c57, ← hF]) ls (lv_sub hl [3, 4, 1, 0] rfl)
        · refine lv_iload_n hx hb dX4_sizeOf_47 rfl (lv_at hl 3 rfl) ?_
          refine lv_bipush (v := 8) hx hb dX4_sizeOf_48 (by decide) ?_
          refine lv_iadd hx hb dX4_sizeOf_50 ?_
          refine lv_goto (tgt := 81) hx hb dX4_sizeOf_51 (by decide) ?_
          refine lv_topi (fun x3 ex3 => ?_)
          refine lv_istore_n (lv' := [(2, .int x3), (4, .int (M 1 (8 * t + c1))), (0, .ref (ad 200)), (1, .int (nI t)), (3, .int (nI c1))]) hx hb dX4_sizeOf_81 rfl hl (by decide) rfl (fun ls hl => ?_)
          refine lv_iinc (v := nI (c1 + 1)) (lv' := [(3, .int (nI (c1 + 1))), (2, .int x3), (4, .int (M 1 (8 * t + c1))), (0, .ref (ad 200)), (1, .int (nI t))]) hx hb dX4_sizeOf_82 hl (k := 4) rfl (nI_1 c1) (by decide) rfl (fun ls hl => ?_)
          refine lv_goto (tgt := 5) hx hb dX4_sizeOf_85 (by decide) ?_
          exact ih (c1 + 1) _ (by omega) (by omega) (by rw [ex3]; simp only [y_sz]; rw [if_neg c34, if_pos c44, ← hF]) ls (lv_sub hl [3, 4, 1, 0] rfl)
      · refine lv_iload_n hx hb dX4_sizeOf_37 rfl (lv_at hl 3 rfl) ?_
        refine lv_goto (tgt := 81) hx hb dX4_sizeOf_38 (by decide) ?_
        refine lv_istore_n (lv' := [(2, .int a), (4, .int (M 1 (8 * t + c1))), (0, .ref (ad 200)), (1, .int (nI t)), (3, .int (nI c1))]) hx hb dX4_sizeOf_81 rfl hl (by decide) rfl (fun ls hl => ?_)
        refine lv_iinc (v := nI (c1 + 1)) (lv' := [(3, .int (nI (c1 + 1))), (2, .int a), (4, .int (M 1 (8 * t + c1))), (0, .ref (ad 200)), (1, .int (nI t))]) hx hb dX4_sizeOf_82 hl (k := 4) rfl (nI_1 c1) (by decide) rfl (fun ls hl => ?_)
        refine lv_goto (tgt := 5) hx hb dX4_sizeOf_85 (by decide) ?_
        exact ih (c1 + 1) _ (by omega) (by omega) (by simp only [y_sz]; rw [if_pos c34, ← hF]) ls (lv_sub hl [3, 4, 1, 0] rfl)
set_option maxHeartbeats 4000000 in
set_option maxRecDepth 100000 in
/-- sizeOf -/
theorem c_X4_sizeOf (l : Launch) (G : x_G) (ad : Nat → Nat) (D : Nat → Option va_E) (M : Nat → Nat → Int32) (V : Nat → Int64) (t : Nat) (ht : t < 8) (m1 : Nat) (hm1 : m1 ≤ 8) (hcol : M 0 t = nI m1) (hH : H_ok M) (hx9 : ∀ c, c < m1 → M 16 c ≠ 0 → M 1 (8 * t + c) ≠ 1 → M 1 (8 * t + c) ≠ 3 → M 16 c = nI (hs M c)) : Met l yX4_sizeOf wsX4_sizeOf ({ frames := 0, cells := 0, slots := 0, locals := 0 } : Room) (x_Pc G ad (y_con G ad D M V) [.ref (ad 200), .int (nI t)]) (x_Qr (some (.int (y_sz M t m1)))) 0 0 (fun _ => False) := by
  refine x_met (cc := cX4_sizeOf) (maxL := 5) (ret := (some .int)) (by decide) rfl _ (Nat.le_of_ble_eq_true rfl) ?_
  intro p e s m args below meth c C0 hini hK hS ls hl
  have hl : lv_has ls 5 [(0, .ref (ad 200)), (1, .int (nI t))] := hl
  obtain ⟨hx, hb, hr, hml, hown, hts, hlk⟩ := id C0
  refine lv_bipush (v := 16) hx hb dX4_sizeOf_0 (by decide) ?_
  refine lv_istore_n (lv' := [(2, .int 16), (0, .ref (ad 200)), (1, .int (nI t))]) hx hb dX4_sizeOf_2 rfl hl (by decide) rfl (fun ls hl => ?_)
  refine lv_iconst (v := 0) hx hb dX4_sizeOf_3 (by decide) ?_
  refine lv_istore_n (lv' := [(3, .int 0), (2, .int 16), (0, .ref (ad 200)), (1, .int (nI t))]) hx hb dX4_sizeOf_4 rfl hl (by decide) rfl (fun ls hl => ?_)
  exact l_X4_sizeOf C0 hK ht hm1 hcol hH hx9 rfl hS 9 0 _ (by omega) (by omega) rfl ls (lv_sub hl [2, 3, 1, 0] rfl)
-- ===== the reference: drop0 =====
def S_ok (M : Nat → Nat → Int32) : Prop := ∀ i, vp_nar .short (M 15 i) = M 15 i
/-- entry e, the last, takes the place of entry k; n of its cells are there -/
def y_d0 (M : Nat → Nat → Int32) (k e n : Nat) : Nat → Nat → Int32 := fun j => if j = 6 then upd (M 6) 0 (nI e) else if 7 ≤ j ∧ j ≤ 14 then upd (M j) k (M j e) else if j = 15 then (fun i => if 8 * k ≤ i ∧ i < 8 * k + n then M 15 (8 * e + (i - 8 * k)) else M 15 i) else M j
theorem y_d0_15 (M : Nat → Nat → Int32) (k e n : Nat) : y_d0 M k e n 15 = fun i => if 8 * k ≤ i ∧ i < 8 * k + n then M 15 (8 * e + (i - 8 * k)) else M 15 i := rfl
theorem y_d0_s {M M1 : Nat → Nat → Int32} {k e n : Nat} (hk : k ≤ e) (hn : n < 8) (h : M1 = y_d0 M k e n) : va_up M1 15 (upd (M1 15) (8 * k + n) (M1 15 (8 * e + n))) = y_d0 M k e (n + 1) := by
  have hv : M1 15 (8 * e + n) = M 15 (8 * e + n) := by
    rw [h, y_d0_15]
    show (if _ then _ else _) = _
    rw [if_neg (by omega)]
  rw [hv, h]
  funext j
  by_cases hj : j = 15
  · subst hj
    rw [va_up_self, y_d0_15, y_d0_15]
    funext i
    by_cases hi : i = 8 * k + n
    · rw [hi, pk_us, if_pos (by omega), show 8 * k + n - 8 * k = n by omega]
    · rw [pk_un hi]
      by_cases h2 : 8 * k ≤ i ∧ i < 8 * k + n
      · rw [if_pos h2, if_pos (by omega)]
      · rw [if_neg h2, if_neg (by omega)]
  · rw [va_up_ne _ _ hj]
    simp only [y_d0]
    rw [if_neg hj, if_neg hj]
theorem y_d0_sh {M M1 : Nat → Nat → Int32} {k e n : Nat} (hs : S_ok M) (h : M1 = y_d0 M k e n) : S_ok M1 := by
  intro i
  rw [h, y_d0_15]
  dsimp only
  split
  · exact hs _
  · exact hs _
theorem y_d0_6 {M M1 : Nat → Nat → Int32} {k e n : Nat} (h : M1 = y_d0 M k e n) : M1 6 0 = nI e := by
  rw [h]
  exact (congrFun (show y_d0 M k e n 6 = upd (M 6) 0 (nI e) from rfl) 0).trans pk_us
theorem kX4_drop0_wX4 : ∀ w ∈ u_ws RX4 TX4 22, w ∈ wsX4_drop0 := by decide +kernel
theorem kX4_drop0_f105 : Cond.fieldLink RX4 105 "VersionDeskModel" "many" "I" ∈ wsX4_drop0 := by decide +kernel
theorem kX4_drop0_f52 : Cond.fieldLink RX4 52 "VersionDeskModel" "cells" "[S" ∈ wsX4_drop0 := by decide +kernel
set_option maxHeartbeats 4000000 in
set_option maxRecDepth 100000 in
theorem l_X4_drop0 {p : Program} {l : Launch} {e : Env} {s : State} {m : MethodId} {args : Array Value} {below : List Frame} {meth : Method} {c : Code} {G : x_G} {ad : Nat → Nat} {D : Nat → Option va_E} {V : Nat → Int64} (C0 : x_B p s m meth c args cX4_drop0 3 none RX4 wsX4_drop0) (hK : x_K G s) {M0 : Nat → Nat → Int32} {k e1 : Nat} (hke : k ≤ e1) (he : e1 < 514) (hsh : S_ok M0) : ∀ (d : Nat) (n : Nat) (M : Nat → Nat → Int32) (H : Heap) (locs : List Loc), 8 - n < d → n ≤ 8 → M = y_d0 M0 k e1 n → x_H G ad (y_con G ad D M V) H locs → ∀ (ls : Array Slot), lv_has ls 3 [(0, .ref (ad 200)), (1, .int (nI k)), (2, .int (nI n))] → W p l e ({ frames := 0, cells := 0, slots := 0, locals := 0 } : Room) s m args below meth c H locs 0 0 (MQ below (x_Qw G ad (y_con G ad D (y_d0 M0 k e1 8) V) none) args s 0 0 (x_A G)) (F0 m 132 ls []) := by
  obtain ⟨hx, hb, hr, hml, hown, hts, hlk⟩ := id C0
  intro d
  induction d with
  | zero =>
    intro n M H locs hd hn hM1 hS ls hl
    exact absurd hd (by omega)
  | succ d ih =>
    intro n M H locs hd hn hM1 hS ls hl
    refine lv_iload_n hx hb dX4_drop0_132 rfl (lv_at hl 2 rfl) ?_
    refine lv_bipush (v := 8) hx hb dX4_drop0_133 (by decide) ?_
    refine lv_icmp_ge (tgt := 169) hx hb dX4_drop0_135 (by decide) (fun c135 => ?_) (fun c135 => ?_)
    · have hn2 := nz_le (a := 8) c135 rfl rfl (by omega) (by omega)
      exact x_wretv C0 hS (by rw [hM1, show n = 8 by omega]) dX4_drop0_169
    · have hn2 := nz_nle (a := 8) c135 rfl rfl (by omega) (by omega)
      have h6 := y_d0_6 hM1
      refine lv_aload_n hx hb dX4_drop0_138 rfl (lv_at hl 0 rfl) ?_
      refine y_get (j := 15) C0 hK hS (by decide) (by decide) kX4_drop0_wX4 kX4_drop0_f52 dX4_drop0_139 ?_
      refine lv_bipush (v := 8) hx hb dX4_drop0_142 (by decide) ?_
      refine lv_iload_n hx hb dX4_drop0_144 rfl (lv_at hl 1 rfl) ?_
      refine lv_imul hx hb dX4_drop0_145 ?_
      refine lv_iload_n hx hb dX4_drop0_146 rfl (lv_at hl 2 rfl) ?_
      refine lv_iadd hx hb dX4_drop0_147 ?_
      rw [show (8 : Int32) * nI k + nI n = nI (8 * k + n) from (by rw [show (8 : Int32) * nI k = nI (8 * k) from pk_mul 8 k]; exact nI_add _ _)]
      refine lv_aload_n hx hb dX4_drop0_148 rfl (lv_at hl 0 rfl) ?_
      refine y_get (j := 15) C0 hK hS (by decide) (by decide) kX4_drop0_wX4 kX4_drop0_f52 dX4_drop0_149 ?_
      refine lv_bipush (v := 8) hx hb dX4_drop0_152 (by decide) ?_
      refine lv_aload_n hx hb dX4_drop0_154 rfl (lv_at hl 0 rfl) ?_
      refine y_geti (j := 6) C0 hK hS (by decide) kX4_drop0_wX4 kX4_drop0_f105 dX4_drop0_155 ?_
      rw [h6]
      refine lv_imul hx hb dX4_drop0_158 ?_
      refine lv_iload_n hx hb dX4_drop0_159 rfl (lv_at hl 2 rfl) ?_
      refine lv_iadd hx hb dX4_drop0_160 ?_
      rw [show (8 : Int32) * nI e1 + nI n = nI (8 * e1 + n) from (by rw [show (8 : Int32) * nI e1 = nI (8 * e1) from pk_mul 8 e1]; exact nI_add _ _)]
      refine y_sald (i := 8 * e1 + n) C0 hK hS (by omega) rfl dX4_drop0_161 ?_
      refine y_sast (i := 8 * k + n) C0 hK hS (by omega) rfl dX4_drop0_162 (fun H locs hS => ?_)
      rw [y_d0_sh hsh hM1 (8 * e1 + n), y_d0_s hke (by omega) hM1] at hS
      refine lv_iinc (v := nI (n + 1)) (lv' := [(2, .int (nI (n + 1))), (0, .ref (ad 200)), (1, .int (nI k))]) hx hb dX4_drop0_163 hl (k := 2) rfl (nI_1 n) (by decide) rfl (fun ls hl => ?_)
      refine lv_goto (tgt := 132) hx hb dX4_drop0_166 (by decide) ?_
      exact ih (n + 1) _ _ _ (by omega) (by omega) rfl hS ls (lv_sub hl [1, 2, 0] rfl)
theorem kX4_drop0_f28 : Cond.fieldLink RX4 28 "VersionDeskModel" "place" "[I" ∈ wsX4_drop0 := by decide +kernel
theorem kX4_drop0_f31 : Cond.fieldLink RX4 31 "VersionDeskModel" "number" "[I" ∈ wsX4_drop0 := by decide +kernel
theorem kX4_drop0_f34 : Cond.fieldLink RX4 34 "VersionDeskModel" "maker" "[I" ∈ wsX4_drop0 := by decide +kernel
theorem kX4_drop0_f37 : Cond.fieldLink RX4 37 "VersionDeskModel" "command" "[I" ∈ wsX4_drop0 := by decide +kernel
theorem kX4_drop0_f40 : Cond.fieldLink RX4 40 "VersionDeskModel" "ender" "[I" ∈ wsX4_drop0 := by decide +kernel
theorem kX4_drop0_f43 : Cond.fieldLink RX4 43 "VersionDeskModel" "endCommand" "[I" ∈ wsX4_drop0 := by decide +kernel
theorem kX4_drop0_f46 : Cond.fieldLink RX4 46 "VersionDeskModel" "behind" "[I" ∈ wsX4_drop0 := by decide +kernel
theorem kX4_drop0_f49 : Cond.fieldLink RX4 49 "VersionDeskModel" "size" "[I" ∈ wsX4_drop0 := by decide +kernel
set_option maxHeartbeats 4000000 in
set_option maxRecDepth 100000 in
/-- drop0 -/
theorem c_X4_drop0 (l : Launch) (G : x_G) (ad : Nat → Nat) (D : Nat → Option va_E) (M : Nat → Nat → Int32) (V : Nat → Int64) (k e1 : Nat) (hke : k ≤ e1) (he : e1 < 514) (hmn : M 6 0 = nI (e1 + 1)) (hsh : S_ok M) : Met l yX4_drop0 wsX4_drop0 ({ frames := 0, cells := 0, slots := 0, locals := 0 } : Room) (x_Pc G ad (y_con G ad D M V) [.ref (ad 200), .int (nI k)]) (x_Qw G ad (y_con G ad D (y_d0 M k e1 8) V) none) 0 0 (x_A G) := by
  refine x_met (cc := cX4_drop0) (maxL := 3) (ret := none) (by decide) rfl _ (Nat.le_of_ble_eq_true rfl) ?_
  intro p e s m args below meth c C0 hini hK hS ls hl
  have hl : lv_has ls 3 [(0, .ref (ad 200)), (1, .int (nI k))] := hl
  obtain ⟨hx, hb, hr, hml, hown, hts, hlk⟩ := id C0
  refine lv_aload_n hx hb dX4_drop0_0 rfl (lv_at hl 0 rfl) ?_
  refine lv_dup hx hb dX4_drop0_1 rfl ?_
  refine y_geti (j := 6) C0 hK hS (by decide) kX4_drop0_wX4 kX4_drop0_f105 dX4_drop0_2 ?_
  rw [hmn]
  refine lv_iconst (v := 1) hx hb dX4_drop0_5 (by decide) ?_
  refine lv_isub hx hb dX4_drop0_6 ?_
  rw [show nI (e1 + 1) - 1 = nI e1 from nI_pred e1]
  refine y_puti (j := 6) C0 hK hS (by decide) kX4_drop0_wX4 kX4_drop0_f105 dX4_drop0_7 (fun H locs hS => ?_)
  obtain ⟨M1, eM1⟩ : ∃ zz, zz = va_up M 6 (upd (M 6) 0 (nI e1)) := ⟨_, rfl⟩
  rw [← eM1] at hS
  have hM1_6 : M1 6 0 = nI e1 := by rw [eM1, va_up_self, pk_us]
  refine lv_aload_n hx hb dX4_drop0_10 rfl (lv_at hl 0 rfl) ?_
  refine y_get (j := 7) C0 hK hS (by decide) (by decide) kX4_drop0_wX4 kX4_drop0_f28 dX4_drop0_11 ?_
  refine lv_iload_n hx hb dX4_drop0_14 rfl (lv_at hl 1 rfl) ?_
  refine lv_aload_n hx hb dX4_drop0_15 rfl (lv_at hl 0 rfl) ?_
  refine y_get (j := 7) C0 hK hS (by decide) (by decide) kX4_drop0_wX4 kX4_drop0_f28 dX4_drop0_16 ?_
  refine lv_aload_n hx hb dX4_drop0_19 rfl (lv_at hl 0 rfl) ?_
  refine y_geti (j := 6) C0 hK hS (by decide) kX4_drop0_wX4 kX4_drop0_f105 dX4_drop0_20 ?_
  rw [hM1_6]
  refine y_iald (j := 7) (i := e1) (n := 515) C0 hK hS (by decide) (by decide) (by decide) (by omega) rfl dX4_drop0_23 ?_
  refine lv_topi (fun x2 ex2 => ?_)
  refine y_iast (j := 7) (i := k) (n := 515) C0 hK hS (by decide) (by decide) (by decide) (by omega) rfl dX4_drop0_24 (fun H locs hS => ?_)
  obtain ⟨M3, eM3⟩ : ∃ zz, zz = va_up M1 7 (upd (M1 7) k x2) := ⟨_, rfl⟩
  rw [← eM3] at hS
  have hM3_6 : M3 6 0 = nI e1 := by rw [eM3, va_up_ne _ _ (by decide)]; exact hM1_6
  refine lv_aload_n hx hb dX4_drop0_25 rfl (lv_at hl 0 rfl) ?_
  refine y_get (j := 8) C0 hK hS (by decide) (by decide) kX4_drop0_wX4 kX4_drop0_f31 dX4_drop0_26 ?_
  refine lv_iload_n hx hb dX4_drop0_29 rfl (lv_at hl 1 rfl) ?_
  refine lv_aload_n hx hb dX4_drop0_30 rfl (lv_at hl 0 rfl) ?_
  refine y_get (j := 8) C0 hK hS (by decide) (by decide) kX4_drop0_wX4 kX4_drop0_f31 dX4_drop0_31 ?_
  refine lv_aload_n hx hb dX4_drop0_34 rfl (lv_at hl 0 rfl) ?_
  refine y_geti (j := 6) C0 hK hS (by decide) kX4_drop0_wX4 kX4_drop0_f105 dX4_drop0_35 ?_
  rw [hM3_6]
  refine y_iald (j := 8) (i := e1) (n := 515) C0 hK hS (by decide) (by decide) (by decide) (by omega) rfl dX4_drop0_38 ?_
  refine lv_topi (fun x4 ex4 => ?_)
  refine y_iast (j := 8) (i := k) (n := 515) C0 hK hS (by decide) (by decide) (by decide) (by omega) rfl dX4_drop0_39 (fun H locs hS => ?_)
  obtain ⟨M5, eM5⟩ : ∃ zz, zz = va_up M3 8 (upd (M3 8) k x4) := ⟨_, rfl⟩
  rw [← eM5] at hS
  have hM5_6 : M5 6 0 = nI e1 := by rw [eM5, va_up_ne _ _ (by decide)]; exact hM3_6
  refine lv_aload_n hx hb dX4_drop0_40 rfl (lv_at hl 0 rfl) ?_
  refine y_get (j := 9) C0 hK hS (by decide) (by decide) kX4_drop0_wX4 kX4_drop0_f34 dX4_drop0_41 ?_
  refine lv_iload_n hx hb dX4_drop0_44 rfl (lv_at hl 1 rfl) ?_
  refine lv_aload_n hx hb dX4_drop0_45 rfl (lv_at hl 0 rfl) ?_
  refine y_get (j := 9) C0 hK hS (by decide) (by decide) kX4_drop0_wX4 kX4_drop0_f34 dX4_drop0_46 ?_
  refine lv_aload_n hx hb dX4_drop0_49 rfl (lv_at hl 0 rfl) ?_
  refine y_geti (j := 6) C0 hK hS (by decide) kX4_drop0_wX4 kX4_drop0_f105 dX4_drop0_50 ?_
  rw [hM5_6]
  refine y_iald (j := 9) (i := e1) (n := 515) C0 hK hS (by decide) (by decide) (by decide) (by omega) rfl dX4_drop0_53 ?_
  refine lv_topi (fun x6 ex6 => ?_)
  refine y_iast (j := 9) (i := k) (n := 515) C0 hK hS (by decide) (by decide) (by decide) (by omega) rfl dX4_drop0_54 (fun H locs hS => ?_)
  obtain ⟨M7, eM7⟩ : ∃ zz, zz = va_up M5 9 (upd (M5 9) k x6) := ⟨_, rfl⟩
  rw [← eM7] at hS
  have hM7_6 : M7 6 0 = nI e1 := by rw [eM7, va_up_ne _ _ (by decide)]; exact hM5_6
  refine lv_aload_n hx hb dX4_drop0_55 rfl (lv_at hl 0 rfl) ?_
  refine y_get (j := 10) C0 hK hS (by decide) (by decide) kX4_drop0_wX4 kX4_drop0_f37 dX4_drop0_56 ?_
  refine lv_iload_n hx hb dX4_drop0_59 rfl (lv_at hl 1 rfl) ?_
  refine lv_aload_n hx hb dX4_drop0_60 rfl (lv_at hl 0 rfl) ?_
  refine y_get (j := 10) C0 hK hS (by decide) (by decide) kX4_drop0_wX4 kX4_drop0_f37 dX4_drop0_61 ?_
  refine lv_aload_n hx hb dX4_drop0_64 rfl (lv_at hl 0 rfl) ?_
  refine y_geti (j := 6) C0 hK hS (by decide) kX4_drop0_wX4 kX4_drop0_f105 dX4_drop0_65 ?_
  rw [hM7_6]
  refine y_iald (j := 10) (i := e1) (n := 515) C0 hK hS (by decide) (by decide) (by decide) (by omega) rfl dX4_drop0_68 ?_
  refine lv_topi (fun x8 ex8 => ?_)
  refine y_iast (j := 10) (i := k) (n := 515) C0 hK hS (by decide) (by decide) (by decide) (by omega) rfl dX4_drop0_69 (fun H locs hS => ?_)
  obtain ⟨M9, eM9⟩ : ∃ zz, zz = va_up M7 10 (upd (M7 10) k x8) := ⟨_, rfl⟩
  rw [← eM9] at hS
  have hM9_6 : M9 6 0 = nI e1 := by rw [eM9, va_up_ne _ _ (by decide)]; exact hM7_6
  refine lv_aload_n hx hb dX4_drop0_70 rfl (lv_at hl 0 rfl) ?_
  refine y_get (j := 11) C0 hK hS (by decide) (by decide) kX4_drop0_wX4 kX4_drop0_f40 dX4_drop0_71 ?_
  refine lv_iload_n hx hb dX4_drop0_74 rfl (lv_at hl 1 rfl) ?_
  refine lv_aload_n hx hb dX4_drop0_75 rfl (lv_at hl 0 rfl) ?_
  refine y_get (j := 11) C0 hK hS (by decide) (by decide) kX4_drop0_wX4 kX4_drop0_f40 dX4_drop0_76 ?_
  refine lv_aload_n hx hb dX4_drop0_79 rfl (lv_at hl 0 rfl) ?_
  refine y_geti (j := 6) C0 hK hS (by decide) kX4_drop0_wX4 kX4_drop0_f105 dX4_drop0_80 ?_
  rw [hM9_6]
  refine y_iald (j := 11) (i := e1) (n := 515) C0 hK hS (by decide) (by decide) (by decide) (by omega) rfl dX4_drop0_83 ?_
  refine lv_topi (fun x10 ex10 => ?_)
  refine y_iast (j := 11) (i := k) (n := 515) C0 hK hS (by decide) (by decide) (by decide) (by omega) rfl dX4_drop0_84 (fun H locs hS => ?_)
  obtain ⟨M11, eM11⟩ : ∃ zz, zz = va_up M9 11 (upd (M9 11) k x10) := ⟨_, rfl⟩
  rw [← eM11] at hS
  have hM11_6 : M11 6 0 = nI e1 := by rw [eM11, va_up_ne _ _ (by decide)]; exact hM9_6
  refine lv_aload_n hx hb dX4_drop0_85 rfl (lv_at hl 0 rfl) ?_
  refine y_get (j := 12) C0 hK hS (by decide) (by decide) kX4_drop0_wX4 kX4_drop0_f43 dX4_drop0_86 ?_
  refine lv_iload_n hx hb dX4_drop0_89 rfl (lv_at hl 1 rfl) ?_
  refine lv_aload_n hx hb dX4_drop0_90 rfl (lv_at hl 0 rfl) ?_
  refine y_get (j := 12) C0 hK hS (by decide) (by decide) kX4_drop0_wX4 kX4_drop0_f43 dX4_drop0_91 ?_
  refine lv_aload_n hx hb dX4_drop0_94 rfl (lv_at hl 0 rfl) ?_
  refine y_geti (j := 6) C0 hK hS (by decide) kX4_drop0_wX4 kX4_drop0_f105 dX4_drop0_95 ?_
  rw [hM11_6]
  refine y_iald (j := 12) (i := e1) (n := 515) C0 hK hS (by decide) (by decide) (by decide) (by omega) rfl dX4_drop0_98 ?_
  refine lv_topi (fun x12 ex12 => ?_)
  refine y_iast (j := 12) (i := k) (n := 515) C0 hK hS (by decide) (by decide) (by decide) (by omega) rfl dX4_drop0_99 (fun H locs hS => ?_)
  obtain ⟨M13, eM13⟩ : ∃ zz, zz = va_up M11 12 (upd (M11 12) k x12) := ⟨_, rfl⟩
  rw [← eM13] at hS
  have hM13_6 : M13 6 0 = nI e1 := by rw [eM13, va_up_ne _ _ (by decide)]; exact hM11_6
  refine lv_aload_n hx hb dX4_drop0_100 rfl (lv_at hl 0 rfl) ?_
  refine y_get (j := 13) C0 hK hS (by decide) (by decide) kX4_drop0_wX4 kX4_drop0_f46 dX4_drop0_101 ?_
  refine lv_iload_n hx hb dX4_drop0_104 rfl (lv_at hl 1 rfl) ?_
  refine lv_aload_n hx hb dX4_drop0_105 rfl (lv_at hl 0 rfl) ?_
  refine y_get (j := 13) C0 hK hS (by decide) (by decide) kX4_drop0_wX4 kX4_drop0_f46 dX4_drop0_106 ?_
  refine lv_aload_n hx hb dX4_drop0_109 rfl (lv_at hl 0 rfl) ?_
  refine y_geti (j := 6) C0 hK hS (by decide) kX4_drop0_wX4 kX4_drop0_f105 dX4_drop0_110 ?_
  rw [hM13_6]
  refine y_iald (j := 13) (i := e1) (n := 515) C0 hK hS (by decide) (by decide) (by decide) (by omega) rfl dX4_drop0_113 ?_
  refine lv_topi (fun x14 ex14 => ?_)
  refine y_iast (j := 13) (i := k) (n := 515) C0 hK hS (by decide) (by decide) (by decide) (by omega) rfl dX4_drop0_114 (fun H locs hS => ?_)
  obtain ⟨M15, eM15⟩ : ∃ zz, zz = va_up M13 13 (upd (M13 13) k x14) := ⟨_, rfl⟩
  rw [← eM15] at hS
  have hM15_6 : M15 6 0 = nI e1 := by rw [eM15, va_up_ne _ _ (by decide)]; exact hM13_6
  refine lv_aload_n hx hb dX4_drop0_115 rfl (lv_at hl 0 rfl) ?_
  refine y_get (j := 14) C0 hK hS (by decide) (by decide) kX4_drop0_wX4 kX4_drop0_f49 dX4_drop0_116 ?_
  refine lv_iload_n hx hb dX4_drop0_119 rfl (lv_at hl 1 rfl) ?_
  refine lv_aload_n hx hb dX4_drop0_120 rfl (lv_at hl 0 rfl) ?_
  refine y_get (j := 14) C0 hK hS (by decide) (by decide) kX4_drop0_wX4 kX4_drop0_f49 dX4_drop0_121 ?_
  refine lv_aload_n hx hb dX4_drop0_124 rfl (lv_at hl 0 rfl) ?_
  refine y_geti (j := 6) C0 hK hS (by decide) kX4_drop0_wX4 kX4_drop0_f105 dX4_drop0_125 ?_
  rw [hM15_6]
  refine y_iald (j := 14) (i := e1) (n := 515) C0 hK hS (by decide) (by decide) (by decide) (by omega) rfl dX4_drop0_128 ?_
  refine lv_topi (fun x16 ex16 => ?_)
  refine y_iast (j := 14) (i := k) (n := 515) C0 hK hS (by decide) (by decide) (by decide) (by omega) rfl dX4_drop0_129 (fun H locs hS => ?_)
  obtain ⟨M17, eM17⟩ : ∃ zz, zz = va_up M15 14 (upd (M15 14) k x16) := ⟨_, rfl⟩
  rw [← eM17] at hS
  have hM17_6 : M17 6 0 = nI e1 := by rw [eM17, va_up_ne _ _ (by decide)]; exact hM15_6
  refine lv_iconst (v := 0) hx hb dX4_drop0_130 (by decide) ?_
  refine lv_istore_n (lv' := [(2, .int 0), (0, .ref (ad 200)), (1, .int (nI k))]) hx hb dX4_drop0_131 rfl hl (by decide) rfl (fun ls hl => ?_)
  refine l_X4_drop0 C0 hK hke he hsh 9 0 _ _ _ (by omega) (by omega) ?_ hS ls (lv_sub hl [1, 2, 0] rfl)
  subst_vars
  funext j
  simp only [y_d0]
  by_cases h6 : j = 6
  · subst h6; rfl
  · rw [if_neg h6]
    by_cases h7 : 7 ≤ j ∧ j ≤ 14
    · rw [if_pos h7]
      rcases (show j = 7 ∨ j = 8 ∨ j = 9 ∨ j = 10 ∨ j = 11 ∨ j = 12 ∨ j = 13 ∨ j = 14 by omega) with rfl | rfl | rfl | rfl | rfl | rfl | rfl | rfl <;> rfl
    · rw [if_neg h7]
      rw [va_up_ne _ _ (by omega), va_up_ne _ _ (by omega), va_up_ne _ _ (by omega), va_up_ne _ _ (by omega), va_up_ne _ _ (by omega), va_up_ne _ _ (by omega), va_up_ne _ _ (by omega), va_up_ne _ _ (by omega), va_up_ne _ _ h6]
      by_cases h15 : j = 15
      · subst h15; rw [if_pos rfl]; funext i; rw [if_neg (by omega)]
      · rw [if_neg h15]
