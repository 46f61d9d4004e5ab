-- ===== the hand against a table; its size =====
def d_s1 (R : Nat → Nat → Int32) (x : Int32) (c : Nat) : Bool := decide (R 0 c = 0) || (decide (R 0 c = 2) == decide (dg x c = 2))
def d_hs (R : Nat → Nat → Int32) (x : Int32) : Nat → Nat → Bool
  | 0, _ => true
  | d + 1, c => d_s1 R x c && d_hs R x d (c + 1)
def d_cb (R : Nat → Nat → Int32) (ty c : Int32) : Int32 := if ty = 1 then 8 else if ty = 2 then 1 + h_ln R c else 1
def d_sz (R : Nat → Nat → Int32) (x : Int32) : Nat → Nat → Int32 → Int32
  | 0, _, a => a
  | d + 1, c, a => d_sz R x d (c + 1) (if R 0 c = 0 then a else a + d_cb R (dg x c) (nI c))
def d_t1 (x : Int32) (c : Nat) : Bool := decide (dg x c = 1) || (decide (dg x c = 2) || decide (dg x c = 3))
def d_ty (x : Int32) : Nat → Nat → Bool
  | 0, _ => true
  | d + 1, c => d_t1 x c && d_ty x d (c + 1)
def d_at (n x : Int32) : Bool := decide (1 ≤ n) && (decide (n ≤ 8) && d_ty x n.toNatClampNeg 0)
theorem kX3_handSuits_wX2 : ∀ w ∈ u_ws RX2 TX2 3, w ∈ wsX3_handSuits := by decide +kernel
theorem kX3_handSuits_wX3 : ∀ w ∈ u_ws RX3 TX3 3, w ∈ wsX3_handSuits := by decide +kernel
theorem kX3_handSuits_f12 : Cond.fieldLink RX3 12 "VersionDesk" "hand" "LVersionDesk$Row;" ∈ wsX3_handSuits := by decide +kernel
theorem kX3_handSuits_f196 : Cond.fieldLink RX3 196 "VersionDesk$Table" "columns" "I" ∈ wsX3_handSuits := by decide +kernel
set_option maxHeartbeats 4000000 in
set_option maxRecDepth 100000 in
theorem l_X3_handSuits {p : Program} {l : Launch} {e : Env} {s : State} {m : MethodId} {args : Array Value} {below : List Frame} {meth : Method} {c : Code} {G : x_G} {ad : Nat → Nat} {R : Nat → Nat → Int32} {N : Nat → Int64} {tl : Nat → Bool} {T : Nat → Nat → Int32} {pl : Nat → Bool} {P : Nat → Nat → Int32} {X : Nat → Option va_E} (C0 : x_B p s m meth c args cX3_handSuits 5 (some .boolean) RX3 wsX3_handSuits) (hK : x_K G s) {t m1 : Nat} {r : Bool} (hi : t < 8) (hl_t : tl t = true) (hm : m1 ≤ 8) (hcol : T t 1 = nI m1) (hS : x_H G ad (x_con G ad R N tl T pl P X) s.heap []) : ∀ (d : Nat) (c1 : Nat), m1 - c1 < d → c1 ≤ m1 → r = d_hs R (T t 2) (m1 - c1) c1 → ∀ (ls : Array Slot), lv_has ls 5 [(0, .ref (ad 0)), (1, .ref (ad (8 + t))), (2, .int (nI c1))] → W p l e ({ frames := 2, cells := 0, slots := 0, locals := 44 } : Room) s m args below meth c s.heap [] 0 0 (MQ below (x_Qr (some (.int (zb r)))) args s 0 0 (fun _ => False)) (F0 m 2 ls []) := by
  obtain ⟨hx, hb, hr, hml, hown, hts, hlk⟩ := id C0
  intro d
  induction d with
  | zero =>
    intro c1 hd hc hF ls hl
    exact absurd hd (by omega)
  | succ d ih =>
    intro c1 hd hc hF ls hl
    refine lv_iload_n hx hb dX3_handSuits_2 rfl (lv_at hl 2 rfl) ?_
    refine lv_aload_n hx hb dX3_handSuits_3 rfl (lv_at hl 1 rfl) ?_
    refine x_tget (j := 1) C0 hK hS hi hl_t (by decide) kX3_handSuits_wX2 kX3_handSuits_f196 dX3_handSuits_4 ?_
    refine lv_icmp_ge (tgt := 62) hx hb dX3_handSuits_7 (by decide) (fun c7 => ?_) (fun c7 => ?_)
    · have hc2 := nz_le c7 hcol rfl (by omega) (by omega)
      refine lv_iconst (v := 1) hx hb dX3_handSuits_62 (by decide) ?_
      exact x_retz C0 (by rw [hF, show m1 - c1 = 0 by omega]; rfl) rfl dX3_handSuits_63
    · have hc2 := nz_nle c7 hcol rfl (by omega) (by omega)
      refine lv_aload_n hx hb dX3_handSuits_10 rfl (lv_at hl 0 rfl) ?_
      refine x_dget (j := 0) C0 hK hS (by decide) kX3_handSuits_wX3 kX3_handSuits_f12 dX3_handSuits_11 ?_
      refine lv_iload_n hx hb dX3_handSuits_14 rfl (lv_at hl 2 rfl) ?_
      refine x_callr (x_rV C0 hl.1 hK hS (c_X1_kindAt l G ad R N tl T pl P X (nI c1)) (x_con_0 (k := 1) (by omega)) rfl gX3_handSuits_X1_kindAt 1 rfl rfl rfl (by decide +kernel) ⟨Nat.le_of_ble_eq_true rfl, Nat.le_of_ble_eq_true rfl⟩ rfl rfl (Nat.le_of_ble_eq_true rfl) dX3_handSuits_15 ⟨Nat.le_of_ble_eq_true rfl, Nat.le_of_ble_eq_true rfl⟩) ?_
      rw [h_kd_nI (by omega)]
      show W _ _ _ _ _ _ _ _ _ _ _ _ _ _ _ (F0 m 18 ls [.int (R 0 c1)])
      refine lv_topi (fun x1 ex1 => ?_)
      refine lv_istore_n (lv' := [(3, .int x1), (0, .ref (ad 0)), (1, .ref (ad (8 + t))), (2, .int (nI c1))]) hx hb dX3_handSuits_18 rfl hl (by decide) rfl (fun ls hl => ?_)
      refine lv_aload_n hx hb dX3_handSuits_19 rfl (lv_at hl 2 rfl) ?_
      refine lv_iload_n hx hb dX3_handSuits_20 rfl (lv_at hl 3 rfl) ?_
      refine x_callr (x_rV C0 hl.1 hK hS (c_X2_typeAt l G ad R N tl T pl P X t c1 hi hl_t (by omega)) (x_con_t hi hl_t) rfl gX3_handSuits_X2_typeAt 1 rfl rfl rfl (by decide +kernel) ⟨Nat.le_of_ble_eq_true rfl, Nat.le_of_ble_eq_true rfl⟩ rfl rfl (Nat.le_of_ble_eq_true rfl) dX3_handSuits_21 ⟨Nat.le_of_ble_eq_true rfl, Nat.le_of_ble_eq_true rfl⟩) ?_
      show W _ _ _ _ _ _ _ _ _ _ _ _ _ _ _ (F0 m 24 ls [.int (dg (T t 2) c1)])
      refine lv_iconst (v := 2) hx hb dX3_handSuits_24 (by decide) ?_
      refine lv_icmp_ne (tgt := 32) hx hb dX3_handSuits_25 (by decide) (fun c25 => ?_) (fun c25 => ?_)
      · refine lv_iconst (v := 0) hx hb dX3_handSuits_32 (by decide) ?_
        refine lv_istore (lv' := [(4, .int 0), (3, .int x1), (0, .ref (ad 0)), (1, .ref (ad (8 + t))), (2, .int (nI c1))]) hx hb dX3_handSuits_33 hl (by decide) rfl (fun ls hl => ?_)
        refine lv_iload_n hx hb dX3_handSuits_35 rfl (lv_at hl 1 rfl) ?_
        refine lv_if_eq (tgt := 56) hx hb dX3_handSuits_36 (by decide) (fun c36 => ?_) (fun c36 => ?_)
        · refine lv_iinc (v := nI (c1 + 1)) (lv' := [(2, .int (nI (c1 + 1))), (4, .int 0), (3, .int x1), (0, .ref (ad 0)), (1, .ref (ad (8 + t)))]) hx hb dX3_handSuits_56 hl (k := 4) rfl (nI_1 c1) (by decide) rfl (fun ls hl => ?_)
          refine lv_goto (tgt := 2) hx hb dX3_handSuits_59 (by decide) ?_
          have h1 : d_s1 R (T t 2) c1 = true := by rw [d_s1, ← ex1, decide_eq_true c36]; rfl
          exact ih (c1 + 1) (by omega) (by omega) (by rw [hF, show m1 - c1 = (m1 - (c1 + 1)) + 1 by omega]; simp only [d_hs]; rw [h1]; rfl) ls (lv_sub hl [3, 4, 0] rfl)
        · refine lv_iload_n hx hb dX3_handSuits_39 rfl (lv_at hl 1 rfl) ?_
          refine lv_iconst (v := 2) hx hb dX3_handSuits_40 (by decide) ?_
          refine lv_icmp_ne (tgt := 48) hx hb dX3_handSuits_41 (by decide) (fun c41 => ?_) (fun c41 => ?_)
          · refine lv_iconst (v := 0) hx hb dX3_handSuits_48 (by decide) ?_
            refine lv_iload hx hb dX3_handSuits_49 (lv_at hl 0 rfl) ?_
            refine lv_icmp_eq (tgt := 56) hx hb dX3_handSuits_51 (by decide) (fun c51 => ?_) (fun c51 => absurd (by decide) c51)
            refine lv_iinc (v := nI (c1 + 1)) (lv' := [(2, .int (nI (c1 + 1))), (4, .int 0), (3, .int x1), (0, .ref (ad 0)), (1, .ref (ad (8 + t)))]) hx hb dX3_handSuits_56 hl (k := 4) rfl (nI_1 c1) (by decide) rfl (fun ls hl => ?_)
            refine lv_goto (tgt := 2) hx hb dX3_handSuits_59 (by decide) ?_
            have h1 : d_s1 R (T t 2) c1 = true := by rw [d_s1, ← ex1, decide_eq_false c36, decide_eq_false c41, decide_eq_false c25]; rfl
            exact ih (c1 + 1) (by omega) (by omega) (by rw [hF, show m1 - c1 = (m1 - (c1 + 1)) + 1 by omega]; simp only [d_hs]; rw [h1]; rfl) ls (lv_sub hl [3, 4, 0] rfl)
          · refine lv_iconst (v := 1) hx hb dX3_handSuits_44 (by decide) ?_
            refine lv_goto (tgt := 49) hx hb dX3_handSuits_45 (by decide) ?_
            refine lv_iload hx hb dX3_handSuits_49 (lv_at hl 0 rfl) ?_
            refine lv_icmp_eq (tgt := 56) hx hb dX3_handSuits_51 (by decide) (fun c51 => absurd c51 (by decide)) (fun c51 => ?_)
            refine lv_iconst (v := 0) hx hb dX3_handSuits_54 (by decide) ?_
            have h1 : d_s1 R (T t 2) c1 = false := by rw [d_s1, ← ex1, decide_eq_false c36, decide_eq_true c41, decide_eq_false c25]; rfl
            exact x_retz C0 (by rw [hF, show m1 - c1 = (m1 - (c1 + 1)) + 1 by omega]; simp only [d_hs]; rw [h1]; rfl) rfl dX3_handSuits_55
      · refine lv_iconst (v := 1) hx hb dX3_handSuits_28 (by decide) ?_
        refine lv_goto (tgt := 33) hx hb dX3_handSuits_29 (by decide) ?_
        refine lv_istore (lv' := [(4, .int 1), (3, .int x1), (0, .ref (ad 0)), (1, .ref (ad (8 + t))), (2, .int (nI c1))]) hx hb dX3_handSuits_33 hl (by decide) rfl (fun ls hl => ?_)
        refine lv_iload_n hx hb dX3_handSuits_35 rfl (lv_at hl 1 rfl) ?_
        refine lv_if_eq (tgt := 56) hx hb dX3_handSuits_36 (by decide) (fun c36 => ?_) (fun c36 => ?_)
        · refine lv_iinc (v := nI (c1 + 1)) (lv' := [(2, .int (nI (c1 + 1))), (4, .int 1), (3, .int x1), (0, .ref (ad 0)), (1, .ref (ad (8 + t)))]) hx hb dX3_handSuits_56 hl (k := 4) rfl (nI_1 c1) (by decide) rfl (fun ls hl => ?_)
          refine lv_goto (tgt := 2) hx hb dX3_handSuits_59 (by decide) ?_
          have h1 : d_s1 R (T t 2) c1 = true := by rw [d_s1, ← ex1, decide_eq_true c36]; rfl
          exact ih (c1 + 1) (by omega) (by omega) (by rw [hF, show m1 - c1 = (m1 - (c1 + 1)) + 1 by omega]; simp only [d_hs]; rw [h1]; rfl) ls (lv_sub hl [3, 4, 0] rfl)
        · refine lv_iload_n hx hb dX3_handSuits_39 rfl (lv_at hl 1 rfl) ?_
          refine lv_iconst (v := 2) hx hb dX3_handSuits_40 (by decide) ?_
          refine lv_icmp_ne (tgt := 48) hx hb dX3_handSuits_41 (by decide) (fun c41 => ?_) (fun c41 => ?_)
          · refine lv_iconst (v := 0) hx hb dX3_handSuits_48 (by decide) ?_
            refine lv_iload hx hb dX3_handSuits_49 (lv_at hl 0 rfl) ?_
            refine lv_icmp_eq (tgt := 56) hx hb dX3_handSuits_51 (by decide) (fun c51 => absurd c51 (by decide)) (fun c51 => ?_)
            refine lv_iconst (v := 0) hx hb dX3_handSuits_54 (by decide) ?_
            have h1 : d_s1 R (T t 2) c1 = false := by rw [d_s1, ← ex1, decide_eq_false c36, decide_eq_false c41, decide_eq_true c25]; rfl
            exact x_retz C0 (by rw [hF, show m1 - c1 = (m1 - (c1 + 1)) + 1 by omega]; simp only [d_hs]; rw [h1]; rfl) rfl dX3_handSuits_55
          · refine lv_iconst (v := 1) hx hb dX3_handSuits_44 (by decide) ?_
            refine lv_goto (tgt := 49) hx hb dX3_handSuits_45 (by decide) ?_
            refine lv_iload hx hb dX3_handSuits_49 (lv_at hl 0 rfl) ?_
            refine lv_icmp_eq (tgt := 56) hx hb dX3_handSuits_51 (by decide) (fun c51 => ?_) (fun c51 => absurd (by decide) c51)
            refine lv_iinc (v := nI (c1 + 1)) (lv' := [(2, .int (nI (c1 + 1))), (4, .int 1), (3, .int x1), (0, .ref (ad 0)), (1, .ref (ad (8 + t)))]) hx hb dX3_handSuits_56 hl (k := 4) rfl (nI_1 c1) (by decide) rfl (fun ls hl => ?_)
            refine lv_goto (tgt := 2) hx hb dX3_handSuits_59 (by decide) ?_
            have h1 : d_s1 R (T t 2) c1 = true := by rw [d_s1, ← ex1, decide_eq_false c36, decide_eq_true c41, decide_eq_true c25]; rfl
            exact ih (c1 + 1) (by omega) (by omega) (by rw [hF, show m1 - c1 = (m1 - (c1 + 1)) + 1 by omega]; simp only [d_hs]; rw [h1]; rfl) ls (lv_sub hl [3, 4, 0] rfl)
set_option maxHeartbeats 4000000 in
set_option maxRecDepth 100000 in
/-- handSuits -/
theorem c_X3_handSuits (l : Launch) (G : x_G) (ad : Nat → Nat) (R : Nat → Nat → Int32) (N : Nat → Int64) (tl : Nat → Bool) (T : Nat → Nat → Int32) (pl : Nat → Bool) (P : Nat → Nat → Int32) (X : Nat → Option va_E) (t m1 : Nat) (hi : t < 8) (hl_t : tl t = true) (hm : m1 ≤ 8) (hcol : T t 1 = nI m1) : Met l yX3_handSuits wsX3_handSuits ({ frames := 2, cells := 0, slots := 0, locals := 44 } : Room) (x_Pc G ad (x_con G ad R N tl T pl P X) [.ref (ad 0), .ref (ad (8 + t))]) (x_Qr (some (.int (zb (d_hs R (T t 2) m1 0))))) 0 0 (fun _ => False) := by
  refine x_met (cc := cX3_handSuits) (maxL := 5) (ret := (some .boolean)) (by decide) rfl _ (Nat.le_of_ble_eq_true rfl) ?_
  intro p e s m args below meth c C0 hini hK hS ls hl
  have hl : lv_has ls 5 [(0, .ref (ad 0)), (1, .ref (ad (8 + t)))] := hl
  obtain ⟨hx, hb, hr, hml, hown, hts, hlk⟩ := id C0
  refine lv_iconst (v := 0) hx hb dX3_handSuits_0 (by decide) ?_
  refine lv_istore_n (lv' := [(2, .int 0), (0, .ref (ad 0)), (1, .ref (ad (8 + t)))]) hx hb dX3_handSuits_1 rfl hl (by decide) rfl (fun ls hl => ?_)
  exact l_X3_handSuits C0 hK hi hl_t hm hcol hS 9 0 (by omega) (by omega) rfl ls (lv_sub hl [1, 2, 0] rfl)
theorem kX3_cellBytes_wX3 : ∀ w ∈ u_ws RX3 TX3 3, w ∈ wsX3_cellBytes := by decide +kernel
theorem kX3_cellBytes_f12 : Cond.fieldLink RX3 12 "VersionDesk" "hand" "LVersionDesk$Row;" ∈ wsX3_cellBytes := by decide +kernel
set_option maxHeartbeats 4000000 in
set_option maxRecDepth 100000 in
/-- cellBytes -/
theorem c_X3_cellBytes (l : Launch) (G : x_G) (ad : Nat → Nat) (R : Nat → Nat → Int32) (N : Nat → Int64) (tl : Nat → Bool) (T : Nat → Nat → Int32) (pl : Nat → Bool) (P : Nat → Nat → Int32) (X : Nat → Option va_E) (y0 c0 : Int32) : Met l yX3_cellBytes wsX3_cellBytes ({ frames := 3, cells := 0, slots := 0, locals := 62 } : Room) (x_Pc G ad (x_con G ad R N tl T pl P X) [.ref (ad 0), .int y0, .int c0]) (x_Qr (some (.int (d_cb R y0 c0)))) 0 0 (fun _ => False) := by
  refine x_met (cc := cX3_cellBytes) (maxL := 3) (ret := (some .int)) (by decide) rfl _ (Nat.le_of_ble_eq_true rfl) ?_
  intro p e s m args below meth c C0 hini hK hS ls hl
  have hl : lv_has ls 3 [(0, .ref (ad 0)), (1, .int y0), (2, .int c0)] := hl
  obtain ⟨hx, hb, hr, hml, hown, hts, hlk⟩ := id C0
  refine lv_iload_n hx hb dX3_cellBytes_0 rfl (lv_at hl 1 rfl) ?_
  by_cases s1_1 : y0 = 1
  · refine lv_lookup (off := 27) (tgt := 28) hx hb dX3_cellBytes_1 (by decide) (by rw [s1_1] <;> rfl) (by decide) ?_
    refine lv_bipush (v := 8) hx hb dX3_cellBytes_28 (by decide) ?_
    exact x_reti C0 (by unfold d_cb; rw [if_pos s1_1]) dX3_cellBytes_30
  by_cases s1_2 : y0 = 2
  · refine lv_lookup (off := 30) (tgt := 31) hx hb dX3_cellBytes_1 (by decide) (by rw [s1_2] <;> rfl) (by decide) ?_
    refine lv_iconst (v := 1) hx hb dX3_cellBytes_31 (by decide) ?_
    refine lv_aload_n hx hb dX3_cellBytes_32 rfl (lv_at hl 0 rfl) ?_
    refine x_dget (j := 0) C0 hK hS (by decide) kX3_cellBytes_wX3 kX3_cellBytes_f12 dX3_cellBytes_33 ?_
    refine lv_iload_n hx hb dX3_cellBytes_36 rfl (lv_at hl 2 rfl) ?_
    refine x_callr (x_rV C0 hl.1 hK hS (c_X1_lengthAt l G ad R N tl T pl P X c0) (x_con_0 (k := 1) (by omega)) rfl gX3_cellBytes_X1_lengthAt 1 rfl rfl rfl (by decide +kernel) ⟨Nat.le_of_ble_eq_true rfl, Nat.le_of_ble_eq_true rfl⟩ rfl rfl (Nat.le_of_ble_eq_true rfl) dX3_cellBytes_37 ⟨Nat.le_of_ble_eq_true rfl, Nat.le_of_ble_eq_true rfl⟩) ?_
    show W _ _ _ _ _ _ _ _ _ _ _ _ _ _ _ (F0 m 40 ls [.int (h_ln R c0), .int 1])
    refine lv_iadd hx hb dX3_cellBytes_40 ?_
    exact x_reti C0 (by unfold d_cb; rw [if_neg s1_1, if_pos s1_2]) dX3_cellBytes_41
  · refine lv_lookup (off := 41) (tgt := 42) hx hb dX3_cellBytes_1 (by decide) (by rw [lv_osw s1_1 (by decide), lv_osw s1_2 (by decide)] <;> rfl) (by decide) ?_
    refine lv_iconst (v := 1) hx hb dX3_cellBytes_42 (by decide) ?_
    exact x_reti C0 (by unfold d_cb; rw [if_neg s1_1, if_neg s1_2]) dX3_cellBytes_43
theorem kX3_sizeOfHand_wX2 : ∀ w ∈ u_ws RX2 TX2 3, w ∈ wsX3_sizeOfHand := by decide +kernel
theorem kX3_sizeOfHand_wX3 : ∀ w ∈ u_ws RX3 TX3 3, w ∈ wsX3_sizeOfHand := by decide +kernel
theorem kX3_sizeOfHand_f12 : Cond.fieldLink RX3 12 "VersionDesk" "hand" "LVersionDesk$Row;" ∈ wsX3_sizeOfHand := by decide +kernel
theorem kX3_sizeOfHand_f196 : Cond.fieldLink RX3 196 "VersionDesk$Table" "columns" "I" ∈ wsX3_sizeOfHand := by decide +kernel
set_option maxHeartbeats 4000000 in
set_option maxRecDepth 100000 in
theorem l_X3_sizeOfHand {p : Program} {l : Launch} {e : Env} {s : State} {m : MethodId} {args : Array Value} {below : List Frame} {meth : Method} {c : Code} {G : x_G} {ad : Nat → Nat} {R : Nat → Nat → Int32} {N : Nat → Int64} {tl : Nat → Bool} {T : Nat → Nat → Int32} {pl : Nat → Bool} {P : Nat → Nat → Int32} {X : Nat → Option va_E} (C0 : x_B p s m meth c args cX3_sizeOfHand 4 (some .int) RX3 wsX3_sizeOfHand) (hK : x_K G s) {t m1 : Nat} {r : Int32} (hi : t < 8) (hl_t : tl t = true) (hm : m1 ≤ 8) (hcol : T t 1 = nI m1) (hS : x_H G ad (x_con G ad R N tl T pl P X) s.heap []) : ∀ (d : Nat) (c1 : Nat) (a : Int32), m1 - c1 < d → c1 ≤ m1 → r = d_sz R (T t 2) (m1 - c1) c1 a → ∀ (ls : Array Slot), lv_has ls 4 [(0, .ref (ad 0)), (1, .ref (ad (8 + t))), (2, .int a), (3, .int (nI c1))] → W p l e ({ frames := 4, cells := 0, slots := 0, locals := 84 } : Room) s m args below meth c s.heap [] 0 0 (MQ below (x_Qr (some (.int r))) args s 0 0 (fun _ => False)) (F0 m 5 ls []) := by
  obtain ⟨hx, hb, hr, hml, hown, hts, hlk⟩ := id C0
  intro d
  induction d with
  | zero =>
    intro c1 a hd hc hF ls hl
    exact absurd hd (by omega)
  | succ d ih =>
    intro c1 a hd hc hF ls hl
    refine lv_iload_n hx hb dX3_sizeOfHand_5 rfl (lv_at hl 3 rfl) ?_
    refine lv_aload_n hx hb dX3_sizeOfHand_6 rfl (lv_at hl 1 rfl) ?_
    refine x_tget (j := 1) C0 hK hS hi hl_t (by decide) kX3_sizeOfHand_wX2 kX3_sizeOfHand_f196 dX3_sizeOfHand_7 ?_
    refine lv_icmp_ge (tgt := 43) hx hb dX3_sizeOfHand_10 (by decide) (fun c10 => ?_) (fun c10 => ?_)
    · have hc2 := nz_le c10 hcol rfl (by omega) (by omega)
      refine lv_iload_n hx hb dX3_sizeOfHand_43 rfl (lv_at hl 2 rfl) ?_
      exact x_reti C0 (by rw [hF, show m1 - c1 = 0 by omega]; rfl) dX3_sizeOfHand_44
    · have hc2 := nz_nle c10 hcol rfl (by omega) (by omega)
      refine lv_aload_n hx hb dX3_sizeOfHand_13 rfl (lv_at hl 0 rfl) ?_
      refine x_dget (j := 0) C0 hK hS (by decide) kX3_sizeOfHand_wX3 kX3_sizeOfHand_f12 dX3_sizeOfHand_14 ?_
      refine lv_iload_n hx hb dX3_sizeOfHand_17 rfl (lv_at hl 3 rfl) ?_
      refine x_callr (x_rV C0 hl.1 hK hS (c_X1_kindAt l G ad R N tl T pl P X (nI c1)) (x_con_0 (k := 1) (by omega)) rfl gX3_sizeOfHand_X1_kindAt 1 rfl rfl rfl (by decide +kernel) ⟨Nat.le_of_ble_eq_true rfl, Nat.le_of_ble_eq_true rfl⟩ rfl rfl (Nat.le_of_ble_eq_true rfl) dX3_sizeOfHand_18 ⟨Nat.le_of_ble_eq_true rfl, Nat.le_of_ble_eq_true rfl⟩) ?_
      rw [h_kd_nI (by omega)]
      show W _ _ _ _ _ _ _ _ _ _ _ _ _ _ _ (F0 m 21 ls [.int (R 0 c1)])
      refine lv_if_eq (tgt := 37) hx hb dX3_sizeOfHand_21 (by decide) (fun c21 => ?_) (fun c21 => ?_)
      · refine lv_iinc (v := nI (c1 + 1)) (lv' := [(3, .int (nI (c1 + 1))), (0, .ref (ad 0)), (1, .ref (ad (8 + t))), (2, .int a)]) hx hb dX3_sizeOfHand_37 hl (k := 3) rfl (nI_1 c1) (by decide) rfl (fun ls hl => ?_)
        refine lv_goto (tgt := 5) hx hb dX3_sizeOfHand_40 (by decide) ?_
        exact ih (c1 + 1) _ (by omega) (by omega) (by rw [hF, show m1 - c1 = (m1 - (c1 + 1)) + 1 by omega]; simp only [d_sz]; rw [if_pos c21]) ls (lv_sub hl [1, 2, 3, 0] rfl)
      · refine lv_iload_n hx hb dX3_sizeOfHand_24 rfl (lv_at hl 2 rfl) ?_
        refine lv_aload_n hx hb dX3_sizeOfHand_25 rfl (lv_at hl 0 rfl) ?_
        refine lv_aload_n hx hb dX3_sizeOfHand_26 rfl (lv_at hl 1 rfl) ?_
        refine lv_iload_n hx hb dX3_sizeOfHand_27 rfl (lv_at hl 3 rfl) ?_
        refine x_callr (x_rV C0 hl.1 hK hS (c_X2_typeAt l G ad R N tl T pl P X t c1 hi hl_t (by omega)) (x_con_t hi hl_t) rfl gX3_sizeOfHand_X2_typeAt 1 rfl rfl rfl (by decide +kernel) ⟨Nat.le_of_ble_eq_true rfl, Nat.le_of_ble_eq_true rfl⟩ rfl rfl (Nat.le_of_ble_eq_true rfl) dX3_sizeOfHand_28 ⟨Nat.le_of_ble_eq_true rfl, Nat.le_of_ble_eq_true rfl⟩) ?_
        show W _ _ _ _ _ _ _ _ _ _ _ _ _ _ _ (F0 m 31 ls [.int (dg (T t 2) c1), .ref (ad 0), .int a])
        refine lv_iload_n hx hb dX3_sizeOfHand_31 rfl (lv_at hl 3 rfl) ?_
        refine x_callr (x_rV C0 hl.1 hK hS (c_X3_cellBytes l G ad R N tl T pl P X (dg (T t 2) c1) (nI c1)) (x_con_0 (k := 0) (by omega)) rfl gX3_sizeOfHand_X3_cellBytes 2 rfl rfl rfl (by decide +kernel) ⟨Nat.le_of_ble_eq_true rfl, Nat.le_of_ble_eq_true rfl⟩ rfl rfl (Nat.le_of_ble_eq_true rfl) dX3_sizeOfHand_32 ⟨Nat.le_of_ble_eq_true rfl, Nat.le_of_ble_eq_true rfl⟩) ?_
        show W _ _ _ _ _ _ _ _ _ _ _ _ _ _ _ (F0 m 35 ls [.int (d_cb R (dg (T t 2) c1) (nI c1)), .int a])
        refine lv_iadd hx hb dX3_sizeOfHand_35 ?_
        refine lv_topi (fun x1 ex1 => ?_)
        refine lv_istore_n (lv' := [(2, .int x1), (0, .ref (ad 0)), (1, .ref (ad (8 + t))), (3, .int (nI c1))]) hx hb dX3_sizeOfHand_36 rfl hl (by decide) rfl (fun ls hl => ?_)
        refine lv_iinc (v := nI (c1 + 1)) (lv' := [(3, .int (nI (c1 + 1))), (2, .int x1), (0, .ref (ad 0)), (1, .ref (ad (8 + t)))]) hx hb dX3_sizeOfHand_37 hl (k := 3) rfl (nI_1 c1) (by decide) rfl (fun ls hl => ?_)
        refine lv_goto (tgt := 5) hx hb dX3_sizeOfHand_40 (by decide) ?_
        exact ih (c1 + 1) _ (by omega) (by omega) (by rw [hF, show m1 - c1 = (m1 - (c1 + 1)) + 1 by omega]; simp only [d_sz]; rw [if_neg c21, ex1]) ls (lv_sub hl [2, 3, 1, 0] rfl)
set_option maxHeartbeats 4000000 in
set_option maxRecDepth 100000 in
/-- sizeOfHand -/
theorem c_X3_sizeOfHand (l : Launch) (G : x_G) (ad : Nat → Nat) (R : Nat → Nat → Int32) (N : Nat → Int64) (tl : Nat → Bool) (T : Nat → Nat → Int32) (pl : Nat → Bool) (P : Nat → Nat → Int32) (X : Nat → Option va_E) (t m1 : Nat) (hi : t < 8) (hl_t : tl t = true) (hm : m1 ≤ 8) (hcol : T t 1 = nI m1) : Met l yX3_sizeOfHand wsX3_sizeOfHand ({ frames := 4, cells := 0, slots := 0, locals := 84 } : Room) (x_Pc G ad (x_con G ad R N tl T pl P X) [.ref (ad 0), .ref (ad (8 + t))]) (x_Qr (some (.int (d_sz R (T t 2) m1 0 16)))) 0 0 (fun _ => False) := by
  refine x_met (cc := cX3_sizeOfHand) (maxL := 4) (ret := (some .int)) (by decide) rfl _ (Nat.le_of_ble_eq_true rfl) ?_
  intro p e s m args below meth c C0 hini hK hS ls hl
  have hl : lv_has ls 4 [(0, .ref (ad 0)), (1, .ref (ad (8 + t)))] := hl
  obtain ⟨hx, hb, hr, hml, hown, hts, hlk⟩ := id C0
  refine lv_bipush (v := 16) hx hb dX3_sizeOfHand_0 (by decide) ?_
  refine lv_istore_n (lv' := [(2, .int 16), (0, .ref (ad 0)), (1, .ref (ad (8 + t)))]) hx hb dX3_sizeOfHand_2 rfl hl (by decide) rfl (fun ls hl => ?_)
  refine lv_iconst (v := 0) hx hb dX3_sizeOfHand_3 (by decide) ?_
  refine lv_istore_n (lv' := [(3, .int 0), (2, .int 16), (0, .ref (ad 0)), (1, .ref (ad (8 + t)))]) hx hb dX3_sizeOfHand_4 rfl hl (by decide) rfl (fun ls hl => ?_)
  exact l_X3_sizeOfHand C0 hK hi hl_t hm hcol hS 9 0 _ (by omega) (by omega) rfl ls (lv_sub hl [2, 3, 1, 0] rfl)
set_option maxHeartbeats 4000000 in
set_option maxRecDepth 100000 in
theorem l_X3_areTypes {p : Program} {l : Launch} {e : Env} {s : State} {m : MethodId} {args : Array Value} {below : List Frame} {meth : Method} {c : Code} {G : x_G} {ad : Nat → Nat} {R : Nat → Nat → Int32} {N : Nat → Int64} {tl : Nat → Bool} {T : Nat → Nat → Int32} {pl : Nat → Bool} {P : Nat → Nat → Int32} {X : Nat → Option va_E} (C0 : x_B p s m meth c args cX3_areTypes 4 (some .boolean) RX3 wsX3_areTypes) (hK : x_K G s) {n : Nat} {x0 : Int32} {r : Bool} (hn : n ≤ 8) (hS : x_H G ad (x_con G ad R N tl T pl P X) s.heap []) : ∀ (d : Nat) (c1 : Nat), n - c1 < d → c1 ≤ n → r = d_ty x0 (n - c1) c1 → ∀ (ls : Array Slot), lv_has ls 4 [(0, .int (nI n)), (1, .int x0), (2, .int (nI c1))] → W p l e ({ frames := 1, cells := 0, slots := 0, locals := 23 } : Room) s m args below meth c s.heap [] 0 0 (MQ below (x_Qr (some (.int (zb r)))) args s 0 0 (fun _ => False)) (F0 m 15 ls []) := by
  obtain ⟨hx, hb, hr, hml, hown, hts, hlk⟩ := id C0
  intro d
  induction d with
  | zero =>
    intro c1 hd hc hF ls hl
    exact absurd hd (by omega)
  | succ d ih =>
    intro c1 hd hc hF ls hl
    refine lv_iload_n hx hb dX3_areTypes_15 rfl (lv_at hl 2 rfl) ?_
    refine lv_iload_n hx hb dX3_areTypes_16 rfl (lv_at hl 0 rfl) ?_
    refine lv_icmp_ge (tgt := 49) hx hb dX3_areTypes_17 (by decide) (fun c17 => ?_) (fun c17 => ?_)
    · have hc2 := nz_le c17 rfl rfl (by omega) (by omega)
      refine lv_iconst (v := 1) hx hb dX3_areTypes_49 (by decide) ?_
      exact x_retz C0 (by rw [hF, show n - c1 = 0 by omega]; rfl) rfl dX3_areTypes_50
    · have hc2 := nz_nle c17 rfl rfl (by omega) (by omega)
      refine lv_iload_n hx hb dX3_areTypes_20 rfl (lv_at hl 1 rfl) ?_
      refine lv_iload_n hx hb dX3_areTypes_21 rfl (lv_at hl 2 rfl) ?_
      refine x_callr (x_rS C0 hl.1 hK hS (c_X3_digit l G ad R N tl T pl P X c1 x0 (by omega)) gX3_areTypes_X3_digit 2 rfl rfl rfl (by decide +kernel) ⟨Nat.le_of_ble_eq_true rfl, Nat.le_of_ble_eq_true rfl⟩ rfl rfl (Nat.le_of_ble_eq_true rfl) dX3_areTypes_22 ⟨Nat.le_of_ble_eq_true rfl, Nat.le_of_ble_eq_true rfl⟩) ?_
      show W _ _ _ _ _ _ _ _ _ _ _ _ _ _ _ (F0 m 25 ls [.int (dg x0 c1)])
      refine lv_topi (fun x1 ex1 => ?_)
      refine lv_istore_n (lv' := [(3, .int x1), (0, .int (nI n)), (1, .int x0), (2, .int (nI c1))]) hx hb dX3_areTypes_25 rfl hl (by decide) rfl (fun ls hl => ?_)
      refine lv_iload_n hx hb dX3_areTypes_26 rfl (lv_at hl 0 rfl) ?_
      refine lv_iconst (v := 1) hx hb dX3_areTypes_27 (by decide) ?_
      refine lv_icmp_eq (tgt := 43) hx hb dX3_areTypes_28 (by decide) (fun c28 => ?_) (fun c28 => ?_)
      · refine lv_iinc (v := nI (c1 + 1)) (lv' := [(2, .int (nI (c1 + 1))), (3, .int x1), (0, .int (nI n)), (1, .int x0)]) hx hb dX3_areTypes_43 hl (k := 3) rfl (nI_1 c1) (by decide) rfl (fun ls hl => ?_)
        refine lv_goto (tgt := 15) hx hb dX3_areTypes_46 (by decide) ?_
        have h1 : d_t1 x0 c1 = true := by rw [d_t1, ← ex1, decide_eq_true c28]; rfl
        exact ih (c1 + 1) (by omega) (by omega) (by rw [hF, show n - c1 = (n - (c1 + 1)) + 1 by omega]; simp only [d_ty]; rw [h1]; rfl) ls (lv_sub hl [2, 3, 0] rfl)
      · refine lv_iload_n hx hb dX3_areTypes_31 rfl (lv_at hl 0 rfl) ?_
        refine lv_iconst (v := 2) hx hb dX3_areTypes_32 (by decide) ?_
        refine lv_icmp_eq (tgt := 43) hx hb dX3_areTypes_33 (by decide) (fun c33 => ?_) (fun c33 => ?_)
        · refine lv_iinc (v := nI (c1 + 1)) (lv' := [(2, .int (nI (c1 + 1))), (3, .int x1), (0, .int (nI n)), (1, .int x0)]) hx hb dX3_areTypes_43 hl (k := 3) rfl (nI_1 c1) (by decide) rfl (fun ls hl => ?_)
          refine lv_goto (tgt := 15) hx hb dX3_areTypes_46 (by decide) ?_
          have h1 : d_t1 x0 c1 = true := by rw [d_t1, ← ex1, decide_eq_true c33]; simp
          exact ih (c1 + 1) (by omega) (by omega) (by rw [hF, show n - c1 = (n - (c1 + 1)) + 1 by omega]; simp only [d_ty]; rw [h1]; rfl) ls (lv_sub hl [2, 3, 0] rfl)
        · refine lv_iload_n hx hb dX3_areTypes_36 rfl (lv_at hl 0 rfl) ?_
          refine lv_iconst (v := 3) hx hb dX3_areTypes_37 (by decide) ?_
          refine lv_icmp_eq (tgt := 43) hx hb dX3_areTypes_38 (by decide) (fun c38 => ?_) (fun c38 => ?_)
          · refine lv_iinc (v := nI (c1 + 1)) (lv' := [(2, .int (nI (c1 + 1))), (3, .int x1), (0, .int (nI n)), (1, .int x0)]) hx hb dX3_areTypes_43 hl (k := 3) rfl (nI_1 c1) (by decide) rfl (fun ls hl => ?_)
            refine lv_goto (tgt := 15) hx hb dX3_areTypes_46 (by decide) ?_
            have h1 : d_t1 x0 c1 = true := by rw [d_t1, ← ex1, decide_eq_true c38]; simp
            exact ih (c1 + 1) (by omega) (by omega) (by rw [hF, show n - c1 = (n - (c1 + 1)) + 1 by omega]; simp only [d_ty]; rw [h1]; rfl) ls (lv_sub hl [2, 3, 0] rfl)
          · refine lv_iconst (v := 0) hx hb dX3_areTypes_41 (by decide) ?_
            have h1 : d_t1 x0 c1 = false := by rw [d_t1, ← ex1, decide_eq_false c28, decide_eq_false c33, decide_eq_false c38]; rfl
            exact x_retz C0 (by rw [hF, show n - c1 = (n - (c1 + 1)) + 1 by omega]; simp only [d_ty]; rw [h1]; rfl) rfl dX3_areTypes_42
set_option maxHeartbeats 4000000 in
set_option maxRecDepth 100000 in
/-- areTypes -/
theorem c_X3_areTypes (l : Launch) (G : x_G) (ad : Nat → Nat) (R : Nat → Nat → Int32) (N : Nat → Int64) (tl : Nat → Bool) (T : Nat → Nat → Int32) (pl : Nat → Bool) (P : Nat → Nat → Int32) (X : Nat → Option va_E) (n0 x0 : Int32) : Met l yX3_areTypes wsX3_areTypes ({ frames := 1, cells := 0, slots := 0, locals := 23 } : Room) (x_Pc G ad (x_con G ad R N tl T pl P X) [.int n0, .int x0]) (x_Qr (some (.int (zb (d_at n0 x0))))) 0 0 (fun _ => False) := by
  refine x_met (cc := cX3_areTypes) (maxL := 4) (ret := (some .boolean)) (by decide) rfl _ (Nat.le_of_ble_eq_true rfl) ?_
  intro p e s m args below meth c C0 hini hK hS ls hl
  have hl : lv_has ls 4 [(0, .int n0), (1, .int x0)] := hl
  obtain ⟨hx, hb, hr, hml, hown, hts, hlk⟩ := id C0
  refine lv_iload_n hx hb dX3_areTypes_0 rfl (lv_at hl 0 rfl) ?_
  refine lv_iconst (v := 1) hx hb dX3_areTypes_1 (by decide) ?_
  refine lv_icmp_lt (tgt := 11) hx hb dX3_areTypes_2 (by decide) (fun c2 => ?_) (fun c2 => ?_)
  · refine lv_iconst (v := 0) hx hb dX3_areTypes_11 (by decide) ?_
    exact x_retz C0 (by rw [d_at, decide_eq_false (Int32.not_le.mpr c2)]; rfl) rfl dX3_areTypes_12
  · refine lv_iload_n hx hb dX3_areTypes_5 rfl (lv_at hl 0 rfl) ?_
    refine lv_bipush (v := 8) hx hb dX3_areTypes_6 (by decide) ?_
    refine lv_icmp_le (tgt := 13) hx hb dX3_areTypes_8 (by decide) (fun c8 => ?_) (fun c8 => ?_)
    · obtain ⟨n, hn, rfl⟩ : ∃ n, n ≤ 8 ∧ n0 = nI n := by
        have h0 : ¬ n0 < 0 := fun q => c2 (Int32.lt_trans q (by decide))
        obtain ⟨j, h1, h2⟩ := nI_of h0
        exact ⟨j, nz_le (b := 8) c8 h2 rfl h1 (by omega), h2⟩
      refine lv_iconst (v := 0) hx hb dX3_areTypes_13 (by decide) ?_
      refine lv_istore_n (lv' := [(2, .int 0), (0, .int (nI n)), (1, .int x0)]) hx hb dX3_areTypes_14 rfl hl (by decide) rfl (fun ls hl => ?_)
      exact l_X3_areTypes C0 hK hn hS 9 0 (by omega) (by omega) (by rw [d_at, decide_eq_true (Int32.not_lt.mp c2), decide_eq_true c8, nI_clamp (by omega)]; rfl) ls (lv_sub hl [1, 2, 0] rfl)
    · refine lv_iconst (v := 0) hx hb dX3_areTypes_11 (by decide) ?_
      exact x_retz C0 (by rw [d_at, decide_eq_false c8, Bool.false_and, Bool.and_false]; rfl) rfl dX3_areTypes_12
