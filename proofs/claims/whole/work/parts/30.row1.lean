-- ===== the desk's own numbers =====
def d_in (c h : Int32) : Bool := decide (0 ≤ c) && decide (c < h)
theorem d_in_of {c : Int32} {n : Nat} (hn : n < 2 ^ 31) (h : d_in c (nI n) = true) : ∃ i, i < n ∧ c = nI i := by
  simp only [d_in, Bool.and_eq_true, decide_eq_true_eq] at h
  obtain ⟨j, h1, h2⟩ := nI_of (Int32.not_lt.mpr h.1)
  refine ⟨j, ?_, h2⟩
  exact nz_lt h.2 h2 rfl h1 hn
theorem d_in_nI {i n : Nat} (h : i < n) (hn : n < 2 ^ 31) : d_in (nI i) (nI n) = true := by
  simp only [d_in, Bool.and_eq_true, decide_eq_true_eq]
  exact ⟨nI_pos' (by omega), nI_lt h hn⟩
/-- the i-th decimal digit of a number, as Java has it -/
def dg_r (x : Int32) : Nat → Int32
  | 0 => x
  | i + 1 => dg_r x i / 10
def dg (x : Int32) (i : Nat) : Int32 := dg_r x i - dg_r x i / 10 * 10
-- the hand
def h_ok (R : Nat → Nat → Int32) : Prop := ∀ i, i < 8 → ∃ n, n ≤ 31 ∧ R 1 i = nI n
def h_kd (R : Nat → Nat → Int32) (c : Int32) : Int32 := if d_in c (nI 8) then R 0 c.toNatClampNeg else -1
def h_nm (R : Nat → Nat → Int32) (N : Nat → Int64) (c : Int32) : Int64 := if h_kd R c = 1 then N c.toNatClampNeg else 0
def h_ln (R : Nat → Nat → Int32) (c : Int32) : Int32 := if h_kd R c = 2 then R 1 c.toNatClampNeg else 0
def h_lt (R : Nat → Nat → Int32) (c i : Int32) : Int32 := if i < 0 ∨ h_ln R c ≤ i then -1 else R 2 (c.toNatClampNeg * 31 + i.toNatClampNeg) &&& 255
theorem h_kd_in {R : Nat → Nat → Int32} {c v : Int32} (h : h_kd R c = v) (hv : v ≠ -1) : ∃ i, i < 8 ∧ c = nI i ∧ R 0 i = v := by
  unfold h_kd at h
  split at h
  · rename_i h1
    obtain ⟨i, h2, h3⟩ := d_in_of (n := 8) (by decide) h1
    refine ⟨i, h2, h3, ?_⟩
    rw [h3, nI_clamp (by omega)] at h
    exact h
  · exact absurd h.symm hv
theorem h_kd_nI {R : Nat → Nat → Int32} {i : Nat} (h : i < 8) : h_kd R (nI i) = R 0 i := by
  unfold h_kd
  rw [if_pos (d_in_nI h (by decide)), nI_clamp (by omega)]
set_option maxHeartbeats 4000000 in
set_option maxRecDepth 100000 in
/-- isColumn -/
theorem c_X3_isColumn (l : Launch) (G : x_G) (ad : Nat → Nat) (R : Nat → Nat → Int32) (N : Nat → Int64) (tl : Nat → Bool) (T : Nat → Nat → Int32) (pl : Nat → Bool) (P : Nat → Nat → Int32) (X : Nat → Option va_E) (c0 : Int32) : Met l yX3_isColumn wsX3_isColumn ({ frames := 0, cells := 0, slots := 0, locals := 0 } : Room) (x_Pc G ad (x_con G ad R N tl T pl P X) [.int c0]) (x_Qr (some (.int (zb (d_in c0 (nI 8)))))) 0 0 (fun _ => False) := by
  refine x_met (cc := cX3_isColumn) (maxL := 1) (ret := (some .boolean)) (by decide) rfl _ (Nat.le_of_ble_eq_true rfl) ?_
  intro p e s m args below meth c C0 hini hK hS ls hl
  have hl : lv_has ls 1 [(0, .int c0)] := hl
  obtain ⟨hx, hb, hr, hml, hown, hts, hlk⟩ := id C0
  refine lv_iload_n hx hb dX3_isColumn_0 rfl (lv_at hl 0 rfl) ?_
  refine lv_if_lt (tgt := 14) hx hb dX3_isColumn_1 (by decide) (fun c1 => ?_) (fun c1 => ?_)
  · refine lv_iconst (v := 0) hx hb dX3_isColumn_14 (by decide) ?_
    exact x_retz C0 (by rw [show nI 8 = (8 : Int32) from rfl]; simp only [zb, d_in]; simp [Int32.not_le.mpr c1]) rfl dX3_isColumn_15
  · refine lv_iload_n hx hb dX3_isColumn_4 rfl (lv_at hl 0 rfl) ?_
    refine lv_bipush (v := 8) hx hb dX3_isColumn_5 (by decide) ?_
    refine lv_icmp_ge (tgt := 14) hx hb dX3_isColumn_7 (by decide) (fun c7 => ?_) (fun c7 => ?_)
    · refine lv_iconst (v := 0) hx hb dX3_isColumn_14 (by decide) ?_
      exact x_retz C0 (by rw [show nI 8 = (8 : Int32) from rfl]; simp only [zb, d_in]; simp [Int32.not_lt.mpr c7]) rfl dX3_isColumn_15
    · refine lv_iconst (v := 1) hx hb dX3_isColumn_10 (by decide) ?_
      refine lv_goto (tgt := 15) hx hb dX3_isColumn_11 (by decide) ?_
      exact x_retz C0 (by rw [show nI 8 = (8 : Int32) from rfl]; simp only [zb, d_in]; simp [Int32.not_lt.mp c1, Int32.not_le.mp c7]) rfl dX3_isColumn_15
set_option maxHeartbeats 4000000 in
set_option maxRecDepth 100000 in
/-- isPlace -/
theorem c_X3_isPlace (l : Launch) (G : x_G) (ad : Nat → Nat) (R : Nat → Nat → Int32) (N : Nat → Int64) (tl : Nat → Bool) (T : Nat → Nat → Int32) (pl : Nat → Bool) (P : Nat → Nat → Int32) (X : Nat → Option va_E) (c0 : Int32) : Met l yX3_isPlace wsX3_isPlace ({ frames := 0, cells := 0, slots := 0, locals := 0 } : Room) (x_Pc G ad (x_con G ad R N tl T pl P X) [.int c0]) (x_Qr (some (.int (zb (d_in c0 (nI 15360)))))) 0 0 (fun _ => False) := by
  refine x_met (cc := cX3_isPlace) (maxL := 1) (ret := (some .boolean)) (by decide) rfl _ (Nat.le_of_ble_eq_true rfl) ?_
  intro p e s m args below meth c C0 hini hK hS ls hl
  have hl : lv_has ls 1 [(0, .int c0)] := hl
  obtain ⟨hx, hb, hr, hml, hown, hts, hlk⟩ := id C0
  refine lv_iload_n hx hb dX3_isPlace_0 rfl (lv_at hl 0 rfl) ?_
  refine lv_if_lt (tgt := 15) hx hb dX3_isPlace_1 (by decide) (fun c1 => ?_) (fun c1 => ?_)
  · refine lv_iconst (v := 0) hx hb dX3_isPlace_15 (by decide) ?_
    exact x_retz C0 (by rw [show nI 15360 = (15360 : Int32) from rfl]; simp only [zb, d_in]; simp [Int32.not_le.mpr c1]) rfl dX3_isPlace_16
  · refine lv_iload_n hx hb dX3_isPlace_4 rfl (lv_at hl 0 rfl) ?_
    refine lv_sipush (v := 15360) hx hb dX3_isPlace_5 (by decide) ?_
    refine lv_icmp_ge (tgt := 15) hx hb dX3_isPlace_8 (by decide) (fun c8 => ?_) (fun c8 => ?_)
    · refine lv_iconst (v := 0) hx hb dX3_isPlace_15 (by decide) ?_
      exact x_retz C0 (by rw [show nI 15360 = (15360 : Int32) from rfl]; simp only [zb, d_in]; simp [Int32.not_lt.mpr c8]) rfl dX3_isPlace_16
    · refine lv_iconst (v := 1) hx hb dX3_isPlace_11 (by decide) ?_
      refine lv_goto (tgt := 16) hx hb dX3_isPlace_12 (by decide) ?_
      exact x_retz C0 (by rw [show nI 15360 = (15360 : Int32) from rfl]; simp only [zb, d_in]; simp [Int32.not_lt.mp c1, Int32.not_le.mp c8]) rfl dX3_isPlace_16
def d_sh (c : Int32) : Bool := decide (0 ≤ c) && decide (c ≤ 65535)
theorem kX3_isShort_c175 : Cond.constant RX3 175 (65535) ∈ wsX3_isShort := by decide +kernel
set_option maxHeartbeats 4000000 in
set_option maxRecDepth 100000 in
/-- isShort -/
theorem c_X3_isShort (l : Launch) (G : x_G) (ad : Nat → Nat) (R : Nat → Nat → Int32) (N : Nat → Int64) (tl : Nat → Bool) (T : Nat → Nat → Int32) (pl : Nat → Bool) (P : Nat → Nat → Int32) (X : Nat → Option va_E) (c0 : Int32) : Met l yX3_isShort wsX3_isShort ({ frames := 0, cells := 0, slots := 0, locals := 0 } : Room) (x_Pc G ad (x_con G ad R N tl T pl P X) [.int c0]) (x_Qr (some (.int (zb (d_sh c0))))) 0 0 (fun _ => False) := by
  refine x_met (cc := cX3_isShort) (maxL := 1) (ret := (some .boolean)) (by decide) rfl _ (Nat.le_of_ble_eq_true rfl) ?_
  intro p e s m args below meth c C0 hini hK hS ls hl
  have hl : lv_has ls 1 [(0, .int c0)] := hl
  obtain ⟨hx, hb, hr, hml, hown, hts, hlk⟩ := id C0
  refine lv_iload_n hx hb dX3_isShort_0 rfl (lv_at hl 0 rfl) ?_
  refine lv_if_lt (tgt := 14) hx hb dX3_isShort_1 (by decide) (fun c1 => ?_) (fun c1 => ?_)
  · refine lv_iconst (v := 0) hx hb dX3_isShort_14 (by decide) ?_
    exact x_retz C0 (by simp only [zb, d_sh]; simp [Int32.not_le.mpr c1]) rfl dX3_isShort_15
  · refine lv_iload_n hx hb dX3_isShort_4 rfl (lv_at hl 0 rfl) ?_
    refine lv_ldc (v := 65535) hx hb hown (hts _ kX3_isShort_c175) dX3_isShort_5 ?_
    refine lv_icmp_gt (tgt := 14) hx hb dX3_isShort_7 (by decide) (fun c7 => ?_) (fun c7 => ?_)
    · refine lv_iconst (v := 0) hx hb dX3_isShort_14 (by decide) ?_
      exact x_retz C0 (by simp only [zb, d_sh]; simp [Int32.not_le.mpr c7]) rfl dX3_isShort_15
    · refine lv_iconst (v := 1) hx hb dX3_isShort_10 (by decide) ?_
      refine lv_goto (tgt := 15) hx hb dX3_isShort_11 (by decide) ?_
      exact x_retz C0 (by simp only [zb, d_sh]; simp [Int32.not_lt.mp c1, Int32.not_lt.mp c7]) rfl dX3_isShort_15
set_option maxHeartbeats 4000000 in
set_option maxRecDepth 100000 in
/-- pageOf -/
theorem c_X3_pageOf (l : Launch) (G : x_G) (ad : Nat → Nat) (R : Nat → Nat → Int32) (N : Nat → Int64) (tl : Nat → Bool) (T : Nat → Nat → Int32) (pl : Nat → Bool) (P : Nat → Nat → Int32) (X : Nat → Option va_E) (k : Nat) (hk : k < 2 ^ 20) : Met l yX3_pageOf wsX3_pageOf ({ frames := 0, cells := 0, slots := 0, locals := 0 } : Room) (x_Pc G ad (x_con G ad R N tl T pl P X) [.int (nI k)]) (x_Qr (some (.int (nI (k / 256))))) 0 0 (fun _ => False) := by
  refine x_met (cc := cX3_pageOf) (maxL := 1) (ret := (some .int)) (by decide) rfl _ (Nat.le_of_ble_eq_true rfl) ?_
  intro p e s m args below meth c C0 hini hK hS ls hl
  have hl : lv_has ls 1 [(0, .int (nI k))] := hl
  obtain ⟨hx, hb, hr, hml, hown, hts, hlk⟩ := id C0
  refine lv_iload_n hx hb dX3_pageOf_0 rfl (lv_at hl 0 rfl) ?_
  refine lv_sipush (v := 256) hx hb dX3_pageOf_1 (by decide) ?_
  refine lv_idiv hx hb dX3_pageOf_4 (by decide) ?_
  exact x_reti C0 (pk_div (d := 256) (by omega) (by decide) (by decide)) dX3_pageOf_5
set_option maxHeartbeats 4000000 in
set_option maxRecDepth 100000 in
/-- slotOf -/
theorem c_X3_slotOf (l : Launch) (G : x_G) (ad : Nat → Nat) (R : Nat → Nat → Int32) (N : Nat → Int64) (tl : Nat → Bool) (T : Nat → Nat → Int32) (pl : Nat → Bool) (P : Nat → Nat → Int32) (X : Nat → Option va_E) (k : Nat) (hk : k < 2 ^ 20) : Met l yX3_slotOf wsX3_slotOf ({ frames := 0, cells := 0, slots := 0, locals := 0 } : Room) (x_Pc G ad (x_con G ad R N tl T pl P X) [.int (nI k)]) (x_Qr (some (.int (nI (k % 256))))) 0 0 (fun _ => False) := by
  refine x_met (cc := cX3_slotOf) (maxL := 1) (ret := (some .int)) (by decide) rfl _ (Nat.le_of_ble_eq_true rfl) ?_
  intro p e s m args below meth c C0 hini hK hS ls hl
  have hl : lv_has ls 1 [(0, .int (nI k))] := hl
  obtain ⟨hx, hb, hr, hml, hown, hts, hlk⟩ := id C0
  refine lv_iload_n hx hb dX3_slotOf_0 rfl (lv_at hl 0 rfl) ?_
  refine lv_sipush (v := 256) hx hb dX3_slotOf_1 (by decide) ?_
  refine lv_irem hx hb dX3_slotOf_4 (by decide) ?_
  exact x_reti C0 (pk_rem (d := 256) (by omega) (by decide) (by decide)) dX3_slotOf_5
set_option maxHeartbeats 4000000 in
set_option maxRecDepth 100000 in
theorem l_X3_digit {p : Program} {l : Launch} {e : Env} {s : State} {m : MethodId} {args : Array Value} {below : List Frame} {meth : Method} {c : Code} {G : x_G} {ad : Nat → Nat} {R : Nat → Nat → Int32} {N : Nat → Int64} {tl : Nat → Bool} {T : Nat → Nat → Int32} {pl : Nat → Bool} {P : Nat → Nat → Int32} {X : Nat → Option va_E} (C0 : x_B p s m meth c args cX3_digit 4 (some .int) RX3 wsX3_digit) (hK : x_K G s) {i : Nat} {x0 : Int32} (hi : i < 2 ^ 20) (hS : x_H G ad (x_con G ad R N tl T pl P X) s.heap []) : ∀ (d : Nat) (j : Nat) (v2 : Int32), i - j < d → j ≤ i → v2 = dg_r x0 j → ∀ (ls : Array Slot), lv_has ls 4 [(0, .int x0), (1, .int (nI i)), (2, .int v2), (3, .int (nI j))] → W p l e ({ frames := 0, cells := 0, slots := 0, locals := 0 } : Room) s m args below meth c s.heap [] 0 0 (MQ below (x_Qr (some (.int (dg x0 i)))) args s 0 0 (fun _ => False)) (F0 m 4 ls []) := by
  obtain ⟨hx, hb, hr, hml, hown, hts, hlk⟩ := id C0
  intro d
  induction d with
  | zero =>
    intro j v2 hd hj e2 ls hl
    exact absurd hd (by omega)
  | succ d ih =>
    intro j v2 hd hj e2 ls hl
    refine lv_iload_n hx hb dX3_digit_4 rfl (lv_at hl 3 rfl) ?_
    refine lv_iload_n hx hb dX3_digit_5 rfl (lv_at hl 1 rfl) ?_
    refine lv_icmp_ge (tgt := 20) hx hb dX3_digit_6 (by decide) (fun c6 => ?_) (fun c6 => ?_)
    · have hj2 := nz_le c6 rfl rfl (by omega) (by omega)
      refine lv_iload_n hx hb dX3_digit_20 rfl (lv_at hl 2 rfl) ?_
      refine lv_bipush (v := 10) hx hb dX3_digit_21 (by decide) ?_
      refine lv_irem hx hb dX3_digit_23 (by decide) ?_
      exact x_reti C0 (by rw [e2, show j = i by omega]; rfl) dX3_digit_24
    · have hj2 := nz_nle c6 rfl rfl (by omega) (by omega)
      refine lv_iload_n hx hb dX3_digit_9 rfl (lv_at hl 2 rfl) ?_
      refine lv_bipush (v := 10) hx hb dX3_digit_10 (by decide) ?_
      refine lv_idiv hx hb dX3_digit_12 (by decide) ?_
      refine lv_topi (fun x1 ex1 => ?_)
      refine lv_istore_n (lv' := [(2, .int x1), (0, .int x0), (1, .int (nI i)), (3, .int (nI j))]) hx hb dX3_digit_13 rfl hl (by decide) rfl (fun ls hl => ?_)
      refine lv_iinc (v := nI (j + 1)) (lv' := [(3, .int (nI (j + 1))), (2, .int x1), (0, .int x0), (1, .int (nI i))]) hx hb dX3_digit_14 hl (k := 3) rfl (nI_1 j) (by decide) rfl (fun ls hl => ?_)
      refine lv_goto (tgt := 4) hx hb dX3_digit_17 (by decide) ?_
      exact ih (j + 1) _ (by omega) (by omega) (by rw [ex1, e2]; rfl) ls (lv_sub hl [2, 3, 1, 0] rfl)
set_option maxHeartbeats 4000000 in
set_option maxRecDepth 100000 in
/-- digit -/
theorem c_X3_digit (l : Launch) (G : x_G) (ad : Nat → Nat) (R : Nat → Nat → Int32) (N : Nat → Int64) (tl : Nat → Bool) (T : Nat → Nat → Int32) (pl : Nat → Bool) (P : Nat → Nat → Int32) (X : Nat → Option va_E) (i : Nat) (x0 : Int32) (hi : i < 2 ^ 20) : Met l yX3_digit wsX3_digit ({ frames := 0, cells := 0, slots := 0, locals := 0 } : Room) (x_Pc G ad (x_con G ad R N tl T pl P X) [.int x0, .int (nI i)]) (x_Qr (some (.int (dg x0 i)))) 0 0 (fun _ => False) := by
  refine x_met (cc := cX3_digit) (maxL := 4) (ret := (some .int)) (by decide) rfl _ (Nat.le_of_ble_eq_true rfl) ?_
  intro p e s m args below meth c C0 hini hK hS ls hl
  have hl : lv_has ls 4 [(0, .int x0), (1, .int (nI i))] := hl
  obtain ⟨hx, hb, hr, hml, hown, hts, hlk⟩ := id C0
  refine lv_iload_n hx hb dX3_digit_0 rfl (lv_at hl 0 rfl) ?_
  refine lv_istore_n (lv' := [(2, .int x0), (0, .int x0), (1, .int (nI i))]) hx hb dX3_digit_1 rfl hl (by decide) rfl (fun ls hl => ?_)
  refine lv_iconst (v := 0) hx hb dX3_digit_2 (by decide) ?_
  refine lv_istore_n (lv' := [(3, .int 0), (2, .int x0), (0, .int x0), (1, .int (nI i))]) hx hb dX3_digit_3 rfl hl (by decide) rfl (fun ls hl => ?_)
  exact l_X3_digit C0 hK hi hS (i + 1) 0 _ (by omega) (by omega) rfl ls (lv_sub hl [2, 3, 1, 0] rfl)
theorem kX2_typeAt_wX2 : ∀ w ∈ u_ws RX2 TX2 3, w ∈ wsX2_typeAt := by decide +kernel
theorem kX2_typeAt_f16 : Cond.fieldLink RX2 16 "VersionDesk$Table" "types" "I" ∈ wsX2_typeAt := by decide +kernel
theorem kX2_typeAt_i19 : Cond.initialized yX3_digit.cls ∈ wsX2_typeAt := by decide +kernel
theorem kX2_typeAt_s19 : Cond.static yX3_digit ∈ wsX2_typeAt := by decide +kernel
set_option maxHeartbeats 4000000 in
set_option maxRecDepth 100000 in
/-- typeAt -/
theorem c_X2_typeAt (l : Launch) (G : x_G) (ad : Nat → Nat) (R : Nat → Nat → Int32) (N : Nat → Int64) (tl : Nat → Bool) (T : Nat → Nat → Int32) (pl : Nat → Bool) (P : Nat → Nat → Int32) (X : Nat → Option va_E) (i c0 : Nat) (hi : i < 8) (hl_t : tl i = true) (hc : c0 < 2 ^ 20) : Met l yX2_typeAt wsX2_typeAt ({ frames := 1, cells := 0, slots := 0, locals := 23 } : Room) (x_Pc G ad (x_con G ad R N tl T pl P X) [.ref (ad (8 + i)), .int (nI c0)]) (x_Qr (some (.int (dg (T i 2) c0)))) 0 0 (fun _ => False) := by
  refine x_met (cc := cX2_typeAt) (maxL := 2) (ret := (some .int)) (by decide) rfl _ (Nat.le_of_ble_eq_true rfl) ?_
  intro p e s m args below meth c C0 hini hK hS ls hl
  have hl : lv_has ls 2 [(0, .ref (ad (8 + i))), (1, .int (nI c0))] := hl
  obtain ⟨hx, hb, hr, hml, hown, hts, hlk⟩ := id C0
  refine lv_aload_n hx hb dX2_typeAt_0 rfl (lv_at hl 0 rfl) ?_
  refine x_tget (j := 2) C0 hK hS hi hl_t (by decide) kX2_typeAt_wX2 kX2_typeAt_f16 dX2_typeAt_1 ?_
  refine lv_iload_n hx hb dX2_typeAt_4 rfl (lv_at hl 1 rfl) ?_
  refine x_callr (x_rSN C0 hl.1 hK hS (c_X3_digit l G ad R N tl T pl P X c0 (T i 2) hc) gX2_typeAt_X3_digit_n19 2 rfl rfl rfl (host := RX3) (by decide +kernel) kX2_typeAt_i19 kX2_typeAt_s19 (by decide +kernel) ⟨Nat.le_of_ble_eq_true rfl, Nat.le_of_ble_eq_true rfl⟩ rfl rfl (Nat.le_of_ble_eq_true rfl) dX2_typeAt_5 ⟨Nat.le_of_ble_eq_true rfl, Nat.le_of_ble_eq_true rfl⟩) ?_
  show W _ _ _ _ _ _ _ _ _ _ _ _ _ _ _ (F0 m 8 ls [.int (dg (T i 2) c0)])
  exact x_reti C0 (rfl) dX2_typeAt_8
theorem kX1_kindAt_wX1 : ∀ w ∈ u_ws RX1 TX1 4, w ∈ wsX1_kindAt := by decide +kernel
theorem kX1_kindAt_f9 : Cond.fieldLink RX1 9 "VersionDesk$Row" "kinds" "[I" ∈ wsX1_kindAt := by decide +kernel
theorem kX1_kindAt_i32 : Cond.initialized yX3_isColumn.cls ∈ wsX1_kindAt := by decide +kernel
theorem kX1_kindAt_s32 : Cond.static yX3_isColumn ∈ wsX1_kindAt := by decide +kernel
set_option maxHeartbeats 4000000 in
set_option maxRecDepth 100000 in
/-- kindAt -/
theorem c_X1_kindAt (l : Launch) (G : x_G) (ad : Nat → Nat) (R : Nat → Nat → Int32) (N : Nat → Int64) (tl : Nat → Bool) (T : Nat → Nat → Int32) (pl : Nat → Bool) (P : Nat → Nat → Int32) (X : Nat → Option va_E) (c0 : Int32) : Met l yX1_kindAt wsX1_kindAt ({ frames := 1, cells := 0, slots := 0, locals := 20 } : Room) (x_Pc G ad (x_con G ad R N tl T pl P X) [.ref (ad 1), .int c0]) (x_Qr (some (.int (h_kd R c0)))) 0 0 (fun _ => False) := by
  refine x_met (cc := cX1_kindAt) (maxL := 2) (ret := (some .int)) (by decide) rfl _ (Nat.le_of_ble_eq_true rfl) ?_
  intro p e s m args below meth c C0 hini hK hS ls hl
  have hl : lv_has ls 2 [(0, .ref (ad 1)), (1, .int c0)] := hl
  obtain ⟨hx, hb, hr, hml, hown, hts, hlk⟩ := id C0
  refine lv_iload_n hx hb dX1_kindAt_0 rfl (lv_at hl 1 rfl) ?_
  refine x_callr (x_rSN C0 hl.1 hK hS (c_X3_isColumn l G ad R N tl T pl P X c0) gX1_kindAt_X3_isColumn_n32 1 rfl rfl rfl (host := RX3) (by decide +kernel) kX1_kindAt_i32 kX1_kindAt_s32 (by decide +kernel) ⟨Nat.le_of_ble_eq_true rfl, Nat.le_of_ble_eq_true rfl⟩ rfl rfl (Nat.le_of_ble_eq_true rfl) dX1_kindAt_1 ⟨Nat.le_of_ble_eq_true rfl, Nat.le_of_ble_eq_true rfl⟩) ?_
  show W _ _ _ _ _ _ _ _ _ _ _ _ _ _ _ (F0 m 4 ls [.int (zb (d_in c0 (nI 8)))])
  refine lv_if_eq (tgt := 16) hx hb dX1_kindAt_4 (by decide) (fun c4 => ?_) (fun c4 => ?_)
  · refine lv_iconst (v := (-1)) hx hb dX1_kindAt_16 (by decide) ?_
    exact x_reti C0 (by unfold h_kd; rw [zb_eq c4]; rfl) dX1_kindAt_17
  · obtain ⟨i, hi, rfl⟩ := d_in_of (n := 8) (by decide) (zb_ne c4)
    refine lv_aload_n hx hb dX1_kindAt_7 rfl (lv_at hl 0 rfl) ?_
    refine x_hget (j := 0) C0 hK hS (by decide) kX1_kindAt_wX1 kX1_kindAt_f9 dX1_kindAt_8 ?_
    refine lv_iload_n hx hb dX1_kindAt_11 rfl (lv_at hl 1 rfl) ?_
    refine x_kald (i := i) C0 hK hS (by omega) rfl dX1_kindAt_12 ?_
    refine lv_goto (tgt := 17) hx hb dX1_kindAt_13 (by decide) ?_
    exact x_reti C0 (by exact (h_kd_nI hi).symm) dX1_kindAt_17
theorem kX1_numberAt_wX1 : ∀ w ∈ u_ws RX1 TX1 4, w ∈ wsX1_numberAt := by decide +kernel
theorem kX1_numberAt_f15 : Cond.fieldLink RX1 15 "VersionDesk$Row" "numbers" "[J" ∈ wsX1_numberAt := by decide +kernel
set_option maxHeartbeats 4000000 in
set_option maxRecDepth 100000 in
/-- numberAt -/
theorem c_X1_numberAt (l : Launch) (G : x_G) (ad : Nat → Nat) (R : Nat → Nat → Int32) (N : Nat → Int64) (tl : Nat → Bool) (T : Nat → Nat → Int32) (pl : Nat → Bool) (P : Nat → Nat → Int32) (X : Nat → Option va_E) (c0 : Int32) : Met l yX1_numberAt wsX1_numberAt ({ frames := 2, cells := 0, slots := 0, locals := 41 } : Room) (x_Pc G ad (x_con G ad R N tl T pl P X) [.ref (ad 1), .int c0]) (x_Qr (some (.long (h_nm R N c0)))) 0 0 (fun _ => False) := by
  refine x_met (cc := cX1_numberAt) (maxL := 2) (ret := (some .long)) (by decide) rfl _ (Nat.le_of_ble_eq_true rfl) ?_
  intro p e s m args below meth c C0 hini hK hS ls hl
  have hl : lv_has ls 2 [(0, .ref (ad 1)), (1, .int c0)] := hl
  obtain ⟨hx, hb, hr, hml, hown, hts, hlk⟩ := id C0
  refine lv_aload_n hx hb dX1_numberAt_0 rfl (lv_at hl 0 rfl) ?_
  refine lv_iload_n hx hb dX1_numberAt_1 rfl (lv_at hl 1 rfl) ?_
  refine x_callr (x_rV C0 hl.1 hK hS (c_X1_kindAt l G ad R N tl T pl P X c0) (x_con_0 (k := 1) (by omega)) rfl gX1_numberAt_X1_kindAt 1 rfl rfl rfl (by decide +kernel) ⟨Nat.le_of_ble_eq_true rfl, Nat.le_of_ble_eq_true rfl⟩ rfl rfl (Nat.le_of_ble_eq_true rfl) dX1_numberAt_2 ⟨Nat.le_of_ble_eq_true rfl, Nat.le_of_ble_eq_true rfl⟩) ?_
  show W _ _ _ _ _ _ _ _ _ _ _ _ _ _ _ (F0 m 5 ls [.int (h_kd R c0)])
  refine lv_iconst (v := 1) hx hb dX1_numberAt_5 (by decide) ?_
  refine lv_icmp_ne (tgt := 18) hx hb dX1_numberAt_6 (by decide) (fun c6 => ?_) (fun c6 => ?_)
  · refine lv_lconst (v := 0) hx hb dX1_numberAt_18 (by decide) ?_
    exact x_retl C0 (by unfold h_nm; rw [if_neg c6]) dX1_numberAt_19
  · have hk := c6
    obtain ⟨i, hi, rfl, hki⟩ := h_kd_in hk (by decide)
    refine lv_aload_n hx hb dX1_numberAt_9 rfl (lv_at hl 0 rfl) ?_
    refine x_hget (j := 1) C0 hK hS (by decide) kX1_numberAt_wX1 kX1_numberAt_f15 dX1_numberAt_10 ?_
    refine lv_iload_n hx hb dX1_numberAt_13 rfl (lv_at hl 1 rfl) ?_
    refine x_nald (i := i) C0 hK hS (by omega) rfl dX1_numberAt_14 ?_
    refine lv_goto (tgt := 19) hx hb dX1_numberAt_15 (by decide) ?_
    exact x_retl C0 (by unfold h_nm; rw [if_pos hk, nI_clamp (by omega)]) dX1_numberAt_19
theorem kX1_lengthAt_wX1 : ∀ w ∈ u_ws RX1 TX1 4, w ∈ wsX1_lengthAt := by decide +kernel
theorem kX1_lengthAt_f19 : Cond.fieldLink RX1 19 "VersionDesk$Row" "lengths" "[I" ∈ wsX1_lengthAt := by decide +kernel
set_option maxHeartbeats 4000000 in
set_option maxRecDepth 100000 in
/-- lengthAt -/
theorem c_X1_lengthAt (l : Launch) (G : x_G) (ad : Nat → Nat) (R : Nat → Nat → Int32) (N : Nat → Int64) (tl : Nat → Bool) (T : Nat → Nat → Int32) (pl : Nat → Bool) (P : Nat → Nat → Int32) (X : Nat → Option va_E) (c0 : Int32) : Met l yX1_lengthAt wsX1_lengthAt ({ frames := 2, cells := 0, slots := 0, locals := 41 } : Room) (x_Pc G ad (x_con G ad R N tl T pl P X) [.ref (ad 1), .int c0]) (x_Qr (some (.int (h_ln R c0)))) 0 0 (fun _ => False) := by
  refine x_met (cc := cX1_lengthAt) (maxL := 2) (ret := (some .int)) (by decide) rfl _ (Nat.le_of_ble_eq_true rfl) ?_
  intro p e s m args below meth c C0 hini hK hS ls hl
  have hl : lv_has ls 2 [(0, .ref (ad 1)), (1, .int c0)] := hl
  obtain ⟨hx, hb, hr, hml, hown, hts, hlk⟩ := id C0
  refine lv_aload_n hx hb dX1_lengthAt_0 rfl (lv_at hl 0 rfl) ?_
  refine lv_iload_n hx hb dX1_lengthAt_1 rfl (lv_at hl 1 rfl) ?_
  refine x_callr (x_rV C0 hl.1 hK hS (c_X1_kindAt l G ad R N tl T pl P X c0) (x_con_0 (k := 1) (by omega)) rfl gX1_lengthAt_X1_kindAt 1 rfl rfl rfl (by decide +kernel) ⟨Nat.le_of_ble_eq_true rfl, Nat.le_of_ble_eq_true rfl⟩ rfl rfl (Nat.le_of_ble_eq_true rfl) dX1_lengthAt_2 ⟨Nat.le_of_ble_eq_true rfl, Nat.le_of_ble_eq_true rfl⟩) ?_
  show W _ _ _ _ _ _ _ _ _ _ _ _ _ _ _ (F0 m 5 ls [.int (h_kd R c0)])
  refine lv_iconst (v := 2) hx hb dX1_lengthAt_5 (by decide) ?_
  refine lv_icmp_ne (tgt := 18) hx hb dX1_lengthAt_6 (by decide) (fun c6 => ?_) (fun c6 => ?_)
  · refine lv_iconst (v := 0) hx hb dX1_lengthAt_18 (by decide) ?_
    exact x_reti C0 (by unfold h_ln; rw [if_neg c6]) dX1_lengthAt_19
  · have hk := c6
    obtain ⟨i, hi, rfl, hki⟩ := h_kd_in hk (by decide)
    refine lv_aload_n hx hb dX1_lengthAt_9 rfl (lv_at hl 0 rfl) ?_
    refine x_hget (j := 2) C0 hK hS (by decide) kX1_lengthAt_wX1 kX1_lengthAt_f19 dX1_lengthAt_10 ?_
    refine lv_iload_n hx hb dX1_lengthAt_13 rfl (lv_at hl 1 rfl) ?_
    refine x_lnald (i := i) C0 hK hS (by omega) rfl dX1_lengthAt_14 ?_
    refine lv_goto (tgt := 19) hx hb dX1_lengthAt_15 (by decide) ?_
    exact x_reti C0 (by unfold h_ln; rw [if_pos hk, nI_clamp (by omega)]) dX1_lengthAt_19
theorem h_ln_in {R : Nat → Nat → Int32} {c i : Int32} (hR : h_ok R) (h0 : ¬ i < 0) (h : i < h_ln R c) : ∃ j k, j < 8 ∧ c = nI j ∧ i = nI k ∧ k < 31 := by
  unfold h_ln at h
  split at h
  · rename_i hk
    obtain ⟨j, h1, h2, -⟩ := h_kd_in hk (by decide)
    obtain ⟨n, h3, h4⟩ := hR j h1
    obtain ⟨k, h5, h6⟩ := nI_of h0
    rw [h2, nI_clamp (by omega), h4, h6] at h
    exact ⟨j, k, h1, h2, h6, by have := (nI_ltI h5 (by omega)).mp h; omega⟩
  · exact absurd h h0
theorem kX1_letterAt_wX1 : ∀ w ∈ u_ws RX1 TX1 4, w ∈ wsX1_letterAt := by decide +kernel
theorem kX1_letterAt_f19 : Cond.fieldLink RX1 19 "VersionDesk$Row" "lengths" "[I" ∈ wsX1_letterAt := by decide +kernel
theorem kX1_letterAt_f22 : Cond.fieldLink RX1 22 "VersionDesk$Row" "letters" "[B" ∈ wsX1_letterAt := by decide +kernel
set_option maxHeartbeats 4000000 in
set_option maxRecDepth 100000 in
/-- letterAt -/
theorem c_X1_letterAt (l : Launch) (G : x_G) (ad : Nat → Nat) (R : Nat → Nat → Int32) (N : Nat → Int64) (tl : Nat → Bool) (T : Nat → Nat → Int32) (pl : Nat → Bool) (P : Nat → Nat → Int32) (X : Nat → Option va_E) (c0 i0 : Int32) (hR : h_ok R) : Met l yX1_letterAt wsX1_letterAt ({ frames := 2, cells := 0, slots := 0, locals := 41 } : Room) (x_Pc G ad (x_con G ad R N tl T pl P X) [.ref (ad 1), .int c0, .int i0]) (x_Qr (some (.int (h_lt R c0 i0)))) 0 0 (fun _ => False) := by
  refine x_met (cc := cX1_letterAt) (maxL := 3) (ret := (some .int)) (by decide) rfl _ (Nat.le_of_ble_eq_true rfl) ?_
  intro p e s m args below meth c C0 hini hK hS ls hl
  have hl : lv_has ls 3 [(0, .ref (ad 1)), (1, .int c0), (2, .int i0)] := hl
  obtain ⟨hx, hb, hr, hml, hown, hts, hlk⟩ := id C0
  refine lv_aload_n hx hb dX1_letterAt_0 rfl (lv_at hl 0 rfl) ?_
  refine lv_iload_n hx hb dX1_letterAt_1 rfl (lv_at hl 1 rfl) ?_
  refine x_callr (x_rV C0 hl.1 hK hS (c_X1_kindAt l G ad R N tl T pl P X c0) (x_con_0 (k := 1) (by omega)) rfl gX1_letterAt_X1_kindAt 1 rfl rfl rfl (by decide +kernel) ⟨Nat.le_of_ble_eq_true rfl, Nat.le_of_ble_eq_true rfl⟩ rfl rfl (Nat.le_of_ble_eq_true rfl) dX1_letterAt_2 ⟨Nat.le_of_ble_eq_true rfl, Nat.le_of_ble_eq_true rfl⟩) ?_
  show W _ _ _ _ _ _ _ _ _ _ _ _ _ _ _ (F0 m 5 ls [.int (h_kd R c0)])
  refine lv_iconst (v := 2) hx hb dX1_letterAt_5 (by decide) ?_
  refine lv_icmp_ne (tgt := 23) hx hb dX1_letterAt_6 (by decide) (fun c6 => ?_) (fun c6 => ?_)
  · refine lv_iconst (v := (-1)) hx hb dX1_letterAt_23 (by decide) ?_
    exact x_reti C0 (by unfold h_lt h_ln; rw [if_neg c6, if_pos (by by_cases q : i0 < 0; exact Or.inl q; exact Or.inr (Int32.not_lt.mp q))]) dX1_letterAt_24
  · have hq := c6
    obtain ⟨i, hi, rfl, hki⟩ := h_kd_in hq (by decide)
    have hln : h_ln R (nI i) = R 1 i := by unfold h_ln; rw [if_pos hq, nI_clamp (by omega)]
    refine lv_iload_n hx hb dX1_letterAt_9 rfl (lv_at hl 2 rfl) ?_
    refine lv_if_lt (tgt := 23) hx hb dX1_letterAt_10 (by decide) (fun c10 => ?_) (fun c10 => ?_)
    · refine lv_iconst (v := (-1)) hx hb dX1_letterAt_23 (by decide) ?_
      exact x_reti C0 (by unfold h_lt; rw [if_pos (Or.inl c10)]) dX1_letterAt_24
    · refine lv_iload_n hx hb dX1_letterAt_13 rfl (lv_at hl 2 rfl) ?_
      refine lv_aload_n hx hb dX1_letterAt_14 rfl (lv_at hl 0 rfl) ?_
      refine x_hget (j := 2) C0 hK hS (by decide) kX1_letterAt_wX1 kX1_letterAt_f19 dX1_letterAt_15 ?_
      refine lv_iload_n hx hb dX1_letterAt_18 rfl (lv_at hl 1 rfl) ?_
      refine x_lnald (i := i) C0 hK hS (by omega) rfl dX1_letterAt_19 ?_
      refine lv_icmp_lt (tgt := 25) hx hb dX1_letterAt_20 (by decide) (fun c20 => ?_) (fun c20 => ?_)
      · obtain ⟨k, hk5, rfl⟩ := nI_of c10
        obtain ⟨n, hn, hRn⟩ := hR i hi
        have hk : k < 31 := by rw [hRn] at c20; have := (nI_ltI hk5 (by omega)).mp c20; omega
        refine lv_aload_n hx hb dX1_letterAt_25 rfl (lv_at hl 0 rfl) ?_
        refine x_hget (j := 3) C0 hK hS (by decide) kX1_letterAt_wX1 kX1_letterAt_f22 dX1_letterAt_26 ?_
        refine lv_iload_n hx hb dX1_letterAt_29 rfl (lv_at hl 1 rfl) ?_
        refine lv_bipush (v := 31) hx hb dX1_letterAt_30 (by decide) ?_
        refine lv_imul hx hb dX1_letterAt_32 ?_
        refine lv_iload_n hx hb dX1_letterAt_33 rfl (lv_at hl 2 rfl) ?_
        refine lv_iadd hx hb dX1_letterAt_34 ?_
        rw [show nI i * 31 + nI k = nI (i * 31 + k) from (by rw [show nI i * 31 = nI (i * 31) from pk_mul i 31]; exact nI_add _ _)]
        refine x_cald (i := i * 31 + k) C0 hK hS (by omega) rfl dX1_letterAt_35 ?_
        refine lv_sipush (v := 255) hx hb dX1_letterAt_36 (by decide) ?_
        refine lv_iand hx hb dX1_letterAt_39 ?_
        exact x_reti C0 (by unfold h_lt; rw [hln, if_neg (fun q => q.elim c10 (fun q => absurd c20 (Int32.not_lt.mpr q))), nI_clamp (by omega), nI_clamp (by omega)]) dX1_letterAt_40
      · refine lv_iconst (v := (-1)) hx hb dX1_letterAt_23 (by decide) ?_
        exact x_reti C0 (by unfold h_lt; rw [hln, if_pos (Or.inr (Int32.not_lt.mp c20))]) dX1_letterAt_24
-- the hand behind a call: kinds, lengths, letters; numbers
def h_snR (R : Nat → Nat → Int32) (c : Int32) : Nat → Nat → Int32 := if d_in c (nI 8) then va_up R 0 (upd (R 0) c.toNatClampNeg 1) else R
def h_snN (N : Nat → Int64) (c : Int32) (v : Int64) : Nat → Int64 := if d_in c (nI 8) then vp_updL N c.toNatClampNeg v else N
def h_mt (R : Nat → Nat → Int32) (c : Int32) : Nat → Nat → Int32 := if d_in c (nI 8) = true ∧ R 0 c.toNatClampNeg ≠ 2 then va_up (va_up R 0 (upd (R 0) c.toNatClampNeg 2)) 1 (upd (R 1) c.toNatClampNeg 0) else R
def h_al (R : Nat → Nat → Int32) (c x : Int32) : Nat → Nat → Int32 := if h_kd R c = 2 ∧ R 1 c.toNatClampNeg < 31 then va_up (va_up R 2 (upd (R 2) (c.toNatClampNeg * 31 + (R 1 c.toNatClampNeg).toNatClampNeg) x.toInt8.toInt32)) 1 (upd (R 1) c.toNatClampNeg (R 1 c.toNatClampNeg + 1)) else R
theorem kX1_setNumber_wX1 : ∀ w ∈ u_ws RX1 TX1 4, w ∈ wsX1_setNumber := by decide +kernel
theorem kX1_setNumber_f15 : Cond.fieldLink RX1 15 "VersionDesk$Row" "numbers" "[J" ∈ wsX1_setNumber := by decide +kernel
theorem kX1_setNumber_f9 : Cond.fieldLink RX1 9 "VersionDesk$Row" "kinds" "[I" ∈ wsX1_setNumber := by decide +kernel
theorem kX1_setNumber_i32 : Cond.initialized yX3_isColumn.cls ∈ wsX1_setNumber := by decide +kernel
theorem kX1_setNumber_s32 : Cond.static yX3_isColumn ∈ wsX1_setNumber := by decide +kernel
set_option maxHeartbeats 4000000 in
set_option maxRecDepth 100000 in
/-- setNumber -/
theorem c_X1_setNumber (l : Launch) (G : x_G) (ad : Nat → Nat) (R : Nat → Nat → Int32) (N : Nat → Int64) (tl : Nat → Bool) (T : Nat → Nat → Int32) (pl : Nat → Bool) (P : Nat → Nat → Int32) (X : Nat → Option va_E) (c0 : Int32) (v : Int64) : Met l yX1_setNumber wsX1_setNumber ({ frames := 1, cells := 0, slots := 0, locals := 20 } : Room) (x_Pc G ad (x_con G ad R N tl T pl P X) [.ref (ad 1), .int c0, .long v]) (x_Qw G ad (x_con G ad (h_snR R c0) (h_snN N c0 v) tl T pl P X) none) 0 0 (x_A G) := by
  refine x_met (cc := cX1_setNumber) (maxL := 4) (ret := none) (by decide) rfl _ (Nat.le_of_ble_eq_true rfl) ?_
  intro p e s m args below meth c C0 hini hK hS ls hl
  have hl : lv_has ls 4 [(0, .ref (ad 1)), (1, .int c0), (2, .long v)] := hl
  obtain ⟨hx, hb, hr, hml, hown, hts, hlk⟩ := id C0
  refine lv_iload_n hx hb dX1_setNumber_0 rfl (lv_at hl 1 rfl) ?_
  refine x_callr (x_rSN C0 hl.1 hK hS (c_X3_isColumn l G ad R N tl T pl P X c0) gX1_setNumber_X3_isColumn_n32 1 rfl rfl rfl (host := RX3) (by decide +kernel) kX1_setNumber_i32 kX1_setNumber_s32 (by decide +kernel) ⟨Nat.le_of_ble_eq_true rfl, Nat.le_of_ble_eq_true rfl⟩ rfl rfl (Nat.le_of_ble_eq_true rfl) dX1_setNumber_1 ⟨Nat.le_of_ble_eq_true rfl, Nat.le_of_ble_eq_true rfl⟩) ?_
  show W _ _ _ _ _ _ _ _ _ _ _ _ _ _ _ (F0 m 4 ls [.int (zb (d_in c0 (nI 8)))])
  refine lv_if_eq (tgt := 21) hx hb dX1_setNumber_4 (by decide) (fun c4 => ?_) (fun c4 => ?_)
  · exact x_wretv C0 hS (by simp only [h_snR, h_snN]; rw [zb_eq c4]; rfl) dX1_setNumber_21
  · have hc := zb_ne c4
    obtain ⟨i, hi, rfl⟩ := d_in_of (n := 8) (by decide) (zb_ne c4)
    refine lv_aload_n hx hb dX1_setNumber_7 rfl (lv_at hl 0 rfl) ?_
    refine x_hget (j := 0) C0 hK hS (by decide) kX1_setNumber_wX1 kX1_setNumber_f9 dX1_setNumber_8 ?_
    refine lv_iload_n hx hb dX1_setNumber_11 rfl (lv_at hl 1 rfl) ?_
    refine lv_iconst (v := 1) hx hb dX1_setNumber_12 (by decide) ?_
    refine x_kast (i := i) C0 hK hS (by omega) rfl dX1_setNumber_13 (fun H locs hS => ?_)
    obtain ⟨R1, eR1⟩ : ∃ zz, zz = va_up R 0 (upd (R 0) i 1) := ⟨_, rfl⟩
    rw [← eR1] at hS
    refine lv_aload_n hx hb dX1_setNumber_14 rfl (lv_at hl 0 rfl) ?_
    refine x_hget (j := 1) C0 hK hS (by decide) kX1_setNumber_wX1 kX1_setNumber_f15 dX1_setNumber_15 ?_
    refine lv_iload_n hx hb dX1_setNumber_18 rfl (lv_at hl 1 rfl) ?_
    refine lv_lload_n hx hb dX1_setNumber_19 rfl (lv_at hl 2 rfl) ?_
    refine x_nast (i := i) C0 hK hS (by omega) rfl dX1_setNumber_20 (fun H locs hS => ?_)
    obtain ⟨N2, eN2⟩ : ∃ zz, zz = vp_updL N i v := ⟨_, rfl⟩
    rw [← eN2] at hS
    exact x_wretv C0 hS (by simp only [h_snR, h_snN]; rw [if_pos hc, if_pos hc, nI_clamp (by omega), eR1, eN2]) dX1_setNumber_21
theorem kX1_makeText_wX1 : ∀ w ∈ u_ws RX1 TX1 4, w ∈ wsX1_makeText := by decide +kernel
theorem kX1_makeText_f19 : Cond.fieldLink RX1 19 "VersionDesk$Row" "lengths" "[I" ∈ wsX1_makeText := by decide +kernel
theorem kX1_makeText_f9 : Cond.fieldLink RX1 9 "VersionDesk$Row" "kinds" "[I" ∈ wsX1_makeText := by decide +kernel
theorem kX1_makeText_i32 : Cond.initialized yX3_isColumn.cls ∈ wsX1_makeText := by decide +kernel
theorem kX1_makeText_s32 : Cond.static yX3_isColumn ∈ wsX1_makeText := by decide +kernel
set_option maxHeartbeats 4000000 in
set_option maxRecDepth 100000 in
/-- makeText -/
theorem c_X1_makeText (l : Launch) (G : x_G) (ad : Nat → Nat) (R : Nat → Nat → Int32) (N : Nat → Int64) (tl : Nat → Bool) (T : Nat → Nat → Int32) (pl : Nat → Bool) (P : Nat → Nat → Int32) (X : Nat → Option va_E) (c0 : Int32) : Met l yX1_makeText wsX1_makeText ({ frames := 1, cells := 0, slots := 0, locals := 20 } : Room) (x_Pc G ad (x_con G ad R N tl T pl P X) [.ref (ad 1), .int c0]) (x_Qw G ad (x_con G ad (h_mt R c0) N tl T pl P X) none) 0 0 (x_A G) := by
  refine x_met (cc := cX1_makeText) (maxL := 2) (ret := none) (by decide) rfl _ (Nat.le_of_ble_eq_true rfl) ?_
  intro p e s m args below meth c C0 hini hK hS ls hl
  have hl : lv_has ls 2 [(0, .ref (ad 1)), (1, .int c0)] := hl
  obtain ⟨hx, hb, hr, hml, hown, hts, hlk⟩ := id C0
  refine lv_iload_n hx hb dX1_makeText_0 rfl (lv_at hl 1 rfl) ?_
  refine x_callr (x_rSN C0 hl.1 hK hS (c_X3_isColumn l G ad R N tl T pl P X c0) gX1_makeText_X3_isColumn_n32 1 rfl rfl rfl (host := RX3) (by decide +kernel) kX1_makeText_i32 kX1_makeText_s32 (by decide +kernel) ⟨Nat.le_of_ble_eq_true rfl, Nat.le_of_ble_eq_true rfl⟩ rfl rfl (Nat.le_of_ble_eq_true rfl) dX1_makeText_1 ⟨Nat.le_of_ble_eq_true rfl, Nat.le_of_ble_eq_true rfl⟩) ?_
  show W _ _ _ _ _ _ _ _ _ _ _ _ _ _ _ (F0 m 4 ls [.int (zb (d_in c0 (nI 8)))])
  refine lv_if_eq (tgt := 31) hx hb dX1_makeText_4 (by decide) (fun c4 => ?_) (fun c4 => ?_)
  · exact x_wretv C0 hS (by simp only [h_mt]; rw [if_neg (fun q => by rw [zb_eq c4] at q; exact absurd q.1 (by decide))]) dX1_makeText_31
  · have hc := zb_ne c4
    obtain ⟨i, hi, rfl⟩ := d_in_of (n := 8) (by decide) (zb_ne c4)
    refine lv_aload_n hx hb dX1_makeText_7 rfl (lv_at hl 0 rfl) ?_
    refine x_hget (j := 0) C0 hK hS (by decide) kX1_makeText_wX1 kX1_makeText_f9 dX1_makeText_8 ?_
    refine lv_iload_n hx hb dX1_makeText_11 rfl (lv_at hl 1 rfl) ?_
    refine x_kald (i := i) C0 hK hS (by omega) rfl dX1_makeText_12 ?_
    refine lv_iconst (v := 2) hx hb dX1_makeText_13 (by decide) ?_
    refine lv_icmp_eq (tgt := 31) hx hb dX1_makeText_14 (by decide) (fun c14 => ?_) (fun c14 => ?_)
    · exact x_wretv C0 hS (by simp only [h_mt]; rw [if_neg (fun q => by rw [nI_clamp (by omega)] at q; exact q.2 c14)]) dX1_makeText_31
    · refine lv_aload_n hx hb dX1_makeText_17 rfl (lv_at hl 0 rfl) ?_
      refine x_hget (j := 0) C0 hK hS (by decide) kX1_makeText_wX1 kX1_makeText_f9 dX1_makeText_18 ?_
      refine lv_iload_n hx hb dX1_makeText_21 rfl (lv_at hl 1 rfl) ?_
      refine lv_iconst (v := 2) hx hb dX1_makeText_22 (by decide) ?_
      refine x_kast (i := i) C0 hK hS (by omega) rfl dX1_makeText_23 (fun H locs hS => ?_)
      obtain ⟨R1, eR1⟩ : ∃ zz, zz = va_up R 0 (upd (R 0) i 2) := ⟨_, rfl⟩
      rw [← eR1] at hS
      refine lv_aload_n hx hb dX1_makeText_24 rfl (lv_at hl 0 rfl) ?_
      refine x_hget (j := 2) C0 hK hS (by decide) kX1_makeText_wX1 kX1_makeText_f19 dX1_makeText_25 ?_
      refine lv_iload_n hx hb dX1_makeText_28 rfl (lv_at hl 1 rfl) ?_
      refine lv_iconst (v := 0) hx hb dX1_makeText_29 (by decide) ?_
      refine x_lnast (i := i) C0 hK hS (by omega) rfl dX1_makeText_30 (fun H locs hS => ?_)
      obtain ⟨R2, eR2⟩ : ∃ zz, zz = va_up R1 1 (upd (R1 1) i 0) := ⟨_, rfl⟩
      rw [← eR2] at hS
      exact x_wretv C0 hS (by simp only [h_mt]; rw [if_pos ⟨hc, by rw [nI_clamp (by omega)]; exact c14⟩, nI_clamp (by omega), eR2, eR1]; rfl) dX1_makeText_31
theorem kX1_addLetter_wX1 : ∀ w ∈ u_ws RX1 TX1 4, w ∈ wsX1_addLetter := by decide +kernel
theorem kX1_addLetter_f19 : Cond.fieldLink RX1 19 "VersionDesk$Row" "lengths" "[I" ∈ wsX1_addLetter := by decide +kernel
theorem kX1_addLetter_f22 : Cond.fieldLink RX1 22 "VersionDesk$Row" "letters" "[B" ∈ wsX1_addLetter := by decide +kernel
set_option maxHeartbeats 4000000 in
set_option maxRecDepth 100000 in
/-- addLetter -/
theorem c_X1_addLetter (l : Launch) (G : x_G) (ad : Nat → Nat) (R : Nat → Nat → Int32) (N : Nat → Int64) (tl : Nat → Bool) (T : Nat → Nat → Int32) (pl : Nat → Bool) (P : Nat → Nat → Int32) (X : Nat → Option va_E) (c0 x0 : Int32) (hR : h_ok R) : Met l yX1_addLetter wsX1_addLetter ({ frames := 2, cells := 0, slots := 0, locals := 41 } : Room) (x_Pc G ad (x_con G ad R N tl T pl P X) [.ref (ad 1), .int c0, .int x0]) (x_Qw G ad (x_con G ad (h_al R c0 x0) N tl T pl P X) none) 0 0 (x_A G) := by
  refine x_met (cc := cX1_addLetter) (maxL := 3) (ret := none) (by decide) rfl _ (Nat.le_of_ble_eq_true rfl) ?_
  intro p e s m args below meth c C0 hini hK hS ls hl
  have hl : lv_has ls 3 [(0, .ref (ad 1)), (1, .int c0), (2, .int x0)] := hl
  obtain ⟨hx, hb, hr, hml, hown, hts, hlk⟩ := id C0
  refine lv_aload_n hx hb dX1_addLetter_0 rfl (lv_at hl 0 rfl) ?_
  refine lv_iload_n hx hb dX1_addLetter_1 rfl (lv_at hl 1 rfl) ?_
  refine x_callr (x_rV C0 hl.1 hK hS (c_X1_kindAt l G ad R N tl T pl P X c0) (x_con_0 (k := 1) (by omega)) rfl gX1_addLetter_X1_kindAt 1 rfl rfl rfl (by decide +kernel) ⟨Nat.le_of_ble_eq_true rfl, Nat.le_of_ble_eq_true rfl⟩ rfl rfl (Nat.le_of_ble_eq_true rfl) dX1_addLetter_2 ⟨Nat.le_of_ble_eq_true rfl, Nat.le_of_ble_eq_true rfl⟩) ?_
  show W _ _ _ _ _ _ _ _ _ _ _ _ _ _ _ (F0 m 5 ls [.int (h_kd R c0)])
  refine lv_iconst (v := 2) hx hb dX1_addLetter_5 (by decide) ?_
  refine lv_icmp_ne (tgt := 48) hx hb dX1_addLetter_6 (by decide) (fun c6 => ?_) (fun c6 => ?_)
  · exact x_wretv C0 hS (by simp only [h_al]; rw [if_neg (fun q => c6 q.1)]) dX1_addLetter_48
  · obtain ⟨i, hi, rfl, hki⟩ := h_kd_in c6 (by decide)
    obtain ⟨n, hn, hRn⟩ := hR i hi
    refine lv_aload_n hx hb dX1_addLetter_9 rfl (lv_at hl 0 rfl) ?_
    refine x_hget (j := 2) C0 hK hS (by decide) kX1_addLetter_wX1 kX1_addLetter_f19 dX1_addLetter_10 ?_
    refine lv_iload_n hx hb dX1_addLetter_13 rfl (lv_at hl 1 rfl) ?_
    refine x_lnald (i := i) C0 hK hS (by omega) rfl dX1_addLetter_14 ?_
    refine lv_bipush (v := 31) hx hb dX1_addLetter_15 (by decide) ?_
    refine lv_icmp_ge (tgt := 48) hx hb dX1_addLetter_17 (by decide) (fun c17 => ?_) (fun c17 => ?_)
    · exact x_wretv C0 hS (by simp only [h_al]; rw [if_neg (fun q => by rw [nI_clamp (by omega)] at q; exact absurd q.2 (Int32.not_lt.mpr c17))]) dX1_addLetter_48
    · refine lv_aload_n hx hb dX1_addLetter_20 rfl (lv_at hl 0 rfl) ?_
      refine x_hget (j := 3) C0 hK hS (by decide) kX1_addLetter_wX1 kX1_addLetter_f22 dX1_addLetter_21 ?_
      refine lv_iload_n hx hb dX1_addLetter_24 rfl (lv_at hl 1 rfl) ?_
      refine lv_bipush (v := 31) hx hb dX1_addLetter_25 (by decide) ?_
      refine lv_imul hx hb dX1_addLetter_27 ?_
      refine lv_aload_n hx hb dX1_addLetter_28 rfl (lv_at hl 0 rfl) ?_
      refine x_hget (j := 2) C0 hK hS (by decide) kX1_addLetter_wX1 kX1_addLetter_f19 dX1_addLetter_29 ?_
      refine lv_iload_n hx hb dX1_addLetter_32 rfl (lv_at hl 1 rfl) ?_
      refine x_lnald (i := i) C0 hK hS (by omega) rfl dX1_addLetter_33 ?_
      refine lv_iadd hx hb dX1_addLetter_34 ?_
      refine lv_iload_n hx hb dX1_addLetter_35 rfl (lv_at hl 2 rfl) ?_
      refine lv_i2b hx hb dX1_addLetter_36 rfl ?_
      have hn2 : n < 31 := by have := nz_nle (a := 31) c17 rfl hRn (by omega) (by omega); omega
      refine lv_topi (fun b eb => ?_)
      have eb2 : vp_nar .byte b = b := by rw [eb]; exact pk_vb _
      rw [hRn, show nI i * 31 + nI n = nI (i * 31 + n) from (by rw [show nI i * 31 = nI (i * 31) from pk_mul i 31]; exact nI_add _ _)]
      refine x_cast (i := i * 31 + n) C0 hK hS (by omega) rfl dX1_addLetter_37 (fun H locs hS => ?_)
      rw [eb2] at hS
      obtain ⟨R1, eR1⟩ : ∃ zz, zz = va_up R 2 (upd (R 2) (i * 31 + n) b) := ⟨_, rfl⟩
      rw [← eR1] at hS
      refine lv_aload_n hx hb dX1_addLetter_38 rfl (lv_at hl 0 rfl) ?_
      refine x_hget (j := 2) C0 hK hS (by decide) kX1_addLetter_wX1 kX1_addLetter_f19 dX1_addLetter_39 ?_
      refine lv_iload_n hx hb dX1_addLetter_42 rfl (lv_at hl 1 rfl) ?_
      refine lv_dup2_11 hx hb dX1_addLetter_43 rfl rfl ?_
      refine x_lnald (i := i) C0 hK hS (by omega) rfl dX1_addLetter_44 ?_
      refine lv_iconst (v := 1) hx hb dX1_addLetter_45 (by decide) ?_
      refine lv_iadd hx hb dX1_addLetter_46 ?_
      refine lv_topi (fun x2 ex2 => ?_)
      refine x_lnast (i := i) C0 hK hS (by omega) rfl dX1_addLetter_47 (fun H locs hS => ?_)
      obtain ⟨R3, eR3⟩ : ∃ zz, zz = va_up R1 1 (upd (R1 1) i x2) := ⟨_, rfl⟩
      rw [← eR3] at hS
      exact x_wretv C0 hS (by simp only [h_al]; rw [if_pos ⟨c6, by rw [nI_clamp (by omega)]; exact Int32.not_le.mp c17⟩, nI_clamp (by omega), hRn, nI_clamp (by omega)]; subst_vars; simp [va_up, hRn]) dX1_addLetter_48
