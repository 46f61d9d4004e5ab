-- ===== the reference: small methods =====
def m_in (v a b : Int32) : Bool := decide (a ≤ v) && decide (v ≤ b)
theorem m_in_of {v : Int32} {n : Nat} (hn : n < 2 ^ 31) (h : m_in v 0 (nI n) = true) : ∃ i, i < n + 1 ∧ v = nI i := by
  simp only [m_in, Bool.and_eq_true, decide_eq_true_eq] at h
  obtain ⟨j, h1, h2⟩ := nI_of (Int32.not_lt.mpr h.1)
  exact ⟨j, by have := nz_le h.2 h2 rfl h1 hn; omega, h2⟩
theorem m_in_nI {i n : Nat} (h : i ≤ n) (hn : n < 2 ^ 31) : m_in (nI i) 0 (nI n) = true := by
  simp only [m_in, Bool.and_eq_true, decide_eq_true_eq]
  exact ⟨nI_pos' (by omega), nI_le h hn⟩
def y_th (M : Nat → Nat → Int32) (t : Int32) : Bool := m_in t 0 (nI 7) && decide (0 < M 0 t.toNatClampNeg)
def y_so (c : Int32) : Int32 := if c < 0 then -c else c
def y_tx (M : Nat → Nat → Int32) (c : Int32) : Bool := !decide (c = 0) && decide (0 ≤ M 19 (y_so c).toNatClampNeg)
def hs (M : Nat → Nat → Int32) (c : Nat) : Nat := (y_so (M 16 c)).toNatClampNeg
def H_ok (M : Nat → Nat → Int32) : Prop := ∀ c, c < 8 → y_so (M 16 c) = nI (hs M c) ∧ hs M c < 515 ∧ (y_tx M (M 16 c) = true → M 16 c = nI (hs M c))
def bs (M : Nat → Nat → Int32) (s : Nat) : Nat := (M 20 s).toNatClampNeg
def B_ok (M : Nat → Nat → Int32) : Prop := ∀ s, s < 515 → M 20 s = nI (bs M s) ∧ bs M s < 515
set_option maxHeartbeats 4000000 in
set_option maxRecDepth 100000 in
/-- in -/
theorem c_X4_in (l : Launch) (G : x_G) (ad : Nat → Nat) (D : Nat → Option va_E) (M : Nat → Nat → Int32) (V : Nat → Int64) (v a b : Int32) : Met l yX4_in wsX4_in ({ frames := 0, cells := 0, slots := 0, locals := 0 } : Room) (x_Pc G ad (y_con G ad D M V) [.int v, .int a, .int b]) (x_Qr (some (.int (zb (m_in v a b))))) 0 0 (fun _ => False) := by
  refine x_met (cc := cX4_in) (maxL := 3) (ret := (some .boolean)) (by decide) rfl _ (Nat.le_of_ble_eq_true rfl) ?_
  intro p e s m args below meth c C0 hini hK hS ls hl
  have hl : lv_has ls 3 [(0, .int v), (1, .int a), (2, .int b)] := hl
  obtain ⟨hx, hb, hr, hml, hown, hts, hlk⟩ := id C0
  refine lv_iload_n hx hb dX4_in_0 rfl (lv_at hl 0 rfl) ?_
  refine lv_iload_n hx hb dX4_in_1 rfl (lv_at hl 1 rfl) ?_
  refine lv_icmp_lt (tgt := 14) hx hb dX4_in_2 (by decide) (fun c2 => ?_) (fun c2 => ?_)
  · refine lv_iconst (v := 0) hx hb dX4_in_14 (by decide) ?_
    exact x_retz C0 (by simp only [zb, m_in]; simp [Int32.not_le.mpr c2]) rfl dX4_in_15
  · refine lv_iload_n hx hb dX4_in_5 rfl (lv_at hl 0 rfl) ?_
    refine lv_iload_n hx hb dX4_in_6 rfl (lv_at hl 2 rfl) ?_
    refine lv_icmp_gt (tgt := 14) hx hb dX4_in_7 (by decide) (fun c7 => ?_) (fun c7 => ?_)
    · refine lv_iconst (v := 0) hx hb dX4_in_14 (by decide) ?_
      exact x_retz C0 (by simp only [zb, m_in]; simp [Int32.not_le.mpr c7]) rfl dX4_in_15
    · refine lv_iconst (v := 1) hx hb dX4_in_10 (by decide) ?_
      refine lv_goto (tgt := 15) hx hb dX4_in_11 (by decide) ?_
      exact x_retz C0 (by simp only [zb, m_in]; simp [Int32.not_lt.mp c2, Int32.not_lt.mp c7]) rfl dX4_in_15
set_option maxHeartbeats 4000000 in
set_option maxRecDepth 100000 in
/-- stepOf -/
theorem c_X4_stepOf (l : Launch) (G : x_G) (ad : Nat → Nat) (D : Nat → Option va_E) (M : Nat → Nat → Int32) (V : Nat → Int64) (c0 : Int32) : Met l yX4_stepOf wsX4_stepOf ({ frames := 0, cells := 0, slots := 0, locals := 0 } : Room) (x_Pc G ad (y_con G ad D M V) [.int c0]) (x_Qr (some (.int (y_so c0)))) 0 0 (fun _ => False) := by
  refine x_met (cc := cX4_stepOf) (maxL := 1) (ret := (some .int)) (by decide) rfl _ (Nat.le_of_ble_eq_true rfl) ?_
  intro p e s m args below meth c C0 hini hK hS ls hl
  have hl : lv_has ls 1 [(0, .int c0)] := hl
  obtain ⟨hx, hb, hr, hml, hown, hts, hlk⟩ := id C0
  refine lv_iload_n hx hb dX4_stepOf_0 rfl (lv_at hl 0 rfl) ?_
  refine lv_if_ge (tgt := 9) hx hb dX4_stepOf_1 (by decide) (fun c1 => ?_) (fun c1 => ?_)
  · refine lv_iload_n hx hb dX4_stepOf_9 rfl (lv_at hl 0 rfl) ?_
    exact x_reti C0 (by unfold y_so; rw [if_neg (Int32.not_lt.mpr c1)]) dX4_stepOf_10
  · refine lv_iload_n hx hb dX4_stepOf_4 rfl (lv_at hl 0 rfl) ?_
    refine lv_ineg hx hb dX4_stepOf_5 ?_
    refine lv_goto (tgt := 10) hx hb dX4_stepOf_6 (by decide) ?_
    exact x_reti C0 (by unfold y_so; rw [if_pos (Int32.not_le.mp c1)]) dX4_stepOf_10
set_option maxHeartbeats 4000000 in
set_option maxRecDepth 100000 in
/-- isColumn -/
theorem c_X4_isColumn (l : Launch) (G : x_G) (ad : Nat → Nat) (D : Nat → Option va_E) (M : Nat → Nat → Int32) (V : Nat → Int64) (c0 : Int32) : Met l yX4_isColumn wsX4_isColumn ({ frames := 1, cells := 0, slots := 0, locals := 22 } : Room) (x_Pc G ad (y_con G ad D M V) [.int c0]) (x_Qr (some (.int (zb (m_in c0 0 (nI 7)))))) 0 0 (fun _ => False) := by
  refine x_met (cc := cX4_isColumn) (maxL := 1) (ret := (some .boolean)) (by decide) rfl _ (Nat.le_of_ble_eq_true rfl) ?_
  intro p e s m args below meth c C0 hini hK hS ls hl
  have hl : lv_has ls 1 [(0, .int c0)] := hl
  obtain ⟨hx, hb, hr, hml, hown, hts, hlk⟩ := id C0
  refine lv_iload_n hx hb dX4_isColumn_0 rfl (lv_at hl 0 rfl) ?_
  refine lv_iconst (v := 0) hx hb dX4_isColumn_1 (by decide) ?_
  refine lv_bipush (v := 7) hx hb dX4_isColumn_2 (by decide) ?_
  refine x_callr (x_rS C0 hl.1 hK hS (c_X4_in l G ad D M V c0 0 7) gX4_isColumn_X4_in 3 rfl rfl rfl (by decide +kernel) ⟨Nat.le_of_ble_eq_true rfl, Nat.le_of_ble_eq_true rfl⟩ rfl rfl (Nat.le_of_ble_eq_true rfl) dX4_isColumn_4 ⟨Nat.le_of_ble_eq_true rfl, Nat.le_of_ble_eq_true rfl⟩) ?_
  show W _ _ _ _ _ _ _ _ _ _ _ _ _ _ _ (F0 m 7 ls [.int (zb (m_in c0 0 7))])
  exact x_retz C0 (rfl) (zb_nar _) dX4_isColumn_7
theorem kX4_isThere_wX4 : ∀ w ∈ u_ws RX4 TX4 22, w ∈ wsX4_isThere := by decide +kernel
theorem kX4_isThere_f7 : Cond.fieldLink RX4 7 "VersionDeskModel" "columns" "[I" ∈ wsX4_isThere := by decide +kernel
set_option maxHeartbeats 4000000 in
set_option maxRecDepth 100000 in
/-- isThere -/
theorem c_X4_isThere (l : Launch) (G : x_G) (ad : Nat → Nat) (D : Nat → Option va_E) (M : Nat → Nat → Int32) (V : Nat → Int64) (t0 : Int32) : Met l yX4_isThere wsX4_isThere ({ frames := 1, cells := 0, slots := 0, locals := 22 } : Room) (x_Pc G ad (y_con G ad D M V) [.ref (ad 200), .int t0]) (x_Qr (some (.int (zb (y_th M t0))))) 0 0 (fun _ => False) := by
  refine x_met (cc := cX4_isThere) (maxL := 2) (ret := (some .boolean)) (by decide) rfl _ (Nat.le_of_ble_eq_true rfl) ?_
  intro p e s m args below meth c C0 hini hK hS ls hl
  have hl : lv_has ls 2 [(0, .ref (ad 200)), (1, .int t0)] := hl
  obtain ⟨hx, hb, hr, hml, hown, hts, hlk⟩ := id C0
  refine lv_iload_n hx hb dX4_isThere_0 rfl (lv_at hl 1 rfl) ?_
  refine lv_iconst (v := 0) hx hb dX4_isThere_1 (by decide) ?_
  refine lv_bipush (v := 7) hx hb dX4_isThere_2 (by decide) ?_
  refine x_callr (x_rS C0 hl.1 hK hS (c_X4_in l G ad D M V t0 0 7) gX4_isThere_X4_in 3 rfl rfl rfl (by decide +kernel) ⟨Nat.le_of_ble_eq_true rfl, Nat.le_of_ble_eq_true rfl⟩ rfl rfl (Nat.le_of_ble_eq_true rfl) dX4_isThere_4 ⟨Nat.le_of_ble_eq_true rfl, Nat.le_of_ble_eq_true rfl⟩) ?_
  show W _ _ _ _ _ _ _ _ _ _ _ _ _ _ _ (F0 m 7 ls [.int (zb (m_in t0 0 7))])
  refine lv_if_eq (tgt := 23) hx hb dX4_isThere_7 (by decide) (fun c7 => ?_) (fun c7 => ?_)
  · refine lv_iconst (v := 0) hx hb dX4_isThere_23 (by decide) ?_
    exact x_retz C0 (by unfold y_th; rw [show m_in t0 0 (nI 7) = false from zb_eq c7]; rfl) rfl dX4_isThere_24
  · obtain ⟨i, hi, rfl⟩ := m_in_of (n := 7) (by decide) (zb_ne c7)
    have hci : (nI i).toNatClampNeg = i := nI_clamp (by omega)
    refine lv_aload_n hx hb dX4_isThere_10 rfl (lv_at hl 0 rfl) ?_
    refine y_get (j := 0) C0 hK hS (by decide) (by decide) kX4_isThere_wX4 kX4_isThere_f7 dX4_isThere_11 ?_
    refine lv_iload_n hx hb dX4_isThere_14 rfl (lv_at hl 1 rfl) ?_
    refine y_iald (j := 0) (i := i) (n := 8) C0 hK hS (by decide) (by decide) (by decide) (by omega) rfl dX4_isThere_15 ?_
    refine lv_if_le (tgt := 23) hx hb dX4_isThere_16 (by decide) (fun c16 => ?_) (fun c16 => ?_)
    · refine lv_iconst (v := 0) hx hb dX4_isThere_23 (by decide) ?_
      exact x_retz C0 (by unfold y_th; rw [m_in_nI (by omega) (by decide), hci, decide_eq_false (Int32.not_lt.mpr c16)]; rfl) rfl dX4_isThere_24
    · refine lv_iconst (v := 1) hx hb dX4_isThere_19 (by decide) ?_
      refine lv_goto (tgt := 24) hx hb dX4_isThere_20 (by decide) ?_
      exact x_retz C0 (by unfold y_th; rw [m_in_nI (by omega) (by decide), hci, decide_eq_true (Int32.not_le.mp c16)]; rfl) rfl dX4_isThere_24
theorem kX4_isText_wX4 : ∀ w ∈ u_ws RX4 TX4 22, w ∈ wsX4_isText := by decide +kernel
theorem kX4_isText_f63 : Cond.fieldLink RX4 63 "VersionDeskModel" "bytes" "[I" ∈ wsX4_isText := by decide +kernel
set_option maxHeartbeats 4000000 in
set_option maxRecDepth 100000 in
/-- isText -/
theorem c_X4_isText (l : Launch) (G : x_G) (ad : Nat → Nat) (D : Nat → Option va_E) (M : Nat → Nat → Int32) (V : Nat → Int64) (c0 : Int32) (k : Nat) (hk : k < 515) (hs0 : y_so c0 = nI k) : Met l yX4_isText wsX4_isText ({ frames := 1, cells := 0, slots := 0, locals := 20 } : Room) (x_Pc G ad (y_con G ad D M V) [.ref (ad 200), .int c0]) (x_Qr (some (.int (zb (y_tx M c0))))) 0 0 (fun _ => False) := by
  refine x_met (cc := cX4_isText) (maxL := 2) (ret := (some .boolean)) (by decide) rfl _ (Nat.le_of_ble_eq_true rfl) ?_
  intro p e s m args below meth c C0 hini hK hS ls hl
  have hl : lv_has ls 2 [(0, .ref (ad 200)), (1, .int c0)] := hl
  obtain ⟨hx, hb, hr, hml, hown, hts, hlk⟩ := id C0
  refine lv_iload_n hx hb dX4_isText_0 rfl (lv_at hl 1 rfl) ?_
  refine lv_if_eq (tgt := 20) hx hb dX4_isText_1 (by decide) (fun c1 => ?_) (fun c1 => ?_)
  · refine lv_iconst (v := 0) hx hb dX4_isText_20 (by decide) ?_
    exact x_retz C0 (by unfold y_tx; rw [decide_eq_true c1]; rfl) rfl dX4_isText_21
  · refine lv_aload_n hx hb dX4_isText_4 rfl (lv_at hl 0 rfl) ?_
    refine y_get (j := 19) C0 hK hS (by decide) (by decide) kX4_isText_wX4 kX4_isText_f63 dX4_isText_5 ?_
    refine lv_iload_n hx hb dX4_isText_8 rfl (lv_at hl 1 rfl) ?_
    refine x_callr (x_rS C0 hl.1 hK hS (c_X4_stepOf l G ad D M V c0) gX4_isText_X4_stepOf 1 rfl rfl rfl (by decide +kernel) ⟨Nat.le_of_ble_eq_true rfl, Nat.le_of_ble_eq_true rfl⟩ rfl rfl (Nat.le_of_ble_eq_true rfl) dX4_isText_9 ⟨Nat.le_of_ble_eq_true rfl, Nat.le_of_ble_eq_true rfl⟩) ?_
    rw [hs0]
    show W _ _ _ _ _ _ _ _ _ _ _ _ _ _ _ (F0 m 12 ls [.int (nI k), .ref (ad 220)])
    refine y_iald (j := 19) (i := k) (n := 515) C0 hK hS (by decide) (by decide) (by decide) (by omega) rfl dX4_isText_12 ?_
    refine lv_if_lt (tgt := 20) hx hb dX4_isText_13 (by decide) (fun c13 => ?_) (fun c13 => ?_)
    · refine lv_iconst (v := 0) hx hb dX4_isText_20 (by decide) ?_
      exact x_retz C0 (by unfold y_tx; rw [decide_eq_false c1, hs0, nI_clamp (by omega), decide_eq_false (Int32.not_le.mpr c13)]; rfl) rfl dX4_isText_21
    · refine lv_iconst (v := 1) hx hb dX4_isText_16 (by decide) ?_
      refine lv_goto (tgt := 21) hx hb dX4_isText_17 (by decide) ?_
      exact x_retz C0 (by unfold y_tx; rw [decide_eq_false c1, hs0, nI_clamp (by omega), decide_eq_true (Int32.not_lt.mp c13)]; rfl) rfl dX4_isText_21
def y_cl (M : Nat → Nat → Int32) (i : Nat) : Nat → Nat → Int32 := va_up M 16 (fun j => if j < i then 0 else M 16 j)
theorem y_cl_0 (M : Nat → Nat → Int32) : y_cl M 0 = M := by
  unfold y_cl
  rw [show (fun j => if j < 0 then (0 : Int32) else M 16 j) = M 16 from by funext j; simp, va_up_id]
theorem y_cl_s {M M1 : Nat → Nat → Int32} {i : Nat} (h : M1 = y_cl M i) : va_up M1 16 (upd (M1 16) i 0) = y_cl M (i + 1) := by
  rw [h]
  unfold y_cl
  rw [bx_uu, va_up_self]
  congr 1
  funext j
  by_cases hj : j = i
  · rw [hj, pk_us, if_pos (by omega)]
  · rw [pk_un hj]
    by_cases h2 : j < i
    · rw [if_pos h2, if_pos (by omega)]
    · rw [if_neg h2, if_neg (by omega)]
theorem kX4_clear_wX4 : ∀ w ∈ u_ws RX4 TX4 22, w ∈ wsX4_clear := by decide +kernel
theorem kX4_clear_f56 : Cond.fieldLink RX4 56 "VersionDeskModel" "hand" "[I" ∈ wsX4_clear := by decide +kernel
set_option maxHeartbeats 4000000 in
set_option maxRecDepth 100000 in
theorem l_X4_clear {p : Program} {l : Launch} {e : Env} {s : State} {m : MethodId} {args : Array Value} {below : List Frame} {meth : Method} {c : Code} {G : x_G} {ad : Nat → Nat} {D : Nat → Option va_E} {V : Nat → Int64} (C0 : x_B p s m meth c args cX4_clear 2 none RX4 wsX4_clear) (hK : x_K G s) {M0 : Nat → Nat → Int32} : ∀ (d : Nat) (i : Nat) (M : Nat → Nat → Int32) (H : Heap) (locs : List Loc), 8 - i < d → i ≤ 8 → M = y_cl M0 i → x_H G ad (y_con G ad D M V) H locs → ∀ (ls : Array Slot), lv_has ls 2 [(0, .ref (ad 200)), (1, .int (nI i))] → W p l e ({ frames := 0, cells := 0, slots := 0, locals := 0 } : Room) s m args below meth c H locs 0 0 (MQ below (x_Qw G ad (y_con G ad D (y_cl M0 8) V) none) args s 0 0 (x_A G)) (F0 m 2 ls []) := by
  obtain ⟨hx, hb, hr, hml, hown, hts, hlk⟩ := id C0
  intro d
  induction d with
  | zero =>
    intro i M H locs hd hi hMi hS ls hl
    exact absurd hd (by omega)
  | succ d ih =>
    intro i M H locs hd hi hMi hS ls hl
    refine lv_iload_n hx hb dX4_clear_2 rfl (lv_at hl 1 rfl) ?_
    refine lv_bipush (v := 8) hx hb dX4_clear_3 (by decide) ?_
    refine lv_icmp_ge (tgt := 21) hx hb dX4_clear_5 (by decide) (fun c5 => ?_) (fun c5 => ?_)
    · have hi2 := nz_le (a := 8) c5 rfl rfl (by omega) (by omega)
      exact x_wretv C0 hS (by rw [hMi, show i = 8 by omega]) dX4_clear_21
    · have hi2 := nz_nle (a := 8) c5 rfl rfl (by omega) (by omega)
      refine lv_aload_n hx hb dX4_clear_8 rfl (lv_at hl 0 rfl) ?_
      refine y_get (j := 16) C0 hK hS (by decide) (by decide) kX4_clear_wX4 kX4_clear_f56 dX4_clear_9 ?_
      refine lv_iload_n hx hb dX4_clear_12 rfl (lv_at hl 1 rfl) ?_
      refine lv_iconst (v := 0) hx hb dX4_clear_13 (by decide) ?_
      refine y_iast (j := 16) (i := i) (n := 8) C0 hK hS (by decide) (by decide) (by decide) (by omega) rfl dX4_clear_14 (fun H locs hS => ?_)
      obtain ⟨M1, eM1⟩ : ∃ zz, zz = va_up M 16 (upd (M 16) i 0) := ⟨_, rfl⟩
      rw [← eM1] at hS
      refine lv_iinc (v := nI (i + 1)) (lv' := [(1, .int (nI (i + 1))), (0, .ref (ad 200))]) hx hb dX4_clear_15 hl (k := 1) rfl (nI_1 i) (by decide) rfl (fun ls hl => ?_)
      refine lv_goto (tgt := 2) hx hb dX4_clear_18 (by decide) ?_
      exact ih (i + 1) _ _ _ (by omega) (by omega) (by rw [eM1]; exact y_cl_s hMi) hS ls (lv_sub hl [1, 0] rfl)
set_option maxHeartbeats 4000000 in
set_option maxRecDepth 100000 in
/-- clear -/
theorem c_X4_clear (l : Launch) (G : x_G) (ad : Nat → Nat) (D : Nat → Option va_E) (M : Nat → Nat → Int32) (V : Nat → Int64)  : Met l yX4_clear wsX4_clear ({ frames := 0, cells := 0, slots := 0, locals := 0 } : Room) (x_Pc G ad (y_con G ad D M V) [.ref (ad 200)]) (x_Qw G ad (y_con G ad D (y_cl M 8) V) none) 0 0 (x_A G) := by
  refine x_met (cc := cX4_clear) (maxL := 2) (ret := none) (by decide) rfl _ (Nat.le_of_ble_eq_true rfl) ?_
  intro p e s m args below meth c C0 hini hK hS ls hl
  have hl : lv_has ls 2 [(0, .ref (ad 200))] := hl
  obtain ⟨hx, hb, hr, hml, hown, hts, hlk⟩ := id C0
  refine lv_iconst (v := 0) hx hb dX4_clear_0 (by decide) ?_
  refine lv_istore_n (lv' := [(1, .int 0), (0, .ref (ad 200))]) hx hb dX4_clear_1 rfl hl (by decide) rfl (fun ls hl => ?_)
  exact l_X4_clear C0 hK 9 0 _ _ _ (by omega) (by omega) (y_cl_0 M).symm hS ls (lv_sub hl [1, 0] rfl)
def y_st (M : Nat → Nat → Int32) (s : Nat) (n : Int32) (f : Nat) : Nat → Nat → Int32 := va_up (va_up (va_up (va_up M 17 (upd (M 17) 0 (nI s))) 19 (upd (M 19) s n)) 20 (upd (M 20) s (nI f))) 21 (upd (M 21) s (if n < 0 then 0 else M 21 f + n))
theorem kX4_step_wX4 : ∀ w ∈ u_ws RX4 TX4 22, w ∈ wsX4_step := by decide +kernel
theorem kX4_step_f59 : Cond.fieldLink RX4 59 "VersionDeskModel" "given" "[J" ∈ wsX4_step := by decide +kernel
theorem kX4_step_f63 : Cond.fieldLink RX4 63 "VersionDeskModel" "bytes" "[I" ∈ wsX4_step := by decide +kernel
theorem kX4_step_f66 : Cond.fieldLink RX4 66 "VersionDeskModel" "before" "[I" ∈ wsX4_step := by decide +kernel
theorem kX4_step_f69 : Cond.fieldLink RX4 69 "VersionDeskModel" "length" "[I" ∈ wsX4_step := by decide +kernel
theorem kX4_step_f80 : Cond.fieldLink RX4 80 "VersionDeskModel" "steps" "I" ∈ wsX4_step := by decide +kernel
set_option maxHeartbeats 4000000 in
set_option maxRecDepth 100000 in
/-- step -/
theorem c_X4_step (l : Launch) (G : x_G) (ad : Nat → Nat) (D : Nat → Option va_E) (M : Nat → Nat → Int32) (V : Nat → Int64) (v : Int64) (n0 : Int32) (f s0 : Nat) (hst : M 17 0 = nI s0) (hs1 : s0 + 1 < 515) (hf : f < 515) : Met l yX4_step wsX4_step ({ frames := 0, cells := 0, slots := 0, locals := 0 } : Room) (x_Pc G ad (y_con G ad D M V) [.ref (ad 200), .long v, .int n0, .int (nI f)]) (x_Qw G ad (y_con G ad D (y_st M (s0 + 1) n0 f) (vp_updL V (s0 + 1) v)) none) 0 0 (x_A G) := by
  refine x_met (cc := cX4_step) (maxL := 5) (ret := none) (by decide) rfl _ (Nat.le_of_ble_eq_true rfl) ?_
  intro p e s m args below meth c C0 hini hK hS ls hl
  have hl : lv_has ls 5 [(0, .ref (ad 200)), (1, .long v), (3, .int n0), (4, .int (nI f))] := hl
  obtain ⟨hx, hb, hr, hml, hown, hts, hlk⟩ := id C0
  refine lv_aload_n hx hb dX4_step_0 rfl (lv_at hl 0 rfl) ?_
  refine lv_dup hx hb dX4_step_1 rfl ?_
  refine y_geti (j := 17) C0 hK hS (by decide) kX4_step_wX4 kX4_step_f80 dX4_step_2 ?_
  rw [hst]
  refine lv_iconst (v := 1) hx hb dX4_step_5 (by decide) ?_
  refine lv_iadd hx hb dX4_step_6 ?_
  rw [show nI s0 + 1 = nI (s0 + 1) from nI_1 s0]
  refine y_puti (j := 17) C0 hK hS (by decide) kX4_step_wX4 kX4_step_f80 dX4_step_7 (fun H locs hS => ?_)
  obtain ⟨M1, eM1⟩ : ∃ zz, zz = va_up M 17 (upd (M 17) 0 (nI (s0 + 1))) := ⟨_, rfl⟩
  rw [← eM1] at hS
  have hM1_17 : M1 17 0 = nI (s0 + 1) := by rw [eM1, va_up_self, pk_us]
  refine lv_aload_n hx hb dX4_step_10 rfl (lv_at hl 0 rfl) ?_
  refine y_get (j := 18) C0 hK hS (by decide) (by decide) kX4_step_wX4 kX4_step_f59 dX4_step_11 ?_
  refine lv_aload_n hx hb dX4_step_14 rfl (lv_at hl 0 rfl) ?_
  refine y_geti (j := 17) C0 hK hS (by decide) kX4_step_wX4 kX4_step_f80 dX4_step_15 ?_
  rw [hM1_17]
  refine lv_lload_n hx hb dX4_step_18 rfl (lv_at hl 1 rfl) ?_
  refine y_last (i := s0 + 1) C0 hK hS (by omega) rfl dX4_step_19 (fun H locs hS => ?_)
  obtain ⟨V2, eV2⟩ : ∃ zz, zz = vp_updL V (s0 + 1) v := ⟨_, rfl⟩
  rw [← eV2] at hS
  refine lv_aload_n hx hb dX4_step_20 rfl (lv_at hl 0 rfl) ?_
  refine y_get (j := 19) C0 hK hS (by decide) (by decide) kX4_step_wX4 kX4_step_f63 dX4_step_21 ?_
  refine lv_aload_n hx hb dX4_step_24 rfl (lv_at hl 0 rfl) ?_
  refine y_geti (j := 17) C0 hK hS (by decide) kX4_step_wX4 kX4_step_f80 dX4_step_25 ?_
  rw [hM1_17]
  refine lv_iload_n hx hb dX4_step_28 rfl (lv_at hl 2 rfl) ?_
  refine y_iast (j := 19) (i := s0 + 1) (n := 515) C0 hK hS (by decide) (by decide) (by decide) (by omega) rfl dX4_step_29 (fun H locs hS => ?_)
  obtain ⟨M3, eM3⟩ : ∃ zz, zz = va_up M1 19 (upd (M1 19) (s0 + 1) n0) := ⟨_, rfl⟩
  rw [← eM3] at hS
  have hM3_17 : M3 17 0 = nI (s0 + 1) := by rw [eM3, va_up_ne _ _ (by decide)]; exact hM1_17
  refine lv_aload_n hx hb dX4_step_30 rfl (lv_at hl 0 rfl) ?_
  refine y_get (j := 20) C0 hK hS (by decide) (by decide) kX4_step_wX4 kX4_step_f66 dX4_step_31 ?_
  refine lv_aload_n hx hb dX4_step_34 rfl (lv_at hl 0 rfl) ?_
  refine y_geti (j := 17) C0 hK hS (by decide) kX4_step_wX4 kX4_step_f80 dX4_step_35 ?_
  rw [hM3_17]
  refine lv_iload hx hb dX4_step_38 (lv_at hl 3 rfl) ?_
  refine y_iast (j := 20) (i := s0 + 1) (n := 515) C0 hK hS (by decide) (by decide) (by decide) (by omega) rfl dX4_step_40 (fun H locs hS => ?_)
  obtain ⟨M4, eM4⟩ : ∃ zz, zz = va_up M3 20 (upd (M3 20) (s0 + 1) (nI f)) := ⟨_, rfl⟩
  rw [← eM4] at hS
  have hM4_17 : M4 17 0 = nI (s0 + 1) := by rw [eM4, va_up_ne _ _ (by decide)]; exact hM3_17
  refine lv_aload_n hx hb dX4_step_41 rfl (lv_at hl 0 rfl) ?_
  refine y_get (j := 21) C0 hK hS (by decide) (by decide) kX4_step_wX4 kX4_step_f69 dX4_step_42 ?_
  refine lv_aload_n hx hb dX4_step_45 rfl (lv_at hl 0 rfl) ?_
  refine y_geti (j := 17) C0 hK hS (by decide) kX4_step_wX4 kX4_step_f80 dX4_step_46 ?_
  rw [hM4_17]
  refine lv_iload_n hx hb dX4_step_49 rfl (lv_at hl 2 rfl) ?_
  refine lv_if_ge (tgt := 57) hx hb dX4_step_50 (by decide) (fun c50 => ?_) (fun c50 => ?_)
  · refine lv_aload_n hx hb dX4_step_57 rfl (lv_at hl 0 rfl) ?_
    refine y_get (j := 21) C0 hK hS (by decide) (by decide) kX4_step_wX4 kX4_step_f69 dX4_step_58 ?_
    refine lv_iload hx hb dX4_step_61 (lv_at hl 3 rfl) ?_
    refine y_iald (j := 21) (i := f) (n := 515) C0 hK hS (by decide) (by decide) (by decide) (by omega) rfl dX4_step_63 ?_
    refine lv_iload_n hx hb dX4_step_64 rfl (lv_at hl 2 rfl) ?_
    refine lv_iadd hx hb dX4_step_65 ?_
    refine lv_topi (fun x5 ex5 => ?_)
    refine y_iast (j := 21) (i := s0 + 1) (n := 515) C0 hK hS (by decide) (by decide) (by decide) (by omega) rfl dX4_step_66 (fun H locs hS => ?_)
    obtain ⟨M6, eM6⟩ : ∃ zz, zz = va_up M4 21 (upd (M4 21) (s0 + 1) x5) := ⟨_, rfl⟩
    rw [← eM6] at hS
    have hM6_17 : M6 17 0 = nI (s0 + 1) := by rw [eM6, va_up_ne _ _ (by decide)]; exact hM4_17
    exact x_wretv C0 hS (by unfold y_st; rw [if_neg (Int32.not_lt.mpr c50)]; subst_vars; rfl) dX4_step_67
  · refine lv_iconst (v := 0) hx hb dX4_step_53 (by decide) ?_
    refine lv_goto (tgt := 66) hx hb dX4_step_54 (by decide) ?_
    refine y_iast (j := 21) (i := s0 + 1) (n := 515) C0 hK hS (by decide) (by decide) (by decide) (by omega) rfl dX4_step_66 (fun H locs hS => ?_)
    obtain ⟨M7, eM7⟩ : ∃ zz, zz = va_up M4 21 (upd (M4 21) (s0 + 1) 0) := ⟨_, rfl⟩
    rw [← eM7] at hS
    have hM7_17 : M7 17 0 = nI (s0 + 1) := by rw [eM7, va_up_ne _ _ (by decide)]; exact hM4_17
    exact x_wretv C0 hS (by unfold y_st; rw [if_pos (Int32.not_le.mp c50)]; subst_vars; rfl) dX4_step_67
