-- ===== Arrays.fill over the kinds; makeAllNull =====
def h_fl (R : Nat → Nat → Int32) (i : Nat) : Nat → Nat → Int32 := va_up R 0 (fun j => if j < i then 0 else R 0 j)
theorem h_fl_0 (R : Nat → Nat → Int32) : h_fl R 0 = R := by
  unfold h_fl
  rw [show (fun j => if j < 0 then (0 : Int32) else R 0 j) = R 0 from by funext j; simp, va_up_id]
theorem h_fl_s {R R1 : Nat → Nat → Int32} {i : Nat} (h : R1 = h_fl R i) : va_up R1 0 (upd (R1 0) i 0) = h_fl R (i + 1) := by
  rw [h]
  unfold h_fl
  rw [bx_uu, va_up_self]
  congr 1
  funext j
  by_cases hj : j = i
  · rw [hj, pk_us, if_pos (by omega)]
  · rw [pk_un hj]
    by_cases h2 : j < i
    · rw [if_pos h2, if_pos (by omega)]
    · rw [if_neg h2, if_neg (by omega)]
def h_cl (R : Nat → Nat → Int32) : Nat → Nat → Int32 := h_fl R 8
set_option maxHeartbeats 4000000 in
set_option maxRecDepth 100000 in
theorem l_J7_fill {p : Program} {l : Launch} {e : Env} {s : State} {m : MethodId} {args : Array Value} {below : List Frame} {meth : Method} {c : Code} {G : x_G} {ad : Nat → Nat} {N : Nat → Int64} {tl : Nat → Bool} {T : Nat → Nat → Int32} {pl : Nat → Bool} {P : Nat → Nat → Int32} {X : Nat → Option va_E} (C0 : x_B p s m meth c args cJ7_fill_53178 4 none RJ7 wsJ7_fill_53178) (hK : x_K G s) {R0 : Nat → Nat → Int32} : ∀ (d : Nat) (i : Nat) (R : Nat → Nat → Int32) (H : Heap) (locs : List Loc), 8 - i < d → i ≤ 8 → R = h_fl R0 i → x_H G ad (x_con G ad R N tl T pl P X) H locs → ∀ (ls : Array Slot), lv_has ls 4 [(0, .ref (ad 4)), (1, .int 0), (2, .int (nI i)), (3, .int (nI 8))] → W p l e ({ frames := 0, cells := 0, slots := 0, locals := 0 } : Room) s m args below meth c H locs 0 0 (MQ below (x_Qw G ad (x_con G ad (h_cl R0) N tl T pl P X) none) args s 0 0 (x_A G)) (F0 m 5 ls []) := by
  obtain ⟨hx, hb, hr, hml, hown, hts, hlk⟩ := id C0
  intro d
  induction d with
  | zero =>
    intro i R H locs hd hi hRi hS ls hl
    exact absurd hd (by omega)
  | succ d ih =>
    intro i R H locs hd hi hRi hS ls hl
    refine lv_iload_n hx hb dJ7_fill_53178_5 rfl (lv_at hl 2 rfl) ?_
    refine lv_iload_n hx hb dJ7_fill_53178_6 rfl (lv_at hl 3 rfl) ?_
    refine lv_icmp_ge (tgt := 20) hx hb dJ7_fill_53178_7 (by decide) (fun c7 => ?_) (fun c7 => ?_)
    · have hi2 := nz_le c7 rfl rfl (by omega) (by omega)
      exact x_wretv C0 hS (by rw [hRi, show i = 8 by omega]; rfl) dJ7_fill_53178_20
    · have hi2 := nz_nle c7 rfl rfl (by omega) (by omega)
      refine lv_aload_n hx hb dJ7_fill_53178_10 rfl (lv_at hl 0 rfl) ?_
      refine lv_iload_n hx hb dJ7_fill_53178_11 rfl (lv_at hl 2 rfl) ?_
      refine lv_iload_n hx hb dJ7_fill_53178_12 rfl (lv_at hl 1 rfl) ?_
      refine x_kast (i := i) C0 hK hS (by omega) rfl dJ7_fill_53178_13 (fun H locs hS => ?_)
      obtain ⟨R1, eR1⟩ : ∃ zz, zz = va_up R 0 (upd (R 0) i 0) := ⟨_, rfl⟩
      rw [← eR1] at hS
      refine lv_iinc (v := nI (i + 1)) (lv' := [(2, .int (nI (i + 1))), (0, .ref (ad 4)), (1, .int 0), (3, .int (nI 8))]) hx hb dJ7_fill_53178_14 hl (k := 2) rfl (nI_1 i) (by decide) rfl (fun ls hl => ?_)
      refine lv_goto (tgt := 5) hx hb dJ7_fill_53178_17 (by decide) ?_
      exact ih (i + 1) _ _ _ (by omega) (by omega) (by rw [eR1]; exact h_fl_s hRi) hS ls (lv_sub hl [1, 2, 0, 3] rfl)
set_option maxHeartbeats 4000000 in
set_option maxRecDepth 100000 in
/-- Arrays.fill over the kinds, with 0 -/
theorem c_J7_fill_53178 (l : Launch) (G : x_G) (ad : Nat → Nat) (R : Nat → Nat → Int32) (N : Nat → Int64) (tl : Nat → Bool) (T : Nat → Nat → Int32) (pl : Nat → Bool) (P : Nat → Nat → Int32) (X : Nat → Option va_E)  : Met l yJ7_fill_53178 wsJ7_fill_53178 ({ frames := 0, cells := 0, slots := 0, locals := 0 } : Room) (x_Pc G ad (x_con G ad R N tl T pl P X) [.ref (ad 4), .int 0]) (x_Qw G ad (x_con G ad (h_cl R) N tl T pl P X) none) 0 0 (x_A G) := by
  refine x_met (cc := cJ7_fill_53178) (maxL := 4) (ret := none) (by decide) rfl _ (Nat.le_of_ble_eq_true rfl) ?_
  intro p e s m args below meth c C0 hini hK hS ls hl
  have hl : lv_has ls 4 [(0, .ref (ad 4)), (1, .int 0)] := hl
  obtain ⟨hx, hb, hr, hml, hown, hts, hlk⟩ := id C0
  refine lv_iconst (v := 0) hx hb dJ7_fill_53178_0 (by decide) ?_
  refine lv_istore_n (lv' := [(2, .int 0), (0, .ref (ad 4)), (1, .int 0)]) hx hb dJ7_fill_53178_1 rfl hl (by decide) rfl (fun ls hl => ?_)
  refine lv_aload_n hx hb dJ7_fill_53178_2 rfl (lv_at hl 1 rfl) ?_
  refine x_alenI (k := 4) (v := nI 8) C0 hK hS (x_con_0 (by omega)) rfl dJ7_fill_53178_3 ?_
  refine lv_istore_n (lv' := [(3, .int (nI 8)), (2, .int 0), (0, .ref (ad 4)), (1, .int 0)]) hx hb dJ7_fill_53178_4 rfl hl (by decide) rfl (fun ls hl => ?_)
  exact l_J7_fill C0 hK 9 0 _ _ _ (by omega) (by omega) (h_fl_0 R).symm hS ls (lv_sub hl [2, 3, 1, 0] rfl)
theorem kX1_makeAllNull_wX1 : ∀ w ∈ u_ws RX1 TX1 4, w ∈ wsX1_makeAllNull := by decide +kernel
theorem kX1_makeAllNull_f9 : Cond.fieldLink RX1 9 "VersionDesk$Row" "kinds" "[I" ∈ wsX1_makeAllNull := by decide +kernel
set_option maxHeartbeats 4000000 in
set_option maxRecDepth 100000 in
/-- makeAllNull -/
theorem c_X1_makeAllNull (l : Launch) (G : x_G) (ad : Nat → Nat) (R : Nat → Nat → Int32) (N : Nat → Int64) (tl : Nat → Bool) (T : Nat → Nat → Int32) (pl : Nat → Bool) (P : Nat → Nat → Int32) (X : Nat → Option va_E)  : Met l yX1_makeAllNull wsX1_makeAllNull ({ frames := 1, cells := 0, slots := 0, locals := 23 } : Room) (x_Pc G ad (x_con G ad R N tl T pl P X) [.ref (ad 1)]) (x_Qw G ad (x_con G ad (h_cl R) N tl T pl P X) none) 0 0 (x_A G) := by
  refine x_met (cc := cX1_makeAllNull) (maxL := 1) (ret := none) (by decide) rfl _ (Nat.le_of_ble_eq_true rfl) ?_
  intro p e s m args below meth c C0 hini hK hS ls hl
  have hl : lv_has ls 1 [(0, .ref (ad 1))] := hl
  obtain ⟨hx, hb, hr, hml, hown, hts, hlk⟩ := id C0
  refine lv_aload_n hx hb dX1_makeAllNull_0 rfl (lv_at hl 0 rfl) ?_
  refine x_hget (j := 0) C0 hK hS (by decide) kX1_makeAllNull_wX1 kX1_makeAllNull_f9 dX1_makeAllNull_1 ?_
  refine lv_iconst (v := 0) hx hb dX1_makeAllNull_4 (by decide) ?_
  refine x_callw hS (x_rS C0 hl.1 hK hS (c_J7_fill_53178 l G ad R N tl T pl P X) gX1_makeAllNull_J7_fill_53178 2 rfl rfl rfl (by decide +kernel) ⟨Nat.le_of_ble_eq_true rfl, Nat.le_of_ble_eq_true rfl⟩ rfl rfl (Nat.le_of_ble_eq_true rfl) dX1_makeAllNull_5 ⟨Nat.le_of_ble_eq_true rfl, Nat.le_of_ble_eq_true rfl⟩) (fun H locs hS => ?_)
  show W _ _ _ _ _ _ _ _ _ _ _ _ _ _ _ (F0 m 8 ls [])
  exact x_wretv C0 hS rfl dX1_makeAllNull_8
