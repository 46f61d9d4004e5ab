-- ===== the reference: get, end, behind, look, page, next =====
theorem neg1_lt : (-1 : Int32) < 0 := by decide
def y_gt (M : Nat → Nat → Int32) (f : Int32) (n : Nat) : Nat → Nat → Int32 := if f < 0 then M else va_up M 16 (fun c => if c < n then M 15 (8 * f.toNatClampNeg + c) else M 16 c)
theorem y_gt_0 (M : Nat → Nat → Int32) (k : Nat) (hk : k < 2 ^ 31) : y_gt M (nI k) 0 = M := by
  unfold y_gt
  rw [if_neg (nI_pos hk), show (fun c => if c < 0 then M 15 (8 * (nI k).toNatClampNeg + c) else M 16 c) = M 16 from by funext j; simp, va_up_id]
theorem y_gt_s {M M1 : Nat → Nat → Int32} {k i : Nat} (hk : k < 2 ^ 31) (h : M1 = y_gt M (nI k) i) : va_up M1 16 (upd (M1 16) i (M1 15 (8 * k + i))) = y_gt M (nI k) (i + 1) := by
  rw [h]
  unfold y_gt
  rw [if_neg (nI_pos hk), if_neg (nI_pos hk), bx_uu, va_up_self, va_up_ne _ _ (by decide), nI_clamp hk]
  congr 1
  funext j
  by_cases hj : j = i
  · rw [hj, pk_us, if_pos (by omega)]
  · rw [pk_un hj]
    by_cases h2 : j < i
    · rw [if_pos h2, if_pos (by omega)]
    · rw [if_neg h2, if_neg (by omega)]
theorem y_gt_15 {M M1 : Nat → Nat → Int32} {k i : Nat} (h : M1 = y_gt M (nI k) i) : M1 15 = M 15 := by
  rw [h]
  unfold y_gt
  split
  · rfl
  · rw [va_up_ne _ _ (by decide)]
theorem kX4_get_wX4 : ∀ w ∈ u_ws RX4 TX4 22, w ∈ wsX4_get := by decide +kernel
theorem kX4_get_f52 : Cond.fieldLink RX4 52 "VersionDeskModel" "cells" "[S" ∈ wsX4_get := by decide +kernel
theorem kX4_get_f56 : Cond.fieldLink RX4 56 "VersionDeskModel" "hand" "[I" ∈ wsX4_get := by decide +kernel
set_option maxHeartbeats 4000000 in
set_option maxRecDepth 100000 in
theorem l_X4_get {p : Program} {l : Launch} {e : Env} {s : State} {m : MethodId} {args : Array Value} {below : List Frame} {meth : Method} {c : Code} {G : x_G} {ad : Nat → Nat} {D : Nat → Option va_E} {V : Nat → Int64} (C0 : x_B p s m meth c args cX4_get 4 (some .boolean) RX4 wsX4_get) (hK : x_K G s) {M0 : Nat → Nat → Int32} {a0 : Int32} {k : Nat} (hk : k < 514) : ∀ (d : Nat) (i : Nat) (M : Nat → Nat → Int32) (H : Heap) (locs : List Loc), 8 - i < d → i ≤ 8 → M = y_gt M0 (nI k) i → x_H G ad (y_con G ad D M V) H locs → ∀ (ls : Array Slot), lv_has ls 4 [(0, .ref (ad 200)), (1, .int a0), (2, .int (nI k)), (3, .int (nI i))] → W p l e ({ frames := 1, cells := 0, slots := 0, locals := 23 } : Room) s m args below meth c H locs 0 0 (MQ below (x_Qw G ad (y_con G ad D (y_gt M0 (nI k) 8) V) (some (.int 1))) args s 0 0 (x_A G)) (F0 m 8 ls []) := by
  obtain ⟨hx, hb, hr, hml, hown, hts, hlk⟩ := id C0
  intro d
  induction d with
  | zero =>
    intro i M H locs hd hi hMi hS ls hl
    exact absurd hd (by omega)
  | succ d ih =>
    intro i M H locs hd hi hMi hS ls hl
    refine lv_iload_n hx hb dX4_get_8 rfl (lv_at hl 3 rfl) ?_
    refine lv_bipush (v := 8) hx hb dX4_get_9 (by decide) ?_
    refine lv_icmp_ge (tgt := 41) hx hb dX4_get_11 (by decide) (fun c11 => ?_) (fun c11 => ?_)
    · have hi2 := nz_le (a := 8) c11 rfl rfl (by omega) (by omega)
      refine lv_iload_n hx hb dX4_get_41 rfl (lv_at hl 2 rfl) ?_
      refine lv_if_lt (tgt := 49) hx hb dX4_get_42 (by decide) (fun c42 => absurd c42 (nI_pos (by omega))) (fun c42 => ?_)
      refine lv_iconst (v := 1) hx hb dX4_get_45 (by decide) ?_
      refine lv_goto (tgt := 50) hx hb dX4_get_46 (by decide) ?_
      exact x_wretz C0 hS (by rw [hMi, show i = 8 by omega]) rfl rfl dX4_get_50
    · have hi2 := nz_nle (a := 8) c11 rfl rfl (by omega) (by omega)
      refine lv_iload_n hx hb dX4_get_14 rfl (lv_at hl 2 rfl) ?_
      refine lv_if_lt (tgt := 41) hx hb dX4_get_15 (by decide) (fun c15 => absurd c15 (nI_pos (by omega))) (fun c15 => ?_)
      refine lv_aload_n hx hb dX4_get_18 rfl (lv_at hl 0 rfl) ?_
      refine y_get (j := 16) C0 hK hS (by decide) (by decide) kX4_get_wX4 kX4_get_f56 dX4_get_19 ?_
      refine lv_iload_n hx hb dX4_get_22 rfl (lv_at hl 3 rfl) ?_
      refine lv_aload_n hx hb dX4_get_23 rfl (lv_at hl 0 rfl) ?_
      refine y_get (j := 15) C0 hK hS (by decide) (by decide) kX4_get_wX4 kX4_get_f52 dX4_get_24 ?_
      refine lv_bipush (v := 8) hx hb dX4_get_27 (by decide) ?_
      refine lv_iload_n hx hb dX4_get_29 rfl (lv_at hl 2 rfl) ?_
      refine lv_imul hx hb dX4_get_30 ?_
      refine lv_iload_n hx hb dX4_get_31 rfl (lv_at hl 3 rfl) ?_
      refine lv_iadd hx hb dX4_get_32 ?_
      rw [show (8 : Int32) * nI k + nI i = nI (8 * k + i) from (by rw [show (8 : Int32) * nI k = nI (8 * k) from pk_mul 8 k]; exact nI_add _ _)]
      refine y_sald (i := 8 * k + i) C0 hK hS (by omega) rfl dX4_get_33 ?_
      refine y_iast (j := 16) (i := i) (n := 8) C0 hK hS (by decide) (by decide) (by decide) (by omega) rfl dX4_get_34 (fun H locs hS => ?_)
      rw [y_gt_s (by omega) hMi] at hS
      refine lv_iinc (v := nI (i + 1)) (lv' := [(3, .int (nI (i + 1))), (0, .ref (ad 200)), (1, .int a0), (2, .int (nI k))]) hx hb dX4_get_35 hl (k := 3) rfl (nI_1 i) (by decide) rfl (fun ls hl => ?_)
      refine lv_goto (tgt := 8) hx hb dX4_get_38 (by decide) ?_
      exact ih (i + 1) _ _ _ (by omega) (by omega) rfl hS ls (lv_sub hl [1, 2, 3, 0] rfl)
set_option maxHeartbeats 4000000 in
set_option maxRecDepth 100000 in
/-- get -/
theorem c_X4_get (l : Launch) (G : x_G) (ad : Nat → Nat) (D : Nat → Option va_E) (M : Nat → Nat → Int32) (V : Nat → Int64) (a0 : Int32) (mn : Nat) (hmn : M 6 0 = nI mn) (hm : mn ≤ 514) : Met l yX4_get wsX4_get ({ frames := 1, cells := 0, slots := 0, locals := 23 } : Room) (x_Pc G ad (y_con G ad D M V) [.ref (ad 200), .int a0]) (x_Qw G ad (y_con G ad D (y_gt M (y_fd M a0 mn) 8) V) (some (.int (zb (!decide (y_fd M a0 mn < 0)))))) 0 0 (x_A G) := by
  refine x_met (cc := cX4_get) (maxL := 4) (ret := (some .boolean)) (by decide) rfl _ (Nat.le_of_ble_eq_true rfl) ?_
  intro p e s m args below meth c C0 hini hK hS ls hl
  have hl : lv_has ls 4 [(0, .ref (ad 200)), (1, .int a0)] := hl
  obtain ⟨hx, hb, hr, hml, hown, hts, hlk⟩ := id C0
  refine lv_aload_n hx hb dX4_get_0 rfl (lv_at hl 0 rfl) ?_
  refine lv_iload_n hx hb dX4_get_1 rfl (lv_at hl 1 rfl) ?_
  refine x_callr (x_rV C0 hl.1 hK hS (c_X4_find l G ad D M V a0 mn hmn hm) (show y_con G ad D M V 200 = some (x_mo ad M) from rfl) rfl gX4_get_X4_find 1 rfl rfl rfl (by decide +kernel) ⟨Nat.le_of_ble_eq_true rfl, Nat.le_of_ble_eq_true rfl⟩ rfl rfl (Nat.le_of_ble_eq_true rfl) dX4_get_2 ⟨Nat.le_of_ble_eq_true rfl, Nat.le_of_ble_eq_true rfl⟩) ?_
  show W _ _ _ _ _ _ _ _ _ _ _ _ _ _ _ (F0 m 5 ls [.int (y_fd M a0 mn)])
  rcases y_fd_N M a0 mn with hfd | ⟨k, hk, hfd, hpk⟩
  · rw [hfd]
    refine lv_istore_n (lv' := [(2, .int (-1)), (0, .ref (ad 200)), (1, .int a0)]) hx hb dX4_get_5 rfl hl (by decide) rfl (fun ls hl => ?_)
    refine lv_iconst (v := 0) hx hb dX4_get_6 (by decide) ?_
    refine lv_istore_n (lv' := [(3, .int 0), (2, .int (-1)), (0, .ref (ad 200)), (1, .int a0)]) hx hb dX4_get_7 rfl hl (by decide) rfl (fun ls hl => ?_)
    refine lv_iload_n hx hb dX4_get_8 rfl (lv_at hl 0 rfl) ?_
    refine lv_bipush (v := 8) hx hb dX4_get_9 (by decide) ?_
    refine lv_icmp_ge (tgt := 41) hx hb dX4_get_11 (by decide) (fun c11 => absurd c11 (by decide)) (fun c11 => ?_)
    refine lv_iload_n hx hb dX4_get_14 rfl (lv_at hl 1 rfl) ?_
    refine lv_if_lt (tgt := 41) hx hb dX4_get_15 (by decide) (fun c15 => ?_) (fun c15 => absurd (by decide) c15)
    refine lv_iload_n hx hb dX4_get_41 rfl (lv_at hl 1 rfl) ?_
    refine lv_if_lt (tgt := 49) hx hb dX4_get_42 (by decide) (fun c42 => ?_) (fun c42 => absurd (by decide) c42)
    refine lv_iconst (v := 0) hx hb dX4_get_49 (by decide) ?_
    exact x_wretz C0 hS rfl rfl rfl dX4_get_50
  · rw [hfd]
    refine lv_istore_n (lv' := [(2, .int (nI k)), (0, .ref (ad 200)), (1, .int a0)]) hx hb dX4_get_5 rfl hl (by decide) rfl (fun ls hl => ?_)
    refine lv_iconst (v := 0) hx hb dX4_get_6 (by decide) ?_
    refine lv_istore_n (lv' := [(3, .int 0), (2, .int (nI k)), (0, .ref (ad 200)), (1, .int a0)]) hx hb dX4_get_7 rfl hl (by decide) rfl (fun ls hl => ?_)
    rw [show zb (!decide (nI k < 0)) = 1 from (by rw [decide_eq_false (nI_pos (by omega))]; rfl)]
    exact l_X4_get C0 hK (by omega) 9 0 _ _ _ (by omega) (by omega) (y_gt_0 M k (by omega)).symm hS ls (lv_sub hl [2, 3, 1, 0] rfl)
def y_en (M : Nat → Nat → Int32) (f b c : Int32) : Bool := !decide (f < 0) && (m_in b 0 65535 && m_in c 0 65535)
def y_enM (M : Nat → Nat → Int32) (f b c : Int32) : Nat → Nat → Int32 := if y_en M f b c then va_up (va_up M 11 (upd (M 11) f.toNatClampNeg b)) 12 (upd (M 12) f.toNatClampNeg c) else M
def y_bh (M : Nat → Nat → Int32) (f o : Int32) : Bool := !decide (f < 0) && m_in o (-1) 15359
def y_bhM (M : Nat → Nat → Int32) (f o : Int32) : Nat → Nat → Int32 := if y_bh M f o then va_up M 13 (upd (M 13) f.toNatClampNeg o) else M
theorem kX4_end_wX4 : ∀ w ∈ u_ws RX4 TX4 22, w ∈ wsX4_end := by decide +kernel
theorem kX4_end_c124 : Cond.constant RX4 124 (65535) ∈ wsX4_end := by decide +kernel
theorem kX4_end_f40 : Cond.fieldLink RX4 40 "VersionDeskModel" "ender" "[I" ∈ wsX4_end := by decide +kernel
theorem kX4_end_f43 : Cond.fieldLink RX4 43 "VersionDeskModel" "endCommand" "[I" ∈ wsX4_end := by decide +kernel
set_option maxHeartbeats 4000000 in
set_option maxRecDepth 100000 in
/-- end -/
theorem c_X4_end (l : Launch) (G : x_G) (ad : Nat → Nat) (D : Nat → Option va_E) (M : Nat → Nat → Int32) (V : Nat → Int64) (a0 b c0 : Int32) (mn : Nat) (hmn : M 6 0 = nI mn) (hm : mn ≤ 514) : Met l yX4_end wsX4_end ({ frames := 1, cells := 0, slots := 0, locals := 23 } : Room) (x_Pc G ad (y_con G ad D M V) [.ref (ad 200), .int a0, .int b, .int c0]) (x_Qw G ad (y_con G ad D (y_enM M (y_fd M a0 mn) b c0) V) (some (.int (zb (y_en M (y_fd M a0 mn) b c0))))) 0 0 (x_A G) := by
  refine x_met (cc := cX4_end) (maxL := 5) (ret := (some .boolean)) (by decide) rfl _ (Nat.le_of_ble_eq_true rfl) ?_
  intro p e s m args below meth c C0 hini hK hS ls hl
  have hl : lv_has ls 5 [(0, .ref (ad 200)), (1, .int a0), (2, .int b), (3, .int c0)] := hl
  obtain ⟨hx, hb, hr, hml, hown, hts, hlk⟩ := id C0
  refine lv_aload_n hx hb dX4_end_0 rfl (lv_at hl 0 rfl) ?_
  refine lv_iload_n hx hb dX4_end_1 rfl (lv_at hl 1 rfl) ?_
  refine x_callr (x_rV C0 hl.1 hK hS (c_X4_find l G ad D M V a0 mn hmn hm) (show y_con G ad D M V 200 = some (x_mo ad M) from rfl) rfl gX4_end_X4_find 1 rfl rfl rfl (by decide +kernel) ⟨Nat.le_of_ble_eq_true rfl, Nat.le_of_ble_eq_true rfl⟩ rfl rfl (Nat.le_of_ble_eq_true rfl) dX4_end_2 ⟨Nat.le_of_ble_eq_true rfl, Nat.le_of_ble_eq_true rfl⟩) ?_
  show W _ _ _ _ _ _ _ _ _ _ _ _ _ _ _ (F0 m 5 ls [.int (y_fd M a0 mn)])
  rcases y_fd_N M a0 mn with hfd | ⟨k, hk, hfd, hpk⟩
  · rw [hfd]
    refine lv_istore (lv' := [(4, .int (-1)), (0, .ref (ad 200)), (1, .int a0), (2, .int b), (3, .int c0)]) hx hb dX4_end_5 hl (by decide) rfl (fun ls hl => ?_)
    refine lv_iload hx hb dX4_end_7 (lv_at hl 0 rfl) ?_
    refine lv_if_lt (tgt := 32) hx hb dX4_end_9 (by decide) (fun c9 => ?_) (fun c9 => absurd (by decide) c9)
    refine lv_iconst (v := 0) hx hb dX4_end_32 (by decide) ?_
    have he : y_en M (-1) b c0 = false := by unfold y_en; rw [decide_eq_true neg1_lt]; rfl
    exact x_wretz C0 hS (by unfold y_enM; rw [he]; rfl) (by rw [he]; rfl) rfl dX4_end_33
  · rw [hfd]
    refine lv_istore (lv' := [(4, .int (nI k)), (0, .ref (ad 200)), (1, .int a0), (2, .int b), (3, .int c0)]) hx hb dX4_end_5 hl (by decide) rfl (fun ls hl => ?_)
    refine lv_iload hx hb dX4_end_7 (lv_at hl 0 rfl) ?_
    refine lv_if_lt (tgt := 32) hx hb dX4_end_9 (by decide) (fun c9 => absurd c9 (nI_pos (by omega))) (fun c9 => ?_)
    refine lv_iload_n hx hb dX4_end_12 rfl (lv_at hl 3 rfl) ?_
    refine lv_iconst (v := 0) hx hb dX4_end_13 (by decide) ?_
    refine lv_ldc (v := 65535) hx hb hown (hts _ kX4_end_c124) dX4_end_14 ?_
    refine x_callr (x_rS C0 hl.1 hK hS (c_X4_in l G ad D M V b 0 65535) gX4_end_X4_in 3 rfl rfl rfl (by decide +kernel) ⟨Nat.le_of_ble_eq_true rfl, Nat.le_of_ble_eq_true rfl⟩ rfl rfl (Nat.le_of_ble_eq_true rfl) dX4_end_16 ⟨Nat.le_of_ble_eq_true rfl, Nat.le_of_ble_eq_true rfl⟩) ?_
    show W _ _ _ _ _ _ _ _ _ _ _ _ _ _ _ (F0 m 19 ls [.int (zb (m_in b 0 65535))])
    refine lv_if_eq (tgt := 32) hx hb dX4_end_19 (by decide) (fun c19 => ?_) (fun c19 => ?_)
    · refine lv_iconst (v := 0) hx hb dX4_end_32 (by decide) ?_
      have he : y_en M (nI k) b c0 = false := by unfold y_en; rw [zb_eq c19]; simp
      exact x_wretz C0 hS (by unfold y_enM; rw [he]; rfl) (by rw [he]; rfl) rfl dX4_end_33
    · refine lv_iload_n hx hb dX4_end_22 rfl (lv_at hl 4 rfl) ?_
      refine lv_iconst (v := 0) hx hb dX4_end_23 (by decide) ?_
      refine lv_ldc (v := 65535) hx hb hown (hts _ kX4_end_c124) dX4_end_24 ?_
      refine x_callr (x_rS C0 hl.1 hK hS (c_X4_in l G ad D M V c0 0 65535) gX4_end_X4_in 3 rfl rfl rfl (by decide +kernel) ⟨Nat.le_of_ble_eq_true rfl, Nat.le_of_ble_eq_true rfl⟩ rfl rfl (Nat.le_of_ble_eq_true rfl) dX4_end_26 ⟨Nat.le_of_ble_eq_true rfl, Nat.le_of_ble_eq_true rfl⟩) ?_
      show W _ _ _ _ _ _ _ _ _ _ _ _ _ _ _ (F0 m 29 ls [.int (zb (m_in c0 0 65535))])
      refine lv_if_ne (tgt := 34) hx hb dX4_end_29 (by decide) (fun c29 => ?_) (fun c29 => ?_)
      · refine lv_aload_n hx hb dX4_end_34 rfl (lv_at hl 1 rfl) ?_
        refine y_get (j := 11) C0 hK hS (by decide) (by decide) kX4_end_wX4 kX4_end_f40 dX4_end_35 ?_
        refine lv_iload hx hb dX4_end_38 (lv_at hl 0 rfl) ?_
        refine lv_iload_n hx hb dX4_end_40 rfl (lv_at hl 3 rfl) ?_
        refine y_iast (j := 11) (i := k) (n := 515) C0 hK hS (by decide) (by decide) (by decide) (by omega) rfl dX4_end_41 (fun H locs hS => ?_)
        obtain ⟨M1, eM1⟩ : ∃ zz, zz = va_up M 11 (upd (M 11) k b) := ⟨_, rfl⟩
        rw [← eM1] at hS
        have hM1_6 : M1 6 0 = nI mn := by rw [eM1, va_up_ne _ _ (by decide)]; exact hmn
        refine lv_aload_n hx hb dX4_end_42 rfl (lv_at hl 1 rfl) ?_
        refine y_get (j := 12) C0 hK hS (by decide) (by decide) kX4_end_wX4 kX4_end_f43 dX4_end_43 ?_
        refine lv_iload hx hb dX4_end_46 (lv_at hl 0 rfl) ?_
        refine lv_iload_n hx hb dX4_end_48 rfl (lv_at hl 4 rfl) ?_
        refine y_iast (j := 12) (i := k) (n := 515) C0 hK hS (by decide) (by decide) (by decide) (by omega) rfl dX4_end_49 (fun H locs hS => ?_)
        obtain ⟨M2, eM2⟩ : ∃ zz, zz = va_up M1 12 (upd (M1 12) k c0) := ⟨_, rfl⟩
        rw [← eM2] at hS
        have hM2_6 : M2 6 0 = nI mn := by rw [eM2, va_up_ne _ _ (by decide)]; exact hM1_6
        refine lv_iconst (v := 1) hx hb dX4_end_50 (by decide) ?_
        have he : y_en M (nI k) b c0 = true := by unfold y_en; rw [decide_eq_false (nI_pos (by omega)), zb_ne c19, zb_ne c29]; rfl
        exact x_wretz C0 hS (by unfold y_enM; rw [if_pos he, nI_clamp (by omega)]; subst_vars; rfl) (by rw [he]; rfl) rfl dX4_end_51
      · refine lv_iconst (v := 0) hx hb dX4_end_32 (by decide) ?_
        have he : y_en M (nI k) b c0 = false := by unfold y_en; rw [zb_eq c29]; simp
        exact x_wretz C0 hS (by unfold y_enM; rw [he]; rfl) (by rw [he]; rfl) rfl dX4_end_33
theorem kX4_behind_wX4 : ∀ w ∈ u_ws RX4 TX4 22, w ∈ wsX4_behind := by decide +kernel
theorem kX4_behind_f46 : Cond.fieldLink RX4 46 "VersionDeskModel" "behind" "[I" ∈ wsX4_behind := by decide +kernel
set_option maxHeartbeats 4000000 in
set_option maxRecDepth 100000 in
/-- behind -/
theorem c_X4_behind (l : Launch) (G : x_G) (ad : Nat → Nat) (D : Nat → Option va_E) (M : Nat → Nat → Int32) (V : Nat → Int64) (a0 o : Int32) (mn : Nat) (hmn : M 6 0 = nI mn) (hm : mn ≤ 514) : Met l yX4_behind wsX4_behind ({ frames := 1, cells := 0, slots := 0, locals := 23 } : Room) (x_Pc G ad (y_con G ad D M V) [.ref (ad 200), .int a0, .int o]) (x_Qw G ad (y_con G ad D (y_bhM M (y_fd M a0 mn) o) V) (some (.int (zb (y_bh M (y_fd M a0 mn) o))))) 0 0 (x_A G) := by
  refine x_met (cc := cX4_behind) (maxL := 4) (ret := (some .boolean)) (by decide) rfl _ (Nat.le_of_ble_eq_true rfl) ?_
  intro p e s m args below meth c C0 hini hK hS ls hl
  have hl : lv_has ls 4 [(0, .ref (ad 200)), (1, .int a0), (2, .int o)] := hl
  obtain ⟨hx, hb, hr, hml, hown, hts, hlk⟩ := id C0
  refine lv_aload_n hx hb dX4_behind_0 rfl (lv_at hl 0 rfl) ?_
  refine lv_iload_n hx hb dX4_behind_1 rfl (lv_at hl 1 rfl) ?_
  refine x_callr (x_rV C0 hl.1 hK hS (c_X4_find l G ad D M V a0 mn hmn hm) (show y_con G ad D M V 200 = some (x_mo ad M) from rfl) rfl gX4_behind_X4_find 1 rfl rfl rfl (by decide +kernel) ⟨Nat.le_of_ble_eq_true rfl, Nat.le_of_ble_eq_true rfl⟩ rfl rfl (Nat.le_of_ble_eq_true rfl) dX4_behind_2 ⟨Nat.le_of_ble_eq_true rfl, Nat.le_of_ble_eq_true rfl⟩) ?_
  show W _ _ _ _ _ _ _ _ _ _ _ _ _ _ _ (F0 m 5 ls [.int (y_fd M a0 mn)])
  rcases y_fd_N M a0 mn with hfd | ⟨k, hk, hfd, hpk⟩
  · rw [hfd]
    refine lv_istore_n (lv' := [(3, .int (-1)), (0, .ref (ad 200)), (1, .int a0), (2, .int o)]) hx hb dX4_behind_5 rfl hl (by decide) rfl (fun ls hl => ?_)
    refine lv_iload_n hx hb dX4_behind_6 rfl (lv_at hl 0 rfl) ?_
    refine lv_if_lt (tgt := 21) hx hb dX4_behind_7 (by decide) (fun c7 => ?_) (fun c7 => absurd (by decide) c7)
    refine lv_iconst (v := 0) hx hb dX4_behind_21 (by decide) ?_
    have he : y_bh M (-1) o = false := by unfold y_bh; rw [decide_eq_true neg1_lt]; simp
    exact x_wretz C0 hS (by unfold y_bhM; rw [he]; rfl) (by rw [he]; rfl) rfl dX4_behind_22
  · rw [hfd]
    refine lv_istore_n (lv' := [(3, .int (nI k)), (0, .ref (ad 200)), (1, .int a0), (2, .int o)]) hx hb dX4_behind_5 rfl hl (by decide) rfl (fun ls hl => ?_)
    refine lv_iload_n hx hb dX4_behind_6 rfl (lv_at hl 0 rfl) ?_
    refine lv_if_lt (tgt := 21) hx hb dX4_behind_7 (by decide) (fun c7 => absurd c7 (nI_pos (by omega))) (fun c7 => ?_)
    refine lv_iload_n hx hb dX4_behind_10 rfl (lv_at hl 3 rfl) ?_
    refine lv_iconst (v := (-1)) hx hb dX4_behind_11 (by decide) ?_
    refine lv_sipush (v := 15359) hx hb dX4_behind_12 (by decide) ?_
    refine x_callr (x_rS C0 hl.1 hK hS (c_X4_in l G ad D M V o (-1) 15359) gX4_behind_X4_in 3 rfl rfl rfl (by decide +kernel) ⟨Nat.le_of_ble_eq_true rfl, Nat.le_of_ble_eq_true rfl⟩ rfl rfl (Nat.le_of_ble_eq_true rfl) dX4_behind_15 ⟨Nat.le_of_ble_eq_true rfl, Nat.le_of_ble_eq_true rfl⟩) ?_
    show W _ _ _ _ _ _ _ _ _ _ _ _ _ _ _ (F0 m 18 ls [.int (zb (m_in o (-1) 15359))])
    refine lv_if_ne (tgt := 23) hx hb dX4_behind_18 (by decide) (fun c18 => ?_) (fun c18 => ?_)
    · refine lv_aload_n hx hb dX4_behind_23 rfl (lv_at hl 1 rfl) ?_
      refine y_get (j := 13) C0 hK hS (by decide) (by decide) kX4_behind_wX4 kX4_behind_f46 dX4_behind_24 ?_
      refine lv_iload_n hx hb dX4_behind_27 rfl (lv_at hl 0 rfl) ?_
      refine lv_iload_n hx hb dX4_behind_28 rfl (lv_at hl 3 rfl) ?_
      refine y_iast (j := 13) (i := k) (n := 515) C0 hK hS (by decide) (by decide) (by decide) (by omega) rfl dX4_behind_29 (fun H locs hS => ?_)
      obtain ⟨M1, eM1⟩ : ∃ zz, zz = va_up M 13 (upd (M 13) k o) := ⟨_, rfl⟩
      rw [← eM1] at hS
      have hM1_6 : M1 6 0 = nI mn := by rw [eM1, va_up_ne _ _ (by decide)]; exact hmn
      refine lv_iconst (v := 1) hx hb dX4_behind_30 (by decide) ?_
      have he : y_bh M (nI k) o = true := by unfold y_bh; rw [decide_eq_false (nI_pos (by omega)), zb_ne c18]; rfl
      exact x_wretz C0 hS (by unfold y_bhM; rw [if_pos he, nI_clamp (by omega)]; subst_vars; rfl) (by rw [he]; rfl) rfl dX4_behind_31
    · refine lv_iconst (v := 0) hx hb dX4_behind_21 (by decide) ?_
      have he : y_bh M (nI k) o = false := by unfold y_bh; rw [zb_eq c18]; simp
      exact x_wretz C0 hS (by unfold y_bhM; rw [he]; rfl) (by rw [he]; rfl) rfl dX4_behind_22
def Pl_ok (M : Nat → Nat → Int32) (mn : Nat) : Prop := ∀ k, k < mn → ∃ q, q < 15360 ∧ M 7 k = nI q
def y_lkv (M : Nat → Nat → Int32) (k : Nat) (a w : Int32) : Int32 := if w = 0 then M 8 k else if w = 1 then M 9 k else if w = 2 then M 10 k else if w = 3 then M 11 k else if w = 4 then M 12 k else if w = 5 then M 13 k else if w = 6 then M 14 k else if w = 7 then M 3 (a.toNatClampNeg / 256) else -1
def y_lk (M : Nat → Nat → Int32) (f a w : Int32) : Int32 := if f < 0 then -1 else y_lkv M f.toNatClampNeg a w
theorem kX4_look_wX4 : ∀ w ∈ u_ws RX4 TX4 22, w ∈ wsX4_look := by decide +kernel
theorem kX4_look_f19 : Cond.fieldLink RX4 19 "VersionDeskModel" "tableOf" "[I" ∈ wsX4_look := by decide +kernel
theorem kX4_look_f31 : Cond.fieldLink RX4 31 "VersionDeskModel" "number" "[I" ∈ wsX4_look := by decide +kernel
theorem kX4_look_f34 : Cond.fieldLink RX4 34 "VersionDeskModel" "maker" "[I" ∈ wsX4_look := by decide +kernel
theorem kX4_look_f37 : Cond.fieldLink RX4 37 "VersionDeskModel" "command" "[I" ∈ wsX4_look := by decide +kernel
theorem kX4_look_f40 : Cond.fieldLink RX4 40 "VersionDeskModel" "ender" "[I" ∈ wsX4_look := by decide +kernel
theorem kX4_look_f43 : Cond.fieldLink RX4 43 "VersionDeskModel" "endCommand" "[I" ∈ wsX4_look := by decide +kernel
theorem kX4_look_f46 : Cond.fieldLink RX4 46 "VersionDeskModel" "behind" "[I" ∈ wsX4_look := by decide +kernel
theorem kX4_look_f49 : Cond.fieldLink RX4 49 "VersionDeskModel" "size" "[I" ∈ wsX4_look := by decide +kernel
set_option maxHeartbeats 4000000 in
set_option maxRecDepth 100000 in
/-- look -/
theorem c_X4_look (l : Launch) (G : x_G) (ad : Nat → Nat) (D : Nat → Option va_E) (M : Nat → Nat → Int32) (V : Nat → Int64) (a0 w : Int32) (mn : Nat) (hmn : M 6 0 = nI mn) (hm : mn ≤ 514) (hPl : Pl_ok M mn) : Met l yX4_look wsX4_look ({ frames := 1, cells := 0, slots := 0, locals := 23 } : Room) (x_Pc G ad (y_con G ad D M V) [.ref (ad 200), .int a0, .int w]) (x_Qr (some (.int (y_lk M (y_fd M a0 mn) a0 w)))) 0 0 (fun _ => False) := by
  refine x_met (cc := cX4_look) (maxL := 4) (ret := (some .int)) (by decide) rfl _ (Nat.le_of_ble_eq_true rfl) ?_
  intro p e s m args below meth c C0 hini hK hS ls hl
  have hl : lv_has ls 4 [(0, .ref (ad 200)), (1, .int a0), (2, .int w)] := hl
  obtain ⟨hx, hb, hr, hml, hown, hts, hlk⟩ := id C0
  refine lv_aload_n hx hb dX4_look_0 rfl (lv_at hl 0 rfl) ?_
  refine lv_iload_n hx hb dX4_look_1 rfl (lv_at hl 1 rfl) ?_
  refine x_callr (x_rV C0 hl.1 hK hS (c_X4_find l G ad D M V a0 mn hmn hm) (show y_con G ad D M V 200 = some (x_mo ad M) from rfl) rfl gX4_look_X4_find 1 rfl rfl rfl (by decide +kernel) ⟨Nat.le_of_ble_eq_true rfl, Nat.le_of_ble_eq_true rfl⟩ rfl rfl (Nat.le_of_ble_eq_true rfl) dX4_look_2 ⟨Nat.le_of_ble_eq_true rfl, Nat.le_of_ble_eq_true rfl⟩) ?_
  show W _ _ _ _ _ _ _ _ _ _ _ _ _ _ _ (F0 m 5 ls [.int (y_fd M a0 mn)])
  rcases y_fd_N M a0 mn with hfd | ⟨k, hk, hfd, hpk⟩
  · rw [hfd]
    refine lv_istore_n (lv' := [(3, .int (-1)), (0, .ref (ad 200)), (1, .int a0), (2, .int w)]) hx hb dX4_look_5 rfl hl (by decide) rfl (fun ls hl => ?_)
    refine lv_iload_n hx hb dX4_look_6 rfl (lv_at hl 0 rfl) ?_
    refine lv_if_ge (tgt := 12) hx hb dX4_look_7 (by decide) (fun c7 => absurd c7 (by decide)) (fun c7 => ?_)
    refine lv_iconst (v := (-1)) hx hb dX4_look_10 (by decide) ?_
    exact x_reti C0 (by unfold y_lk; rw [if_pos neg1_lt]) dX4_look_11
  · rw [hfd]
    obtain ⟨q, hq, hpq⟩ := hPl k hk
    obtain rfl : a0 = nI q := hpk.symm.trans hpq
    refine lv_istore_n (lv' := [(3, .int (nI k)), (0, .ref (ad 200)), (1, .int (nI q)), (2, .int w)]) hx hb dX4_look_5 rfl hl (by decide) rfl (fun ls hl => ?_)
    refine lv_iload_n hx hb dX4_look_6 rfl (lv_at hl 0 rfl) ?_
    refine lv_if_ge (tgt := 12) hx hb dX4_look_7 (by decide) (fun c7 => ?_) (fun c7 => absurd (nI_pos' (by omega)) c7)
    refine lv_iload_n hx hb dX4_look_12 rfl (lv_at hl 3 rfl) ?_
    refine lv_if_ne (tgt := 25) hx hb dX4_look_13 (by decide) (fun c13 => ?_) (fun c13 => ?_)
    · refine lv_iload_n hx hb dX4_look_25 rfl (lv_at hl 3 rfl) ?_
      refine lv_iconst (v := 1) hx hb dX4_look_26 (by decide) ?_
      refine lv_icmp_ne (tgt := 39) hx hb dX4_look_27 (by decide) (fun c27 => ?_) (fun c27 => ?_)
      · refine lv_iload_n hx hb dX4_look_39 rfl (lv_at hl 3 rfl) ?_
        refine lv_iconst (v := 2) hx hb dX4_look_40 (by decide) ?_
        refine lv_icmp_ne (tgt := 53) hx hb dX4_look_41 (by decide) (fun c41 => ?_) (fun c41 => ?_)
        · refine lv_iload_n hx hb dX4_look_53 rfl (lv_at hl 3 rfl) ?_
          refine lv_iconst (v := 3) hx hb dX4_look_54 (by decide) ?_
          refine lv_icmp_ne (tgt := 67) hx hb dX4_look_55 (by decide) (fun c55 => ?_) (fun c55 => ?_)
          · refine lv_iload_n hx hb dX4_look_67 rfl (lv_at hl 3 rfl) ?_
            refine lv_iconst (v := 4) hx hb dX4_look_68 (by decide) ?_
            refine lv_icmp_ne (tgt := 81) hx hb dX4_look_69 (by decide) (fun c69 => ?_) (fun c69 => ?_)
            · refine lv_iload_n hx hb dX4_look_81 rfl (lv_at hl 3 rfl) ?_
              refine lv_iconst (v := 5) hx hb dX4_look_82 (by decide) ?_
              refine lv_icmp_ne (tgt := 95) hx hb dX4_look_83 (by decide) (fun c83 => ?_) (fun c83 => ?_)
              · refine lv_iload_n hx hb dX4_look_95 rfl (lv_at hl 3 rfl) ?_
                refine lv_bipush (v := 6) hx hb dX4_look_96 (by decide) ?_
                refine lv_icmp_ne (tgt := 110) hx hb dX4_look_98 (by decide) (fun c98 => ?_) (fun c98 => ?_)
                · refine lv_iload_n hx hb dX4_look_110 rfl (lv_at hl 3 rfl) ?_
                  refine lv_bipush (v := 7) hx hb dX4_look_111 (by decide) ?_
                  refine lv_icmp_ne (tgt := 129) hx hb dX4_look_113 (by decide) (fun c113 => ?_) (fun c113 => ?_)
                  · refine lv_iconst (v := (-1)) hx hb dX4_look_129 (by decide) ?_
                    exact x_reti C0 (by unfold y_lk; rw [if_neg (nI_pos (by omega)), nI_clamp (by omega)]; unfold y_lkv; rw [if_neg c13, if_neg c27, if_neg c41, if_neg c55, if_neg c69, if_neg c83, if_neg c98, if_neg c113]) dX4_look_130
                  · refine lv_aload_n hx hb dX4_look_116 rfl (lv_at hl 1 rfl) ?_
                    refine y_get (j := 3) C0 hK hS (by decide) (by decide) kX4_look_wX4 kX4_look_f19 dX4_look_117 ?_
                    refine lv_iload_n hx hb dX4_look_120 rfl (lv_at hl 2 rfl) ?_
                    refine lv_sipush (v := 256) hx hb dX4_look_121 (by decide) ?_
                    refine lv_idiv hx hb dX4_look_124 (by decide) ?_
                    rw [show nI q / 256 = nI (q / 256) from pk_div (d := 256) (by omega) (by decide) (by decide)]
                    refine y_iald (j := 3) (i := q / 256) (n := 60) C0 hK hS (by decide) (by decide) (by decide) (by omega) rfl dX4_look_125 ?_
                    refine lv_goto (tgt := 130) hx hb dX4_look_126 (by decide) ?_
                    exact x_reti C0 (by unfold y_lk; rw [if_neg (nI_pos (by omega)), nI_clamp (by omega)]; unfold y_lkv; rw [if_neg c13, if_neg c27, if_neg c41, if_neg c55, if_neg c69, if_neg c83, if_neg c98, if_pos c113, nI_clamp (by omega)]) dX4_look_130
                · refine lv_aload_n hx hb dX4_look_101 rfl (lv_at hl 1 rfl) ?_
                  refine y_get (j := 14) C0 hK hS (by decide) (by decide) kX4_look_wX4 kX4_look_f49 dX4_look_102 ?_
                  refine lv_iload_n hx hb dX4_look_105 rfl (lv_at hl 0 rfl) ?_
                  refine y_iald (j := 14) (i := k) (n := 515) C0 hK hS (by decide) (by decide) (by decide) (by omega) rfl dX4_look_106 ?_
                  refine lv_goto (tgt := 130) hx hb dX4_look_107 (by decide) ?_
                  exact x_reti C0 (by unfold y_lk; rw [if_neg (nI_pos (by omega)), nI_clamp (by omega)]; unfold y_lkv; rw [if_neg c13, if_neg c27, if_neg c41, if_neg c55, if_neg c69, if_neg c83, if_pos c98]) dX4_look_130
              · refine lv_aload_n hx hb dX4_look_86 rfl (lv_at hl 1 rfl) ?_
                refine y_get (j := 13) C0 hK hS (by decide) (by decide) kX4_look_wX4 kX4_look_f46 dX4_look_87 ?_
                refine lv_iload_n hx hb dX4_look_90 rfl (lv_at hl 0 rfl) ?_
                refine y_iald (j := 13) (i := k) (n := 515) C0 hK hS (by decide) (by decide) (by decide) (by omega) rfl dX4_look_91 ?_
                refine lv_goto (tgt := 130) hx hb dX4_look_92 (by decide) ?_
                exact x_reti C0 (by unfold y_lk; rw [if_neg (nI_pos (by omega)), nI_clamp (by omega)]; unfold y_lkv; rw [if_neg c13, if_neg c27, if_neg c41, if_neg c55, if_neg c69, if_pos c83]) dX4_look_130
            · refine lv_aload_n hx hb dX4_look_72 rfl (lv_at hl 1 rfl) ?_
              refine y_get (j := 12) C0 hK hS (by decide) (by decide) kX4_look_wX4 kX4_look_f43 dX4_look_73 ?_
              refine lv_iload_n hx hb dX4_look_76 rfl (lv_at hl 0 rfl) ?_
              refine y_iald (j := 12) (i := k) (n := 515) C0 hK hS (by decide) (by decide) (by decide) (by omega) rfl dX4_look_77 ?_
              refine lv_goto (tgt := 130) hx hb dX4_look_78 (by decide) ?_
              exact x_reti C0 (by unfold y_lk; rw [if_neg (nI_pos (by omega)), nI_clamp (by omega)]; unfold y_lkv; rw [if_neg c13, if_neg c27, if_neg c41, if_neg c55, if_pos c69]) dX4_look_130
          · refine lv_aload_n hx hb dX4_look_58 rfl (lv_at hl 1 rfl) ?_
            refine y_get (j := 11) C0 hK hS (by decide) (by decide) kX4_look_wX4 kX4_look_f40 dX4_look_59 ?_
            refine lv_iload_n hx hb dX4_look_62 rfl (lv_at hl 0 rfl) ?_
            refine y_iald (j := 11) (i := k) (n := 515) C0 hK hS (by decide) (by decide) (by decide) (by omega) rfl dX4_look_63 ?_
            refine lv_goto (tgt := 130) hx hb dX4_look_64 (by decide) ?_
            exact x_reti C0 (by unfold y_lk; rw [if_neg (nI_pos (by omega)), nI_clamp (by omega)]; unfold y_lkv; rw [if_neg c13, if_neg c27, if_neg c41, if_pos c55]) dX4_look_130
        · refine lv_aload_n hx hb dX4_look_44 rfl (lv_at hl 1 rfl) ?_
          refine y_get (j := 10) C0 hK hS (by decide) (by decide) kX4_look_wX4 kX4_look_f37 dX4_look_45 ?_
          refine lv_iload_n hx hb dX4_look_48 rfl (lv_at hl 0 rfl) ?_
          refine y_iald (j := 10) (i := k) (n := 515) C0 hK hS (by decide) (by decide) (by decide) (by omega) rfl dX4_look_49 ?_
          refine lv_goto (tgt := 130) hx hb dX4_look_50 (by decide) ?_
          exact x_reti C0 (by unfold y_lk; rw [if_neg (nI_pos (by omega)), nI_clamp (by omega)]; unfold y_lkv; rw [if_neg c13, if_neg c27, if_pos c41]) dX4_look_130
      · refine lv_aload_n hx hb dX4_look_30 rfl (lv_at hl 1 rfl) ?_
        refine y_get (j := 9) C0 hK hS (by decide) (by decide) kX4_look_wX4 kX4_look_f34 dX4_look_31 ?_
        refine lv_iload_n hx hb dX4_look_34 rfl (lv_at hl 0 rfl) ?_
        refine y_iald (j := 9) (i := k) (n := 515) C0 hK hS (by decide) (by decide) (by decide) (by omega) rfl dX4_look_35 ?_
        refine lv_goto (tgt := 130) hx hb dX4_look_36 (by decide) ?_
        exact x_reti C0 (by unfold y_lk; rw [if_neg (nI_pos (by omega)), nI_clamp (by omega)]; unfold y_lkv; rw [if_neg c13, if_pos c27]) dX4_look_130
    · refine lv_aload_n hx hb dX4_look_16 rfl (lv_at hl 1 rfl) ?_
      refine y_get (j := 8) C0 hK hS (by decide) (by decide) kX4_look_wX4 kX4_look_f31 dX4_look_17 ?_
      refine lv_iload_n hx hb dX4_look_20 rfl (lv_at hl 0 rfl) ?_
      refine y_iald (j := 8) (i := k) (n := 515) C0 hK hS (by decide) (by decide) (by decide) (by omega) rfl dX4_look_21 ?_
      refine lv_goto (tgt := 130) hx hb dX4_look_22 (by decide) ?_
      exact x_reti C0 (by unfold y_lk; rw [if_neg (nI_pos (by omega)), nI_clamp (by omega)]; unfold y_lkv; rw [if_pos c13]) dX4_look_130
def y_pgv (M : Nat → Nat → Int32) (mn p : Nat) (w : Int32) : Int32 := if w = 0 then M 3 p else if w = 1 then (if M 3 p < 0 then 0 else M 4 p) else if w = 2 then (if M 3 p < 0 then 0 else y_vn M (nI p) mn) else if w = 3 then (if M 3 p < 0 then 496 else y_fr M p mn) else (if M 3 p < 0 then -1 else M 5 p)
def y_pg (M : Nat → Nat → Int32) (mn : Nat) (p w : Int32) : Int32 := if m_in p 0 (nI 59) = true ∧ m_in w 0 4 = true then y_pgv M mn p.toNatClampNeg w else -1
theorem kX4_page_wX4 : ∀ w ∈ u_ws RX4 TX4 22, w ∈ wsX4_page := by decide +kernel
theorem kX4_page_f19 : Cond.fieldLink RX4 19 "VersionDeskModel" "tableOf" "[I" ∈ wsX4_page := by decide +kernel
theorem kX4_page_f22 : Cond.fieldLink RX4 22 "VersionDeskModel" "slots" "[I" ∈ wsX4_page := by decide +kernel
theorem kX4_page_f25 : Cond.fieldLink RX4 25 "VersionDeskModel" "follows" "[I" ∈ wsX4_page := by decide +kernel
set_option maxHeartbeats 4000000 in
set_option maxRecDepth 100000 in
/-- page -/
theorem c_X4_page (l : Launch) (G : x_G) (ad : Nat → Nat) (D : Nat → Option va_E) (M : Nat → Nat → Int32) (V : Nat → Int64) (p0 w : Int32) (mn : Nat) (hmn : M 6 0 = nI mn) (hm : mn ≤ 514) : Met l yX4_page wsX4_page ({ frames := 1, cells := 0, slots := 0, locals := 23 } : Room) (x_Pc G ad (y_con G ad D M V) [.ref (ad 200), .int p0, .int w]) (x_Qr (some (.int (y_pg M mn p0 w)))) 0 0 (fun _ => False) := by
  refine x_met (cc := cX4_page) (maxL := 4) (ret := (some .int)) (by decide) rfl _ (Nat.le_of_ble_eq_true rfl) ?_
  intro p e s m args below meth c C0 hini hK hS ls hl
  have hl : lv_has ls 4 [(0, .ref (ad 200)), (1, .int p0), (2, .int w)] := hl
  obtain ⟨hx, hb, hr, hml, hown, hts, hlk⟩ := id C0
  refine lv_iload_n hx hb dX4_page_0 rfl (lv_at hl 1 rfl) ?_
  refine lv_iconst (v := 0) hx hb dX4_page_1 (by decide) ?_
  refine lv_bipush (v := 59) hx hb dX4_page_2 (by decide) ?_
  refine x_callr (x_rS C0 hl.1 hK hS (c_X4_in l G ad D M V p0 0 59) gX4_page_X4_in 3 rfl rfl rfl (by decide +kernel) ⟨Nat.le_of_ble_eq_true rfl, Nat.le_of_ble_eq_true rfl⟩ rfl rfl (Nat.le_of_ble_eq_true rfl) dX4_page_4 ⟨Nat.le_of_ble_eq_true rfl, Nat.le_of_ble_eq_true rfl⟩) ?_
  show W _ _ _ _ _ _ _ _ _ _ _ _ _ _ _ (F0 m 7 ls [.int (zb (m_in p0 0 59))])
  refine lv_if_eq (tgt := 19) hx hb dX4_page_7 (by decide) (fun c7 => ?_) (fun c7 => ?_)
  · refine lv_iconst (v := (-1)) hx hb dX4_page_19 (by decide) ?_
    exact x_reti C0 (by unfold y_pg; rw [if_neg (fun q => by rw [show m_in p0 0 (nI 59) = false from zb_eq c7] at q; exact absurd q.1 (by decide))]) dX4_page_20
  · have hcc : m_in p0 0 (nI 59) = true := zb_ne c7
    obtain ⟨i, hi, rfl⟩ := m_in_of (n := 59) (by decide) hcc
    have hci : (nI i).toNatClampNeg = i := nI_clamp (by omega)
    refine lv_iload_n hx hb dX4_page_10 rfl (lv_at hl 2 rfl) ?_
    refine lv_iconst (v := 0) hx hb dX4_page_11 (by decide) ?_
    refine lv_iconst (v := 4) hx hb dX4_page_12 (by decide) ?_
    refine x_callr (x_rS C0 hl.1 hK hS (c_X4_in l G ad D M V w 0 4) gX4_page_X4_in 3 rfl rfl rfl (by decide +kernel) ⟨Nat.le_of_ble_eq_true rfl, Nat.le_of_ble_eq_true rfl⟩ rfl rfl (Nat.le_of_ble_eq_true rfl) dX4_page_13 ⟨Nat.le_of_ble_eq_true rfl, Nat.le_of_ble_eq_true rfl⟩) ?_
    show W _ _ _ _ _ _ _ _ _ _ _ _ _ _ _ (F0 m 16 ls [.int (zb (m_in w 0 4))])
    refine lv_if_ne (tgt := 21) hx hb dX4_page_16 (by decide) (fun c16 => ?_) (fun c16 => ?_)
    · refine lv_aload_n hx hb dX4_page_21 rfl (lv_at hl 0 rfl) ?_
      refine y_get (j := 3) C0 hK hS (by decide) (by decide) kX4_page_wX4 kX4_page_f19 dX4_page_22 ?_
      refine lv_iload_n hx hb dX4_page_25 rfl (lv_at hl 1 rfl) ?_
      refine y_iald (j := 3) (i := i) (n := 60) C0 hK hS (by decide) (by decide) (by decide) (by omega) rfl dX4_page_26 ?_
      refine lv_if_ge (tgt := 34) hx hb dX4_page_27 (by decide) (fun c27 => ?_) (fun c27 => ?_)
      · refine lv_iconst (v := 0) hx hb dX4_page_34 (by decide) ?_
        refine lv_istore_n (lv' := [(3, .int 0), (0, .ref (ad 200)), (1, .int (nI i)), (2, .int w)]) hx hb dX4_page_35 rfl hl (by decide) rfl (fun ls hl => ?_)
        refine lv_iload_n hx hb dX4_page_36 rfl (lv_at hl 3 rfl) ?_
        refine lv_if_ne (tgt := 49) hx hb dX4_page_37 (by decide) (fun c37 => ?_) (fun c37 => ?_)
        · refine lv_iload_n hx hb dX4_page_49 rfl (lv_at hl 3 rfl) ?_
          refine lv_iconst (v := 1) hx hb dX4_page_50 (by decide) ?_
          refine lv_icmp_ne (tgt := 71) hx hb dX4_page_51 (by decide) (fun c51 => ?_) (fun c51 => ?_)
          · refine lv_iload_n hx hb dX4_page_71 rfl (lv_at hl 3 rfl) ?_
            refine lv_iconst (v := 2) hx hb dX4_page_72 (by decide) ?_
            refine lv_icmp_ne (tgt := 92) hx hb dX4_page_73 (by decide) (fun c73 => ?_) (fun c73 => ?_)
            · refine lv_iload_n hx hb dX4_page_92 rfl (lv_at hl 3 rfl) ?_
              refine lv_iconst (v := 3) hx hb dX4_page_93 (by decide) ?_
              refine lv_icmp_ne (tgt := 115) hx hb dX4_page_94 (by decide) (fun c94 => ?_) (fun c94 => ?_)
              · refine lv_iload_n hx hb dX4_page_115 rfl (lv_at hl 0 rfl) ?_
                refine lv_if_eq (tgt := 123) hx hb dX4_page_116 (by decide) (fun c116 => ?_) (fun c116 => absurd (by decide) c116)
                refine lv_aload_n hx hb dX4_page_123 rfl (lv_at hl 1 rfl) ?_
                refine y_get (j := 5) C0 hK hS (by decide) (by decide) kX4_page_wX4 kX4_page_f25 dX4_page_124 ?_
                refine lv_iload_n hx hb dX4_page_127 rfl (lv_at hl 2 rfl) ?_
                refine y_iald (j := 5) (i := i) (n := 60) C0 hK hS (by decide) (by decide) (by decide) (by omega) rfl dX4_page_128 ?_
                exact x_reti C0 (by unfold y_pg; rw [if_pos ⟨hcc, zb_ne c16⟩, hci]; unfold y_pgv; rw [if_neg c37, if_neg c51, if_neg c73, if_neg c94, if_neg (Int32.not_lt.mpr c27)]) dX4_page_129
              · refine lv_iload_n hx hb dX4_page_97 rfl (lv_at hl 0 rfl) ?_
                refine lv_if_eq (tgt := 107) hx hb dX4_page_98 (by decide) (fun c98 => ?_) (fun c98 => absurd (by decide) c98)
                refine lv_aload_n hx hb dX4_page_107 rfl (lv_at hl 1 rfl) ?_
                refine lv_iload_n hx hb dX4_page_108 rfl (lv_at hl 2 rfl) ?_
                refine x_callr (x_rV C0 hl.1 hK hS (c_X4_freeIn l G ad D M V i (by omega) mn hmn hm) (show y_con G ad D M V 200 = some (x_mo ad M) from rfl) rfl gX4_page_X4_freeIn 1 rfl rfl rfl (by decide +kernel) ⟨Nat.le_of_ble_eq_true rfl, Nat.le_of_ble_eq_true rfl⟩ rfl rfl (Nat.le_of_ble_eq_true rfl) dX4_page_109 ⟨Nat.le_of_ble_eq_true rfl, Nat.le_of_ble_eq_true rfl⟩) ?_
                show W _ _ _ _ _ _ _ _ _ _ _ _ _ _ _ (F0 m 112 ls [.int (y_fr M i mn)])
                refine lv_goto (tgt := 129) hx hb dX4_page_112 (by decide) ?_
                exact x_reti C0 (by unfold y_pg; rw [if_pos ⟨hcc, zb_ne c16⟩, hci]; unfold y_pgv; rw [if_neg c37, if_neg c51, if_neg c73, if_pos c94, if_neg (Int32.not_lt.mpr c27)]) dX4_page_129
            · refine lv_iload_n hx hb dX4_page_76 rfl (lv_at hl 0 rfl) ?_
              refine lv_if_eq (tgt := 84) hx hb dX4_page_77 (by decide) (fun c77 => ?_) (fun c77 => absurd (by decide) c77)
              refine lv_aload_n hx hb dX4_page_84 rfl (lv_at hl 1 rfl) ?_
              refine lv_iload_n hx hb dX4_page_85 rfl (lv_at hl 2 rfl) ?_
              refine x_callr (x_rV C0 hl.1 hK hS (c_X4_versionsIn l G ad D M V (nI i) mn hmn hm) (show y_con G ad D M V 200 = some (x_mo ad M) from rfl) rfl gX4_page_X4_versionsIn 1 rfl rfl rfl (by decide +kernel) ⟨Nat.le_of_ble_eq_true rfl, Nat.le_of_ble_eq_true rfl⟩ rfl rfl (Nat.le_of_ble_eq_true rfl) dX4_page_86 ⟨Nat.le_of_ble_eq_true rfl, Nat.le_of_ble_eq_true rfl⟩) ?_
              show W _ _ _ _ _ _ _ _ _ _ _ _ _ _ _ (F0 m 89 ls [.int (y_vn M (nI i) mn)])
              refine lv_goto (tgt := 129) hx hb dX4_page_89 (by decide) ?_
              exact x_reti C0 (by unfold y_pg; rw [if_pos ⟨hcc, zb_ne c16⟩, hci]; unfold y_pgv; rw [if_neg c37, if_neg c51, if_pos c73, if_neg (Int32.not_lt.mpr c27)]) dX4_page_129
          · refine lv_iload_n hx hb dX4_page_54 rfl (lv_at hl 0 rfl) ?_
            refine lv_if_eq (tgt := 62) hx hb dX4_page_55 (by decide) (fun c55 => ?_) (fun c55 => absurd (by decide) c55)
            refine lv_aload_n hx hb dX4_page_62 rfl (lv_at hl 1 rfl) ?_
            refine y_get (j := 4) C0 hK hS (by decide) (by decide) kX4_page_wX4 kX4_page_f22 dX4_page_63 ?_
            refine lv_iload_n hx hb dX4_page_66 rfl (lv_at hl 2 rfl) ?_
            refine y_iald (j := 4) (i := i) (n := 60) C0 hK hS (by decide) (by decide) (by decide) (by omega) rfl dX4_page_67 ?_
            refine lv_goto (tgt := 129) hx hb dX4_page_68 (by decide) ?_
            exact x_reti C0 (by unfold y_pg; rw [if_pos ⟨hcc, zb_ne c16⟩, hci]; unfold y_pgv; rw [if_neg c37, if_pos c51, if_neg (Int32.not_lt.mpr c27)]) dX4_page_129
        · refine lv_aload_n hx hb dX4_page_40 rfl (lv_at hl 1 rfl) ?_
          refine y_get (j := 3) C0 hK hS (by decide) (by decide) kX4_page_wX4 kX4_page_f19 dX4_page_41 ?_
          refine lv_iload_n hx hb dX4_page_44 rfl (lv_at hl 2 rfl) ?_
          refine y_iald (j := 3) (i := i) (n := 60) C0 hK hS (by decide) (by decide) (by decide) (by omega) rfl dX4_page_45 ?_
          refine lv_goto (tgt := 129) hx hb dX4_page_46 (by decide) ?_
          exact x_reti C0 (by unfold y_pg; rw [if_pos ⟨hcc, zb_ne c16⟩, hci]; unfold y_pgv; rw [if_pos c37]) dX4_page_129
      · refine lv_iconst (v := 1) hx hb dX4_page_30 (by decide) ?_
        refine lv_goto (tgt := 35) hx hb dX4_page_31 (by decide) ?_
        refine lv_istore_n (lv' := [(3, .int 1), (0, .ref (ad 200)), (1, .int (nI i)), (2, .int w)]) hx hb dX4_page_35 rfl hl (by decide) rfl (fun ls hl => ?_)
        refine lv_iload_n hx hb dX4_page_36 rfl (lv_at hl 3 rfl) ?_
        refine lv_if_ne (tgt := 49) hx hb dX4_page_37 (by decide) (fun c37 => ?_) (fun c37 => ?_)
        · refine lv_iload_n hx hb dX4_page_49 rfl (lv_at hl 3 rfl) ?_
          refine lv_iconst (v := 1) hx hb dX4_page_50 (by decide) ?_
          refine lv_icmp_ne (tgt := 71) hx hb dX4_page_51 (by decide) (fun c51 => ?_) (fun c51 => ?_)
          · refine lv_iload_n hx hb dX4_page_71 rfl (lv_at hl 3 rfl) ?_
            refine lv_iconst (v := 2) hx hb dX4_page_72 (by decide) ?_
            refine lv_icmp_ne (tgt := 92) hx hb dX4_page_73 (by decide) (fun c73 => ?_) (fun c73 => ?_)
            · refine lv_iload_n hx hb dX4_page_92 rfl (lv_at hl 3 rfl) ?_
              refine lv_iconst (v := 3) hx hb dX4_page_93 (by decide) ?_
              refine lv_icmp_ne (tgt := 115) hx hb dX4_page_94 (by decide) (fun c94 => ?_) (fun c94 => ?_)
              · refine lv_iload_n hx hb dX4_page_115 rfl (lv_at hl 0 rfl) ?_
                refine lv_if_eq (tgt := 123) hx hb dX4_page_116 (by decide) (fun c116 => absurd c116 (by decide)) (fun c116 => ?_)
                refine lv_iconst (v := (-1)) hx hb dX4_page_119 (by decide) ?_
                refine lv_goto (tgt := 129) hx hb dX4_page_120 (by decide) ?_
                exact x_reti C0 (by unfold y_pg; rw [if_pos ⟨hcc, zb_ne c16⟩, hci]; unfold y_pgv; rw [if_neg c37, if_neg c51, if_neg c73, if_neg c94, if_pos (Int32.not_le.mp c27)]) dX4_page_129
              · refine lv_iload_n hx hb dX4_page_97 rfl (lv_at hl 0 rfl) ?_
                refine lv_if_eq (tgt := 107) hx hb dX4_page_98 (by decide) (fun c98 => absurd c98 (by decide)) (fun c98 => ?_)
                refine lv_sipush (v := 496) hx hb dX4_page_101 (by decide) ?_
                refine lv_goto (tgt := 129) hx hb dX4_page_104 (by decide) ?_
                exact x_reti C0 (by unfold y_pg; rw [if_pos ⟨hcc, zb_ne c16⟩, hci]; unfold y_pgv; rw [if_neg c37, if_neg c51, if_neg c73, if_pos c94, if_pos (Int32.not_le.mp c27)]) dX4_page_129
            · refine lv_iload_n hx hb dX4_page_76 rfl (lv_at hl 0 rfl) ?_
              refine lv_if_eq (tgt := 84) hx hb dX4_page_77 (by decide) (fun c77 => absurd c77 (by decide)) (fun c77 => ?_)
              refine lv_iconst (v := 0) hx hb dX4_page_80 (by decide) ?_
              refine lv_goto (tgt := 129) hx hb dX4_page_81 (by decide) ?_
              exact x_reti C0 (by unfold y_pg; rw [if_pos ⟨hcc, zb_ne c16⟩, hci]; unfold y_pgv; rw [if_neg c37, if_neg c51, if_pos c73, if_pos (Int32.not_le.mp c27)]) dX4_page_129
          · refine lv_iload_n hx hb dX4_page_54 rfl (lv_at hl 0 rfl) ?_
            refine lv_if_eq (tgt := 62) hx hb dX4_page_55 (by decide) (fun c55 => absurd c55 (by decide)) (fun c55 => ?_)
            refine lv_iconst (v := 0) hx hb dX4_page_58 (by decide) ?_
            refine lv_goto (tgt := 129) hx hb dX4_page_59 (by decide) ?_
            exact x_reti C0 (by unfold y_pg; rw [if_pos ⟨hcc, zb_ne c16⟩, hci]; unfold y_pgv; rw [if_neg c37, if_pos c51, if_pos (Int32.not_le.mp c27)]) dX4_page_129
        · refine lv_aload_n hx hb dX4_page_40 rfl (lv_at hl 1 rfl) ?_
          refine y_get (j := 3) C0 hK hS (by decide) (by decide) kX4_page_wX4 kX4_page_f19 dX4_page_41 ?_
          refine lv_iload_n hx hb dX4_page_44 rfl (lv_at hl 2 rfl) ?_
          refine y_iald (j := 3) (i := i) (n := 60) C0 hK hS (by decide) (by decide) (by decide) (by omega) rfl dX4_page_45 ?_
          refine lv_goto (tgt := 129) hx hb dX4_page_46 (by decide) ?_
          exact x_reti C0 (by unfold y_pg; rw [if_pos ⟨hcc, zb_ne c16⟩, hci]; unfold y_pgv; rw [if_pos c37]) dX4_page_129
    · refine lv_iconst (v := (-1)) hx hb dX4_page_19 (by decide) ?_
      exact x_reti C0 (by unfold y_pg; rw [if_neg (fun q => by rw [zb_eq c16] at q; exact absurd q.2 (by decide))]) dX4_page_20
def F_ok (M : Nat → Nat → Int32) : Prop := ∀ p, p < 60 → M 5 p < 0 ∨ ∃ q, q < 60 ∧ M 5 p = nI q
def y_nl (M : Nat → Nat → Int32) (mn : Nat) : Nat → Nat → Int32 → Int32
  | 0, _, f => f
  | d + 1, p, f => if f < 0 ∧ 0 ≤ M 5 p then y_nl M mn d (M 5 p).toNatClampNeg (y_ni M (M 5 p) (-1) mn) else f
def y_nx (M : Nat → Nat → Int32) (mn : Nat) (t a : Int32) : Int32 := if y_th M t = true ∧ m_in a (-1) 15359 = true ∧ (a < 0 ∨ M 3 (a.toNatClampNeg / 256) = t) then (if a < 0 then y_nl M mn 60 (M 2 t.toNatClampNeg).toNatClampNeg (y_ni M (M 2 t.toNatClampNeg) (-1) mn) else y_nl M mn 60 (a.toNatClampNeg / 256) (y_ni M (nI (a.toNatClampNeg / 256)) (nI (a.toNatClampNeg % 256)) mn)) else -1
theorem kX4_next_wX4 : ∀ w ∈ u_ws RX4 TX4 22, w ∈ wsX4_next := by decide +kernel
theorem kX4_next_f25 : Cond.fieldLink RX4 25 "VersionDeskModel" "follows" "[I" ∈ wsX4_next := by decide +kernel
set_option maxHeartbeats 4000000 in
set_option maxRecDepth 100000 in
theorem l_X4_next {p : Program} {l : Launch} {e : Env} {s : State} {m : MethodId} {args : Array Value} {below : List Frame} {meth : Method} {c : Code} {G : x_G} {ad : Nat → Nat} {D : Nat → Option va_E} {M : Nat → Nat → Int32} {V : Nat → Int64} (C0 : x_B p s m meth c args cX4_next 6 (some .int) RX4 wsX4_next) (hK : x_K G s) {mn : Nat} {r t9 a9 : Int32} (hmn : M 6 0 = nI mn) (hm : mn ≤ 514) (hF9 : F_ok M) (hS : x_H G ad (y_con G ad D M V) s.heap []) : ∀ (d : Nat) (j p1 : Nat) (f : Int32), 60 - j < d → j ≤ 60 → p1 < 60 → r = y_nl M mn (60 - j) p1 f → ∀ (ls : Array Slot), lv_has ls 6 [(0, .ref (ad 200)), (1, .int t9), (2, .int a9), (3, .int (nI p1)), (4, .int f), (5, .int (nI j))] → W p l e ({ frames := 2, cells := 0, slots := 0, locals := 43 } : Room) s m args below meth c s.heap [] 0 0 (MQ below (x_Qr (some (.int r))) args s 0 0 (fun _ => False)) (F0 m 81 ls []) := by
  obtain ⟨hx, hb, hr, hml, hown, hts, hlk⟩ := id C0
  intro d
  induction d with
  | zero =>
    intro j p1 f hd hj hp hF ls hl
    exact absurd hd (by omega)
  | succ d ih =>
    intro j p1 f hd hj hp hF ls hl
    refine lv_iload hx hb dX4_next_81 (lv_at hl 5 rfl) ?_
    refine lv_bipush (v := 60) hx hb dX4_next_83 (by decide) ?_
    refine lv_icmp_ge (tgt := 123) hx hb dX4_next_85 (by decide) (fun c85 => ?_) (fun c85 => ?_)
    · have hj2 := nz_le (a := 60) c85 rfl rfl (by omega) (by omega)
      refine lv_iload hx hb dX4_next_123 (lv_at hl 4 rfl) ?_
      exact x_reti C0 (by rw [hF, show 60 - j = 0 by omega]; rfl) dX4_next_125
    · have hj2 := nz_nle (a := 60) c85 rfl rfl (by omega) (by omega)
      refine lv_iload hx hb dX4_next_88 (lv_at hl 4 rfl) ?_
      refine lv_if_ge (tgt := 123) hx hb dX4_next_90 (by decide) (fun c90 => ?_) (fun c90 => ?_)
      · refine lv_iload hx hb dX4_next_123 (lv_at hl 4 rfl) ?_
        exact x_reti C0 (by rw [hF, show 60 - j = (60 - (j + 1)) + 1 by omega]; simp only [y_nl]; rw [if_neg (fun q => absurd q.1 (Int32.not_lt.mpr c90))]) dX4_next_125
      · refine lv_aload_n hx hb dX4_next_93 rfl (lv_at hl 0 rfl) ?_
        refine y_get (j := 5) C0 hK hS (by decide) (by decide) kX4_next_wX4 kX4_next_f25 dX4_next_94 ?_
        refine lv_iload_n hx hb dX4_next_97 rfl (lv_at hl 3 rfl) ?_
        refine y_iald (j := 5) (i := p1) (n := 60) C0 hK hS (by decide) (by decide) (by decide) (by omega) rfl dX4_next_98 ?_
        refine lv_if_lt (tgt := 123) hx hb dX4_next_99 (by decide) (fun c99 => ?_) (fun c99 => ?_)
        · refine lv_iload hx hb dX4_next_123 (lv_at hl 4 rfl) ?_
          exact x_reti C0 (by rw [hF, show 60 - j = (60 - (j + 1)) + 1 by omega]; simp only [y_nl]; rw [if_neg (fun q => absurd q.2 (Int32.not_le.mpr c99))]) dX4_next_125
        · refine lv_aload_n hx hb dX4_next_102 rfl (lv_at hl 0 rfl) ?_
          refine y_get (j := 5) C0 hK hS (by decide) (by decide) kX4_next_wX4 kX4_next_f25 dX4_next_103 ?_
          refine lv_iload_n hx hb dX4_next_106 rfl (lv_at hl 3 rfl) ?_
          refine y_iald (j := 5) (i := p1) (n := 60) C0 hK hS (by decide) (by decide) (by decide) (by omega) rfl dX4_next_107 ?_
          obtain ⟨q, hq, hfq⟩ := (hF9 p1 (by omega)).resolve_left c99
          rw [hfq]
          refine lv_istore_n (lv' := [(3, .int (nI q)), (0, .ref (ad 200)), (1, .int t9), (2, .int a9), (4, .int f), (5, .int (nI j))]) hx hb dX4_next_108 rfl hl (by decide) rfl (fun ls hl => ?_)
          refine lv_aload_n hx hb dX4_next_109 rfl (lv_at hl 1 rfl) ?_
          refine lv_iload_n hx hb dX4_next_110 rfl (lv_at hl 0 rfl) ?_
          refine lv_iconst (v := (-1)) hx hb dX4_next_111 (by decide) ?_
          refine x_callr (x_rV C0 hl.1 hK hS (c_X4_nextIn l G ad D M V (nI q) (-1) mn hmn hm) (show y_con G ad D M V 200 = some (x_mo ad M) from rfl) rfl gX4_next_X4_nextIn 2 rfl rfl rfl (by decide +kernel) ⟨Nat.le_of_ble_eq_true rfl, Nat.le_of_ble_eq_true rfl⟩ rfl rfl (Nat.le_of_ble_eq_true rfl) dX4_next_112 ⟨Nat.le_of_ble_eq_true rfl, Nat.le_of_ble_eq_true rfl⟩) ?_
          show W _ _ _ _ _ _ _ _ _ _ _ _ _ _ _ (F0 m 115 ls [.int (y_ni M (nI q) (-1) mn)])
          refine lv_topi (fun x1 ex1 => ?_)
          refine lv_istore (lv' := [(4, .int x1), (3, .int (nI q)), (0, .ref (ad 200)), (1, .int t9), (2, .int a9), (5, .int (nI j))]) hx hb dX4_next_115 hl (by decide) rfl (fun ls hl => ?_)
          refine lv_iinc (v := nI (j + 1)) (lv' := [(5, .int (nI (j + 1))), (4, .int x1), (3, .int (nI q)), (0, .ref (ad 200)), (1, .int t9), (2, .int a9)]) hx hb dX4_next_117 hl (k := 5) rfl (nI_1 j) (by decide) rfl (fun ls hl => ?_)
          refine lv_goto (tgt := 81) hx hb dX4_next_120 (by decide) ?_
          exact ih (j + 1) q _ (by omega) (by omega) hq (by rw [hF, show 60 - j = (60 - (j + 1)) + 1 by omega]; simp only [y_nl]; rw [if_pos ⟨Int32.not_le.mp c90, Int32.not_lt.mp c99⟩, hfq, nI_clamp (by omega)]; rw [ex1]) ls (lv_sub hl [3, 4, 5, 2, 1, 0] rfl)
theorem m_in_m1 {a : Int32} (h : m_in a (-1) 15359 = true) (h0 : ¬ a < 0) : ∃ k, k < 15360 ∧ a = nI k := by
  simp only [m_in, Bool.and_eq_true, decide_eq_true_eq] at h
  obtain ⟨j, h1, h2⟩ := nI_of h0
  exact ⟨j, by have := nz_le (b := 15359) h.2 h2 rfl h1 (by omega); omega, h2⟩
def Fi_ok (M : Nat → Nat → Int32) : Prop := ∀ t, t < 8 → 0 < M 0 t → ∃ q, q < 60 ∧ M 2 t = nI q
theorem y_th_in {M : Nat → Nat → Int32} {t : Int32} (h : y_th M t = true) : ∃ i, i < 8 ∧ t = nI i ∧ 0 < M 0 i := by
  simp only [y_th, Bool.and_eq_true, decide_eq_true_eq] at h
  obtain ⟨i, h1, h2⟩ := m_in_of (n := 7) (by decide) h.1
  refine ⟨i, by omega, h2, ?_⟩
  have := h.2
  rw [h2, nI_clamp (by omega)] at this
  exact this
theorem kX4_next_f16 : Cond.fieldLink RX4 16 "VersionDeskModel" "first" "[I" ∈ wsX4_next := by decide +kernel
theorem kX4_next_f19 : Cond.fieldLink RX4 19 "VersionDeskModel" "tableOf" "[I" ∈ wsX4_next := by decide +kernel
set_option maxHeartbeats 4000000 in
set_option maxRecDepth 100000 in
/-- next -/
theorem c_X4_next (l : Launch) (G : x_G) (ad : Nat → Nat) (D : Nat → Option va_E) (M : Nat → Nat → Int32) (V : Nat → Int64) (t0 a0 : Int32) (mn : Nat) (hmn : M 6 0 = nI mn) (hm : mn ≤ 514) (hF9 : F_ok M) (hFi : Fi_ok M) : Met l yX4_next wsX4_next ({ frames := 2, cells := 0, slots := 0, locals := 43 } : Room) (x_Pc G ad (y_con G ad D M V) [.ref (ad 200), .int t0, .int a0]) (x_Qr (some (.int (y_nx M mn t0 a0)))) 0 0 (fun _ => False) := by
  refine x_met (cc := cX4_next) (maxL := 6) (ret := (some .int)) (by decide) rfl _ (Nat.le_of_ble_eq_true rfl) ?_
  intro p e s m args below meth c C0 hini hK hS ls hl
  have hl : lv_has ls 6 [(0, .ref (ad 200)), (1, .int t0), (2, .int a0)] := hl
  obtain ⟨hx, hb, hr, hml, hown, hts, hlk⟩ := id C0
  refine lv_aload_n hx hb dX4_next_0 rfl (lv_at hl 0 rfl) ?_
  refine lv_iload_n hx hb dX4_next_1 rfl (lv_at hl 1 rfl) ?_
  refine x_callr (x_rV C0 hl.1 hK hS (c_X4_isThere l G ad D M V t0) (show y_con G ad D M V 200 = some (x_mo ad M) from rfl) rfl gX4_next_X4_isThere 1 rfl rfl rfl (by decide +kernel) ⟨Nat.le_of_ble_eq_true rfl, Nat.le_of_ble_eq_true rfl⟩ rfl rfl (Nat.le_of_ble_eq_true rfl) dX4_next_2 ⟨Nat.le_of_ble_eq_true rfl, Nat.le_of_ble_eq_true rfl⟩) ?_
  show W _ _ _ _ _ _ _ _ _ _ _ _ _ _ _ (F0 m 5 ls [.int (zb (y_th M t0))])
  refine lv_if_eq (tgt := 37) hx hb dX4_next_5 (by decide) (fun c5 => ?_) (fun c5 => ?_)
  · refine lv_iconst (v := (-1)) hx hb dX4_next_37 (by decide) ?_
    exact x_reti C0 (by unfold y_nx; rw [if_neg (fun q => by rw [zb_eq c5] at q; exact absurd q.1 (by decide))]) dX4_next_38
  · have hth := zb_ne c5
    obtain ⟨i, hi, rfl, hci0⟩ := y_th_in hth
    have hci : (nI i).toNatClampNeg = i := nI_clamp (by omega)
    refine lv_iload_n hx hb dX4_next_8 rfl (lv_at hl 2 rfl) ?_
    refine lv_iconst (v := (-1)) hx hb dX4_next_9 (by decide) ?_
    refine lv_sipush (v := 15359) hx hb dX4_next_10 (by decide) ?_
    refine x_callr (x_rS C0 hl.1 hK hS (c_X4_in l G ad D M V a0 (-1) 15359) gX4_next_X4_in 3 rfl rfl rfl (by decide +kernel) ⟨Nat.le_of_ble_eq_true rfl, Nat.le_of_ble_eq_true rfl⟩ rfl rfl (Nat.le_of_ble_eq_true rfl) dX4_next_13 ⟨Nat.le_of_ble_eq_true rfl, Nat.le_of_ble_eq_true rfl⟩) ?_
    show W _ _ _ _ _ _ _ _ _ _ _ _ _ _ _ (F0 m 16 ls [.int (zb (m_in a0 (-1) 15359))])
    refine lv_if_eq (tgt := 37) hx hb dX4_next_16 (by decide) (fun c16 => ?_) (fun c16 => ?_)
    · refine lv_iconst (v := (-1)) hx hb dX4_next_37 (by decide) ?_
      exact x_reti C0 (by unfold y_nx; rw [if_neg (fun q => by rw [zb_eq c16] at q; exact absurd q.2.1 (by decide))]) dX4_next_38
    · refine lv_iload_n hx hb dX4_next_19 rfl (lv_at hl 2 rfl) ?_
      refine lv_if_lt (tgt := 39) hx hb dX4_next_20 (by decide) (fun c20 => ?_) (fun c20 => ?_)
      · refine lv_iload_n hx hb dX4_next_39 rfl (lv_at hl 2 rfl) ?_
        refine lv_if_ge (tgt := 52) hx hb dX4_next_40 (by decide) (fun c40 => absurd c40 (Int32.not_le.mpr c20)) (fun c40 => ?_)
        refine lv_aload_n hx hb dX4_next_43 rfl (lv_at hl 0 rfl) ?_
        refine y_get (j := 2) C0 hK hS (by decide) (by decide) kX4_next_wX4 kX4_next_f16 dX4_next_44 ?_
        refine lv_iload_n hx hb dX4_next_47 rfl (lv_at hl 1 rfl) ?_
        refine y_iald (j := 2) (i := i) (n := 8) C0 hK hS (by decide) (by decide) (by decide) (by omega) rfl dX4_next_48 ?_
        refine lv_goto (tgt := 57) hx hb dX4_next_49 (by decide) ?_
        obtain ⟨q, hq, hfq⟩ := hFi i (by omega) hci0
        rw [hfq]
        refine lv_istore_n (lv' := [(3, .int (nI q)), (0, .ref (ad 200)), (1, .int (nI i)), (2, .int a0)]) hx hb dX4_next_57 rfl hl (by decide) rfl (fun ls hl => ?_)
        refine lv_aload_n hx hb dX4_next_58 rfl (lv_at hl 1 rfl) ?_
        refine lv_iload_n hx hb dX4_next_59 rfl (lv_at hl 0 rfl) ?_
        refine lv_iload_n hx hb dX4_next_60 rfl (lv_at hl 3 rfl) ?_
        refine lv_if_ge (tgt := 68) hx hb dX4_next_61 (by decide) (fun c61 => absurd c61 (Int32.not_le.mpr c20)) (fun c61 => ?_)
        refine lv_iconst (v := (-1)) hx hb dX4_next_64 (by decide) ?_
        refine lv_goto (tgt := 73) hx hb dX4_next_65 (by decide) ?_
        refine x_callr (x_rV C0 hl.1 hK hS (c_X4_nextIn l G ad D M V (nI q) (-1) mn hmn hm) (show y_con G ad D M V 200 = some (x_mo ad M) from rfl) rfl gX4_next_X4_nextIn 2 rfl rfl rfl (by decide +kernel) ⟨Nat.le_of_ble_eq_true rfl, Nat.le_of_ble_eq_true rfl⟩ rfl rfl (Nat.le_of_ble_eq_true rfl) dX4_next_73 ⟨Nat.le_of_ble_eq_true rfl, Nat.le_of_ble_eq_true rfl⟩) ?_
        show W _ _ _ _ _ _ _ _ _ _ _ _ _ _ _ (F0 m 76 ls [.int (y_ni M (nI q) (-1) mn)])
        refine lv_topi (fun x1 ex1 => ?_)
        refine lv_istore (lv' := [(4, .int x1), (3, .int (nI q)), (0, .ref (ad 200)), (1, .int (nI i)), (2, .int a0)]) hx hb dX4_next_76 hl (by decide) rfl (fun ls hl => ?_)
        refine lv_iconst (v := 0) hx hb dX4_next_78 (by decide) ?_
        refine lv_istore (lv' := [(5, .int 0), (4, .int x1), (3, .int (nI q)), (0, .ref (ad 200)), (1, .int (nI i)), (2, .int a0)]) hx hb dX4_next_79 hl (by decide) rfl (fun ls hl => ?_)
        exact l_X4_next C0 hK hmn hm hF9 hS 61 0 q _ (by omega) (by omega) hq (by unfold y_nx; rw [if_pos ⟨hth, zb_ne c16, Or.inl c20⟩, if_pos c20, hci, hfq, nI_clamp (by omega), ex1]) ls (lv_sub hl [3, 4, 5, 2, 1, 0] rfl)
      · obtain ⟨k, hk, rfl⟩ := m_in_m1 (zb_ne c16) c20
        have hck : (nI k).toNatClampNeg = k := nI_clamp (by omega)
        refine lv_aload_n hx hb dX4_next_23 rfl (lv_at hl 0 rfl) ?_
        refine y_get (j := 3) C0 hK hS (by decide) (by decide) kX4_next_wX4 kX4_next_f19 dX4_next_24 ?_
        refine lv_iload_n hx hb dX4_next_27 rfl (lv_at hl 2 rfl) ?_
        refine lv_sipush (v := 256) hx hb dX4_next_28 (by decide) ?_
        refine lv_idiv hx hb dX4_next_31 (by decide) ?_
        rw [show nI k / 256 = nI (k / 256) from pk_div (d := 256) (by omega) (by decide) (by decide)]
        refine y_iald (j := 3) (i := k / 256) (n := 60) C0 hK hS (by decide) (by decide) (by decide) (by omega) rfl dX4_next_32 ?_
        refine lv_iload_n hx hb dX4_next_33 rfl (lv_at hl 1 rfl) ?_
        refine lv_icmp_eq (tgt := 39) hx hb dX4_next_34 (by decide) (fun c34 => ?_) (fun c34 => ?_)
        · refine lv_iload_n hx hb dX4_next_39 rfl (lv_at hl 2 rfl) ?_
          refine lv_if_ge (tgt := 52) hx hb dX4_next_40 (by decide) (fun c40 => ?_) (fun c40 => absurd (Int32.not_lt.mp c20) c40)
          refine lv_iload_n hx hb dX4_next_52 rfl (lv_at hl 2 rfl) ?_
          refine lv_sipush (v := 256) hx hb dX4_next_53 (by decide) ?_
          refine lv_idiv hx hb dX4_next_56 (by decide) ?_
          rw [show nI k / 256 = nI (k / 256) from pk_div (d := 256) (by omega) (by decide) (by decide)]
          refine lv_istore_n (lv' := [(3, .int (nI (k / 256))), (0, .ref (ad 200)), (1, .int (nI i)), (2, .int (nI k))]) hx hb dX4_next_57 rfl hl (by decide) rfl (fun ls hl => ?_)
          refine lv_aload_n hx hb dX4_next_58 rfl (lv_at hl 1 rfl) ?_
          refine lv_iload_n hx hb dX4_next_59 rfl (lv_at hl 0 rfl) ?_
          refine lv_iload_n hx hb dX4_next_60 rfl (lv_at hl 3 rfl) ?_
          refine lv_if_ge (tgt := 68) hx hb dX4_next_61 (by decide) (fun c61 => ?_) (fun c61 => absurd (Int32.not_lt.mp c20) c61)
          refine lv_iload_n hx hb dX4_next_68 rfl (lv_at hl 3 rfl) ?_
          refine lv_sipush (v := 256) hx hb dX4_next_69 (by decide) ?_
          refine lv_irem hx hb dX4_next_72 (by decide) ?_
          rw [show nI k - nI k / 256 * 256 = nI (k % 256) from pk_rem (d := 256) (by omega) (by decide) (by decide)]
          refine x_callr (x_rV C0 hl.1 hK hS (c_X4_nextIn l G ad D M V (nI (k / 256)) (nI (k % 256)) mn hmn hm) (show y_con G ad D M V 200 = some (x_mo ad M) from rfl) rfl gX4_next_X4_nextIn 2 rfl rfl rfl (by decide +kernel) ⟨Nat.le_of_ble_eq_true rfl, Nat.le_of_ble_eq_true rfl⟩ rfl rfl (Nat.le_of_ble_eq_true rfl) dX4_next_73 ⟨Nat.le_of_ble_eq_true rfl, Nat.le_of_ble_eq_true rfl⟩) ?_
          show W _ _ _ _ _ _ _ _ _ _ _ _ _ _ _ (F0 m 76 ls [.int (y_ni M (nI (k / 256)) (nI (k % 256)) mn)])
          refine lv_topi (fun x2 ex2 => ?_)
          refine lv_istore (lv' := [(4, .int x2), (3, .int (nI (k / 256))), (0, .ref (ad 200)), (1, .int (nI i)), (2, .int (nI k))]) hx hb dX4_next_76 hl (by decide) rfl (fun ls hl => ?_)
          refine lv_iconst (v := 0) hx hb dX4_next_78 (by decide) ?_
          refine lv_istore (lv' := [(5, .int 0), (4, .int x2), (3, .int (nI (k / 256))), (0, .ref (ad 200)), (1, .int (nI i)), (2, .int (nI k))]) hx hb dX4_next_79 hl (by decide) rfl (fun ls hl => ?_)
          exact l_X4_next C0 hK hmn hm hF9 hS 61 0 (k / 256) _ (by omega) (by omega) (by omega) (by unfold y_nx; rw [hck, if_pos ⟨hth, zb_ne c16, Or.inr c34⟩, if_neg c20, ex2]) ls (lv_sub hl [3, 4, 5, 2, 1, 0] rfl)
        · refine lv_iconst (v := (-1)) hx hb dX4_next_37 (by decide) ?_
          exact x_reti C0 (by unfold y_nx; rw [if_neg (fun q => by rw [hck] at q; exact q.2.2.elim c20 c34)]) dX4_next_38
