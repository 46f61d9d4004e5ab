set_option maxHeartbeats 4000000 in
set_option maxRecDepth 100000 in
/-- page -/
theorem c_X3_page (l : Launch) (G : x_G) (ad : Nat → Nat) (R : Nat → Nat → Int32) (N : Nat → Int64) (tl : Nat → Bool) (T : Nat → Nat → Int32) (pl : Nat → Bool) (P : Nat → Nat → Int32) (X : Nat → Option va_E) (p0 w : Int32) : Met l yX3_page wsX3_page ({ frames := 2, cells := 0, slots := 0, locals := 41 } : Room) (x_Pc G ad (x_con G ad R N tl T pl P X) [.ref (ad 0), .int p0, .int w]) (x_Qr (some (.int (d_pg pl P p0 w)))) 0 0 (fun _ => False) := by
  refine x_met (cc := cX3_page) (maxL := 4) (ret := (some .int)) (by decide) rfl _ (Nat.le_of_ble_eq_true rfl) ?_
  intro p e s m args below meth c C0 hini hK hS ls hl
  have hl : lv_has ls 4 [(0, .ref (ad 0)), (1, .int p0), (2, .int w)] := hl
  obtain ⟨hx, hb, hr, hml, hown, hts, hlk⟩ := id C0
  refine lv_iload_n hx hb dX3_page_0 rfl (lv_at hl 1 rfl) ?_
  refine lv_if_lt (tgt := 10) hx hb dX3_page_1 (by decide) (fun c1 => ?_) (fun c1 => ?_)
  · refine lv_iconst (v := (-1)) hx hb dX3_page_10 (by decide) ?_
    exact x_reti C0 (by unfold d_pg; rw [if_neg (by rw [d_in, decide_eq_false (Int32.not_le.mpr c1)]; simp)]) dX3_page_11
  · refine lv_iload_n hx hb dX3_page_4 rfl (lv_at hl 1 rfl) ?_
    refine lv_bipush (v := 60) hx hb dX3_page_5 (by decide) ?_
    refine lv_icmp_lt (tgt := 12) hx hb dX3_page_7 (by decide) (fun c7 => ?_) (fun c7 => ?_)
    · have hin : d_in p0 (nI 60) = true := by rw [d_in, show nI 60 = (60 : Int32) from rfl, decide_eq_true (Int32.not_lt.mp c1), decide_eq_true c7]; rfl
      refine lv_aload_n hx hb dX3_page_12 rfl (lv_at hl 0 rfl) ?_
      refine lv_iload_n hx hb dX3_page_13 rfl (lv_at hl 1 rfl) ?_
      cases hu : d_up pl P p0 with
      | false =>
        refine x_callr (x_rV C0 hl.1 hK hS (c_X3_usedPage l G ad R N tl T pl P X p0) (x_con_0 (k := 0) (by omega)) rfl gX3_page_X3_usedPage 1 rfl rfl rfl (by decide +kernel) ⟨Nat.le_of_ble_eq_true rfl, Nat.le_of_ble_eq_true rfl⟩ rfl rfl (Nat.le_of_ble_eq_true rfl) dX3_page_14 ⟨Nat.le_of_ble_eq_true rfl, Nat.le_of_ble_eq_true rfl⟩) ?_
        rw [d_pv_n hu]
        show W _ _ _ _ _ _ _ _ _ _ _ _ _ _ _ (F0 m 17 ls [.null])
        refine lv_astore_nN (lv' := [(3, .null), (0, .ref (ad 0)), (1, .int p0), (2, .int w)]) hx hb dX3_page_17 rfl hl (by decide) rfl (fun ls hl => ?_)
        refine lv_aload_nN hx hb dX3_page_18 rfl (lv_at hl 0 rfl) ?_
        refine lv_ifnonnullN hx hb dX3_page_19 ?_
        refine lv_iload_n hx hb dX3_page_22 rfl (lv_at hl 3 rfl) ?_
        refine x_callr (x_rS C0 hl.1 hK hS (c_X3_factOfFreePage l G ad R N tl T pl P X w) gX3_page_X3_factOfFreePage 1 rfl rfl rfl (by decide +kernel) ⟨Nat.le_of_ble_eq_true rfl, Nat.le_of_ble_eq_true rfl⟩ rfl rfl (Nat.le_of_ble_eq_true rfl) dX3_page_23 ⟨Nat.le_of_ble_eq_true rfl, Nat.le_of_ble_eq_true rfl⟩) ?_
        show W _ _ _ _ _ _ _ _ _ _ _ _ _ _ _ (F0 m 26 ls [.int (d_ff w)])
        refine lv_goto (tgt := 34) hx hb dX3_page_26 (by decide) ?_
        exact x_reti C0 (by unfold d_pg; rw [if_pos hin, hu]; rfl) dX3_page_34
      | true =>
        obtain ⟨i, hp, rfl, hl_p, hp0⟩ := d_up_in hu
        refine x_callr (x_rV C0 hl.1 hK hS (c_X3_usedPage l G ad R N tl T pl P X (nI i)) (x_con_0 (k := 0) (by omega)) rfl gX3_page_X3_usedPage 1 rfl rfl rfl (by decide +kernel) ⟨Nat.le_of_ble_eq_true rfl, Nat.le_of_ble_eq_true rfl⟩ rfl rfl (Nat.le_of_ble_eq_true rfl) dX3_page_14 ⟨Nat.le_of_ble_eq_true rfl, Nat.le_of_ble_eq_true rfl⟩) ?_
        rw [d_pv_s hp hl_p hp0]
        show W _ _ _ _ _ _ _ _ _ _ _ _ _ _ _ (F0 m 17 ls [.ref (ad (16 + i))])
        refine lv_astore_n (lv' := [(3, .ref (ad (16 + i))), (0, .ref (ad 0)), (1, .int (nI i)), (2, .int w)]) hx hb dX3_page_17 rfl hl (by decide) rfl (fun ls hl => ?_)
        refine lv_aload_n hx hb dX3_page_18 rfl (lv_at hl 0 rfl) ?_
        refine lv_ifnonnull (tgt := 29) hx hb dX3_page_19 (by decide) ?_
        refine lv_aload_n hx hb dX3_page_29 rfl (lv_at hl 0 rfl) ?_
        refine lv_iload_n hx hb dX3_page_30 rfl (lv_at hl 3 rfl) ?_
        refine x_callr (x_rS C0 hl.1 hK hS (c_X3_factOfPage l G ad R N tl T pl P X i w hp hl_p) gX3_page_X3_factOfPage 2 rfl rfl rfl (by decide +kernel) ⟨Nat.le_of_ble_eq_true rfl, Nat.le_of_ble_eq_true rfl⟩ rfl rfl (Nat.le_of_ble_eq_true rfl) dX3_page_31 ⟨Nat.le_of_ble_eq_true rfl, Nat.le_of_ble_eq_true rfl⟩) ?_
        show W _ _ _ _ _ _ _ _ _ _ _ _ _ _ _ (F0 m 34 ls [.int (d_fp (P i) w)])
        exact x_reti C0 (by unfold d_pg; rw [if_pos hin, if_pos hu, nI_clamp (by omega)]) dX3_page_34
    · refine lv_iconst (v := (-1)) hx hb dX3_page_10 (by decide) ?_
      exact x_reti C0 (by unfold d_pg; rw [if_neg (by rw [d_in, show nI 60 = (60 : Int32) from rfl, decide_eq_false c7]; simp)]) dX3_page_11
def d_lv (Z : Nat → Int32) (k : Nat) (w : Int32) : Int32 := if w = 0 then (pg_rd Z (st_N Z k + 0) 4).toInt32 else if w = 1 then (pg_rd Z (st_N Z k + 4) 2).toInt32 else if w = 2 then (pg_rd Z (st_N Z k + 6) 2).toInt32 else if w = 3 then (pg_rd Z (st_N Z k + 8) 2).toInt32 else if w = 4 then (pg_rd Z (st_N Z k + 10) 2).toInt32 else if w = 5 then (pg_rd Z (st_N Z k + 12) 2).toInt32 - 1 else if w = 6 then pg_sz Z k else if w = 7 then Z 0 else -1
def d_lk (pl : Nat → Bool) (P : Nat → Nat → Int32) (q w : Int32) : Int32 := if d_wv pl P q then d_lv (P (q.toNatClampNeg / 256)) (q.toNatClampNeg % 256) w else -1
theorem kX3_look_wX0 : ∀ w ∈ u_ws RX0 TX0 6, w ∈ wsX3_look := by decide +kernel
theorem kX3_look_f47 : Cond.fieldLink RX3 47 "VersionDesk$Page" "table" "I" ∈ wsX3_look := by decide +kernel
set_option maxHeartbeats 4000000 in
set_option maxRecDepth 100000 in
/-- look -/
theorem c_X3_look (l : Launch) (G : x_G) (ad : Nat → Nat) (R : Nat → Nat → Int32) (N : Nat → Int64) (tl : Nat → Bool) (T : Nat → Nat → Int32) (pl : Nat → Bool) (P : Nat → Nat → Int32) (X : Nat → Option va_E) (q0 w : Int32) : Met l yX3_look wsX3_look ({ frames := 4, cells := 0, slots := 0, locals := 90 } : Room) (x_Pc G ad (x_con G ad R N tl T pl P X) [.ref (ad 0), .int q0, .int w]) (x_Qr (some (.int (d_lk pl P q0 w)))) 0 0 (fun _ => False) := by
  refine x_met (cc := cX3_look) (maxL := 6) (ret := (some .int)) (by decide) rfl _ (Nat.le_of_ble_eq_true rfl) ?_
  intro p e s m args below meth c C0 hini hK hS ls hl
  have hl : lv_has ls 6 [(0, .ref (ad 0)), (1, .int q0), (2, .int w)] := hl
  obtain ⟨hx, hb, hr, hml, hown, hts, hlk⟩ := id C0
  refine lv_aload_n hx hb dX3_look_0 rfl (lv_at hl 0 rfl) ?_
  refine lv_iload_n hx hb dX3_look_1 rfl (lv_at hl 1 rfl) ?_
  cases hw : d_wv pl P q0 with
  | false =>
    refine x_callr (x_rV C0 hl.1 hK hS (c_X3_pageWithVersion l G ad R N tl T pl P X q0) (x_con_0 (k := 0) (by omega)) rfl gX3_look_X3_pageWithVersion 1 rfl rfl rfl (by decide +kernel) ⟨Nat.le_of_ble_eq_true rfl, Nat.le_of_ble_eq_true rfl⟩ rfl rfl (Nat.le_of_ble_eq_true rfl) dX3_look_2 ⟨Nat.le_of_ble_eq_true rfl, Nat.le_of_ble_eq_true rfl⟩) ?_
    rw [d_wp_n hw]
    show W _ _ _ _ _ _ _ _ _ _ _ _ _ _ _ (F0 m 5 ls [.null])
    refine lv_astore_nN (lv' := [(3, .null), (0, .ref (ad 0)), (1, .int q0), (2, .int w)]) hx hb dX3_look_5 rfl hl (by decide) rfl (fun ls hl => ?_)
    refine lv_aload_nN hx hb dX3_look_6 rfl (lv_at hl 0 rfl) ?_
    refine lv_ifnonnullN hx hb dX3_look_7 ?_
    refine lv_iconst (v := (-1)) hx hb dX3_look_10 (by decide) ?_
    exact x_reti C0 (by unfold d_lk; rw [hw]; rfl) dX3_look_11
  | true =>
    obtain ⟨k, hk, rfl, hp, hl_p, hp0, hhd⟩ := d_wv_in hw
    refine x_callr (x_rV C0 hl.1 hK hS (c_X3_pageWithVersion l G ad R N tl T pl P X (nI k)) (x_con_0 (k := 0) (by omega)) rfl gX3_look_X3_pageWithVersion 1 rfl rfl rfl (by decide +kernel) ⟨Nat.le_of_ble_eq_true rfl, Nat.le_of_ble_eq_true rfl⟩ rfl rfl (Nat.le_of_ble_eq_true rfl) dX3_look_2 ⟨Nat.le_of_ble_eq_true rfl, Nat.le_of_ble_eq_true rfl⟩) ?_
    rw [d_wp_s hk hw]
    show W _ _ _ _ _ _ _ _ _ _ _ _ _ _ _ (F0 m 5 ls [.ref (ad (16 + k / 256))])
    refine lv_astore_n (lv' := [(3, .ref (ad (16 + k / 256))), (0, .ref (ad 0)), (1, .int (nI k)), (2, .int w)]) hx hb dX3_look_5 rfl hl (by decide) rfl (fun ls hl => ?_)
    refine lv_aload_n hx hb dX3_look_6 rfl (lv_at hl 0 rfl) ?_
    refine lv_ifnonnull (tgt := 12) hx hb dX3_look_7 (by decide) ?_
    refine lv_iload_n hx hb dX3_look_12 rfl (lv_at hl 2 rfl) ?_
    refine x_callr (x_rS C0 hl.1 hK hS (c_X3_slotOf l G ad R N tl T pl P X k (by omega)) gX3_look_X3_slotOf 1 rfl rfl rfl (by decide +kernel) ⟨Nat.le_of_ble_eq_true rfl, Nat.le_of_ble_eq_true rfl⟩ rfl rfl (Nat.le_of_ble_eq_true rfl) dX3_look_13 ⟨Nat.le_of_ble_eq_true rfl, Nat.le_of_ble_eq_true rfl⟩) ?_
    show W _ _ _ _ _ _ _ _ _ _ _ _ _ _ _ (F0 m 16 ls [.int (nI (k % 256))])
    refine lv_istore (lv' := [(4, .int (nI (k % 256))), (3, .ref (ad (16 + k / 256))), (0, .ref (ad 0)), (1, .int (nI k)), (2, .int w)]) hx hb dX3_look_16 hl (by decide) rfl (fun ls hl => ?_)
    refine lv_aload_n hx hb dX3_look_18 rfl (lv_at hl 1 rfl) ?_
    refine lv_iload hx hb dX3_look_19 (lv_at hl 0 rfl) ?_
    refine x_callr (x_rV C0 hl.1 hK hS (c_X0_startOf l G ad R N tl T pl P X (k / 256) (k % 256) hp hl_p (by omega)) (x_con_p hp hl_p) rfl gX3_look_X0_startOf 1 rfl rfl rfl (by decide +kernel) ⟨Nat.le_of_ble_eq_true rfl, Nat.le_of_ble_eq_true rfl⟩ rfl rfl (Nat.le_of_ble_eq_true rfl) dX3_look_21 ⟨Nat.le_of_ble_eq_true rfl, Nat.le_of_ble_eq_true rfl⟩) ?_
    rw [pg_st_N]
    show W _ _ _ _ _ _ _ _ _ _ _ _ _ _ _ (F0 m 24 ls [.int (nI (st_N (P (k / 256)) (k % 256)))])
    refine lv_istore (lv' := [(5, .int (nI (st_N (P (k / 256)) (k % 256)))), (4, .int (nI (k % 256))), (3, .ref (ad (16 + k / 256))), (0, .ref (ad 0)), (1, .int (nI k)), (2, .int w)]) hx hb dX3_look_24 hl (by decide) rfl (fun ls hl => ?_)
    refine lv_iload_n hx hb dX3_look_26 rfl (lv_at hl 5 rfl) ?_
    by_cases s27_0 : w = 0
    · refine lv_tableIn (off := 45) (tgt := 72) hx hb dX3_look_27 (by rw [s27_0]; decide) (by rw [s27_0]; decide) (by rw [s27_0] <;> rfl) (by decide) ?_
      refine lv_aload_n hx hb dX3_look_72 rfl (lv_at hl 2 rfl) ?_
      refine lv_iload hx hb dX3_look_73 (lv_at hl 0 rfl) ?_
      refine lv_iconst (v := 0) hx hb dX3_look_75 (by decide) ?_
      refine lv_iadd hx hb dX3_look_76 ?_
      refine lv_iconst (v := 4) hx hb dX3_look_77 (by decide) ?_
      rw [show nI (st_N (P (k / 256)) (k % 256)) + 0 = nI (st_N (P (k / 256)) (k % 256) + 0) from nI_add (st_N (P (k / 256)) (k % 256)) 0]
      refine x_callr (x_rV C0 hl.1 hK hS (c_X0_read l G ad R N tl T pl P X (k / 256) (st_N (P (k / 256)) (k % 256) + 0) 4 hp hl_p (by have := st_N_lt (P (k / 256)) (k % 256); omega)) (x_con_p hp hl_p) rfl gX3_look_X0_read 2 rfl rfl rfl (by decide +kernel) ⟨Nat.le_of_ble_eq_true rfl, Nat.le_of_ble_eq_true rfl⟩ rfl rfl (Nat.le_of_ble_eq_true rfl) dX3_look_78 ⟨Nat.le_of_ble_eq_true rfl, Nat.le_of_ble_eq_true rfl⟩) ?_
      show W _ _ _ _ _ _ _ _ _ _ _ _ _ _ _ (F0 m 81 ls [.long (pg_rd (P (k / 256)) (st_N (P (k / 256)) (k % 256) + 0) 4)])
      refine lv_l2i hx hb dX3_look_81 rfl ?_
      exact x_reti C0 (by unfold d_lk; rw [if_pos hw, nI_clamp (by omega)]; unfold d_lv; rw [if_pos s27_0]) dX3_look_82
    by_cases s27_1 : w = 1
    · refine lv_tableIn (off := 56) (tgt := 83) hx hb dX3_look_27 (by rw [s27_1]; decide) (by rw [s27_1]; decide) (by rw [s27_1] <;> rfl) (by decide) ?_
      refine lv_aload_n hx hb dX3_look_83 rfl (lv_at hl 2 rfl) ?_
      refine lv_iload hx hb dX3_look_84 (lv_at hl 0 rfl) ?_
      refine lv_iconst (v := 4) hx hb dX3_look_86 (by decide) ?_
      refine lv_iadd hx hb dX3_look_87 ?_
      refine lv_iconst (v := 2) hx hb dX3_look_88 (by decide) ?_
      rw [show nI (st_N (P (k / 256)) (k % 256)) + 4 = nI (st_N (P (k / 256)) (k % 256) + 4) from nI_add (st_N (P (k / 256)) (k % 256)) 4]
      refine x_callr (x_rV C0 hl.1 hK hS (c_X0_read l G ad R N tl T pl P X (k / 256) (st_N (P (k / 256)) (k % 256) + 4) 2 hp hl_p (by have := st_N_lt (P (k / 256)) (k % 256); omega)) (x_con_p hp hl_p) rfl gX3_look_X0_read 2 rfl rfl rfl (by decide +kernel) ⟨Nat.le_of_ble_eq_true rfl, Nat.le_of_ble_eq_true rfl⟩ rfl rfl (Nat.le_of_ble_eq_true rfl) dX3_look_89 ⟨Nat.le_of_ble_eq_true rfl, Nat.le_of_ble_eq_true rfl⟩) ?_
      show W _ _ _ _ _ _ _ _ _ _ _ _ _ _ _ (F0 m 92 ls [.long (pg_rd (P (k / 256)) (st_N (P (k / 256)) (k % 256) + 4) 2)])
      refine lv_l2i hx hb dX3_look_92 rfl ?_
      exact x_reti C0 (by unfold d_lk; rw [if_pos hw, nI_clamp (by omega)]; unfold d_lv; rw [if_neg s27_0, if_pos s27_1]) dX3_look_93
    by_cases s27_2 : w = 2
    · refine lv_tableIn (off := 67) (tgt := 94) hx hb dX3_look_27 (by rw [s27_2]; decide) (by rw [s27_2]; decide) (by rw [s27_2] <;> rfl) (by decide) ?_
      refine lv_aload_n hx hb dX3_look_94 rfl (lv_at hl 2 rfl) ?_
      refine lv_iload hx hb dX3_look_95 (lv_at hl 0 rfl) ?_
      refine lv_bipush (v := 6) hx hb dX3_look_97 (by decide) ?_
      refine lv_iadd hx hb dX3_look_99 ?_
      refine lv_iconst (v := 2) hx hb dX3_look_100 (by decide) ?_
      rw [show nI (st_N (P (k / 256)) (k % 256)) + 6 = nI (st_N (P (k / 256)) (k % 256) + 6) from nI_add (st_N (P (k / 256)) (k % 256)) 6]
      refine x_callr (x_rV C0 hl.1 hK hS (c_X0_read l G ad R N tl T pl P X (k / 256) (st_N (P (k / 256)) (k % 256) + 6) 2 hp hl_p (by have := st_N_lt (P (k / 256)) (k % 256); omega)) (x_con_p hp hl_p) rfl gX3_look_X0_read 2 rfl rfl rfl (by decide +kernel) ⟨Nat.le_of_ble_eq_true rfl, Nat.le_of_ble_eq_true rfl⟩ rfl rfl (Nat.le_of_ble_eq_true rfl) dX3_look_101 ⟨Nat.le_of_ble_eq_true rfl, Nat.le_of_ble_eq_true rfl⟩) ?_
      show W _ _ _ _ _ _ _ _ _ _ _ _ _ _ _ (F0 m 104 ls [.long (pg_rd (P (k / 256)) (st_N (P (k / 256)) (k % 256) + 6) 2)])
      refine lv_l2i hx hb dX3_look_104 rfl ?_
      exact x_reti C0 (by unfold d_lk; rw [if_pos hw, nI_clamp (by omega)]; unfold d_lv; rw [if_neg s27_0, if_neg s27_1, if_pos s27_2]) dX3_look_105
    by_cases s27_3 : w = 3
    · refine lv_tableIn (off := 79) (tgt := 106) hx hb dX3_look_27 (by rw [s27_3]; decide) (by rw [s27_3]; decide) (by rw [s27_3] <;> rfl) (by decide) ?_
      refine lv_aload_n hx hb dX3_look_106 rfl (lv_at hl 2 rfl) ?_
      refine lv_iload hx hb dX3_look_107 (lv_at hl 0 rfl) ?_
      refine lv_bipush (v := 8) hx hb dX3_look_109 (by decide) ?_
      refine lv_iadd hx hb dX3_look_111 ?_
      refine lv_iconst (v := 2) hx hb dX3_look_112 (by decide) ?_
      rw [show nI (st_N (P (k / 256)) (k % 256)) + 8 = nI (st_N (P (k / 256)) (k % 256) + 8) from nI_add (st_N (P (k / 256)) (k % 256)) 8]
      refine x_callr (x_rV C0 hl.1 hK hS (c_X0_read l G ad R N tl T pl P X (k / 256) (st_N (P (k / 256)) (k % 256) + 8) 2 hp hl_p (by have := st_N_lt (P (k / 256)) (k % 256); omega)) (x_con_p hp hl_p) rfl gX3_look_X0_read 2 rfl rfl rfl (by decide +kernel) ⟨Nat.le_of_ble_eq_true rfl, Nat.le_of_ble_eq_true rfl⟩ rfl rfl (Nat.le_of_ble_eq_true rfl) dX3_look_113 ⟨Nat.le_of_ble_eq_true rfl, Nat.le_of_ble_eq_true rfl⟩) ?_
      show W _ _ _ _ _ _ _ _ _ _ _ _ _ _ _ (F0 m 116 ls [.long (pg_rd (P (k / 256)) (st_N (P (k / 256)) (k % 256) + 8) 2)])
      refine lv_l2i hx hb dX3_look_116 rfl ?_
      exact x_reti C0 (by unfold d_lk; rw [if_pos hw, nI_clamp (by omega)]; unfold d_lv; rw [if_neg s27_0, if_neg s27_1, if_neg s27_2, if_pos s27_3]) dX3_look_117
    by_cases s27_4 : w = 4
    · refine lv_tableIn (off := 91) (tgt := 118) hx hb dX3_look_27 (by rw [s27_4]; decide) (by rw [s27_4]; decide) (by rw [s27_4] <;> rfl) (by decide) ?_
      refine lv_aload_n hx hb dX3_look_118 rfl (lv_at hl 2 rfl) ?_
      refine lv_iload hx hb dX3_look_119 (lv_at hl 0 rfl) ?_
      refine lv_bipush (v := 10) hx hb dX3_look_121 (by decide) ?_
      refine lv_iadd hx hb dX3_look_123 ?_
      refine lv_iconst (v := 2) hx hb dX3_look_124 (by decide) ?_
      rw [show nI (st_N (P (k / 256)) (k % 256)) + 10 = nI (st_N (P (k / 256)) (k % 256) + 10) from nI_add (st_N (P (k / 256)) (k % 256)) 10]
      refine x_callr (x_rV C0 hl.1 hK hS (c_X0_read l G ad R N tl T pl P X (k / 256) (st_N (P (k / 256)) (k % 256) + 10) 2 hp hl_p (by have := st_N_lt (P (k / 256)) (k % 256); omega)) (x_con_p hp hl_p) rfl gX3_look_X0_read 2 rfl rfl rfl (by decide +kernel) ⟨Nat.le_of_ble_eq_true rfl, Nat.le_of_ble_eq_true rfl⟩ rfl rfl (Nat.le_of_ble_eq_true rfl) dX3_look_125 ⟨Nat.le_of_ble_eq_true rfl, Nat.le_of_ble_eq_true rfl⟩) ?_
      show W _ _ _ _ _ _ _ _ _ _ _ _ _ _ _ (F0 m 128 ls [.long (pg_rd (P (k / 256)) (st_N (P (k / 256)) (k % 256) + 10) 2)])
      refine lv_l2i hx hb dX3_look_128 rfl ?_
      exact x_reti C0 (by unfold d_lk; rw [if_pos hw, nI_clamp (by omega)]; unfold d_lv; rw [if_neg s27_0, if_neg s27_1, if_neg s27_2, if_neg s27_3, if_pos s27_4]) dX3_look_129
    by_cases s27_5 : w = 5
    · refine lv_tableIn (off := 103) (tgt := 130) hx hb dX3_look_27 (by rw [s27_5]; decide) (by rw [s27_5]; decide) (by rw [s27_5] <;> rfl) (by decide) ?_
      refine lv_aload_n hx hb dX3_look_130 rfl (lv_at hl 2 rfl) ?_
      refine lv_iload hx hb dX3_look_131 (lv_at hl 0 rfl) ?_
      refine x_callr (x_rS C0 hl.1 hK hS (c_X3_readBehind l G ad R N tl T pl P X (k / 256) hp hl_p (st_N (P (k / 256)) (k % 256)) (by have := st_N_lt (P (k / 256)) (k % 256); omega)) gX3_look_X3_readBehind 2 rfl rfl rfl (by decide +kernel) ⟨Nat.le_of_ble_eq_true rfl, Nat.le_of_ble_eq_true rfl⟩ rfl rfl (Nat.le_of_ble_eq_true rfl) dX3_look_133 ⟨Nat.le_of_ble_eq_true rfl, Nat.le_of_ble_eq_true rfl⟩) ?_
      show W _ _ _ _ _ _ _ _ _ _ _ _ _ _ _ (F0 m 136 ls [.int ((pg_rd (P (k / 256)) (st_N (P (k / 256)) (k % 256) + 12) 2).toInt32 - 1)])
      exact x_reti C0 (by unfold d_lk; rw [if_pos hw, nI_clamp (by omega)]; unfold d_lv; rw [if_neg s27_0, if_neg s27_1, if_neg s27_2, if_neg s27_3, if_neg s27_4, if_pos s27_5]) dX3_look_136
    by_cases s27_6 : w = 6
    · refine lv_tableIn (off := 110) (tgt := 137) hx hb dX3_look_27 (by rw [s27_6]; decide) (by rw [s27_6]; decide) (by rw [s27_6] <;> rfl) (by decide) ?_
      refine lv_aload_n hx hb dX3_look_137 rfl (lv_at hl 2 rfl) ?_
      refine lv_iload hx hb dX3_look_138 (lv_at hl 1 rfl) ?_
      refine x_callr (x_rV C0 hl.1 hK hS (c_X0_sizeOf l G ad R N tl T pl P X (k / 256) (k % 256) hp hl_p (by omega)) (x_con_p hp hl_p) rfl gX3_look_X0_sizeOf 1 rfl rfl rfl (by decide +kernel) ⟨Nat.le_of_ble_eq_true rfl, Nat.le_of_ble_eq_true rfl⟩ rfl rfl (Nat.le_of_ble_eq_true rfl) dX3_look_140 ⟨Nat.le_of_ble_eq_true rfl, Nat.le_of_ble_eq_true rfl⟩) ?_
      show W _ _ _ _ _ _ _ _ _ _ _ _ _ _ _ (F0 m 143 ls [.int (pg_sz (P (k / 256)) (k % 256))])
      exact x_reti C0 (by unfold d_lk; rw [if_pos hw, nI_clamp (by omega)]; unfold d_lv; rw [if_neg s27_0, if_neg s27_1, if_neg s27_2, if_neg s27_3, if_neg s27_4, if_neg s27_5, if_pos s27_6]) dX3_look_143
    by_cases s27_7 : w = 7
    · refine lv_tableIn (off := 117) (tgt := 144) hx hb dX3_look_27 (by rw [s27_7]; decide) (by rw [s27_7]; decide) (by rw [s27_7] <;> rfl) (by decide) ?_
      refine lv_aload_n hx hb dX3_look_144 rfl (lv_at hl 2 rfl) ?_
      refine x_pget (j := 0) C0 hK hS hp hl_p (by decide) kX3_look_wX0 kX3_look_f47 dX3_look_145 ?_
      exact x_reti C0 (by unfold d_lk; rw [if_pos hw, nI_clamp (by omega)]; unfold d_lv; rw [if_neg s27_0, if_neg s27_1, if_neg s27_2, if_neg s27_3, if_neg s27_4, if_neg s27_5, if_neg s27_6, if_pos s27_7]) dX3_look_148
    · refine lv_tableOut (tgt := 149) hx hb dX3_look_27 (by have q0 := lv_neT s27_0 (a := 0) (by decide); have q1 := lv_neT s27_1 (a := 1) (by decide); have q2 := lv_neT s27_2 (a := 2) (by decide); have q3 := lv_neT s27_3 (a := 3) (by decide); have q4 := lv_neT s27_4 (a := 4) (by decide); have q5 := lv_neT s27_5 (a := 5) (by decide); have q6 := lv_neT s27_6 (a := 6) (by decide); have q7 := lv_neT s27_7 (a := 7) (by decide); omega) (by decide) ?_
      refine lv_iconst (v := (-1)) hx hb dX3_look_149 (by decide) ?_
      exact x_reti C0 (by unfold d_lk; rw [if_pos hw, nI_clamp (by omega)]; unfold d_lv; rw [if_neg s27_0, if_neg s27_1, if_neg s27_2, if_neg s27_3, if_neg s27_4, if_neg s27_5, if_neg s27_6, if_neg s27_7]) dX3_look_150
def d_enZ (Z : Nat → Int32) (k : Nat) (b c : Int32) : Nat → Int32 := pg_wr (pg_wr Z (st_N Z k + 8) 2 b.toInt64 2) (st_N Z k + 10) 2 c.toInt64 2
def d_en (pl : Nat → Bool) (P : Nat → Nat → Int32) (q b c : Int32) : Bool := d_wv pl P q && (d_sh b && d_sh c)
def d_enP (pl : Nat → Bool) (P : Nat → Nat → Int32) (q b c : Int32) : Nat → Nat → Int32 := if d_en pl P q b c then va_up P (q.toNatClampNeg / 256) (d_enZ (P (q.toNatClampNeg / 256)) (q.toNatClampNeg % 256) b c) else P
set_option maxHeartbeats 4000000 in
set_option maxRecDepth 100000 in
/-- end -/
theorem c_X3_end (l : Launch) (G : x_G) (ad : Nat → Nat) (R : Nat → Nat → Int32) (N : Nat → Int64) (tl : Nat → Bool) (T : Nat → Nat → Int32) (pl : Nat → Bool) (P : Nat → Nat → Int32) (X : Nat → Option va_E) (q0 b c0 : Int32) : Met l yX3_end wsX3_end ({ frames := 4, cells := 0, slots := 0, locals := 90 } : Room) (x_Pc G ad (x_con G ad R N tl T pl P X) [.ref (ad 0), .int q0, .int b, .int c0]) (x_Qw G ad (x_con G ad R N tl T pl (d_enP pl P q0 b c0) X) (some (.int (zb (d_en pl P q0 b c0))))) 0 0 (x_A G) := by
  refine x_met (cc := cX3_end) (maxL := 6) (ret := (some .boolean)) (by decide) rfl _ (Nat.le_of_ble_eq_true rfl) ?_
  intro p e s m args below meth c C0 hini hK hS ls hl
  have hl : lv_has ls 6 [(0, .ref (ad 0)), (1, .int q0), (2, .int b), (3, .int c0)] := hl
  obtain ⟨hx, hb, hr, hml, hown, hts, hlk⟩ := id C0
  refine lv_aload_n hx hb dX3_end_0 rfl (lv_at hl 0 rfl) ?_
  refine lv_iload_n hx hb dX3_end_1 rfl (lv_at hl 1 rfl) ?_
  cases hw : d_wv pl P q0 with
  | false =>
    refine x_callr (x_rV C0 hl.1 hK hS (c_X3_pageWithVersion l G ad R N tl T pl P X q0) (x_con_0 (k := 0) (by omega)) rfl gX3_end_X3_pageWithVersion 1 rfl rfl rfl (by decide +kernel) ⟨Nat.le_of_ble_eq_true rfl, Nat.le_of_ble_eq_true rfl⟩ rfl rfl (Nat.le_of_ble_eq_true rfl) dX3_end_2 ⟨Nat.le_of_ble_eq_true rfl, Nat.le_of_ble_eq_true rfl⟩) ?_
    rw [d_wp_n hw]
    show W _ _ _ _ _ _ _ _ _ _ _ _ _ _ _ (F0 m 5 ls [.null])
    refine lv_astoreN (lv' := [(4, .null), (0, .ref (ad 0)), (1, .int q0), (2, .int b), (3, .int c0)]) hx hb dX3_end_5 hl (by decide) rfl (fun ls hl => ?_)
    refine lv_aloadN hx hb dX3_end_7 (lv_at hl 0 rfl) ?_
    refine lv_ifnullN (tgt := 26) hx hb dX3_end_9 (by decide) ?_
    refine lv_iconst (v := 0) hx hb dX3_end_26 (by decide) ?_
    have he : d_en pl P q0 b c0 = false := by simp only [d_en]; rw [hw]; simp
    exact x_wretz C0 hS (by unfold d_enP; rw [he]; rfl) (by rw [he]; rfl) rfl dX3_end_27
  | true =>
    obtain ⟨k, hk, rfl, hp, hl_p, hp0, hhd⟩ := d_wv_in hw
    refine x_callr (x_rV C0 hl.1 hK hS (c_X3_pageWithVersion l G ad R N tl T pl P X (nI k)) (x_con_0 (k := 0) (by omega)) rfl gX3_end_X3_pageWithVersion 1 rfl rfl rfl (by decide +kernel) ⟨Nat.le_of_ble_eq_true rfl, Nat.le_of_ble_eq_true rfl⟩ rfl rfl (Nat.le_of_ble_eq_true rfl) dX3_end_2 ⟨Nat.le_of_ble_eq_true rfl, Nat.le_of_ble_eq_true rfl⟩) ?_
    rw [d_wp_s hk hw]
    show W _ _ _ _ _ _ _ _ _ _ _ _ _ _ _ (F0 m 5 ls [.ref (ad (16 + k / 256))])
    refine lv_astore (lv' := [(4, .ref (ad (16 + k / 256))), (0, .ref (ad 0)), (1, .int (nI k)), (2, .int b), (3, .int c0)]) hx hb dX3_end_5 hl (by decide) rfl (fun ls hl => ?_)
    refine lv_aload hx hb dX3_end_7 (lv_at hl 0 rfl) ?_
    refine lv_ifnull hx hb dX3_end_9 ?_
    refine lv_iload_n hx hb dX3_end_12 rfl (lv_at hl 3 rfl) ?_
    refine x_callr (x_rS C0 hl.1 hK hS (c_X3_isShort l G ad R N tl T pl P X b) gX3_end_X3_isShort 1 rfl rfl rfl (by decide +kernel) ⟨Nat.le_of_ble_eq_true rfl, Nat.le_of_ble_eq_true rfl⟩ rfl rfl (Nat.le_of_ble_eq_true rfl) dX3_end_13 ⟨Nat.le_of_ble_eq_true rfl, Nat.le_of_ble_eq_true rfl⟩) ?_
    show W _ _ _ _ _ _ _ _ _ _ _ _ _ _ _ (F0 m 16 ls [.int (zb (d_sh b))])
    refine lv_if_eq (tgt := 26) hx hb dX3_end_16 (by decide) (fun c16 => ?_) (fun c16 => ?_)
    · refine lv_iconst (v := 0) hx hb dX3_end_26 (by decide) ?_
      have he : d_en pl P (nI k) b c0 = false := by simp only [d_en]; rw [zb_eq c16]; simp
      exact x_wretz C0 hS (by unfold d_enP; rw [he]; rfl) (by rw [he]; rfl) rfl dX3_end_27
    · refine lv_iload_n hx hb dX3_end_19 rfl (lv_at hl 4 rfl) ?_
      refine x_callr (x_rS C0 hl.1 hK hS (c_X3_isShort l G ad R N tl T pl P X c0) gX3_end_X3_isShort 1 rfl rfl rfl (by decide +kernel) ⟨Nat.le_of_ble_eq_true rfl, Nat.le_of_ble_eq_true rfl⟩ rfl rfl (Nat.le_of_ble_eq_true rfl) dX3_end_20 ⟨Nat.le_of_ble_eq_true rfl, Nat.le_of_ble_eq_true rfl⟩) ?_
      show W _ _ _ _ _ _ _ _ _ _ _ _ _ _ _ (F0 m 23 ls [.int (zb (d_sh c0))])
      refine lv_if_ne (tgt := 28) hx hb dX3_end_23 (by decide) (fun c23 => ?_) (fun c23 => ?_)
      · refine lv_aload hx hb dX3_end_28 (lv_at hl 0 rfl) ?_
        refine lv_iload_n hx hb dX3_end_30 rfl (lv_at hl 2 rfl) ?_
        refine x_callr (x_rS C0 hl.1 hK hS (c_X3_slotOf l G ad R N tl T pl P X k (by omega)) gX3_end_X3_slotOf 1 rfl rfl rfl (by decide +kernel) ⟨Nat.le_of_ble_eq_true rfl, Nat.le_of_ble_eq_true rfl⟩ rfl rfl (Nat.le_of_ble_eq_true rfl) dX3_end_31 ⟨Nat.le_of_ble_eq_true rfl, Nat.le_of_ble_eq_true rfl⟩) ?_
        show W _ _ _ _ _ _ _ _ _ _ _ _ _ _ _ (F0 m 34 ls [.int (nI (k % 256)), .ref (ad (16 + k / 256))])
        refine x_callr (x_rV C0 hl.1 hK hS (c_X0_startOf l G ad R N tl T pl P X (k / 256) (k % 256) hp hl_p (by omega)) (x_con_p hp hl_p) rfl gX3_end_X0_startOf 1 rfl rfl rfl (by decide +kernel) ⟨Nat.le_of_ble_eq_true rfl, Nat.le_of_ble_eq_true rfl⟩ rfl rfl (Nat.le_of_ble_eq_true rfl) dX3_end_34 ⟨Nat.le_of_ble_eq_true rfl, Nat.le_of_ble_eq_true rfl⟩) ?_
        rw [pg_st_N]
        show W _ _ _ _ _ _ _ _ _ _ _ _ _ _ _ (F0 m 37 ls [.int (nI (st_N (P (k / 256)) (k % 256)))])
        refine lv_istore (lv' := [(5, .int (nI (st_N (P (k / 256)) (k % 256)))), (4, .ref (ad (16 + k / 256))), (0, .ref (ad 0)), (1, .int (nI k)), (2, .int b), (3, .int c0)]) hx hb dX3_end_37 hl (by decide) rfl (fun ls hl => ?_)
        refine lv_aload hx hb dX3_end_39 (lv_at hl 1 rfl) ?_
        refine lv_iload hx hb dX3_end_41 (lv_at hl 0 rfl) ?_
        refine lv_bipush (v := 8) hx hb dX3_end_43 (by decide) ?_
        refine lv_iadd hx hb dX3_end_45 ?_
        refine lv_iconst (v := 2) hx hb dX3_end_46 (by decide) ?_
        refine lv_iload_n hx hb dX3_end_47 rfl (lv_at hl 4 rfl) ?_
        refine lv_i2l hx hb dX3_end_48 rfl ?_
        rw [show nI (st_N (P (k / 256)) (k % 256)) + 8 = nI (st_N (P (k / 256)) (k % 256) + 8) from nI_add (st_N (P (k / 256)) (k % 256)) 8]
        refine x_callw hS (x_rV C0 hl.1 hK hS (c_X0_write l G ad R N tl T pl P X (k / 256) (st_N (P (k / 256)) (k % 256) + 8) 2 b.toInt64 hp hl_p (by have := st_N_lt (P (k / 256)) (k % 256); omega)) (x_con_p hp hl_p) rfl gX3_end_X0_write 3 rfl rfl rfl (by decide +kernel) ⟨Nat.le_of_ble_eq_true rfl, Nat.le_of_ble_eq_true rfl⟩ rfl rfl (Nat.le_of_ble_eq_true rfl) dX3_end_49 ⟨Nat.le_of_ble_eq_true rfl, Nat.le_of_ble_eq_true rfl⟩) (fun H locs hS => ?_)
        obtain ⟨Z1, eZ1⟩ : ∃ zz, zz = pg_wr (P (k / 256)) (st_N (P (k / 256)) (k % 256) + 8) 2 b.toInt64 2 := ⟨_, rfl⟩
        rw [← eZ1] at hS
        show W _ _ _ _ _ _ _ _ _ _ _ _ _ _ _ (F0 m 52 ls [])
        refine lv_aload hx hb dX3_end_52 (lv_at hl 1 rfl) ?_
        refine lv_iload hx hb dX3_end_54 (lv_at hl 0 rfl) ?_
        refine lv_bipush (v := 10) hx hb dX3_end_56 (by decide) ?_
        refine lv_iadd hx hb dX3_end_58 ?_
        refine lv_iconst (v := 2) hx hb dX3_end_59 (by decide) ?_
        refine lv_iload_n hx hb dX3_end_60 rfl (lv_at hl 5 rfl) ?_
        refine lv_i2l hx hb dX3_end_61 rfl ?_
        rw [show nI (st_N (P (k / 256)) (k % 256)) + 10 = nI (st_N (P (k / 256)) (k % 256) + 10) from nI_add (st_N (P (k / 256)) (k % 256)) 10]
        refine x_callw hS (x_rV C0 hl.1 hK hS (c_X0_write l G ad R N tl T pl (va_up P (k / 256) Z1) X (k / 256) (st_N (P (k / 256)) (k % 256) + 10) 2 c0.toInt64 hp hl_p (by have := st_N_lt (P (k / 256)) (k % 256); omega)) (x_con_p hp hl_p) rfl gX3_end_X0_write 3 rfl rfl rfl (by decide +kernel) ⟨Nat.le_of_ble_eq_true rfl, Nat.le_of_ble_eq_true rfl⟩ rfl rfl (Nat.le_of_ble_eq_true rfl) dX3_end_62 ⟨Nat.le_of_ble_eq_true rfl, Nat.le_of_ble_eq_true rfl⟩) (fun H locs hS => ?_)
        simp only [va_up_self, bx_uu] at hS
        obtain ⟨Z2, eZ2⟩ : ∃ zz, zz = pg_wr (Z1) (st_N (P (k / 256)) (k % 256) + 10) 2 c0.toInt64 2 := ⟨_, rfl⟩
        rw [← eZ2] at hS
        show W _ _ _ _ _ _ _ _ _ _ _ _ _ _ _ (F0 m 65 ls [])
        refine lv_iconst (v := 1) hx hb dX3_end_65 (by decide) ?_
        have he : d_en pl P (nI k) b c0 = true := by simp only [d_en]; rw [hw, zb_ne c16, zb_ne c23]; rfl
        exact x_wretz C0 hS (by unfold d_enP; rw [if_pos he, nI_clamp (by omega)]; subst_vars; rfl) (by rw [he]; rfl) rfl dX3_end_66
      · refine lv_iconst (v := 0) hx hb dX3_end_26 (by decide) ?_
        have he : d_en pl P (nI k) b c0 = false := by simp only [d_en]; rw [zb_eq c23]; simp
        exact x_wretz C0 hS (by unfold d_enP; rw [he]; rfl) (by rw [he]; rfl) rfl dX3_end_27
def d_bh (pl : Nat → Bool) (P : Nat → Nat → Int32) (q o : Int32) : Bool := d_wv pl P q && (decide (o = -1) || d_in o (nI 15360))
def d_bhP (pl : Nat → Bool) (P : Nat → Nat → Int32) (q o : Int32) : Nat → Nat → Int32 := if d_bh pl P q o then va_up P (q.toNatClampNeg / 256) (pg_wr (P (q.toNatClampNeg / 256)) (st_N (P (q.toNatClampNeg / 256)) (q.toNatClampNeg % 256) + 12) 2 (o + 1).toInt64 2) else P
set_option maxHeartbeats 4000000 in
set_option maxRecDepth 100000 in
/-- behind -/
theorem c_X3_behind (l : Launch) (G : x_G) (ad : Nat → Nat) (R : Nat → Nat → Int32) (N : Nat → Int64) (tl : Nat → Bool) (T : Nat → Nat → Int32) (pl : Nat → Bool) (P : Nat → Nat → Int32) (X : Nat → Option va_E) (q0 o : Int32) : Met l yX3_behind wsX3_behind ({ frames := 4, cells := 0, slots := 0, locals := 90 } : Room) (x_Pc G ad (x_con G ad R N tl T pl P X) [.ref (ad 0), .int q0, .int o]) (x_Qw G ad (x_con G ad R N tl T pl (d_bhP pl P q0 o) X) (some (.int (zb (d_bh pl P q0 o))))) 0 0 (x_A G) := by
  refine x_met (cc := cX3_behind) (maxL := 4) (ret := (some .boolean)) (by decide) rfl _ (Nat.le_of_ble_eq_true rfl) ?_
  intro p e s m args below meth c C0 hini hK hS ls hl
  have hl : lv_has ls 4 [(0, .ref (ad 0)), (1, .int q0), (2, .int o)] := hl
  obtain ⟨hx, hb, hr, hml, hown, hts, hlk⟩ := id C0
  refine lv_aload_n hx hb dX3_behind_0 rfl (lv_at hl 0 rfl) ?_
  refine lv_iload_n hx hb dX3_behind_1 rfl (lv_at hl 1 rfl) ?_
  cases hw : d_wv pl P q0 with
  | false =>
    refine x_callr (x_rV C0 hl.1 hK hS (c_X3_pageWithVersion l G ad R N tl T pl P X q0) (x_con_0 (k := 0) (by omega)) rfl gX3_behind_X3_pageWithVersion 1 rfl rfl rfl (by decide +kernel) ⟨Nat.le_of_ble_eq_true rfl, Nat.le_of_ble_eq_true rfl⟩ rfl rfl (Nat.le_of_ble_eq_true rfl) dX3_behind_2 ⟨Nat.le_of_ble_eq_true rfl, Nat.le_of_ble_eq_true rfl⟩) ?_
    rw [d_wp_n hw]
    show W _ _ _ _ _ _ _ _ _ _ _ _ _ _ _ (F0 m 5 ls [.null])
    refine lv_astore_nN (lv' := [(3, .null), (0, .ref (ad 0)), (1, .int q0), (2, .int o)]) hx hb dX3_behind_5 rfl hl (by decide) rfl (fun ls hl => ?_)
    refine lv_aload_nN hx hb dX3_behind_6 rfl (lv_at hl 0 rfl) ?_
    refine lv_ifnullN (tgt := 22) hx hb dX3_behind_7 (by decide) ?_
    refine lv_iconst (v := 0) hx hb dX3_behind_22 (by decide) ?_
    have he : d_bh pl P q0 o = false := by simp only [d_bh]; rw [hw]; rfl
    exact x_wretz C0 hS (by unfold d_bhP; rw [he]; rfl) (by rw [he]; rfl) rfl dX3_behind_23
  | true =>
    obtain ⟨k, hk, rfl, hp, hl_p, hp0, hhd⟩ := d_wv_in hw
    refine x_callr (x_rV C0 hl.1 hK hS (c_X3_pageWithVersion l G ad R N tl T pl P X (nI k)) (x_con_0 (k := 0) (by omega)) rfl gX3_behind_X3_pageWithVersion 1 rfl rfl rfl (by decide +kernel) ⟨Nat.le_of_ble_eq_true rfl, Nat.le_of_ble_eq_true rfl⟩ rfl rfl (Nat.le_of_ble_eq_true rfl) dX3_behind_2 ⟨Nat.le_of_ble_eq_true rfl, Nat.le_of_ble_eq_true rfl⟩) ?_
    rw [d_wp_s hk hw]
    show W _ _ _ _ _ _ _ _ _ _ _ _ _ _ _ (F0 m 5 ls [.ref (ad (16 + k / 256))])
    refine lv_astore_n (lv' := [(3, .ref (ad (16 + k / 256))), (0, .ref (ad 0)), (1, .int (nI k)), (2, .int o)]) hx hb dX3_behind_5 rfl hl (by decide) rfl (fun ls hl => ?_)
    refine lv_aload_n hx hb dX3_behind_6 rfl (lv_at hl 0 rfl) ?_
    refine lv_ifnull hx hb dX3_behind_7 ?_
    refine lv_iload_n hx hb dX3_behind_10 rfl (lv_at hl 3 rfl) ?_
    refine lv_iconst (v := (-1)) hx hb dX3_behind_11 (by decide) ?_
    refine lv_icmp_eq (tgt := 24) hx hb dX3_behind_12 (by decide) (fun c12 => ?_) (fun c12 => ?_)
    · refine lv_aload_n hx hb dX3_behind_24 rfl (lv_at hl 0 rfl) ?_
      refine lv_aload_n hx hb dX3_behind_25 rfl (lv_at hl 0 rfl) ?_
      refine lv_iload_n hx hb dX3_behind_26 rfl (lv_at hl 2 rfl) ?_
      refine x_callr (x_rS C0 hl.1 hK hS (c_X3_slotOf l G ad R N tl T pl P X k (by omega)) gX3_behind_X3_slotOf 1 rfl rfl rfl (by decide +kernel) ⟨Nat.le_of_ble_eq_true rfl, Nat.le_of_ble_eq_true rfl⟩ rfl rfl (Nat.le_of_ble_eq_true rfl) dX3_behind_27 ⟨Nat.le_of_ble_eq_true rfl, Nat.le_of_ble_eq_true rfl⟩) ?_
      show W _ _ _ _ _ _ _ _ _ _ _ _ _ _ _ (F0 m 30 ls [.int (nI (k % 256)), .ref (ad (16 + k / 256)), .ref (ad (16 + k / 256))])
      refine x_callr (x_rV C0 hl.1 hK hS (c_X0_startOf l G ad R N tl T pl P X (k / 256) (k % 256) hp hl_p (by omega)) (x_con_p hp hl_p) rfl gX3_behind_X0_startOf 1 rfl rfl rfl (by decide +kernel) ⟨Nat.le_of_ble_eq_true rfl, Nat.le_of_ble_eq_true rfl⟩ rfl rfl (Nat.le_of_ble_eq_true rfl) dX3_behind_30 ⟨Nat.le_of_ble_eq_true rfl, Nat.le_of_ble_eq_true rfl⟩) ?_
      rw [pg_st_N]
      show W _ _ _ _ _ _ _ _ _ _ _ _ _ _ _ (F0 m 33 ls [.int (nI (st_N (P (k / 256)) (k % 256))), .ref (ad (16 + k / 256))])
      refine lv_iload_n hx hb dX3_behind_33 rfl (lv_at hl 3 rfl) ?_
      refine x_callw hS (x_rS C0 hl.1 hK hS (c_X3_writeBehind l G ad R N tl T pl P X (k / 256) o hp hl_p (st_N (P (k / 256)) (k % 256)) (by have := st_N_lt (P (k / 256)) (k % 256); omega)) gX3_behind_X3_writeBehind 3 rfl rfl rfl (by decide +kernel) ⟨Nat.le_of_ble_eq_true rfl, Nat.le_of_ble_eq_true rfl⟩ rfl rfl (Nat.le_of_ble_eq_true rfl) dX3_behind_34 ⟨Nat.le_of_ble_eq_true rfl, Nat.le_of_ble_eq_true rfl⟩) (fun H locs hS => ?_)
      obtain ⟨Z1, eZ1⟩ : ∃ zz, zz = pg_wr (P (k / 256)) (st_N (P (k / 256)) (k % 256) + 12) 2 (o + 1).toInt64 2 := ⟨_, rfl⟩
      rw [← eZ1] at hS
      show W _ _ _ _ _ _ _ _ _ _ _ _ _ _ _ (F0 m 37 ls [])
      refine lv_iconst (v := 1) hx hb dX3_behind_37 (by decide) ?_
      have he : d_bh pl P (nI k) o = true := by simp only [d_bh]; rw [hw, decide_eq_true c12]; simp
      exact x_wretz C0 hS (by unfold d_bhP; rw [if_pos he, nI_clamp (by omega)]; subst_vars; rfl) (by rw [he]; rfl) rfl dX3_behind_38
    · refine lv_iload_n hx hb dX3_behind_15 rfl (lv_at hl 3 rfl) ?_
      refine x_callr (x_rS C0 hl.1 hK hS (c_X3_isPlace l G ad R N tl T pl P X o) gX3_behind_X3_isPlace 1 rfl rfl rfl (by decide +kernel) ⟨Nat.le_of_ble_eq_true rfl, Nat.le_of_ble_eq_true rfl⟩ rfl rfl (Nat.le_of_ble_eq_true rfl) dX3_behind_16 ⟨Nat.le_of_ble_eq_true rfl, Nat.le_of_ble_eq_true rfl⟩) ?_
      show W _ _ _ _ _ _ _ _ _ _ _ _ _ _ _ (F0 m 19 ls [.int (zb (d_in o (nI 15360)))])
      refine lv_if_ne (tgt := 24) hx hb dX3_behind_19 (by decide) (fun c19 => ?_) (fun c19 => ?_)
      · refine lv_aload_n hx hb dX3_behind_24 rfl (lv_at hl 0 rfl) ?_
        refine lv_aload_n hx hb dX3_behind_25 rfl (lv_at hl 0 rfl) ?_
        refine lv_iload_n hx hb dX3_behind_26 rfl (lv_at hl 2 rfl) ?_
        refine x_callr (x_rS C0 hl.1 hK hS (c_X3_slotOf l G ad R N tl T pl P X k (by omega)) gX3_behind_X3_slotOf 1 rfl rfl rfl (by decide +kernel) ⟨Nat.le_of_ble_eq_true rfl, Nat.le_of_ble_eq_true rfl⟩ rfl rfl (Nat.le_of_ble_eq_true rfl) dX3_behind_27 ⟨Nat.le_of_ble_eq_true rfl, Nat.le_of_ble_eq_true rfl⟩) ?_
        show W _ _ _ _ _ _ _ _ _ _ _ _ _ _ _ (F0 m 30 ls [.int (nI (k % 256)), .ref (ad (16 + k / 256)), .ref (ad (16 + k / 256))])
        refine x_callr (x_rV C0 hl.1 hK hS (c_X0_startOf l G ad R N tl T pl P X (k / 256) (k % 256) hp hl_p (by omega)) (x_con_p hp hl_p) rfl gX3_behind_X0_startOf 1 rfl rfl rfl (by decide +kernel) ⟨Nat.le_of_ble_eq_true rfl, Nat.le_of_ble_eq_true rfl⟩ rfl rfl (Nat.le_of_ble_eq_true rfl) dX3_behind_30 ⟨Nat.le_of_ble_eq_true rfl, Nat.le_of_ble_eq_true rfl⟩) ?_
        rw [pg_st_N]
        show W _ _ _ _ _ _ _ _ _ _ _ _ _ _ _ (F0 m 33 ls [.int (nI (st_N (P (k / 256)) (k % 256))), .ref (ad (16 + k / 256))])
        refine lv_iload_n hx hb dX3_behind_33 rfl (lv_at hl 3 rfl) ?_
        refine x_callw hS (x_rS C0 hl.1 hK hS (c_X3_writeBehind l G ad R N tl T pl P X (k / 256) o hp hl_p (st_N (P (k / 256)) (k % 256)) (by have := st_N_lt (P (k / 256)) (k % 256); omega)) gX3_behind_X3_writeBehind 3 rfl rfl rfl (by decide +kernel) ⟨Nat.le_of_ble_eq_true rfl, Nat.le_of_ble_eq_true rfl⟩ rfl rfl (Nat.le_of_ble_eq_true rfl) dX3_behind_34 ⟨Nat.le_of_ble_eq_true rfl, Nat.le_of_ble_eq_true rfl⟩) (fun H locs hS => ?_)
        obtain ⟨Z2, eZ2⟩ : ∃ zz, zz = pg_wr (P (k / 256)) (st_N (P (k / 256)) (k % 256) + 12) 2 (o + 1).toInt64 2 := ⟨_, rfl⟩
        rw [← eZ2] at hS
        show W _ _ _ _ _ _ _ _ _ _ _ _ _ _ _ (F0 m 37 ls [])
        refine lv_iconst (v := 1) hx hb dX3_behind_37 (by decide) ?_
        have he : d_bh pl P (nI k) o = true := by simp only [d_bh]; rw [hw, zb_ne c19]; simp
        exact x_wretz C0 hS (by unfold d_bhP; rw [if_pos he, nI_clamp (by omega)]; subst_vars; rfl) (by rw [he]; rfl) rfl dX3_behind_38
      · refine lv_iconst (v := 0) hx hb dX3_behind_22 (by decide) ?_
        have he : d_bh pl P (nI k) o = false := by simp only [d_bh]; rw [zb_eq c19, decide_eq_false c12]; simp
        exact x_wretz C0 hS (by unfold d_bhP; rw [he]; rfl) (by rw [he]; rfl) rfl dX3_behind_23
