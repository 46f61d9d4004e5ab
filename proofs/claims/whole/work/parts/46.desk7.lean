-- ===== what holds of pages and tables =====
def z2 (Z : Nat → Int32) : Nat := (Z 2).toNatClampNeg
def z4 (Z : Nat → Int32) : Nat := (Z 4).toNatClampNeg
def g_ok (Z : Nat → Int32) : Prop := Z 2 = nI (z2 Z) ∧ z2 Z ≤ 124 ∧ Z 4 = nI (z4 Z) ∧ z4 Z ≤ 496 ∧ ∀ i, i < 496 → fits .byte (.int (Z (5 + i))) = true
def P_ok (pl : Nat → Bool) (P : Nat → Nat → Int32) : Prop := ∀ p, p < 60 → pl p = true → g_ok (P p)
def tm (T : Nat → Nat → Int32) (t : Nat) : Nat := (T t 1).toNatClampNeg
def T_ok (tl : Nat → Bool) (T : Nat → Nat → Int32) : Prop := ∀ t, t < 8 → tl t = true → T t 1 = nI (tm T t) ∧ tm T t ≤ 8
theorem h_cl_ok {R : Nat → Nat → Int32} (h : h_ok R) : h_ok (h_cl R) := by
  intro i hi
  unfold h_cl h_fl
  rw [va_up_ne _ _ (by decide)]
  exact h i hi
-- ===== get =====
def d_gt (tl pl : Nat → Bool) (P : Nat → Nat → Int32) (q : Int32) : Bool := d_wv pl P q && d_tb tl (P (q.toNatClampNeg / 256) 0)
def d_gtT (P : Nat → Nat → Int32) (q : Int32) : Nat := (P (q.toNatClampNeg / 256) 0).toNatClampNeg
def d_gtR (tl pl : Nat → Bool) (T P : Nat → Nat → Int32) (q : Int32) (R : Nat → Nat → Int32) : Nat → Nat → Int32 := if d_gt tl pl P q then u_R (P (q.toNatClampNeg / 256)) (T (d_gtT P q) 2) (tm T (d_gtT P q)) (st_N (P (q.toNatClampNeg / 256)) (q.toNatClampNeg % 256)) (h_cl R) else R
def d_gtN (tl pl : Nat → Bool) (T P : Nat → Nat → Int32) (q : Int32) (N : Nat → Int64) : Nat → Int64 := if d_gt tl pl P q then u_N (P (q.toNatClampNeg / 256)) (T (d_gtT P q) 2) (tm T (d_gtT P q)) (st_N (P (q.toNatClampNeg / 256)) (q.toNatClampNeg % 256)) N else N
theorem kX3_get_wX0 : ∀ w ∈ u_ws RX0 TX0 6, w ∈ wsX3_get := by decide +kernel
theorem kX3_get_wX3 : ∀ w ∈ u_ws RX3 TX3 3, w ∈ wsX3_get := by decide +kernel
theorem kX3_get_f12 : Cond.fieldLink RX3 12 "VersionDesk" "hand" "LVersionDesk$Row;" ∈ wsX3_get := by decide +kernel
theorem kX3_get_f47 : Cond.fieldLink RX3 47 "VersionDesk$Page" "table" "I" ∈ wsX3_get := by decide +kernel
set_option maxHeartbeats 4000000 in
set_option maxRecDepth 100000 in
/-- get -/
theorem c_X3_get (l : Launch) (G : x_G) (ad : Nat → Nat) (R : Nat → Nat → Int32) (N : Nat → Int64) (tl : Nat → Bool) (T : Nat → Nat → Int32) (pl : Nat → Bool) (P : Nat → Nat → Int32) (X : Nat → Option va_E) (q0 : Int32) (hR : h_ok R) (hT : T_ok tl T) : Met l yX3_get wsX3_get ({ frames := 6, cells := 0, slots := 0, locals := 138 } : Room) (x_Pc G ad (x_con G ad R N tl T pl P X) [.ref (ad 0), .int q0]) (x_Qw G ad (x_con G ad (d_gtR tl pl T P q0 R) (d_gtN tl pl T P q0 N) tl T pl P X) (some (.int (zb (d_gt tl pl P q0))))) 0 0 (x_A G) := by
  refine x_met (cc := cX3_get) (maxL := 4) (ret := (some .boolean)) (by decide) rfl _ (Nat.le_of_ble_eq_true rfl) ?_
  intro p e s m args below meth c C0 hini hK hS ls hl
  have hl : lv_has ls 4 [(0, .ref (ad 0)), (1, .int q0)] := hl
  obtain ⟨hx, hb, hr, hml, hown, hts, hlk⟩ := id C0
  refine lv_aload_n hx hb dX3_get_0 rfl (lv_at hl 0 rfl) ?_
  refine lv_iload_n hx hb dX3_get_1 rfl (lv_at hl 1 rfl) ?_
  cases hw : d_wv pl P q0 with
  | false =>
    refine x_callr (x_rV C0 hl.1 hK hS (c_X3_pageWithVersion l G ad R N tl T pl P X q0) (x_con_0 (k := 0) (by omega)) rfl gX3_get_X3_pageWithVersion 1 rfl rfl rfl (by decide +kernel) ⟨Nat.le_of_ble_eq_true rfl, Nat.le_of_ble_eq_true rfl⟩ rfl rfl (Nat.le_of_ble_eq_true rfl) dX3_get_2 ⟨Nat.le_of_ble_eq_true rfl, Nat.le_of_ble_eq_true rfl⟩) ?_
    rw [d_wp_n hw]
    show W _ _ _ _ _ _ _ _ _ _ _ _ _ _ _ (F0 m 5 ls [.null])
    refine lv_astore_nN (lv' := [(2, .null), (0, .ref (ad 0)), (1, .int q0)]) hx hb dX3_get_5 rfl hl (by decide) rfl (fun ls hl => ?_)
    refine lv_aload_nN hx hb dX3_get_6 rfl (lv_at hl 0 rfl) ?_
    refine lv_ifnonnullN hx hb dX3_get_7 ?_
    refine lv_iconst (v := 0) hx hb dX3_get_10 (by decide) ?_
    have hg : d_gt tl pl P q0 = false := by unfold d_gt; rw [hw]; rfl
    exact x_wretz C0 hS (by unfold d_gtR d_gtN; rw [hg]; rfl) (by rw [hg]; rfl) rfl dX3_get_11
  | true =>
    obtain ⟨k, hk, rfl, hp, hl_p, hp0, hhd⟩ := d_wv_in hw
    refine x_callr (x_rV C0 hl.1 hK hS (c_X3_pageWithVersion l G ad R N tl T pl P X (nI k)) (x_con_0 (k := 0) (by omega)) rfl gX3_get_X3_pageWithVersion 1 rfl rfl rfl (by decide +kernel) ⟨Nat.le_of_ble_eq_true rfl, Nat.le_of_ble_eq_true rfl⟩ rfl rfl (Nat.le_of_ble_eq_true rfl) dX3_get_2 ⟨Nat.le_of_ble_eq_true rfl, Nat.le_of_ble_eq_true rfl⟩) ?_
    rw [d_wp_s hk hw]
    show W _ _ _ _ _ _ _ _ _ _ _ _ _ _ _ (F0 m 5 ls [.ref (ad (16 + k / 256))])
    refine lv_astore_n (lv' := [(2, .ref (ad (16 + k / 256))), (0, .ref (ad 0)), (1, .int (nI k))]) hx hb dX3_get_5 rfl hl (by decide) rfl (fun ls hl => ?_)
    refine lv_aload_n hx hb dX3_get_6 rfl (lv_at hl 0 rfl) ?_
    refine lv_ifnonnull (tgt := 12) hx hb dX3_get_7 (by decide) ?_
    refine lv_aload_n hx hb dX3_get_12 rfl (lv_at hl 1 rfl) ?_
    refine lv_aload_n hx hb dX3_get_13 rfl (lv_at hl 0 rfl) ?_
    refine x_pget (j := 0) C0 hK hS hp hl_p (by decide) kX3_get_wX0 kX3_get_f47 dX3_get_14 ?_
    cases ht : d_tb tl (P (k / 256) 0) with
    | false =>
      refine x_callr (x_rV C0 hl.1 hK hS (c_X3_tableAt l G ad R N tl T pl P X (P (k / 256) 0)) (x_con_0 (k := 0) (by omega)) rfl gX3_get_X3_tableAt 1 rfl rfl rfl (by decide +kernel) ⟨Nat.le_of_ble_eq_true rfl, Nat.le_of_ble_eq_true rfl⟩ rfl rfl (Nat.le_of_ble_eq_true rfl) dX3_get_17 ⟨Nat.le_of_ble_eq_true rfl, Nat.le_of_ble_eq_true rfl⟩) ?_
      rw [d_tv_n ht]
      show W _ _ _ _ _ _ _ _ _ _ _ _ _ _ _ (F0 m 20 ls [.null])
      refine lv_astore_nN (lv' := [(3, .null), (2, .ref (ad (16 + k / 256))), (0, .ref (ad 0)), (1, .int (nI k))]) hx hb dX3_get_20 rfl hl (by decide) rfl (fun ls hl => ?_)
      refine lv_aload_nN hx hb dX3_get_21 rfl (lv_at hl 0 rfl) ?_
      refine lv_ifnonnullN hx hb dX3_get_22 ?_
      refine lv_iconst (v := 0) hx hb dX3_get_25 (by decide) ?_
      have hg : d_gt tl pl P (nI k) = false := by unfold d_gt; rw [nI_clamp (by omega), ht, Bool.and_false]
      exact x_wretz C0 hS (by unfold d_gtR d_gtN; rw [hg]; rfl) (by rw [hg]; rfl) rfl dX3_get_26
    | true =>
      obtain ⟨t, hi, htk, hl_t⟩ := d_tb_in ht
      obtain ⟨hcol, hm⟩ := hT t hi hl_t
      have hgt : d_gt tl pl P (nI k) = true := by unfold d_gt; rw [hw, nI_clamp (by omega), ht]; rfl
      have hgT : d_gtT P (nI k) = t := by unfold d_gtT; rw [nI_clamp (by omega), htk, nI_clamp (by omega)]
      rw [htk]
      refine x_callr (x_rV C0 hl.1 hK hS (c_X3_tableAt l G ad R N tl T pl P X (nI t)) (x_con_0 (k := 0) (by omega)) rfl gX3_get_X3_tableAt 1 rfl rfl rfl (by decide +kernel) ⟨Nat.le_of_ble_eq_true rfl, Nat.le_of_ble_eq_true rfl⟩ rfl rfl (Nat.le_of_ble_eq_true rfl) dX3_get_17 ⟨Nat.le_of_ble_eq_true rfl, Nat.le_of_ble_eq_true rfl⟩) ?_
      rw [d_tv_s hi hl_t]
      show W _ _ _ _ _ _ _ _ _ _ _ _ _ _ _ (F0 m 20 ls [.ref (ad (8 + t))])
      refine lv_astore_n (lv' := [(3, .ref (ad (8 + t))), (2, .ref (ad (16 + k / 256))), (0, .ref (ad 0)), (1, .int (nI k))]) hx hb dX3_get_20 rfl hl (by decide) rfl (fun ls hl => ?_)
      refine lv_aload_n hx hb dX3_get_21 rfl (lv_at hl 0 rfl) ?_
      refine lv_ifnonnull (tgt := 27) hx hb dX3_get_22 (by decide) ?_
      refine lv_aload_n hx hb dX3_get_27 rfl (lv_at hl 2 rfl) ?_
      refine x_dget (j := 0) C0 hK hS (by decide) kX3_get_wX3 kX3_get_f12 dX3_get_28 ?_
      refine x_callw hS (x_rV C0 hl.1 hK hS (c_X1_makeAllNull l G ad R N tl T pl P X) (x_con_0 (k := 1) (by omega)) rfl gX3_get_X1_makeAllNull 0 rfl rfl rfl (by decide +kernel) ⟨Nat.le_of_ble_eq_true rfl, Nat.le_of_ble_eq_true rfl⟩ rfl rfl (Nat.le_of_ble_eq_true rfl) dX3_get_31 ⟨Nat.le_of_ble_eq_true rfl, Nat.le_of_ble_eq_true rfl⟩) (fun H locs hS => ?_)
      show W _ _ _ _ _ _ _ _ _ _ _ _ _ _ _ (F0 m 34 ls [])
      refine lv_aload_n hx hb dX3_get_34 rfl (lv_at hl 2 rfl) ?_
      refine lv_aload_n hx hb dX3_get_35 rfl (lv_at hl 0 rfl) ?_
      refine lv_aload_n hx hb dX3_get_36 rfl (lv_at hl 1 rfl) ?_
      refine lv_aload_n hx hb dX3_get_37 rfl (lv_at hl 1 rfl) ?_
      refine lv_iload_n hx hb dX3_get_38 rfl (lv_at hl 3 rfl) ?_
      refine x_callr (x_rS C0 hl.1 hK hS (c_X3_slotOf l G ad (h_cl R) N tl T pl P X k (by omega)) gX3_get_X3_slotOf 1 rfl rfl rfl (by decide +kernel) ⟨Nat.le_of_ble_eq_true rfl, Nat.le_of_ble_eq_true rfl⟩ rfl rfl (Nat.le_of_ble_eq_true rfl) dX3_get_39 ⟨Nat.le_of_ble_eq_true rfl, Nat.le_of_ble_eq_true rfl⟩) ?_
      show W _ _ _ _ _ _ _ _ _ _ _ _ _ _ _ (F0 m 42 ls [.int (nI (k % 256)), .ref (ad (16 + k / 256)), .ref (ad (16 + k / 256)), .ref (ad (8 + t)), .ref (ad 0)])
      refine x_callr (x_rV C0 hl.1 hK hS (c_X0_startOf l G ad (h_cl R) N tl T pl P X (k / 256) (k % 256) hp hl_p (by omega)) (x_con_p hp hl_p) rfl gX3_get_X0_startOf 1 rfl rfl rfl (by decide +kernel) ⟨Nat.le_of_ble_eq_true rfl, Nat.le_of_ble_eq_true rfl⟩ rfl rfl (Nat.le_of_ble_eq_true rfl) dX3_get_42 ⟨Nat.le_of_ble_eq_true rfl, Nat.le_of_ble_eq_true rfl⟩) ?_
      rw [pg_st_N]
      show W _ _ _ _ _ _ _ _ _ _ _ _ _ _ _ (F0 m 45 ls [.int (nI (st_N (P (k / 256)) (k % 256))), .ref (ad (16 + k / 256)), .ref (ad (8 + t)), .ref (ad 0)])
      refine x_callw hS (x_rV C0 hl.1 hK hS (c_X3_unpackToHand l G ad (h_cl R) N tl T pl P X t (tm T t) (k / 256) (st_N (P (k / 256)) (k % 256)) hi hl_t hm hcol hp hl_p (h_cl_ok hR) (by have := st_N_lt (P (k / 256)) (k % 256); omega)) (x_con_0 (k := 0) (by omega)) rfl gX3_get_X3_unpackToHand 3 rfl rfl rfl (by decide +kernel) ⟨Nat.le_of_ble_eq_true rfl, Nat.le_of_ble_eq_true rfl⟩ rfl rfl (Nat.le_of_ble_eq_true rfl) dX3_get_45 ⟨Nat.le_of_ble_eq_true rfl, Nat.le_of_ble_eq_true rfl⟩) (fun H locs hS => ?_)
      show W _ _ _ _ _ _ _ _ _ _ _ _ _ _ _ (F0 m 48 ls [])
      refine lv_iconst (v := 1) hx hb dX3_get_48 (by decide) ?_
      exact x_wretz C0 hS (by unfold d_gtR d_gtN; rw [if_pos hgt, if_pos hgt, hgT, nI_clamp (by omega)]) (by rw [hgt]; rfl) rfl dX3_get_49
def d_adP (pl : Nat → Bool) (P : Nat → Nat → Int32) (p : Int32) (k : Nat) (z : Int32) : Nat → Nat → Int32 := if d_up pl P p then va_up P p.toNatClampNeg (pg_ad (P p.toNatClampNeg) k z) else P
def d_adr (pl : Nat → Bool) (P : Nat → Nat → Int32) (p : Int32) (k : Nat) : Int32 := if d_up pl P p then nI (256 * p.toNatClampNeg + k) else -1
set_option maxHeartbeats 4000000 in
set_option maxRecDepth 100000 in
/-- addAt -/
theorem c_X3_addAt (l : Launch) (G : x_G) (ad : Nat → Nat) (R : Nat → Nat → Int32) (N : Nat → Int64) (tl : Nat → Bool) (T : Nat → Nat → Int32) (pl : Nat → Bool) (P : Nat → Nat → Int32) (X : Nat → Option va_E) (p0 : Int32) (k : Nat) (z : Int32) (hk : k < 2 ^ 20) : Met l yX3_addAt wsX3_addAt ({ frames := 3, cells := 0, slots := 0, locals := 71 } : Room) (x_Pc G ad (x_con G ad R N tl T pl P X) [.ref (ad 0), .int p0, .int (nI k), .int z]) (x_Qw G ad (x_con G ad R N tl T pl (d_adP pl P p0 k z) X) (some (.int (d_adr pl P p0 k)))) 0 0 (x_A G) := by
  refine x_met (cc := cX3_addAt) (maxL := 5) (ret := (some .int)) (by decide) rfl _ (Nat.le_of_ble_eq_true rfl) ?_
  intro p e s m args below meth c C0 hini hK hS ls hl
  have hl : lv_has ls 5 [(0, .ref (ad 0)), (1, .int p0), (2, .int (nI k)), (3, .int z)] := hl
  obtain ⟨hx, hb, hr, hml, hown, hts, hlk⟩ := id C0
  refine lv_aload_n hx hb dX3_addAt_0 rfl (lv_at hl 0 rfl) ?_
  refine lv_iload_n hx hb dX3_addAt_1 rfl (lv_at hl 1 rfl) ?_
  cases hu : d_up pl P p0 with
  | false =>
    refine x_callr (x_rV C0 hl.1 hK hS (c_X3_usedPage l G ad R N tl T pl P X p0) (x_con_0 (k := 0) (by omega)) rfl gX3_addAt_X3_usedPage 1 rfl rfl rfl (by decide +kernel) ⟨Nat.le_of_ble_eq_true rfl, Nat.le_of_ble_eq_true rfl⟩ rfl rfl (Nat.le_of_ble_eq_true rfl) dX3_addAt_2 ⟨Nat.le_of_ble_eq_true rfl, Nat.le_of_ble_eq_true rfl⟩) ?_
    rw [d_pv_n hu]
    show W _ _ _ _ _ _ _ _ _ _ _ _ _ _ _ (F0 m 5 ls [.null])
    refine lv_astoreN (lv' := [(4, .null), (0, .ref (ad 0)), (1, .int p0), (2, .int (nI k)), (3, .int z)]) hx hb dX3_addAt_5 hl (by decide) rfl (fun ls hl => ?_)
    refine lv_aloadN hx hb dX3_addAt_7 (lv_at hl 0 rfl) ?_
    refine lv_ifnonnullN hx hb dX3_addAt_9 ?_
    refine lv_iconst (v := (-1)) hx hb dX3_addAt_12 (by decide) ?_
    exact x_wreti C0 hS (by unfold d_adP; rw [hu]; rfl) (by unfold d_adr; rw [hu]; rfl) dX3_addAt_13
  | true =>
    obtain ⟨i, hp, rfl, hl_p, hp0⟩ := d_up_in hu
    refine x_callr (x_rV C0 hl.1 hK hS (c_X3_usedPage l G ad R N tl T pl P X (nI i)) (x_con_0 (k := 0) (by omega)) rfl gX3_addAt_X3_usedPage 1 rfl rfl rfl (by decide +kernel) ⟨Nat.le_of_ble_eq_true rfl, Nat.le_of_ble_eq_true rfl⟩ rfl rfl (Nat.le_of_ble_eq_true rfl) dX3_addAt_2 ⟨Nat.le_of_ble_eq_true rfl, Nat.le_of_ble_eq_true rfl⟩) ?_
    rw [d_pv_s hp hl_p hp0]
    show W _ _ _ _ _ _ _ _ _ _ _ _ _ _ _ (F0 m 5 ls [.ref (ad (16 + i))])
    refine lv_astore (lv' := [(4, .ref (ad (16 + i))), (0, .ref (ad 0)), (1, .int (nI i)), (2, .int (nI k)), (3, .int z)]) hx hb dX3_addAt_5 hl (by decide) rfl (fun ls hl => ?_)
    refine lv_aload hx hb dX3_addAt_7 (lv_at hl 0 rfl) ?_
    refine lv_ifnonnull (tgt := 14) hx hb dX3_addAt_9 (by decide) ?_
    refine lv_aload hx hb dX3_addAt_14 (lv_at hl 0 rfl) ?_
    refine lv_iload_n hx hb dX3_addAt_16 rfl (lv_at hl 3 rfl) ?_
    refine lv_iload_n hx hb dX3_addAt_17 rfl (lv_at hl 4 rfl) ?_
    refine x_callw hS (x_rV C0 hl.1 hK hS (c_X0_add l G ad R N tl T pl P X i k z hp hl_p hk) (x_con_p hp hl_p) rfl gX3_addAt_X0_add 2 rfl rfl rfl (by decide +kernel) ⟨Nat.le_of_ble_eq_true rfl, Nat.le_of_ble_eq_true rfl⟩ rfl rfl (Nat.le_of_ble_eq_true rfl) dX3_addAt_18 ⟨Nat.le_of_ble_eq_true rfl, Nat.le_of_ble_eq_true rfl⟩) (fun H locs hS => ?_)
    obtain ⟨Z1, eZ1⟩ : ∃ zz, zz = pg_ad (P i) k z := ⟨_, rfl⟩
    rw [← eZ1] at hS
    show W _ _ _ _ _ _ _ _ _ _ _ _ _ _ _ (F0 m 21 ls [])
    refine lv_sipush (v := 256) hx hb dX3_addAt_21 (by decide) ?_
    refine lv_iload_n hx hb dX3_addAt_24 rfl (lv_at hl 2 rfl) ?_
    refine lv_imul hx hb dX3_addAt_25 ?_
    refine lv_iload_n hx hb dX3_addAt_26 rfl (lv_at hl 3 rfl) ?_
    refine lv_iadd hx hb dX3_addAt_27 ?_
    exact x_wreti C0 hS (by unfold d_adP; rw [if_pos hu, nI_clamp (by omega), eZ1]) (by unfold d_adr; rw [if_pos hu, nI_clamp (by omega), show (256 : Int32) * nI i = nI (256 * i) from pk_mul 256 i]; exact nI_add _ _) dX3_addAt_28
def d_fv (pl : Nat → Bool) (P : Nat → Nat → Int32) : Nat → Int32 → Nat → Int32
  | 0, _, _ => -1
  | d + 1, a, k => if d_up pl P a then (if pg_fh (P a.toNatClampNeg) (z2 (P a.toNatClampNeg) - k) k = -1 then d_fv pl P d (P a.toNatClampNeg 1) 0 else 256 * a + pg_fh (P a.toNatClampNeg) (z2 (P a.toNatClampNeg) - k) k) else -1
def d_nx (tl pl : Nat → Bool) (T P : Nat → Nat → Int32) (t q : Int32) : Int32 := if d_tb tl t then (if q = -1 then d_fv pl P 60 (T t.toNatClampNeg 0) 0 else if d_in q (nI 15360) then (if d_up pl P (nI (q.toNatClampNeg / 256)) = true ∧ P (q.toNatClampNeg / 256) 0 = t then d_fv pl P 60 (nI (q.toNatClampNeg / 256)) (q.toNatClampNeg % 256 + 1) else -1) else -1) else -1
theorem kX3_firstVersionFrom_wX0 : ∀ w ∈ u_ws RX0 TX0 6, w ∈ wsX3_firstVersionFrom := by decide +kernel
theorem kX3_firstVersionFrom_f172 : Cond.fieldLink RX3 172 "VersionDesk$Page" "following" "I" ∈ wsX3_firstVersionFrom := by decide +kernel
set_option maxHeartbeats 4000000 in
set_option maxRecDepth 100000 in
theorem l_X3_firstVersionFrom {p : Program} {l : Launch} {e : Env} {s : State} {m : MethodId} {args : Array Value} {below : List Frame} {meth : Method} {c : Code} {G : x_G} {ad : Nat → Nat} {R : Nat → Nat → Int32} {N : Nat → Int64} {tl : Nat → Bool} {T : Nat → Nat → Int32} {pl : Nat → Bool} {P : Nat → Nat → Int32} {X : Nat → Option va_E} (C0 : x_B p s m meth c args cX3_firstVersionFrom 8 (some .int) RX3 wsX3_firstVersionFrom) (hK : x_K G s) {p0 r : Int32} {k0 : Int32} (hP : P_ok pl P) (hS : x_H G ad (x_con G ad R N tl T pl P X) s.heap []) : ∀ (d : Nat) (j : Nat) (a : Int32) (k : Nat), 60 - j < d → j ≤ 60 → k < 2 ^ 19 → r = d_fv pl P (60 - j) a k → ∀ (ls : Array Slot), lv_has ls 8 [(0, .ref (ad 0)), (1, .int p0), (2, .int k0), (3, .int a), (4, .int (nI k)), (5, .int (nI j))] → W p l e ({ frames := 4, cells := 0, slots := 0, locals := 90 } : Room) s m args below meth c s.heap [] 0 0 (MQ below (x_Qr (some (.int r))) args s 0 0 (fun _ => False)) (F0 m 8 ls []) := by
  obtain ⟨hx, hb, hr, hml, hown, hts, hlk⟩ := id C0
  intro d
  induction d with
  | zero =>
    intro j a k hd hj hk hF ls hl
    exact absurd hd (by omega)
  | succ d ih =>
    intro j a k hd hj hk hF ls hl
    refine lv_iload hx hb dX3_firstVersionFrom_8 (lv_at hl 5 rfl) ?_
    refine lv_bipush (v := 60) hx hb dX3_firstVersionFrom_10 (by decide) ?_
    refine lv_icmp_ge (tgt := 68) hx hb dX3_firstVersionFrom_12 (by decide) (fun c12 => ?_) (fun c12 => ?_)
    · have hj2 := nz_le (a := 60) c12 rfl rfl (by omega) (by omega)
      refine lv_iconst (v := (-1)) hx hb dX3_firstVersionFrom_68 (by decide) ?_
      exact x_reti C0 (by rw [hF, show 60 - j = 0 by omega]; rfl) dX3_firstVersionFrom_69
    · have hj2 := nz_nle (a := 60) c12 rfl rfl (by omega) (by omega)
      refine lv_aload_n hx hb dX3_firstVersionFrom_15 rfl (lv_at hl 0 rfl) ?_
      refine lv_iload_n hx hb dX3_firstVersionFrom_16 rfl (lv_at hl 3 rfl) ?_
      cases hu : d_up pl P a with
      | false =>
        refine x_callr (x_rV C0 hl.1 hK hS (c_X3_usedPage l G ad R N tl T pl P X a) (x_con_0 (k := 0) (by omega)) rfl gX3_firstVersionFrom_X3_usedPage 1 rfl rfl rfl (by decide +kernel) ⟨Nat.le_of_ble_eq_true rfl, Nat.le_of_ble_eq_true rfl⟩ rfl rfl (Nat.le_of_ble_eq_true rfl) dX3_firstVersionFrom_17 ⟨Nat.le_of_ble_eq_true rfl, Nat.le_of_ble_eq_true rfl⟩) ?_
        rw [d_pv_n hu]
        show W _ _ _ _ _ _ _ _ _ _ _ _ _ _ _ (F0 m 20 ls [.null])
        refine lv_astoreN (lv' := [(6, .null), (0, .ref (ad 0)), (1, .int p0), (2, .int k0), (3, .int a), (4, .int (nI k)), (5, .int (nI j))]) hx hb dX3_firstVersionFrom_20 hl (by decide) rfl (fun ls hl => ?_)
        refine lv_aloadN hx hb dX3_firstVersionFrom_22 (lv_at hl 0 rfl) ?_
        refine lv_ifnonnullN hx hb dX3_firstVersionFrom_24 ?_
        refine lv_iconst (v := (-1)) hx hb dX3_firstVersionFrom_27 (by decide) ?_
        exact x_reti C0 (by rw [hF, show 60 - j = (60 - (j + 1)) + 1 by omega]; simp only [d_fv]; rw [hu]; rfl) dX3_firstVersionFrom_28
      | true =>
        obtain ⟨i, hp, rfl, hl_p, hp0⟩ := d_up_in hu
        obtain ⟨hs, hs2, -⟩ := hP i hp hl_p
        have hci : (nI i).toNatClampNeg = i := nI_clamp (by omega)
        refine x_callr (x_rV C0 hl.1 hK hS (c_X3_usedPage l G ad R N tl T pl P X (nI i)) (x_con_0 (k := 0) (by omega)) rfl gX3_firstVersionFrom_X3_usedPage 1 rfl rfl rfl (by decide +kernel) ⟨Nat.le_of_ble_eq_true rfl, Nat.le_of_ble_eq_true rfl⟩ rfl rfl (Nat.le_of_ble_eq_true rfl) dX3_firstVersionFrom_17 ⟨Nat.le_of_ble_eq_true rfl, Nat.le_of_ble_eq_true rfl⟩) ?_
        rw [d_pv_s hp hl_p hp0]
        show W _ _ _ _ _ _ _ _ _ _ _ _ _ _ _ (F0 m 20 ls [.ref (ad (16 + i))])
        refine lv_astore (lv' := [(6, .ref (ad (16 + i))), (0, .ref (ad 0)), (1, .int p0), (2, .int k0), (3, .int (nI i)), (4, .int (nI k)), (5, .int (nI j))]) hx hb dX3_firstVersionFrom_20 hl (by decide) rfl (fun ls hl => ?_)
        refine lv_aload hx hb dX3_firstVersionFrom_22 (lv_at hl 0 rfl) ?_
        refine lv_ifnonnull (tgt := 29) hx hb dX3_firstVersionFrom_24 (by decide) ?_
        refine lv_aload hx hb dX3_firstVersionFrom_29 (lv_at hl 0 rfl) ?_
        refine lv_iload hx hb dX3_firstVersionFrom_31 (lv_at hl 5 rfl) ?_
        refine x_callr (x_rV C0 hl.1 hK hS (c_X0_firstHeldFrom l G ad R N tl T pl P X i k (z2 (P i)) hp hl_p hk (by omega) hs) (x_con_p hp hl_p) rfl gX3_firstVersionFrom_X0_firstHeldFrom 1 rfl rfl rfl (by decide +kernel) ⟨Nat.le_of_ble_eq_true rfl, Nat.le_of_ble_eq_true rfl⟩ rfl rfl (Nat.le_of_ble_eq_true rfl) dX3_firstVersionFrom_33 ⟨Nat.le_of_ble_eq_true rfl, Nat.le_of_ble_eq_true rfl⟩) ?_
        show W _ _ _ _ _ _ _ _ _ _ _ _ _ _ _ (F0 m 36 ls [.int (pg_fh (P i) (z2 (P i) - k) k)])
        refine lv_topi (fun x1 ex1 => ?_)
        refine lv_istore (lv' := [(7, .int x1), (6, .ref (ad (16 + i))), (0, .ref (ad 0)), (1, .int p0), (2, .int k0), (3, .int (nI i)), (4, .int (nI k)), (5, .int (nI j))]) hx hb dX3_firstVersionFrom_36 hl (by decide) rfl (fun ls hl => ?_)
        refine lv_iload hx hb dX3_firstVersionFrom_38 (lv_at hl 0 rfl) ?_
        refine lv_iconst (v := (-1)) hx hb dX3_firstVersionFrom_40 (by decide) ?_
        refine lv_icmp_eq (tgt := 53) hx hb dX3_firstVersionFrom_41 (by decide) (fun c41 => ?_) (fun c41 => ?_)
        · refine lv_aload hx hb dX3_firstVersionFrom_53 (lv_at hl 1 rfl) ?_
          refine x_pget (j := 1) C0 hK hS hp hl_p (by decide) kX3_firstVersionFrom_wX0 kX3_firstVersionFrom_f172 dX3_firstVersionFrom_55 ?_
          refine lv_topi (fun x2 ex2 => ?_)
          refine lv_istore_n (lv' := [(3, .int x2), (7, .int x1), (6, .ref (ad (16 + i))), (0, .ref (ad 0)), (1, .int p0), (2, .int k0), (4, .int (nI k)), (5, .int (nI j))]) hx hb dX3_firstVersionFrom_58 rfl hl (by decide) rfl (fun ls hl => ?_)
          refine lv_iconst (v := 0) hx hb dX3_firstVersionFrom_59 (by decide) ?_
          refine lv_istore (lv' := [(4, .int 0), (3, .int x2), (7, .int x1), (6, .ref (ad (16 + i))), (0, .ref (ad 0)), (1, .int p0), (2, .int k0), (5, .int (nI j))]) hx hb dX3_firstVersionFrom_60 hl (by decide) rfl (fun ls hl => ?_)
          refine lv_iinc (v := nI (j + 1)) (lv' := [(5, .int (nI (j + 1))), (4, .int 0), (3, .int x2), (7, .int x1), (6, .ref (ad (16 + i))), (0, .ref (ad 0)), (1, .int p0), (2, .int k0)]) hx hb dX3_firstVersionFrom_62 hl (k := 7) rfl (nI_1 j) (by decide) rfl (fun ls hl => ?_)
          refine lv_goto (tgt := 8) hx hb dX3_firstVersionFrom_65 (by decide) ?_
          exact ih (j + 1) _ 0 (by omega) (by omega) (by omega) (by rw [hF, show 60 - j = (60 - (j + 1)) + 1 by omega]; simp only [d_fv]; rw [if_pos hu, hci, if_pos (by rw [← ex1]; exact c41), ex2]) ls (lv_sub hl [5, 6, 7, 2, 1, 0] rfl)
        · refine lv_sipush (v := 256) hx hb dX3_firstVersionFrom_44 (by decide) ?_
          refine lv_iload_n hx hb dX3_firstVersionFrom_47 rfl (lv_at hl 5 rfl) ?_
          refine lv_imul hx hb dX3_firstVersionFrom_48 ?_
          refine lv_iload hx hb dX3_firstVersionFrom_49 (lv_at hl 0 rfl) ?_
          refine lv_iadd hx hb dX3_firstVersionFrom_51 ?_
          exact x_reti C0 (by rw [hF, show 60 - j = (60 - (j + 1)) + 1 by omega]; simp only [d_fv]; rw [if_pos hu, hci, if_neg (by rw [← ex1]; exact c41), ex1]) dX3_firstVersionFrom_52
set_option maxHeartbeats 4000000 in
set_option maxRecDepth 100000 in
/-- firstVersionFrom -/
theorem c_X3_firstVersionFrom (l : Launch) (G : x_G) (ad : Nat → Nat) (R : Nat → Nat → Int32) (N : Nat → Int64) (tl : Nat → Bool) (T : Nat → Nat → Int32) (pl : Nat → Bool) (P : Nat → Nat → Int32) (X : Nat → Option va_E) (p0 : Int32) (k : Nat) (hk : k < 2 ^ 19) (hP : P_ok pl P) : Met l yX3_firstVersionFrom wsX3_firstVersionFrom ({ frames := 4, cells := 0, slots := 0, locals := 90 } : Room) (x_Pc G ad (x_con G ad R N tl T pl P X) [.ref (ad 0), .int p0, .int (nI k)]) (x_Qr (some (.int (d_fv pl P 60 p0 k)))) 0 0 (fun _ => False) := by
  refine x_met (cc := cX3_firstVersionFrom) (maxL := 8) (ret := (some .int)) (by decide) rfl _ (Nat.le_of_ble_eq_true rfl) ?_
  intro p e s m args below meth c C0 hini hK hS ls hl
  have hl : lv_has ls 8 [(0, .ref (ad 0)), (1, .int p0), (2, .int (nI k))] := hl
  obtain ⟨hx, hb, hr, hml, hown, hts, hlk⟩ := id C0
  refine lv_iload_n hx hb dX3_firstVersionFrom_0 rfl (lv_at hl 1 rfl) ?_
  refine lv_istore_n (lv' := [(3, .int p0), (0, .ref (ad 0)), (1, .int p0), (2, .int (nI k))]) hx hb dX3_firstVersionFrom_1 rfl hl (by decide) rfl (fun ls hl => ?_)
  refine lv_iload_n hx hb dX3_firstVersionFrom_2 rfl (lv_at hl 3 rfl) ?_
  refine lv_istore (lv' := [(4, .int (nI k)), (3, .int p0), (0, .ref (ad 0)), (1, .int p0), (2, .int (nI k))]) hx hb dX3_firstVersionFrom_3 hl (by decide) rfl (fun ls hl => ?_)
  refine lv_iconst (v := 0) hx hb dX3_firstVersionFrom_5 (by decide) ?_
  refine lv_istore (lv' := [(5, .int 0), (4, .int (nI k)), (3, .int p0), (0, .ref (ad 0)), (1, .int p0), (2, .int (nI k))]) hx hb dX3_firstVersionFrom_6 hl (by decide) rfl (fun ls hl => ?_)
  exact l_X3_firstVersionFrom C0 hK hP hS 61 0 _ _ (by omega) (by omega) hk rfl ls (lv_sub hl [3, 4, 5, 2, 1, 0] rfl)
theorem kX3_next_wX0 : ∀ w ∈ u_ws RX0 TX0 6, w ∈ wsX3_next := by decide +kernel
theorem kX3_next_wX2 : ∀ w ∈ u_ws RX2 TX2 3, w ∈ wsX3_next := by decide +kernel
theorem kX3_next_f142 : Cond.fieldLink RX3 142 "VersionDesk$Table" "first" "I" ∈ wsX3_next := by decide +kernel
theorem kX3_next_f47 : Cond.fieldLink RX3 47 "VersionDesk$Page" "table" "I" ∈ wsX3_next := by decide +kernel
set_option maxHeartbeats 4000000 in
set_option maxRecDepth 100000 in
/-- next -/
theorem c_X3_next (l : Launch) (G : x_G) (ad : Nat → Nat) (R : Nat → Nat → Int32) (N : Nat → Int64) (tl : Nat → Bool) (T : Nat → Nat → Int32) (pl : Nat → Bool) (P : Nat → Nat → Int32) (X : Nat → Option va_E) (t0 q0 : Int32) (hP : P_ok pl P) : Met l yX3_next wsX3_next ({ frames := 5, cells := 0, slots := 0, locals := 117 } : Room) (x_Pc G ad (x_con G ad R N tl T pl P X) [.ref (ad 0), .int t0, .int q0]) (x_Qr (some (.int (d_nx tl pl T P t0 q0)))) 0 0 (fun _ => False) := by
  refine x_met (cc := cX3_next) (maxL := 5) (ret := (some .int)) (by decide) rfl _ (Nat.le_of_ble_eq_true rfl) ?_
  intro p e s m args below meth c C0 hini hK hS ls hl
  have hl : lv_has ls 5 [(0, .ref (ad 0)), (1, .int t0), (2, .int q0)] := hl
  obtain ⟨hx, hb, hr, hml, hown, hts, hlk⟩ := id C0
  refine lv_aload_n hx hb dX3_next_0 rfl (lv_at hl 0 rfl) ?_
  refine lv_iload_n hx hb dX3_next_1 rfl (lv_at hl 1 rfl) ?_
  cases ht : d_tb tl t0 with
  | false =>
    refine x_callr (x_rV C0 hl.1 hK hS (c_X3_tableAt l G ad R N tl T pl P X t0) (x_con_0 (k := 0) (by omega)) rfl gX3_next_X3_tableAt 1 rfl rfl rfl (by decide +kernel) ⟨Nat.le_of_ble_eq_true rfl, Nat.le_of_ble_eq_true rfl⟩ rfl rfl (Nat.le_of_ble_eq_true rfl) dX3_next_2 ⟨Nat.le_of_ble_eq_true rfl, Nat.le_of_ble_eq_true rfl⟩) ?_
    rw [d_tv_n ht]
    show W _ _ _ _ _ _ _ _ _ _ _ _ _ _ _ (F0 m 5 ls [.null])
    refine lv_astore_nN (lv' := [(3, .null), (0, .ref (ad 0)), (1, .int t0), (2, .int q0)]) hx hb dX3_next_5 rfl hl (by decide) rfl (fun ls hl => ?_)
    refine lv_aload_nN hx hb dX3_next_6 rfl (lv_at hl 0 rfl) ?_
    refine lv_ifnonnullN hx hb dX3_next_7 ?_
    refine lv_iconst (v := (-1)) hx hb dX3_next_10 (by decide) ?_
    exact x_reti C0 (by unfold d_nx; rw [ht]; rfl) dX3_next_11
  | true =>
    obtain ⟨t, hi, rfl, hl_t⟩ := d_tb_in ht
    refine x_callr (x_rV C0 hl.1 hK hS (c_X3_tableAt l G ad R N tl T pl P X (nI t)) (x_con_0 (k := 0) (by omega)) rfl gX3_next_X3_tableAt 1 rfl rfl rfl (by decide +kernel) ⟨Nat.le_of_ble_eq_true rfl, Nat.le_of_ble_eq_true rfl⟩ rfl rfl (Nat.le_of_ble_eq_true rfl) dX3_next_2 ⟨Nat.le_of_ble_eq_true rfl, Nat.le_of_ble_eq_true rfl⟩) ?_
    rw [d_tv_s hi hl_t]
    show W _ _ _ _ _ _ _ _ _ _ _ _ _ _ _ (F0 m 5 ls [.ref (ad (8 + t))])
    refine lv_astore_n (lv' := [(3, .ref (ad (8 + t))), (0, .ref (ad 0)), (1, .int (nI t)), (2, .int q0)]) hx hb dX3_next_5 rfl hl (by decide) rfl (fun ls hl => ?_)
    refine lv_aload_n hx hb dX3_next_6 rfl (lv_at hl 0 rfl) ?_
    refine lv_ifnonnull (tgt := 12) hx hb dX3_next_7 (by decide) ?_
    refine lv_iload_n hx hb dX3_next_12 rfl (lv_at hl 3 rfl) ?_
    refine lv_iconst (v := (-1)) hx hb dX3_next_13 (by decide) ?_
    refine lv_icmp_ne (tgt := 27) hx hb dX3_next_14 (by decide) (fun c14 => ?_) (fun c14 => ?_)
    · refine lv_iload_n hx hb dX3_next_27 rfl (lv_at hl 3 rfl) ?_
      refine x_callr (x_rS C0 hl.1 hK hS (c_X3_isPlace l G ad R N tl T pl P X q0) gX3_next_X3_isPlace 1 rfl rfl rfl (by decide +kernel) ⟨Nat.le_of_ble_eq_true rfl, Nat.le_of_ble_eq_true rfl⟩ rfl rfl (Nat.le_of_ble_eq_true rfl) dX3_next_28 ⟨Nat.le_of_ble_eq_true rfl, Nat.le_of_ble_eq_true rfl⟩) ?_
      show W _ _ _ _ _ _ _ _ _ _ _ _ _ _ _ (F0 m 31 ls [.int (zb (d_in q0 (nI 15360)))])
      refine lv_if_ne (tgt := 36) hx hb dX3_next_31 (by decide) (fun c31 => ?_) (fun c31 => ?_)
      · obtain ⟨k, hk, rfl⟩ := d_in_of (n := 15360) (by decide) (zb_ne c31)
        have hck : (nI k).toNatClampNeg = k := nI_clamp (by omega)
        refine lv_aload_n hx hb dX3_next_36 rfl (lv_at hl 1 rfl) ?_
        refine lv_iload_n hx hb dX3_next_37 rfl (lv_at hl 3 rfl) ?_
        refine x_callr (x_rS C0 hl.1 hK hS (c_X3_pageOf l G ad R N tl T pl P X k (by omega)) gX3_next_X3_pageOf 1 rfl rfl rfl (by decide +kernel) ⟨Nat.le_of_ble_eq_true rfl, Nat.le_of_ble_eq_true rfl⟩ rfl rfl (Nat.le_of_ble_eq_true rfl) dX3_next_38 ⟨Nat.le_of_ble_eq_true rfl, Nat.le_of_ble_eq_true rfl⟩) ?_
        show W _ _ _ _ _ _ _ _ _ _ _ _ _ _ _ (F0 m 41 ls [.int (nI (k / 256)), .ref (ad 0)])
        cases hu : d_up pl P (nI (k / 256)) with
        | false =>
          refine x_callr (x_rV C0 hl.1 hK hS (c_X3_usedPage l G ad R N tl T pl P X (nI (k / 256))) (x_con_0 (k := 0) (by omega)) rfl gX3_next_X3_usedPage 1 rfl rfl rfl (by decide +kernel) ⟨Nat.le_of_ble_eq_true rfl, Nat.le_of_ble_eq_true rfl⟩ rfl rfl (Nat.le_of_ble_eq_true rfl) dX3_next_41 ⟨Nat.le_of_ble_eq_true rfl, Nat.le_of_ble_eq_true rfl⟩) ?_
          rw [d_pv_n hu]
          show W _ _ _ _ _ _ _ _ _ _ _ _ _ _ _ (F0 m 44 ls [.null])
          refine lv_astoreN (lv' := [(4, .null), (3, .ref (ad (8 + t))), (0, .ref (ad 0)), (1, .int (nI t)), (2, .int (nI k))]) hx hb dX3_next_44 hl (by decide) rfl (fun ls hl => ?_)
          refine lv_aloadN hx hb dX3_next_46 (lv_at hl 0 rfl) ?_
          refine lv_ifnullN (tgt := 60) hx hb dX3_next_48 (by decide) ?_
          refine lv_iconst (v := (-1)) hx hb dX3_next_60 (by decide) ?_
          exact x_reti C0 (by unfold d_nx; rw [if_pos ht, if_neg c14, if_pos (zb_ne c31), hck, if_neg (fun q => by rw [hu] at q; exact absurd q.1 (by decide))]) dX3_next_61
        | true =>
          obtain ⟨i, hp, hki, hl_p, hp0⟩ := d_up_in hu
          have hki : k / 256 = i := (nI_eq (by omega) (by omega)).mp hki
          subst hki
          refine x_callr (x_rV C0 hl.1 hK hS (c_X3_usedPage l G ad R N tl T pl P X (nI (k / 256))) (x_con_0 (k := 0) (by omega)) rfl gX3_next_X3_usedPage 1 rfl rfl rfl (by decide +kernel) ⟨Nat.le_of_ble_eq_true rfl, Nat.le_of_ble_eq_true rfl⟩ rfl rfl (Nat.le_of_ble_eq_true rfl) dX3_next_41 ⟨Nat.le_of_ble_eq_true rfl, Nat.le_of_ble_eq_true rfl⟩) ?_
          rw [d_pv_s hp hl_p hp0]
          show W _ _ _ _ _ _ _ _ _ _ _ _ _ _ _ (F0 m 44 ls [.ref (ad (16 + k / 256))])
          refine lv_astore (lv' := [(4, .ref (ad (16 + k / 256))), (3, .ref (ad (8 + t))), (0, .ref (ad 0)), (1, .int (nI t)), (2, .int (nI k))]) hx hb dX3_next_44 hl (by decide) rfl (fun ls hl => ?_)
          refine lv_aload hx hb dX3_next_46 (lv_at hl 0 rfl) ?_
          refine lv_ifnull hx hb dX3_next_48 ?_
          refine lv_aload hx hb dX3_next_51 (lv_at hl 0 rfl) ?_
          refine x_pget (j := 0) C0 hK hS hp hl_p (by decide) kX3_next_wX0 kX3_next_f47 dX3_next_53 ?_
          refine lv_iload_n hx hb dX3_next_56 rfl (lv_at hl 3 rfl) ?_
          refine lv_icmp_eq (tgt := 62) hx hb dX3_next_57 (by decide) (fun c57 => ?_) (fun c57 => ?_)
          · refine lv_aload_n hx hb dX3_next_62 rfl (lv_at hl 2 rfl) ?_
            refine lv_iload_n hx hb dX3_next_63 rfl (lv_at hl 4 rfl) ?_
            refine x_callr (x_rS C0 hl.1 hK hS (c_X3_pageOf l G ad R N tl T pl P X k (by omega)) gX3_next_X3_pageOf 1 rfl rfl rfl (by decide +kernel) ⟨Nat.le_of_ble_eq_true rfl, Nat.le_of_ble_eq_true rfl⟩ rfl rfl (Nat.le_of_ble_eq_true rfl) dX3_next_64 ⟨Nat.le_of_ble_eq_true rfl, Nat.le_of_ble_eq_true rfl⟩) ?_
            show W _ _ _ _ _ _ _ _ _ _ _ _ _ _ _ (F0 m 67 ls [.int (nI (k / 256)), .ref (ad 0)])
            refine lv_iload_n hx hb dX3_next_67 rfl (lv_at hl 4 rfl) ?_
            refine x_callr (x_rS C0 hl.1 hK hS (c_X3_slotOf l G ad R N tl T pl P X k (by omega)) gX3_next_X3_slotOf 1 rfl rfl rfl (by decide +kernel) ⟨Nat.le_of_ble_eq_true rfl, Nat.le_of_ble_eq_true rfl⟩ rfl rfl (Nat.le_of_ble_eq_true rfl) dX3_next_68 ⟨Nat.le_of_ble_eq_true rfl, Nat.le_of_ble_eq_true rfl⟩) ?_
            show W _ _ _ _ _ _ _ _ _ _ _ _ _ _ _ (F0 m 71 ls [.int (nI (k % 256)), .int (nI (k / 256)), .ref (ad 0)])
            refine lv_iconst (v := 1) hx hb dX3_next_71 (by decide) ?_
            refine lv_iadd hx hb dX3_next_72 ?_
            rw [show nI (k % 256) + 1 = nI (k % 256 + 1) from nI_1 _]
            refine x_callr (x_rV C0 hl.1 hK hS (c_X3_firstVersionFrom l G ad R N tl T pl P X (nI (k / 256)) (k % 256 + 1) (by omega) hP) (x_con_0 (k := 0) (by omega)) rfl gX3_next_X3_firstVersionFrom 2 rfl rfl rfl (by decide +kernel) ⟨Nat.le_of_ble_eq_true rfl, Nat.le_of_ble_eq_true rfl⟩ rfl rfl (Nat.le_of_ble_eq_true rfl) dX3_next_73 ⟨Nat.le_of_ble_eq_true rfl, Nat.le_of_ble_eq_true rfl⟩) ?_
            show W _ _ _ _ _ _ _ _ _ _ _ _ _ _ _ (F0 m 76 ls [.int (d_fv pl P 60 (nI (k / 256)) (k % 256 + 1))])
            exact x_reti C0 (by unfold d_nx; rw [if_pos ht, if_neg c14, if_pos (zb_ne c31), hck, if_pos ⟨hu, c57⟩]) dX3_next_76
          · refine lv_iconst (v := (-1)) hx hb dX3_next_60 (by decide) ?_
            exact x_reti C0 (by unfold d_nx; rw [if_pos ht, if_neg c14, if_pos (zb_ne c31), hck, if_neg (fun q => c57 q.2)]) dX3_next_61
      · refine lv_iconst (v := (-1)) hx hb dX3_next_34 (by decide) ?_
        exact x_reti C0 (by unfold d_nx; rw [if_pos ht, if_neg c14, zb_eq c31]; rfl) dX3_next_35
    · refine lv_aload_n hx hb dX3_next_17 rfl (lv_at hl 1 rfl) ?_
      refine lv_aload_n hx hb dX3_next_18 rfl (lv_at hl 0 rfl) ?_
      refine x_tget (j := 0) C0 hK hS hi hl_t (by decide) kX3_next_wX2 kX3_next_f142 dX3_next_19 ?_
      refine lv_iconst (v := 0) hx hb dX3_next_22 (by decide) ?_
      refine x_callr (x_rV C0 hl.1 hK hS (c_X3_firstVersionFrom l G ad R N tl T pl P X (T t 0) 0 (by omega) hP) (x_con_0 (k := 0) (by omega)) rfl gX3_next_X3_firstVersionFrom 2 rfl rfl rfl (by decide +kernel) ⟨Nat.le_of_ble_eq_true rfl, Nat.le_of_ble_eq_true rfl⟩ rfl rfl (Nat.le_of_ble_eq_true rfl) dX3_next_23 ⟨Nat.le_of_ble_eq_true rfl, Nat.le_of_ble_eq_true rfl⟩) ?_
      show W _ _ _ _ _ _ _ _ _ _ _ _ _ _ _ (F0 m 26 ls [.int (d_fv pl P 60 (T t 0) 0)])
      exact x_reti C0 (by unfold d_nx; rw [if_pos ht, if_pos c14, nI_clamp (by omega)]) dX3_next_26
