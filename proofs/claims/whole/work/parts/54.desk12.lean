-- ===== put =====
def pt_ok (tl : Nat → Bool) (R T : Nat → Nat → Int32) (t n mk cm : Int32) : Bool := d_tb tl t && (!decide (n < 0) && (d_sh mk && (d_sh cm && d_hs R (T t.toNatClampNeg 2) (tm T t.toNatClampNeg) 0)))
def pt_w (R : Nat → Nat → Int32) (N : Nat → Int64) (x : Int32) (m k : Nat) (n mk cm : Int32) (Z : Nat → Int32) : Nat → Int32 := p_h R N x m (st_N Z k) (pg_wr (pg_wr (pg_wr (pg_wr (pg_wr (pg_wr Z (st_N Z k + 0) 4 n.toInt64 4) (st_N Z k + 4) 2 mk.toInt64 2) (st_N Z k + 6) 2 cm.toInt64 2) (st_N Z k + 8) 2 0 2) (st_N Z k + 10) 2 0 2) (st_N Z k + 12) 2 ((-1 : Int32) + 1).toInt64 2)
def pt_m (R T : Nat → Nat → Int32) (pl : Nat → Bool) (P : Nat → Nat → Int32) (t : Nat) : m_T := m_l pl P (nI t) (d_sz R (T t 2) (tm T t) 0 16) 60 (T t 0)
def pt_f (R : Nat → Nat → Int32) (N : Nat → Int64) (T : Nat → Nat → Int32) (t : Nat) (n mk cm : Int32) (r : m_T) : m_T := if d_wv r.2.1 r.2.2 r.1 then (r.1, r.2.1, va_up r.2.2 (r.1.toNatClampNeg / 256) (pt_w R N (T t 2) (tm T t) (r.1.toNatClampNeg % 256) n mk cm (r.2.2 (r.1.toNatClampNeg / 256)))) else (-1, r.2.1, r.2.2)
def pt_r (R : Nat → Nat → Int32) (N : Nat → Int64) (tl : Nat → Bool) (T : Nat → Nat → Int32) (pl : Nat → Bool) (P : Nat → Nat → Int32) (t n mk cm : Int32) : m_T := if pt_ok tl R T t n mk cm then pt_f R N T t.toNatClampNeg n mk cm (pt_m R T pl P t.toNatClampNeg) else (-2, pl, P)
def pt_post (G : x_G) (ad : Nat → Nat) (R : Nat → Nat → Int32) (N : Nat → Int64) (tl : Nat → Bool) (T : Nat → Nat → Int32) (X : Nat → Option va_E) (r : m_T) (ad1 : Nat → Nat) (con1 : Nat → Option va_E) (v : Option Value) : Prop := v = some (.int r.1) ∧ (∀ k, k < 16 ∨ 136 ≤ k → ad1 k = ad k) ∧ con1 = x_con G ad1 R N tl T r.2.1 r.2.2 X
set_option maxHeartbeats 4000000 in
set_option maxRecDepth 100000 in
/-- put -/
theorem c_X3_put (l : Launch) (G : x_G) (ad : Nat → Nat) (R : Nat → Nat → Int32) (N : Nat → Int64) (tl : Nat → Bool) (T : Nat → Nat → Int32) (pl : Nat → Bool) (P : Nat → Nat → Int32) (X : Nat → Option va_E) (t0 n0 mk cm : Int32) (hR : h_ok R) (hT : T_ok tl T) (hD : D_ok tl pl P) (hP : P_ok pl P) : Met l yX3_put wsX3_put ({ frames := 6, cells := 2, slots := 502, locals := 138 } : Room) (x_Pc G ad (x_con G ad R N tl T pl P X) [.ref (ad 0), .int t0, .int n0, .int mk, .int cm]) (x_Qe G (pt_post G ad R N tl T X (pt_r R N tl T pl P t0 n0 mk cm))) 2 502 (x_A G) := by
  refine x_met (cc := cX3_put) (maxL := 9) (ret := (some .int)) (by decide) rfl _ (Nat.le_of_ble_eq_true rfl) ?_
  intro p e s m args below meth c C0 hini hK hS ls hl
  have hl : lv_has ls 9 [(0, .ref (ad 0)), (1, .int t0), (2, .int n0), (3, .int mk), (4, .int cm)] := hl
  obtain ⟨hx, hb, hr, hml, hown, hts, hlk⟩ := id C0
  refine lv_aload_n hx hb dX3_put_0 rfl (lv_at hl 0 rfl) ?_
  refine lv_iload_n hx hb dX3_put_1 rfl (lv_at hl 1 rfl) ?_
  cases ht : d_tb tl t0 with
  | false =>
    refine x_callr (x_rV C0 hl.1 hK hS (c_X3_tableAt l G ad R N tl T pl P X t0) (x_con_0 (k := 0) (by omega)) rfl gX3_put_X3_tableAt 1 rfl rfl rfl (by decide +kernel) ⟨Nat.le_of_ble_eq_true rfl, Nat.le_of_ble_eq_true rfl⟩ rfl rfl (Nat.le_of_ble_eq_true rfl) dX3_put_2 ⟨Nat.le_of_ble_eq_true rfl, Nat.le_of_ble_eq_true rfl⟩) ?_
    rw [d_tv_n ht]
    show W _ _ _ _ _ _ _ _ _ _ _ _ _ _ _ (F0 m 5 ls [.null])
    refine lv_astoreN (lv' := [(5, .null), (0, .ref (ad 0)), (1, .int t0), (2, .int n0), (3, .int mk), (4, .int cm)]) hx hb dX3_put_5 hl (by decide) rfl (fun ls hl => ?_)
    refine lv_aloadN hx hb dX3_put_7 (lv_at hl 0 rfl) ?_
    refine lv_ifnullN (tgt := 40) hx hb dX3_put_9 (by decide) ?_
    refine lv_bipush (v := (-2)) hx hb dX3_put_40 (by decide) ?_
    have hc : pt_ok tl R T t0 n0 mk cm = false := by unfold pt_ok; rw [ht]; rfl
    refine W.widen (k := 2) (n := 502) (by omega) (by omega) ?_
    exact x_ereti C0 hS (by unfold pt_r; rw [hc]; exact ⟨rfl, fun _ _ => rfl, rfl⟩) dX3_put_42
  | true =>
    obtain ⟨t, hi, rfl, hl_t⟩ := d_tb_in ht
    obtain ⟨hcol, hm⟩ := hT t hi hl_t
    have hct : (nI t).toNatClampNeg = t := nI_clamp (by omega)
    refine x_callr (x_rV C0 hl.1 hK hS (c_X3_tableAt l G ad R N tl T pl P X (nI t)) (x_con_0 (k := 0) (by omega)) rfl gX3_put_X3_tableAt 1 rfl rfl rfl (by decide +kernel) ⟨Nat.le_of_ble_eq_true rfl, Nat.le_of_ble_eq_true rfl⟩ rfl rfl (Nat.le_of_ble_eq_true rfl) dX3_put_2 ⟨Nat.le_of_ble_eq_true rfl, Nat.le_of_ble_eq_true rfl⟩) ?_
    rw [d_tv_s hi hl_t]
    show W _ _ _ _ _ _ _ _ _ _ _ _ _ _ _ (F0 m 5 ls [.ref (ad (8 + t))])
    refine lv_astore (lv' := [(5, .ref (ad (8 + t))), (0, .ref (ad 0)), (1, .int (nI t)), (2, .int n0), (3, .int mk), (4, .int cm)]) hx hb dX3_put_5 hl (by decide) rfl (fun ls hl => ?_)
    refine lv_aload hx hb dX3_put_7 (lv_at hl 0 rfl) ?_
    refine lv_ifnull hx hb dX3_put_9 ?_
    refine lv_iload_n hx hb dX3_put_12 rfl (lv_at hl 3 rfl) ?_
    refine lv_if_lt (tgt := 40) hx hb dX3_put_13 (by decide) (fun c13 => ?_) (fun c13 => ?_)
    · refine lv_bipush (v := (-2)) hx hb dX3_put_40 (by decide) ?_
      have hc : pt_ok tl R T (nI t) n0 mk cm = false := by unfold pt_ok; rw [decide_eq_true c13]; simp
      refine W.widen (k := 2) (n := 502) (by omega) (by omega) ?_
      exact x_ereti C0 hS (by unfold pt_r; rw [hc]; exact ⟨rfl, fun _ _ => rfl, rfl⟩) dX3_put_42
    · refine lv_iload_n hx hb dX3_put_16 rfl (lv_at hl 4 rfl) ?_
      refine x_callr (x_rS C0 hl.1 hK hS (c_X3_isShort l G ad R N tl T pl P X mk) gX3_put_X3_isShort 1 rfl rfl rfl (by decide +kernel) ⟨Nat.le_of_ble_eq_true rfl, Nat.le_of_ble_eq_true rfl⟩ rfl rfl (Nat.le_of_ble_eq_true rfl) dX3_put_17 ⟨Nat.le_of_ble_eq_true rfl, Nat.le_of_ble_eq_true rfl⟩) ?_
      show W _ _ _ _ _ _ _ _ _ _ _ _ _ _ _ (F0 m 20 ls [.int (zb (d_sh mk))])
      refine lv_if_eq (tgt := 40) hx hb dX3_put_20 (by decide) (fun c20 => ?_) (fun c20 => ?_)
      · refine lv_bipush (v := (-2)) hx hb dX3_put_40 (by decide) ?_
        have hc : pt_ok tl R T (nI t) n0 mk cm = false := by unfold pt_ok; rw [zb_eq c20]; simp
        refine W.widen (k := 2) (n := 502) (by omega) (by omega) ?_
        exact x_ereti C0 hS (by unfold pt_r; rw [hc]; exact ⟨rfl, fun _ _ => rfl, rfl⟩) dX3_put_42
      · refine lv_iload hx hb dX3_put_23 (lv_at hl 5 rfl) ?_
        refine x_callr (x_rS C0 hl.1 hK hS (c_X3_isShort l G ad R N tl T pl P X cm) gX3_put_X3_isShort 1 rfl rfl rfl (by decide +kernel) ⟨Nat.le_of_ble_eq_true rfl, Nat.le_of_ble_eq_true rfl⟩ rfl rfl (Nat.le_of_ble_eq_true rfl) dX3_put_25 ⟨Nat.le_of_ble_eq_true rfl, Nat.le_of_ble_eq_true rfl⟩) ?_
        show W _ _ _ _ _ _ _ _ _ _ _ _ _ _ _ (F0 m 28 ls [.int (zb (d_sh cm))])
        refine lv_if_eq (tgt := 40) hx hb dX3_put_28 (by decide) (fun c28 => ?_) (fun c28 => ?_)
        · refine lv_bipush (v := (-2)) hx hb dX3_put_40 (by decide) ?_
          have hc : pt_ok tl R T (nI t) n0 mk cm = false := by unfold pt_ok; rw [zb_eq c28]; simp
          refine W.widen (k := 2) (n := 502) (by omega) (by omega) ?_
          exact x_ereti C0 hS (by unfold pt_r; rw [hc]; exact ⟨rfl, fun _ _ => rfl, rfl⟩) dX3_put_42
        · refine lv_aload_n hx hb dX3_put_31 rfl (lv_at hl 1 rfl) ?_
          refine lv_aload hx hb dX3_put_32 (lv_at hl 0 rfl) ?_
          refine x_callr (x_rV C0 hl.1 hK hS (c_X3_handSuits l G ad R N tl T pl P X t (tm T t) hi hl_t hm hcol) (x_con_0 (k := 0) (by omega)) rfl gX3_put_X3_handSuits 1 rfl rfl rfl (by decide +kernel) ⟨Nat.le_of_ble_eq_true rfl, Nat.le_of_ble_eq_true rfl⟩ rfl rfl (Nat.le_of_ble_eq_true rfl) dX3_put_34 ⟨Nat.le_of_ble_eq_true rfl, Nat.le_of_ble_eq_true rfl⟩) ?_
          show W _ _ _ _ _ _ _ _ _ _ _ _ _ _ _ (F0 m 37 ls [.int (zb (d_hs R (T t 2) (tm T t) 0))])
          refine lv_if_ne (tgt := 43) hx hb dX3_put_37 (by decide) (fun c37 => ?_) (fun c37 => ?_)
          · refine lv_aload_n hx hb dX3_put_43 rfl (lv_at hl 1 rfl) ?_
            refine lv_iload_n hx hb dX3_put_44 rfl (lv_at hl 2 rfl) ?_
            refine lv_aload hx hb dX3_put_45 (lv_at hl 0 rfl) ?_
            refine lv_aload_n hx hb dX3_put_47 rfl (lv_at hl 1 rfl) ?_
            refine lv_aload hx hb dX3_put_48 (lv_at hl 0 rfl) ?_
            refine x_callr (x_rV C0 hl.1 hK hS (c_X3_sizeOfHand l G ad R N tl T pl P X t (tm T t) hi hl_t hm hcol) (x_con_0 (k := 0) (by omega)) rfl gX3_put_X3_sizeOfHand 1 rfl rfl rfl (by decide +kernel) ⟨Nat.le_of_ble_eq_true rfl, Nat.le_of_ble_eq_true rfl⟩ rfl rfl (Nat.le_of_ble_eq_true rfl) dX3_put_50 ⟨Nat.le_of_ble_eq_true rfl, Nat.le_of_ble_eq_true rfl⟩) ?_
            show W _ _ _ _ _ _ _ _ _ _ _ _ _ _ _ (F0 m 53 ls [.int (d_sz R (T t 2) (tm T t) 0 16), .ref (ad (8 + t)), .int (nI t), .ref (ad 0)])
            have hc : pt_ok tl R T (nI t) n0 mk cm = true := by unfold pt_ok; rw [ht, decide_eq_false c13, zb_ne c20, zb_ne c28, hct, zb_ne c37]; rfl
            refine x_calle hS (x_rV C0 hl.1 hK hS (c_X3_makeRoom l G ad R N tl T pl P X (nI t) (d_sz R (T t 2) (tm T t) 0 16) t hi hl_t hD hP) (x_con_0 (k := 0) (by omega)) rfl gX3_put_X3_makeRoom 3 rfl rfl rfl (by decide +kernel) ⟨Nat.le_of_ble_eq_true rfl, Nat.le_of_ble_eq_true rfl⟩ rfl rfl (Nat.le_of_ble_eq_true rfl) dX3_put_53 ⟨Nat.le_of_ble_eq_true rfl, Nat.le_of_ble_eq_true rfl⟩) (fun ad1 con1 v H locs hv hS => ?_)
            obtain ⟨rfl, hads, rfl⟩ := hv
            obtain ⟨rr, err⟩ : ∃ zz, zz = pt_m R T pl P t := ⟨_, rfl⟩
            rw [show m_l pl P (nI t) (d_sz R (T t 2) (tm T t) 0 16) 60 (T t 0) = rr from err.symm] at hS ⊢
            obtain ⟨r0, pl1, P1⟩ := rr
            have hS : x_H G ad1 (x_con G ad1 R N tl T pl1 P1 X) H locs := hS
            have e0 : ad 0 = ad1 0 := (hads.1 0 (by omega)).symm
            have e8 : ad (8 + t) = ad1 (8 + t) := (hads.1 _ (by omega)).symm
            rw [e0, e8] at hl
            show W _ _ _ _ _ _ _ _ _ _ _ _ _ _ _ (F0 m 56 ls [.int r0])
            refine lv_istore (lv' := [(6, .int r0), (5, .ref (ad1 (8 + t))), (0, .ref (ad1 0)), (1, .int (nI t)), (2, .int n0), (3, .int mk), (4, .int cm)]) hx hb dX3_put_56 hl (by decide) rfl (fun ls hl => ?_)
            refine lv_aload_n hx hb dX3_put_58 rfl (lv_at hl 2 rfl) ?_
            refine lv_iload hx hb dX3_put_59 (lv_at hl 0 rfl) ?_
            cases hw : d_wv pl1 P1 r0 with
            | false =>
              refine x_callr (x_rV C0 hl.1 hK hS (c_X3_pageWithVersion l G ad1 R N tl T pl1 P1 X r0) (x_con_0 (k := 0) (by omega)) rfl gX3_put_X3_pageWithVersion 1 rfl rfl rfl (by decide +kernel) ⟨Nat.le_of_ble_eq_true rfl, Nat.le_of_ble_eq_true rfl⟩ rfl rfl (Nat.le_of_ble_eq_true rfl) dX3_put_61 ⟨Nat.le_of_ble_eq_true rfl, Nat.le_of_ble_eq_true rfl⟩) ?_
              rw [d_wp_n hw]
              show W _ _ _ _ _ _ _ _ _ _ _ _ _ _ _ (F0 m 64 ls [.null])
              refine lv_astoreN (lv' := [(7, .null), (6, .int r0), (5, .ref (ad1 (8 + t))), (0, .ref (ad1 0)), (1, .int (nI t)), (2, .int n0), (3, .int mk), (4, .int cm)]) hx hb dX3_put_64 hl (by decide) rfl (fun ls hl => ?_)
              refine lv_aloadN hx hb dX3_put_66 (lv_at hl 0 rfl) ?_
              refine lv_ifnonnullN hx hb dX3_put_68 ?_
              refine lv_iconst (v := (-1)) hx hb dX3_put_71 (by decide) ?_
              exact x_ereti C0 hS (by unfold pt_r; rw [if_pos hc, hct, ← err]; unfold pt_f; rw [hw]; exact ⟨rfl, hads.1, rfl⟩) dX3_put_72
            | true =>
              obtain ⟨k, hk, rfl, hp, hl_p, hp0, hhd⟩ := d_wv_in hw
              refine x_callr (x_rV C0 hl.1 hK hS (c_X3_pageWithVersion l G ad1 R N tl T pl1 P1 X (nI k)) (x_con_0 (k := 0) (by omega)) rfl gX3_put_X3_pageWithVersion 1 rfl rfl rfl (by decide +kernel) ⟨Nat.le_of_ble_eq_true rfl, Nat.le_of_ble_eq_true rfl⟩ rfl rfl (Nat.le_of_ble_eq_true rfl) dX3_put_61 ⟨Nat.le_of_ble_eq_true rfl, Nat.le_of_ble_eq_true rfl⟩) ?_
              rw [d_wp_s hk hw]
              show W _ _ _ _ _ _ _ _ _ _ _ _ _ _ _ (F0 m 64 ls [.ref (ad1 (16 + k / 256))])
              refine lv_astore (lv' := [(7, .ref (ad1 (16 + k / 256))), (6, .int (nI k)), (5, .ref (ad1 (8 + t))), (0, .ref (ad1 0)), (1, .int (nI t)), (2, .int n0), (3, .int mk), (4, .int cm)]) hx hb dX3_put_64 hl (by decide) rfl (fun ls hl => ?_)
              refine lv_aload hx hb dX3_put_66 (lv_at hl 0 rfl) ?_
              refine lv_ifnonnull (tgt := 73) hx hb dX3_put_68 (by decide) ?_
              refine lv_aload hx hb dX3_put_73 (lv_at hl 0 rfl) ?_
              refine lv_iload hx hb dX3_put_75 (lv_at hl 1 rfl) ?_
              refine x_callr (x_rS C0 hl.1 hK hS (c_X3_slotOf l G ad1 R N tl T pl1 P1 X k (by omega)) gX3_put_X3_slotOf 1 rfl rfl rfl (by decide +kernel) ⟨Nat.le_of_ble_eq_true rfl, Nat.le_of_ble_eq_true rfl⟩ rfl rfl (Nat.le_of_ble_eq_true rfl) dX3_put_77 ⟨Nat.le_of_ble_eq_true rfl, Nat.le_of_ble_eq_true rfl⟩) ?_
              show W _ _ _ _ _ _ _ _ _ _ _ _ _ _ _ (F0 m 80 ls [.int (nI (k % 256)), .ref (ad1 (16 + k / 256))])
              refine x_callr (x_rV C0 hl.1 hK hS (c_X0_startOf l G ad1 R N tl T pl1 P1 X (k / 256) (k % 256) hp hl_p (by omega)) (x_con_p hp hl_p) rfl gX3_put_X0_startOf 1 rfl rfl rfl (by decide +kernel) ⟨Nat.le_of_ble_eq_true rfl, Nat.le_of_ble_eq_true rfl⟩ rfl rfl (Nat.le_of_ble_eq_true rfl) dX3_put_80 ⟨Nat.le_of_ble_eq_true rfl, Nat.le_of_ble_eq_true rfl⟩) ?_
              rw [pg_st_N]
              show W _ _ _ _ _ _ _ _ _ _ _ _ _ _ _ (F0 m 83 ls [.int (nI (st_N (P1 (k / 256)) (k % 256)))])
              refine lv_istore (lv' := [(8, .int (nI (st_N (P1 (k / 256)) (k % 256)))), (7, .ref (ad1 (16 + k / 256))), (6, .int (nI k)), (5, .ref (ad1 (8 + t))), (0, .ref (ad1 0)), (1, .int (nI t)), (2, .int n0), (3, .int mk), (4, .int cm)]) hx hb dX3_put_83 hl (by decide) rfl (fun ls hl => ?_)
              refine lv_aload hx hb dX3_put_85 (lv_at hl 1 rfl) ?_
              refine lv_iload hx hb dX3_put_87 (lv_at hl 0 rfl) ?_
              refine lv_iconst (v := 0) hx hb dX3_put_89 (by decide) ?_
              refine lv_iadd hx hb dX3_put_90 ?_
              refine lv_iconst (v := 4) hx hb dX3_put_91 (by decide) ?_
              refine lv_iload_n hx hb dX3_put_92 rfl (lv_at hl 6 rfl) ?_
              refine lv_i2l hx hb dX3_put_93 rfl ?_
              rw [show nI (st_N (P1 (k / 256)) (k % 256)) + 0 = nI (st_N (P1 (k / 256)) (k % 256) + 0) from nI_add (st_N (P1 (k / 256)) (k % 256)) 0]
              refine x_callw hS (x_rV C0 hl.1 hK hS (c_X0_write l G ad1 R N tl T pl1 P1 X (k / 256) (st_N (P1 (k / 256)) (k % 256) + 0) 4 n0.toInt64 hp hl_p (by have := st_N_lt (P1 (k / 256)) (k % 256); omega)) (x_con_p hp hl_p) rfl gX3_put_X0_write 3 rfl rfl rfl (by decide +kernel) ⟨Nat.le_of_ble_eq_true rfl, Nat.le_of_ble_eq_true rfl⟩ rfl rfl (Nat.le_of_ble_eq_true rfl) dX3_put_94 ⟨Nat.le_of_ble_eq_true rfl, Nat.le_of_ble_eq_true rfl⟩) (fun H locs hS => ?_)
              obtain ⟨Z1, eZ1⟩ : ∃ zz, zz = pg_wr (P1 (k / 256)) (st_N (P1 (k / 256)) (k % 256) + 0) 4 n0.toInt64 4 := ⟨_, rfl⟩
              rw [← eZ1] at hS
              show W _ _ _ _ _ _ _ _ _ _ _ _ _ _ _ (F0 m 97 ls [])
              refine lv_aload hx hb dX3_put_97 (lv_at hl 1 rfl) ?_
              refine lv_iload hx hb dX3_put_99 (lv_at hl 0 rfl) ?_
              refine lv_iconst (v := 4) hx hb dX3_put_101 (by decide) ?_
              refine lv_iadd hx hb dX3_put_102 ?_
              refine lv_iconst (v := 2) hx hb dX3_put_103 (by decide) ?_
              refine lv_iload_n hx hb dX3_put_104 rfl (lv_at hl 7 rfl) ?_
              refine lv_i2l hx hb dX3_put_105 rfl ?_
              rw [show nI (st_N (P1 (k / 256)) (k % 256)) + 4 = nI (st_N (P1 (k / 256)) (k % 256) + 4) from nI_add (st_N (P1 (k / 256)) (k % 256)) 4]
              refine x_callw hS (x_rV C0 hl.1 hK hS (c_X0_write l G ad1 R N tl T pl1 (va_up P1 (k / 256) Z1) X (k / 256) (st_N (P1 (k / 256)) (k % 256) + 4) 2 mk.toInt64 hp hl_p (by have := st_N_lt (P1 (k / 256)) (k % 256); omega)) (x_con_p hp hl_p) rfl gX3_put_X0_write 3 rfl rfl rfl (by decide +kernel) ⟨Nat.le_of_ble_eq_true rfl, Nat.le_of_ble_eq_true rfl⟩ rfl rfl (Nat.le_of_ble_eq_true rfl) dX3_put_106 ⟨Nat.le_of_ble_eq_true rfl, Nat.le_of_ble_eq_true rfl⟩) (fun H locs hS => ?_)
              simp only [va_up_self, bx_uu] at hS
              obtain ⟨Z2, eZ2⟩ : ∃ zz, zz = pg_wr (Z1) (st_N (P1 (k / 256)) (k % 256) + 4) 2 mk.toInt64 2 := ⟨_, rfl⟩
              rw [← eZ2] at hS
              show W _ _ _ _ _ _ _ _ _ _ _ _ _ _ _ (F0 m 109 ls [])
              refine lv_aload hx hb dX3_put_109 (lv_at hl 1 rfl) ?_
              refine lv_iload hx hb dX3_put_111 (lv_at hl 0 rfl) ?_
              refine lv_bipush (v := 6) hx hb dX3_put_113 (by decide) ?_
              refine lv_iadd hx hb dX3_put_115 ?_
              refine lv_iconst (v := 2) hx hb dX3_put_116 (by decide) ?_
              refine lv_iload hx hb dX3_put_117 (lv_at hl 8 rfl) ?_
              refine lv_i2l hx hb dX3_put_119 rfl ?_
              rw [show nI (st_N (P1 (k / 256)) (k % 256)) + 6 = nI (st_N (P1 (k / 256)) (k % 256) + 6) from nI_add (st_N (P1 (k / 256)) (k % 256)) 6]
              refine x_callw hS (x_rV C0 hl.1 hK hS (c_X0_write l G ad1 R N tl T pl1 (va_up P1 (k / 256) Z2) X (k / 256) (st_N (P1 (k / 256)) (k % 256) + 6) 2 cm.toInt64 hp hl_p (by have := st_N_lt (P1 (k / 256)) (k % 256); omega)) (x_con_p hp hl_p) rfl gX3_put_X0_write 3 rfl rfl rfl (by decide +kernel) ⟨Nat.le_of_ble_eq_true rfl, Nat.le_of_ble_eq_true rfl⟩ rfl rfl (Nat.le_of_ble_eq_true rfl) dX3_put_120 ⟨Nat.le_of_ble_eq_true rfl, Nat.le_of_ble_eq_true rfl⟩) (fun H locs hS => ?_)
              simp only [va_up_self, bx_uu] at hS
              obtain ⟨Z3, eZ3⟩ : ∃ zz, zz = pg_wr (Z2) (st_N (P1 (k / 256)) (k % 256) + 6) 2 cm.toInt64 2 := ⟨_, rfl⟩
              rw [← eZ3] at hS
              show W _ _ _ _ _ _ _ _ _ _ _ _ _ _ _ (F0 m 123 ls [])
              refine lv_aload hx hb dX3_put_123 (lv_at hl 1 rfl) ?_
              refine lv_iload hx hb dX3_put_125 (lv_at hl 0 rfl) ?_
              refine lv_bipush (v := 8) hx hb dX3_put_127 (by decide) ?_
              refine lv_iadd hx hb dX3_put_129 ?_
              refine lv_iconst (v := 2) hx hb dX3_put_130 (by decide) ?_
              refine lv_lconst (v := 0) hx hb dX3_put_131 (by decide) ?_
              rw [show nI (st_N (P1 (k / 256)) (k % 256)) + 8 = nI (st_N (P1 (k / 256)) (k % 256) + 8) from nI_add (st_N (P1 (k / 256)) (k % 256)) 8]
              refine x_callw hS (x_rV C0 hl.1 hK hS (c_X0_write l G ad1 R N tl T pl1 (va_up P1 (k / 256) Z3) X (k / 256) (st_N (P1 (k / 256)) (k % 256) + 8) 2 0 hp hl_p (by have := st_N_lt (P1 (k / 256)) (k % 256); omega)) (x_con_p hp hl_p) rfl gX3_put_X0_write 3 rfl rfl rfl (by decide +kernel) ⟨Nat.le_of_ble_eq_true rfl, Nat.le_of_ble_eq_true rfl⟩ rfl rfl (Nat.le_of_ble_eq_true rfl) dX3_put_132 ⟨Nat.le_of_ble_eq_true rfl, Nat.le_of_ble_eq_true rfl⟩) (fun H locs hS => ?_)
              simp only [va_up_self, bx_uu] at hS
              obtain ⟨Z4, eZ4⟩ : ∃ zz, zz = pg_wr (Z3) (st_N (P1 (k / 256)) (k % 256) + 8) 2 0 2 := ⟨_, rfl⟩
              rw [← eZ4] at hS
              show W _ _ _ _ _ _ _ _ _ _ _ _ _ _ _ (F0 m 135 ls [])
              refine lv_aload hx hb dX3_put_135 (lv_at hl 1 rfl) ?_
              refine lv_iload hx hb dX3_put_137 (lv_at hl 0 rfl) ?_
              refine lv_bipush (v := 10) hx hb dX3_put_139 (by decide) ?_
              refine lv_iadd hx hb dX3_put_141 ?_
              refine lv_iconst (v := 2) hx hb dX3_put_142 (by decide) ?_
              refine lv_lconst (v := 0) hx hb dX3_put_143 (by decide) ?_
              rw [show nI (st_N (P1 (k / 256)) (k % 256)) + 10 = nI (st_N (P1 (k / 256)) (k % 256) + 10) from nI_add (st_N (P1 (k / 256)) (k % 256)) 10]
              refine x_callw hS (x_rV C0 hl.1 hK hS (c_X0_write l G ad1 R N tl T pl1 (va_up P1 (k / 256) Z4) X (k / 256) (st_N (P1 (k / 256)) (k % 256) + 10) 2 0 hp hl_p (by have := st_N_lt (P1 (k / 256)) (k % 256); omega)) (x_con_p hp hl_p) rfl gX3_put_X0_write 3 rfl rfl rfl (by decide +kernel) ⟨Nat.le_of_ble_eq_true rfl, Nat.le_of_ble_eq_true rfl⟩ rfl rfl (Nat.le_of_ble_eq_true rfl) dX3_put_144 ⟨Nat.le_of_ble_eq_true rfl, Nat.le_of_ble_eq_true rfl⟩) (fun H locs hS => ?_)
              simp only [va_up_self, bx_uu] at hS
              obtain ⟨Z5, eZ5⟩ : ∃ zz, zz = pg_wr (Z4) (st_N (P1 (k / 256)) (k % 256) + 10) 2 0 2 := ⟨_, rfl⟩
              rw [← eZ5] at hS
              show W _ _ _ _ _ _ _ _ _ _ _ _ _ _ _ (F0 m 147 ls [])
              refine lv_aload hx hb dX3_put_147 (lv_at hl 1 rfl) ?_
              refine lv_iload hx hb dX3_put_149 (lv_at hl 0 rfl) ?_
              refine lv_iconst (v := (-1)) hx hb dX3_put_151 (by decide) ?_
              refine x_callw hS (x_rS C0 hl.1 hK hS (c_X3_writeBehind l G ad1 R N tl T pl1 (va_up P1 (k / 256) Z5) X (k / 256) (-1) hp hl_p (st_N (P1 (k / 256)) (k % 256)) (by have := st_N_lt (P1 (k / 256)) (k % 256); omega)) gX3_put_X3_writeBehind 3 rfl rfl rfl (by decide +kernel) ⟨Nat.le_of_ble_eq_true rfl, Nat.le_of_ble_eq_true rfl⟩ rfl rfl (Nat.le_of_ble_eq_true rfl) dX3_put_152 ⟨Nat.le_of_ble_eq_true rfl, Nat.le_of_ble_eq_true rfl⟩) (fun H locs hS => ?_)
              simp only [va_up_self, bx_uu] at hS
              obtain ⟨Z6, eZ6⟩ : ∃ zz, zz = pg_wr (Z5) (st_N (P1 (k / 256)) (k % 256) + 12) 2 ((-1 : Int32) + 1).toInt64 2 := ⟨_, rfl⟩
              rw [← eZ6] at hS
              show W _ _ _ _ _ _ _ _ _ _ _ _ _ _ _ (F0 m 155 ls [])
              refine lv_aload_n hx hb dX3_put_155 rfl (lv_at hl 4 rfl) ?_
              refine lv_aload hx hb dX3_put_156 (lv_at hl 3 rfl) ?_
              refine lv_aload hx hb dX3_put_158 (lv_at hl 1 rfl) ?_
              refine lv_iload hx hb dX3_put_160 (lv_at hl 0 rfl) ?_
              refine x_callw hS (x_rV C0 hl.1 hK hS (c_X3_packHand l G ad1 R N tl T pl1 (va_up P1 (k / 256) Z6) X t (tm T t) (k / 256) (st_N (P1 (k / 256)) (k % 256)) hi hl_t hm hcol hp hl_p hR (by have := st_N_lt (P1 (k / 256)) (k % 256); omega)) (x_con_0 (k := 0) (by omega)) rfl gX3_put_X3_packHand 3 rfl rfl rfl (by decide +kernel) ⟨Nat.le_of_ble_eq_true rfl, Nat.le_of_ble_eq_true rfl⟩ rfl rfl (Nat.le_of_ble_eq_true rfl) dX3_put_162 ⟨Nat.le_of_ble_eq_true rfl, Nat.le_of_ble_eq_true rfl⟩) (fun H locs hS => ?_)
              simp only [va_up_self, bx_uu] at hS
              obtain ⟨Z7, eZ7⟩ : ∃ zz, zz = p_h R N (T t 2) (tm T t) (st_N (P1 (k / 256)) (k % 256)) (Z6) := ⟨_, rfl⟩
              rw [← eZ7] at hS
              show W _ _ _ _ _ _ _ _ _ _ _ _ _ _ _ (F0 m 165 ls [])
              refine lv_iload hx hb dX3_put_165 (lv_at hl 2 rfl) ?_
              have hck : (nI k).toNatClampNeg = k := nI_clamp (by omega)
              exact x_ereti C0 hS (by unfold pt_r; rw [if_pos hc, hct, ← err]; unfold pt_f; rw [if_pos hw]; refine ⟨rfl, hads.1, ?_⟩; subst_vars; simp only [hck]; rfl) dX3_put_167
          · refine lv_bipush (v := (-2)) hx hb dX3_put_40 (by decide) ?_
            have hc : pt_ok tl R T (nI t) n0 mk cm = false := by unfold pt_ok; rw [hct, zb_eq c37]; simp
            refine W.widen (k := 2) (n := 502) (by omega) (by omega) ?_
            exact x_ereti C0 hS (by unfold pt_r; rw [hc]; exact ⟨rfl, fun _ _ => rfl, rfl⟩) dX3_put_42
