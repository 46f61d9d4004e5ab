-- ===== create =====
def cr_ok (tl : Nat → Bool) (t n x : Int32) : Bool := d_in t (nI 8) && (!tl t.toNatClampNeg && d_at n x)
def cr_o (tl : Nat → Bool) (P : Nat → Nat → Int32) (t n x : Int32) : Option Nat := if cr_ok tl t n x then o_l P 60 0 else none
def tb_Z (q : Nat) (n x : Int32) : Nat → Int32 := fun j => if j = 0 then nI q else if j = 1 then n else x
def cr_post (G : x_G) (ad : Nat → Nat) (R : Nat → Nat → Int32) (N : Nat → Int64) (tl : Nat → Bool) (T : Nat → Nat → Int32) (pl : Nat → Bool) (P : Nat → Nat → Int32) (X : Nat → Option va_E) (t n x : Int32) (o : Option Nat) (ad1 : Nat → Nat) (con1 : Nat → Option va_E) (v : Option Value) : Prop := v = some (.int (zb o.isSome)) ∧ (∀ k, k < 8 ∨ 136 ≤ k → ad1 k = ad k) ∧ match o with
  | none => con1 = x_con G ad1 R N tl T pl P X
  | some q => con1 = x_con G ad1 R N (va_up tl t.toNatClampNeg true) (va_up T t.toNatClampNeg (tb_Z q n x)) (va_up pl q true) (va_up P q (pg_rs (P q) t)) X
theorem kX3_create_wX2 : ∀ w ∈ u_ws RX2 TX2 3, w ∈ wsX3_create := by decide +kernel
theorem kX3_create_wX3 : ∀ w ∈ u_ws RX3 TX3 3, w ∈ wsX3_create := by decide +kernel
theorem kX3_create_f18 : Cond.fieldLink RX3 18 "VersionDesk" "tables" "[LVersionDesk$Table;" ∈ wsX3_create := by decide +kernel
theorem kX3_create_i36 : Cond.initialized yX2_init.cls ∈ wsX3_create := by decide +kernel
theorem kX3_create_l36 : Cond.methodLink RX3 36 yX2_init ∈ wsX3_create := by decide +kernel
theorem kX3_create_n36 : Cond.instanceMethod yX2_init ∈ wsX3_create := by decide +kernel
theorem kX3_create_nw0 : Cond.classLink RX3 16 RX2 ∈ wsX3_create := by decide +kernel
theorem kX3_create_nw1 : Cond.instantiable RX2 3 ∈ wsX3_create := by decide +kernel
theorem kX3_create_nw2 : Cond.initialized RX2 ∈ wsX3_create := by decide +kernel
set_option maxHeartbeats 4000000 in
set_option maxRecDepth 100000 in
/-- create -/
theorem c_X3_create (l : Launch) (G : x_G) (ad : Nat → Nat) (R : Nat → Nat → Int32) (N : Nat → Int64) (tl : Nat → Bool) (T : Nat → Nat → Int32) (pl : Nat → Bool) (P : Nat → Nat → Int32) (X : Nat → Option va_E) (t0 n0 x0 : Int32) (hD : D_ok tl pl P) : Met l yX3_create wsX3_create ({ frames := 3, cells := 3, slots := 505, locals := 63 } : Room) (x_Pc G ad (x_con G ad R N tl T pl P X) [.ref (ad 0), .int t0, .int n0, .int x0]) (x_Qe G (cr_post G ad R N tl T pl P X t0 n0 x0 (cr_o tl P t0 n0 x0))) 3 505 (x_A G) := by
  refine x_met (cc := cX3_create) (maxL := 5) (ret := (some .boolean)) (by decide) rfl _ (Nat.le_of_ble_eq_true rfl) ?_
  intro p e s m args below meth c C0 hini hK hS ls hl
  have hl : lv_has ls 5 [(0, .ref (ad 0)), (1, .int t0), (2, .int n0), (3, .int x0)] := hl
  obtain ⟨hx, hb, hr, hml, hown, hts, hlk⟩ := id C0
  refine lv_iload_n hx hb dX3_create_0 rfl (lv_at hl 1 rfl) ?_
  refine lv_if_lt (tgt := 27) hx hb dX3_create_1 (by decide) (fun c1 => ?_) (fun c1 => ?_)
  · refine lv_iconst (v := 0) hx hb dX3_create_27 (by decide) ?_
    have hc : cr_ok tl t0 n0 x0 = false := by unfold cr_ok; rw [d_in, decide_eq_false (Int32.not_le.mpr c1)]; rfl
    refine W.widen (k := 3) (n := 505) (by omega) (by omega) ?_
    exact x_eretz C0 hS (by unfold cr_o; rw [hc]; exact ⟨rfl, fun _ _ => rfl, rfl⟩) rfl dX3_create_28
  · refine lv_iload_n hx hb dX3_create_4 rfl (lv_at hl 1 rfl) ?_
    refine lv_bipush (v := 8) hx hb dX3_create_5 (by decide) ?_
    refine lv_icmp_ge (tgt := 27) hx hb dX3_create_7 (by decide) (fun c7 => ?_) (fun c7 => ?_)
    · refine lv_iconst (v := 0) hx hb dX3_create_27 (by decide) ?_
      have hc : cr_ok tl t0 n0 x0 = false := by unfold cr_ok; rw [d_in, show nI 8 = (8 : Int32) from rfl, decide_eq_false (Int32.not_lt.mpr c7)]; simp
      refine W.widen (k := 3) (n := 505) (by omega) (by omega) ?_
      exact x_eretz C0 hS (by unfold cr_o; rw [hc]; exact ⟨rfl, fun _ _ => rfl, rfl⟩) rfl dX3_create_28
    · obtain ⟨t, hi, rfl⟩ : ∃ i, i < 8 ∧ t0 = nI i := by obtain ⟨j, h1, h2⟩ := nI_of c1; exact ⟨j, nz_nle (a := 8) c7 rfl h2 (by omega) h1, h2⟩
      have hct : (nI t).toNatClampNeg = t := nI_clamp (by omega)
      refine lv_aload_n hx hb dX3_create_10 rfl (lv_at hl 0 rfl) ?_
      refine x_dget (j := 1) C0 hK hS (by decide) kX3_create_wX3 kX3_create_f18 dX3_create_11 ?_
      refine lv_iload_n hx hb dX3_create_14 rfl (lv_at hl 1 rfl) ?_
      refine x_tald (i := t) C0 hK hS (by omega) rfl dX3_create_15 (fun hl_t => ?_) (fun hl_t => ?_)
      · refine lv_ifnonnull (tgt := 27) hx hb dX3_create_16 (by decide) ?_
        refine lv_iconst (v := 0) hx hb dX3_create_27 (by decide) ?_
        have hc : cr_ok tl (nI t) n0 x0 = false := by unfold cr_ok; rw [hct, hl_t]; simp
        refine W.widen (k := 3) (n := 505) (by omega) (by omega) ?_
        exact x_eretz C0 hS (by unfold cr_o; rw [hc]; exact ⟨rfl, fun _ _ => rfl, rfl⟩) rfl dX3_create_28
      · refine lv_ifnonnullN hx hb dX3_create_16 ?_
        refine lv_iload_n hx hb dX3_create_19 rfl (lv_at hl 2 rfl) ?_
        refine lv_iload_n hx hb dX3_create_20 rfl (lv_at hl 3 rfl) ?_
        refine x_callr (x_rS C0 hl.1 hK hS (c_X3_areTypes l G ad R N tl T pl P X n0 x0) gX3_create_X3_areTypes 2 rfl rfl rfl (by decide +kernel) ⟨Nat.le_of_ble_eq_true rfl, Nat.le_of_ble_eq_true rfl⟩ rfl rfl (Nat.le_of_ble_eq_true rfl) dX3_create_21 ⟨Nat.le_of_ble_eq_true rfl, Nat.le_of_ble_eq_true rfl⟩) ?_
        show W _ _ _ _ _ _ _ _ _ _ _ _ _ _ _ (F0 m 24 ls [.int (zb (d_at n0 x0))])
        refine lv_if_ne (tgt := 29) hx hb dX3_create_24 (by decide) (fun c24 => ?_) (fun c24 => ?_)
        · refine lv_aload_n hx hb dX3_create_29 rfl (lv_at hl 0 rfl) ?_
          refine lv_iload_n hx hb dX3_create_30 rfl (lv_at hl 1 rfl) ?_
          have hc : cr_ok tl (nI t) n0 x0 = true := by unfold cr_ok; rw [d_in_nI hi (by decide), hct, hl_t, zb_ne c24]; rfl
          refine x_calle hS (x_rV C0 hl.1 hK hS (c_X3_openLowestFreePage l G ad R N tl T pl P X (nI t) hD) (x_con_0 (k := 0) (by omega)) rfl gX3_create_X3_openLowestFreePage 1 rfl rfl rfl (by decide +kernel) ⟨Nat.le_of_ble_eq_true rfl, Nat.le_of_ble_eq_true rfl⟩ rfl rfl (Nat.le_of_ble_eq_true rfl) dX3_create_31 ⟨Nat.le_of_ble_eq_true rfl, Nat.le_of_ble_eq_true rfl⟩) (fun ad1 con1 v H locs hv hS => ?_)
          cases ho : o_l P 60 0 with
          | none =>
            rw [ho] at hv
            obtain ⟨rfl, had9, rfl⟩ := hv
            rw [had9] at hS
            show W _ _ _ _ _ _ _ _ _ _ _ _ _ _ _ (F0 m 34 ls [.int (-1)])
            refine lv_istore (lv' := [(4, .int (-1)), (0, .ref (ad 0)), (1, .int (nI t)), (2, .int n0), (3, .int x0)]) hx hb dX3_create_34 hl (by decide) rfl (fun ls hl => ?_)
            refine lv_iload hx hb dX3_create_36 (lv_at hl 0 rfl) ?_
            refine lv_iconst (v := (-1)) hx hb dX3_create_38 (by decide) ?_
            refine lv_icmp_ne (tgt := 44) hx hb dX3_create_39 (by decide) (fun c39 => absurd c39 (by decide)) (fun c39 => ?_)
            refine lv_iconst (v := 0) hx hb dX3_create_42 (by decide) ?_
            refine W.widen (k := 3) (n := 505) (by omega) (by omega) ?_
            exact x_eretz C0 hS (by unfold cr_o; rw [if_pos hc, ho]; exact ⟨rfl, fun _ _ => rfl, rfl⟩) rfl dX3_create_43
          | some q =>
            rw [ho] at hv
            obtain ⟨hq, rfl, had, -, rfl⟩ := hv
            have e0 : ad 0 = ad1 0 := (had 0 (by omega) (by omega)).symm
            rw [e0] at hl
            obtain ⟨pl1, epl1⟩ : ∃ zz, zz = va_up pl q true := ⟨_, rfl⟩
            obtain ⟨P0, eP0⟩ : ∃ zz, zz = va_up P q (pg_rs (P q) (nI t)) := ⟨_, rfl⟩
            rw [← epl1, ← eP0] at hS
            show W _ _ _ _ _ _ _ _ _ _ _ _ _ _ _ (F0 m 34 ls [.int (nI q)])
            refine lv_istore (lv' := [(4, .int (nI q)), (0, .ref (ad1 0)), (1, .int (nI t)), (2, .int n0), (3, .int x0)]) hx hb dX3_create_34 hl (by decide) rfl (fun ls hl => ?_)
            refine lv_iload hx hb dX3_create_36 (lv_at hl 0 rfl) ?_
            refine lv_iconst (v := (-1)) hx hb dX3_create_38 (by decide) ?_
            refine lv_icmp_ne (tgt := 44) hx hb dX3_create_39 (by decide) (fun c39 => ?_) (fun c39 => absurd c39 (by intro e; have := congrArg Int32.toInt e; rw [nI_toInt (by omega)] at this; exact absurd this (by show ¬ (q : Int) = -1; omega)))
            refine lv_aload_n hx hb dX3_create_44 rfl (lv_at hl 1 rfl) ?_
            refine x_dget (j := 1) C0 hK hS (by decide) kX3_create_wX3 kX3_create_f18 dX3_create_45 ?_
            refine lv_iload_n hx hb dX3_create_48 rfl (lv_at hl 2 rfl) ?_
            refine x_new (ci := 2) (N := 3) (C := RX2) (T := TX2) (fs := [.int 0, .int 0, .int 0]) C0 hK hS (8 + t) (x_con_tn hi hl_t) (by omega) tyX2 tyX2_ok rfl kX3_create_wX2 kX3_create_nw0 kX3_create_nw1 kX3_create_nw2 (fun j hj => by rcases (show j = 0 ∨ j = 1 ∨ j = 2 by omega) with rfl | rfl | rfl <;> rfl) (Nat.le_of_ble_eq_true rfl) (Nat.le_of_ble_eq_true rfl) dX3_create_49 (fun q2 H hS => ?_)
            refine lv_dup hx hb dX3_create_52 rfl ?_
            refine lv_iload hx hb dX3_create_53 (lv_at hl 0 rfl) ?_
            refine lv_iload_n hx hb dX3_create_55 rfl (lv_at hl 3 rfl) ?_
            refine lv_iload_n hx hb dX3_create_56 rfl (lv_at hl 4 rfl) ?_
            refine x_callw hS (x_rI (As := [.int (nI q), .int n0, .int x0]) C0 hl.1 hK hS (c_X2_init l G (va_up ad1 (8 + t) q2) (x_up (x_con G ad1 R N tl T pl1 P0 X) (8 + t) (.inr (2, [.int 0, .int 0, .int 0]))) (8 + t) q2 (nI q) n0 x0 (va_up_self _ _ _) x_up_s) gX3_create_X2_init 3 rfl rfl rfl kX3_create_i36 kX3_create_l36 kX3_create_n36 rfl (by decide +kernel) ⟨Nat.le_of_ble_eq_true rfl, Nat.le_of_ble_eq_true rfl⟩ rfl rfl (Nat.le_of_ble_eq_true rfl) dX3_create_57 ⟨Nat.le_of_ble_eq_true rfl, Nat.le_of_ble_eq_true rfl⟩) (fun H locs hS => ?_)
            rw [x_up_up] at hS
            obtain ⟨ad2, ead2⟩ : ∃ z, z = va_up ad1 (8 + t) q2 := ⟨_, rfl⟩
            have had2 : ∀ k, k ≠ 8 + t → ad2 k = ad1 k := fun k h => by rw [ead2, va_up_ne _ _ h]
            have eq2 : q2 = ad2 (8 + t) := by rw [ead2, va_up_self]
            have hcon : x_con G ad1 R N tl T pl1 P0 X = x_con G ad2 R N tl T pl1 P0 X := (x_con_ad (fun k hk => had2 k (by omega)) (fun i hi9 htl => had2 _ (by intro e; rw [show i = t by omega, hl_t] at htl; cases htl)) (fun p hp hpl => ⟨had2 _ (by omega), had2 _ (by omega)⟩) hD.2.2 (fun p hp => by rw [epl1, va_up_ne _ _ (by omega)]; exact hD.2.1 p hp)).symm
            rw [← ead2, hcon] at hS
            have e2 : ad1 2 = ad2 2 := (had2 2 (by omega)).symm
            rw [eq2]
            show W _ _ _ _ _ _ _ _ _ _ _ _ _ _ _ (F0 m 60 ls [.ref (ad2 (8 + t)), .int (nI t), .ref (ad1 2)])
            rw [e2]
            refine x_astT (k := 2) (kv := 8 + t) C0 hK hS (by rw [x_up_n (by omega)]; exact x_con_0 (by omega)) x_up_s (vp_in_nI hi (by omega)) dX3_create_60 (fun H locs hS => ?_)
            rw [hct, show (.inr (2, [.int (nI q), .int n0, .int x0]) : va_E) = x_tbE (tb_Z q n0 x0) from rfl, x_con_newtb hi hl_t, epl1, eP0] at hS
            refine lv_iconst (v := 1) hx hb dX3_create_61 (by decide) ?_
            exact x_eretz C0 hS (by unfold cr_o; rw [if_pos hc, ho]; exact ⟨rfl, fun k hk => (had2 k (by omega)).trans (had k (by omega) (by omega)), by rw [hct]⟩) rfl dX3_create_62
        · refine lv_iconst (v := 0) hx hb dX3_create_27 (by decide) ?_
          have hc : cr_ok tl (nI t) n0 x0 = false := by unfold cr_ok; rw [zb_eq c24]; simp
          refine W.widen (k := 3) (n := 505) (by omega) (by omega) ?_
          exact x_eretz C0 hS (by unfold cr_o; rw [hc]; exact ⟨rfl, fun _ _ => rfl, rfl⟩) rfl dX3_create_28
