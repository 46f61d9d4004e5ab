-- ===== the lowest free page =====
def o_l (P : Nat → Nat → Int32) : Nat → Nat → Option Nat
  | 0, _ => none
  | d + 1, p => if P p 0 = -1 then some p else o_l P d (p + 1)
/-- what openLowestFreePage leaves: r its answer, o the page -/
def o_post (G : x_G) (ad : Nat → Nat) (R : Nat → Nat → Int32) (N : Nat → Int64) (tl : Nat → Bool) (T : Nat → Nat → Int32) (pl : Nat → Bool) (P : Nat → Nat → Int32) (X : Nat → Option va_E) (t : Int32) (o : Option Nat) (ad1 : Nat → Nat) (con1 : Nat → Option va_E) (v : Option Value) : Prop := match o with
  | none => v = some (.int (-1)) ∧ ad1 = ad ∧ con1 = x_con G ad R N tl T pl P X
  | some p => p < 60 ∧ v = some (.int (nI p)) ∧ (∀ k, k ≠ 16 + p → k ≠ 76 + p → ad1 k = ad k) ∧ (pl p = true → ad1 = ad) ∧ con1 = x_con G ad1 R N tl T (va_up pl p true) (va_up P p (pg_rs (P p) t)) X
def D_ok (tl pl : Nat → Bool) (P : Nat → Nat → Int32) : Prop := (∀ p, pl p = false → P p = pg_new) ∧ (∀ p, 60 ≤ p → pl p = false) ∧ (∀ t, 8 ≤ t → tl t = false)
theorem va_up_t {pl : Nat → Bool} {p : Nat} (h : pl p = true) : va_up pl p true = pl := by
  rw [← h]; exact va_up_id pl p
theorem kX3_openLowestFreePage_wX0 : ∀ w ∈ u_ws RX0 TX0 6, w ∈ wsX3_openLowestFreePage := by decide +kernel
theorem kX3_openLowestFreePage_wX3 : ∀ w ∈ u_ws RX3 TX3 3, w ∈ wsX3_openLowestFreePage := by decide +kernel
theorem kX3_openLowestFreePage_f24 : Cond.fieldLink RX3 24 "VersionDesk" "pages" "[LVersionDesk$Page;" ∈ wsX3_openLowestFreePage := by decide +kernel
theorem kX3_openLowestFreePage_f47 : Cond.fieldLink RX3 47 "VersionDesk$Page" "table" "I" ∈ wsX3_openLowestFreePage := by decide +kernel
theorem kX3_openLowestFreePage_i182 : Cond.initialized yX0_init.cls ∈ wsX3_openLowestFreePage := by decide +kernel
theorem kX3_openLowestFreePage_n182 : Cond.instanceMethod yX0_init ∈ wsX3_openLowestFreePage := by decide +kernel
theorem kX3_openLowestFreePage_nw0 : Cond.classLink RX3 22 RX0 ∈ wsX3_openLowestFreePage := by decide +kernel
theorem kX3_openLowestFreePage_nw1 : Cond.instantiable RX0 6 ∈ wsX3_openLowestFreePage := by decide +kernel
theorem kX3_openLowestFreePage_nw2 : Cond.initialized RX0 ∈ wsX3_openLowestFreePage := by decide +kernel
set_option maxHeartbeats 4000000 in
set_option maxRecDepth 100000 in
theorem l_X3_open {p : Program} {l : Launch} {e : Env} {s : State} {m : MethodId} {args : Array Value} {below : List Frame} {meth : Method} {c : Code} {G : x_G} {ad : Nat → Nat} {R : Nat → Nat → Int32} {N : Nat → Int64} {tl : Nat → Bool} {T : Nat → Nat → Int32} {pl : Nat → Bool} {P : Nat → Nat → Int32} {X : Nat → Option va_E} (C0 : x_B p s m meth c args cX3_openLowestFreePage 4 (some .int) RX3 wsX3_openLowestFreePage) (hK : x_K G s) {t0 : Int32} {o : Option Nat} (hD : D_ok tl pl P) (hS : x_H G ad (x_con G ad R N tl T pl P X) s.heap []) : ∀ (d : Nat) (q : Nat), 60 - q < d → q ≤ 60 → o = o_l P (60 - q) q → ∀ (ls : Array Slot), lv_has ls 4 [(0, .ref (ad 0)), (1, .int t0), (2, .int (nI q))] → W p l e ({ frames := 2, cells := 2, slots := 502, locals := 40 } : Room) s m args below meth c s.heap [] 0 0 (MQ below (x_Qe G (o_post G ad R N tl T pl P X t0 o)) args s 2 502 (x_A G)) (F0 m 2 ls []) := by
  obtain ⟨hx, hb, hr, hml, hown, hts, hlk⟩ := id C0
  intro d
  induction d with
  | zero =>
    intro q hd hq hF ls hl
    exact absurd hd (by omega)
  | succ d ih =>
    intro q hd hq hF ls hl
    refine lv_iload_n hx hb dX3_openLowestFreePage_2 rfl (lv_at hl 2 rfl) ?_
    refine lv_bipush (v := 60) hx hb dX3_openLowestFreePage_3 (by decide) ?_
    refine lv_icmp_ge (tgt := 55) hx hb dX3_openLowestFreePage_5 (by decide) (fun c5 => ?_) (fun c5 => ?_)
    · have hq2 := nz_le (a := 60) c5 rfl rfl (by omega) (by omega)
      refine lv_iconst (v := (-1)) hx hb dX3_openLowestFreePage_55 (by decide) ?_
      refine W.widen (k := 2) (n := 502) (by omega) (by omega) ?_
      exact x_ereti C0 hS (by rw [hF, show 60 - q = 0 by omega]; exact ⟨rfl, rfl, rfl⟩) dX3_openLowestFreePage_56
    · have hq3 := nz_nle (a := 60) c5 rfl rfl (by omega) (by omega)
      refine lv_aload_n hx hb dX3_openLowestFreePage_8 rfl (lv_at hl 0 rfl) ?_
      refine x_dget (j := 2) C0 hK hS (by decide) kX3_openLowestFreePage_wX3 kX3_openLowestFreePage_f24 dX3_openLowestFreePage_9 ?_
      refine lv_iload_n hx hb dX3_openLowestFreePage_12 rfl (lv_at hl 2 rfl) ?_
      refine x_pald (i := q) C0 hK hS (by omega) rfl dX3_openLowestFreePage_13 (fun hl_p => ?_) (fun hl_p => ?_)
      · refine lv_astore_n (lv' := [(3, .ref (ad (16 + q))), (0, .ref (ad 0)), (1, .int t0), (2, .int (nI q))]) hx hb dX3_openLowestFreePage_14 rfl hl (by decide) rfl (fun ls hl => ?_)
        refine lv_aload_n hx hb dX3_openLowestFreePage_15 rfl (lv_at hl 0 rfl) ?_
        refine lv_ifnonnull (tgt := 34) hx hb dX3_openLowestFreePage_16 (by decide) ?_
        refine lv_aload_n hx hb dX3_openLowestFreePage_34 rfl (lv_at hl 0 rfl) ?_
        refine x_pget (j := 0) C0 hK hS hq3 hl_p (by decide) kX3_openLowestFreePage_wX0 kX3_openLowestFreePage_f47 dX3_openLowestFreePage_35 ?_
        refine lv_iconst (v := (-1)) hx hb dX3_openLowestFreePage_38 (by decide) ?_
        refine lv_icmp_ne (tgt := 49) hx hb dX3_openLowestFreePage_39 (by decide) (fun c39 => ?_) (fun c39 => ?_)
        · refine lv_iinc (v := nI (q + 1)) (lv' := [(2, .int (nI (q + 1))), (3, .ref (ad (16 + q))), (0, .ref (ad 0)), (1, .int t0)]) hx hb dX3_openLowestFreePage_49 hl (k := 3) rfl (nI_1 q) (by decide) rfl (fun ls hl => ?_)
          refine lv_goto (tgt := 2) hx hb dX3_openLowestFreePage_52 (by decide) ?_
          exact ih (q + 1) (by omega) (by omega) (by rw [hF, show 60 - q = (60 - (q + 1)) + 1 by omega]; simp only [o_l]; rw [if_neg c39]) ls (lv_sub hl [2, 3, 0] rfl)
        · refine lv_aload_n hx hb dX3_openLowestFreePage_42 rfl (lv_at hl 0 rfl) ?_
          refine lv_iload_n hx hb dX3_openLowestFreePage_43 rfl (lv_at hl 2 rfl) ?_
          refine x_callw hS (x_rV C0 hl.1 hK hS (c_X0_reset l G ad R N tl T pl P X q t0 hq3 hl_p) (x_con_p hq3 hl_p) rfl gX3_openLowestFreePage_X0_reset 1 rfl rfl rfl (by decide +kernel) ⟨Nat.le_of_ble_eq_true rfl, Nat.le_of_ble_eq_true rfl⟩ rfl rfl (Nat.le_of_ble_eq_true rfl) dX3_openLowestFreePage_44 ⟨Nat.le_of_ble_eq_true rfl, Nat.le_of_ble_eq_true rfl⟩) (fun H locs hS => ?_)
          show W _ _ _ _ _ _ _ _ _ _ _ _ _ _ _ (F0 m 47 ls [])
          refine lv_iload_n hx hb dX3_openLowestFreePage_47 rfl (lv_at hl 3 rfl) ?_
          refine W.widen (k := 2) (n := 502) (by omega) (by omega) ?_
          exact x_ereti C0 hS (by rw [hF, show 60 - q = (60 - (q + 1)) + 1 by omega]; simp only [o_l]; rw [if_pos c39]; exact ⟨by omega, rfl, fun _ _ _ => rfl, fun _ => rfl, by rw [va_up_t hl_p]⟩) dX3_openLowestFreePage_48
      · refine lv_astore_nN (lv' := [(3, .null), (0, .ref (ad 0)), (1, .int t0), (2, .int (nI q))]) hx hb dX3_openLowestFreePage_14 rfl hl (by decide) rfl (fun ls hl => ?_)
        refine lv_aload_nN hx hb dX3_openLowestFreePage_15 rfl (lv_at hl 0 rfl) ?_
        refine lv_ifnonnullN hx hb dX3_openLowestFreePage_16 ?_
        refine x_new (ci := 0) (N := 6) (C := RX0) (T := TX0) (fs := [.int 0, .int 0, .int 0, .int 0, .int 0, .null]) C0 hK hS (16 + q) (x_con_pn hq3 hl_p) (by omega) tyX0 tyX0_ok rfl kX3_openLowestFreePage_wX0 kX3_openLowestFreePage_nw0 kX3_openLowestFreePage_nw1 kX3_openLowestFreePage_nw2 (fun j hj => by rcases (show j = 0 ∨ j = 1 ∨ j = 2 ∨ j = 3 ∨ j = 4 ∨ j = 5 by omega) with rfl | rfl | rfl | rfl | rfl | rfl <;> rfl) (Nat.le_of_ble_eq_true rfl) (Nat.le_of_ble_eq_true rfl) dX3_openLowestFreePage_19 (fun q1 H hS => ?_)
        refine lv_dup hx hb dX3_openLowestFreePage_22 rfl ?_
        refine x_calle hS (x_rIN (As := []) C0 hl.1 hK hS (c_X0_init l G (va_up ad (16 + q) q1) (x_up (x_con G ad R N tl T pl P X) (16 + q) (.inr (0, [.int 0, .int 0, .int 0, .int 0, .int 0, .null]))) (16 + q) (76 + q) q1 (va_up_self _ _ _) (by omega) x_up_s (by rw [x_up_n (by omega)]; exact x_con_bn hq3 hl_p) (by omega)) gX3_openLowestFreePage_X0_init_n182 0 rfl rfl rfl (host := RX3) (by decide +kernel) kX3_openLowestFreePage_i182 kX3_openLowestFreePage_n182 rfl (by decide +kernel) ⟨Nat.le_of_ble_eq_true rfl, Nat.le_of_ble_eq_true rfl⟩ rfl rfl (Nat.le_of_ble_eq_true rfl) dX3_openLowestFreePage_23 ⟨Nat.le_of_ble_eq_true rfl, Nat.le_of_ble_eq_true rfl⟩) (fun ad1 con1 v H locs hv hS => ?_)
        obtain ⟨rfl, q2, rfl, rfl⟩ := hv
        rw [x_up_sw (show 76 + q ≠ 16 + q by omega), x_up_up] at hS
        obtain ⟨ad1, ead1⟩ : ∃ z, z = va_up (va_up ad (16 + q) q1) (76 + q) q2 := ⟨_, rfl⟩
        have had : ∀ k, k ≠ 16 + q → k ≠ 76 + q → ad1 k = ad k := fun k h1 h2 => by rw [ead1, va_up_ne _ _ h2, va_up_ne _ _ h1]
        have eq1 : q1 = ad1 (16 + q) := by rw [ead1, va_up_ne _ _ (by omega), va_up_self]
        have eq2 : q2 = ad1 (76 + q) := by rw [ead1, va_up_self]
        have hcon : x_con G ad R N tl T pl P X = x_con G ad1 R N tl T pl P X := (x_con_ad (fun k hk => had k (by omega) (by omega)) (fun i hi _ => had _ (by omega) (by omega)) (fun p hp hpl => ⟨had _ (by intro e; rw [show p = q by omega, hl_p] at hpl; cases hpl) (by omega), had _ (by omega) (by intro e; rw [show p = q by omega, hl_p] at hpl; cases hpl)⟩) hD.2.2 hD.2.1).symm
        rw [← ead1, hcon, eq2] at hS
        have e0 : ad 0 = ad1 0 := (had 0 (by omega) (by omega)).symm
        rw [e0] at hl
        rw [eq1]
        show W _ _ _ _ _ _ _ _ _ _ _ _ _ _ _ (F0 m 26 ls [.ref (ad1 (16 + q))])
        refine lv_astore_n (lv' := [(3, .ref (ad1 (16 + q))), (0, .ref (ad1 0)), (1, .int t0), (2, .int (nI q))]) hx hb dX3_openLowestFreePage_26 rfl hl (by decide) rfl (fun ls hl => ?_)
        refine lv_aload_n hx hb dX3_openLowestFreePage_27 rfl (lv_at hl 1 rfl) ?_
        refine x_get (k := 0) (ci := 3) (N := 3) (j := 2) (C := RX3) (T := TX3) (v := .ref (ad1 3)) C0 hK hS (by rw [x_up_n (by omega), x_up_n (by omega)]; exact x_con_0 (by omega)) rfl kX3_openLowestFreePage_wX3 (by decide) kX3_openLowestFreePage_f24 rfl dX3_openLowestFreePage_28 ?_
        refine lv_iload_n hx hb dX3_openLowestFreePage_31 rfl (lv_at hl 3 rfl) ?_
        refine lv_aload_n hx hb dX3_openLowestFreePage_32 rfl (lv_at hl 0 rfl) ?_
        refine x_astP (k := 3) (kv := 16 + q) C0 hK hS (by rw [x_up_n (by omega), x_up_n (by omega)]; exact x_con_0 (by omega)) x_up_s (vp_in_nI hq3 (by omega)) dX3_openLowestFreePage_33 (fun H locs hS => ?_)
        have hPq : P q = pg_new := hD.1 q hl_p
        rw [nI_clamp (by omega), x_con_newpg hq3 hl_p hPq] at hS
        have hl_n : va_up pl q true q = true := va_up_self _ _ _
        refine lv_aload_n hx hb dX3_openLowestFreePage_34 rfl (lv_at hl 0 rfl) ?_
        refine x_pget (j := 0) C0 hK hS hq3 hl_n (by decide) kX3_openLowestFreePage_wX0 kX3_openLowestFreePage_f47 dX3_openLowestFreePage_35 ?_
        rw [hPq]
        refine lv_iconst (v := (-1)) hx hb dX3_openLowestFreePage_38 (by decide) ?_
        refine lv_icmp_ne (tgt := 49) hx hb dX3_openLowestFreePage_39 (by decide) (fun c39 => absurd rfl c39) (fun c39 => ?_)
        refine lv_aload_n hx hb dX3_openLowestFreePage_42 rfl (lv_at hl 0 rfl) ?_
        refine lv_iload_n hx hb dX3_openLowestFreePage_43 rfl (lv_at hl 2 rfl) ?_
        refine x_callw hS (x_rV C0 hl.1 hK hS (c_X0_reset l G ad1 R N tl T (va_up pl q true) P X q t0 hq3 hl_n) (x_con_p hq3 hl_n) rfl gX3_openLowestFreePage_X0_reset 1 rfl rfl rfl (by decide +kernel) ⟨Nat.le_of_ble_eq_true rfl, Nat.le_of_ble_eq_true rfl⟩ rfl rfl (Nat.le_of_ble_eq_true rfl) dX3_openLowestFreePage_44 ⟨Nat.le_of_ble_eq_true rfl, Nat.le_of_ble_eq_true rfl⟩) (fun H locs hS => ?_)
        show W _ _ _ _ _ _ _ _ _ _ _ _ _ _ _ (F0 m 47 ls [])
        refine lv_iload_n hx hb dX3_openLowestFreePage_47 rfl (lv_at hl 3 rfl) ?_
        refine W.widen (k := 2) (n := 502) (by omega) (by omega) ?_
        exact x_ereti C0 hS (by rw [hF, show 60 - q = (60 - (q + 1)) + 1 by omega]; simp only [o_l]; rw [if_pos (by rw [hPq]; rfl)]; exact ⟨by omega, rfl, had, (fun h => absurd (hl_p.symm.trans h) (by decide)), rfl⟩) dX3_openLowestFreePage_48
set_option maxHeartbeats 4000000 in
set_option maxRecDepth 100000 in
/-- openLowestFreePage -/
theorem c_X3_openLowestFreePage (l : Launch) (G : x_G) (ad : Nat → Nat) (R : Nat → Nat → Int32) (N : Nat → Int64) (tl : Nat → Bool) (T : Nat → Nat → Int32) (pl : Nat → Bool) (P : Nat → Nat → Int32) (X : Nat → Option va_E) (t0 : Int32) (hD : D_ok tl pl P) : Met l yX3_openLowestFreePage wsX3_openLowestFreePage ({ frames := 2, cells := 2, slots := 502, locals := 40 } : Room) (x_Pc G ad (x_con G ad R N tl T pl P X) [.ref (ad 0), .int t0]) (x_Qe G (o_post G ad R N tl T pl P X t0 (o_l P 60 0))) 2 502 (x_A G) := by
  refine x_met (cc := cX3_openLowestFreePage) (maxL := 4) (ret := (some .int)) (by decide) rfl _ (Nat.le_of_ble_eq_true rfl) ?_
  intro p e s m args below meth c C0 hini hK hS ls hl
  have hl : lv_has ls 4 [(0, .ref (ad 0)), (1, .int t0)] := hl
  obtain ⟨hx, hb, hr, hml, hown, hts, hlk⟩ := id C0
  refine lv_iconst (v := 0) hx hb dX3_openLowestFreePage_0 (by decide) ?_
  refine lv_istore_n (lv' := [(2, .int 0), (0, .ref (ad 0)), (1, .int t0)]) hx hb dX3_openLowestFreePage_1 rfl hl (by decide) rfl (fun ls hl => ?_)
  exact l_X3_open C0 hK hD hS 61 0 (by omega) (by omega) rfl ls (lv_sub hl [1, 2, 0] rfl)
