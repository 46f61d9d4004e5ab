-- ===== the calls that make cells =====
def cr_s (tl : aB) (T : aR) (pl : aB) (P : aR) (t n x : Int32) : aB × aR × aB × aR := match cr_o tl P t n x with
  | none => (tl, T, pl, P)
  | some q => (va_up tl t.toNatClampNeg true, va_up T t.toNatClampNeg (tb_Z q n x), va_up pl q true, va_up P q (pg_rs (P q) t))
theorem cr_post_s {G : x_G} {ad : Nat → Nat} {R : aR} {N : aN} {tl : aB} {T : aR} {pl : aB} {P : aR} {X : Nat → Option va_E} {t n x : Int32} {ad1 : Nat → Nat} {con1 : Nat → Option va_E} {v : Option Value} (h : cr_post G ad R N tl T pl P X t n x (cr_o tl P t n x) ad1 con1 v) : v = some (.int (zb (cr_o tl P t n x).isSome)) ∧ (∀ k, k < 8 ∨ 136 ≤ k → ad1 k = ad k) ∧ con1 = x_con G ad1 R N (cr_s tl T pl P t n x).1 (cr_s tl T pl P t n x).2.1 (cr_s tl T pl P t n x).2.2.1 (cr_s tl T pl P t n x).2.2.2 X := by
  obtain ⟨h1, h2, h3⟩ := h
  refine ⟨h1, h2, ?_⟩
  unfold cr_s
  cases ho : cr_o tl P t n x with
  | none => rw [ho] at h3; exact h3
  | some q => rw [ho] at h3; exact h3
set_option maxHeartbeats 4000000 in
set_option maxRecDepth 100000 in
/-- the law at create -/
theorem lwc_create {p : Program} {l : Launch} {e : Env} {s : State} {m : MethodId} {below : List Frame} {meth : Method} {c : Code} {H : Heap} {locs : List Loc} {cells slots : Nat} {Q : State → Prop} {G : x_G} {ad : Nat → Nat} {R : aR} {N : aN} {tl : aB} {T : aR} {pl : aB} {P : aR} {M : aR} {V : aN} {b L i : Nat} {xs : Nat → Int32} (C0 : x_B p s m meth c #[Value.ref b] cL_law 4 ret RL lw_tbl) (hK : x_K G s) (hX : va_X b L xs s G.2.1) (hbl : b < G.2.1.size) (hi : i + 4 < L) (hL : L ≤ 2560) (hD : D_ok tl pl P) (hS : x_H G ad (w_con G ad R N tl T pl P M V) H locs) (hrc : cells + 3 ≤ 600000) (hrs : slots + 505 ≤ 7302250) (hE : (cr_o tl P (xs (i + 1)) (xs (i + 2)) (xs (i + 3))).isSome = y_cr M (xs (i + 1)) (xs (i + 2)) (xs (i + 3))) {ls : Array Slot} (hl : lv_has ls 4 [(0, .ref b), (1, .ref (ad 0)), (2, .ref (ad 200)), (3, .int (nI i))]) (hkk : ∀ (ad1 : Nat → Nat) (H : Heap) (locs : List Loc), x_H G ad1 (w_con G ad1 R N (cr_s tl T pl P (xs (i + 1)) (xs (i + 2)) (xs (i + 3))).1 (cr_s tl T pl P (xs (i + 1)) (xs (i + 2)) (xs (i + 3))).2.1 (cr_s tl T pl P (xs (i + 1)) (xs (i + 2)) (xs (i + 3))).2.2.1 (cr_s tl T pl P (xs (i + 1)) (xs (i + 2)) (xs (i + 3))).2.2.2 (y_crM M (xs (i + 1)) (xs (i + 2)) (xs (i + 3))) V) H locs → lv_has ls 4 [(0, .ref b), (1, .ref (ad1 0)), (2, .ref (ad1 200)), (3, .int (nI i))] → W p l e room_1 s m #[Value.ref b] below meth c H locs (cells + 3) (slots + 505) Q (F0 m 679 ls [])) : W p l e room_1 s m #[Value.ref b] below meth c H locs cells slots Q (F0 m 112 ls []) := by
  obtain ⟨hx, hb, hr, hml, hown, hts, hlk⟩ := id C0
  have hrc : cells + 3 ≤ room_1.cells := hrc
  have hrs : slots + 505 ≤ room_1.slots := hrs
  refine lv_aload_n hx hb dL_law_112 rfl (lv_at hl 1 rfl) ?_
  refine lv_aload_n hx hb dL_law_113 rfl (lv_at hl 0 rfl) ?_
  refine lv_iload_n hx hb dL_law_114 rfl (lv_at hl 3 rfl) ?_
  refine lv_iconst (v := 1) hx hb dL_law_115 (by decide) ?_
  refine lv_iadd hx hb dL_law_116 ?_
  refine lw_ld C0 hX hbl hS hi hL 1 (by decide) (nI_a i).1 dL_law_117 ?_
  refine lv_aload_n hx hb dL_law_118 rfl (lv_at hl 0 rfl) ?_
  refine lv_iload_n hx hb dL_law_119 rfl (lv_at hl 3 rfl) ?_
  refine lv_iconst (v := 2) hx hb dL_law_120 (by decide) ?_
  refine lv_iadd hx hb dL_law_121 ?_
  refine lw_ld C0 hX hbl hS hi hL 2 (by decide) (nI_a i).2.1 dL_law_122 ?_
  refine lv_aload_n hx hb dL_law_123 rfl (lv_at hl 0 rfl) ?_
  refine lv_iload_n hx hb dL_law_124 rfl (lv_at hl 3 rfl) ?_
  refine lv_iconst (v := 3) hx hb dL_law_125 (by decide) ?_
  refine lv_iadd hx hb dL_law_126 ?_
  refine lw_ld C0 hX hbl hS hi hL 3 (by decide) (nI_a i).2.2.1 dL_law_127 ?_
  refine x_calle hS (x_rV C0 hl.1 hK hS (c_X3_create l G ad R N tl T pl P (x_mcon G ad M V) (xs (i + 1)) (xs (i + 2)) (xs (i + 3)) hD) (x_con_0 (by decide)) rfl gq_X3_create 3 rfl rfl rfl (by decide +kernel) ⟨Nat.le_of_ble_eq_true rfl, Nat.le_of_ble_eq_true rfl⟩ rfl rfl (Nat.le_of_ble_eq_true rfl) dL_law_128 ⟨by omega, by omega⟩) (fun ad1 con1 v1 H locs hpost hS => ?_)
  obtain ⟨ev, had, hcon⟩ := cr_post_s hpost
  subst ev
  rw [hcon, w_mad (fun k hk => had k (Or.inr hk))] at hS
  rw [← had 0 (Or.inl (by decide)), ← had 200 (Or.inr (by omega))] at hl
  show W _ _ _ _ _ _ _ _ _ _ _ _ _ _ _ (F0 m 131 ls [.int (zb (cr_o tl P (xs (i + 1)) (xs (i + 2)) (xs (i + 3))).isSome)])
  have hS := w_toy hS
  refine lv_aload_n hx hb dL_law_131 rfl (lv_at hl 2 rfl) ?_
  refine lv_aload_n hx hb dL_law_132 rfl (lv_at hl 0 rfl) ?_
  refine lv_iload_n hx hb dL_law_133 rfl (lv_at hl 3 rfl) ?_
  refine lv_iconst (v := 1) hx hb dL_law_134 (by decide) ?_
  refine lv_iadd hx hb dL_law_135 ?_
  refine lw_ld C0 hX hbl hS hi hL 1 (by decide) (nI_a i).1 dL_law_136 ?_
  refine lv_aload_n hx hb dL_law_137 rfl (lv_at hl 0 rfl) ?_
  refine lv_iload_n hx hb dL_law_138 rfl (lv_at hl 3 rfl) ?_
  refine lv_iconst (v := 2) hx hb dL_law_139 (by decide) ?_
  refine lv_iadd hx hb dL_law_140 ?_
  refine lw_ld C0 hX hbl hS hi hL 2 (by decide) (nI_a i).2.1 dL_law_141 ?_
  refine lv_aload_n hx hb dL_law_142 rfl (lv_at hl 0 rfl) ?_
  refine lv_iload_n hx hb dL_law_143 rfl (lv_at hl 3 rfl) ?_
  refine lv_iconst (v := 3) hx hb dL_law_144 (by decide) ?_
  refine lv_iadd hx hb dL_law_145 ?_
  refine lw_ld C0 hX hbl hS hi hL 3 (by decide) (nI_a i).2.2.1 dL_law_146 ?_
  refine x_callw hS (x_rV C0 hl.1 hK hS (c_X4_create l G ad1 (w_D G ad1 R N (cr_s tl T pl P (xs (i + 1)) (xs (i + 2)) (xs (i + 3))).1 (cr_s tl T pl P (xs (i + 1)) (xs (i + 2)) (xs (i + 3))).2.1 (cr_s tl T pl P (xs (i + 1)) (xs (i + 2)) (xs (i + 3))).2.2.1 (cr_s tl T pl P (xs (i + 1)) (xs (i + 2)) (xs (i + 3))).2.2.2) M V (xs (i + 1)) (xs (i + 2)) (xs (i + 3))) (k := 200) rfl rfl gq_X4_create 3 rfl rfl rfl (by decide +kernel) ⟨Nat.le_of_ble_eq_true rfl, Nat.le_of_ble_eq_true rfl⟩ rfl rfl (Nat.le_of_ble_eq_true rfl) dL_law_147 ⟨by omega, by omega⟩) (fun H locs hS => ?_)
  show W _ _ _ _ _ _ _ _ _ _ _ _ _ _ _ (F0 m 150 ls [.int (zb (y_cr M (xs (i + 1)) (xs (i + 2)) (xs (i + 3)))), .int (zb (cr_o tl P (xs (i + 1)) (xs (i + 2)) (xs (i + 3))).isSome)])
  have hS := w_ofy hS
  rw [hE]
  refine lv_icmp_eq (tgt := 679) hx hb dL_law_150 (by decide) (fun _ => ?_) (fun h => absurd rfl h)
  exact hkk ad1 H locs hS hl
set_option maxHeartbeats 4000000 in
set_option maxRecDepth 100000 in
/-- the law at put -/
theorem lwc_put {p : Program} {l : Launch} {e : Env} {s : State} {m : MethodId} {below : List Frame} {meth : Method} {c : Code} {H : Heap} {locs : List Loc} {cells slots : Nat} {Q : State → Prop} {G : x_G} {ad : Nat → Nat} {R : aR} {N : aN} {tl : aB} {T : aR} {pl : aB} {P : aR} {M : aR} {V : aN} {b L i : Nat} {xs : Nat → Int32} (C0 : x_B p s m meth c #[Value.ref b] cL_law 4 ret RL lw_tbl) (hK : x_K G s) (hX : va_X b L xs s G.2.1) (hbl : b < G.2.1.size) (hi : i + 4 < L) (hL : L ≤ 2560) (hD : D_ok tl pl P) (hR : h_ok R) (hT : T_ok tl T) (hP : P_ok pl P) (hmn : M 6 0 = nI (y_mn M)) (hm : y_mn M < 514) (hH : H_ok M) (hTy : Ty_ok M) (hC : C_ok M) (hSl : Sl_ok M) (hF : F_ok M) (hFi : Fi_ok M) (hS : x_H G ad (w_con G ad R N tl T pl P M V) H locs) (hrc : cells + 3 ≤ 600000) (hrs : slots + 505 ≤ 7302250) (hE : (pt_r R N tl T pl P (xs (i + 1)) (xs (i + 2)) (xs (i + 3)) (xs (i + 4))).1 = (y_put M (y_mn M) (xs (i + 1)) (xs (i + 2)) (xs (i + 3)) (xs (i + 4))).1) {ls : Array Slot} (hl : lv_has ls 4 [(0, .ref b), (1, .ref (ad 0)), (2, .ref (ad 200)), (3, .int (nI i))]) (hkk : ∀ (ad1 : Nat → Nat) (H : Heap) (locs : List Loc), x_H G ad1 (w_con G ad1 R N tl T (pt_r R N tl T pl P (xs (i + 1)) (xs (i + 2)) (xs (i + 3)) (xs (i + 4))).2.1 (pt_r R N tl T pl P (xs (i + 1)) (xs (i + 2)) (xs (i + 3)) (xs (i + 4))).2.2 ((y_put M (y_mn M) (xs (i + 1)) (xs (i + 2)) (xs (i + 3)) (xs (i + 4))).2) V) H locs → lv_has ls 4 [(0, .ref b), (1, .ref (ad1 0)), (2, .ref (ad1 200)), (3, .int (nI i))] → W p l e room_1 s m #[Value.ref b] below meth c H locs (cells + 2) (slots + 502) Q (F0 m 679 ls [])) : W p l e room_1 s m #[Value.ref b] below meth c H locs cells slots Q (F0 m 325 ls []) := by
  obtain ⟨hx, hb, hr, hml, hown, hts, hlk⟩ := id C0
  have hrc : cells + 3 ≤ room_1.cells := hrc
  have hrs : slots + 505 ≤ room_1.slots := hrs
  refine lv_aload_n hx hb dL_law_325 rfl (lv_at hl 1 rfl) ?_
  refine lv_aload_n hx hb dL_law_326 rfl (lv_at hl 0 rfl) ?_
  refine lv_iload_n hx hb dL_law_327 rfl (lv_at hl 3 rfl) ?_
  refine lv_iconst (v := 1) hx hb dL_law_328 (by decide) ?_
  refine lv_iadd hx hb dL_law_329 ?_
  refine lw_ld C0 hX hbl hS hi hL 1 (by decide) (nI_a i).1 dL_law_330 ?_
  refine lv_aload_n hx hb dL_law_331 rfl (lv_at hl 0 rfl) ?_
  refine lv_iload_n hx hb dL_law_332 rfl (lv_at hl 3 rfl) ?_
  refine lv_iconst (v := 2) hx hb dL_law_333 (by decide) ?_
  refine lv_iadd hx hb dL_law_334 ?_
  refine lw_ld C0 hX hbl hS hi hL 2 (by decide) (nI_a i).2.1 dL_law_335 ?_
  refine lv_aload_n hx hb dL_law_336 rfl (lv_at hl 0 rfl) ?_
  refine lv_iload_n hx hb dL_law_337 rfl (lv_at hl 3 rfl) ?_
  refine lv_iconst (v := 3) hx hb dL_law_338 (by decide) ?_
  refine lv_iadd hx hb dL_law_339 ?_
  refine lw_ld C0 hX hbl hS hi hL 3 (by decide) (nI_a i).2.2.1 dL_law_340 ?_
  refine lv_aload_n hx hb dL_law_341 rfl (lv_at hl 0 rfl) ?_
  refine lv_iload_n hx hb dL_law_342 rfl (lv_at hl 3 rfl) ?_
  refine lv_iconst (v := 4) hx hb dL_law_343 (by decide) ?_
  refine lv_iadd hx hb dL_law_344 ?_
  refine lw_ld C0 hX hbl hS hi hL 4 (by decide) (nI_a i).2.2.2.1 dL_law_345 ?_
  refine x_calle hS (x_rV C0 hl.1 hK hS (c_X3_put l G ad R N tl T pl P (x_mcon G ad M V) (xs (i + 1)) (xs (i + 2)) (xs (i + 3)) (xs (i + 4)) hR hT hD hP) (x_con_0 (by decide)) rfl gq_X3_put 4 rfl rfl rfl (by decide +kernel) ⟨Nat.le_of_ble_eq_true rfl, Nat.le_of_ble_eq_true rfl⟩ rfl rfl (Nat.le_of_ble_eq_true rfl) dL_law_346 ⟨by omega, by omega⟩) (fun ad1 con1 v1 H locs hpost hS => ?_)
  obtain ⟨ev, had, hcon⟩ := id hpost
  subst ev
  rw [hcon, w_mad (fun k hk => had k (Or.inr hk))] at hS
  rw [← had 0 (Or.inl (by decide)), ← had 200 (Or.inr (by omega))] at hl
  show W _ _ _ _ _ _ _ _ _ _ _ _ _ _ _ (F0 m 349 ls [.int ((pt_r R N tl T pl P (xs (i + 1)) (xs (i + 2)) (xs (i + 3)) (xs (i + 4))).1)])
  have hS := w_toy hS
  refine lv_aload_n hx hb dL_law_349 rfl (lv_at hl 2 rfl) ?_
  refine lv_aload_n hx hb dL_law_350 rfl (lv_at hl 0 rfl) ?_
  refine lv_iload_n hx hb dL_law_351 rfl (lv_at hl 3 rfl) ?_
  refine lv_iconst (v := 1) hx hb dL_law_352 (by decide) ?_
  refine lv_iadd hx hb dL_law_353 ?_
  refine lw_ld C0 hX hbl hS hi hL 1 (by decide) (nI_a i).1 dL_law_354 ?_
  refine lv_aload_n hx hb dL_law_355 rfl (lv_at hl 0 rfl) ?_
  refine lv_iload_n hx hb dL_law_356 rfl (lv_at hl 3 rfl) ?_
  refine lv_iconst (v := 2) hx hb dL_law_357 (by decide) ?_
  refine lv_iadd hx hb dL_law_358 ?_
  refine lw_ld C0 hX hbl hS hi hL 2 (by decide) (nI_a i).2.1 dL_law_359 ?_
  refine lv_aload_n hx hb dL_law_360 rfl (lv_at hl 0 rfl) ?_
  refine lv_iload_n hx hb dL_law_361 rfl (lv_at hl 3 rfl) ?_
  refine lv_iconst (v := 3) hx hb dL_law_362 (by decide) ?_
  refine lv_iadd hx hb dL_law_363 ?_
  refine lw_ld C0 hX hbl hS hi hL 3 (by decide) (nI_a i).2.2.1 dL_law_364 ?_
  refine lv_aload_n hx hb dL_law_365 rfl (lv_at hl 0 rfl) ?_
  refine lv_iload_n hx hb dL_law_366 rfl (lv_at hl 3 rfl) ?_
  refine lv_iconst (v := 4) hx hb dL_law_367 (by decide) ?_
  refine lv_iadd hx hb dL_law_368 ?_
  refine lw_ld C0 hX hbl hS hi hL 4 (by decide) (nI_a i).2.2.2.1 dL_law_369 ?_
  refine x_callw hS (x_rV C0 hl.1 hK hS (c_X4_put l G ad1 (w_D G ad1 R N tl T (pt_r R N tl T pl P (xs (i + 1)) (xs (i + 2)) (xs (i + 3)) (xs (i + 4))).2.1 (pt_r R N tl T pl P (xs (i + 1)) (xs (i + 2)) (xs (i + 3)) (xs (i + 4))).2.2) M V (xs (i + 1)) (xs (i + 2)) (xs (i + 3)) (xs (i + 4)) (y_mn M) hmn hm hH hTy hC hSl hF hFi) (k := 200) rfl rfl gq_X4_put 4 rfl rfl rfl (by decide +kernel) ⟨Nat.le_of_ble_eq_true rfl, Nat.le_of_ble_eq_true rfl⟩ rfl rfl (Nat.le_of_ble_eq_true rfl) dL_law_370 ⟨by omega, by omega⟩) (fun H locs hS => ?_)
  show W _ _ _ _ _ _ _ _ _ _ _ _ _ _ _ (F0 m 373 ls [.int ((y_put M (y_mn M) (xs (i + 1)) (xs (i + 2)) (xs (i + 3)) (xs (i + 4))).1), .int ((pt_r R N tl T pl P (xs (i + 1)) (xs (i + 2)) (xs (i + 3)) (xs (i + 4))).1)])
  have hS := w_ofy hS
  rw [hE]
  refine lv_icmp_eq (tgt := 679) hx hb dL_law_373 (by decide) (fun _ => ?_) (fun h => absurd rfl h)
  exact hkk ad1 H locs hS hl
def lk_create (Sim : Nat → aS) : Prop := ∀ (k : Nat) (R : aR) (N : aN) (tl : aB) (T : aR) (pl : aB) (P : aR) (M : aR) (V : aN) (t n x : Int32), k < 512 → Sim k R N tl T pl P M V → (cr_o tl P t n x).isSome = y_cr M t n x ∧ Sim (k + 1) R N (cr_s tl T pl P t n x).1 (cr_s tl T pl P t n x).2.1 (cr_s tl T pl P t n x).2.2.1 (cr_s tl T pl P t n x).2.2.2 (y_crM M t n x) V
def lk_drop (Sim : Nat → aS) : Prop := ∀ (k : Nat) (R : aR) (N : aN) (tl : aB) (T : aR) (pl : aB) (P : aR) (M : aR) (V : aN) (t : Int32), k < 512 → Sim k R N tl T pl P M V → d_tb tl t = y_th M t ∧ Sim (k + 1) R N (d_drt tl t) T pl (d_drP tl pl P t) (y_drM M (y_mn M) t) V
def lk_clear (Sim : Nat → aS) : Prop := ∀ (k : Nat) (R : aR) (N : aN) (tl : aB) (T : aR) (pl : aB) (P : aR) (M : aR) (V : aN), k < 512 → Sim k R N tl T pl P M V → Sim (k + 1) (h_cl R) N tl T pl P (y_cl M 8) V
def lk_cell (Sim : Nat → aS) : Prop := ∀ (k : Nat) (R : aR) (N : aN) (tl : aB) (T : aR) (pl : aB) (P : aR) (M : aR) (V : aN) (c : Int32) (v : Int64), k < 512 → Sim k R N tl T pl P M V → d_in c (nI 8) = m_in c 0 (nI 7) ∧ Sim (k + 1) (h_snR R c) (h_snN N c v) tl T pl P (y_clM M c (y_sn M + 1)) (y_clV V c (y_sn M + 1) v)
def lk_text (Sim : Nat → aS) : Prop := ∀ (k : Nat) (R : aR) (N : aN) (tl : aB) (T : aR) (pl : aB) (P : aR) (M : aR) (V : aN) (c n : Int32) (v : Int64), k < 512 → Sim k R N tl T pl P M V → d_tx R c n = y_tk M c n ∧ Sim (k + 1) (d_txR R c v n) N tl T pl P (y_tkM M c n (y_sn M + 1)) (y_tkV M V c n (y_sn M + 1) v)
def lk_put (Sim : Nat → aS) : Prop := ∀ (k : Nat) (R : aR) (N : aN) (tl : aB) (T : aR) (pl : aB) (P : aR) (M : aR) (V : aN) (t n a b : Int32), k < 512 → Sim k R N tl T pl P M V → (pt_r R N tl T pl P t n a b).1 = (y_put M (y_mn M) t n a b).1 ∧ Sim (k + 1) R N tl T (pt_r R N tl T pl P t n a b).2.1 (pt_r R N tl T pl P t n a b).2.2 (y_put M (y_mn M) t n a b).2 V
def lk_get (Sim : Nat → aS) : Prop := ∀ (k : Nat) (R : aR) (N : aN) (tl : aB) (T : aR) (pl : aB) (P : aR) (M : aR) (V : aN) (q : Int32), k < 512 → Sim k R N tl T pl P M V → d_gt tl pl P q = !decide (y_fd M q (y_mn M) < 0) ∧ Sim (k + 1) (d_gtR tl pl T P q R) (d_gtN tl pl T P q N) tl T pl P (y_gt M (y_fd M q (y_mn M)) 8) V
def lk_end (Sim : Nat → aS) : Prop := ∀ (k : Nat) (R : aR) (N : aN) (tl : aB) (T : aR) (pl : aB) (P : aR) (M : aR) (V : aN) (q b c : Int32), k < 512 → Sim k R N tl T pl P M V → d_en pl P q b c = y_en M (y_fd M q (y_mn M)) b c ∧ Sim (k + 1) R N tl T pl (d_enP pl P q b c) (y_enM M (y_fd M q (y_mn M)) b c) V
def lk_behind (Sim : Nat → aS) : Prop := ∀ (k : Nat) (R : aR) (N : aN) (tl : aB) (T : aR) (pl : aB) (P : aR) (M : aR) (V : aN) (q o : Int32), k < 512 → Sim k R N tl T pl P M V → d_bh pl P q o = y_bh M (y_fd M q (y_mn M)) o ∧ Sim (k + 1) R N tl T pl (d_bhP pl P q o) (y_bhM M (y_fd M q (y_mn M)) o) V
def lk_take (Sim : Nat → aS) : Prop := ∀ (k : Nat) (R : aR) (N : aN) (tl : aB) (T : aR) (pl : aB) (P : aR) (M : aR) (V : aN) (q : Int32), k < 512 → Sim k R N tl T pl P M V → d_wv pl P q = !decide (y_fd M q (y_mn M) < 0) ∧ Sim (k + 1) R N tl T pl (d_tkP tl pl T P q) (y_taM M (y_mn M) q (y_fd M q (y_mn M))) V
def lk_look (Sim : Nat → aS) : Prop := ∀ (k : Nat) (R : aR) (N : aN) (tl : aB) (T : aR) (pl : aB) (P : aR) (M : aR) (V : aN) (q w : Int32), k < 512 → Sim k R N tl T pl P M V → d_lk pl P q w = y_lk M (y_fd M q (y_mn M)) q w
def lk_next (Sim : Nat → aS) : Prop := ∀ (k : Nat) (R : aR) (N : aN) (tl : aB) (T : aR) (pl : aB) (P : aR) (M : aR) (V : aN) (t q : Int32), k < 512 → Sim k R N tl T pl P M V → d_nx tl pl T P t q = y_nx M (y_mn M) t q
def lk_value (Sim : Nat → aS) : Prop := ∀ (k : Nat) (R : aR) (N : aN) (tl : aB) (T : aR) (pl : aB) (P : aR) (M : aR) (V : aN) (c : Int32), k < 512 → Sim k R N tl T pl P M V → d_val R N c = y_val M V c
def lk_letter (Sim : Nat → aS) : Prop := ∀ (k : Nat) (R : aR) (N : aN) (tl : aB) (T : aR) (pl : aB) (P : aR) (M : aR) (V : aN) (c i : Int32), k < 512 → Sim k R N tl T pl P M V → h_lt R c i = y_lt M V c i
def lk_kind (Sim : Nat → aS) : Prop := ∀ (k : Nat) (R : aR) (N : aN) (tl : aB) (T : aR) (pl : aB) (P : aR) (M : aR) (V : aN) (c : Int32), k < 512 → Sim k R N tl T pl P M V → h_kd R c = y_kd M c
def lk_page (Sim : Nat → aS) : Prop := ∀ (k : Nat) (R : aR) (N : aN) (tl : aB) (T : aR) (pl : aB) (P : aR) (M : aR) (V : aN) (p w : Int32), k < 512 → Sim k R N tl T pl P M V → d_pg pl P p w = y_pg M (y_mn M) p w
def lk_base (Sim : Nat → aS) : Prop := ∀ (k : Nat) (R : aR) (N : aN) (tl : aB) (T : aR) (pl : aB) (P : aR) (M : aR) (V : aN), k < 512 → Sim k R N tl T pl P M V → Bas k R tl T pl P M ∧ Sim (k + 1) R N tl T pl P M V
