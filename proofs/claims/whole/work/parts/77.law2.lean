set_option maxHeartbeats 4000000 in
set_option maxRecDepth 100000 in
/-- the law at drop -/
theorem lwc_drop {p : Program} {l : Launch} {e : Env} {s : State} {m : MethodId} {below : List Frame} {meth : Method} {c : Code} {H : Heap} {locs : List Loc} {cells slots : Nat} {Q : State → Prop} {G : x_G} {ad : Nat → Nat} {R : aR} {N : aN} {tl : aB} {T : aR} {pl : aB} {P : aR} {M : aR} {V : aN} {b L i : Nat} {xs : Nat → Int32} (C0 : x_B p s m meth c #[Value.ref b] cL_law 4 ret RL lw_tbl) (hK : x_K G s) (hX : va_X b L xs s G.2.1) (hbl : b < G.2.1.size) (hi : i + 4 < L) (hL : L ≤ 2560) (hmn : M 6 0 = nI (y_mn M)) (hm : y_mn M < 514) (hPl : Pl_ok M (y_mn M)) (hSh : S_ok M) (hS : x_H G ad (w_con G ad R N tl T pl P M V) H locs) (hrc : cells + 3 ≤ 600000) (hrs : slots + 505 ≤ 7302250) (hE : d_tb tl (xs (i + 1)) = y_th M (xs (i + 1))) {ls : Array Slot} (hl : lv_has ls 4 [(0, .ref b), (1, .ref (ad 0)), (2, .ref (ad 200)), (3, .int (nI i))]) (hkk : ∀ (H : Heap) (locs : List Loc), x_H G ad (w_con G ad R N (d_drt tl (xs (i + 1))) T pl (d_drP tl pl P (xs (i + 1))) (y_drM M (y_mn M) (xs (i + 1))) V) H locs → W p l e room_1 s m #[Value.ref b] below meth c H locs cells slots Q (F0 m 679 ls [])) : W p l e room_1 s m #[Value.ref b] below meth c H locs cells slots Q (F0 m 155 ls []) := by
  obtain ⟨hx, hb, hr, hml, hown, hts, hlk⟩ := id C0
  have hrc : cells + 3 ≤ room_1.cells := hrc
  have hrs : slots + 505 ≤ room_1.slots := hrs
  refine lv_aload_n hx hb dL_law_155 rfl (lv_at hl 1 rfl) ?_
  refine lv_aload_n hx hb dL_law_156 rfl (lv_at hl 0 rfl) ?_
  refine lv_iload_n hx hb dL_law_157 rfl (lv_at hl 3 rfl) ?_
  refine lv_iconst (v := 1) hx hb dL_law_158 (by decide) ?_
  refine lv_iadd hx hb dL_law_159 ?_
  refine lw_ld C0 hX hbl hS hi hL 1 (by decide) (nI_a i).1 dL_law_160 ?_
  refine x_callw hS (x_rV C0 hl.1 hK hS (c_X3_drop l G ad R N tl T pl P (x_mcon G ad M V) (xs (i + 1))) (x_con_0 (by decide)) rfl gq_X3_drop 1 rfl rfl rfl (by decide +kernel) ⟨Nat.le_of_ble_eq_true rfl, Nat.le_of_ble_eq_true rfl⟩ rfl rfl (Nat.le_of_ble_eq_true rfl) dL_law_161 ⟨by omega, by omega⟩) (fun H locs hS => ?_)
  show W _ _ _ _ _ _ _ _ _ _ _ _ _ _ _ (F0 m 164 ls [.int (zb (d_tb tl (xs (i + 1))))])
  have hS := w_toy hS
  refine lv_aload_n hx hb dL_law_164 rfl (lv_at hl 2 rfl) ?_
  refine lv_aload_n hx hb dL_law_165 rfl (lv_at hl 0 rfl) ?_
  refine lv_iload_n hx hb dL_law_166 rfl (lv_at hl 3 rfl) ?_
  refine lv_iconst (v := 1) hx hb dL_law_167 (by decide) ?_
  refine lv_iadd hx hb dL_law_168 ?_
  refine lw_ld C0 hX hbl hS hi hL 1 (by decide) (nI_a i).1 dL_law_169 ?_
  refine x_callw hS (x_rV C0 hl.1 hK hS (c_X4_drop l G ad (w_D G ad R N (d_drt tl (xs (i + 1))) T pl (d_drP tl pl P (xs (i + 1)))) M V (xs (i + 1)) (y_mn M) hmn (by omega) hPl hSh) (k := 200) rfl rfl gq_X4_drop 1 rfl rfl rfl (by decide +kernel) ⟨Nat.le_of_ble_eq_true rfl, Nat.le_of_ble_eq_true rfl⟩ rfl rfl (Nat.le_of_ble_eq_true rfl) dL_law_170 ⟨by omega, by omega⟩) (fun H locs hS => ?_)
  show W _ _ _ _ _ _ _ _ _ _ _ _ _ _ _ (F0 m 173 ls [.int (zb (y_th M (xs (i + 1)))), .int (zb (d_tb tl (xs (i + 1))))])
  have hS := w_ofy hS
  rw [hE]
  refine lv_icmp_eq (tgt := 679) hx hb dL_law_173 (by decide) (fun _ => ?_) (fun h => absurd rfl h)
  exact hkk H locs hS
set_option maxHeartbeats 4000000 in
set_option maxRecDepth 100000 in
/-- the law at clear -/
theorem lwc_clear {p : Program} {l : Launch} {e : Env} {s : State} {m : MethodId} {below : List Frame} {meth : Method} {c : Code} {H : Heap} {locs : List Loc} {cells slots : Nat} {Q : State → Prop} {G : x_G} {ad : Nat → Nat} {R : aR} {N : aN} {tl : aB} {T : aR} {pl : aB} {P : aR} {M : aR} {V : aN} {b L i : Nat} {xs : Nat → Int32} (C0 : x_B p s m meth c #[Value.ref b] cL_law 4 ret RL lw_tbl) (hK : x_K G s) (hX : va_X b L xs s G.2.1) (hbl : b < G.2.1.size) (hi : i + 4 < L) (hL : L ≤ 2560)  (hS : x_H G ad (w_con G ad R N tl T pl P M V) H locs) (hrc : cells + 3 ≤ 600000) (hrs : slots + 505 ≤ 7302250) {ls : Array Slot} (hl : lv_has ls 4 [(0, .ref b), (1, .ref (ad 0)), (2, .ref (ad 200)), (3, .int (nI i))]) (hkk : ∀ (H : Heap) (locs : List Loc), x_H G ad (w_con G ad (h_cl R) N tl T pl P (y_cl M 8) V) H locs → W p l e room_1 s m #[Value.ref b] below meth c H locs cells slots Q (F0 m 679 ls [])) : W p l e room_1 s m #[Value.ref b] below meth c H locs cells slots Q (F0 m 178 ls []) := by
  obtain ⟨hx, hb, hr, hml, hown, hts, hlk⟩ := id C0
  have hrc : cells + 3 ≤ room_1.cells := hrc
  have hrs : slots + 505 ≤ room_1.slots := hrs
  refine lv_aload_n hx hb dL_law_178 rfl (lv_at hl 1 rfl) ?_
  refine x_callw hS (x_rV C0 hl.1 hK hS (c_X3_clear l G ad R N tl T pl P (x_mcon G ad M V) ) (x_con_0 (by decide)) rfl gq_X3_clear 0 rfl rfl rfl (by decide +kernel) ⟨Nat.le_of_ble_eq_true rfl, Nat.le_of_ble_eq_true rfl⟩ rfl rfl (Nat.le_of_ble_eq_true rfl) dL_law_179 ⟨by omega, by omega⟩) (fun H locs hS => ?_)
  show W _ _ _ _ _ _ _ _ _ _ _ _ _ _ _ (F0 m 182 ls [])
  have hS := w_toy hS
  refine lv_aload_n hx hb dL_law_182 rfl (lv_at hl 2 rfl) ?_
  refine x_callw hS (x_rV C0 hl.1 hK hS (c_X4_clear l G ad (w_D G ad (h_cl R) N tl T pl P) M V ) (k := 200) rfl rfl gq_X4_clear 0 rfl rfl rfl (by decide +kernel) ⟨Nat.le_of_ble_eq_true rfl, Nat.le_of_ble_eq_true rfl⟩ rfl rfl (Nat.le_of_ble_eq_true rfl) dL_law_183 ⟨by omega, by omega⟩) (fun H locs hS => ?_)
  show W _ _ _ _ _ _ _ _ _ _ _ _ _ _ _ (F0 m 186 ls [])
  have hS := w_ofy hS
  refine lv_goto (tgt := 679) hx hb dL_law_186 (by decide) ?_
  exact hkk H locs hS
set_option maxHeartbeats 4000000 in
set_option maxRecDepth 100000 in
/-- the law at cell -/
theorem lwc_cell {p : Program} {l : Launch} {e : Env} {s : State} {m : MethodId} {below : List Frame} {meth : Method} {c : Code} {H : Heap} {locs : List Loc} {cells slots : Nat} {Q : State → Prop} {G : x_G} {ad : Nat → Nat} {R : aR} {N : aN} {tl : aB} {T : aR} {pl : aB} {P : aR} {M : aR} {V : aN} {b L i : Nat} {xs : Nat → Int32} (C0 : x_B p s m meth c #[Value.ref b] cL_law 4 ret RL lw_tbl) (hK : x_K G s) (hX : va_X b L xs s G.2.1) (hbl : b < G.2.1.size) (hi : i + 4 < L) (hL : L ≤ 2560) (hst : M 17 0 = nI (y_sn M)) (hs1 : y_sn M < 514) (hS : x_H G ad (w_con G ad R N tl T pl P M V) H locs) (hrc : cells + 3 ≤ 600000) (hrs : slots + 505 ≤ 7302250) (hE : d_in (xs (i + 1)) (nI 8) = m_in (xs (i + 1)) 0 (nI 7)) {ls : Array Slot} (hl : lv_has ls 4 [(0, .ref b), (1, .ref (ad 0)), (2, .ref (ad 200)), (3, .int (nI i))]) (hkk : ∀ (H : Heap) (locs : List Loc), x_H G ad (w_con G ad (h_snR R (xs (i + 1))) (h_snN N (xs (i + 1)) (((xs (i + 2)).toInt64 <<< ((32 : Int32).toInt64 &&& 63)) ||| ((xs (i + 3)).toInt64 &&& 4294967295))) tl T pl P (y_clM M (xs (i + 1)) (y_sn M + 1)) (y_clV V (xs (i + 1)) (y_sn M + 1) (((xs (i + 2)).toInt64 <<< ((32 : Int32).toInt64 &&& 63)) ||| ((xs (i + 3)).toInt64 &&& 4294967295)))) H locs → W p l e room_1 s m #[Value.ref b] below meth c H locs cells slots Q (F0 m 679 ls [])) : W p l e room_1 s m #[Value.ref b] below meth c H locs cells slots Q (F0 m 189 ls []) := by
  obtain ⟨hx, hb, hr, hml, hown, hts, hlk⟩ := id C0
  have hrc : cells + 3 ≤ room_1.cells := hrc
  have hrs : slots + 505 ≤ room_1.slots := hrs
  refine lv_aload_n hx hb dL_law_189 rfl (lv_at hl 1 rfl) ?_
  refine lv_aload_n hx hb dL_law_190 rfl (lv_at hl 0 rfl) ?_
  refine lv_iload_n hx hb dL_law_191 rfl (lv_at hl 3 rfl) ?_
  refine lv_iconst (v := 1) hx hb dL_law_192 (by decide) ?_
  refine lv_iadd hx hb dL_law_193 ?_
  refine lw_ld C0 hX hbl hS hi hL 1 (by decide) (nI_a i).1 dL_law_194 ?_
  refine lv_aload_n hx hb dL_law_195 rfl (lv_at hl 0 rfl) ?_
  refine lv_iload_n hx hb dL_law_196 rfl (lv_at hl 3 rfl) ?_
  refine lv_iconst (v := 2) hx hb dL_law_197 (by decide) ?_
  refine lv_iadd hx hb dL_law_198 ?_
  refine lw_ld C0 hX hbl hS hi hL 2 (by decide) (nI_a i).2.1 dL_law_199 ?_
  refine lv_i2l hx hb dL_law_200 rfl ?_
  refine lv_bipush (v := 32) hx hb dL_law_201 (by decide) ?_
  refine lv_lshl hx hb dL_law_203 rfl ?_
  refine lv_aload_n hx hb dL_law_204 rfl (lv_at hl 0 rfl) ?_
  refine lv_iload_n hx hb dL_law_205 rfl (lv_at hl 3 rfl) ?_
  refine lv_iconst (v := 3) hx hb dL_law_206 (by decide) ?_
  refine lv_iadd hx hb dL_law_207 ?_
  refine lw_ld C0 hX hbl hS hi hL 3 (by decide) (nI_a i).2.2.1 dL_law_208 ?_
  refine lv_i2l hx hb dL_law_209 rfl ?_
  refine lv_ldc2 (v := 4294967295) hx hb hown (hts _ lw_w604) dL_law_210 ?_
  refine lv_land hx hb dL_law_213 ?_
  refine lv_lor hx hb dL_law_214 ?_
  refine x_callw hS (x_rV C0 hl.1 hK hS (c_X3_cell l G ad R N tl T pl P (x_mcon G ad M V) (xs (i + 1)) (((xs (i + 2)).toInt64 <<< ((32 : Int32).toInt64 &&& 63)) ||| ((xs (i + 3)).toInt64 &&& 4294967295))) (x_con_0 (by decide)) rfl gq_X3_cell 2 rfl rfl rfl (by decide +kernel) ⟨Nat.le_of_ble_eq_true rfl, Nat.le_of_ble_eq_true rfl⟩ rfl rfl (Nat.le_of_ble_eq_true rfl) dL_law_215 ⟨by omega, by omega⟩) (fun H locs hS => ?_)
  show W _ _ _ _ _ _ _ _ _ _ _ _ _ _ _ (F0 m 218 ls [.int (zb (d_in (xs (i + 1)) (nI 8)))])
  have hS := w_toy hS
  refine lv_aload_n hx hb dL_law_218 rfl (lv_at hl 2 rfl) ?_
  refine lv_aload_n hx hb dL_law_219 rfl (lv_at hl 0 rfl) ?_
  refine lv_iload_n hx hb dL_law_220 rfl (lv_at hl 3 rfl) ?_
  refine lv_iconst (v := 1) hx hb dL_law_221 (by decide) ?_
  refine lv_iadd hx hb dL_law_222 ?_
  refine lw_ld C0 hX hbl hS hi hL 1 (by decide) (nI_a i).1 dL_law_223 ?_
  refine lv_aload_n hx hb dL_law_224 rfl (lv_at hl 0 rfl) ?_
  refine lv_iload_n hx hb dL_law_225 rfl (lv_at hl 3 rfl) ?_
  refine lv_iconst (v := 2) hx hb dL_law_226 (by decide) ?_
  refine lv_iadd hx hb dL_law_227 ?_
  refine lw_ld C0 hX hbl hS hi hL 2 (by decide) (nI_a i).2.1 dL_law_228 ?_
  refine lv_i2l hx hb dL_law_229 rfl ?_
  refine lv_bipush (v := 32) hx hb dL_law_230 (by decide) ?_
  refine lv_lshl hx hb dL_law_232 rfl ?_
  refine lv_aload_n hx hb dL_law_233 rfl (lv_at hl 0 rfl) ?_
  refine lv_iload_n hx hb dL_law_234 rfl (lv_at hl 3 rfl) ?_
  refine lv_iconst (v := 3) hx hb dL_law_235 (by decide) ?_
  refine lv_iadd hx hb dL_law_236 ?_
  refine lw_ld C0 hX hbl hS hi hL 3 (by decide) (nI_a i).2.2.1 dL_law_237 ?_
  refine lv_i2l hx hb dL_law_238 rfl ?_
  refine lv_ldc2 (v := 4294967295) hx hb hown (hts _ lw_w604) dL_law_239 ?_
  refine lv_land hx hb dL_law_242 ?_
  refine lv_lor hx hb dL_law_243 ?_
  refine x_callw hS (x_rV C0 hl.1 hK hS (c_X4_cell l G ad (w_D G ad (h_snR R (xs (i + 1))) (h_snN N (xs (i + 1)) (((xs (i + 2)).toInt64 <<< ((32 : Int32).toInt64 &&& 63)) ||| ((xs (i + 3)).toInt64 &&& 4294967295))) tl T pl P) M V (xs (i + 1)) (((xs (i + 2)).toInt64 <<< ((32 : Int32).toInt64 &&& 63)) ||| ((xs (i + 3)).toInt64 &&& 4294967295)) (y_sn M) hst (by omega)) (k := 200) rfl rfl gq_X4_cell 2 rfl rfl rfl (by decide +kernel) ⟨Nat.le_of_ble_eq_true rfl, Nat.le_of_ble_eq_true rfl⟩ rfl rfl (Nat.le_of_ble_eq_true rfl) dL_law_244 ⟨by omega, by omega⟩) (fun H locs hS => ?_)
  show W _ _ _ _ _ _ _ _ _ _ _ _ _ _ _ (F0 m 247 ls [.int (zb (m_in (xs (i + 1)) 0 (nI 7))), .int (zb (d_in (xs (i + 1)) (nI 8)))])
  have hS := w_ofy hS
  rw [hE]
  refine lv_icmp_eq (tgt := 679) hx hb dL_law_247 (by decide) (fun _ => ?_) (fun h => absurd rfl h)
  exact hkk H locs hS
set_option maxHeartbeats 4000000 in
set_option maxRecDepth 100000 in
/-- the law at text -/
theorem lwc_text {p : Program} {l : Launch} {e : Env} {s : State} {m : MethodId} {below : List Frame} {meth : Method} {c : Code} {H : Heap} {locs : List Loc} {cells slots : Nat} {Q : State → Prop} {G : x_G} {ad : Nat → Nat} {R : aR} {N : aN} {tl : aB} {T : aR} {pl : aB} {P : aR} {M : aR} {V : aN} {b L i : Nat} {xs : Nat → Int32} (C0 : x_B p s m meth c #[Value.ref b] cL_law 4 ret RL lw_tbl) (hK : x_K G s) (hX : va_X b L xs s G.2.1) (hbl : b < G.2.1.size) (hi : i + 4 < L) (hL : L ≤ 2560) (hst : M 17 0 = nI (y_sn M)) (hs1 : y_sn M < 514) (hR : h_ok R) (hH : H_ok M) (hS : x_H G ad (w_con G ad R N tl T pl P M V) H locs) (hrc : cells + 3 ≤ 600000) (hrs : slots + 505 ≤ 7302250) (hE : d_tx R (xs (i + 1)) (xs (i + 4)) = y_tk M (xs (i + 1)) (xs (i + 4))) {ls : Array Slot} (hl : lv_has ls 4 [(0, .ref b), (1, .ref (ad 0)), (2, .ref (ad 200)), (3, .int (nI i))]) (hkk : ∀ (H : Heap) (locs : List Loc), x_H G ad (w_con G ad (d_txR R (xs (i + 1)) (((xs (i + 2)).toInt64 <<< ((32 : Int32).toInt64 &&& 63)) ||| ((xs (i + 3)).toInt64 &&& 4294967295)) (xs (i + 4))) N tl T pl P (y_tkM M (xs (i + 1)) (xs (i + 4)) (y_sn M + 1)) (y_tkV M V (xs (i + 1)) (xs (i + 4)) (y_sn M + 1) (((xs (i + 2)).toInt64 <<< ((32 : Int32).toInt64 &&& 63)) ||| ((xs (i + 3)).toInt64 &&& 4294967295)))) H locs → W p l e room_1 s m #[Value.ref b] below meth c H locs cells slots Q (F0 m 679 ls [])) : W p l e room_1 s m #[Value.ref b] below meth c H locs cells slots Q (F0 m 252 ls []) := by
  obtain ⟨hx, hb, hr, hml, hown, hts, hlk⟩ := id C0
  have hrc : cells + 3 ≤ room_1.cells := hrc
  have hrs : slots + 505 ≤ room_1.slots := hrs
  refine lv_aload_n hx hb dL_law_252 rfl (lv_at hl 1 rfl) ?_
  refine lv_aload_n hx hb dL_law_253 rfl (lv_at hl 0 rfl) ?_
  refine lv_iload_n hx hb dL_law_254 rfl (lv_at hl 3 rfl) ?_
  refine lv_iconst (v := 1) hx hb dL_law_255 (by decide) ?_
  refine lv_iadd hx hb dL_law_256 ?_
  refine lw_ld C0 hX hbl hS hi hL 1 (by decide) (nI_a i).1 dL_law_257 ?_
  refine lv_aload_n hx hb dL_law_258 rfl (lv_at hl 0 rfl) ?_
  refine lv_iload_n hx hb dL_law_259 rfl (lv_at hl 3 rfl) ?_
  refine lv_iconst (v := 2) hx hb dL_law_260 (by decide) ?_
  refine lv_iadd hx hb dL_law_261 ?_
  refine lw_ld C0 hX hbl hS hi hL 2 (by decide) (nI_a i).2.1 dL_law_262 ?_
  refine lv_i2l hx hb dL_law_263 rfl ?_
  refine lv_bipush (v := 32) hx hb dL_law_264 (by decide) ?_
  refine lv_lshl hx hb dL_law_266 rfl ?_
  refine lv_aload_n hx hb dL_law_267 rfl (lv_at hl 0 rfl) ?_
  refine lv_iload_n hx hb dL_law_268 rfl (lv_at hl 3 rfl) ?_
  refine lv_iconst (v := 3) hx hb dL_law_269 (by decide) ?_
  refine lv_iadd hx hb dL_law_270 ?_
  refine lw_ld C0 hX hbl hS hi hL 3 (by decide) (nI_a i).2.2.1 dL_law_271 ?_
  refine lv_i2l hx hb dL_law_272 rfl ?_
  refine lv_ldc2 (v := 4294967295) hx hb hown (hts _ lw_w604) dL_law_273 ?_
  refine lv_land hx hb dL_law_276 ?_
  refine lv_lor hx hb dL_law_277 ?_
  refine lv_aload_n hx hb dL_law_278 rfl (lv_at hl 0 rfl) ?_
  refine lv_iload_n hx hb dL_law_279 rfl (lv_at hl 3 rfl) ?_
  refine lv_iconst (v := 4) hx hb dL_law_280 (by decide) ?_
  refine lv_iadd hx hb dL_law_281 ?_
  refine lw_ld C0 hX hbl hS hi hL 4 (by decide) (nI_a i).2.2.2.1 dL_law_282 ?_
  refine x_callw hS (x_rV C0 hl.1 hK hS (c_X3_text l G ad R N tl T pl P (x_mcon G ad M V) (xs (i + 1)) (xs (i + 4)) (((xs (i + 2)).toInt64 <<< ((32 : Int32).toInt64 &&& 63)) ||| ((xs (i + 3)).toInt64 &&& 4294967295)) hR) (x_con_0 (by decide)) rfl gq_X3_text 3 rfl rfl rfl (by decide +kernel) ⟨Nat.le_of_ble_eq_true rfl, Nat.le_of_ble_eq_true rfl⟩ rfl rfl (Nat.le_of_ble_eq_true rfl) dL_law_283 ⟨by omega, by omega⟩) (fun H locs hS => ?_)
  show W _ _ _ _ _ _ _ _ _ _ _ _ _ _ _ (F0 m 286 ls [.int (zb (d_tx R (xs (i + 1)) (xs (i + 4))))])
  have hS := w_toy hS
  refine lv_aload_n hx hb dL_law_286 rfl (lv_at hl 2 rfl) ?_
  refine lv_aload_n hx hb dL_law_287 rfl (lv_at hl 0 rfl) ?_
  refine lv_iload_n hx hb dL_law_288 rfl (lv_at hl 3 rfl) ?_
  refine lv_iconst (v := 1) hx hb dL_law_289 (by decide) ?_
  refine lv_iadd hx hb dL_law_290 ?_
  refine lw_ld C0 hX hbl hS hi hL 1 (by decide) (nI_a i).1 dL_law_291 ?_
  refine lv_aload_n hx hb dL_law_292 rfl (lv_at hl 0 rfl) ?_
  refine lv_iload_n hx hb dL_law_293 rfl (lv_at hl 3 rfl) ?_
  refine lv_iconst (v := 2) hx hb dL_law_294 (by decide) ?_
  refine lv_iadd hx hb dL_law_295 ?_
  refine lw_ld C0 hX hbl hS hi hL 2 (by decide) (nI_a i).2.1 dL_law_296 ?_
  refine lv_i2l hx hb dL_law_297 rfl ?_
  refine lv_bipush (v := 32) hx hb dL_law_298 (by decide) ?_
  refine lv_lshl hx hb dL_law_300 rfl ?_
  refine lv_aload_n hx hb dL_law_301 rfl (lv_at hl 0 rfl) ?_
  refine lv_iload_n hx hb dL_law_302 rfl (lv_at hl 3 rfl) ?_
  refine lv_iconst (v := 3) hx hb dL_law_303 (by decide) ?_
  refine lv_iadd hx hb dL_law_304 ?_
  refine lw_ld C0 hX hbl hS hi hL 3 (by decide) (nI_a i).2.2.1 dL_law_305 ?_
  refine lv_i2l hx hb dL_law_306 rfl ?_
  refine lv_ldc2 (v := 4294967295) hx hb hown (hts _ lw_w604) dL_law_307 ?_
  refine lv_land hx hb dL_law_310 ?_
  refine lv_lor hx hb dL_law_311 ?_
  refine lv_aload_n hx hb dL_law_312 rfl (lv_at hl 0 rfl) ?_
  refine lv_iload_n hx hb dL_law_313 rfl (lv_at hl 3 rfl) ?_
  refine lv_iconst (v := 4) hx hb dL_law_314 (by decide) ?_
  refine lv_iadd hx hb dL_law_315 ?_
  refine lw_ld C0 hX hbl hS hi hL 4 (by decide) (nI_a i).2.2.2.1 dL_law_316 ?_
  refine x_callw hS (x_rV C0 hl.1 hK hS (c_X4_text l G ad (w_D G ad (d_txR R (xs (i + 1)) (((xs (i + 2)).toInt64 <<< ((32 : Int32).toInt64 &&& 63)) ||| ((xs (i + 3)).toInt64 &&& 4294967295)) (xs (i + 4))) N tl T pl P) M V (xs (i + 1)) (xs (i + 4)) (((xs (i + 2)).toInt64 <<< ((32 : Int32).toInt64 &&& 63)) ||| ((xs (i + 3)).toInt64 &&& 4294967295)) (y_sn M) hst (by omega) hH) (k := 200) rfl rfl gq_X4_text 3 rfl rfl rfl (by decide +kernel) ⟨Nat.le_of_ble_eq_true rfl, Nat.le_of_ble_eq_true rfl⟩ rfl rfl (Nat.le_of_ble_eq_true rfl) dL_law_317 ⟨by omega, by omega⟩) (fun H locs hS => ?_)
  show W _ _ _ _ _ _ _ _ _ _ _ _ _ _ _ (F0 m 320 ls [.int (zb (y_tk M (xs (i + 1)) (xs (i + 4)))), .int (zb (d_tx R (xs (i + 1)) (xs (i + 4))))])
  have hS := w_ofy hS
  rw [hE]
  refine lv_icmp_eq (tgt := 679) hx hb dL_law_320 (by decide) (fun _ => ?_) (fun h => absurd rfl h)
  exact hkk H locs hS
set_option maxHeartbeats 4000000 in
set_option maxRecDepth 100000 in
/-- the law at get -/
theorem lwc_get {p : Program} {l : Launch} {e : Env} {s : State} {m : MethodId} {below : List Frame} {meth : Method} {c : Code} {H : Heap} {locs : List Loc} {cells slots : Nat} {Q : State → Prop} {G : x_G} {ad : Nat → Nat} {R : aR} {N : aN} {tl : aB} {T : aR} {pl : aB} {P : aR} {M : aR} {V : aN} {b L i : Nat} {xs : Nat → Int32} (C0 : x_B p s m meth c #[Value.ref b] cL_law 4 ret RL lw_tbl) (hK : x_K G s) (hX : va_X b L xs s G.2.1) (hbl : b < G.2.1.size) (hi : i + 4 < L) (hL : L ≤ 2560) (hmn : M 6 0 = nI (y_mn M)) (hm : y_mn M < 514) (hR : h_ok R) (hT : T_ok tl T) (hS : x_H G ad (w_con G ad R N tl T pl P M V) H locs) (hrc : cells + 3 ≤ 600000) (hrs : slots + 505 ≤ 7302250) (hE : d_gt tl pl P (xs (i + 1)) = !decide ((y_fd M (xs (i + 1)) (y_mn M)) < 0)) {ls : Array Slot} (hl : lv_has ls 4 [(0, .ref b), (1, .ref (ad 0)), (2, .ref (ad 200)), (3, .int (nI i))]) (hkk : ∀ (H : Heap) (locs : List Loc), x_H G ad (w_con G ad (d_gtR tl pl T P (xs (i + 1)) R) (d_gtN tl pl T P (xs (i + 1)) N) tl T pl P (y_gt M (y_fd M (xs (i + 1)) (y_mn M)) 8) V) H locs → W p l e room_1 s m #[Value.ref b] below meth c H locs cells slots Q (F0 m 679 ls [])) : W p l e room_1 s m #[Value.ref b] below meth c H locs cells slots Q (F0 m 378 ls []) := by
  obtain ⟨hx, hb, hr, hml, hown, hts, hlk⟩ := id C0
  have hrc : cells + 3 ≤ room_1.cells := hrc
  have hrs : slots + 505 ≤ room_1.slots := hrs
  refine lv_aload_n hx hb dL_law_378 rfl (lv_at hl 1 rfl) ?_
  refine lv_aload_n hx hb dL_law_379 rfl (lv_at hl 0 rfl) ?_
  refine lv_iload_n hx hb dL_law_380 rfl (lv_at hl 3 rfl) ?_
  refine lv_iconst (v := 1) hx hb dL_law_381 (by decide) ?_
  refine lv_iadd hx hb dL_law_382 ?_
  refine lw_ld C0 hX hbl hS hi hL 1 (by decide) (nI_a i).1 dL_law_383 ?_
  refine x_callw hS (x_rV C0 hl.1 hK hS (c_X3_get l G ad R N tl T pl P (x_mcon G ad M V) (xs (i + 1)) hR hT) (x_con_0 (by decide)) rfl gq_X3_get 1 rfl rfl rfl (by decide +kernel) ⟨Nat.le_of_ble_eq_true rfl, Nat.le_of_ble_eq_true rfl⟩ rfl rfl (Nat.le_of_ble_eq_true rfl) dL_law_384 ⟨by omega, by omega⟩) (fun H locs hS => ?_)
  show W _ _ _ _ _ _ _ _ _ _ _ _ _ _ _ (F0 m 387 ls [.int (zb (d_gt tl pl P (xs (i + 1))))])
  have hS := w_toy hS
  refine lv_aload_n hx hb dL_law_387 rfl (lv_at hl 2 rfl) ?_
  refine lv_aload_n hx hb dL_law_388 rfl (lv_at hl 0 rfl) ?_
  refine lv_iload_n hx hb dL_law_389 rfl (lv_at hl 3 rfl) ?_
  refine lv_iconst (v := 1) hx hb dL_law_390 (by decide) ?_
  refine lv_iadd hx hb dL_law_391 ?_
  refine lw_ld C0 hX hbl hS hi hL 1 (by decide) (nI_a i).1 dL_law_392 ?_
  refine x_callw hS (x_rV C0 hl.1 hK hS (c_X4_get l G ad (w_D G ad (d_gtR tl pl T P (xs (i + 1)) R) (d_gtN tl pl T P (xs (i + 1)) N) tl T pl P) M V (xs (i + 1)) (y_mn M) hmn (by omega)) (k := 200) rfl rfl gq_X4_get 1 rfl rfl rfl (by decide +kernel) ⟨Nat.le_of_ble_eq_true rfl, Nat.le_of_ble_eq_true rfl⟩ rfl rfl (Nat.le_of_ble_eq_true rfl) dL_law_393 ⟨by omega, by omega⟩) (fun H locs hS => ?_)
  show W _ _ _ _ _ _ _ _ _ _ _ _ _ _ _ (F0 m 396 ls [.int (zb (!decide ((y_fd M (xs (i + 1)) (y_mn M)) < 0))), .int (zb (d_gt tl pl P (xs (i + 1))))])
  have hS := w_ofy hS
  rw [hE]
  refine lv_icmp_eq (tgt := 679) hx hb dL_law_396 (by decide) (fun _ => ?_) (fun h => absurd rfl h)
  exact hkk H locs hS
set_option maxHeartbeats 4000000 in
set_option maxRecDepth 100000 in
/-- the law at end -/
theorem lwc_end {p : Program} {l : Launch} {e : Env} {s : State} {m : MethodId} {below : List Frame} {meth : Method} {c : Code} {H : Heap} {locs : List Loc} {cells slots : Nat} {Q : State → Prop} {G : x_G} {ad : Nat → Nat} {R : aR} {N : aN} {tl : aB} {T : aR} {pl : aB} {P : aR} {M : aR} {V : aN} {b L i : Nat} {xs : Nat → Int32} (C0 : x_B p s m meth c #[Value.ref b] cL_law 4 ret RL lw_tbl) (hK : x_K G s) (hX : va_X b L xs s G.2.1) (hbl : b < G.2.1.size) (hi : i + 4 < L) (hL : L ≤ 2560) (hmn : M 6 0 = nI (y_mn M)) (hm : y_mn M < 514) (hS : x_H G ad (w_con G ad R N tl T pl P M V) H locs) (hrc : cells + 3 ≤ 600000) (hrs : slots + 505 ≤ 7302250) (hE : d_en pl P (xs (i + 1)) (xs (i + 2)) (xs (i + 3)) = y_en M (y_fd M (xs (i + 1)) (y_mn M)) (xs (i + 2)) (xs (i + 3))) {ls : Array Slot} (hl : lv_has ls 4 [(0, .ref b), (1, .ref (ad 0)), (2, .ref (ad 200)), (3, .int (nI i))]) (hkk : ∀ (H : Heap) (locs : List Loc), x_H G ad (w_con G ad R N tl T pl (d_enP pl P (xs (i + 1)) (xs (i + 2)) (xs (i + 3))) (y_enM M (y_fd M (xs (i + 1)) (y_mn M)) (xs (i + 2)) (xs (i + 3))) V) H locs → W p l e room_1 s m #[Value.ref b] below meth c H locs cells slots Q (F0 m 679 ls [])) : W p l e room_1 s m #[Value.ref b] below meth c H locs cells slots Q (F0 m 401 ls []) := by
  obtain ⟨hx, hb, hr, hml, hown, hts, hlk⟩ := id C0
  have hrc : cells + 3 ≤ room_1.cells := hrc
  have hrs : slots + 505 ≤ room_1.slots := hrs
  refine lv_aload_n hx hb dL_law_401 rfl (lv_at hl 1 rfl) ?_
  refine lv_aload_n hx hb dL_law_402 rfl (lv_at hl 0 rfl) ?_
  refine lv_iload_n hx hb dL_law_403 rfl (lv_at hl 3 rfl) ?_
  refine lv_iconst (v := 1) hx hb dL_law_404 (by decide) ?_
  refine lv_iadd hx hb dL_law_405 ?_
  refine lw_ld C0 hX hbl hS hi hL 1 (by decide) (nI_a i).1 dL_law_406 ?_
  refine lv_aload_n hx hb dL_law_407 rfl (lv_at hl 0 rfl) ?_
  refine lv_iload_n hx hb dL_law_408 rfl (lv_at hl 3 rfl) ?_
  refine lv_iconst (v := 2) hx hb dL_law_409 (by decide) ?_
  refine lv_iadd hx hb dL_law_410 ?_
  refine lw_ld C0 hX hbl hS hi hL 2 (by decide) (nI_a i).2.1 dL_law_411 ?_
  refine lv_aload_n hx hb dL_law_412 rfl (lv_at hl 0 rfl) ?_
  refine lv_iload_n hx hb dL_law_413 rfl (lv_at hl 3 rfl) ?_
  refine lv_iconst (v := 3) hx hb dL_law_414 (by decide) ?_
  refine lv_iadd hx hb dL_law_415 ?_
  refine lw_ld C0 hX hbl hS hi hL 3 (by decide) (nI_a i).2.2.1 dL_law_416 ?_
  refine x_callw hS (x_rV C0 hl.1 hK hS (c_X3_end l G ad R N tl T pl P (x_mcon G ad M V) (xs (i + 1)) (xs (i + 2)) (xs (i + 3))) (x_con_0 (by decide)) rfl gq_X3_end 3 rfl rfl rfl (by decide +kernel) ⟨Nat.le_of_ble_eq_true rfl, Nat.le_of_ble_eq_true rfl⟩ rfl rfl (Nat.le_of_ble_eq_true rfl) dL_law_417 ⟨by omega, by omega⟩) (fun H locs hS => ?_)
  show W _ _ _ _ _ _ _ _ _ _ _ _ _ _ _ (F0 m 420 ls [.int (zb (d_en pl P (xs (i + 1)) (xs (i + 2)) (xs (i + 3))))])
  have hS := w_toy hS
  refine lv_aload_n hx hb dL_law_420 rfl (lv_at hl 2 rfl) ?_
  refine lv_aload_n hx hb dL_law_421 rfl (lv_at hl 0 rfl) ?_
  refine lv_iload_n hx hb dL_law_422 rfl (lv_at hl 3 rfl) ?_
  refine lv_iconst (v := 1) hx hb dL_law_423 (by decide) ?_
  refine lv_iadd hx hb dL_law_424 ?_
  refine lw_ld C0 hX hbl hS hi hL 1 (by decide) (nI_a i).1 dL_law_425 ?_
  refine lv_aload_n hx hb dL_law_426 rfl (lv_at hl 0 rfl) ?_
  refine lv_iload_n hx hb dL_law_427 rfl (lv_at hl 3 rfl) ?_
  refine lv_iconst (v := 2) hx hb dL_law_428 (by decide) ?_
  refine lv_iadd hx hb dL_law_429 ?_
  refine lw_ld C0 hX hbl hS hi hL 2 (by decide) (nI_a i).2.1 dL_law_430 ?_
  refine lv_aload_n hx hb dL_law_431 rfl (lv_at hl 0 rfl) ?_
  refine lv_iload_n hx hb dL_law_432 rfl (lv_at hl 3 rfl) ?_
  refine lv_iconst (v := 3) hx hb dL_law_433 (by decide) ?_
  refine lv_iadd hx hb dL_law_434 ?_
  refine lw_ld C0 hX hbl hS hi hL 3 (by decide) (nI_a i).2.2.1 dL_law_435 ?_
  refine x_callw hS (x_rV C0 hl.1 hK hS (c_X4_end l G ad (w_D G ad R N tl T pl (d_enP pl P (xs (i + 1)) (xs (i + 2)) (xs (i + 3)))) M V (xs (i + 1)) (xs (i + 2)) (xs (i + 3)) (y_mn M) hmn (by omega)) (k := 200) rfl rfl gq_X4_end 3 rfl rfl rfl (by decide +kernel) ⟨Nat.le_of_ble_eq_true rfl, Nat.le_of_ble_eq_true rfl⟩ rfl rfl (Nat.le_of_ble_eq_true rfl) dL_law_436 ⟨by omega, by omega⟩) (fun H locs hS => ?_)
  show W _ _ _ _ _ _ _ _ _ _ _ _ _ _ _ (F0 m 439 ls [.int (zb (y_en M (y_fd M (xs (i + 1)) (y_mn M)) (xs (i + 2)) (xs (i + 3)))), .int (zb (d_en pl P (xs (i + 1)) (xs (i + 2)) (xs (i + 3))))])
  have hS := w_ofy hS
  rw [hE]
  refine lv_icmp_eq (tgt := 679) hx hb dL_law_439 (by decide) (fun _ => ?_) (fun h => absurd rfl h)
  exact hkk H locs hS
set_option maxHeartbeats 4000000 in
set_option maxRecDepth 100000 in
/-- the law at behind -/
theorem lwc_behind {p : Program} {l : Launch} {e : Env} {s : State} {m : MethodId} {below : List Frame} {meth : Method} {c : Code} {H : Heap} {locs : List Loc} {cells slots : Nat} {Q : State → Prop} {G : x_G} {ad : Nat → Nat} {R : aR} {N : aN} {tl : aB} {T : aR} {pl : aB} {P : aR} {M : aR} {V : aN} {b L i : Nat} {xs : Nat → Int32} (C0 : x_B p s m meth c #[Value.ref b] cL_law 4 ret RL lw_tbl) (hK : x_K G s) (hX : va_X b L xs s G.2.1) (hbl : b < G.2.1.size) (hi : i + 4 < L) (hL : L ≤ 2560) (hmn : M 6 0 = nI (y_mn M)) (hm : y_mn M < 514) (hS : x_H G ad (w_con G ad R N tl T pl P M V) H locs) (hrc : cells + 3 ≤ 600000) (hrs : slots + 505 ≤ 7302250) (hE : d_bh pl P (xs (i + 1)) (xs (i + 2)) = y_bh M (y_fd M (xs (i + 1)) (y_mn M)) (xs (i + 2))) {ls : Array Slot} (hl : lv_has ls 4 [(0, .ref b), (1, .ref (ad 0)), (2, .ref (ad 200)), (3, .int (nI i))]) (hkk : ∀ (H : Heap) (locs : List Loc), x_H G ad (w_con G ad R N tl T pl (d_bhP pl P (xs (i + 1)) (xs (i + 2))) (y_bhM M (y_fd M (xs (i + 1)) (y_mn M)) (xs (i + 2))) V) H locs → W p l e room_1 s m #[Value.ref b] below meth c H locs cells slots Q (F0 m 679 ls [])) : W p l e room_1 s m #[Value.ref b] below meth c H locs cells slots Q (F0 m 444 ls []) := by
  obtain ⟨hx, hb, hr, hml, hown, hts, hlk⟩ := id C0
  have hrc : cells + 3 ≤ room_1.cells := hrc
  have hrs : slots + 505 ≤ room_1.slots := hrs
  refine lv_aload_n hx hb dL_law_444 rfl (lv_at hl 1 rfl) ?_
  refine lv_aload_n hx hb dL_law_445 rfl (lv_at hl 0 rfl) ?_
  refine lv_iload_n hx hb dL_law_446 rfl (lv_at hl 3 rfl) ?_
  refine lv_iconst (v := 1) hx hb dL_law_447 (by decide) ?_
  refine lv_iadd hx hb dL_law_448 ?_
  refine lw_ld C0 hX hbl hS hi hL 1 (by decide) (nI_a i).1 dL_law_449 ?_
  refine lv_aload_n hx hb dL_law_450 rfl (lv_at hl 0 rfl) ?_
  refine lv_iload_n hx hb dL_law_451 rfl (lv_at hl 3 rfl) ?_
  refine lv_iconst (v := 2) hx hb dL_law_452 (by decide) ?_
  refine lv_iadd hx hb dL_law_453 ?_
  refine lw_ld C0 hX hbl hS hi hL 2 (by decide) (nI_a i).2.1 dL_law_454 ?_
  refine x_callw hS (x_rV C0 hl.1 hK hS (c_X3_behind l G ad R N tl T pl P (x_mcon G ad M V) (xs (i + 1)) (xs (i + 2))) (x_con_0 (by decide)) rfl gq_X3_behind 2 rfl rfl rfl (by decide +kernel) ⟨Nat.le_of_ble_eq_true rfl, Nat.le_of_ble_eq_true rfl⟩ rfl rfl (Nat.le_of_ble_eq_true rfl) dL_law_455 ⟨by omega, by omega⟩) (fun H locs hS => ?_)
  show W _ _ _ _ _ _ _ _ _ _ _ _ _ _ _ (F0 m 458 ls [.int (zb (d_bh pl P (xs (i + 1)) (xs (i + 2))))])
  have hS := w_toy hS
  refine lv_aload_n hx hb dL_law_458 rfl (lv_at hl 2 rfl) ?_
  refine lv_aload_n hx hb dL_law_459 rfl (lv_at hl 0 rfl) ?_
  refine lv_iload_n hx hb dL_law_460 rfl (lv_at hl 3 rfl) ?_
  refine lv_iconst (v := 1) hx hb dL_law_461 (by decide) ?_
  refine lv_iadd hx hb dL_law_462 ?_
  refine lw_ld C0 hX hbl hS hi hL 1 (by decide) (nI_a i).1 dL_law_463 ?_
  refine lv_aload_n hx hb dL_law_464 rfl (lv_at hl 0 rfl) ?_
  refine lv_iload_n hx hb dL_law_465 rfl (lv_at hl 3 rfl) ?_
  refine lv_iconst (v := 2) hx hb dL_law_466 (by decide) ?_
  refine lv_iadd hx hb dL_law_467 ?_
  refine lw_ld C0 hX hbl hS hi hL 2 (by decide) (nI_a i).2.1 dL_law_468 ?_
  refine x_callw hS (x_rV C0 hl.1 hK hS (c_X4_behind l G ad (w_D G ad R N tl T pl (d_bhP pl P (xs (i + 1)) (xs (i + 2)))) M V (xs (i + 1)) (xs (i + 2)) (y_mn M) hmn (by omega)) (k := 200) rfl rfl gq_X4_behind 2 rfl rfl rfl (by decide +kernel) ⟨Nat.le_of_ble_eq_true rfl, Nat.le_of_ble_eq_true rfl⟩ rfl rfl (Nat.le_of_ble_eq_true rfl) dL_law_469 ⟨by omega, by omega⟩) (fun H locs hS => ?_)
  show W _ _ _ _ _ _ _ _ _ _ _ _ _ _ _ (F0 m 472 ls [.int (zb (y_bh M (y_fd M (xs (i + 1)) (y_mn M)) (xs (i + 2)))), .int (zb (d_bh pl P (xs (i + 1)) (xs (i + 2))))])
  have hS := w_ofy hS
  rw [hE]
  refine lv_icmp_eq (tgt := 679) hx hb dL_law_472 (by decide) (fun _ => ?_) (fun h => absurd rfl h)
  exact hkk H locs hS
set_option maxHeartbeats 4000000 in
set_option maxRecDepth 100000 in
/-- the law at take -/
theorem lwc_take {p : Program} {l : Launch} {e : Env} {s : State} {m : MethodId} {below : List Frame} {meth : Method} {c : Code} {H : Heap} {locs : List Loc} {cells slots : Nat} {Q : State → Prop} {G : x_G} {ad : Nat → Nat} {R : aR} {N : aN} {tl : aB} {T : aR} {pl : aB} {P : aR} {M : aR} {V : aN} {b L i : Nat} {xs : Nat → Int32} (C0 : x_B p s m meth c #[Value.ref b] cL_law 4 ret RL lw_tbl) (hK : x_K G s) (hX : va_X b L xs s G.2.1) (hbl : b < G.2.1.size) (hi : i + 4 < L) (hL : L ≤ 2560) (hmn : M 6 0 = nI (y_mn M)) (hm : y_mn M < 514) (hP : P_ok pl P) (hPl : Pl_ok M (y_mn M)) (hTp : Tp_ok M (y_mn M)) (hSh : S_ok M) (hS : x_H G ad (w_con G ad R N tl T pl P M V) H locs) (hrc : cells + 3 ≤ 600000) (hrs : slots + 505 ≤ 7302250) (hE : d_wv pl P (xs (i + 1)) = !decide ((y_fd M (xs (i + 1)) (y_mn M)) < 0)) {ls : Array Slot} (hl : lv_has ls 4 [(0, .ref b), (1, .ref (ad 0)), (2, .ref (ad 200)), (3, .int (nI i))]) (hkk : ∀ (H : Heap) (locs : List Loc), x_H G ad (w_con G ad R N tl T pl (d_tkP tl pl T P (xs (i + 1))) (y_taM M (y_mn M) (xs (i + 1)) (y_fd M (xs (i + 1)) (y_mn M))) V) H locs → W p l e room_1 s m #[Value.ref b] below meth c H locs cells slots Q (F0 m 679 ls [])) : W p l e room_1 s m #[Value.ref b] below meth c H locs cells slots Q (F0 m 477 ls []) := by
  obtain ⟨hx, hb, hr, hml, hown, hts, hlk⟩ := id C0
  have hrc : cells + 3 ≤ room_1.cells := hrc
  have hrs : slots + 505 ≤ room_1.slots := hrs
  refine lv_aload_n hx hb dL_law_477 rfl (lv_at hl 1 rfl) ?_
  refine lv_aload_n hx hb dL_law_478 rfl (lv_at hl 0 rfl) ?_
  refine lv_iload_n hx hb dL_law_479 rfl (lv_at hl 3 rfl) ?_
  refine lv_iconst (v := 1) hx hb dL_law_480 (by decide) ?_
  refine lv_iadd hx hb dL_law_481 ?_
  refine lw_ld C0 hX hbl hS hi hL 1 (by decide) (nI_a i).1 dL_law_482 ?_
  refine x_callw hS (x_rV C0 hl.1 hK hS (c_X3_take l G ad R N tl T pl P (x_mcon G ad M V) (xs (i + 1)) hP) (x_con_0 (by decide)) rfl gq_X3_take 1 rfl rfl rfl (by decide +kernel) ⟨Nat.le_of_ble_eq_true rfl, Nat.le_of_ble_eq_true rfl⟩ rfl rfl (Nat.le_of_ble_eq_true rfl) dL_law_483 ⟨by omega, by omega⟩) (fun H locs hS => ?_)
  show W _ _ _ _ _ _ _ _ _ _ _ _ _ _ _ (F0 m 486 ls [.int (zb (d_wv pl P (xs (i + 1))))])
  have hS := w_toy hS
  refine lv_aload_n hx hb dL_law_486 rfl (lv_at hl 2 rfl) ?_
  refine lv_aload_n hx hb dL_law_487 rfl (lv_at hl 0 rfl) ?_
  refine lv_iload_n hx hb dL_law_488 rfl (lv_at hl 3 rfl) ?_
  refine lv_iconst (v := 1) hx hb dL_law_489 (by decide) ?_
  refine lv_iadd hx hb dL_law_490 ?_
  refine lw_ld C0 hX hbl hS hi hL 1 (by decide) (nI_a i).1 dL_law_491 ?_
  refine x_callw hS (x_rV C0 hl.1 hK hS (c_X4_take l G ad (w_D G ad R N tl T pl (d_tkP tl pl T P (xs (i + 1)))) M V (xs (i + 1)) (y_mn M) hmn (by omega) hPl hTp hSh) (k := 200) rfl rfl gq_X4_take 1 rfl rfl rfl (by decide +kernel) ⟨Nat.le_of_ble_eq_true rfl, Nat.le_of_ble_eq_true rfl⟩ rfl rfl (Nat.le_of_ble_eq_true rfl) dL_law_492 ⟨by omega, by omega⟩) (fun H locs hS => ?_)
  show W _ _ _ _ _ _ _ _ _ _ _ _ _ _ _ (F0 m 495 ls [.int (zb (!decide ((y_fd M (xs (i + 1)) (y_mn M)) < 0))), .int (zb (d_wv pl P (xs (i + 1))))])
  have hS := w_ofy hS
  rw [hE]
  refine lv_icmp_eq (tgt := 679) hx hb dL_law_495 (by decide) (fun _ => ?_) (fun h => absurd rfl h)
  exact hkk H locs hS
set_option maxHeartbeats 4000000 in
set_option maxRecDepth 100000 in
/-- the law at look -/
theorem lwc_look {p : Program} {l : Launch} {e : Env} {s : State} {m : MethodId} {below : List Frame} {meth : Method} {c : Code} {H : Heap} {locs : List Loc} {cells slots : Nat} {Q : State → Prop} {G : x_G} {ad : Nat → Nat} {R : aR} {N : aN} {tl : aB} {T : aR} {pl : aB} {P : aR} {M : aR} {V : aN} {b L i : Nat} {xs : Nat → Int32} (C0 : x_B p s m meth c #[Value.ref b] cL_law 4 ret RL lw_tbl) (hK : x_K G s) (hX : va_X b L xs s G.2.1) (hbl : b < G.2.1.size) (hi : i + 4 < L) (hL : L ≤ 2560) (hmn : M 6 0 = nI (y_mn M)) (hm : y_mn M < 514) (hPl : Pl_ok M (y_mn M)) (hS : x_H G ad (w_con G ad R N tl T pl P M V) H locs) (hrc : cells + 3 ≤ 600000) (hrs : slots + 505 ≤ 7302250) (hE : d_lk pl P (xs (i + 1)) (xs (i + 2)) = y_lk M (y_fd M (xs (i + 1)) (y_mn M)) (xs (i + 1)) (xs (i + 2))) {ls : Array Slot} (hl : lv_has ls 4 [(0, .ref b), (1, .ref (ad 0)), (2, .ref (ad 200)), (3, .int (nI i))]) (hkk : ∀ (H : Heap) (locs : List Loc), x_H G ad (w_con G ad R N tl T pl P M V) H locs → W p l e room_1 s m #[Value.ref b] below meth c H locs cells slots Q (F0 m 679 ls [])) : W p l e room_1 s m #[Value.ref b] below meth c H locs cells slots Q (F0 m 500 ls []) := by
  obtain ⟨hx, hb, hr, hml, hown, hts, hlk⟩ := id C0
  have hrc : cells + 3 ≤ room_1.cells := hrc
  have hrs : slots + 505 ≤ room_1.slots := hrs
  refine lv_aload_n hx hb dL_law_500 rfl (lv_at hl 1 rfl) ?_
  refine lv_aload_n hx hb dL_law_501 rfl (lv_at hl 0 rfl) ?_
  refine lv_iload_n hx hb dL_law_502 rfl (lv_at hl 3 rfl) ?_
  refine lv_iconst (v := 1) hx hb dL_law_503 (by decide) ?_
  refine lv_iadd hx hb dL_law_504 ?_
  refine lw_ld C0 hX hbl hS hi hL 1 (by decide) (nI_a i).1 dL_law_505 ?_
  refine lv_aload_n hx hb dL_law_506 rfl (lv_at hl 0 rfl) ?_
  refine lv_iload_n hx hb dL_law_507 rfl (lv_at hl 3 rfl) ?_
  refine lv_iconst (v := 2) hx hb dL_law_508 (by decide) ?_
  refine lv_iadd hx hb dL_law_509 ?_
  refine lw_ld C0 hX hbl hS hi hL 2 (by decide) (nI_a i).2.1 dL_law_510 ?_
  refine x_callr (x_rV C0 hl.1 hK hS (c_X3_look l G ad R N tl T pl P (x_mcon G ad M V) (xs (i + 1)) (xs (i + 2))) (x_con_0 (by decide)) rfl gq_X3_look 2 rfl rfl rfl (by decide +kernel) ⟨Nat.le_of_ble_eq_true rfl, Nat.le_of_ble_eq_true rfl⟩ rfl rfl (Nat.le_of_ble_eq_true rfl) dL_law_511 ⟨by omega, by omega⟩) ?_
  show W _ _ _ _ _ _ _ _ _ _ _ _ _ _ _ (F0 m 514 ls [.int (d_lk pl P (xs (i + 1)) (xs (i + 2)))])
  have hS := w_toy hS
  refine lv_aload_n hx hb dL_law_514 rfl (lv_at hl 2 rfl) ?_
  refine lv_aload_n hx hb dL_law_515 rfl (lv_at hl 0 rfl) ?_
  refine lv_iload_n hx hb dL_law_516 rfl (lv_at hl 3 rfl) ?_
  refine lv_iconst (v := 1) hx hb dL_law_517 (by decide) ?_
  refine lv_iadd hx hb dL_law_518 ?_
  refine lw_ld C0 hX hbl hS hi hL 1 (by decide) (nI_a i).1 dL_law_519 ?_
  refine lv_aload_n hx hb dL_law_520 rfl (lv_at hl 0 rfl) ?_
  refine lv_iload_n hx hb dL_law_521 rfl (lv_at hl 3 rfl) ?_
  refine lv_iconst (v := 2) hx hb dL_law_522 (by decide) ?_
  refine lv_iadd hx hb dL_law_523 ?_
  refine lw_ld C0 hX hbl hS hi hL 2 (by decide) (nI_a i).2.1 dL_law_524 ?_
  refine x_callr (x_rV C0 hl.1 hK hS (c_X4_look l G ad (w_D G ad R N tl T pl P) M V (xs (i + 1)) (xs (i + 2)) (y_mn M) hmn (by omega) hPl) (k := 200) rfl rfl gq_X4_look 2 rfl rfl rfl (by decide +kernel) ⟨Nat.le_of_ble_eq_true rfl, Nat.le_of_ble_eq_true rfl⟩ rfl rfl (Nat.le_of_ble_eq_true rfl) dL_law_525 ⟨by omega, by omega⟩) ?_
  show W _ _ _ _ _ _ _ _ _ _ _ _ _ _ _ (F0 m 528 ls [.int (y_lk M (y_fd M (xs (i + 1)) (y_mn M)) (xs (i + 1)) (xs (i + 2))), .int (d_lk pl P (xs (i + 1)) (xs (i + 2)))])
  have hS := w_ofy hS
  rw [hE]
  refine lv_icmp_eq (tgt := 679) hx hb dL_law_528 (by decide) (fun _ => ?_) (fun h => absurd rfl h)
  exact hkk H locs hS
set_option maxHeartbeats 4000000 in
set_option maxRecDepth 100000 in
/-- the law at next -/
theorem lwc_next {p : Program} {l : Launch} {e : Env} {s : State} {m : MethodId} {below : List Frame} {meth : Method} {c : Code} {H : Heap} {locs : List Loc} {cells slots : Nat} {Q : State → Prop} {G : x_G} {ad : Nat → Nat} {R : aR} {N : aN} {tl : aB} {T : aR} {pl : aB} {P : aR} {M : aR} {V : aN} {b L i : Nat} {xs : Nat → Int32} (C0 : x_B p s m meth c #[Value.ref b] cL_law 4 ret RL lw_tbl) (hK : x_K G s) (hX : va_X b L xs s G.2.1) (hbl : b < G.2.1.size) (hi : i + 4 < L) (hL : L ≤ 2560) (hmn : M 6 0 = nI (y_mn M)) (hm : y_mn M < 514) (hP : P_ok pl P) (hF : F_ok M) (hFi : Fi_ok M) (hS : x_H G ad (w_con G ad R N tl T pl P M V) H locs) (hrc : cells + 3 ≤ 600000) (hrs : slots + 505 ≤ 7302250) (hE : d_nx tl pl T P (xs (i + 1)) (xs (i + 2)) = y_nx M (y_mn M) (xs (i + 1)) (xs (i + 2))) {ls : Array Slot} (hl : lv_has ls 4 [(0, .ref b), (1, .ref (ad 0)), (2, .ref (ad 200)), (3, .int (nI i))]) (hkk : ∀ (H : Heap) (locs : List Loc), x_H G ad (w_con G ad R N tl T pl P M V) H locs → W p l e room_1 s m #[Value.ref b] below meth c H locs cells slots Q (F0 m 679 ls [])) : W p l e room_1 s m #[Value.ref b] below meth c H locs cells slots Q (F0 m 533 ls []) := by
  obtain ⟨hx, hb, hr, hml, hown, hts, hlk⟩ := id C0
  have hrc : cells + 3 ≤ room_1.cells := hrc
  have hrs : slots + 505 ≤ room_1.slots := hrs
  refine lv_aload_n hx hb dL_law_533 rfl (lv_at hl 1 rfl) ?_
  refine lv_aload_n hx hb dL_law_534 rfl (lv_at hl 0 rfl) ?_
  refine lv_iload_n hx hb dL_law_535 rfl (lv_at hl 3 rfl) ?_
  refine lv_iconst (v := 1) hx hb dL_law_536 (by decide) ?_
  refine lv_iadd hx hb dL_law_537 ?_
  refine lw_ld C0 hX hbl hS hi hL 1 (by decide) (nI_a i).1 dL_law_538 ?_
  refine lv_aload_n hx hb dL_law_539 rfl (lv_at hl 0 rfl) ?_
  refine lv_iload_n hx hb dL_law_540 rfl (lv_at hl 3 rfl) ?_
  refine lv_iconst (v := 2) hx hb dL_law_541 (by decide) ?_
  refine lv_iadd hx hb dL_law_542 ?_
  refine lw_ld C0 hX hbl hS hi hL 2 (by decide) (nI_a i).2.1 dL_law_543 ?_
  refine x_callr (x_rV C0 hl.1 hK hS (c_X3_next l G ad R N tl T pl P (x_mcon G ad M V) (xs (i + 1)) (xs (i + 2)) hP) (x_con_0 (by decide)) rfl gq_X3_next 2 rfl rfl rfl (by decide +kernel) ⟨Nat.le_of_ble_eq_true rfl, Nat.le_of_ble_eq_true rfl⟩ rfl rfl (Nat.le_of_ble_eq_true rfl) dL_law_544 ⟨by omega, by omega⟩) ?_
  show W _ _ _ _ _ _ _ _ _ _ _ _ _ _ _ (F0 m 547 ls [.int (d_nx tl pl T P (xs (i + 1)) (xs (i + 2)))])
  have hS := w_toy hS
  refine lv_aload_n hx hb dL_law_547 rfl (lv_at hl 2 rfl) ?_
  refine lv_aload_n hx hb dL_law_548 rfl (lv_at hl 0 rfl) ?_
  refine lv_iload_n hx hb dL_law_549 rfl (lv_at hl 3 rfl) ?_
  refine lv_iconst (v := 1) hx hb dL_law_550 (by decide) ?_
  refine lv_iadd hx hb dL_law_551 ?_
  refine lw_ld C0 hX hbl hS hi hL 1 (by decide) (nI_a i).1 dL_law_552 ?_
  refine lv_aload_n hx hb dL_law_553 rfl (lv_at hl 0 rfl) ?_
  refine lv_iload_n hx hb dL_law_554 rfl (lv_at hl 3 rfl) ?_
  refine lv_iconst (v := 2) hx hb dL_law_555 (by decide) ?_
  refine lv_iadd hx hb dL_law_556 ?_
  refine lw_ld C0 hX hbl hS hi hL 2 (by decide) (nI_a i).2.1 dL_law_557 ?_
  refine x_callr (x_rV C0 hl.1 hK hS (c_X4_next l G ad (w_D G ad R N tl T pl P) M V (xs (i + 1)) (xs (i + 2)) (y_mn M) hmn (by omega) hF hFi) (k := 200) rfl rfl gq_X4_next 2 rfl rfl rfl (by decide +kernel) ⟨Nat.le_of_ble_eq_true rfl, Nat.le_of_ble_eq_true rfl⟩ rfl rfl (Nat.le_of_ble_eq_true rfl) dL_law_558 ⟨by omega, by omega⟩) ?_
  show W _ _ _ _ _ _ _ _ _ _ _ _ _ _ _ (F0 m 561 ls [.int (y_nx M (y_mn M) (xs (i + 1)) (xs (i + 2))), .int (d_nx tl pl T P (xs (i + 1)) (xs (i + 2)))])
  have hS := w_ofy hS
  rw [hE]
  refine lv_icmp_eq (tgt := 679) hx hb dL_law_561 (by decide) (fun _ => ?_) (fun h => absurd rfl h)
  exact hkk H locs hS
set_option maxHeartbeats 4000000 in
set_option maxRecDepth 100000 in
/-- the law at value -/
theorem lwc_value {p : Program} {l : Launch} {e : Env} {s : State} {m : MethodId} {below : List Frame} {meth : Method} {c : Code} {H : Heap} {locs : List Loc} {cells slots : Nat} {Q : State → Prop} {G : x_G} {ad : Nat → Nat} {R : aR} {N : aN} {tl : aB} {T : aR} {pl : aB} {P : aR} {M : aR} {V : aN} {b L i : Nat} {xs : Nat → Int32} (C0 : x_B p s m meth c #[Value.ref b] cL_law 4 ret RL lw_tbl) (hK : x_K G s) (hX : va_X b L xs s G.2.1) (hbl : b < G.2.1.size) (hi : i + 4 < L) (hL : L ≤ 2560) (hH : H_ok M) (hS : x_H G ad (w_con G ad R N tl T pl P M V) H locs) (hrc : cells + 3 ≤ 600000) (hrs : slots + 505 ≤ 7302250) (hE : d_val R N (xs (i + 1)) = y_val M V (xs (i + 1))) {ls : Array Slot} (hl : lv_has ls 4 [(0, .ref b), (1, .ref (ad 0)), (2, .ref (ad 200)), (3, .int (nI i))]) (hkk : ∀ (H : Heap) (locs : List Loc), x_H G ad (w_con G ad R N tl T pl P M V) H locs → W p l e room_1 s m #[Value.ref b] below meth c H locs cells slots Q (F0 m 679 ls [])) : W p l e room_1 s m #[Value.ref b] below meth c H locs cells slots Q (F0 m 566 ls []) := by
  obtain ⟨hx, hb, hr, hml, hown, hts, hlk⟩ := id C0
  have hrc : cells + 3 ≤ room_1.cells := hrc
  have hrs : slots + 505 ≤ room_1.slots := hrs
  refine lv_aload_n hx hb dL_law_566 rfl (lv_at hl 1 rfl) ?_
  refine lv_aload_n hx hb dL_law_567 rfl (lv_at hl 0 rfl) ?_
  refine lv_iload_n hx hb dL_law_568 rfl (lv_at hl 3 rfl) ?_
  refine lv_iconst (v := 1) hx hb dL_law_569 (by decide) ?_
  refine lv_iadd hx hb dL_law_570 ?_
  refine lw_ld C0 hX hbl hS hi hL 1 (by decide) (nI_a i).1 dL_law_571 ?_
  refine x_callr (x_rV C0 hl.1 hK hS (c_X3_value l G ad R N tl T pl P (x_mcon G ad M V) (xs (i + 1))) (x_con_0 (by decide)) rfl gq_X3_value 1 rfl rfl rfl (by decide +kernel) ⟨Nat.le_of_ble_eq_true rfl, Nat.le_of_ble_eq_true rfl⟩ rfl rfl (Nat.le_of_ble_eq_true rfl) dL_law_572 ⟨by omega, by omega⟩) ?_
  show W _ _ _ _ _ _ _ _ _ _ _ _ _ _ _ (F0 m 575 ls [.long (d_val R N (xs (i + 1)))])
  have hS := w_toy hS
  refine lv_aload_n hx hb dL_law_575 rfl (lv_at hl 2 rfl) ?_
  refine lv_aload_n hx hb dL_law_576 rfl (lv_at hl 0 rfl) ?_
  refine lv_iload_n hx hb dL_law_577 rfl (lv_at hl 3 rfl) ?_
  refine lv_iconst (v := 1) hx hb dL_law_578 (by decide) ?_
  refine lv_iadd hx hb dL_law_579 ?_
  refine lw_ld C0 hX hbl hS hi hL 1 (by decide) (nI_a i).1 dL_law_580 ?_
  refine x_callr (x_rV C0 hl.1 hK hS (c_X4_value l G ad (w_D G ad R N tl T pl P) M V (xs (i + 1)) hH) (k := 200) rfl rfl gq_X4_value 1 rfl rfl rfl (by decide +kernel) ⟨Nat.le_of_ble_eq_true rfl, Nat.le_of_ble_eq_true rfl⟩ rfl rfl (Nat.le_of_ble_eq_true rfl) dL_law_581 ⟨by omega, by omega⟩) ?_
  show W _ _ _ _ _ _ _ _ _ _ _ _ _ _ _ (F0 m 584 ls [.long (y_val M V (xs (i + 1))), .long (d_val R N (xs (i + 1)))])
  have hS := w_ofy hS
  rw [hE]
  refine W.lcmp hx hb dL_law_584 ?_
  rw [lg_cmp_self]
  refine lv_if_eq (tgt := 679) hx hb dL_law_585 (by decide) (fun _ => ?_) (fun h => absurd rfl h)
  exact hkk H locs hS
set_option maxHeartbeats 4000000 in
set_option maxRecDepth 100000 in
/-- the law at letter -/
theorem lwc_letter {p : Program} {l : Launch} {e : Env} {s : State} {m : MethodId} {below : List Frame} {meth : Method} {c : Code} {H : Heap} {locs : List Loc} {cells slots : Nat} {Q : State → Prop} {G : x_G} {ad : Nat → Nat} {R : aR} {N : aN} {tl : aB} {T : aR} {pl : aB} {P : aR} {M : aR} {V : aN} {b L i : Nat} {xs : Nat → Int32} (C0 : x_B p s m meth c #[Value.ref b] cL_law 4 ret RL lw_tbl) (hK : x_K G s) (hX : va_X b L xs s G.2.1) (hbl : b < G.2.1.size) (hi : i + 4 < L) (hL : L ≤ 2560) (hR : h_ok R) (hH : H_ok M) (hB : B_ok M) (hS : x_H G ad (w_con G ad R N tl T pl P M V) H locs) (hrc : cells + 3 ≤ 600000) (hrs : slots + 505 ≤ 7302250) (hE : h_lt R (xs (i + 1)) (xs (i + 2)) = y_lt M V (xs (i + 1)) (xs (i + 2))) {ls : Array Slot} (hl : lv_has ls 4 [(0, .ref b), (1, .ref (ad 0)), (2, .ref (ad 200)), (3, .int (nI i))]) (hkk : ∀ (H : Heap) (locs : List Loc), x_H G ad (w_con G ad R N tl T pl P M V) H locs → W p l e room_1 s m #[Value.ref b] below meth c H locs cells slots Q (F0 m 679 ls [])) : W p l e room_1 s m #[Value.ref b] below meth c H locs cells slots Q (F0 m 590 ls []) := by
  obtain ⟨hx, hb, hr, hml, hown, hts, hlk⟩ := id C0
  have hrc : cells + 3 ≤ room_1.cells := hrc
  have hrs : slots + 505 ≤ room_1.slots := hrs
  refine lv_aload_n hx hb dL_law_590 rfl (lv_at hl 1 rfl) ?_
  refine lv_aload_n hx hb dL_law_591 rfl (lv_at hl 0 rfl) ?_
  refine lv_iload_n hx hb dL_law_592 rfl (lv_at hl 3 rfl) ?_
  refine lv_iconst (v := 1) hx hb dL_law_593 (by decide) ?_
  refine lv_iadd hx hb dL_law_594 ?_
  refine lw_ld C0 hX hbl hS hi hL 1 (by decide) (nI_a i).1 dL_law_595 ?_
  refine lv_aload_n hx hb dL_law_596 rfl (lv_at hl 0 rfl) ?_
  refine lv_iload_n hx hb dL_law_597 rfl (lv_at hl 3 rfl) ?_
  refine lv_iconst (v := 2) hx hb dL_law_598 (by decide) ?_
  refine lv_iadd hx hb dL_law_599 ?_
  refine lw_ld C0 hX hbl hS hi hL 2 (by decide) (nI_a i).2.1 dL_law_600 ?_
  refine x_callr (x_rV C0 hl.1 hK hS (c_X3_letter l G ad R N tl T pl P (x_mcon G ad M V) (xs (i + 1)) (xs (i + 2)) hR) (x_con_0 (by decide)) rfl gq_X3_letter 2 rfl rfl rfl (by decide +kernel) ⟨Nat.le_of_ble_eq_true rfl, Nat.le_of_ble_eq_true rfl⟩ rfl rfl (Nat.le_of_ble_eq_true rfl) dL_law_601 ⟨by omega, by omega⟩) ?_
  show W _ _ _ _ _ _ _ _ _ _ _ _ _ _ _ (F0 m 604 ls [.int (h_lt R (xs (i + 1)) (xs (i + 2)))])
  have hS := w_toy hS
  refine lv_aload_n hx hb dL_law_604 rfl (lv_at hl 2 rfl) ?_
  refine lv_aload_n hx hb dL_law_605 rfl (lv_at hl 0 rfl) ?_
  refine lv_iload_n hx hb dL_law_606 rfl (lv_at hl 3 rfl) ?_
  refine lv_iconst (v := 1) hx hb dL_law_607 (by decide) ?_
  refine lv_iadd hx hb dL_law_608 ?_
  refine lw_ld C0 hX hbl hS hi hL 1 (by decide) (nI_a i).1 dL_law_609 ?_
  refine lv_aload_n hx hb dL_law_610 rfl (lv_at hl 0 rfl) ?_
  refine lv_iload_n hx hb dL_law_611 rfl (lv_at hl 3 rfl) ?_
  refine lv_iconst (v := 2) hx hb dL_law_612 (by decide) ?_
  refine lv_iadd hx hb dL_law_613 ?_
  refine lw_ld C0 hX hbl hS hi hL 2 (by decide) (nI_a i).2.1 dL_law_614 ?_
  refine x_callr (x_rV C0 hl.1 hK hS (c_X4_letter l G ad (w_D G ad R N tl T pl P) M V (xs (i + 1)) (xs (i + 2)) hH hB) (k := 200) rfl rfl gq_X4_letter 2 rfl rfl rfl (by decide +kernel) ⟨Nat.le_of_ble_eq_true rfl, Nat.le_of_ble_eq_true rfl⟩ rfl rfl (Nat.le_of_ble_eq_true rfl) dL_law_615 ⟨by omega, by omega⟩) ?_
  show W _ _ _ _ _ _ _ _ _ _ _ _ _ _ _ (F0 m 618 ls [.int (y_lt M V (xs (i + 1)) (xs (i + 2))), .int (h_lt R (xs (i + 1)) (xs (i + 2)))])
  have hS := w_ofy hS
  rw [hE]
  refine lv_icmp_eq (tgt := 679) hx hb dL_law_618 (by decide) (fun _ => ?_) (fun h => absurd rfl h)
  exact hkk H locs hS
set_option maxHeartbeats 4000000 in
set_option maxRecDepth 100000 in
/-- the law at kind -/
theorem lwc_kind {p : Program} {l : Launch} {e : Env} {s : State} {m : MethodId} {below : List Frame} {meth : Method} {c : Code} {H : Heap} {locs : List Loc} {cells slots : Nat} {Q : State → Prop} {G : x_G} {ad : Nat → Nat} {R : aR} {N : aN} {tl : aB} {T : aR} {pl : aB} {P : aR} {M : aR} {V : aN} {b L i : Nat} {xs : Nat → Int32} (C0 : x_B p s m meth c #[Value.ref b] cL_law 4 ret RL lw_tbl) (hK : x_K G s) (hX : va_X b L xs s G.2.1) (hbl : b < G.2.1.size) (hi : i + 4 < L) (hL : L ≤ 2560) (hH : H_ok M) (hS : x_H G ad (w_con G ad R N tl T pl P M V) H locs) (hrc : cells + 3 ≤ 600000) (hrs : slots + 505 ≤ 7302250) (hE : h_kd R (xs (i + 1)) = y_kd M (xs (i + 1))) {ls : Array Slot} (hl : lv_has ls 4 [(0, .ref b), (1, .ref (ad 0)), (2, .ref (ad 200)), (3, .int (nI i))]) (hkk : ∀ (H : Heap) (locs : List Loc), x_H G ad (w_con G ad R N tl T pl P M V) H locs → W p l e room_1 s m #[Value.ref b] below meth c H locs cells slots Q (F0 m 679 ls [])) : W p l e room_1 s m #[Value.ref b] below meth c H locs cells slots Q (F0 m 623 ls []) := by
  obtain ⟨hx, hb, hr, hml, hown, hts, hlk⟩ := id C0
  have hrc : cells + 3 ≤ room_1.cells := hrc
  have hrs : slots + 505 ≤ room_1.slots := hrs
  refine lv_aload_n hx hb dL_law_623 rfl (lv_at hl 1 rfl) ?_
  refine lv_aload_n hx hb dL_law_624 rfl (lv_at hl 0 rfl) ?_
  refine lv_iload_n hx hb dL_law_625 rfl (lv_at hl 3 rfl) ?_
  refine lv_iconst (v := 1) hx hb dL_law_626 (by decide) ?_
  refine lv_iadd hx hb dL_law_627 ?_
  refine lw_ld C0 hX hbl hS hi hL 1 (by decide) (nI_a i).1 dL_law_628 ?_
  refine x_callr (x_rV C0 hl.1 hK hS (c_X3_kind l G ad R N tl T pl P (x_mcon G ad M V) (xs (i + 1))) (x_con_0 (by decide)) rfl gq_X3_kind 1 rfl rfl rfl (by decide +kernel) ⟨Nat.le_of_ble_eq_true rfl, Nat.le_of_ble_eq_true rfl⟩ rfl rfl (Nat.le_of_ble_eq_true rfl) dL_law_629 ⟨by omega, by omega⟩) ?_
  show W _ _ _ _ _ _ _ _ _ _ _ _ _ _ _ (F0 m 632 ls [.int (h_kd R (xs (i + 1)))])
  have hS := w_toy hS
  refine lv_aload_n hx hb dL_law_632 rfl (lv_at hl 2 rfl) ?_
  refine lv_aload_n hx hb dL_law_633 rfl (lv_at hl 0 rfl) ?_
  refine lv_iload_n hx hb dL_law_634 rfl (lv_at hl 3 rfl) ?_
  refine lv_iconst (v := 1) hx hb dL_law_635 (by decide) ?_
  refine lv_iadd hx hb dL_law_636 ?_
  refine lw_ld C0 hX hbl hS hi hL 1 (by decide) (nI_a i).1 dL_law_637 ?_
  refine x_callr (x_rV C0 hl.1 hK hS (c_X4_kind l G ad (w_D G ad R N tl T pl P) M V (xs (i + 1)) hH) (k := 200) rfl rfl gq_X4_kind 1 rfl rfl rfl (by decide +kernel) ⟨Nat.le_of_ble_eq_true rfl, Nat.le_of_ble_eq_true rfl⟩ rfl rfl (Nat.le_of_ble_eq_true rfl) dL_law_638 ⟨by omega, by omega⟩) ?_
  show W _ _ _ _ _ _ _ _ _ _ _ _ _ _ _ (F0 m 641 ls [.int (y_kd M (xs (i + 1))), .int (h_kd R (xs (i + 1)))])
  have hS := w_ofy hS
  rw [hE]
  refine lv_icmp_eq (tgt := 679) hx hb dL_law_641 (by decide) (fun _ => ?_) (fun h => absurd rfl h)
  exact hkk H locs hS
set_option maxHeartbeats 4000000 in
set_option maxRecDepth 100000 in
/-- the law at page -/
theorem lwc_page {p : Program} {l : Launch} {e : Env} {s : State} {m : MethodId} {below : List Frame} {meth : Method} {c : Code} {H : Heap} {locs : List Loc} {cells slots : Nat} {Q : State → Prop} {G : x_G} {ad : Nat → Nat} {R : aR} {N : aN} {tl : aB} {T : aR} {pl : aB} {P : aR} {M : aR} {V : aN} {b L i : Nat} {xs : Nat → Int32} (C0 : x_B p s m meth c #[Value.ref b] cL_law 4 ret RL lw_tbl) (hK : x_K G s) (hX : va_X b L xs s G.2.1) (hbl : b < G.2.1.size) (hi : i + 4 < L) (hL : L ≤ 2560) (hmn : M 6 0 = nI (y_mn M)) (hm : y_mn M < 514) (hS : x_H G ad (w_con G ad R N tl T pl P M V) H locs) (hrc : cells + 3 ≤ 600000) (hrs : slots + 505 ≤ 7302250) (hE : d_pg pl P (xs (i + 1)) (xs (i + 2)) = y_pg M (y_mn M) (xs (i + 1)) (xs (i + 2))) {ls : Array Slot} (hl : lv_has ls 4 [(0, .ref b), (1, .ref (ad 0)), (2, .ref (ad 200)), (3, .int (nI i))]) (hkk : ∀ (H : Heap) (locs : List Loc), x_H G ad (w_con G ad R N tl T pl P M V) H locs → W p l e room_1 s m #[Value.ref b] below meth c H locs cells slots Q (F0 m 679 ls [])) : W p l e room_1 s m #[Value.ref b] below meth c H locs cells slots Q (F0 m 646 ls []) := by
  obtain ⟨hx, hb, hr, hml, hown, hts, hlk⟩ := id C0
  have hrc : cells + 3 ≤ room_1.cells := hrc
  have hrs : slots + 505 ≤ room_1.slots := hrs
  refine lv_aload_n hx hb dL_law_646 rfl (lv_at hl 1 rfl) ?_
  refine lv_aload_n hx hb dL_law_647 rfl (lv_at hl 0 rfl) ?_
  refine lv_iload_n hx hb dL_law_648 rfl (lv_at hl 3 rfl) ?_
  refine lv_iconst (v := 1) hx hb dL_law_649 (by decide) ?_
  refine lv_iadd hx hb dL_law_650 ?_
  refine lw_ld C0 hX hbl hS hi hL 1 (by decide) (nI_a i).1 dL_law_651 ?_
  refine lv_aload_n hx hb dL_law_652 rfl (lv_at hl 0 rfl) ?_
  refine lv_iload_n hx hb dL_law_653 rfl (lv_at hl 3 rfl) ?_
  refine lv_iconst (v := 2) hx hb dL_law_654 (by decide) ?_
  refine lv_iadd hx hb dL_law_655 ?_
  refine lw_ld C0 hX hbl hS hi hL 2 (by decide) (nI_a i).2.1 dL_law_656 ?_
  refine x_callr (x_rV C0 hl.1 hK hS (c_X3_page l G ad R N tl T pl P (x_mcon G ad M V) (xs (i + 1)) (xs (i + 2))) (x_con_0 (by decide)) rfl gq_X3_page 2 rfl rfl rfl (by decide +kernel) ⟨Nat.le_of_ble_eq_true rfl, Nat.le_of_ble_eq_true rfl⟩ rfl rfl (Nat.le_of_ble_eq_true rfl) dL_law_657 ⟨by omega, by omega⟩) ?_
  show W _ _ _ _ _ _ _ _ _ _ _ _ _ _ _ (F0 m 660 ls [.int (d_pg pl P (xs (i + 1)) (xs (i + 2)))])
  have hS := w_toy hS
  refine lv_aload_n hx hb dL_law_660 rfl (lv_at hl 2 rfl) ?_
  refine lv_aload_n hx hb dL_law_661 rfl (lv_at hl 0 rfl) ?_
  refine lv_iload_n hx hb dL_law_662 rfl (lv_at hl 3 rfl) ?_
  refine lv_iconst (v := 1) hx hb dL_law_663 (by decide) ?_
  refine lv_iadd hx hb dL_law_664 ?_
  refine lw_ld C0 hX hbl hS hi hL 1 (by decide) (nI_a i).1 dL_law_665 ?_
  refine lv_aload_n hx hb dL_law_666 rfl (lv_at hl 0 rfl) ?_
  refine lv_iload_n hx hb dL_law_667 rfl (lv_at hl 3 rfl) ?_
  refine lv_iconst (v := 2) hx hb dL_law_668 (by decide) ?_
  refine lv_iadd hx hb dL_law_669 ?_
  refine lw_ld C0 hX hbl hS hi hL 2 (by decide) (nI_a i).2.1 dL_law_670 ?_
  refine x_callr (x_rV C0 hl.1 hK hS (c_X4_page l G ad (w_D G ad R N tl T pl P) M V (xs (i + 1)) (xs (i + 2)) (y_mn M) hmn (by omega)) (k := 200) rfl rfl gq_X4_page 2 rfl rfl rfl (by decide +kernel) ⟨Nat.le_of_ble_eq_true rfl, Nat.le_of_ble_eq_true rfl⟩ rfl rfl (Nat.le_of_ble_eq_true rfl) dL_law_671 ⟨by omega, by omega⟩) ?_
  show W _ _ _ _ _ _ _ _ _ _ _ _ _ _ _ (F0 m 674 ls [.int (y_pg M (y_mn M) (xs (i + 1)) (xs (i + 2))), .int (d_pg pl P (xs (i + 1)) (xs (i + 2)))])
  have hS := w_ofy hS
  rw [hE]
  refine lv_icmp_eq (tgt := 679) hx hb dL_law_674 (by decide) (fun _ => ?_) (fun h => absurd rfl h)
  exact hkk H locs hS
