-- ===== the reference: put =====
def sl (M : Nat → Nat → Int32) (p : Nat) : Nat := (M 4 p).toNatClampNeg
def Sl_ok (M : Nat → Nat → Int32) : Prop := ∀ p, p < 60 → M 4 p = nI (sl M p) ∧ sl M p ≤ 200
def C_ok (M : Nat → Nat → Int32) : Prop := ∀ t, t < 8 → 0 < M 0 t → M 0 t = nI (M 0 t).toNatClampNeg ∧ (M 0 t).toNatClampNeg ≤ 8
def Ty_ok (M : Nat → Nat → Int32) : Prop := ∀ t c, t < 8 → c < 8 → nI c < M 0 t → M 1 (8 * t + c) = 1 ∨ M 1 (8 * t + c) = 2 ∨ M 1 (8 * t + c) = 3
theorem y_ft_all {M : Nat → Nat → Int32} {t : Nat} : ∀ {m : Nat}, y_ft M t m = true → ∀ c, c < m → y_f1 M t c = true
  | 0, _, c, h => absurd h (by omega)
  | m + 1, h, c, hc => by
    simp only [y_ft, Bool.and_eq_true] at h
    by_cases h1 : c = m
    · rw [h1]; exact h.2
    · exact y_ft_all h.1 c (by omega)
theorem y_x9 {M : Nat → Nat → Int32} {t m1 : Nat} (ht : t < 8) (hm1 : m1 ≤ 8) (hcol : M 0 t = nI m1) (hH : H_ok M) (hTy : Ty_ok M) (hf : y_ft M t m1 = true) : ∀ c, c < m1 → M 16 c ≠ 0 → M 1 (8 * t + c) ≠ 1 → M 1 (8 * t + c) ≠ 3 → M 16 c = nI (hs M c) := by
  intro c hc h0 h1 h3
  have h2 : M 1 (8 * t + c) = 2 := by
    rcases hTy t c ht (by omega) (by rw [hcol]; exact nI_lt hc (by omega)) with h | h | h
    · exact absurd h h1
    · exact h
    · exact absurd h h3
  have hf1 := y_ft_all hf c hc
  unfold y_f1 at hf1
  rw [decide_eq_false h0, decide_eq_true h2] at hf1
  have : y_tx M (M 16 c) = true := by simpa using hf1
  exact (hH c (by omega)).2.2 this
def y_pl (M : Nat → Nat → Int32) (mn : Nat) (z : Int32) : Nat → Int32 → Nat → Int32 × Nat
  | 0, p, l => (p, l)
  | d + 1, p, l => if 0 ≤ p ∧ y_ro M mn p.toNatClampNeg (sl M p.toNatClampNeg) z < 0 then y_pl M mn z d (M 5 p.toNatClampNeg) p.toNatClampNeg else (p, l)
def y_pc (M : Nat → Nat → Int32) (t c : Nat) : Int32 := if nI c < M 0 t ∧ M 16 c ≠ 0 then (if M 1 (8 * t + c) = 3 then -(y_so (M 16 c)) else M 16 c) else 0
def y_pcs (M : Nat → Nat → Int32) (t mn n : Nat) : Nat → Nat → Int32 := va_up M 15 (fun i => if 8 * mn ≤ i ∧ i < 8 * mn + n then (y_pc M t (i - 8 * mn)).toInt16.toInt32 else M 15 i)
theorem y_pcs_0 (M : Nat → Nat → Int32) (t mn : Nat) : y_pcs M t mn 0 = M := by
  unfold y_pcs
  rw [show (fun i => if 8 * mn ≤ i ∧ i < 8 * mn + 0 then (y_pc M t (i - 8 * mn)).toInt16.toInt32 else M 15 i) = M 15 from by funext j; rw [if_neg (by omega)], va_up_id]
theorem y_pcs_o {M M1 : Nat → Nat → Int32} {t mn n : Nat} (h : M1 = y_pcs M t mn n) (j : Nat) (hj : j ≠ 15) : M1 j = M j := by
  rw [h]; unfold y_pcs; rw [va_up_ne _ _ hj]
theorem y_pcs_s {M M1 : Nat → Nat → Int32} {t mn n : Nat} {v : Int32} (h : M1 = y_pcs M t mn n) (hv : v = y_pc M1 t n) : va_up M1 15 (upd (M1 15) (8 * mn + n) (vp_nar .short v.toInt16.toInt32)) = y_pcs M t mn (n + 1) := by
  have e : v = y_pc M t n := by
    rw [hv]; unfold y_pc
    rw [y_pcs_o h 0 (by decide), y_pcs_o h 16 (by decide), y_pcs_o h 1 (by decide)]
  rw [pk_vs, e, h]
  unfold y_pcs
  rw [bx_uu, va_up_self]
  congr 1
  funext j
  by_cases hj : j = 8 * mn + n
  · rw [hj, pk_us, if_pos (by omega), show 8 * mn + n - 8 * mn = n by omega]
  · rw [pk_un hj]
    by_cases h2 : 8 * mn ≤ j ∧ j < 8 * mn + n
    · rw [if_pos h2, if_pos (by omega)]
    · rw [if_neg h2, if_neg (by omega)]
def y_pe (M : Nat → Nat → Int32) (mn t : Nat) : Nat → Nat → Int32 := va_up (y_pcs M t mn 8) 6 (upd (M 6) 0 (nI (mn + 1)))
def y_pa (M : Nat → Nat → Int32) (mn p : Nat) (s z v b i : Int32) : Nat → Nat → Int32 := va_up (va_up (va_up (va_up (va_up (va_up (va_up (va_up (va_up M 4 (upd (M 4) p (if s = M 4 p then s + 1 else M 4 p))) 7 (upd (M 7) mn (256 * nI p + s))) 8 (upd (M 8) mn v)) 9 (upd (M 9) mn b)) 10 (upd (M 10) mn i)) 11 (upd (M 11) mn 0)) 12 (upd (M 12) mn 0)) 13 (upd (M 13) mn (-1))) 14 (upd (M 14) mn z)
abbrev y_R : Type := Int32 × (Nat → Nat → Int32)
def y_pf (M : Nat → Nat → Int32) (mn t : Nat) (z v b i : Int32) (q : Nat) : y_R := (256 * nI q + y_ro M mn q (sl M q) z, y_pe (y_pa M mn q (y_ro M mn q (sl M q) z) z v b i) mn t)
def y_pn (M : Nat → Nat → Int32) (t l q : Nat) : Nat → Nat → Int32 := va_up (y_op M q (nI t)) 5 (upd (y_op M q (nI t) 5) l (nI q))
def y_pg9 (M : Nat → Nat → Int32) (mn t : Nat) (z v b i : Int32) (r : Int32 × Nat) : y_R := if 0 ≤ r.1 then y_pf M mn t z v b i r.1.toNatClampNeg else if y_lf M 60 (-1) < 0 then (-1, M) else y_pf (y_pn M t r.2 (y_lf M 60 (-1)).toNatClampNeg) mn t z v b i (y_lf M 60 (-1)).toNatClampNeg
def y_pok (M : Nat → Nat → Int32) (t v b i : Int32) : Bool := y_th M t && (!decide (v < 0) && (m_in b 0 65535 && (m_in i 0 65535 && y_ft M t.toNatClampNeg (M 0 t.toNatClampNeg).toNatClampNeg)))
def y_put (M : Nat → Nat → Int32) (mn : Nat) (t v b i : Int32) : y_R := if y_pok M t v b i then y_pg9 M mn t.toNatClampNeg (y_sz M t.toNatClampNeg (M 0 t.toNatClampNeg).toNatClampNeg) v b i (y_pl M mn (y_sz M t.toNatClampNeg (M 0 t.toNatClampNeg).toNatClampNeg) 60 (M 2 t.toNatClampNeg) (M 2 t.toNatClampNeg).toNatClampNeg) else (-2, M)
theorem kX4_put_wX4 : ∀ w ∈ u_ws RX4 TX4 22, w ∈ wsX4_put := by decide +kernel
theorem kX4_put_f105 : Cond.fieldLink RX4 105 "VersionDeskModel" "many" "I" ∈ wsX4_put := by decide +kernel
theorem kX4_put_f13 : Cond.fieldLink RX4 13 "VersionDeskModel" "types" "[I" ∈ wsX4_put := by decide +kernel
theorem kX4_put_f28 : Cond.fieldLink RX4 28 "VersionDeskModel" "place" "[I" ∈ wsX4_put := by decide +kernel
theorem kX4_put_f52 : Cond.fieldLink RX4 52 "VersionDeskModel" "cells" "[S" ∈ wsX4_put := by decide +kernel
theorem kX4_put_f56 : Cond.fieldLink RX4 56 "VersionDeskModel" "hand" "[I" ∈ wsX4_put := by decide +kernel
theorem kX4_put_f7 : Cond.fieldLink RX4 7 "VersionDeskModel" "columns" "[I" ∈ wsX4_put := by decide +kernel
set_option maxHeartbeats 4000000 in
set_option maxRecDepth 100000 in
theorem l_X4_put2 {p : Program} {l : Launch} {e : Env} {s : State} {m : MethodId} {args : Array Value} {below : List Frame} {meth : Method} {c : Code} {G : x_G} {ad : Nat → Nat} {D : Nat → Option va_E} {V : Nat → Int64} (C0 : x_B p s m meth c args cX4_put 11 (some .int) RX4 wsX4_put) (hK : x_K G s) {M0 : Nat → Nat → Int32} {t mn : Nat} {r : y_R} (ht : t < 8) (hmn0 : M0 6 0 = nI mn) (hm : mn < 514) (hr9 : r = (M0 7 mn, y_pe M0 mn t)) : ∀ (d : Nat) (c1 : Nat) (M : Nat → Nat → Int32) (H : Heap) (locs : List Loc), 8 - c1 < d → c1 ≤ 8 → M = y_pcs M0 t mn c1 → x_H G ad (y_con G ad D M V) H locs → ∀ (ls : Array Slot), lv_has ls 11 [(0, .ref (ad 200)), (1, .int (nI t)), (9, .int (nI c1))] → W p l e ({ frames := 3, cells := 0, slots := 0, locals := 69 } : Room) s m args below meth c H locs 0 0 (MQ below (x_Qw G ad (y_con G ad D r.2 V) (some (.int r.1))) args s 0 0 (x_A G)) (F0 m 278 ls []) := by
  obtain ⟨hx, hb, hr, hml, hown, hts, hlk⟩ := id C0
  intro d
  induction d with
  | zero =>
    intro c1 M H locs hd hc hMi hS ls hl
    exact absurd hd (by omega)
  | succ d ih =>
    intro c1 M H locs hd hc hMi hS ls hl
    refine lv_iload hx hb dX4_put_278 (lv_at hl 2 rfl) ?_
    refine lv_bipush (v := 8) hx hb dX4_put_280 (by decide) ?_
    refine lv_icmp_ge (tgt := 381) hx hb dX4_put_282 (by decide) (fun c282 => ?_) (fun c282 => ?_)
    · have hc2 := nz_le (a := 8) c282 rfl rfl (by omega) (by omega)
      have hmn : M 6 0 = nI mn := by rw [y_pcs_o hMi 6 (by decide)]; exact hmn0
      refine lv_aload_n hx hb dX4_put_381 rfl (lv_at hl 0 rfl) ?_
      refine lv_dup hx hb dX4_put_382 rfl ?_
      refine y_geti (j := 6) C0 hK hS (by decide) kX4_put_wX4 kX4_put_f105 dX4_put_383 ?_
      rw [hmn]
      refine lv_iconst (v := 1) hx hb dX4_put_386 (by decide) ?_
      refine lv_iadd hx hb dX4_put_387 ?_
      rw [show nI mn + 1 = nI (mn + 1) from nI_1 mn]
      refine y_puti (j := 6) C0 hK hS (by decide) kX4_put_wX4 kX4_put_f105 dX4_put_388 (fun H locs hS => ?_)
      obtain ⟨M1, eM1⟩ : ∃ zz, zz = va_up M 6 (upd (M 6) 0 (nI (mn + 1))) := ⟨_, rfl⟩
      rw [← eM1] at hS
      have hM1_6 : M1 6 0 = nI (mn + 1) := by rw [eM1, va_up_self, pk_us]
      refine lv_aload_n hx hb dX4_put_391 rfl (lv_at hl 0 rfl) ?_
      refine y_get (j := 7) C0 hK hS (by decide) (by decide) kX4_put_wX4 kX4_put_f28 dX4_put_392 ?_
      refine lv_aload_n hx hb dX4_put_395 rfl (lv_at hl 0 rfl) ?_
      refine y_geti (j := 6) C0 hK hS (by decide) kX4_put_wX4 kX4_put_f105 dX4_put_396 ?_
      rw [hM1_6]
      refine lv_iconst (v := 1) hx hb dX4_put_399 (by decide) ?_
      refine lv_isub hx hb dX4_put_400 ?_
      rw [show nI (mn + 1) - 1 = nI mn from nI_pred mn]
      refine y_iald (j := 7) (i := mn) (n := 515) C0 hK hS (by decide) (by decide) (by decide) (by omega) rfl dX4_put_401 ?_
      exact x_wreti C0 hS (by rw [hr9, eM1, hMi, show c1 = 8 by omega]; rfl) (by rw [hr9, eM1, va_up_ne _ _ (by decide), y_pcs_o hMi 7 (by decide)]) dX4_put_402
    · have hc2 := nz_nle (a := 8) c282 rfl rfl (by omega) (by omega)
      have hmn : M 6 0 = nI mn := by rw [y_pcs_o hMi 6 (by decide)]; exact hmn0
      refine lv_iload hx hb dX4_put_285 (lv_at hl 2 rfl) ?_
      refine lv_aload_n hx hb dX4_put_287 rfl (lv_at hl 0 rfl) ?_
      refine y_get (j := 0) C0 hK hS (by decide) (by decide) kX4_put_wX4 kX4_put_f7 dX4_put_288 ?_
      refine lv_iload_n hx hb dX4_put_291 rfl (lv_at hl 1 rfl) ?_
      refine y_iald (j := 0) (i := t) (n := 8) C0 hK hS (by decide) (by decide) (by decide) (by omega) rfl dX4_put_292 ?_
      refine lv_icmp_ge (tgt := 310) hx hb dX4_put_293 (by decide) (fun c293 => ?_) (fun c293 => ?_)
      · refine lv_iconst (v := 0) hx hb dX4_put_310 (by decide) ?_
        refine lv_istore (lv' := [(10, .int 0), (0, .ref (ad 200)), (1, .int (nI t)), (9, .int (nI c1))]) hx hb dX4_put_311 hl (by decide) rfl (fun ls hl => ?_)
        refine lv_aload_n hx hb dX4_put_313 rfl (lv_at hl 1 rfl) ?_
        refine y_get (j := 15) C0 hK hS (by decide) (by decide) kX4_put_wX4 kX4_put_f52 dX4_put_314 ?_
        refine lv_bipush (v := 8) hx hb dX4_put_317 (by decide) ?_
        refine lv_aload_n hx hb dX4_put_319 rfl (lv_at hl 1 rfl) ?_
        refine y_geti (j := 6) C0 hK hS (by decide) kX4_put_wX4 kX4_put_f105 dX4_put_320 ?_
        rw [hmn]
        refine lv_imul hx hb dX4_put_323 ?_
        refine lv_iload hx hb dX4_put_324 (lv_at hl 3 rfl) ?_
        refine lv_iadd hx hb dX4_put_326 ?_
        rw [show (8 : Int32) * nI mn + nI c1 = nI (8 * mn + c1) from (by rw [show (8 : Int32) * nI mn = nI (8 * mn) from pk_mul 8 mn]; exact nI_add _ _)]
        refine lv_iload hx hb dX4_put_327 (lv_at hl 0 rfl) ?_
        refine lv_if_ne (tgt := 336) hx hb dX4_put_329 (by decide) (fun c329 => absurd (by decide) c329) (fun c329 => ?_)
        refine lv_iconst (v := 0) hx hb dX4_put_332 (by decide) ?_
        refine lv_goto (tgt := 373) hx hb dX4_put_333 (by decide) ?_
        refine lv_i2s hx hb dX4_put_373 rfl ?_
        refine y_sast (i := 8 * mn + c1) C0 hK hS (by omega) rfl dX4_put_374 (fun H locs hS => ?_)
        rw [y_pcs_s hMi (by unfold y_pc; rw [if_neg (fun z => absurd z.1 (Int32.not_lt.mpr c293))])] at hS
        refine lv_iinc (v := nI (c1 + 1)) (lv' := [(9, .int (nI (c1 + 1))), (10, .int 0), (0, .ref (ad 200)), (1, .int (nI t))]) hx hb dX4_put_375 hl (k := 3) rfl (nI_1 c1) (by decide) rfl (fun ls hl => ?_)
        refine lv_goto (tgt := 278) hx hb dX4_put_378 (by decide) ?_
        exact ih (c1 + 1) _ _ _ (by omega) (by omega) rfl hS ls (lv_sub hl [2, 3, 0] rfl)
      · refine lv_aload_n hx hb dX4_put_296 rfl (lv_at hl 0 rfl) ?_
        refine y_get (j := 16) C0 hK hS (by decide) (by decide) kX4_put_wX4 kX4_put_f56 dX4_put_297 ?_
        refine lv_iload hx hb dX4_put_300 (lv_at hl 2 rfl) ?_
        refine y_iald (j := 16) (i := c1) (n := 8) C0 hK hS (by decide) (by decide) (by decide) (by omega) rfl dX4_put_302 ?_
        refine lv_if_eq (tgt := 310) hx hb dX4_put_303 (by decide) (fun c303 => ?_) (fun c303 => ?_)
        · refine lv_iconst (v := 0) hx hb dX4_put_310 (by decide) ?_
          refine lv_istore (lv' := [(10, .int 0), (0, .ref (ad 200)), (1, .int (nI t)), (9, .int (nI c1))]) hx hb dX4_put_311 hl (by decide) rfl (fun ls hl => ?_)
          refine lv_aload_n hx hb dX4_put_313 rfl (lv_at hl 1 rfl) ?_
          refine y_get (j := 15) C0 hK hS (by decide) (by decide) kX4_put_wX4 kX4_put_f52 dX4_put_314 ?_
          refine lv_bipush (v := 8) hx hb dX4_put_317 (by decide) ?_
          refine lv_aload_n hx hb dX4_put_319 rfl (lv_at hl 1 rfl) ?_
          refine y_geti (j := 6) C0 hK hS (by decide) kX4_put_wX4 kX4_put_f105 dX4_put_320 ?_
          rw [hmn]
          refine lv_imul hx hb dX4_put_323 ?_
          refine lv_iload hx hb dX4_put_324 (lv_at hl 3 rfl) ?_
          refine lv_iadd hx hb dX4_put_326 ?_
          rw [show (8 : Int32) * nI mn + nI c1 = nI (8 * mn + c1) from (by rw [show (8 : Int32) * nI mn = nI (8 * mn) from pk_mul 8 mn]; exact nI_add _ _)]
          refine lv_iload hx hb dX4_put_327 (lv_at hl 0 rfl) ?_
          refine lv_if_ne (tgt := 336) hx hb dX4_put_329 (by decide) (fun c329 => absurd (by decide) c329) (fun c329 => ?_)
          refine lv_iconst (v := 0) hx hb dX4_put_332 (by decide) ?_
          refine lv_goto (tgt := 373) hx hb dX4_put_333 (by decide) ?_
          refine lv_i2s hx hb dX4_put_373 rfl ?_
          refine y_sast (i := 8 * mn + c1) C0 hK hS (by omega) rfl dX4_put_374 (fun H locs hS => ?_)
          rw [y_pcs_s hMi (by unfold y_pc; rw [if_neg (fun z => z.2 c303)])] at hS
          refine lv_iinc (v := nI (c1 + 1)) (lv' := [(9, .int (nI (c1 + 1))), (10, .int 0), (0, .ref (ad 200)), (1, .int (nI t))]) hx hb dX4_put_375 hl (k := 3) rfl (nI_1 c1) (by decide) rfl (fun ls hl => ?_)
          refine lv_goto (tgt := 278) hx hb dX4_put_378 (by decide) ?_
          exact ih (c1 + 1) _ _ _ (by omega) (by omega) rfl hS ls (lv_sub hl [2, 3, 0] rfl)
        · refine lv_iconst (v := 1) hx hb dX4_put_306 (by decide) ?_
          refine lv_goto (tgt := 311) hx hb dX4_put_307 (by decide) ?_
          refine lv_istore (lv' := [(10, .int 1), (0, .ref (ad 200)), (1, .int (nI t)), (9, .int (nI c1))]) hx hb dX4_put_311 hl (by decide) rfl (fun ls hl => ?_)
          refine lv_aload_n hx hb dX4_put_313 rfl (lv_at hl 1 rfl) ?_
          refine y_get (j := 15) C0 hK hS (by decide) (by decide) kX4_put_wX4 kX4_put_f52 dX4_put_314 ?_
          refine lv_bipush (v := 8) hx hb dX4_put_317 (by decide) ?_
          refine lv_aload_n hx hb dX4_put_319 rfl (lv_at hl 1 rfl) ?_
          refine y_geti (j := 6) C0 hK hS (by decide) kX4_put_wX4 kX4_put_f105 dX4_put_320 ?_
          rw [hmn]
          refine lv_imul hx hb dX4_put_323 ?_
          refine lv_iload hx hb dX4_put_324 (lv_at hl 3 rfl) ?_
          refine lv_iadd hx hb dX4_put_326 ?_
          rw [show (8 : Int32) * nI mn + nI c1 = nI (8 * mn + c1) from (by rw [show (8 : Int32) * nI mn = nI (8 * mn) from pk_mul 8 mn]; exact nI_add _ _)]
          refine lv_iload hx hb dX4_put_327 (lv_at hl 0 rfl) ?_
          refine lv_if_ne (tgt := 336) hx hb dX4_put_329 (by decide) (fun c329 => ?_) (fun c329 => absurd c329 (by decide))
          refine lv_aload_n hx hb dX4_put_336 rfl (lv_at hl 1 rfl) ?_
          refine y_get (j := 1) C0 hK hS (by decide) (by decide) kX4_put_wX4 kX4_put_f13 dX4_put_337 ?_
          refine lv_bipush (v := 8) hx hb dX4_put_340 (by decide) ?_
          refine lv_iload_n hx hb dX4_put_342 rfl (lv_at hl 2 rfl) ?_
          refine lv_imul hx hb dX4_put_343 ?_
          refine lv_iload hx hb dX4_put_344 (lv_at hl 3 rfl) ?_
          refine lv_iadd hx hb dX4_put_346 ?_
          rw [show (8 : Int32) * nI t + nI c1 = nI (8 * t + c1) from (by rw [show (8 : Int32) * nI t = nI (8 * t) from pk_mul 8 t]; exact nI_add _ _)]
          refine y_iald (j := 1) (i := 8 * t + c1) (n := 64) C0 hK hS (by decide) (by decide) (by decide) (by omega) rfl dX4_put_347 ?_
          refine lv_iconst (v := 3) hx hb dX4_put_348 (by decide) ?_
          refine lv_icmp_ne (tgt := 366) hx hb dX4_put_349 (by decide) (fun c349 => ?_) (fun c349 => ?_)
          · refine lv_aload_n hx hb dX4_put_366 rfl (lv_at hl 1 rfl) ?_
            refine y_get (j := 16) C0 hK hS (by decide) (by decide) kX4_put_wX4 kX4_put_f56 dX4_put_367 ?_
            refine lv_iload hx hb dX4_put_370 (lv_at hl 3 rfl) ?_
            refine y_iald (j := 16) (i := c1) (n := 8) C0 hK hS (by decide) (by decide) (by decide) (by omega) rfl dX4_put_372 ?_
            refine lv_i2s hx hb dX4_put_373 rfl ?_
            refine y_sast (i := 8 * mn + c1) C0 hK hS (by omega) rfl dX4_put_374 (fun H locs hS => ?_)
            rw [y_pcs_s hMi (by unfold y_pc; rw [if_pos ⟨Int32.not_le.mp c293, c303⟩, if_neg c349])] at hS
            refine lv_iinc (v := nI (c1 + 1)) (lv' := [(9, .int (nI (c1 + 1))), (10, .int 1), (0, .ref (ad 200)), (1, .int (nI t))]) hx hb dX4_put_375 hl (k := 3) rfl (nI_1 c1) (by decide) rfl (fun ls hl => ?_)
            refine lv_goto (tgt := 278) hx hb dX4_put_378 (by decide) ?_
            exact ih (c1 + 1) _ _ _ (by omega) (by omega) rfl hS ls (lv_sub hl [2, 3, 0] rfl)
          · refine lv_aload_n hx hb dX4_put_352 rfl (lv_at hl 1 rfl) ?_
            refine y_get (j := 16) C0 hK hS (by decide) (by decide) kX4_put_wX4 kX4_put_f56 dX4_put_353 ?_
            refine lv_iload hx hb dX4_put_356 (lv_at hl 3 rfl) ?_
            refine y_iald (j := 16) (i := c1) (n := 8) C0 hK hS (by decide) (by decide) (by decide) (by omega) rfl dX4_put_358 ?_
            refine x_callr (x_rS C0 hl.1 hK hS (c_X4_stepOf l G ad D M V (M 16 c1)) gX4_put_X4_stepOf 1 rfl rfl rfl (by decide +kernel) ⟨Nat.le_of_ble_eq_true rfl, Nat.le_of_ble_eq_true rfl⟩ rfl rfl (Nat.le_of_ble_eq_true rfl) dX4_put_359 ⟨Nat.le_of_ble_eq_true rfl, Nat.le_of_ble_eq_true rfl⟩) ?_
            show W _ _ _ _ _ _ _ _ _ _ _ _ _ _ _ (F0 m 362 ls [.int (y_so (M 16 c1)), .int (nI (8 * mn + c1)), .ref (ad 216)])
            refine lv_ineg hx hb dX4_put_362 ?_
            refine lv_goto (tgt := 373) hx hb dX4_put_363 (by decide) ?_
            refine lv_i2s hx hb dX4_put_373 rfl ?_
            refine y_sast (i := 8 * mn + c1) C0 hK hS (by omega) rfl dX4_put_374 (fun H locs hS => ?_)
            rw [y_pcs_s hMi (by unfold y_pc; rw [if_pos ⟨Int32.not_le.mp c293, c303⟩, if_pos c349])] at hS
            refine lv_iinc (v := nI (c1 + 1)) (lv' := [(9, .int (nI (c1 + 1))), (10, .int 1), (0, .ref (ad 200)), (1, .int (nI t))]) hx hb dX4_put_375 hl (k := 3) rfl (nI_1 c1) (by decide) rfl (fun ls hl => ?_)
            refine lv_goto (tgt := 278) hx hb dX4_put_378 (by decide) ?_
            exact ih (c1 + 1) _ _ _ (by omega) (by omega) rfl hS ls (lv_sub hl [2, 3, 0] rfl)
theorem kX4_put_f22 : Cond.fieldLink RX4 22 "VersionDeskModel" "slots" "[I" ∈ wsX4_put := by decide +kernel
theorem kX4_put_f31 : Cond.fieldLink RX4 31 "VersionDeskModel" "number" "[I" ∈ wsX4_put := by decide +kernel
theorem kX4_put_f34 : Cond.fieldLink RX4 34 "VersionDeskModel" "maker" "[I" ∈ wsX4_put := by decide +kernel
theorem kX4_put_f37 : Cond.fieldLink RX4 37 "VersionDeskModel" "command" "[I" ∈ wsX4_put := by decide +kernel
theorem kX4_put_f40 : Cond.fieldLink RX4 40 "VersionDeskModel" "ender" "[I" ∈ wsX4_put := by decide +kernel
theorem kX4_put_f43 : Cond.fieldLink RX4 43 "VersionDeskModel" "endCommand" "[I" ∈ wsX4_put := by decide +kernel
theorem kX4_put_f46 : Cond.fieldLink RX4 46 "VersionDeskModel" "behind" "[I" ∈ wsX4_put := by decide +kernel
theorem kX4_put_f49 : Cond.fieldLink RX4 49 "VersionDeskModel" "size" "[I" ∈ wsX4_put := by decide +kernel
set_option maxHeartbeats 4000000 in
set_option maxRecDepth 100000 in
theorem l_X4_put3 {p : Program} {l : Launch} {e : Env} {s : State} {m : MethodId} {args : Array Value} {below : List Frame} {meth : Method} {c : Code} {H : Heap} {locs : List Loc} {G : x_G} {ad : Nat → Nat}  {D : Nat → Option va_E} {M : Nat → Nat → Int32} {V : Nat → Int64} (C0 : x_B p s m meth c args cX4_put 11 (some .int) RX4 wsX4_put) (hK : x_K G s) {t mn q : Nat} {z v b i0 : Int32} {r : y_R} (ht : t < 8) (hq : q < 60) (hmn : M 6 0 = nI mn) (hm : mn < 514) (hsl : M 4 q = nI (sl M q) ∧ sl M q ≤ 200) (hr9 : r = y_pf M mn t z v b i0 q) (hS : x_H G ad (y_con G ad D M V) H locs) : ∀ ls : Array Slot, lv_has ls 11 [(0, .ref (ad 200)), (1, .int (nI t)), (2, .int v), (3, .int b), (4, .int i0), (5, .int z), (6, .int (nI q))] → W p l e ({ frames := 3, cells := 0, slots := 0, locals := 69 } : Room) s m args below meth c H locs 0 0 (MQ below (x_Qw G ad (y_con G ad D r.2 V) (some (.int r.1))) args s 0 0 (x_A G)) (F0 m 142 ls []) := by
  intro ls hl
  obtain ⟨hx, hb, hr, hml, hown, hts, hlk⟩ := id C0
  refine lv_aload_n hx hb dX4_put_142 rfl (lv_at hl 0 rfl) ?_
  refine lv_iload hx hb dX4_put_143 (lv_at hl 6 rfl) ?_
  refine lv_iload hx hb dX4_put_145 (lv_at hl 5 rfl) ?_
  refine x_callr (x_rV C0 hl.1 hK hS (c_X4_roomIn l G ad D M V q z hq (sl M q) hsl.2 hsl.1 mn hmn (by omega)) (show y_con G ad D M V 200 = some (x_mo ad M) from rfl) rfl gX4_put_X4_roomIn 2 rfl rfl rfl (by decide +kernel) ⟨Nat.le_of_ble_eq_true rfl, Nat.le_of_ble_eq_true rfl⟩ rfl rfl (Nat.le_of_ble_eq_true rfl) dX4_put_147 ⟨Nat.le_of_ble_eq_true rfl, Nat.le_of_ble_eq_true rfl⟩) ?_
  show W _ _ _ _ _ _ _ _ _ _ _ _ _ _ _ (F0 m 150 ls [.int (y_ro M mn q (sl M q) z)])
  refine lv_topi (fun x1 ex1 => ?_)
  refine lv_istore (lv' := [(8, .int x1), (0, .ref (ad 200)), (1, .int (nI t)), (2, .int v), (3, .int b), (4, .int i0), (5, .int z), (6, .int (nI q))]) hx hb dX4_put_150 hl (by decide) rfl (fun ls hl => ?_)
  refine lv_aload_n hx hb dX4_put_152 rfl (lv_at hl 1 rfl) ?_
  refine y_get (j := 4) C0 hK hS (by decide) (by decide) kX4_put_wX4 kX4_put_f22 dX4_put_153 ?_
  refine lv_iload hx hb dX4_put_156 (lv_at hl 7 rfl) ?_
  refine lv_iload hx hb dX4_put_158 (lv_at hl 0 rfl) ?_
  refine lv_aload_n hx hb dX4_put_160 rfl (lv_at hl 1 rfl) ?_
  refine y_get (j := 4) C0 hK hS (by decide) (by decide) kX4_put_wX4 kX4_put_f22 dX4_put_161 ?_
  refine lv_iload hx hb dX4_put_164 (lv_at hl 7 rfl) ?_
  refine y_iald (j := 4) (i := q) (n := 60) C0 hK hS (by decide) (by decide) (by decide) (by omega) rfl dX4_put_166 ?_
  refine lv_icmp_ne (tgt := 177) hx hb dX4_put_167 (by decide) (fun c167 => ?_) (fun c167 => ?_)
  · refine lv_aload_n hx hb dX4_put_177 rfl (lv_at hl 1 rfl) ?_
    refine y_get (j := 4) C0 hK hS (by decide) (by decide) kX4_put_wX4 kX4_put_f22 dX4_put_178 ?_
    refine lv_iload hx hb dX4_put_181 (lv_at hl 7 rfl) ?_
    refine y_iald (j := 4) (i := q) (n := 60) C0 hK hS (by decide) (by decide) (by decide) (by omega) rfl dX4_put_183 ?_
    refine lv_topi (fun x2 ex2 => ?_)
    refine y_iast (j := 4) (i := q) (n := 60) C0 hK hS (by decide) (by decide) (by decide) (by omega) rfl dX4_put_184 (fun H locs hS => ?_)
    obtain ⟨M3, eM3⟩ : ∃ zz, zz = va_up M 4 (upd (M 4) q x2) := ⟨_, rfl⟩
    rw [← eM3] at hS
    have hM3_6 : M3 6 0 = nI mn := by rw [eM3, va_up_ne _ _ (by decide)]; exact hmn
    refine lv_aload_n hx hb dX4_put_185 rfl (lv_at hl 1 rfl) ?_
    refine y_get (j := 7) C0 hK hS (by decide) (by decide) kX4_put_wX4 kX4_put_f28 dX4_put_186 ?_
    refine lv_aload_n hx hb dX4_put_189 rfl (lv_at hl 1 rfl) ?_
    refine y_geti (j := 6) C0 hK hS (by decide) kX4_put_wX4 kX4_put_f105 dX4_put_190 ?_
    rw [hM3_6]
    refine lv_sipush (v := 256) hx hb dX4_put_193 (by decide) ?_
    refine lv_iload hx hb dX4_put_196 (lv_at hl 7 rfl) ?_
    refine lv_imul hx hb dX4_put_198 ?_
    refine lv_iload hx hb dX4_put_199 (lv_at hl 0 rfl) ?_
    refine lv_iadd hx hb dX4_put_201 ?_
    refine lv_topi (fun x4 ex4 => ?_)
    refine y_iast (j := 7) (i := mn) (n := 515) C0 hK hS (by decide) (by decide) (by decide) (by omega) rfl dX4_put_202 (fun H locs hS => ?_)
    obtain ⟨M5, eM5⟩ : ∃ zz, zz = va_up M3 7 (upd (M3 7) mn x4) := ⟨_, rfl⟩
    rw [← eM5] at hS
    have hM5_6 : M5 6 0 = nI mn := by rw [eM5, va_up_ne _ _ (by decide)]; exact hM3_6
    refine lv_aload_n hx hb dX4_put_203 rfl (lv_at hl 1 rfl) ?_
    refine y_get (j := 8) C0 hK hS (by decide) (by decide) kX4_put_wX4 kX4_put_f31 dX4_put_204 ?_
    refine lv_aload_n hx hb dX4_put_207 rfl (lv_at hl 1 rfl) ?_
    refine y_geti (j := 6) C0 hK hS (by decide) kX4_put_wX4 kX4_put_f105 dX4_put_208 ?_
    rw [hM5_6]
    refine lv_iload_n hx hb dX4_put_211 rfl (lv_at hl 3 rfl) ?_
    refine y_iast (j := 8) (i := mn) (n := 515) C0 hK hS (by decide) (by decide) (by decide) (by omega) rfl dX4_put_212 (fun H locs hS => ?_)
    obtain ⟨M6, eM6⟩ : ∃ zz, zz = va_up M5 8 (upd (M5 8) mn v) := ⟨_, rfl⟩
    rw [← eM6] at hS
    have hM6_6 : M6 6 0 = nI mn := by rw [eM6, va_up_ne _ _ (by decide)]; exact hM5_6
    refine lv_aload_n hx hb dX4_put_213 rfl (lv_at hl 1 rfl) ?_
    refine y_get (j := 9) C0 hK hS (by decide) (by decide) kX4_put_wX4 kX4_put_f34 dX4_put_214 ?_
    refine lv_aload_n hx hb dX4_put_217 rfl (lv_at hl 1 rfl) ?_
    refine y_geti (j := 6) C0 hK hS (by decide) kX4_put_wX4 kX4_put_f105 dX4_put_218 ?_
    rw [hM6_6]
    refine lv_iload_n hx hb dX4_put_221 rfl (lv_at hl 4 rfl) ?_
    refine y_iast (j := 9) (i := mn) (n := 515) C0 hK hS (by decide) (by decide) (by decide) (by omega) rfl dX4_put_222 (fun H locs hS => ?_)
    obtain ⟨M7, eM7⟩ : ∃ zz, zz = va_up M6 9 (upd (M6 9) mn b) := ⟨_, rfl⟩
    rw [← eM7] at hS
    have hM7_6 : M7 6 0 = nI mn := by rw [eM7, va_up_ne _ _ (by decide)]; exact hM6_6
    refine lv_aload_n hx hb dX4_put_223 rfl (lv_at hl 1 rfl) ?_
    refine y_get (j := 10) C0 hK hS (by decide) (by decide) kX4_put_wX4 kX4_put_f37 dX4_put_224 ?_
    refine lv_aload_n hx hb dX4_put_227 rfl (lv_at hl 1 rfl) ?_
    refine y_geti (j := 6) C0 hK hS (by decide) kX4_put_wX4 kX4_put_f105 dX4_put_228 ?_
    rw [hM7_6]
    refine lv_iload hx hb dX4_put_231 (lv_at hl 5 rfl) ?_
    refine y_iast (j := 10) (i := mn) (n := 515) C0 hK hS (by decide) (by decide) (by decide) (by omega) rfl dX4_put_233 (fun H locs hS => ?_)
    obtain ⟨M8, eM8⟩ : ∃ zz, zz = va_up M7 10 (upd (M7 10) mn i0) := ⟨_, rfl⟩
    rw [← eM8] at hS
    have hM8_6 : M8 6 0 = nI mn := by rw [eM8, va_up_ne _ _ (by decide)]; exact hM7_6
    refine lv_aload_n hx hb dX4_put_234 rfl (lv_at hl 1 rfl) ?_
    refine y_get (j := 11) C0 hK hS (by decide) (by decide) kX4_put_wX4 kX4_put_f40 dX4_put_235 ?_
    refine lv_aload_n hx hb dX4_put_238 rfl (lv_at hl 1 rfl) ?_
    refine y_geti (j := 6) C0 hK hS (by decide) kX4_put_wX4 kX4_put_f105 dX4_put_239 ?_
    rw [hM8_6]
    refine lv_iconst (v := 0) hx hb dX4_put_242 (by decide) ?_
    refine y_iast (j := 11) (i := mn) (n := 515) C0 hK hS (by decide) (by decide) (by decide) (by omega) rfl dX4_put_243 (fun H locs hS => ?_)
    obtain ⟨M9, eM9⟩ : ∃ zz, zz = va_up M8 11 (upd (M8 11) mn 0) := ⟨_, rfl⟩
    rw [← eM9] at hS
    have hM9_6 : M9 6 0 = nI mn := by rw [eM9, va_up_ne _ _ (by decide)]; exact hM8_6
    refine lv_aload_n hx hb dX4_put_244 rfl (lv_at hl 1 rfl) ?_
    refine y_get (j := 12) C0 hK hS (by decide) (by decide) kX4_put_wX4 kX4_put_f43 dX4_put_245 ?_
    refine lv_aload_n hx hb dX4_put_248 rfl (lv_at hl 1 rfl) ?_
    refine y_geti (j := 6) C0 hK hS (by decide) kX4_put_wX4 kX4_put_f105 dX4_put_249 ?_
    rw [hM9_6]
    refine lv_iconst (v := 0) hx hb dX4_put_252 (by decide) ?_
    refine y_iast (j := 12) (i := mn) (n := 515) C0 hK hS (by decide) (by decide) (by decide) (by omega) rfl dX4_put_253 (fun H locs hS => ?_)
    obtain ⟨M10, eM10⟩ : ∃ zz, zz = va_up M9 12 (upd (M9 12) mn 0) := ⟨_, rfl⟩
    rw [← eM10] at hS
    have hM10_6 : M10 6 0 = nI mn := by rw [eM10, va_up_ne _ _ (by decide)]; exact hM9_6
    refine lv_aload_n hx hb dX4_put_254 rfl (lv_at hl 1 rfl) ?_
    refine y_get (j := 13) C0 hK hS (by decide) (by decide) kX4_put_wX4 kX4_put_f46 dX4_put_255 ?_
    refine lv_aload_n hx hb dX4_put_258 rfl (lv_at hl 1 rfl) ?_
    refine y_geti (j := 6) C0 hK hS (by decide) kX4_put_wX4 kX4_put_f105 dX4_put_259 ?_
    rw [hM10_6]
    refine lv_iconst (v := (-1)) hx hb dX4_put_262 (by decide) ?_
    refine y_iast (j := 13) (i := mn) (n := 515) C0 hK hS (by decide) (by decide) (by decide) (by omega) rfl dX4_put_263 (fun H locs hS => ?_)
    obtain ⟨M11, eM11⟩ : ∃ zz, zz = va_up M10 13 (upd (M10 13) mn (-1)) := ⟨_, rfl⟩
    rw [← eM11] at hS
    have hM11_6 : M11 6 0 = nI mn := by rw [eM11, va_up_ne _ _ (by decide)]; exact hM10_6
    refine lv_aload_n hx hb dX4_put_264 rfl (lv_at hl 1 rfl) ?_
    refine y_get (j := 14) C0 hK hS (by decide) (by decide) kX4_put_wX4 kX4_put_f49 dX4_put_265 ?_
    refine lv_aload_n hx hb dX4_put_268 rfl (lv_at hl 1 rfl) ?_
    refine y_geti (j := 6) C0 hK hS (by decide) kX4_put_wX4 kX4_put_f105 dX4_put_269 ?_
    rw [hM11_6]
    refine lv_iload hx hb dX4_put_272 (lv_at hl 6 rfl) ?_
    refine y_iast (j := 14) (i := mn) (n := 515) C0 hK hS (by decide) (by decide) (by decide) (by omega) rfl dX4_put_274 (fun H locs hS => ?_)
    obtain ⟨M12, eM12⟩ : ∃ zz, zz = va_up M11 14 (upd (M11 14) mn z) := ⟨_, rfl⟩
    rw [← eM12] at hS
    have hM12_6 : M12 6 0 = nI mn := by rw [eM12, va_up_ne _ _ (by decide)]; exact hM11_6
    refine lv_iconst (v := 0) hx hb dX4_put_275 (by decide) ?_
    refine lv_istore (lv' := [(9, .int 0), (8, .int x1), (0, .ref (ad 200)), (1, .int (nI t)), (2, .int v), (3, .int b), (4, .int i0), (5, .int z), (6, .int (nI q))]) hx hb dX4_put_276 hl (by decide) rfl (fun ls hl => ?_)
    refine l_X4_put2 C0 hK ht hM12_6 hm ?_ 9 0 _ _ _ (by omega) (by omega) (y_pcs_0 _ _ _).symm hS ls (lv_sub hl [2, 3, 0] rfl)
    rw [hr9]
    unfold y_pf
    refine Prod.ext ?_ ?_
    · show 256 * nI q + _ = M12 7 mn
      rw [eM12, va_up_ne _ _ (by decide), eM11, va_up_ne _ _ (by decide), eM10, va_up_ne _ _ (by decide), eM9, va_up_ne _ _ (by decide), eM8, va_up_ne _ _ (by decide), eM7, va_up_ne _ _ (by decide), eM6, va_up_ne _ _ (by decide), eM5, va_up_self, pk_us]
      subst_vars
      rfl
    · show y_pe _ _ _ = y_pe _ _ _
      unfold y_pa
      rw [← ex1, if_neg c167]
      subst_vars
      rfl
  · refine lv_iload hx hb dX4_put_170 (lv_at hl 0 rfl) ?_
    refine lv_iconst (v := 1) hx hb dX4_put_172 (by decide) ?_
    refine lv_iadd hx hb dX4_put_173 ?_
    refine lv_goto (tgt := 184) hx hb dX4_put_174 (by decide) ?_
    refine lv_topi (fun x13 ex13 => ?_)
    refine y_iast (j := 4) (i := q) (n := 60) C0 hK hS (by decide) (by decide) (by decide) (by omega) rfl dX4_put_184 (fun H locs hS => ?_)
    obtain ⟨M14, eM14⟩ : ∃ zz, zz = va_up M 4 (upd (M 4) q x13) := ⟨_, rfl⟩
    rw [← eM14] at hS
    have hM14_6 : M14 6 0 = nI mn := by rw [eM14, va_up_ne _ _ (by decide)]; exact hmn
    refine lv_aload_n hx hb dX4_put_185 rfl (lv_at hl 1 rfl) ?_
    refine y_get (j := 7) C0 hK hS (by decide) (by decide) kX4_put_wX4 kX4_put_f28 dX4_put_186 ?_
    refine lv_aload_n hx hb dX4_put_189 rfl (lv_at hl 1 rfl) ?_
    refine y_geti (j := 6) C0 hK hS (by decide) kX4_put_wX4 kX4_put_f105 dX4_put_190 ?_
    rw [hM14_6]
    refine lv_sipush (v := 256) hx hb dX4_put_193 (by decide) ?_
    refine lv_iload hx hb dX4_put_196 (lv_at hl 7 rfl) ?_
    refine lv_imul hx hb dX4_put_198 ?_
    refine lv_iload hx hb dX4_put_199 (lv_at hl 0 rfl) ?_
    refine lv_iadd hx hb dX4_put_201 ?_
    refine lv_topi (fun x15 ex15 => ?_)
    refine y_iast (j := 7) (i := mn) (n := 515) C0 hK hS (by decide) (by decide) (by decide) (by omega) rfl dX4_put_202 (fun H locs hS => ?_)
    obtain ⟨M16, eM16⟩ : ∃ zz, zz = va_up M14 7 (upd (M14 7) mn x15) := ⟨_, rfl⟩
    rw [← eM16] at hS
    have hM16_6 : M16 6 0 = nI mn := by rw [eM16, va_up_ne _ _ (by decide)]; exact hM14_6
    refine lv_aload_n hx hb dX4_put_203 rfl (lv_at hl 1 rfl) ?_
    refine y_get (j := 8) C0 hK hS (by decide) (by decide) kX4_put_wX4 kX4_put_f31 dX4_put_204 ?_
    refine lv_aload_n hx hb dX4_put_207 rfl (lv_at hl 1 rfl) ?_
    refine y_geti (j := 6) C0 hK hS (by decide) kX4_put_wX4 kX4_put_f105 dX4_put_208 ?_
    rw [hM16_6]
    refine lv_iload_n hx hb dX4_put_211 rfl (lv_at hl 3 rfl) ?_
    refine y_iast (j := 8) (i := mn) (n := 515) C0 hK hS (by decide) (by decide) (by decide) (by omega) rfl dX4_put_212 (fun H locs hS => ?_)
    obtain ⟨M17, eM17⟩ : ∃ zz, zz = va_up M16 8 (upd (M16 8) mn v) := ⟨_, rfl⟩
    rw [← eM17] at hS
    have hM17_6 : M17 6 0 = nI mn := by rw [eM17, va_up_ne _ _ (by decide)]; exact hM16_6
    refine lv_aload_n hx hb dX4_put_213 rfl (lv_at hl 1 rfl) ?_
    refine y_get (j := 9) C0 hK hS (by decide) (by decide) kX4_put_wX4 kX4_put_f34 dX4_put_214 ?_
    refine lv_aload_n hx hb dX4_put_217 rfl (lv_at hl 1 rfl) ?_
    refine y_geti (j := 6) C0 hK hS (by decide) kX4_put_wX4 kX4_put_f105 dX4_put_218 ?_
    rw [hM17_6]
    refine lv_iload_n hx hb dX4_put_221 rfl (lv_at hl 4 rfl) ?_
    refine y_iast (j := 9) (i := mn) (n := 515) C0 hK hS (by decide) (by decide) (by decide) (by omega) rfl dX4_put_222 (fun H locs hS => ?_)
    obtain ⟨M18, eM18⟩ : ∃ zz, zz = va_up M17 9 (upd (M17 9) mn b) := ⟨_, rfl⟩
    rw [← eM18] at hS
    have hM18_6 : M18 6 0 = nI mn := by rw [eM18, va_up_ne _ _ (by decide)]; exact hM17_6
    refine lv_aload_n hx hb dX4_put_223 rfl (lv_at hl 1 rfl) ?_
    refine y_get (j := 10) C0 hK hS (by decide) (by decide) kX4_put_wX4 kX4_put_f37 dX4_put_224 ?_
    refine lv_aload_n hx hb dX4_put_227 rfl (lv_at hl 1 rfl) ?_
    refine y_geti (j := 6) C0 hK hS (by decide) kX4_put_wX4 kX4_put_f105 dX4_put_228 ?_
    rw [hM18_6]
    refine lv_iload hx hb dX4_put_231 (lv_at hl 5 rfl) ?_
    refine y_iast (j := 10) (i := mn) (n := 515) C0 hK hS (by decide) (by decide) (by decide) (by omega) rfl dX4_put_233 (fun H locs hS => ?_)
    obtain ⟨M19, eM19⟩ : ∃ zz, zz = va_up M18 10 (upd (M18 10) mn i0) := ⟨_, rfl⟩
    rw [← eM19] at hS
    have hM19_6 : M19 6 0 = nI mn := by rw [eM19, va_up_ne _ _ (by decide)]; exact hM18_6
    refine lv_aload_n hx hb dX4_put_234 rfl (lv_at hl 1 rfl) ?_
    refine y_get (j := 11) C0 hK hS (by decide) (by decide) kX4_put_wX4 kX4_put_f40 dX4_put_235 ?_
    refine lv_aload_n hx hb dX4_put_238 rfl (lv_at hl 1 rfl) ?_
    refine y_geti (j := 6) C0 hK hS (by decide) kX4_put_wX4 kX4_put_f105 dX4_put_239 ?_
    rw [hM19_6]
    refine lv_iconst (v := 0) hx hb dX4_put_242 (by decide) ?_
    refine y_iast (j := 11) (i := mn) (n := 515) C0 hK hS (by decide) (by decide) (by decide) (by omega) rfl dX4_put_243 (fun H locs hS => ?_)
    obtain ⟨M20, eM20⟩ : ∃ zz, zz = va_up M19 11 (upd (M19 11) mn 0) := ⟨_, rfl⟩
    rw [← eM20] at hS
    have hM20_6 : M20 6 0 = nI mn := by rw [eM20, va_up_ne _ _ (by decide)]; exact hM19_6
    refine lv_aload_n hx hb dX4_put_244 rfl (lv_at hl 1 rfl) ?_
    refine y_get (j := 12) C0 hK hS (by decide) (by decide) kX4_put_wX4 kX4_put_f43 dX4_put_245 ?_
    refine lv_aload_n hx hb dX4_put_248 rfl (lv_at hl 1 rfl) ?_
    refine y_geti (j := 6) C0 hK hS (by decide) kX4_put_wX4 kX4_put_f105 dX4_put_249 ?_
    rw [hM20_6]
    refine lv_iconst (v := 0) hx hb dX4_put_252 (by decide) ?_
    refine y_iast (j := 12) (i := mn) (n := 515) C0 hK hS (by decide) (by decide) (by decide) (by omega) rfl dX4_put_253 (fun H locs hS => ?_)
    obtain ⟨M21, eM21⟩ : ∃ zz, zz = va_up M20 12 (upd (M20 12) mn 0) := ⟨_, rfl⟩
    rw [← eM21] at hS
    have hM21_6 : M21 6 0 = nI mn := by rw [eM21, va_up_ne _ _ (by decide)]; exact hM20_6
    refine lv_aload_n hx hb dX4_put_254 rfl (lv_at hl 1 rfl) ?_
    refine y_get (j := 13) C0 hK hS (by decide) (by decide) kX4_put_wX4 kX4_put_f46 dX4_put_255 ?_
    refine lv_aload_n hx hb dX4_put_258 rfl (lv_at hl 1 rfl) ?_
    refine y_geti (j := 6) C0 hK hS (by decide) kX4_put_wX4 kX4_put_f105 dX4_put_259 ?_
    rw [hM21_6]
    refine lv_iconst (v := (-1)) hx hb dX4_put_262 (by decide) ?_
    refine y_iast (j := 13) (i := mn) (n := 515) C0 hK hS (by decide) (by decide) (by decide) (by omega) rfl dX4_put_263 (fun H locs hS => ?_)
    obtain ⟨M22, eM22⟩ : ∃ zz, zz = va_up M21 13 (upd (M21 13) mn (-1)) := ⟨_, rfl⟩
    rw [← eM22] at hS
    have hM22_6 : M22 6 0 = nI mn := by rw [eM22, va_up_ne _ _ (by decide)]; exact hM21_6
    refine lv_aload_n hx hb dX4_put_264 rfl (lv_at hl 1 rfl) ?_
    refine y_get (j := 14) C0 hK hS (by decide) (by decide) kX4_put_wX4 kX4_put_f49 dX4_put_265 ?_
    refine lv_aload_n hx hb dX4_put_268 rfl (lv_at hl 1 rfl) ?_
    refine y_geti (j := 6) C0 hK hS (by decide) kX4_put_wX4 kX4_put_f105 dX4_put_269 ?_
    rw [hM22_6]
    refine lv_iload hx hb dX4_put_272 (lv_at hl 6 rfl) ?_
    refine y_iast (j := 14) (i := mn) (n := 515) C0 hK hS (by decide) (by decide) (by decide) (by omega) rfl dX4_put_274 (fun H locs hS => ?_)
    obtain ⟨M23, eM23⟩ : ∃ zz, zz = va_up M22 14 (upd (M22 14) mn z) := ⟨_, rfl⟩
    rw [← eM23] at hS
    have hM23_6 : M23 6 0 = nI mn := by rw [eM23, va_up_ne _ _ (by decide)]; exact hM22_6
    refine lv_iconst (v := 0) hx hb dX4_put_275 (by decide) ?_
    refine lv_istore (lv' := [(9, .int 0), (8, .int x1), (0, .ref (ad 200)), (1, .int (nI t)), (2, .int v), (3, .int b), (4, .int i0), (5, .int z), (6, .int (nI q))]) hx hb dX4_put_276 hl (by decide) rfl (fun ls hl => ?_)
    refine l_X4_put2 C0 hK ht hM23_6 hm ?_ 9 0 _ _ _ (by omega) (by omega) (y_pcs_0 _ _ _).symm hS ls (lv_sub hl [2, 3, 0] rfl)
    rw [hr9]
    unfold y_pf
    refine Prod.ext ?_ ?_
    · show 256 * nI q + _ = M23 7 mn
      rw [eM23, va_up_ne _ _ (by decide), eM22, va_up_ne _ _ (by decide), eM21, va_up_ne _ _ (by decide), eM20, va_up_ne _ _ (by decide), eM19, va_up_ne _ _ (by decide), eM18, va_up_ne _ _ (by decide), eM17, va_up_ne _ _ (by decide), eM16, va_up_self, pk_us]
      subst_vars
      rfl
    · show y_pe _ _ _ = y_pe _ _ _
      unfold y_pa
      rw [← ex1, if_pos c167]
      subst_vars
      rfl
theorem kX4_put_f25 : Cond.fieldLink RX4 25 "VersionDeskModel" "follows" "[I" ∈ wsX4_put := by decide +kernel
set_option maxHeartbeats 4000000 in
set_option maxRecDepth 100000 in
theorem l_X4_put1 {p : Program} {l : Launch} {e : Env} {s : State} {m : MethodId} {args : Array Value} {below : List Frame} {meth : Method} {c : Code} {H : Heap} {locs : List Loc} {Q : State → Prop} {G : x_G} {ad : Nat → Nat} {D : Nat → Option va_E} {M : Nat → Nat → Int32} {V : Nat → Int64} (C0 : x_B p s m meth c args cX4_put 11 (some .int) RX4 wsX4_put) (hK : x_K G s) {t mn : Nat} {z v b i0 : Int32} {R9 : Int32 × Nat} (hmn : M 6 0 = nI mn) (hm : mn ≤ 514) (hSl : Sl_ok M) (hF9 : F_ok M) (hS : x_H G ad (y_con G ad D M V) H locs) (hex : ∀ (v8 : Int32) (ls : Array Slot), lv_has ls 11 [(0, .ref (ad 200)), (1, .int (nI t)), (2, .int v), (3, .int b), (4, .int i0), (5, .int z), (6, .int R9.1), (7, .int (nI R9.2)), (8, .int v8)] → W p l e ({ frames := 3, cells := 0, slots := 0, locals := 69 } : Room) s m args below meth c H locs 0 0 Q (F0 m 108 ls [])) : ∀ (d : Nat) (j : Nat) (p1 : Int32) (l1 : Nat), 60 - j < d → j ≤ 60 → (p1 < 0 ∨ ∃ q, q < 60 ∧ p1 = nI q) → R9 = y_pl M mn z (60 - j) p1 l1 → ∀ (ls : Array Slot), lv_has ls 11 [(0, .ref (ad 200)), (1, .int (nI t)), (2, .int v), (3, .int b), (4, .int i0), (5, .int z), (6, .int p1), (7, .int (nI l1)), (8, .int (nI j))] → W p l e ({ frames := 3, cells := 0, slots := 0, locals := 69 } : Room) s m args below meth c H locs 0 0 Q (F0 m 66 ls []) := by
  obtain ⟨hx, hb, hr, hml, hown, hts, hlk⟩ := id C0
  intro d
  induction d with
  | zero =>
    intro j p1 l1 hd hj hp1 hF ls hl
    exact absurd hd (by omega)
  | succ d ih =>
    intro j p1 l1 hd hj hp1 hF ls hl
    refine lv_iload hx hb dX4_put_66 (lv_at hl 8 rfl) ?_
    refine lv_bipush (v := 60) hx hb dX4_put_68 (by decide) ?_
    refine lv_icmp_ge (tgt := 108) hx hb dX4_put_70 (by decide) (fun c70 => ?_) (fun c70 => ?_)
    · have hj2 := nz_le (a := 60) c70 rfl rfl (by omega) (by omega)
      obtain rfl : R9 = (p1, l1) := by rw [hF, show 60 - j = 0 by omega]; rfl
      exact hex _ ls (lv_sub hl [0, 1, 2, 3, 4, 5, 6, 7, 8] rfl)
    · have hj2 := nz_nle (a := 60) c70 rfl rfl (by omega) (by omega)
      refine lv_iload hx hb dX4_put_73 (lv_at hl 6 rfl) ?_
      refine lv_if_lt (tgt := 108) hx hb dX4_put_75 (by decide) (fun c75 => ?_) (fun c75 => ?_)
      · obtain rfl : R9 = (p1, l1) := by rw [hF, show 60 - j = (60 - (j + 1)) + 1 by omega]; simp only [y_pl]; rw [if_neg (fun z => absurd z.1 (Int32.not_le.mpr c75))]
        exact hex _ ls (lv_sub hl [0, 1, 2, 3, 4, 5, 6, 7, 8] rfl)
      · refine lv_aload_n hx hb dX4_put_78 rfl (lv_at hl 0 rfl) ?_
        refine lv_iload hx hb dX4_put_79 (lv_at hl 6 rfl) ?_
        refine lv_iload hx hb dX4_put_81 (lv_at hl 5 rfl) ?_
        obtain ⟨q, hq, rfl⟩ := hp1.resolve_left c75
        have hcq : (nI q).toNatClampNeg = q := nI_clamp (by omega)
        refine x_callr (x_rV C0 hl.1 hK hS (c_X4_roomIn l G ad D M V q z hq (sl M q) (hSl q hq).2 (hSl q hq).1 mn hmn (by omega)) (show y_con G ad D M V 200 = some (x_mo ad M) from rfl) rfl gX4_put_X4_roomIn 2 rfl rfl rfl (by decide +kernel) ⟨Nat.le_of_ble_eq_true rfl, Nat.le_of_ble_eq_true rfl⟩ rfl rfl (Nat.le_of_ble_eq_true rfl) dX4_put_83 ⟨Nat.le_of_ble_eq_true rfl, Nat.le_of_ble_eq_true rfl⟩) ?_
        show W _ _ _ _ _ _ _ _ _ _ _ _ _ _ _ (F0 m 86 ls [.int (y_ro M mn q (sl M q) z)])
        refine lv_if_ge (tgt := 108) hx hb dX4_put_86 (by decide) (fun c86 => ?_) (fun c86 => ?_)
        · obtain rfl : R9 = ((nI q), l1) := by rw [hF, show 60 - j = (60 - (j + 1)) + 1 by omega]; simp only [y_pl]; rw [if_neg (fun z => by rw [hcq] at z; exact absurd z.2 (Int32.not_lt.mpr c86))]
          exact hex _ ls (lv_sub hl [0, 1, 2, 3, 4, 5, 6, 7, 8] rfl)
        · refine lv_iload hx hb dX4_put_89 (lv_at hl 6 rfl) ?_
          refine lv_istore (lv' := [(7, .int (nI q)), (0, .ref (ad 200)), (1, .int (nI t)), (2, .int v), (3, .int b), (4, .int i0), (5, .int z), (6, .int (nI q)), (8, .int (nI j))]) hx hb dX4_put_91 hl (by decide) rfl (fun ls hl => ?_)
          refine lv_aload_n hx hb dX4_put_93 rfl (lv_at hl 1 rfl) ?_
          refine y_get (j := 5) C0 hK hS (by decide) (by decide) kX4_put_wX4 kX4_put_f25 dX4_put_94 ?_
          refine lv_iload hx hb dX4_put_97 (lv_at hl 7 rfl) ?_
          refine y_iald (j := 5) (i := q) (n := 60) C0 hK hS (by decide) (by decide) (by decide) (by omega) rfl dX4_put_99 ?_
          refine lv_topi (fun x1 ex1 => ?_)
          refine lv_istore (lv' := [(6, .int x1), (7, .int (nI q)), (0, .ref (ad 200)), (1, .int (nI t)), (2, .int v), (3, .int b), (4, .int i0), (5, .int z), (8, .int (nI j))]) hx hb dX4_put_100 hl (by decide) rfl (fun ls hl => ?_)
          refine lv_iinc (v := nI (j + 1)) (lv' := [(8, .int (nI (j + 1))), (6, .int x1), (7, .int (nI q)), (0, .ref (ad 200)), (1, .int (nI t)), (2, .int v), (3, .int b), (4, .int i0), (5, .int z)]) hx hb dX4_put_102 hl (k := 8) rfl (nI_1 j) (by decide) rfl (fun ls hl => ?_)
          refine lv_goto (tgt := 66) hx hb dX4_put_105 (by decide) ?_
          exact ih (j + 1) _ q (by omega) (by omega) (by rw [ex1]; exact hF9 q hq) (by rw [hF, show 60 - j = (60 - (j + 1)) + 1 by omega]; simp only [y_pl]; rw [hcq, if_pos ⟨nI_pos' (by omega), Int32.not_le.mp c86⟩, ex1]) ls (lv_sub hl [3, 4, 5, 6, 7, 8, 1, 2, 0] rfl)
theorem y_pl_ok {M : Nat → Nat → Int32} {mn : Nat} (hF9 : F_ok M) (z : Int32) : ∀ (d : Nat) (p : Int32) (l : Nat), (p < 0 ∨ ∃ q, q < 60 ∧ p = nI q) → l < 60 → ((y_pl M mn z d p l).1 < 0 ∨ ∃ q, q < 60 ∧ (y_pl M mn z d p l).1 = nI q) ∧ (y_pl M mn z d p l).2 < 60
  | 0, p, l, h, hl => ⟨h, hl⟩
  | d + 1, p, l, h, hl => by
    simp only [y_pl]
    split
    · rename_i h1
      rcases h with h | ⟨q, hq, rfl⟩
      · exact absurd h1.1 (Int32.not_le.mpr h)
      · rw [nI_clamp (by omega)]
        exact y_pl_ok hF9 z d _ q (hF9 q hq) hq
    · exact ⟨h, hl⟩
theorem sl_op {M M1 M2 : Nat → Nat → Int32} {t l q : Nat} {v : Int32} (h1 : M1 = y_op M q (nI t)) (h2 : M2 = va_up M1 5 (upd (M1 5) l v)) : M2 4 q = nI 0 ∧ sl M2 q = 0 := by
  have : M2 4 q = nI 0 := by
    rw [h2, va_up_ne _ _ (by decide), h1]
    unfold y_op
    rw [va_up_ne _ _ (by decide), va_up_self, pk_us]
    rfl
  exact ⟨this, by unfold sl; rw [this]; rfl⟩
theorem kX4_put_c124 : Cond.constant RX4 124 (65535) ∈ wsX4_put := by decide +kernel
theorem kX4_put_f16 : Cond.fieldLink RX4 16 "VersionDeskModel" "first" "[I" ∈ wsX4_put := by decide +kernel
set_option maxHeartbeats 4000000 in
set_option maxRecDepth 100000 in
/-- put -/
theorem c_X4_put (l : Launch) (G : x_G) (ad : Nat → Nat) (D : Nat → Option va_E) (M : Nat → Nat → Int32) (V : Nat → Int64) (t0 v b i0 : Int32) (mn : Nat) (hmn : M 6 0 = nI mn) (hm : mn < 514) (hH : H_ok M) (hTy : Ty_ok M) (hC : C_ok M) (hSl : Sl_ok M) (hF9 : F_ok M) (hFi : Fi_ok M) : Met l yX4_put wsX4_put ({ frames := 3, cells := 0, slots := 0, locals := 69 } : Room) (x_Pc G ad (y_con G ad D M V) [.ref (ad 200), .int t0, .int v, .int b, .int i0]) (x_Qw G ad (y_con G ad D (y_put M mn t0 v b i0).2 V) (some (.int (y_put M mn t0 v b i0).1))) 0 0 (x_A G) := by
  refine x_met (cc := cX4_put) (maxL := 11) (ret := (some .int)) (by decide) rfl _ (Nat.le_of_ble_eq_true rfl) ?_
  intro p e s m args below meth c C0 hini hK hS ls hl
  have hl : lv_has ls 11 [(0, .ref (ad 200)), (1, .int t0), (2, .int v), (3, .int b), (4, .int i0)] := hl
  obtain ⟨hx, hb, hr, hml, hown, hts, hlk⟩ := id C0
  refine lv_aload_n hx hb dX4_put_0 rfl (lv_at hl 0 rfl) ?_
  refine lv_iload_n hx hb dX4_put_1 rfl (lv_at hl 1 rfl) ?_
  refine x_callr (x_rV C0 hl.1 hK hS (c_X4_isThere l G ad D M V t0) (show y_con G ad D M V 200 = some (x_mo ad M) from rfl) rfl gX4_put_X4_isThere 1 rfl rfl rfl (by decide +kernel) ⟨Nat.le_of_ble_eq_true rfl, Nat.le_of_ble_eq_true rfl⟩ rfl rfl (Nat.le_of_ble_eq_true rfl) dX4_put_2 ⟨Nat.le_of_ble_eq_true rfl, Nat.le_of_ble_eq_true rfl⟩) ?_
  show W _ _ _ _ _ _ _ _ _ _ _ _ _ _ _ (F0 m 5 ls [.int (zb (y_th M t0))])
  refine lv_if_eq (tgt := 41) hx hb dX4_put_5 (by decide) (fun c5 => ?_) (fun c5 => ?_)
  · refine lv_bipush (v := (-2)) hx hb dX4_put_41 (by decide) ?_
    have hc : y_pok M t0 v b i0 = false := by unfold y_pok; rw [zb_eq c5]; simp
    exact x_wreti C0 hS (by unfold y_put; rw [hc]; rfl) (by unfold y_put; rw [hc]; rfl) dX4_put_43
  · have hth := zb_ne c5
    obtain ⟨t, ht, rfl, ht0⟩ := y_th_in hth
    have hci : (nI t).toNatClampNeg = t := nI_clamp (by omega)
    obtain ⟨hcol, hm1⟩ := hC t ht ht0
    refine lv_iload_n hx hb dX4_put_8 rfl (lv_at hl 2 rfl) ?_
    refine lv_if_lt (tgt := 41) hx hb dX4_put_9 (by decide) (fun c9 => ?_) (fun c9 => ?_)
    · refine lv_bipush (v := (-2)) hx hb dX4_put_41 (by decide) ?_
      have hc : y_pok M (nI t) v b i0 = false := by unfold y_pok; rw [decide_eq_true c9]; simp
      exact x_wreti C0 hS (by unfold y_put; rw [hc]; rfl) (by unfold y_put; rw [hc]; rfl) dX4_put_43
    · refine lv_iload_n hx hb dX4_put_12 rfl (lv_at hl 3 rfl) ?_
      refine lv_iconst (v := 0) hx hb dX4_put_13 (by decide) ?_
      refine lv_ldc (v := 65535) hx hb hown (hts _ kX4_put_c124) dX4_put_14 ?_
      refine x_callr (x_rS C0 hl.1 hK hS (c_X4_in l G ad D M V b 0 65535) gX4_put_X4_in 3 rfl rfl rfl (by decide +kernel) ⟨Nat.le_of_ble_eq_true rfl, Nat.le_of_ble_eq_true rfl⟩ rfl rfl (Nat.le_of_ble_eq_true rfl) dX4_put_16 ⟨Nat.le_of_ble_eq_true rfl, Nat.le_of_ble_eq_true rfl⟩) ?_
      show W _ _ _ _ _ _ _ _ _ _ _ _ _ _ _ (F0 m 19 ls [.int (zb (m_in b 0 65535))])
      refine lv_if_eq (tgt := 41) hx hb dX4_put_19 (by decide) (fun c19 => ?_) (fun c19 => ?_)
      · refine lv_bipush (v := (-2)) hx hb dX4_put_41 (by decide) ?_
        have hc : y_pok M (nI t) v b i0 = false := by unfold y_pok; rw [zb_eq c19]; simp
        exact x_wreti C0 hS (by unfold y_put; rw [hc]; rfl) (by unfold y_put; rw [hc]; rfl) dX4_put_43
      · refine lv_iload hx hb dX4_put_22 (lv_at hl 4 rfl) ?_
        refine lv_iconst (v := 0) hx hb dX4_put_24 (by decide) ?_
        refine lv_ldc (v := 65535) hx hb hown (hts _ kX4_put_c124) dX4_put_25 ?_
        refine x_callr (x_rS C0 hl.1 hK hS (c_X4_in l G ad D M V i0 0 65535) gX4_put_X4_in 3 rfl rfl rfl (by decide +kernel) ⟨Nat.le_of_ble_eq_true rfl, Nat.le_of_ble_eq_true rfl⟩ rfl rfl (Nat.le_of_ble_eq_true rfl) dX4_put_27 ⟨Nat.le_of_ble_eq_true rfl, Nat.le_of_ble_eq_true rfl⟩) ?_
        show W _ _ _ _ _ _ _ _ _ _ _ _ _ _ _ (F0 m 30 ls [.int (zb (m_in i0 0 65535))])
        refine lv_if_eq (tgt := 41) hx hb dX4_put_30 (by decide) (fun c30 => ?_) (fun c30 => ?_)
        · refine lv_bipush (v := (-2)) hx hb dX4_put_41 (by decide) ?_
          have hc : y_pok M (nI t) v b i0 = false := by unfold y_pok; rw [zb_eq c30]; simp
          exact x_wreti C0 hS (by unfold y_put; rw [hc]; rfl) (by unfold y_put; rw [hc]; rfl) dX4_put_43
        · refine lv_aload_n hx hb dX4_put_33 rfl (lv_at hl 0 rfl) ?_
          refine lv_iload_n hx hb dX4_put_34 rfl (lv_at hl 1 rfl) ?_
          refine x_callr (x_rV C0 hl.1 hK hS (c_X4_fits l G ad D M V t ht (M 0 t).toNatClampNeg hm1 hcol hH) (show y_con G ad D M V 200 = some (x_mo ad M) from rfl) rfl gX4_put_X4_fits 1 rfl rfl rfl (by decide +kernel) ⟨Nat.le_of_ble_eq_true rfl, Nat.le_of_ble_eq_true rfl⟩ rfl rfl (Nat.le_of_ble_eq_true rfl) dX4_put_35 ⟨Nat.le_of_ble_eq_true rfl, Nat.le_of_ble_eq_true rfl⟩) ?_
          show W _ _ _ _ _ _ _ _ _ _ _ _ _ _ _ (F0 m 38 ls [.int (zb (y_ft M t (M 0 t).toNatClampNeg))])
          refine lv_if_ne (tgt := 44) hx hb dX4_put_38 (by decide) (fun c38 => ?_) (fun c38 => ?_)
          · refine lv_aload_n hx hb dX4_put_44 rfl (lv_at hl 0 rfl) ?_
            refine lv_iload_n hx hb dX4_put_45 rfl (lv_at hl 1 rfl) ?_
            refine x_callr (x_rV C0 hl.1 hK hS (c_X4_sizeOf l G ad D M V t ht (M 0 t).toNatClampNeg hm1 hcol hH (y_x9 ht hm1 hcol hH hTy (zb_ne c38))) (show y_con G ad D M V 200 = some (x_mo ad M) from rfl) rfl gX4_put_X4_sizeOf 1 rfl rfl rfl (by decide +kernel) ⟨Nat.le_of_ble_eq_true rfl, Nat.le_of_ble_eq_true rfl⟩ rfl rfl (Nat.le_of_ble_eq_true rfl) dX4_put_46 ⟨Nat.le_of_ble_eq_true rfl, Nat.le_of_ble_eq_true rfl⟩) ?_
            show W _ _ _ _ _ _ _ _ _ _ _ _ _ _ _ (F0 m 49 ls [.int (y_sz M t (M 0 t).toNatClampNeg)])
            have hc : y_pok M (nI t) v b i0 = true := by unfold y_pok; rw [hth, decide_eq_false c9, zb_ne c19, zb_ne c30, hci, zb_ne c38]; rfl
            refine lv_topi (fun z ez => ?_)
            obtain ⟨q0, hq0, hfq⟩ := hFi t ht ht0
            refine lv_istore (lv' := [(5, .int z), (0, .ref (ad 200)), (1, .int (nI t)), (2, .int v), (3, .int b), (4, .int i0)]) hx hb dX4_put_49 hl (by decide) rfl (fun ls hl => ?_)
            refine lv_aload_n hx hb dX4_put_51 rfl (lv_at hl 1 rfl) ?_
            refine y_get (j := 2) C0 hK hS (by decide) (by decide) kX4_put_wX4 kX4_put_f16 dX4_put_52 ?_
            refine lv_iload_n hx hb dX4_put_55 rfl (lv_at hl 2 rfl) ?_
            refine y_iald (j := 2) (i := t) (n := 8) C0 hK hS (by decide) (by decide) (by decide) (by omega) rfl dX4_put_56 ?_
            rw [hfq]
            refine lv_istore (lv' := [(6, .int (nI q0)), (5, .int z), (0, .ref (ad 200)), (1, .int (nI t)), (2, .int v), (3, .int b), (4, .int i0)]) hx hb dX4_put_57 hl (by decide) rfl (fun ls hl => ?_)
            refine lv_iload hx hb dX4_put_59 (lv_at hl 0 rfl) ?_
            refine lv_istore (lv' := [(7, .int (nI q0)), (6, .int (nI q0)), (5, .int z), (0, .ref (ad 200)), (1, .int (nI t)), (2, .int v), (3, .int b), (4, .int i0)]) hx hb dX4_put_61 hl (by decide) rfl (fun ls hl => ?_)
            refine lv_iconst (v := 0) hx hb dX4_put_63 (by decide) ?_
            refine lv_istore (lv' := [(8, .int 0), (7, .int (nI q0)), (6, .int (nI q0)), (5, .int z), (0, .ref (ad 200)), (1, .int (nI t)), (2, .int v), (3, .int b), (4, .int i0)]) hx hb dX4_put_64 hl (by decide) rfl (fun ls hl => ?_)
            obtain ⟨R9, eR9⟩ : ∃ R9, R9 = y_pl M mn z 60 (nI q0) q0 := ⟨_, rfl⟩
            have hE : y_put M mn (nI t) v b i0 = y_pg9 M mn t z v b i0 R9 := by unfold y_put; rw [if_pos hc, hci, hfq, nI_clamp (by omega), eR9, ez]
            have hRk := y_pl_ok (mn := mn) hF9 z 60 (nI q0) q0 (Or.inr ⟨q0, hq0, rfl⟩) hq0
            rw [← eR9] at hRk
            obtain ⟨p9, l9⟩ := R9
            refine l_X4_put1 (R9 := (p9, l9)) C0 hK hmn (by omega) hSl hF9 hS (fun v8 ls hl => ?_) 61 0 _ q0 (by omega) (by omega) (Or.inr ⟨q0, hq0, rfl⟩) eR9 ls (lv_sub hl [4, 5, 6, 7, 8, 3, 2, 1, 0] rfl)
            have hl : lv_has ls 11 [(0, .ref (ad 200)), (1, .int (nI t)), (2, .int v), (3, .int b), (4, .int i0), (5, .int z), (6, .int p9), (7, .int (nI l9)), (8, .int v8)] := hl
            refine lv_iload hx hb dX4_put_108 (lv_at hl 6 rfl) ?_
            refine lv_if_ge (tgt := 142) hx hb dX4_put_110 (by decide) (fun c110 => ?_) (fun c110 => ?_)
            · obtain ⟨q, hq, rfl⟩ := hRk.1.resolve_left (Int32.not_lt.mpr c110)
              exact l_X4_put3 C0 hK ht hq hmn (by omega) (hSl q hq) (by rw [hE]; unfold y_pg9; rw [if_pos c110, nI_clamp (by omega)]) hS ls (lv_sub hl [0, 1, 2, 3, 4, 5, 6] rfl)
            · refine lv_aload_n hx hb dX4_put_113 rfl (lv_at hl 0 rfl) ?_
              refine x_callr (x_rV C0 hl.1 hK hS (c_X4_lowestFree l G ad D M V) (show y_con G ad D M V 200 = some (x_mo ad M) from rfl) rfl gX4_put_X4_lowestFree 0 rfl rfl rfl (by decide +kernel) ⟨Nat.le_of_ble_eq_true rfl, Nat.le_of_ble_eq_true rfl⟩ rfl rfl (Nat.le_of_ble_eq_true rfl) dX4_put_114 ⟨Nat.le_of_ble_eq_true rfl, Nat.le_of_ble_eq_true rfl⟩) ?_
              show W _ _ _ _ _ _ _ _ _ _ _ _ _ _ _ (F0 m 117 ls [.int (y_lf M 60 (-1))])
              rcases y_lf_N M 60 (-1) with hR9n | ⟨q, hq, hR9q⟩
              · rw [hR9n]
                refine lv_istore (lv' := [(6, .int (-1)), (0, .ref (ad 200)), (1, .int (nI t)), (2, .int v), (3, .int b), (4, .int i0), (5, .int z), (7, .int (nI l9)), (8, .int v8)]) hx hb dX4_put_117 hl (by decide) rfl (fun ls hl => ?_)
                refine lv_iload hx hb dX4_put_119 (lv_at hl 0 rfl) ?_
                refine lv_if_ge (tgt := 126) hx hb dX4_put_121 (by decide) (fun c121 => absurd c121 (by decide)) (fun c121 => ?_)
                refine lv_iconst (v := (-1)) hx hb dX4_put_124 (by decide) ?_
                exact x_wreti C0 hS (by rw [hE]; unfold y_pg9; rw [if_neg c110, hR9n, if_pos neg1_lt]) (by rw [hE]; unfold y_pg9; rw [if_neg c110, hR9n, if_pos neg1_lt]) dX4_put_125
              · rw [hR9q]
                refine lv_istore (lv' := [(6, .int (nI q)), (0, .ref (ad 200)), (1, .int (nI t)), (2, .int v), (3, .int b), (4, .int i0), (5, .int z), (7, .int (nI l9)), (8, .int v8)]) hx hb dX4_put_117 hl (by decide) rfl (fun ls hl => ?_)
                refine lv_iload hx hb dX4_put_119 (lv_at hl 0 rfl) ?_
                refine lv_if_ge (tgt := 126) hx hb dX4_put_121 (by decide) (fun c121 => ?_) (fun c121 => absurd (nI_pos' (by omega)) c121)
                refine lv_aload_n hx hb dX4_put_126 rfl (lv_at hl 1 rfl) ?_
                refine lv_iload hx hb dX4_put_127 (lv_at hl 0 rfl) ?_
                refine lv_iload_n hx hb dX4_put_129 rfl (lv_at hl 2 rfl) ?_
                refine x_callw hS (x_rV C0 hl.1 hK hS (c_X4_open l G ad D M V q (nI t) hq) (show y_con G ad D M V 200 = some (x_mo ad M) from rfl) rfl gX4_put_X4_open 2 rfl rfl rfl (by decide +kernel) ⟨Nat.le_of_ble_eq_true rfl, Nat.le_of_ble_eq_true rfl⟩ rfl rfl (Nat.le_of_ble_eq_true rfl) dX4_put_130 ⟨Nat.le_of_ble_eq_true rfl, Nat.le_of_ble_eq_true rfl⟩) (fun H locs hS => ?_)
                obtain ⟨M1, eM1⟩ : ∃ zz, zz = y_op M q (nI t) := ⟨_, rfl⟩
                rw [← eM1] at hS
                show W _ _ _ _ _ _ _ _ _ _ _ _ _ _ _ (F0 m 133 ls [])
                refine lv_aload_n hx hb dX4_put_133 rfl (lv_at hl 1 rfl) ?_
                refine y_get (j := 5) C0 hK hS (by decide) (by decide) kX4_put_wX4 kX4_put_f25 dX4_put_134 ?_
                refine lv_iload hx hb dX4_put_137 (lv_at hl 7 rfl) ?_
                refine lv_iload hx hb dX4_put_139 (lv_at hl 0 rfl) ?_
                refine y_iast (j := 5) (i := l9) (n := 60) C0 hK hS (by decide) (by decide) (by decide) (by omega) rfl dX4_put_141 (fun H locs hS => ?_)
                obtain ⟨M2, eM2⟩ : ∃ zz, zz = va_up M1 5 (upd (M1 5) l9 (nI q)) := ⟨_, rfl⟩
                rw [← eM2] at hS
                exact l_X4_put3 C0 hK ht hq (by rw [eM2, va_up_ne _ _ (by decide), eM1]; exact hmn) (by omega) (have hso := sl_op eM1 eM2; ⟨by rw [hso.1, hso.2], by rw [hso.2]; decide⟩) (by rw [hE]; unfold y_pg9; rw [if_neg c110, hR9q, if_neg (nI_pos (by omega)), nI_clamp (by omega), eM2, eM1]; rfl) hS ls (lv_sub hl [1, 2, 3, 4, 5, 6, 0] rfl)
          · refine lv_bipush (v := (-2)) hx hb dX4_put_41 (by decide) ?_
            have hc : y_pok M (nI t) v b i0 = false := by unfold y_pok; rw [hci, zb_eq c38]; simp
            exact x_wreti C0 hS (by unfold y_put; rw [hc]; rfl) (by unfold y_put; rw [hc]; rfl) dX4_put_43
