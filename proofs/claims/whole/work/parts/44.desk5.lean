-- ===== packing the hand into a page =====
-- the text of column c (n letters) from byte a on; i letters are done
def p_tx (R : Nat → Nat → Int32) (c a n : Nat) (Z : Nat → Int32) : Nat → Nat → Int32
  | 0 => pg_wr Z a 1 (nI n).toInt64 1
  | i + 1 => pg_wr (p_tx R c a n Z i) (a + 1 + i) 1 (h_lt R (nI c) (nI i)).toInt64 1
/-- how many letters column c has -/
def p_ln (R : Nat → Nat → Int32) (c : Nat) : Nat := (h_ln R (nI c)).toNatClampNeg
theorem p_ln_N {R : Nat → Nat → Int32} (hR : h_ok R) {c : Nat} (hc : c < 8) : h_ln R (nI c) = nI (p_ln R c) ∧ p_ln R c ≤ 31 := by
  unfold p_ln h_ln
  split
  · rw [nI_clamp (by omega)]
    obtain ⟨n, h1, h2⟩ := hR c hc
    rw [h2, nI_clamp (by omega)]
    exact ⟨rfl, h1⟩
  · exact ⟨rfl, by decide⟩
def p_cZ (R : Nat → Nat → Int32) (N : Nat → Int64) (y : Int32) (c a : Nat) (Z : Nat → Int32) : Nat → Int32 :=
  if y = 1 then pg_wr Z a 8 (h_nm R N (nI c)) 8 else if y = 2 then p_tx R c a (p_ln R c) Z (p_ln R c) else pg_wr Z a 1 (if h_nm R N (nI c) = 0 then 0 else 1) 1
def p_cA (R : Nat → Nat → Int32) (y : Int32) (c a : Nat) : Nat := if y = 1 then a + 8 else if y = 2 then a + 1 + p_ln R c else a + 1
theorem p_cA_le {R : Nat → Nat → Int32} (hR : h_ok R) {c : Nat} (hc : c < 8) (y : Int32) (a : Nat) : p_cA R y c a ≤ a + 32 := by
  have := (p_ln_N hR hc).2
  unfold p_cA
  split
  · omega
  · split <;> omega
-- all columns from c on: the page, the place, the bits
def p_hZ (R : Nat → Nat → Int32) (N : Nat → Int64) (x : Int32) : Nat → Nat → Nat → (Nat → Int32) → (Nat → Int32)
  | 0, _, _, Z => Z
  | d + 1, c, a, Z => if R 0 c = 0 then p_hZ R N x d (c + 1) a Z else p_hZ R N x d (c + 1) (p_cA R (dg x c) c a) (p_cZ R N (dg x c) c a Z)
def p_hF (R : Nat → Nat → Int32) : Nat → Nat → Int32 → Int32
  | 0, _, f => f
  | d + 1, c, f => p_hF R d (c + 1) (if R 0 c = 0 then f else f ||| ((1 : Int32) <<< (nI c &&& 31)))
def p_h (R : Nat → Nat → Int32) (N : Nat → Int64) (x : Int32) (m a : Nat) (Z : Nat → Int32) : Nat → Int32 := pg_wr (p_hZ R N x m 0 (a + 16) Z) (a + 14) 1 (p_hF R m 0 0).toInt64 1
theorem kX3_packText_wX3 : ∀ w ∈ u_ws RX3 TX3 3, w ∈ wsX3_packText := by decide +kernel
theorem kX3_packText_f12 : Cond.fieldLink RX3 12 "VersionDesk" "hand" "LVersionDesk$Row;" ∈ wsX3_packText := by decide +kernel
set_option maxHeartbeats 4000000 in
set_option maxRecDepth 100000 in
theorem l_X3_packText {p : Program} {l : Launch} {e : Env} {s : State} {m : MethodId} {args : Array Value} {below : List Frame} {meth : Method} {c : Code} {G : x_G} {ad : Nat → Nat} {R : Nat → Nat → Int32} {N : Nat → Int64} {tl : Nat → Bool} {T : Nat → Nat → Int32} {pl : Nat → Bool} {P : Nat → Nat → Int32} {X : Nat → Option va_E} (C0 : x_B p s m meth c args cX3_packText 6 (some .int) RX3 wsX3_packText) (hK : x_K G s) {pg c1 a n : Nat} {Z0 : Nat → Int32} (hp : pg < 60) (hl_p : pl pg = true) (hc : c1 < 8) (hR : h_ok R) (ha : a < 2 ^ 20) (hn : n ≤ 31) : ∀ (d : Nat) (i : Nat) (Z : Nat → Int32) (H : Heap) (locs : List Loc), n - i < d → i ≤ n → Z = p_tx R c1 a n Z0 i → x_H G ad (x_con G ad R N tl T pl (va_up P pg Z) X) H locs → ∀ (ls : Array Slot), lv_has ls 6 [(0, .ref (ad 0)), (1, .int (nI c1)), (2, .ref (ad (16 + pg))), (3, .int (nI a)), (4, .int (nI n)), (5, .int (nI i))] → W p l e ({ frames := 3, cells := 0, slots := 0, locals := 63 } : Room) s m args below meth c H locs 0 0 (MQ below (x_Qw G ad (x_con G ad R N tl T pl (va_up P pg (p_tx R c1 a n Z0 n)) X) (some (.int (nI (a + 1 + n))))) args s 0 0 (x_A G)) (F0 m 22 ls []) := by
  obtain ⟨hx, hb, hr, hml, hown, hts, hlk⟩ := id C0
  intro d
  induction d with
  | zero =>
    intro i Z H locs hd hi hZ hS ls hl
    exact absurd hd (by omega)
  | succ d ih =>
    intro i Z H locs hd hi hZ hS ls hl
    refine lv_iload hx hb dX3_packText_22 (lv_at hl 5 rfl) ?_
    refine lv_iload hx hb dX3_packText_24 (lv_at hl 4 rfl) ?_
    refine lv_icmp_ge (tgt := 57) hx hb dX3_packText_26 (by decide) (fun c26 => ?_) (fun c26 => ?_)
    · have hi2 := nz_le c26 rfl rfl (by omega) (by omega)
      refine lv_iload_n hx hb dX3_packText_57 rfl (lv_at hl 3 rfl) ?_
      refine lv_iconst (v := 1) hx hb dX3_packText_58 (by decide) ?_
      refine lv_iadd hx hb dX3_packText_59 ?_
      refine lv_iload hx hb dX3_packText_60 (lv_at hl 4 rfl) ?_
      refine lv_iadd hx hb dX3_packText_62 ?_
      exact x_wreti C0 hS (by rw [hZ, show i = n by omega]) (by rw [show nI a + 1 = nI (a + 1) from nI_add a 1]; exact nI_add _ _) dX3_packText_63
    · have hi2 := nz_nle c26 rfl rfl (by omega) (by omega)
      refine lv_aload_n hx hb dX3_packText_29 rfl (lv_at hl 2 rfl) ?_
      refine lv_iload_n hx hb dX3_packText_30 rfl (lv_at hl 3 rfl) ?_
      refine lv_iconst (v := 1) hx hb dX3_packText_31 (by decide) ?_
      refine lv_iadd hx hb dX3_packText_32 ?_
      refine lv_iload hx hb dX3_packText_33 (lv_at hl 5 rfl) ?_
      refine lv_iadd hx hb dX3_packText_35 ?_
      refine lv_iconst (v := 1) hx hb dX3_packText_36 (by decide) ?_
      refine lv_aload_n hx hb dX3_packText_37 rfl (lv_at hl 0 rfl) ?_
      refine x_dget (j := 0) C0 hK hS (by decide) kX3_packText_wX3 kX3_packText_f12 dX3_packText_38 ?_
      refine lv_iload_n hx hb dX3_packText_41 rfl (lv_at hl 1 rfl) ?_
      refine lv_iload hx hb dX3_packText_42 (lv_at hl 5 rfl) ?_
      refine x_callr (x_rV C0 hl.1 hK hS (c_X1_letterAt l G ad R N tl T pl (va_up P pg Z) X (nI c1) (nI i) hR) (x_con_0 (k := 1) (by omega)) rfl gX3_packText_X1_letterAt 2 rfl rfl rfl (by decide +kernel) ⟨Nat.le_of_ble_eq_true rfl, Nat.le_of_ble_eq_true rfl⟩ rfl rfl (Nat.le_of_ble_eq_true rfl) dX3_packText_44 ⟨Nat.le_of_ble_eq_true rfl, Nat.le_of_ble_eq_true rfl⟩) ?_
      show W _ _ _ _ _ _ _ _ _ _ _ _ _ _ _ (F0 m 47 ls [.int (h_lt R (nI c1) (nI i)), .int 1, .int (((nI a) + 1) + (nI i)), .ref (ad (16 + pg))])
      refine lv_i2l hx hb dX3_packText_47 rfl ?_
      rw [show nI a + 1 + nI i = nI (a + 1 + i) from (by rw [show nI a + 1 = nI (a + 1) from nI_add a 1]; exact nI_add _ _)]
      refine x_callw hS (x_rV C0 hl.1 hK hS (c_X0_write l G ad R N tl T pl (va_up P pg Z) X pg (a + 1 + i) 1 ((h_lt R (nI c1) (nI i)).toInt64) hp hl_p (by omega)) (x_con_p hp hl_p) rfl gX3_packText_X0_write 3 rfl rfl rfl (by decide +kernel) ⟨Nat.le_of_ble_eq_true rfl, Nat.le_of_ble_eq_true rfl⟩ rfl rfl (Nat.le_of_ble_eq_true rfl) dX3_packText_48 ⟨Nat.le_of_ble_eq_true rfl, Nat.le_of_ble_eq_true rfl⟩) (fun H locs hS => ?_)
      simp only [va_up_self, bx_uu] at hS
      obtain ⟨Z1, eZ1⟩ : ∃ zz, zz = pg_wr (Z) (a + 1 + i) 1 ((h_lt R (nI c1) (nI i)).toInt64) 1 := ⟨_, rfl⟩
      rw [← eZ1] at hS
      show W _ _ _ _ _ _ _ _ _ _ _ _ _ _ _ (F0 m 51 ls [])
      refine lv_iinc (v := nI (i + 1)) (lv' := [(5, .int (nI (i + 1))), (0, .ref (ad 0)), (1, .int (nI c1)), (2, .ref (ad (16 + pg))), (3, .int (nI a)), (4, .int (nI n))]) hx hb dX3_packText_51 hl (k := 5) rfl (nI_1 i) (by decide) rfl (fun ls hl => ?_)
      refine lv_goto (tgt := 22) hx hb dX3_packText_54 (by decide) ?_
      exact ih (i + 1) Z1 _ _ (by omega) (by omega) (by rw [eZ1, hZ]; rfl) hS ls (lv_sub hl [1, 2, 3, 4, 5, 0] rfl)
set_option maxHeartbeats 4000000 in
set_option maxRecDepth 100000 in
/-- packText -/
theorem c_X3_packText (l : Launch) (G : x_G) (ad : Nat → Nat) (R : Nat → Nat → Int32) (N : Nat → Int64) (tl : Nat → Bool) (T : Nat → Nat → Int32) (pl : Nat → Bool) (P : Nat → Nat → Int32) (X : Nat → Option va_E) (pg c1 a : Nat) (hp : pg < 60) (hl_p : pl pg = true) (hc : c1 < 8) (hR : h_ok R) (ha : a < 2 ^ 20) : Met l yX3_packText wsX3_packText ({ frames := 3, cells := 0, slots := 0, locals := 63 } : Room) (x_Pc G ad (x_con G ad R N tl T pl P X) [.ref (ad 0), .int (nI c1), .ref (ad (16 + pg)), .int (nI a)]) (x_Qw G ad (x_con G ad R N tl T pl (va_up P pg (p_tx R c1 a (p_ln R c1) (P pg) (p_ln R c1))) X) (some (.int (nI (a + 1 + p_ln R c1))))) 0 0 (x_A G) := by
  refine x_met (cc := cX3_packText) (maxL := 6) (ret := (some .int)) (by decide) rfl _ (Nat.le_of_ble_eq_true rfl) ?_
  intro p e s m args below meth c C0 hini hK hS ls hl
  have hl : lv_has ls 6 [(0, .ref (ad 0)), (1, .int (nI c1)), (2, .ref (ad (16 + pg))), (3, .int (nI a))] := hl
  obtain ⟨hx, hb, hr, hml, hown, hts, hlk⟩ := id C0
  refine lv_aload_n hx hb dX3_packText_0 rfl (lv_at hl 0 rfl) ?_
  refine x_dget (j := 0) C0 hK hS (by decide) kX3_packText_wX3 kX3_packText_f12 dX3_packText_1 ?_
  refine lv_iload_n hx hb dX3_packText_4 rfl (lv_at hl 1 rfl) ?_
  have hpl := p_ln_N hR hc
  refine x_callr (x_rV C0 hl.1 hK hS (c_X1_lengthAt l G ad R N tl T pl P X (nI c1)) (x_con_0 (k := 1) (by omega)) rfl gX3_packText_X1_lengthAt 1 rfl rfl rfl (by decide +kernel) ⟨Nat.le_of_ble_eq_true rfl, Nat.le_of_ble_eq_true rfl⟩ rfl rfl (Nat.le_of_ble_eq_true rfl) dX3_packText_5 ⟨Nat.le_of_ble_eq_true rfl, Nat.le_of_ble_eq_true rfl⟩) ?_
  rw [hpl.1]
  show W _ _ _ _ _ _ _ _ _ _ _ _ _ _ _ (F0 m 8 ls [.int (nI (p_ln R c1))])
  refine lv_istore (lv' := [(4, .int (nI (p_ln R c1))), (0, .ref (ad 0)), (1, .int (nI c1)), (2, .ref (ad (16 + pg))), (3, .int (nI a))]) hx hb dX3_packText_8 hl (by decide) rfl (fun ls hl => ?_)
  refine lv_aload_n hx hb dX3_packText_10 rfl (lv_at hl 3 rfl) ?_
  refine lv_iload_n hx hb dX3_packText_11 rfl (lv_at hl 4 rfl) ?_
  refine lv_iconst (v := 1) hx hb dX3_packText_12 (by decide) ?_
  refine lv_iload hx hb dX3_packText_13 (lv_at hl 0 rfl) ?_
  refine lv_i2l hx hb dX3_packText_15 rfl ?_
  refine x_callw hS (x_rV C0 hl.1 hK hS (c_X0_write l G ad R N tl T pl P X pg a 1 ((nI (p_ln R c1)).toInt64) hp hl_p (by omega)) (x_con_p hp hl_p) rfl gX3_packText_X0_write 3 rfl rfl rfl (by decide +kernel) ⟨Nat.le_of_ble_eq_true rfl, Nat.le_of_ble_eq_true rfl⟩ rfl rfl (Nat.le_of_ble_eq_true rfl) dX3_packText_16 ⟨Nat.le_of_ble_eq_true rfl, Nat.le_of_ble_eq_true rfl⟩) (fun H locs hS => ?_)
  obtain ⟨Z1, eZ1⟩ : ∃ zz, zz = pg_wr (P pg) a 1 ((nI (p_ln R c1)).toInt64) 1 := ⟨_, rfl⟩
  rw [← eZ1] at hS
  show W _ _ _ _ _ _ _ _ _ _ _ _ _ _ _ (F0 m 19 ls [])
  refine lv_iconst (v := 0) hx hb dX3_packText_19 (by decide) ?_
  refine lv_istore (lv' := [(5, .int 0), (4, .int (nI (p_ln R c1))), (0, .ref (ad 0)), (1, .int (nI c1)), (2, .ref (ad (16 + pg))), (3, .int (nI a))]) hx hb dX3_packText_20 hl (by decide) rfl (fun ls hl => ?_)
  exact l_X3_packText C0 hK hp hl_p hc hR ha hpl.2 32 0 _ _ _ (by omega) (by omega) eZ1 hS ls (lv_sub hl [2, 3, 4, 5, 1, 0] rfl)
theorem kX3_packCell_wX3 : ∀ w ∈ u_ws RX3 TX3 3, w ∈ wsX3_packCell := by decide +kernel
theorem kX3_packCell_f12 : Cond.fieldLink RX3 12 "VersionDesk" "hand" "LVersionDesk$Row;" ∈ wsX3_packCell := by decide +kernel
set_option maxHeartbeats 4000000 in
set_option maxRecDepth 100000 in
/-- packCell -/
theorem c_X3_packCell (l : Launch) (G : x_G) (ad : Nat → Nat) (R : Nat → Nat → Int32) (N : Nat → Int64) (tl : Nat → Bool) (T : Nat → Nat → Int32) (pl : Nat → Bool) (P : Nat → Nat → Int32) (X : Nat → Option va_E) (y0 : Int32) (pg c1 a : Nat) (hp : pg < 60) (hl_p : pl pg = true) (hc : c1 < 8) (hR : h_ok R) (ha : a < 2 ^ 20) : Met l yX3_packCell wsX3_packCell ({ frames := 4, cells := 0, slots := 0, locals := 88 } : Room) (x_Pc G ad (x_con G ad R N tl T pl P X) [.ref (ad 0), .int y0, .int (nI c1), .ref (ad (16 + pg)), .int (nI a)]) (x_Qw G ad (x_con G ad R N tl T pl (va_up P pg (p_cZ R N y0 c1 a (P pg))) X) (some (.int (nI (p_cA R y0 c1 a))))) 0 0 (x_A G) := by
  refine x_met (cc := cX3_packCell) (maxL := 5) (ret := (some .int)) (by decide) rfl _ (Nat.le_of_ble_eq_true rfl) ?_
  intro p e s m args below meth c C0 hini hK hS ls hl
  have hl : lv_has ls 5 [(0, .ref (ad 0)), (1, .int y0), (2, .int (nI c1)), (3, .ref (ad (16 + pg))), (4, .int (nI a))] := hl
  obtain ⟨hx, hb, hr, hml, hown, hts, hlk⟩ := id C0
  refine lv_iload_n hx hb dX3_packCell_0 rfl (lv_at hl 1 rfl) ?_
  by_cases s1_1 : y0 = 1
  · refine lv_lookup (off := 27) (tgt := 28) hx hb dX3_packCell_1 (by decide) (by rw [s1_1] <;> rfl) (by decide) ?_
    refine lv_aload_n hx hb dX3_packCell_28 rfl (lv_at hl 3 rfl) ?_
    refine lv_iload hx hb dX3_packCell_29 (lv_at hl 4 rfl) ?_
    refine lv_bipush (v := 8) hx hb dX3_packCell_31 (by decide) ?_
    refine lv_aload_n hx hb dX3_packCell_33 rfl (lv_at hl 0 rfl) ?_
    refine x_dget (j := 0) C0 hK hS (by decide) kX3_packCell_wX3 kX3_packCell_f12 dX3_packCell_34 ?_
    refine lv_iload_n hx hb dX3_packCell_37 rfl (lv_at hl 2 rfl) ?_
    refine x_callr (x_rV C0 hl.1 hK hS (c_X1_numberAt l G ad R N tl T pl P X (nI c1)) (x_con_0 (k := 1) (by omega)) rfl gX3_packCell_X1_numberAt 1 rfl rfl rfl (by decide +kernel) ⟨Nat.le_of_ble_eq_true rfl, Nat.le_of_ble_eq_true rfl⟩ rfl rfl (Nat.le_of_ble_eq_true rfl) dX3_packCell_38 ⟨Nat.le_of_ble_eq_true rfl, Nat.le_of_ble_eq_true rfl⟩) ?_
    show W _ _ _ _ _ _ _ _ _ _ _ _ _ _ _ (F0 m 41 ls [.long (h_nm R N (nI c1)), .int 8, .int (nI a), .ref (ad (16 + pg))])
    refine x_callw hS (x_rV C0 hl.1 hK hS (c_X0_write l G ad R N tl T pl P X pg a 8 (h_nm R N (nI c1)) hp hl_p (by omega)) (x_con_p hp hl_p) rfl gX3_packCell_X0_write 3 rfl rfl rfl (by decide +kernel) ⟨Nat.le_of_ble_eq_true rfl, Nat.le_of_ble_eq_true rfl⟩ rfl rfl (Nat.le_of_ble_eq_true rfl) dX3_packCell_41 ⟨Nat.le_of_ble_eq_true rfl, Nat.le_of_ble_eq_true rfl⟩) (fun H locs hS => ?_)
    obtain ⟨Z1, eZ1⟩ : ∃ zz, zz = pg_wr (P pg) a 8 (h_nm R N (nI c1)) 8 := ⟨_, rfl⟩
    rw [← eZ1] at hS
    show W _ _ _ _ _ _ _ _ _ _ _ _ _ _ _ (F0 m 44 ls [])
    refine lv_iload hx hb dX3_packCell_44 (lv_at hl 4 rfl) ?_
    refine lv_bipush (v := 8) hx hb dX3_packCell_46 (by decide) ?_
    refine lv_iadd hx hb dX3_packCell_48 ?_
    exact x_wreti C0 hS (by unfold p_cZ; rw [if_pos s1_1, eZ1]) (by unfold p_cA; rw [if_pos s1_1]; exact nI_add a 8) dX3_packCell_49
  by_cases s1_2 : y0 = 2
  · refine lv_lookup (off := 49) (tgt := 50) hx hb dX3_packCell_1 (by decide) (by rw [s1_2] <;> rfl) (by decide) ?_
    refine lv_aload_n hx hb dX3_packCell_50 rfl (lv_at hl 0 rfl) ?_
    refine lv_iload_n hx hb dX3_packCell_51 rfl (lv_at hl 2 rfl) ?_
    refine lv_aload_n hx hb dX3_packCell_52 rfl (lv_at hl 3 rfl) ?_
    refine lv_iload hx hb dX3_packCell_53 (lv_at hl 4 rfl) ?_
    refine x_callw hS (x_rV C0 hl.1 hK hS (c_X3_packText l G ad R N tl T pl P X pg c1 a hp hl_p hc hR ha) (x_con_0 (k := 0) (by omega)) rfl gX3_packCell_X3_packText 3 rfl rfl rfl (by decide +kernel) ⟨Nat.le_of_ble_eq_true rfl, Nat.le_of_ble_eq_true rfl⟩ rfl rfl (Nat.le_of_ble_eq_true rfl) dX3_packCell_55 ⟨Nat.le_of_ble_eq_true rfl, Nat.le_of_ble_eq_true rfl⟩) (fun H locs hS => ?_)
    obtain ⟨Z2, eZ2⟩ : ∃ zz, zz = p_tx R c1 a (p_ln R c1) (P pg) (p_ln R c1) := ⟨_, rfl⟩
    rw [← eZ2] at hS
    show W _ _ _ _ _ _ _ _ _ _ _ _ _ _ _ (F0 m 58 ls [.int (nI (a + 1 + p_ln R c1))])
    exact x_wreti C0 hS (by unfold p_cZ; rw [if_neg s1_1, if_pos s1_2, eZ2]) (by unfold p_cA; rw [if_neg s1_1, if_pos s1_2]) dX3_packCell_58
  · refine lv_lookup (off := 58) (tgt := 59) hx hb dX3_packCell_1 (by decide) (by rw [lv_osw s1_1 (by decide), lv_osw s1_2 (by decide)] <;> rfl) (by decide) ?_
    refine lv_aload_n hx hb dX3_packCell_59 rfl (lv_at hl 3 rfl) ?_
    refine lv_iload hx hb dX3_packCell_60 (lv_at hl 4 rfl) ?_
    refine lv_iconst (v := 1) hx hb dX3_packCell_62 (by decide) ?_
    refine lv_aload_n hx hb dX3_packCell_63 rfl (lv_at hl 0 rfl) ?_
    refine x_dget (j := 0) C0 hK hS (by decide) kX3_packCell_wX3 kX3_packCell_f12 dX3_packCell_64 ?_
    refine lv_iload_n hx hb dX3_packCell_67 rfl (lv_at hl 2 rfl) ?_
    refine x_callr (x_rV C0 hl.1 hK hS (c_X1_numberAt l G ad R N tl T pl P X (nI c1)) (x_con_0 (k := 1) (by omega)) rfl gX3_packCell_X1_numberAt 1 rfl rfl rfl (by decide +kernel) ⟨Nat.le_of_ble_eq_true rfl, Nat.le_of_ble_eq_true rfl⟩ rfl rfl (Nat.le_of_ble_eq_true rfl) dX3_packCell_68 ⟨Nat.le_of_ble_eq_true rfl, Nat.le_of_ble_eq_true rfl⟩) ?_
    show W _ _ _ _ _ _ _ _ _ _ _ _ _ _ _ (F0 m 71 ls [.long (h_nm R N (nI c1)), .int 1, .int (nI a), .ref (ad (16 + pg))])
    refine lv_lconst (v := 0) hx hb dX3_packCell_71 (by decide) ?_
    refine W.lcmp hx hb dX3_packCell_72 ?_
    refine lv_if_ne (tgt := 80) hx hb dX3_packCell_73 (by decide) (fun c73 => ?_) (fun c73 => ?_)
    · refine lv_lconst (v := 1) hx hb dX3_packCell_80 (by decide) ?_
      refine x_callw hS (x_rV C0 hl.1 hK hS (c_X0_write l G ad R N tl T pl P X pg a 1 1 hp hl_p (by omega)) (x_con_p hp hl_p) rfl gX3_packCell_X0_write 3 rfl rfl rfl (by decide +kernel) ⟨Nat.le_of_ble_eq_true rfl, Nat.le_of_ble_eq_true rfl⟩ rfl rfl (Nat.le_of_ble_eq_true rfl) dX3_packCell_81 ⟨Nat.le_of_ble_eq_true rfl, Nat.le_of_ble_eq_true rfl⟩) (fun H locs hS => ?_)
      obtain ⟨Z3, eZ3⟩ : ∃ zz, zz = pg_wr (P pg) a 1 1 1 := ⟨_, rfl⟩
      rw [← eZ3] at hS
      show W _ _ _ _ _ _ _ _ _ _ _ _ _ _ _ (F0 m 84 ls [])
      refine lv_iload hx hb dX3_packCell_84 (lv_at hl 4 rfl) ?_
      refine lv_iconst (v := 1) hx hb dX3_packCell_86 (by decide) ?_
      refine lv_iadd hx hb dX3_packCell_87 ?_
      exact x_wreti C0 hS (by unfold p_cZ; rw [if_neg s1_1, if_neg s1_2, if_neg (fun q => c73 ((lg_cmp_eq _ _).mpr q)), eZ3]) (by unfold p_cA; rw [if_neg s1_1, if_neg s1_2]; exact nI_add a 1) dX3_packCell_88
    · refine lv_lconst (v := 0) hx hb dX3_packCell_76 (by decide) ?_
      refine lv_goto (tgt := 81) hx hb dX3_packCell_77 (by decide) ?_
      refine x_callw hS (x_rV C0 hl.1 hK hS (c_X0_write l G ad R N tl T pl P X pg a 1 0 hp hl_p (by omega)) (x_con_p hp hl_p) rfl gX3_packCell_X0_write 3 rfl rfl rfl (by decide +kernel) ⟨Nat.le_of_ble_eq_true rfl, Nat.le_of_ble_eq_true rfl⟩ rfl rfl (Nat.le_of_ble_eq_true rfl) dX3_packCell_81 ⟨Nat.le_of_ble_eq_true rfl, Nat.le_of_ble_eq_true rfl⟩) (fun H locs hS => ?_)
      obtain ⟨Z4, eZ4⟩ : ∃ zz, zz = pg_wr (P pg) a 1 0 1 := ⟨_, rfl⟩
      rw [← eZ4] at hS
      show W _ _ _ _ _ _ _ _ _ _ _ _ _ _ _ (F0 m 84 ls [])
      refine lv_iload hx hb dX3_packCell_84 (lv_at hl 4 rfl) ?_
      refine lv_iconst (v := 1) hx hb dX3_packCell_86 (by decide) ?_
      refine lv_iadd hx hb dX3_packCell_87 ?_
      exact x_wreti C0 hS (by unfold p_cZ; rw [if_neg s1_1, if_neg s1_2, if_pos ((lg_cmp_eq _ _).mp c73), eZ4]) (by unfold p_cA; rw [if_neg s1_1, if_neg s1_2]; exact nI_add a 1) dX3_packCell_88
theorem kX3_packHand_wX2 : ∀ w ∈ u_ws RX2 TX2 3, w ∈ wsX3_packHand := by decide +kernel
theorem kX3_packHand_wX3 : ∀ w ∈ u_ws RX3 TX3 3, w ∈ wsX3_packHand := by decide +kernel
theorem kX3_packHand_f12 : Cond.fieldLink RX3 12 "VersionDesk" "hand" "LVersionDesk$Row;" ∈ wsX3_packHand := by decide +kernel
theorem kX3_packHand_f196 : Cond.fieldLink RX3 196 "VersionDesk$Table" "columns" "I" ∈ wsX3_packHand := by decide +kernel
set_option maxHeartbeats 4000000 in
set_option maxRecDepth 100000 in
theorem l_X3_packHand {p : Program} {l : Launch} {e : Env} {s : State} {m : MethodId} {args : Array Value} {below : List Frame} {meth : Method} {c : Code} {G : x_G} {ad : Nat → Nat} {R : Nat → Nat → Int32} {N : Nat → Int64} {tl : Nat → Bool} {T : Nat → Nat → Int32} {pl : Nat → Bool} {P : Nat → Nat → Int32} {X : Nat → Option va_E} (C0 : x_B p s m meth c args cX3_packHand 7 none RX3 wsX3_packHand) (hK : x_K G s) {t m1 pg a : Nat} {F : Nat → Int32} {f9 : Int32} (hi : t < 8) (hl_t : tl t = true) (hm : m1 ≤ 8) (hcol : T t 1 = nI m1) (hp : pg < 60) (hl_p : pl pg = true) (hR : h_ok R) (ha : a < 2 ^ 19) : ∀ (d : Nat) (c1 b : Nat) (f : Int32) (Z : Nat → Int32) (H : Heap) (locs : List Loc), m1 - c1 < d → c1 ≤ m1 → b ≤ a + 16 + 32 * c1 → F = p_hZ R N (T t 2) (m1 - c1) c1 b Z → f9 = p_hF R (m1 - c1) c1 f → x_H G ad (x_con G ad R N tl T pl (va_up P pg Z) X) H locs → ∀ (ls : Array Slot), lv_has ls 7 [(0, .ref (ad 0)), (1, .ref (ad (8 + t))), (2, .ref (ad (16 + pg))), (3, .int (nI a)), (4, .int (nI b)), (5, .int f), (6, .int (nI c1))] → W p l e ({ frames := 5, cells := 0, slots := 0, locals := 112 } : Room) s m args below meth c H locs 0 0 (MQ below (x_Qw G ad (x_con G ad R N tl T pl (va_up P pg (pg_wr F (a + 14) 1 f9.toInt64 1)) X) none) args s 0 0 (x_A G)) (F0 m 12 ls []) := by
  obtain ⟨hx, hb, hr, hml, hown, hts, hlk⟩ := id C0
  intro d
  induction d with
  | zero =>
    intro c1 b f Z H locs hd hc hb2 hZ hf hS ls hl
    exact absurd hd (by omega)
  | succ d ih =>
    intro c1 b f Z H locs hd hc hb2 hZ hf hS ls hl
    refine lv_iload hx hb dX3_packHand_12 (lv_at hl 6 rfl) ?_
    refine lv_aload_n hx hb dX3_packHand_14 rfl (lv_at hl 1 rfl) ?_
    refine x_tget (j := 1) C0 hK hS hi hl_t (by decide) kX3_packHand_wX2 kX3_packHand_f196 dX3_packHand_15 ?_
    refine lv_icmp_ge (tgt := 65) hx hb dX3_packHand_18 (by decide) (fun c18 => ?_) (fun c18 => ?_)
    · have hc2 := nz_le c18 hcol rfl (by omega) (by omega)
      refine lv_aload_n hx hb dX3_packHand_65 rfl (lv_at hl 2 rfl) ?_
      refine lv_iload_n hx hb dX3_packHand_66 rfl (lv_at hl 3 rfl) ?_
      refine lv_bipush (v := 14) hx hb dX3_packHand_67 (by decide) ?_
      refine lv_iadd hx hb dX3_packHand_69 ?_
      refine lv_iconst (v := 1) hx hb dX3_packHand_70 (by decide) ?_
      refine lv_iload hx hb dX3_packHand_71 (lv_at hl 5 rfl) ?_
      refine lv_i2l hx hb dX3_packHand_73 rfl ?_
      rw [show nI a + 14 = nI (a + 14) from nI_add a 14]
      refine x_callw hS (x_rV C0 hl.1 hK hS (c_X0_write l G ad R N tl T pl (va_up P pg Z) X pg (a + 14) 1 f.toInt64 hp hl_p (by omega)) (x_con_p hp hl_p) rfl gX3_packHand_X0_write 3 rfl rfl rfl (by decide +kernel) ⟨Nat.le_of_ble_eq_true rfl, Nat.le_of_ble_eq_true rfl⟩ rfl rfl (Nat.le_of_ble_eq_true rfl) dX3_packHand_74 ⟨Nat.le_of_ble_eq_true rfl, Nat.le_of_ble_eq_true rfl⟩) (fun H locs hS => ?_)
      simp only [va_up_self, bx_uu] at hS
      obtain ⟨Z1, eZ1⟩ : ∃ zz, zz = pg_wr (Z) (a + 14) 1 f.toInt64 1 := ⟨_, rfl⟩
      rw [← eZ1] at hS
      show W _ _ _ _ _ _ _ _ _ _ _ _ _ _ _ (F0 m 77 ls [])
      exact x_wretv C0 hS (by rw [eZ1, hZ, hf, show m1 - c1 = 0 by omega]; rfl) dX3_packHand_77
    · have hc2 := nz_nle c18 hcol rfl (by omega) (by omega)
      refine lv_aload_n hx hb dX3_packHand_21 rfl (lv_at hl 0 rfl) ?_
      refine x_dget (j := 0) C0 hK hS (by decide) kX3_packHand_wX3 kX3_packHand_f12 dX3_packHand_22 ?_
      refine lv_iload hx hb dX3_packHand_25 (lv_at hl 6 rfl) ?_
      refine x_callr (x_rV C0 hl.1 hK hS (c_X1_kindAt l G ad R N tl T pl (va_up P pg Z) X (nI c1)) (x_con_0 (k := 1) (by omega)) rfl gX3_packHand_X1_kindAt 1 rfl rfl rfl (by decide +kernel) ⟨Nat.le_of_ble_eq_true rfl, Nat.le_of_ble_eq_true rfl⟩ rfl rfl (Nat.le_of_ble_eq_true rfl) dX3_packHand_27 ⟨Nat.le_of_ble_eq_true rfl, Nat.le_of_ble_eq_true rfl⟩) ?_
      rw [h_kd_nI (by omega)]
      show W _ _ _ _ _ _ _ _ _ _ _ _ _ _ _ (F0 m 30 ls [.int (R 0 c1)])
      refine lv_if_eq (tgt := 59) hx hb dX3_packHand_30 (by decide) (fun c30 => ?_) (fun c30 => ?_)
      · refine lv_iinc (v := nI (c1 + 1)) (lv' := [(6, .int (nI (c1 + 1))), (0, .ref (ad 0)), (1, .ref (ad (8 + t))), (2, .ref (ad (16 + pg))), (3, .int (nI a)), (4, .int (nI b)), (5, .int f)]) hx hb dX3_packHand_59 hl (k := 6) rfl (nI_1 c1) (by decide) rfl (fun ls hl => ?_)
        refine lv_goto (tgt := 12) hx hb dX3_packHand_62 (by decide) ?_
        exact ih (c1 + 1) b _ Z _ _ (by omega) (by omega) (by omega) (by rw [hZ, show m1 - c1 = (m1 - (c1 + 1)) + 1 by omega]; simp only [p_hZ]; rw [if_pos c30]) (by rw [hf, show m1 - c1 = (m1 - (c1 + 1)) + 1 by omega]; simp only [p_hF]; rw [if_pos c30]) hS ls (lv_sub hl [1, 2, 3, 4, 5, 6, 0] rfl)
      · refine lv_iload hx hb dX3_packHand_33 (lv_at hl 5 rfl) ?_
        refine lv_iconst (v := 1) hx hb dX3_packHand_35 (by decide) ?_
        refine lv_iload hx hb dX3_packHand_36 (lv_at hl 6 rfl) ?_
        refine lv_ishl hx hb dX3_packHand_38 ?_
        refine lv_ior hx hb dX3_packHand_39 ?_
        refine lv_topi (fun x2 ex2 => ?_)
        refine lv_istore (lv' := [(5, .int x2), (0, .ref (ad 0)), (1, .ref (ad (8 + t))), (2, .ref (ad (16 + pg))), (3, .int (nI a)), (4, .int (nI b)), (6, .int (nI c1))]) hx hb dX3_packHand_40 hl (by decide) rfl (fun ls hl => ?_)
        refine lv_aload_n hx hb dX3_packHand_42 rfl (lv_at hl 1 rfl) ?_
        refine lv_aload_n hx hb dX3_packHand_43 rfl (lv_at hl 2 rfl) ?_
        refine lv_iload hx hb dX3_packHand_44 (lv_at hl 6 rfl) ?_
        refine x_callr (x_rV C0 hl.1 hK hS (c_X2_typeAt l G ad R N tl T pl (va_up P pg Z) X t c1 hi hl_t (by omega)) (x_con_t hi hl_t) rfl gX3_packHand_X2_typeAt 1 rfl rfl rfl (by decide +kernel) ⟨Nat.le_of_ble_eq_true rfl, Nat.le_of_ble_eq_true rfl⟩ rfl rfl (Nat.le_of_ble_eq_true rfl) dX3_packHand_46 ⟨Nat.le_of_ble_eq_true rfl, Nat.le_of_ble_eq_true rfl⟩) ?_
        show W _ _ _ _ _ _ _ _ _ _ _ _ _ _ _ (F0 m 49 ls [.int (dg (T t 2) c1), .ref (ad 0)])
        refine lv_iload hx hb dX3_packHand_49 (lv_at hl 6 rfl) ?_
        refine lv_aload_n hx hb dX3_packHand_51 rfl (lv_at hl 3 rfl) ?_
        refine lv_iload hx hb dX3_packHand_52 (lv_at hl 5 rfl) ?_
        refine x_callw hS (x_rV C0 hl.1 hK hS (c_X3_packCell l G ad R N tl T pl (va_up P pg Z) X (dg (T t 2) c1) pg c1 b hp hl_p (by omega) hR (by omega)) (x_con_0 (k := 0) (by omega)) rfl gX3_packHand_X3_packCell 4 rfl rfl rfl (by decide +kernel) ⟨Nat.le_of_ble_eq_true rfl, Nat.le_of_ble_eq_true rfl⟩ rfl rfl (Nat.le_of_ble_eq_true rfl) dX3_packHand_54 ⟨Nat.le_of_ble_eq_true rfl, Nat.le_of_ble_eq_true rfl⟩) (fun H locs hS => ?_)
        simp only [va_up_self, bx_uu] at hS
        obtain ⟨Z3, eZ3⟩ : ∃ zz, zz = p_cZ R N (dg (T t 2) c1) c1 b (Z) := ⟨_, rfl⟩
        rw [← eZ3] at hS
        show W _ _ _ _ _ _ _ _ _ _ _ _ _ _ _ (F0 m 57 ls [.int (nI (p_cA R (dg (T t 2) c1) c1 b))])
        refine lv_istore (lv' := [(4, .int (nI (p_cA R (dg (T t 2) c1) c1 b))), (5, .int x2), (0, .ref (ad 0)), (1, .ref (ad (8 + t))), (2, .ref (ad (16 + pg))), (3, .int (nI a)), (6, .int (nI c1))]) hx hb dX3_packHand_57 hl (by decide) rfl (fun ls hl => ?_)
        refine lv_iinc (v := nI (c1 + 1)) (lv' := [(6, .int (nI (c1 + 1))), (4, .int (nI (p_cA R (dg (T t 2) c1) c1 b))), (5, .int x2), (0, .ref (ad 0)), (1, .ref (ad (8 + t))), (2, .ref (ad (16 + pg))), (3, .int (nI a))]) hx hb dX3_packHand_59 hl (k := 6) rfl (nI_1 c1) (by decide) rfl (fun ls hl => ?_)
        refine lv_goto (tgt := 12) hx hb dX3_packHand_62 (by decide) ?_
        have hle := p_cA_le hR (c := c1) (by omega) (dg (T t 2) c1) b
        exact ih (c1 + 1) _ _ Z3 _ _ (by omega) (by omega) (by omega) (by rw [hZ, show m1 - c1 = (m1 - (c1 + 1)) + 1 by omega, eZ3]; simp only [p_hZ]; rw [if_neg c30]) (by rw [hf, show m1 - c1 = (m1 - (c1 + 1)) + 1 by omega]; simp only [p_hF]; rw [if_neg c30, ex2]) hS ls (lv_sub hl [3, 4, 5, 6, 1, 2, 0] rfl)
set_option maxHeartbeats 4000000 in
set_option maxRecDepth 100000 in
/-- packHand -/
theorem c_X3_packHand (l : Launch) (G : x_G) (ad : Nat → Nat) (R : Nat → Nat → Int32) (N : Nat → Int64) (tl : Nat → Bool) (T : Nat → Nat → Int32) (pl : Nat → Bool) (P : Nat → Nat → Int32) (X : Nat → Option va_E) (t m1 pg a : Nat) (hi : t < 8) (hl_t : tl t = true) (hm : m1 ≤ 8) (hcol : T t 1 = nI m1) (hp : pg < 60) (hl_p : pl pg = true) (hR : h_ok R) (ha : a < 2 ^ 19) : Met l yX3_packHand wsX3_packHand ({ frames := 5, cells := 0, slots := 0, locals := 112 } : Room) (x_Pc G ad (x_con G ad R N tl T pl P X) [.ref (ad 0), .ref (ad (8 + t)), .ref (ad (16 + pg)), .int (nI a)]) (x_Qw G ad (x_con G ad R N tl T pl (va_up P pg (p_h R N (T t 2) m1 a (P pg))) X) none) 0 0 (x_A G) := by
  refine x_met (cc := cX3_packHand) (maxL := 7) (ret := none) (by decide) rfl _ (Nat.le_of_ble_eq_true rfl) ?_
  intro p e s m args below meth c C0 hini hK hS ls hl
  have hl : lv_has ls 7 [(0, .ref (ad 0)), (1, .ref (ad (8 + t))), (2, .ref (ad (16 + pg))), (3, .int (nI a))] := hl
  obtain ⟨hx, hb, hr, hml, hown, hts, hlk⟩ := id C0
  refine lv_iload_n hx hb dX3_packHand_0 rfl (lv_at hl 3 rfl) ?_
  refine lv_bipush (v := 16) hx hb dX3_packHand_1 (by decide) ?_
  refine lv_iadd hx hb dX3_packHand_3 ?_
  rw [show nI a + 16 = nI (a + 16) from nI_add a 16]
  refine lv_istore (lv' := [(4, .int (nI (a + 16))), (0, .ref (ad 0)), (1, .ref (ad (8 + t))), (2, .ref (ad (16 + pg))), (3, .int (nI a))]) hx hb dX3_packHand_4 hl (by decide) rfl (fun ls hl => ?_)
  refine lv_iconst (v := 0) hx hb dX3_packHand_6 (by decide) ?_
  refine lv_istore (lv' := [(5, .int 0), (4, .int (nI (a + 16))), (0, .ref (ad 0)), (1, .ref (ad (8 + t))), (2, .ref (ad (16 + pg))), (3, .int (nI a))]) hx hb dX3_packHand_7 hl (by decide) rfl (fun ls hl => ?_)
  refine lv_iconst (v := 0) hx hb dX3_packHand_9 (by decide) ?_
  refine lv_istore (lv' := [(6, .int 0), (5, .int 0), (4, .int (nI (a + 16))), (0, .ref (ad 0)), (1, .ref (ad (8 + t))), (2, .ref (ad (16 + pg))), (3, .int (nI a))]) hx hb dX3_packHand_10 hl (by decide) rfl (fun ls hl => ?_)
  exact l_X3_packHand C0 hK hi hl_t hm hcol hp hl_p hR ha 9 0 _ _ (P pg) _ _ (by omega) (by omega) (by omega) rfl rfl (by rw [va_up_id]; exact hS) ls (lv_sub hl [3, 4, 5, 6, 2, 1, 0] rfl)
