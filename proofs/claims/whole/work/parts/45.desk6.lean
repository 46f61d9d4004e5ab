-- ===== unpacking a version to the hand =====
def u_tx (Z : Nat → Int32) (c a : Nat) (R : Nat → Nat → Int32) : Nat → Nat → Nat → Int32
  | 0 => h_mt R (nI c)
  | i + 1 => h_al (u_tx Z c a R i) (nI c) (pg_rd Z (a + 1 + i) 1).toInt32
theorem u_tx_ok {Z : Nat → Int32} {c a : Nat} {R : Nat → Nat → Int32} (h : h_ok R) : ∀ i, h_ok (u_tx Z c a R i)
  | 0 => h_mt_ok h
  | i + 1 => h_al_ok (u_tx_ok h i)
theorem h_snR_ok {R : Nat → Nat → Int32} {c : Int32} (h : h_ok R) : h_ok (h_snR R c) := by
  unfold h_snR
  split
  · intro i hi
    rw [va_up_ne _ _ (by decide)]
    exact h i hi
  · exact h
def u_cR (Z : Nat → Int32) (y : Int32) (c a : Nat) (R : Nat → Nat → Int32) : Nat → Nat → Int32 := if y = 1 then h_snR R (nI c) else if y = 2 then u_tx Z c a R (rd_N Z a 1) else h_snR R (nI c)
def u_cN (Z : Nat → Int32) (y : Int32) (c a : Nat) (N : Nat → Int64) : Nat → Int64 := if y = 1 then h_snN N (nI c) (pg_rd Z a 8) else if y = 2 then N else h_snN N (nI c) (pg_rd Z a 1)
def u_cA (Z : Nat → Int32) (y : Int32) (a : Nat) : Nat := if y = 1 then a + 8 else if y = 2 then a + 1 + rd_N Z a 1 else a + 1
theorem u_cR_ok {Z : Nat → Int32} {y : Int32} {c a : Nat} {R : Nat → Nat → Int32} (h : h_ok R) : h_ok (u_cR Z y c a R) := by
  unfold u_cR
  split
  · exact h_snR_ok h
  · split
    · exact u_tx_ok h _
    · exact h_snR_ok h
theorem u_cA_le (Z : Nat → Int32) (y : Int32) (a : Nat) : u_cA Z y a ≤ a + 257 := by
  have := rd_N_lt Z a 1
  unfold u_cA
  split
  · omega
  · split <;> omega
def u_bit (f : Int32) (c : Nat) : Bool := decide ((f >>> (nI c &&& 31)) &&& 1 = 1)
-- all columns from c on: kinds lengths letters, numbers
def u_hR (Z : Nat → Int32) (f x : Int32) : Nat → Nat → Nat → (Nat → Nat → Int32) → (Nat → Nat → Int32)
  | 0, _, _, R => R
  | d + 1, c, a, R => if u_bit f c then u_hR Z f x d (c + 1) (u_cA Z (dg x c) a) (u_cR Z (dg x c) c a R) else u_hR Z f x d (c + 1) a R
def u_hN (Z : Nat → Int32) (f x : Int32) : Nat → Nat → Nat → (Nat → Int64) → (Nat → Int64)
  | 0, _, _, N => N
  | d + 1, c, a, N => if u_bit f c then u_hN Z f x d (c + 1) (u_cA Z (dg x c) a) (u_cN Z (dg x c) c a N) else u_hN Z f x d (c + 1) a N
def u_R (Z : Nat → Int32) (x : Int32) (m a : Nat) (R : Nat → Nat → Int32) : Nat → Nat → Int32 := u_hR Z (pg_rd Z (a + 14) 1).toInt32 x m 0 (a + 16) R
def u_N (Z : Nat → Int32) (x : Int32) (m a : Nat) (N : Nat → Int64) : Nat → Int64 := u_hN Z (pg_rd Z (a + 14) 1).toInt32 x m 0 (a + 16) N
theorem kX3_unpackText_wX3 : ∀ w ∈ u_ws RX3 TX3 3, w ∈ wsX3_unpackText := by decide +kernel
theorem kX3_unpackText_f12 : Cond.fieldLink RX3 12 "VersionDesk" "hand" "LVersionDesk$Row;" ∈ wsX3_unpackText := by decide +kernel
set_option maxHeartbeats 4000000 in
set_option maxRecDepth 100000 in
theorem l_X3_unpackText {p : Program} {l : Launch} {e : Env} {s : State} {m : MethodId} {args : Array Value} {below : List Frame} {meth : Method} {c : Code} {G : x_G} {ad : Nat → Nat} {N : Nat → Int64} {tl : Nat → Bool} {T : Nat → Nat → Int32} {pl : Nat → Bool} {P : Nat → Nat → Int32} {X : Nat → Option va_E} (C0 : x_B p s m meth c args cX3_unpackText 6 (some .int) RX3 wsX3_unpackText) (hK : x_K G s) {pg c1 a n : Nat} {R0 : Nat → Nat → Int32} (hp : pg < 60) (hl_p : pl pg = true) (hR : h_ok R0) (ha : a < 2 ^ 20) (hn : n < 256) : ∀ (d : Nat) (i : Nat) (R : Nat → Nat → Int32) (H : Heap) (locs : List Loc), n - i < d → i ≤ n → R = u_tx (P pg) c1 a R0 i → x_H G ad (x_con G ad R N tl T pl P X) H locs → ∀ (ls : Array Slot), lv_has ls 6 [(0, .ref (ad 0)), (1, .int (nI c1)), (2, .ref (ad (16 + pg))), (3, .int (nI a)), (4, .int (nI n)), (5, .int (nI i))] → W p l e ({ frames := 3, cells := 0, slots := 0, locals := 63 } : Room) s m args below meth c H locs 0 0 (MQ below (x_Qw G ad (x_con G ad (u_tx (P pg) c1 a R0 n) N tl T pl P X) (some (.int (nI (a + 1 + n))))) args s 0 0 (x_A G)) (F0 m 20 ls []) := by
  obtain ⟨hx, hb, hr, hml, hown, hts, hlk⟩ := id C0
  intro d
  induction d with
  | zero =>
    intro i R H locs hd hi hRi hS ls hl
    exact absurd hd (by omega)
  | succ d ih =>
    intro i R H locs hd hi hRi hS ls hl
    refine lv_iload hx hb dX3_unpackText_20 (lv_at hl 5 rfl) ?_
    refine lv_iload hx hb dX3_unpackText_22 (lv_at hl 4 rfl) ?_
    refine lv_icmp_ge (tgt := 53) hx hb dX3_unpackText_24 (by decide) (fun c24 => ?_) (fun c24 => ?_)
    · have hi2 := nz_le c24 rfl rfl (by omega) (by omega)
      refine lv_iload_n hx hb dX3_unpackText_53 rfl (lv_at hl 3 rfl) ?_
      refine lv_iconst (v := 1) hx hb dX3_unpackText_54 (by decide) ?_
      refine lv_iadd hx hb dX3_unpackText_55 ?_
      refine lv_iload hx hb dX3_unpackText_56 (lv_at hl 4 rfl) ?_
      refine lv_iadd hx hb dX3_unpackText_58 ?_
      exact x_wreti C0 hS (by rw [hRi, show i = n by omega]) (by rw [show nI a + 1 = nI (a + 1) from nI_add a 1]; exact nI_add _ _) dX3_unpackText_59
    · have hi2 := nz_nle c24 rfl rfl (by omega) (by omega)
      refine lv_aload_n hx hb dX3_unpackText_27 rfl (lv_at hl 0 rfl) ?_
      refine x_dget (j := 0) C0 hK hS (by decide) kX3_unpackText_wX3 kX3_unpackText_f12 dX3_unpackText_28 ?_
      refine lv_iload_n hx hb dX3_unpackText_31 rfl (lv_at hl 1 rfl) ?_
      refine lv_aload_n hx hb dX3_unpackText_32 rfl (lv_at hl 2 rfl) ?_
      refine lv_iload_n hx hb dX3_unpackText_33 rfl (lv_at hl 3 rfl) ?_
      refine lv_iconst (v := 1) hx hb dX3_unpackText_34 (by decide) ?_
      refine lv_iadd hx hb dX3_unpackText_35 ?_
      refine lv_iload hx hb dX3_unpackText_36 (lv_at hl 5 rfl) ?_
      refine lv_iadd hx hb dX3_unpackText_38 ?_
      refine lv_iconst (v := 1) hx hb dX3_unpackText_39 (by decide) ?_
      rw [show nI a + 1 + nI i = nI (a + 1 + i) from (by rw [show nI a + 1 = nI (a + 1) from nI_add a 1]; exact nI_add _ _)]
      refine x_callr (x_rV C0 hl.1 hK hS (c_X0_read l G ad R N tl T pl P X pg (a + 1 + i) 1 hp hl_p (by omega)) (x_con_p hp hl_p) rfl gX3_unpackText_X0_read 2 rfl rfl rfl (by decide +kernel) ⟨Nat.le_of_ble_eq_true rfl, Nat.le_of_ble_eq_true rfl⟩ rfl rfl (Nat.le_of_ble_eq_true rfl) dX3_unpackText_40 ⟨Nat.le_of_ble_eq_true rfl, Nat.le_of_ble_eq_true rfl⟩) ?_
      show W _ _ _ _ _ _ _ _ _ _ _ _ _ _ _ (F0 m 43 ls [.long (pg_rd (P pg) (a + 1 + i) 1), .int (nI c1), .ref (ad 1)])
      refine lv_l2i hx hb dX3_unpackText_43 rfl ?_
      refine x_callw hS (x_rV C0 hl.1 hK hS (c_X1_addLetter l G ad R N tl T pl P X (nI c1) ((pg_rd (P pg) (a + 1 + i) 1).toInt32) (by rw [hRi]; exact u_tx_ok hR i)) (x_con_0 (k := 1) (by omega)) rfl gX3_unpackText_X1_addLetter 2 rfl rfl rfl (by decide +kernel) ⟨Nat.le_of_ble_eq_true rfl, Nat.le_of_ble_eq_true rfl⟩ rfl rfl (Nat.le_of_ble_eq_true rfl) dX3_unpackText_44 ⟨Nat.le_of_ble_eq_true rfl, Nat.le_of_ble_eq_true rfl⟩) (fun H locs hS => ?_)
      show W _ _ _ _ _ _ _ _ _ _ _ _ _ _ _ (F0 m 47 ls [])
      refine lv_iinc (v := nI (i + 1)) (lv' := [(5, .int (nI (i + 1))), (0, .ref (ad 0)), (1, .int (nI c1)), (2, .ref (ad (16 + pg))), (3, .int (nI a)), (4, .int (nI n))]) hx hb dX3_unpackText_47 hl (k := 5) rfl (nI_1 i) (by decide) rfl (fun ls hl => ?_)
      refine lv_goto (tgt := 20) hx hb dX3_unpackText_50 (by decide) ?_
      exact ih (i + 1) _ _ _ (by omega) (by omega) (by rw [hRi]; rfl) hS ls (lv_sub hl [1, 2, 3, 4, 5, 0] rfl)
set_option maxHeartbeats 4000000 in
set_option maxRecDepth 100000 in
/-- unpackText -/
theorem c_X3_unpackText (l : Launch) (G : x_G) (ad : Nat → Nat) (R : Nat → Nat → Int32) (N : Nat → Int64) (tl : Nat → Bool) (T : Nat → Nat → Int32) (pl : Nat → Bool) (P : Nat → Nat → Int32) (X : Nat → Option va_E) (pg c1 a : Nat) (hp : pg < 60) (hl_p : pl pg = true) (hR : h_ok R) (ha : a < 2 ^ 20) : Met l yX3_unpackText wsX3_unpackText ({ frames := 3, cells := 0, slots := 0, locals := 63 } : Room) (x_Pc G ad (x_con G ad R N tl T pl P X) [.ref (ad 0), .int (nI c1), .ref (ad (16 + pg)), .int (nI a)]) (x_Qw G ad (x_con G ad (u_tx (P pg) c1 a R (rd_N (P pg) a 1)) N tl T pl P X) (some (.int (nI (a + 1 + rd_N (P pg) a 1))))) 0 0 (x_A G) := by
  refine x_met (cc := cX3_unpackText) (maxL := 6) (ret := (some .int)) (by decide) rfl _ (Nat.le_of_ble_eq_true rfl) ?_
  intro p e s m args below meth c C0 hini hK hS ls hl
  have hl : lv_has ls 6 [(0, .ref (ad 0)), (1, .int (nI c1)), (2, .ref (ad (16 + pg))), (3, .int (nI a))] := hl
  obtain ⟨hx, hb, hr, hml, hown, hts, hlk⟩ := id C0
  refine lv_aload_n hx hb dX3_unpackText_0 rfl (lv_at hl 2 rfl) ?_
  refine lv_iload_n hx hb dX3_unpackText_1 rfl (lv_at hl 3 rfl) ?_
  refine lv_iconst (v := 1) hx hb dX3_unpackText_2 (by decide) ?_
  refine x_callr (x_rV C0 hl.1 hK hS (c_X0_read l G ad R N tl T pl P X pg a 1 hp hl_p (by omega)) (x_con_p hp hl_p) rfl gX3_unpackText_X0_read 2 rfl rfl rfl (by decide +kernel) ⟨Nat.le_of_ble_eq_true rfl, Nat.le_of_ble_eq_true rfl⟩ rfl rfl (Nat.le_of_ble_eq_true rfl) dX3_unpackText_3 ⟨Nat.le_of_ble_eq_true rfl, Nat.le_of_ble_eq_true rfl⟩) ?_
  show W _ _ _ _ _ _ _ _ _ _ _ _ _ _ _ (F0 m 6 ls [.long (pg_rd (P pg) a 1)])
  refine lv_l2i hx hb dX3_unpackText_6 rfl ?_
  rw [pg_rd_N _ _ _ (by omega), lN_i]
  refine lv_istore (lv' := [(4, .int (nI (rd_N (P pg) a 1))), (0, .ref (ad 0)), (1, .int (nI c1)), (2, .ref (ad (16 + pg))), (3, .int (nI a))]) hx hb dX3_unpackText_7 hl (by decide) rfl (fun ls hl => ?_)
  refine lv_aload_n hx hb dX3_unpackText_9 rfl (lv_at hl 1 rfl) ?_
  refine x_dget (j := 0) C0 hK hS (by decide) kX3_unpackText_wX3 kX3_unpackText_f12 dX3_unpackText_10 ?_
  refine lv_iload_n hx hb dX3_unpackText_13 rfl (lv_at hl 2 rfl) ?_
  refine x_callw hS (x_rV C0 hl.1 hK hS (c_X1_makeText l G ad R N tl T pl P X (nI c1)) (x_con_0 (k := 1) (by omega)) rfl gX3_unpackText_X1_makeText 1 rfl rfl rfl (by decide +kernel) ⟨Nat.le_of_ble_eq_true rfl, Nat.le_of_ble_eq_true rfl⟩ rfl rfl (Nat.le_of_ble_eq_true rfl) dX3_unpackText_14 ⟨Nat.le_of_ble_eq_true rfl, Nat.le_of_ble_eq_true rfl⟩) (fun H locs hS => ?_)
  show W _ _ _ _ _ _ _ _ _ _ _ _ _ _ _ (F0 m 17 ls [])
  refine lv_iconst (v := 0) hx hb dX3_unpackText_17 (by decide) ?_
  refine lv_istore (lv' := [(5, .int 0), (4, .int (nI (rd_N (P pg) a 1))), (0, .ref (ad 0)), (1, .int (nI c1)), (2, .ref (ad (16 + pg))), (3, .int (nI a))]) hx hb dX3_unpackText_18 hl (by decide) rfl (fun ls hl => ?_)
  exact l_X3_unpackText C0 hK hp hl_p hR ha (rd_N_lt (P pg) a 1) 257 0 _ _ _ (by have := rd_N_lt (P pg) a 1; omega) (by omega) rfl hS ls (lv_sub hl [2, 3, 4, 5, 1, 0] rfl)
theorem kX3_unpackCell_wX3 : ∀ w ∈ u_ws RX3 TX3 3, w ∈ wsX3_unpackCell := by decide +kernel
theorem kX3_unpackCell_f12 : Cond.fieldLink RX3 12 "VersionDesk" "hand" "LVersionDesk$Row;" ∈ wsX3_unpackCell := by decide +kernel
set_option maxHeartbeats 4000000 in
set_option maxRecDepth 100000 in
/-- unpackCell -/
theorem c_X3_unpackCell (l : Launch) (G : x_G) (ad : Nat → Nat) (R : Nat → Nat → Int32) (N : Nat → Int64) (tl : Nat → Bool) (T : Nat → Nat → Int32) (pl : Nat → Bool) (P : Nat → Nat → Int32) (X : Nat → Option va_E) (y0 : Int32) (pg c1 a : Nat) (hp : pg < 60) (hl_p : pl pg = true) (hR : h_ok R) (ha : a < 2 ^ 20) : Met l yX3_unpackCell wsX3_unpackCell ({ frames := 4, cells := 0, slots := 0, locals := 88 } : Room) (x_Pc G ad (x_con G ad R N tl T pl P X) [.ref (ad 0), .int y0, .int (nI c1), .ref (ad (16 + pg)), .int (nI a)]) (x_Qw G ad (x_con G ad (u_cR (P pg) y0 c1 a R) (u_cN (P pg) y0 c1 a N) tl T pl P X) (some (.int (nI (u_cA (P pg) y0 a))))) 0 0 (x_A G) := by
  refine x_met (cc := cX3_unpackCell) (maxL := 5) (ret := (some .int)) (by decide) rfl _ (Nat.le_of_ble_eq_true rfl) ?_
  intro p e s m args below meth c C0 hini hK hS ls hl
  have hl : lv_has ls 5 [(0, .ref (ad 0)), (1, .int y0), (2, .int (nI c1)), (3, .ref (ad (16 + pg))), (4, .int (nI a))] := hl
  obtain ⟨hx, hb, hr, hml, hown, hts, hlk⟩ := id C0
  refine lv_iload_n hx hb dX3_unpackCell_0 rfl (lv_at hl 1 rfl) ?_
  by_cases s1_1 : y0 = 1
  · refine lv_lookup (off := 27) (tgt := 28) hx hb dX3_unpackCell_1 (by decide) (by rw [s1_1] <;> rfl) (by decide) ?_
    refine lv_aload_n hx hb dX3_unpackCell_28 rfl (lv_at hl 0 rfl) ?_
    refine x_dget (j := 0) C0 hK hS (by decide) kX3_unpackCell_wX3 kX3_unpackCell_f12 dX3_unpackCell_29 ?_
    refine lv_iload_n hx hb dX3_unpackCell_32 rfl (lv_at hl 2 rfl) ?_
    refine lv_aload_n hx hb dX3_unpackCell_33 rfl (lv_at hl 3 rfl) ?_
    refine lv_iload hx hb dX3_unpackCell_34 (lv_at hl 4 rfl) ?_
    refine lv_bipush (v := 8) hx hb dX3_unpackCell_36 (by decide) ?_
    refine x_callr (x_rV C0 hl.1 hK hS (c_X0_read l G ad R N tl T pl P X pg a 8 hp hl_p (by omega)) (x_con_p hp hl_p) rfl gX3_unpackCell_X0_read 2 rfl rfl rfl (by decide +kernel) ⟨Nat.le_of_ble_eq_true rfl, Nat.le_of_ble_eq_true rfl⟩ rfl rfl (Nat.le_of_ble_eq_true rfl) dX3_unpackCell_38 ⟨Nat.le_of_ble_eq_true rfl, Nat.le_of_ble_eq_true rfl⟩) ?_
    show W _ _ _ _ _ _ _ _ _ _ _ _ _ _ _ (F0 m 41 ls [.long (pg_rd (P pg) a 8), .int (nI c1), .ref (ad 1)])
    refine x_callw hS (x_rV C0 hl.1 hK hS (c_X1_setNumber l G ad R N tl T pl P X (nI c1) (pg_rd (P pg) a 8)) (x_con_0 (k := 1) (by omega)) rfl gX3_unpackCell_X1_setNumber 2 rfl rfl rfl (by decide +kernel) ⟨Nat.le_of_ble_eq_true rfl, Nat.le_of_ble_eq_true rfl⟩ rfl rfl (Nat.le_of_ble_eq_true rfl) dX3_unpackCell_41 ⟨Nat.le_of_ble_eq_true rfl, Nat.le_of_ble_eq_true rfl⟩) (fun H locs hS => ?_)
    show W _ _ _ _ _ _ _ _ _ _ _ _ _ _ _ (F0 m 44 ls [])
    refine lv_iload hx hb dX3_unpackCell_44 (lv_at hl 4 rfl) ?_
    refine lv_bipush (v := 8) hx hb dX3_unpackCell_46 (by decide) ?_
    refine lv_iadd hx hb dX3_unpackCell_48 ?_
    exact x_wreti C0 hS (by unfold u_cR u_cN; rw [if_pos s1_1, if_pos s1_1]) (by unfold u_cA; rw [if_pos s1_1]; exact nI_add a 8) dX3_unpackCell_49
  by_cases s1_2 : y0 = 2
  · refine lv_lookup (off := 49) (tgt := 50) hx hb dX3_unpackCell_1 (by decide) (by rw [s1_2] <;> rfl) (by decide) ?_
    refine lv_aload_n hx hb dX3_unpackCell_50 rfl (lv_at hl 0 rfl) ?_
    refine lv_iload_n hx hb dX3_unpackCell_51 rfl (lv_at hl 2 rfl) ?_
    refine lv_aload_n hx hb dX3_unpackCell_52 rfl (lv_at hl 3 rfl) ?_
    refine lv_iload hx hb dX3_unpackCell_53 (lv_at hl 4 rfl) ?_
    refine x_callw hS (x_rV C0 hl.1 hK hS (c_X3_unpackText l G ad R N tl T pl P X pg c1 a hp hl_p hR ha) (x_con_0 (k := 0) (by omega)) rfl gX3_unpackCell_X3_unpackText 3 rfl rfl rfl (by decide +kernel) ⟨Nat.le_of_ble_eq_true rfl, Nat.le_of_ble_eq_true rfl⟩ rfl rfl (Nat.le_of_ble_eq_true rfl) dX3_unpackCell_55 ⟨Nat.le_of_ble_eq_true rfl, Nat.le_of_ble_eq_true rfl⟩) (fun H locs hS => ?_)
    show W _ _ _ _ _ _ _ _ _ _ _ _ _ _ _ (F0 m 58 ls [.int (nI (a + 1 + rd_N (P pg) a 1))])
    exact x_wreti C0 hS (by unfold u_cR u_cN; rw [if_neg s1_1, if_pos s1_2, if_neg s1_1, if_pos s1_2]) (by unfold u_cA; rw [if_neg s1_1, if_pos s1_2]) dX3_unpackCell_58
  · refine lv_lookup (off := 58) (tgt := 59) hx hb dX3_unpackCell_1 (by decide) (by rw [lv_osw s1_1 (by decide), lv_osw s1_2 (by decide)] <;> rfl) (by decide) ?_
    refine lv_aload_n hx hb dX3_unpackCell_59 rfl (lv_at hl 0 rfl) ?_
    refine x_dget (j := 0) C0 hK hS (by decide) kX3_unpackCell_wX3 kX3_unpackCell_f12 dX3_unpackCell_60 ?_
    refine lv_iload_n hx hb dX3_unpackCell_63 rfl (lv_at hl 2 rfl) ?_
    refine lv_aload_n hx hb dX3_unpackCell_64 rfl (lv_at hl 3 rfl) ?_
    refine lv_iload hx hb dX3_unpackCell_65 (lv_at hl 4 rfl) ?_
    refine lv_iconst (v := 1) hx hb dX3_unpackCell_67 (by decide) ?_
    refine x_callr (x_rV C0 hl.1 hK hS (c_X0_read l G ad R N tl T pl P X pg a 1 hp hl_p (by omega)) (x_con_p hp hl_p) rfl gX3_unpackCell_X0_read 2 rfl rfl rfl (by decide +kernel) ⟨Nat.le_of_ble_eq_true rfl, Nat.le_of_ble_eq_true rfl⟩ rfl rfl (Nat.le_of_ble_eq_true rfl) dX3_unpackCell_68 ⟨Nat.le_of_ble_eq_true rfl, Nat.le_of_ble_eq_true rfl⟩) ?_
    show W _ _ _ _ _ _ _ _ _ _ _ _ _ _ _ (F0 m 71 ls [.long (pg_rd (P pg) a 1), .int (nI c1), .ref (ad 1)])
    refine x_callw hS (x_rV C0 hl.1 hK hS (c_X1_setNumber l G ad R N tl T pl P X (nI c1) (pg_rd (P pg) a 1)) (x_con_0 (k := 1) (by omega)) rfl gX3_unpackCell_X1_setNumber 2 rfl rfl rfl (by decide +kernel) ⟨Nat.le_of_ble_eq_true rfl, Nat.le_of_ble_eq_true rfl⟩ rfl rfl (Nat.le_of_ble_eq_true rfl) dX3_unpackCell_71 ⟨Nat.le_of_ble_eq_true rfl, Nat.le_of_ble_eq_true rfl⟩) (fun H locs hS => ?_)
    show W _ _ _ _ _ _ _ _ _ _ _ _ _ _ _ (F0 m 74 ls [])
    refine lv_iload hx hb dX3_unpackCell_74 (lv_at hl 4 rfl) ?_
    refine lv_iconst (v := 1) hx hb dX3_unpackCell_76 (by decide) ?_
    refine lv_iadd hx hb dX3_unpackCell_77 ?_
    exact x_wreti C0 hS (by unfold u_cR u_cN; rw [if_neg s1_1, if_neg s1_2, if_neg s1_1, if_neg s1_2]) (by unfold u_cA; rw [if_neg s1_1, if_neg s1_2]; exact nI_add a 1) dX3_unpackCell_78
theorem kX3_unpackToHand_wX2 : ∀ w ∈ u_ws RX2 TX2 3, w ∈ wsX3_unpackToHand := by decide +kernel
theorem kX3_unpackToHand_f196 : Cond.fieldLink RX3 196 "VersionDesk$Table" "columns" "I" ∈ wsX3_unpackToHand := by decide +kernel
set_option maxHeartbeats 4000000 in
set_option maxRecDepth 100000 in
theorem l_X3_unpackToHand {p : Program} {l : Launch} {e : Env} {s : State} {m : MethodId} {args : Array Value} {below : List Frame} {meth : Method} {c : Code} {G : x_G} {ad : Nat → Nat} {tl : Nat → Bool} {T : Nat → Nat → Int32} {pl : Nat → Bool} {P : Nat → Nat → Int32} {X : Nat → Option va_E} (C0 : x_B p s m meth c args cX3_unpackToHand 7 none RX3 wsX3_unpackToHand) (hK : x_K G s) {t m1 pg a : Nat} {F : Nat → Nat → Int32} {F2 : Nat → Int64} {f : Int32} (hi : t < 8) (hl_t : tl t = true) (hm : m1 ≤ 8) (hcol : T t 1 = nI m1) (hp : pg < 60) (hl_p : pl pg = true) (ha : a < 2 ^ 19) : ∀ (d : Nat) (c1 b : Nat) (R : Nat → Nat → Int32) (N : Nat → Int64) (H : Heap) (locs : List Loc), m1 - c1 < d → c1 ≤ m1 → b ≤ a + 16 + 257 * c1 → h_ok R → F = u_hR (P pg) f (T t 2) (m1 - c1) c1 b R → F2 = u_hN (P pg) f (T t 2) (m1 - c1) c1 b N → x_H G ad (x_con G ad R N tl T pl P X) H locs → ∀ (ls : Array Slot), lv_has ls 7 [(0, .ref (ad 0)), (1, .ref (ad (8 + t))), (2, .ref (ad (16 + pg))), (3, .int (nI a)), (4, .int (nI b)), (5, .int f), (6, .int (nI c1))] → W p l e ({ frames := 5, cells := 0, slots := 0, locals := 112 } : Room) s m args below meth c H locs 0 0 (MQ below (x_Qw G ad (x_con G ad F F2 tl T pl P X) none) args s 0 0 (x_A G)) (F0 m 21 ls []) := by
  obtain ⟨hx, hb, hr, hml, hown, hts, hlk⟩ := id C0
  intro d
  induction d with
  | zero =>
    intro c1 b R N H locs hd hc hb2 hR hF hG hS ls hl
    exact absurd hd (by omega)
  | succ d ih =>
    intro c1 b R N H locs hd hc hb2 hR hF hG hS ls hl
    refine lv_iload hx hb dX3_unpackToHand_21 (lv_at hl 6 rfl) ?_
    refine lv_aload_n hx hb dX3_unpackToHand_23 rfl (lv_at hl 1 rfl) ?_
    refine x_tget (j := 1) C0 hK hS hi hl_t (by decide) kX3_unpackToHand_wX2 kX3_unpackToHand_f196 dX3_unpackToHand_24 ?_
    refine lv_icmp_ge (tgt := 64) hx hb dX3_unpackToHand_27 (by decide) (fun c27 => ?_) (fun c27 => ?_)
    · have hc2 := nz_le c27 hcol rfl (by omega) (by omega)
      exact x_wretv C0 hS (by rw [hF, hG, show m1 - c1 = 0 by omega]; rfl) dX3_unpackToHand_64
    · have hc2 := nz_nle c27 hcol rfl (by omega) (by omega)
      refine lv_iload hx hb dX3_unpackToHand_30 (lv_at hl 5 rfl) ?_
      refine lv_iload hx hb dX3_unpackToHand_32 (lv_at hl 6 rfl) ?_
      refine lv_ishr hx hb dX3_unpackToHand_34 ?_
      refine lv_iconst (v := 1) hx hb dX3_unpackToHand_35 (by decide) ?_
      refine lv_iand hx hb dX3_unpackToHand_36 ?_
      refine lv_iconst (v := 1) hx hb dX3_unpackToHand_37 (by decide) ?_
      refine lv_icmp_ne (tgt := 58) hx hb dX3_unpackToHand_38 (by decide) (fun c38 => ?_) (fun c38 => ?_)
      · refine lv_iinc (v := nI (c1 + 1)) (lv' := [(6, .int (nI (c1 + 1))), (0, .ref (ad 0)), (1, .ref (ad (8 + t))), (2, .ref (ad (16 + pg))), (3, .int (nI a)), (4, .int (nI b)), (5, .int f)]) hx hb dX3_unpackToHand_58 hl (k := 6) rfl (nI_1 c1) (by decide) rfl (fun ls hl => ?_)
        refine lv_goto (tgt := 21) hx hb dX3_unpackToHand_61 (by decide) ?_
        exact ih (c1 + 1) b R N _ _ (by omega) (by omega) (by omega) hR (by rw [hF, show m1 - c1 = (m1 - (c1 + 1)) + 1 by omega]; simp only [u_hR]; rw [u_bit, decide_eq_false c38]; rfl) (by rw [hG, show m1 - c1 = (m1 - (c1 + 1)) + 1 by omega]; simp only [u_hN]; rw [u_bit, decide_eq_false c38]; rfl) hS ls (lv_sub hl [1, 2, 3, 4, 5, 6, 0] rfl)
      · refine lv_aload_n hx hb dX3_unpackToHand_41 rfl (lv_at hl 0 rfl) ?_
        refine lv_aload_n hx hb dX3_unpackToHand_42 rfl (lv_at hl 1 rfl) ?_
        refine lv_iload hx hb dX3_unpackToHand_43 (lv_at hl 6 rfl) ?_
        refine x_callr (x_rV C0 hl.1 hK hS (c_X2_typeAt l G ad R N tl T pl P X t c1 hi hl_t (by omega)) (x_con_t hi hl_t) rfl gX3_unpackToHand_X2_typeAt 1 rfl rfl rfl (by decide +kernel) ⟨Nat.le_of_ble_eq_true rfl, Nat.le_of_ble_eq_true rfl⟩ rfl rfl (Nat.le_of_ble_eq_true rfl) dX3_unpackToHand_45 ⟨Nat.le_of_ble_eq_true rfl, Nat.le_of_ble_eq_true rfl⟩) ?_
        show W _ _ _ _ _ _ _ _ _ _ _ _ _ _ _ (F0 m 48 ls [.int (dg (T t 2) c1), .ref (ad 0)])
        refine lv_iload hx hb dX3_unpackToHand_48 (lv_at hl 6 rfl) ?_
        refine lv_aload_n hx hb dX3_unpackToHand_50 rfl (lv_at hl 2 rfl) ?_
        refine lv_iload hx hb dX3_unpackToHand_51 (lv_at hl 4 rfl) ?_
        refine x_callw hS (x_rV C0 hl.1 hK hS (c_X3_unpackCell l G ad R N tl T pl P X (dg (T t 2) c1) pg c1 b hp hl_p hR (by omega)) (x_con_0 (k := 0) (by omega)) rfl gX3_unpackToHand_X3_unpackCell 4 rfl rfl rfl (by decide +kernel) ⟨Nat.le_of_ble_eq_true rfl, Nat.le_of_ble_eq_true rfl⟩ rfl rfl (Nat.le_of_ble_eq_true rfl) dX3_unpackToHand_53 ⟨Nat.le_of_ble_eq_true rfl, Nat.le_of_ble_eq_true rfl⟩) (fun H locs hS => ?_)
        show W _ _ _ _ _ _ _ _ _ _ _ _ _ _ _ (F0 m 56 ls [.int (nI (u_cA (P pg) (dg (T t 2) c1) b))])
        refine lv_istore (lv' := [(4, .int (nI (u_cA (P pg) (dg (T t 2) c1) b))), (0, .ref (ad 0)), (1, .ref (ad (8 + t))), (2, .ref (ad (16 + pg))), (3, .int (nI a)), (5, .int f), (6, .int (nI c1))]) hx hb dX3_unpackToHand_56 hl (by decide) rfl (fun ls hl => ?_)
        refine lv_iinc (v := nI (c1 + 1)) (lv' := [(6, .int (nI (c1 + 1))), (4, .int (nI (u_cA (P pg) (dg (T t 2) c1) b))), (0, .ref (ad 0)), (1, .ref (ad (8 + t))), (2, .ref (ad (16 + pg))), (3, .int (nI a)), (5, .int f)]) hx hb dX3_unpackToHand_58 hl (k := 6) rfl (nI_1 c1) (by decide) rfl (fun ls hl => ?_)
        refine lv_goto (tgt := 21) hx hb dX3_unpackToHand_61 (by decide) ?_
        have hle := u_cA_le (P pg) (dg (T t 2) c1) b
        exact ih (c1 + 1) _ _ _ _ _ (by omega) (by omega) (by omega) (u_cR_ok hR) (by rw [hF, show m1 - c1 = (m1 - (c1 + 1)) + 1 by omega]; simp only [u_hR]; rw [u_bit, decide_eq_true c38]; rfl) (by rw [hG, show m1 - c1 = (m1 - (c1 + 1)) + 1 by omega]; simp only [u_hN]; rw [u_bit, decide_eq_true c38]; rfl) hS ls (lv_sub hl [2, 3, 4, 5, 1, 6, 0] rfl)
set_option maxHeartbeats 4000000 in
set_option maxRecDepth 100000 in
/-- unpackToHand -/
theorem c_X3_unpackToHand (l : Launch) (G : x_G) (ad : Nat → Nat) (R : Nat → Nat → Int32) (N : Nat → Int64) (tl : Nat → Bool) (T : Nat → Nat → Int32) (pl : Nat → Bool) (P : Nat → Nat → Int32) (X : Nat → Option va_E) (t m1 pg a : Nat) (hi : t < 8) (hl_t : tl t = true) (hm : m1 ≤ 8) (hcol : T t 1 = nI m1) (hp : pg < 60) (hl_p : pl pg = true) (hR : h_ok R) (ha : a < 2 ^ 19) : Met l yX3_unpackToHand wsX3_unpackToHand ({ frames := 5, cells := 0, slots := 0, locals := 112 } : Room) (x_Pc G ad (x_con G ad R N tl T pl P X) [.ref (ad 0), .ref (ad (8 + t)), .ref (ad (16 + pg)), .int (nI a)]) (x_Qw G ad (x_con G ad (u_R (P pg) (T t 2) m1 a R) (u_N (P pg) (T t 2) m1 a N) tl T pl P X) none) 0 0 (x_A G) := by
  refine x_met (cc := cX3_unpackToHand) (maxL := 7) (ret := none) (by decide) rfl _ (Nat.le_of_ble_eq_true rfl) ?_
  intro p e s m args below meth c C0 hini hK hS ls hl
  have hl : lv_has ls 7 [(0, .ref (ad 0)), (1, .ref (ad (8 + t))), (2, .ref (ad (16 + pg))), (3, .int (nI a))] := hl
  obtain ⟨hx, hb, hr, hml, hown, hts, hlk⟩ := id C0
  refine lv_iload_n hx hb dX3_unpackToHand_0 rfl (lv_at hl 3 rfl) ?_
  refine lv_bipush (v := 16) hx hb dX3_unpackToHand_1 (by decide) ?_
  refine lv_iadd hx hb dX3_unpackToHand_3 ?_
  rw [show nI a + 16 = nI (a + 16) from nI_add a 16]
  refine lv_istore (lv' := [(4, .int (nI (a + 16))), (0, .ref (ad 0)), (1, .ref (ad (8 + t))), (2, .ref (ad (16 + pg))), (3, .int (nI a))]) hx hb dX3_unpackToHand_4 hl (by decide) rfl (fun ls hl => ?_)
  refine lv_aload_n hx hb dX3_unpackToHand_6 rfl (lv_at hl 3 rfl) ?_
  refine lv_iload_n hx hb dX3_unpackToHand_7 rfl (lv_at hl 4 rfl) ?_
  refine lv_bipush (v := 14) hx hb dX3_unpackToHand_8 (by decide) ?_
  refine lv_iadd hx hb dX3_unpackToHand_10 ?_
  refine lv_iconst (v := 1) hx hb dX3_unpackToHand_11 (by decide) ?_
  rw [show nI a + 14 = nI (a + 14) from nI_add a 14]
  refine x_callr (x_rV C0 hl.1 hK hS (c_X0_read l G ad R N tl T pl P X pg (a + 14) 1 hp hl_p (by omega)) (x_con_p hp hl_p) rfl gX3_unpackToHand_X0_read 2 rfl rfl rfl (by decide +kernel) ⟨Nat.le_of_ble_eq_true rfl, Nat.le_of_ble_eq_true rfl⟩ rfl rfl (Nat.le_of_ble_eq_true rfl) dX3_unpackToHand_12 ⟨Nat.le_of_ble_eq_true rfl, Nat.le_of_ble_eq_true rfl⟩) ?_
  show W _ _ _ _ _ _ _ _ _ _ _ _ _ _ _ (F0 m 15 ls [.long (pg_rd (P pg) (a + 14) 1)])
  refine lv_l2i hx hb dX3_unpackToHand_15 rfl ?_
  refine lv_topi (fun x1 ex1 => ?_)
  refine lv_istore (lv' := [(5, .int x1), (4, .int (nI (a + 16))), (0, .ref (ad 0)), (1, .ref (ad (8 + t))), (2, .ref (ad (16 + pg))), (3, .int (nI a))]) hx hb dX3_unpackToHand_16 hl (by decide) rfl (fun ls hl => ?_)
  refine lv_iconst (v := 0) hx hb dX3_unpackToHand_18 (by decide) ?_
  refine lv_istore (lv' := [(6, .int 0), (5, .int x1), (4, .int (nI (a + 16))), (0, .ref (ad 0)), (1, .ref (ad (8 + t))), (2, .ref (ad (16 + pg))), (3, .int (nI a))]) hx hb dX3_unpackToHand_19 hl (by decide) rfl (fun ls hl => ?_)
  exact l_X3_unpackToHand (f := x1) C0 hK hi hl_t hm hcol hp hl_p ha 9 0 _ _ _ _ _ (by omega) (by omega) (by omega) hR (by rw [ex1]; rfl) (by rw [ex1]; rfl) hS ls (lv_sub hl [3, 4, 5, 6, 2, 1, 0] rfl)
