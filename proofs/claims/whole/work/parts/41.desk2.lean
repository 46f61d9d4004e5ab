-- ===== text =====
theorem h_al_ok {R : Nat → Nat → Int32} {c x : Int32} (h : h_ok R) : h_ok (h_al R c x) := by
  unfold h_al
  split
  · rename_i hc
    obtain ⟨j, h1, h2, -⟩ := h_kd_in hc.1 (by decide)
    intro i hi
    obtain ⟨n, h3, h4⟩ := h i hi
    rw [va_up_self]
    by_cases hij : i = c.toNatClampNeg
    · rw [hij, pk_us]
      rw [hij] at h4
      refine ⟨n + 1, ?_, by rw [h4]; exact nI_1 n⟩
      have := hc.2
      rw [h4] at this
      have := nz_lt (b := 31) this rfl rfl (by omega) (by omega)
      omega
    · rw [pk_un hij]
      exact ⟨n, h3, h4⟩
  · exact h
theorem h_mt_ok {R : Nat → Nat → Int32} {c : Int32} (h : h_ok R) : h_ok (h_mt R c) := by
  unfold h_mt
  split
  · intro i hi
    rw [va_up_self]
    by_cases hij : i = c.toNatClampNeg
    · rw [hij, pk_us]
      exact ⟨0, by omega, rfl⟩
    · rw [pk_un hij]
      exact h i hi
  · exact h
def d_vb (v : Int64) (i : Nat) : Int32 := (v.toUInt64 >>> ((nI (8 * i)).toInt64.toUInt64 &&& Int64.toUInt64 63)).toInt64.toInt32
def d_tl (c : Int32) (v : Int64) : Nat → (Nat → Nat → Int32) → (Nat → Nat → Int32)
  | 0, R => R
  | i + 1, R => d_tl c v i (h_al R c (d_vb v i))
def d_tx (R : Nat → Nat → Int32) (c n : Int32) : Bool := d_in c (nI 8) && (decide (0 ≤ n) && (decide (n ≤ 8) && decide (h_ln R c + n ≤ 31)))
def d_txR (R : Nat → Nat → Int32) (c : Int32) (v : Int64) (n : Int32) : Nat → Nat → Int32 := if d_tx R c n then d_tl c v n.toNatClampNeg (h_mt R c) else R
theorem kX3_text_wX3 : ∀ w ∈ u_ws RX3 TX3 3, w ∈ wsX3_text := by decide +kernel
theorem kX3_text_f12 : Cond.fieldLink RX3 12 "VersionDesk" "hand" "LVersionDesk$Row;" ∈ wsX3_text := by decide +kernel
set_option maxHeartbeats 4000000 in
set_option maxRecDepth 100000 in
theorem l_X3_text {p : Program} {l : Launch} {e : Env} {s : State} {m : MethodId} {args : Array Value} {below : List Frame} {meth : Method} {c : Code} {G : x_G} {ad : Nat → Nat} {N : Nat → Int64} {tl : Nat → Bool} {T : Nat → Nat → Int32} {pl : Nat → Bool} {P : Nat → Nat → Int32} {X : Nat → Option va_E} (C0 : x_B p s m meth c args cX3_text 6 (some .boolean) RX3 wsX3_text) (hK : x_K G s) {c0 : Int32} {v : Int64} {F : Nat → Nat → Int32} : ∀ (d : Nat) (j : Nat) (v5 : Int32) (R : Nat → Nat → Int32) (H : Heap) (locs : List Loc), j < d ∧ j < 9 → v5 = nI j - 1 → h_ok R → d_tl c0 v j R = F → x_H G ad (x_con G ad R N tl T pl P X) H locs → ∀ (ls : Array Slot), lv_has ls 6 [(0, .ref (ad 0)), (1, .int c0), (2, .long v), (5, .int v5)] → W p l e ({ frames := 3, cells := 0, slots := 0, locals := 63 } : Room) s m args below meth c H locs 0 0 (MQ below (x_Qw G ad (x_con G ad F N tl T pl P X) (some (.int 1))) args s 0 0 (x_A G)) (F0 m 51 ls []) := by
  obtain ⟨hx, hb, hr, hml, hown, hts, hlk⟩ := id C0
  intro d
  induction d with
  | zero =>
    intro j v5 R H locs hd e5 hR hF hS ls hl
    exact absurd hd (by omega)
  | succ d ih =>
    intro j v5 R H locs hd e5 hR hF hS ls hl
    refine lv_iload hx hb dX3_text_51 (lv_at hl 3 rfl) ?_
    refine lv_if_lt (tgt := 78) hx hb dX3_text_53 (by decide) (fun c53 => ?_) (fun c53 => ?_)
    · have hj : j = 0 := by
        cases j with
        | zero => rfl
        | succ j => rw [e5, nI_pred] at c53; exact absurd c53 (nI_pos (by omega))
      refine lv_iconst (v := 1) hx hb dX3_text_78 (by decide) ?_
      exact x_wretz C0 hS (by rw [← hF, hj]; rfl) rfl rfl dX3_text_79
    · obtain ⟨j, rfl⟩ : ∃ i, j = i + 1 := by
        cases j with
        | zero => exact absurd (by rw [e5]; decide) c53
        | succ j => exact ⟨j, rfl⟩
      have e5' : v5 = nI j := by rw [e5]; exact nI_pred j
      refine lv_aload_n hx hb dX3_text_56 rfl (lv_at hl 0 rfl) ?_
      refine x_dget (j := 0) C0 hK hS (by decide) kX3_text_wX3 kX3_text_f12 dX3_text_57 ?_
      refine lv_iload_n hx hb dX3_text_60 rfl (lv_at hl 1 rfl) ?_
      refine lv_lload_n hx hb dX3_text_61 rfl (lv_at hl 2 rfl) ?_
      refine lv_bipush (v := 8) hx hb dX3_text_62 (by decide) ?_
      refine lv_iload hx hb dX3_text_64 (lv_at hl 3 rfl) ?_
      refine lv_imul hx hb dX3_text_66 ?_
      refine lv_lushr hx hb dX3_text_67 rfl ?_
      refine lv_l2i hx hb dX3_text_68 rfl ?_
      rw [e5', show (8 : Int32) * nI j = nI (8 * j) from pk_mul 8 j]
      refine x_callw hS (x_rV C0 hl.1 hK hS (c_X1_addLetter l G ad R N tl T pl P X c0 (d_vb v j) hR) (x_con_0 (k := 1) (by omega)) rfl gX3_text_X1_addLetter 2 rfl rfl rfl (by decide +kernel) ⟨Nat.le_of_ble_eq_true rfl, Nat.le_of_ble_eq_true rfl⟩ rfl rfl (Nat.le_of_ble_eq_true rfl) dX3_text_69 ⟨Nat.le_of_ble_eq_true rfl, Nat.le_of_ble_eq_true rfl⟩) (fun H locs hS => ?_)
      show W _ _ _ _ _ _ _ _ _ _ _ _ _ _ _ (F0 m 72 ls [])
      obtain ⟨x1, ex1⟩ : ∃ z : Int32, z = v5 + (-1) := ⟨_, rfl⟩
      refine lv_iinc (v := x1) (lv' := [(5, .int x1), (0, .ref (ad 0)), (1, .int c0), (2, .long v)]) hx hb dX3_text_72 hl (k := 3) rfl (by rw [ex1]; rfl) (by decide) rfl (fun ls hl => ?_)
      refine lv_goto (tgt := 51) hx hb dX3_text_75 (by decide) ?_
      exact ih j _ _ _ _ (by omega) (by rw [ex1, e5', show ∀ x : Int32, x + (-1) = x - 1 from fun x => (Int32.sub_eq_add_neg x 1).symm]) (h_al_ok hR) hF hS ls (lv_sub hl [1, 2, 3, 0] rfl)
set_option maxHeartbeats 4000000 in
set_option maxRecDepth 100000 in
/-- text -/
theorem c_X3_text (l : Launch) (G : x_G) (ad : Nat → Nat) (R : Nat → Nat → Int32) (N : Nat → Int64) (tl : Nat → Bool) (T : Nat → Nat → Int32) (pl : Nat → Bool) (P : Nat → Nat → Int32) (X : Nat → Option va_E) (c0 n0 : Int32) (v : Int64) (hR : h_ok R) : Met l yX3_text wsX3_text ({ frames := 3, cells := 0, slots := 0, locals := 63 } : Room) (x_Pc G ad (x_con G ad R N tl T pl P X) [.ref (ad 0), .int c0, .long v, .int n0]) (x_Qw G ad (x_con G ad (d_txR R c0 v n0) N tl T pl P X) (some (.int (zb (d_tx R c0 n0))))) 0 0 (x_A G) := by
  refine x_met (cc := cX3_text) (maxL := 6) (ret := (some .boolean)) (by decide) rfl _ (Nat.le_of_ble_eq_true rfl) ?_
  intro p e s m args below meth c C0 hini hK hS ls hl
  have hl : lv_has ls 6 [(0, .ref (ad 0)), (1, .int c0), (2, .long v), (4, .int n0)] := hl
  obtain ⟨hx, hb, hr, hml, hown, hts, hlk⟩ := id C0
  refine lv_iload_n hx hb dX3_text_0 rfl (lv_at hl 1 rfl) ?_
  refine x_callr (x_rS C0 hl.1 hK hS (c_X3_isColumn l G ad R N tl T pl P X c0) gX3_text_X3_isColumn 1 rfl rfl rfl (by decide +kernel) ⟨Nat.le_of_ble_eq_true rfl, Nat.le_of_ble_eq_true rfl⟩ rfl rfl (Nat.le_of_ble_eq_true rfl) dX3_text_1 ⟨Nat.le_of_ble_eq_true rfl, Nat.le_of_ble_eq_true rfl⟩) ?_
  show W _ _ _ _ _ _ _ _ _ _ _ _ _ _ _ (F0 m 4 ls [.int (zb (d_in c0 (nI 8)))])
  refine lv_if_eq (tgt := 35) hx hb dX3_text_4 (by decide) (fun c4 => ?_) (fun c4 => ?_)
  · refine lv_iconst (v := 0) hx hb dX3_text_35 (by decide) ?_
    have hd : d_tx R c0 n0 = false := by simp only [d_tx]; rw [zb_eq c4]; simp
    exact x_wretz C0 hS (by unfold d_txR; rw [hd]; rfl) (by rw [hd]; rfl) rfl dX3_text_36
  · refine lv_iload hx hb dX3_text_7 (lv_at hl 3 rfl) ?_
    refine lv_if_lt (tgt := 35) hx hb dX3_text_9 (by decide) (fun c9 => ?_) (fun c9 => ?_)
    · refine lv_iconst (v := 0) hx hb dX3_text_35 (by decide) ?_
      have hd : d_tx R c0 n0 = false := by simp only [d_tx]; rw [decide_eq_false (Int32.not_le.mpr c9)]; simp
      exact x_wretz C0 hS (by unfold d_txR; rw [hd]; rfl) (by rw [hd]; rfl) rfl dX3_text_36
    · refine lv_iload hx hb dX3_text_12 (lv_at hl 3 rfl) ?_
      refine lv_bipush (v := 8) hx hb dX3_text_14 (by decide) ?_
      refine lv_icmp_gt (tgt := 35) hx hb dX3_text_16 (by decide) (fun c16 => ?_) (fun c16 => ?_)
      · refine lv_iconst (v := 0) hx hb dX3_text_35 (by decide) ?_
        have hd : d_tx R c0 n0 = false := by simp only [d_tx]; rw [decide_eq_false (Int32.not_le.mpr c16)]; simp
        exact x_wretz C0 hS (by unfold d_txR; rw [hd]; rfl) (by rw [hd]; rfl) rfl dX3_text_36
      · refine lv_aload_n hx hb dX3_text_19 rfl (lv_at hl 0 rfl) ?_
        refine x_dget (j := 0) C0 hK hS (by decide) kX3_text_wX3 kX3_text_f12 dX3_text_20 ?_
        refine lv_iload_n hx hb dX3_text_23 rfl (lv_at hl 1 rfl) ?_
        refine x_callr (x_rV C0 hl.1 hK hS (c_X1_lengthAt l G ad R N tl T pl P X c0) (x_con_0 (k := 1) (by omega)) rfl gX3_text_X1_lengthAt 1 rfl rfl rfl (by decide +kernel) ⟨Nat.le_of_ble_eq_true rfl, Nat.le_of_ble_eq_true rfl⟩ rfl rfl (Nat.le_of_ble_eq_true rfl) dX3_text_24 ⟨Nat.le_of_ble_eq_true rfl, Nat.le_of_ble_eq_true rfl⟩) ?_
        show W _ _ _ _ _ _ _ _ _ _ _ _ _ _ _ (F0 m 27 ls [.int (h_ln R c0)])
        refine lv_iload hx hb dX3_text_27 (lv_at hl 3 rfl) ?_
        refine lv_iadd hx hb dX3_text_29 ?_
        refine lv_bipush (v := 31) hx hb dX3_text_30 (by decide) ?_
        refine lv_icmp_le (tgt := 37) hx hb dX3_text_32 (by decide) (fun c32 => ?_) (fun c32 => ?_)
        · obtain ⟨n, hn, rfl⟩ : ∃ n, n ≤ 8 ∧ n0 = nI n := by obtain ⟨j, h1, h2⟩ := nI_of c9; exact ⟨j, nz_nlt (a := 8) c16 rfl h2 (by omega) h1, h2⟩
          have hd : d_tx R c0 (nI n) = true := by simp only [d_tx]; rw [zb_ne c4, decide_eq_true (Int32.not_lt.mp c9), decide_eq_true (Int32.not_lt.mp c16), decide_eq_true c32]; rfl
          rw [hd]
          refine lv_aload_n hx hb dX3_text_37 rfl (lv_at hl 0 rfl) ?_
          refine x_dget (j := 0) C0 hK hS (by decide) kX3_text_wX3 kX3_text_f12 dX3_text_38 ?_
          refine lv_iload_n hx hb dX3_text_41 rfl (lv_at hl 1 rfl) ?_
          refine x_callw hS (x_rV C0 hl.1 hK hS (c_X1_makeText l G ad R N tl T pl P X c0) (x_con_0 (k := 1) (by omega)) rfl gX3_text_X1_makeText 1 rfl rfl rfl (by decide +kernel) ⟨Nat.le_of_ble_eq_true rfl, Nat.le_of_ble_eq_true rfl⟩ rfl rfl (Nat.le_of_ble_eq_true rfl) dX3_text_42 ⟨Nat.le_of_ble_eq_true rfl, Nat.le_of_ble_eq_true rfl⟩) (fun H locs hS => ?_)
          show W _ _ _ _ _ _ _ _ _ _ _ _ _ _ _ (F0 m 45 ls [])
          refine lv_iload hx hb dX3_text_45 (lv_at hl 3 rfl) ?_
          refine lv_iconst (v := 1) hx hb dX3_text_47 (by decide) ?_
          refine lv_isub hx hb dX3_text_48 ?_
          refine lv_topi (fun x1 ex1 => ?_)
          refine lv_istore (lv' := [(5, .int x1), (0, .ref (ad 0)), (1, .int c0), (2, .long v), (4, .int (nI n))]) hx hb dX3_text_49 hl (by decide) rfl (fun ls hl => ?_)
          exact l_X3_text C0 hK 9 n _ _ _ _ (by omega) ex1 (h_mt_ok hR) (by unfold d_txR; rw [hd, nI_clamp (by omega)]; rfl) hS ls (lv_sub hl [1, 2, 3, 0] rfl)
        · refine lv_iconst (v := 0) hx hb dX3_text_35 (by decide) ?_
          have hd : d_tx R c0 n0 = false := by simp only [d_tx]; rw [decide_eq_false c32]; simp
          exact x_wretz C0 hS (by unfold d_txR; rw [hd]; rfl) (by rw [hd]; rfl) rfl dX3_text_36
set_option maxHeartbeats 4000000 in
set_option maxRecDepth 100000 in
/-- writeBehind -/
theorem c_X3_writeBehind (l : Launch) (G : x_G) (ad : Nat → Nat) (R : Nat → Nat → Int32) (N : Nat → Int64) (tl : Nat → Bool) (T : Nat → Nat → Int32) (pl : Nat → Bool) (P : Nat → Nat → Int32) (X : Nat → Option va_E) (pg : Nat) (o : Int32) (hp : pg < 60) (hl_p : pl pg = true) (a : Nat) (ha : a < 2 ^ 20) : Met l yX3_writeBehind wsX3_writeBehind ({ frames := 1, cells := 0, slots := 0, locals := 26 } : Room) (x_Pc G ad (x_con G ad R N tl T pl P X) [.ref (ad (16 + pg)), .int (nI a), .int o]) (x_Qw G ad (x_con G ad R N tl T pl (va_up P pg (pg_wr (P pg) (a + 12) 2 (o + 1).toInt64 2)) X) none) 0 0 (x_A G) := by
  refine x_met (cc := cX3_writeBehind) (maxL := 3) (ret := none) (by decide) rfl _ (Nat.le_of_ble_eq_true rfl) ?_
  intro p e s m args below meth c C0 hini hK hS ls hl
  have hl : lv_has ls 3 [(0, .ref (ad (16 + pg))), (1, .int (nI a)), (2, .int o)] := hl
  obtain ⟨hx, hb, hr, hml, hown, hts, hlk⟩ := id C0
  refine lv_aload_n hx hb dX3_writeBehind_0 rfl (lv_at hl 0 rfl) ?_
  refine lv_iload_n hx hb dX3_writeBehind_1 rfl (lv_at hl 1 rfl) ?_
  refine lv_bipush (v := 12) hx hb dX3_writeBehind_2 (by decide) ?_
  refine lv_iadd hx hb dX3_writeBehind_4 ?_
  refine lv_iconst (v := 2) hx hb dX3_writeBehind_5 (by decide) ?_
  refine lv_iload_n hx hb dX3_writeBehind_6 rfl (lv_at hl 2 rfl) ?_
  refine lv_iconst (v := 1) hx hb dX3_writeBehind_7 (by decide) ?_
  refine lv_iadd hx hb dX3_writeBehind_8 ?_
  refine lv_i2l hx hb dX3_writeBehind_9 rfl ?_
  rw [show nI a + 12 = nI (a + 12) from nI_add a 12]
  refine x_callw hS (x_rV C0 hl.1 hK hS (c_X0_write l G ad R N tl T pl P X pg (a + 12) 2 (o + 1).toInt64 hp hl_p (by omega)) (x_con_p hp hl_p) rfl gX3_writeBehind_X0_write 3 rfl rfl rfl (by decide +kernel) ⟨Nat.le_of_ble_eq_true rfl, Nat.le_of_ble_eq_true rfl⟩ rfl rfl (Nat.le_of_ble_eq_true rfl) dX3_writeBehind_10 ⟨Nat.le_of_ble_eq_true rfl, Nat.le_of_ble_eq_true rfl⟩) (fun H locs hS => ?_)
  obtain ⟨Z1, eZ1⟩ : ∃ zz, zz = pg_wr (P pg) (a + 12) 2 (o + 1).toInt64 2 := ⟨_, rfl⟩
  rw [← eZ1] at hS
  show W _ _ _ _ _ _ _ _ _ _ _ _ _ _ _ (F0 m 13 ls [])
  exact x_wretv C0 hS (by subst_vars; rfl) dX3_writeBehind_13
set_option maxHeartbeats 4000000 in
set_option maxRecDepth 100000 in
/-- readBehind -/
theorem c_X3_readBehind (l : Launch) (G : x_G) (ad : Nat → Nat) (R : Nat → Nat → Int32) (N : Nat → Int64) (tl : Nat → Bool) (T : Nat → Nat → Int32) (pl : Nat → Bool) (P : Nat → Nat → Int32) (X : Nat → Option va_E) (pg : Nat) (hp : pg < 60) (hl_p : pl pg = true) (a : Nat) (ha : a < 2 ^ 20) : Met l yX3_readBehind wsX3_readBehind ({ frames := 1, cells := 0, slots := 0, locals := 26 } : Room) (x_Pc G ad (x_con G ad R N tl T pl P X) [.ref (ad (16 + pg)), .int (nI a)]) (x_Qr (some (.int ((pg_rd (P pg) (a + 12) 2).toInt32 - 1)))) 0 0 (fun _ => False) := by
  refine x_met (cc := cX3_readBehind) (maxL := 2) (ret := (some .int)) (by decide) rfl _ (Nat.le_of_ble_eq_true rfl) ?_
  intro p e s m args below meth c C0 hini hK hS ls hl
  have hl : lv_has ls 2 [(0, .ref (ad (16 + pg))), (1, .int (nI a))] := hl
  obtain ⟨hx, hb, hr, hml, hown, hts, hlk⟩ := id C0
  refine lv_aload_n hx hb dX3_readBehind_0 rfl (lv_at hl 0 rfl) ?_
  refine lv_iload_n hx hb dX3_readBehind_1 rfl (lv_at hl 1 rfl) ?_
  refine lv_bipush (v := 12) hx hb dX3_readBehind_2 (by decide) ?_
  refine lv_iadd hx hb dX3_readBehind_4 ?_
  refine lv_iconst (v := 2) hx hb dX3_readBehind_5 (by decide) ?_
  rw [show nI a + 12 = nI (a + 12) from nI_add a 12]
  refine x_callr (x_rV C0 hl.1 hK hS (c_X0_read l G ad R N tl T pl P X pg (a + 12) 2 hp hl_p (by omega)) (x_con_p hp hl_p) rfl gX3_readBehind_X0_read 2 rfl rfl rfl (by decide +kernel) ⟨Nat.le_of_ble_eq_true rfl, Nat.le_of_ble_eq_true rfl⟩ rfl rfl (Nat.le_of_ble_eq_true rfl) dX3_readBehind_6 ⟨Nat.le_of_ble_eq_true rfl, Nat.le_of_ble_eq_true rfl⟩) ?_
  show W _ _ _ _ _ _ _ _ _ _ _ _ _ _ _ (F0 m 9 ls [.long (pg_rd (P pg) (a + 12) 2)])
  refine lv_l2i hx hb dX3_readBehind_9 rfl ?_
  refine lv_iconst (v := 1) hx hb dX3_readBehind_10 (by decide) ?_
  refine lv_isub hx hb dX3_readBehind_11 ?_
  exact x_reti C0 (rfl) dX3_readBehind_12
def d_fp (Z : Nat → Int32) (w : Int32) : Int32 := if w = 0 then Z 0 else if w = 1 then Z 2 else if w = 2 then Z 3 else if w = 3 then pg_fb Z else if w = 4 then Z 1 else -1
def d_ff (w : Int32) : Int32 := if w = 1 then 0 else if w = 2 then 0 else if w = 3 then 496 else -1
def d_pg (pl : Nat → Bool) (P : Nat → Nat → Int32) (p w : Int32) : Int32 := if d_in p (nI 60) then (if d_up pl P p then d_fp (P p.toNatClampNeg) w else d_ff w) else -1
theorem kX3_factOfPage_wX0 : ∀ w ∈ u_ws RX0 TX0 6, w ∈ wsX3_factOfPage := by decide +kernel
theorem kX3_factOfPage_f121 : Cond.fieldLink RX3 121 "VersionDesk$Page" "versions" "I" ∈ wsX3_factOfPage := by decide +kernel
theorem kX3_factOfPage_f165 : Cond.fieldLink RX3 165 "VersionDesk$Page" "slots" "I" ∈ wsX3_factOfPage := by decide +kernel
theorem kX3_factOfPage_f172 : Cond.fieldLink RX3 172 "VersionDesk$Page" "following" "I" ∈ wsX3_factOfPage := by decide +kernel
theorem kX3_factOfPage_f47 : Cond.fieldLink RX3 47 "VersionDesk$Page" "table" "I" ∈ wsX3_factOfPage := by decide +kernel
set_option maxHeartbeats 4000000 in
set_option maxRecDepth 100000 in
/-- factOfPage -/
theorem c_X3_factOfPage (l : Launch) (G : x_G) (ad : Nat → Nat) (R : Nat → Nat → Int32) (N : Nat → Int64) (tl : Nat → Bool) (T : Nat → Nat → Int32) (pl : Nat → Bool) (P : Nat → Nat → Int32) (X : Nat → Option va_E) (pg : Nat) (w : Int32) (hp : pg < 60) (hl_p : pl pg = true) : Met l yX3_factOfPage wsX3_factOfPage ({ frames := 1, cells := 0, slots := 0, locals := 20 } : Room) (x_Pc G ad (x_con G ad R N tl T pl P X) [.ref (ad (16 + pg)), .int w]) (x_Qr (some (.int (d_fp (P pg) w)))) 0 0 (fun _ => False) := by
  refine x_met (cc := cX3_factOfPage) (maxL := 2) (ret := (some .int)) (by decide) rfl _ (Nat.le_of_ble_eq_true rfl) ?_
  intro p e s m args below meth c C0 hini hK hS ls hl
  have hl : lv_has ls 2 [(0, .ref (ad (16 + pg))), (1, .int w)] := hl
  obtain ⟨hx, hb, hr, hml, hown, hts, hlk⟩ := id C0
  refine lv_iload_n hx hb dX3_factOfPage_0 rfl (lv_at hl 1 rfl) ?_
  by_cases s1_0 : w = 0
  · refine lv_tableIn (off := 35) (tgt := 36) hx hb dX3_factOfPage_1 (by rw [s1_0]; decide) (by rw [s1_0]; decide) (by rw [s1_0] <;> rfl) (by decide) ?_
    refine lv_aload_n hx hb dX3_factOfPage_36 rfl (lv_at hl 0 rfl) ?_
    refine x_pget (j := 0) C0 hK hS hp hl_p (by decide) kX3_factOfPage_wX0 kX3_factOfPage_f47 dX3_factOfPage_37 ?_
    exact x_reti C0 (by unfold d_fp; rw [if_pos s1_0]) dX3_factOfPage_40
  by_cases s1_1 : w = 1
  · refine lv_tableIn (off := 40) (tgt := 41) hx hb dX3_factOfPage_1 (by rw [s1_1]; decide) (by rw [s1_1]; decide) (by rw [s1_1] <;> rfl) (by decide) ?_
    refine lv_aload_n hx hb dX3_factOfPage_41 rfl (lv_at hl 0 rfl) ?_
    refine x_pget (j := 2) C0 hK hS hp hl_p (by decide) kX3_factOfPage_wX0 kX3_factOfPage_f165 dX3_factOfPage_42 ?_
    exact x_reti C0 (by unfold d_fp; rw [if_neg s1_0, if_pos s1_1]) dX3_factOfPage_45
  by_cases s1_2 : w = 2
  · refine lv_tableIn (off := 45) (tgt := 46) hx hb dX3_factOfPage_1 (by rw [s1_2]; decide) (by rw [s1_2]; decide) (by rw [s1_2] <;> rfl) (by decide) ?_
    refine lv_aload_n hx hb dX3_factOfPage_46 rfl (lv_at hl 0 rfl) ?_
    refine x_pget (j := 3) C0 hK hS hp hl_p (by decide) kX3_factOfPage_wX0 kX3_factOfPage_f121 dX3_factOfPage_47 ?_
    exact x_reti C0 (by unfold d_fp; rw [if_neg s1_0, if_neg s1_1, if_pos s1_2]) dX3_factOfPage_50
  by_cases s1_3 : w = 3
  · refine lv_tableIn (off := 50) (tgt := 51) hx hb dX3_factOfPage_1 (by rw [s1_3]; decide) (by rw [s1_3]; decide) (by rw [s1_3] <;> rfl) (by decide) ?_
    refine lv_aload_n hx hb dX3_factOfPage_51 rfl (lv_at hl 0 rfl) ?_
    refine x_callr (x_rV C0 hl.1 hK hS (c_X0_freeBytes l G ad R N tl T pl P X pg hp hl_p) (x_con_p hp hl_p) rfl gX3_factOfPage_X0_freeBytes 0 rfl rfl rfl (by decide +kernel) ⟨Nat.le_of_ble_eq_true rfl, Nat.le_of_ble_eq_true rfl⟩ rfl rfl (Nat.le_of_ble_eq_true rfl) dX3_factOfPage_52 ⟨Nat.le_of_ble_eq_true rfl, Nat.le_of_ble_eq_true rfl⟩) ?_
    show W _ _ _ _ _ _ _ _ _ _ _ _ _ _ _ (F0 m 55 ls [.int (pg_fb (P pg))])
    exact x_reti C0 (by unfold d_fp; rw [if_neg s1_0, if_neg s1_1, if_neg s1_2, if_pos s1_3]) dX3_factOfPage_55
  by_cases s1_4 : w = 4
  · refine lv_tableIn (off := 55) (tgt := 56) hx hb dX3_factOfPage_1 (by rw [s1_4]; decide) (by rw [s1_4]; decide) (by rw [s1_4] <;> rfl) (by decide) ?_
    refine lv_aload_n hx hb dX3_factOfPage_56 rfl (lv_at hl 0 rfl) ?_
    refine x_pget (j := 1) C0 hK hS hp hl_p (by decide) kX3_factOfPage_wX0 kX3_factOfPage_f172 dX3_factOfPage_57 ?_
    exact x_reti C0 (by unfold d_fp; rw [if_neg s1_0, if_neg s1_1, if_neg s1_2, if_neg s1_3, if_pos s1_4]) dX3_factOfPage_60
  · refine lv_tableOut (tgt := 61) hx hb dX3_factOfPage_1 (by have q0 := lv_neT s1_0 (a := 0) (by decide); have q1 := lv_neT s1_1 (a := 1) (by decide); have q2 := lv_neT s1_2 (a := 2) (by decide); have q3 := lv_neT s1_3 (a := 3) (by decide); have q4 := lv_neT s1_4 (a := 4) (by decide); omega) (by decide) ?_
    refine lv_iconst (v := (-1)) hx hb dX3_factOfPage_61 (by decide) ?_
    exact x_reti C0 (by unfold d_fp; rw [if_neg s1_0, if_neg s1_1, if_neg s1_2, if_neg s1_3, if_neg s1_4]) dX3_factOfPage_62
set_option maxHeartbeats 4000000 in
set_option maxRecDepth 100000 in
/-- factOfFreePage -/
theorem c_X3_factOfFreePage (l : Launch) (G : x_G) (ad : Nat → Nat) (R : Nat → Nat → Int32) (N : Nat → Int64) (tl : Nat → Bool) (T : Nat → Nat → Int32) (pl : Nat → Bool) (P : Nat → Nat → Int32) (X : Nat → Option va_E) (w : Int32) : Met l yX3_factOfFreePage wsX3_factOfFreePage ({ frames := 0, cells := 0, slots := 0, locals := 0 } : Room) (x_Pc G ad (x_con G ad R N tl T pl P X) [.int w]) (x_Qr (some (.int (d_ff w)))) 0 0 (fun _ => False) := by
  refine x_met (cc := cX3_factOfFreePage) (maxL := 1) (ret := (some .int)) (by decide) rfl _ (Nat.le_of_ble_eq_true rfl) ?_
  intro p e s m args below meth c C0 hini hK hS ls hl
  have hl : lv_has ls 1 [(0, .int w)] := hl
  obtain ⟨hx, hb, hr, hml, hown, hts, hlk⟩ := id C0
  refine lv_iload_n hx hb dX3_factOfFreePage_0 rfl (lv_at hl 0 rfl) ?_
  by_cases s1_1 : w = 1
  · refine lv_tableIn (off := 27) (tgt := 28) hx hb dX3_factOfFreePage_1 (by rw [s1_1]; decide) (by rw [s1_1]; decide) (by rw [s1_1] <;> rfl) (by decide) ?_
    refine lv_iconst (v := 0) hx hb dX3_factOfFreePage_28 (by decide) ?_
    exact x_reti C0 (by unfold d_ff; rw [if_pos s1_1]) dX3_factOfFreePage_29
  by_cases s1_2 : w = 2
  · refine lv_tableIn (off := 29) (tgt := 30) hx hb dX3_factOfFreePage_1 (by rw [s1_2]; decide) (by rw [s1_2]; decide) (by rw [s1_2] <;> rfl) (by decide) ?_
    refine lv_iconst (v := 0) hx hb dX3_factOfFreePage_30 (by decide) ?_
    exact x_reti C0 (by unfold d_ff; rw [if_neg s1_1, if_pos s1_2]) dX3_factOfFreePage_31
  by_cases s1_3 : w = 3
  · refine lv_tableIn (off := 31) (tgt := 32) hx hb dX3_factOfFreePage_1 (by rw [s1_3]; decide) (by rw [s1_3]; decide) (by rw [s1_3] <;> rfl) (by decide) ?_
    refine lv_sipush (v := 496) hx hb dX3_factOfFreePage_32 (by decide) ?_
    exact x_reti C0 (by unfold d_ff; rw [if_neg s1_1, if_neg s1_2, if_pos s1_3]) dX3_factOfFreePage_35
  · refine lv_tableOut (tgt := 36) hx hb dX3_factOfFreePage_1 (by have q0 := lv_neT s1_1 (a := 1) (by decide); have q1 := lv_neT s1_2 (a := 2) (by decide); have q2 := lv_neT s1_3 (a := 3) (by decide); omega) (by decide) ?_
    refine lv_iconst (v := (-1)) hx hb dX3_factOfFreePage_36 (by decide) ?_
    exact x_reti C0 (by unfold d_ff; rw [if_neg s1_1, if_neg s1_2, if_neg s1_3]) dX3_factOfFreePage_37
