-- ===== numbers =====
theorem nz_le {x y : Int32} {a b : Nat} (h : x ≤ y) (hx : x = nI a) (hy : y = nI b) (ha : a < 2 ^ 31) (hb : b < 2 ^ 31) : a ≤ b := by rw [hx, hy] at h; exact (nI_leI ha hb).mp h
theorem nz_nle {x y : Int32} {a b : Nat} (h : ¬ x ≤ y) (hx : x = nI a) (hy : y = nI b) (ha : a < 2 ^ 31) (hb : b < 2 ^ 31) : b < a := by rw [hx, hy] at h; exact Nat.lt_of_not_le (fun q => h ((nI_leI ha hb).mpr q))
theorem nz_lt {x y : Int32} {a b : Nat} (h : x < y) (hx : x = nI a) (hy : y = nI b) (ha : a < 2 ^ 31) (hb : b < 2 ^ 31) : a < b := by rw [hx, hy] at h; exact (nI_ltI ha hb).mp h
theorem nz_nlt {x y : Int32} {a b : Nat} (h : ¬ x < y) (hx : x = nI a) (hy : y = nI b) (ha : a < 2 ^ 31) (hb : b < 2 ^ 31) : b ≤ a := by rw [hx, hy] at h; exact Nat.le_of_not_lt (fun q => h ((nI_ltI ha hb).mpr q))
theorem nz_eq {x y : Int32} {a b : Nat} (h : x = y) (hx : x = nI a) (hy : y = nI b) (ha : a < 2 ^ 31) (hb : b < 2 ^ 31) : a = b := by rw [hx, hy] at h; exact (nI_eq ha hb).mp h
theorem nz_ne {x y : Int32} {a b : Nat} (h : ¬ x = y) (hx : x = nI a) (hy : y = nI b) : a ≠ b := by rw [hx, hy] at h; exact fun q => h (by rw [q])
-- ===== Page: reading and writing bytes =====
def pg_b (P : Nat → Int32) (i : Nat) : Int32 := if i < 496 then P (5 + i) &&& 255 else 0
def pg_rd (P : Nat → Int32) (a : Nat) : Nat → Int64
  | 0 => 0
  | n + 1 => (pg_rd P a n <<< ((8 : Int32).toInt64 &&& 63)) ||| (pg_b P (a + n)).toInt64
def pg_vb (v : Int64) (i : Nat) : Int32 := (v.toUInt64 >>> ((nI (8 * i)).toInt64.toUInt64 &&& Int64.toUInt64 63)).toInt64.toInt32.toInt8.toInt32
def pg_w1 (P : Nat → Int32) (t : Nat) (b : Int32) : Nat → Int32 := if t < 496 then upd P (5 + t) b else P
/-- i bytes of v, the lowest first, from place a + n - 1 down -/
def pg_wr (P : Nat → Int32) (a n : Nat) (v : Int64) : Nat → Nat → Int32
  | 0 => P
  | i + 1 => pg_w1 (pg_wr P a n v i) (a + n - 1 - i) (pg_vb v i)
theorem kX0_read_wX0 : ∀ w ∈ u_ws RX0 TX0 6, w ∈ wsX0_read := by decide +kernel
theorem kX0_read_f27 : Cond.fieldLink RX0 27 "VersionDesk$Page" "bytes" "[B" ∈ wsX0_read := by decide +kernel
set_option maxHeartbeats 4000000 in
set_option maxRecDepth 100000 in
/-- read: the loop -/
theorem l_X0_read {p : Program} {l : Launch} {e : Env} {s : State} {m : MethodId} {args : Array Value} {below : List Frame} {meth : Method} {c : Code} {G : x_G} {ad : Nat → Nat} {R : Nat → Nat → Int32} {N : Nat → Int64} {tl : Nat → Bool} {T : Nat → Nat → Int32} {pl : Nat → Bool} {P : Nat → Nat → Int32} {X : Nat → Option va_E} (C0 : x_B p s m meth c args cX0_read 7 (some .long) RX0 wsX0_read) (hK : x_K G s) {pg a n : Nat} (hp : pg < 60) (hl_p : pl pg = true) (ha : a + n < 2 ^ 30) (hS : x_H G ad (x_con G ad R N tl T pl P X) s.heap []) : ∀ (d : Nat) (j : Nat) (v5 : Int32) (v3 : Int64), n < j + d → j ≤ n → v5 = nI (a + j) → v3 = pg_rd (P pg) a j → ∀ (ls : Array Slot), lv_has ls 7 [(0, .ref (ad (16 + pg))), (1, .int (nI a)), (2, .int (nI n)), (3, .long v3), (5, .int v5)] → W p l e ({ frames := 0, cells := 0, slots := 0, locals := 0 } : Room) s m args below meth c s.heap [] 0 0 (MQ below (x_Qr (some (.long (pg_rd (P pg) a n)))) args s 0 0 (fun _ => False)) (F0 m 5 ls []) := by
  obtain ⟨hx, hb, hr, hml, hown, hts, hlk⟩ := id C0
  intro d
  induction d with
  | zero =>
    intro j v5 v3 hd hjn e5 e3 ls hl
    exact absurd hd (by omega)
  | succ d ih =>
    intro j v5 v3 hd hjn e5 e3 ls hl
    refine lv_iload hx hb dX0_read_5 (lv_at hl 4 rfl) ?_
    refine lv_iload_n hx hb dX0_read_7 rfl (lv_at hl 1 rfl) ?_
    refine lv_iload_n hx hb dX0_read_8 rfl (lv_at hl 2 rfl) ?_
    refine lv_iadd hx hb dX0_read_9 ?_
    refine lv_icmp_ge (tgt := 58) hx hb dX0_read_10 (by decide) (fun c10 => ?_) (fun c10 => ?_)
    · have hj : j = n := Nat.le_antisymm hjn (by have := nz_le c10 (nI_add a n) e5 (by omega) (by omega); omega)
      refine lv_lload_n hx hb dX0_read_58 rfl (lv_at hl 3 rfl) ?_
      exact x_retl C0 (by rw [e3, hj]) dX0_read_59
    · have hj : j < n := by have := nz_nle c10 (nI_add a n) e5 (by omega) (by omega); omega
      refine lv_iload hx hb dX0_read_13 (lv_at hl 4 rfl) ?_
      refine lv_if_lt (tgt := 40) hx hb dX0_read_15 (by decide) (fun c15 => absurd c15 (by rw [e5]; exact nI_pos (by omega))) (fun c15 => ?_)
      refine lv_iload hx hb dX0_read_18 (lv_at hl 4 rfl) ?_
      refine lv_sipush (v := 496) hx hb dX0_read_20 (by decide) ?_
      refine lv_icmp_ge (tgt := 40) hx hb dX0_read_23 (by decide) (fun c23 => ?_) (fun c23 => ?_)
      · have hge : ¬ a + j < 496 := by have := nz_le (a := 496) c23 rfl e5 (by omega) (by omega); omega
        refine lv_iconst (v := 0) hx hb dX0_read_40 (by decide) ?_
        refine lv_istore (lv' := [(6, .int 0), (0, .ref (ad (16 + pg))), (1, .int (nI a)), (2, .int (nI n)), (3, .long v3), (5, .int v5)]) hx hb dX0_read_41 hl (by decide) rfl (fun ls hl => ?_)
        refine lv_lload_n hx hb dX0_read_43 rfl (lv_at hl 4 rfl) ?_
        refine lv_bipush (v := 8) hx hb dX0_read_44 (by decide) ?_
        refine lv_lshl hx hb dX0_read_46 rfl ?_
        refine lv_iload hx hb dX0_read_47 (lv_at hl 0 rfl) ?_
        refine lv_i2l hx hb dX0_read_49 rfl ?_
        refine lv_lor hx hb dX0_read_50 ?_
        refine lv_topl (fun x1 ex1 => ?_)
        refine lv_lstore_n (lv' := [(3, .long x1), (6, .int 0), (0, .ref (ad (16 + pg))), (1, .int (nI a)), (2, .int (nI n)), (5, .int v5)]) hx hb dX0_read_51 rfl hl (by decide) rfl (fun ls hl => ?_)
        obtain ⟨x2, ex2⟩ : ∃ z : Int32, z = v5 + (1) := ⟨_, rfl⟩
        refine lv_iinc (v := x2) (lv' := [(5, .int x2), (3, .long x1), (6, .int 0), (0, .ref (ad (16 + pg))), (1, .int (nI a)), (2, .int (nI n))]) hx hb dX0_read_52 hl (k := 5) rfl (by rw [ex2]; rfl) (by decide) rfl (fun ls hl => ?_)
        refine lv_goto (tgt := 5) hx hb dX0_read_55 (by decide) ?_
        exact ih (j + 1) _ _ (by omega) (by omega) (by rw [ex2, e5]; exact nI_1 (a + j)) (by rw [ex1, e3]; simp only [pg_rd, pg_b]; rw [if_neg hge]) ls (lv_sub hl [3, 4, 5, 1, 0] rfl)
      · have hlt : a + j < 496 := nz_nle (a := 496) c23 rfl e5 (by omega) (by omega)
        refine lv_aload_n hx hb dX0_read_26 rfl (lv_at hl 0 rfl) ?_
        refine x_pgetb C0 hK hS hp hl_p kX0_read_wX0 kX0_read_f27 dX0_read_27 ?_
        refine lv_iload hx hb dX0_read_30 (lv_at hl 4 rfl) ?_
        refine x_pbald (i := a + j) C0 hK hS hp hl_p hlt e5 dX0_read_32 ?_
        refine lv_sipush (v := 255) hx hb dX0_read_33 (by decide) ?_
        refine lv_iand hx hb dX0_read_36 ?_
        refine lv_goto (tgt := 41) hx hb dX0_read_37 (by decide) ?_
        refine lv_topi (fun x3 ex3 => ?_)
        refine lv_istore (lv' := [(6, .int x3), (0, .ref (ad (16 + pg))), (1, .int (nI a)), (2, .int (nI n)), (3, .long v3), (5, .int v5)]) hx hb dX0_read_41 hl (by decide) rfl (fun ls hl => ?_)
        refine lv_lload_n hx hb dX0_read_43 rfl (lv_at hl 4 rfl) ?_
        refine lv_bipush (v := 8) hx hb dX0_read_44 (by decide) ?_
        refine lv_lshl hx hb dX0_read_46 rfl ?_
        refine lv_iload hx hb dX0_read_47 (lv_at hl 0 rfl) ?_
        refine lv_i2l hx hb dX0_read_49 rfl ?_
        refine lv_lor hx hb dX0_read_50 ?_
        refine lv_topl (fun x4 ex4 => ?_)
        refine lv_lstore_n (lv' := [(3, .long x4), (6, .int x3), (0, .ref (ad (16 + pg))), (1, .int (nI a)), (2, .int (nI n)), (5, .int v5)]) hx hb dX0_read_51 rfl hl (by decide) rfl (fun ls hl => ?_)
        obtain ⟨x5, ex5⟩ : ∃ z : Int32, z = v5 + (1) := ⟨_, rfl⟩
        refine lv_iinc (v := x5) (lv' := [(5, .int x5), (3, .long x4), (6, .int x3), (0, .ref (ad (16 + pg))), (1, .int (nI a)), (2, .int (nI n))]) hx hb dX0_read_52 hl (k := 5) rfl (by rw [ex5]; rfl) (by decide) rfl (fun ls hl => ?_)
        refine lv_goto (tgt := 5) hx hb dX0_read_55 (by decide) ?_
        exact ih (j + 1) _ _ (by omega) (by omega) (by rw [ex5, e5]; exact nI_1 (a + j)) (by rw [ex4, ex3, e3]; simp only [pg_rd, pg_b]; rw [if_pos hlt]) ls (lv_sub hl [3, 4, 5, 1, 0] rfl)
set_option maxHeartbeats 4000000 in
set_option maxRecDepth 100000 in
/-- read: the bytes from a on, the highest first -/
theorem c_X0_read (l : Launch) (G : x_G) (ad : Nat → Nat) (R : Nat → Nat → Int32) (N : Nat → Int64) (tl : Nat → Bool) (T : Nat → Nat → Int32) (pl : Nat → Bool) (P : Nat → Nat → Int32) (X : Nat → Option va_E) (pg a n : Nat) (hp : pg < 60) (hl_p : pl pg = true) (ha : a + n < 2 ^ 30) : Met l yX0_read wsX0_read ({ frames := 0, cells := 0, slots := 0, locals := 0 } : Room) (x_Pc G ad (x_con G ad R N tl T pl P X) [.ref (ad (16 + pg)), .int (nI a), .int (nI n)]) (x_Qr (some (.long (pg_rd (P pg) a n)))) 0 0 (fun _ => False) := by
  refine x_met (cc := cX0_read) (maxL := 7) (ret := (some .long)) (by decide) rfl _ (Nat.le_of_ble_eq_true rfl) ?_
  intro p e s m args below meth c C0 hini hK hS ls hl
  have hl : lv_has ls 7 [(0, .ref (ad (16 + pg))), (1, .int (nI a)), (2, .int (nI n))] := hl
  obtain ⟨hx, hb, hr, hml, hown, hts, hlk⟩ := id C0
  refine lv_lconst (v := 0) hx hb dX0_read_0 (by decide) ?_
  refine lv_lstore_n (lv' := [(3, .long 0), (0, .ref (ad (16 + pg))), (1, .int (nI a)), (2, .int (nI n))]) hx hb dX0_read_1 rfl hl (by decide) rfl (fun ls hl => ?_)
  refine lv_iload_n hx hb dX0_read_2 rfl (lv_at hl 2 rfl) ?_
  refine lv_istore (lv' := [(5, .int (nI a)), (3, .long 0), (0, .ref (ad (16 + pg))), (1, .int (nI a)), (2, .int (nI n))]) hx hb dX0_read_3 hl (by decide) rfl (fun ls hl => ?_)
  exact l_X0_read C0 hK hp hl_p ha hS (n + 1) 0 _ _ (by omega) (by omega) rfl rfl ls (lv_sub hl [2, 3, 4, 1, 0] rfl)
theorem pg_wr_lo (P : Nat → Int32) (a n : Nat) (v : Int64) (i j : Nat) (hj : j < 5) : pg_wr P a n v i j = P j := by
  induction i with
  | zero => rfl
  | succ i ih =>
    simp only [pg_wr, pg_w1]
    split
    · rw [pk_un (by omega)]; exact ih
    · exact ih
theorem va_up_id {α : Type} (f : Nat → α) (k : Nat) : va_up f k (f k) = f := by
  funext j
  by_cases h : j = k
  · rw [h, va_up_self]
  · rw [va_up_ne _ _ h]
theorem pg_wr_in {P0 : Nat → Nat → Int32} {P : Nat → Nat → Int32} {pg a n i : Nat} {v : Int64} {b : Int32} (hP : P = va_up P0 pg (pg_wr (P0 pg) a n v i)) (ht : a + n - 1 - i < 496) (hb : b = pg_vb v i) : va_up P pg (upd (P pg) (5 + (a + n - 1 - i)) b) = va_up P0 pg (pg_wr (P0 pg) a n v (i + 1)) := by
  rw [hP, bx_uu, va_up_self, hb]
  simp only [pg_wr, pg_w1]
  rw [if_pos ht]
theorem pg_wr_out {P0 : Nat → Nat → Int32} {P : Nat → Nat → Int32} {pg a n i : Nat} {v : Int64} (hP : P = va_up P0 pg (pg_wr (P0 pg) a n v i)) (ht : ¬ a + n - 1 - i < 496) : P = va_up P0 pg (pg_wr (P0 pg) a n v (i + 1)) := by
  rw [hP]
  simp only [pg_wr, pg_w1]
  rw [if_neg ht]
theorem kX0_write_wX0 : ∀ w ∈ u_ws RX0 TX0 6, w ∈ wsX0_write := by decide +kernel
theorem kX0_write_f27 : Cond.fieldLink RX0 27 "VersionDesk$Page" "bytes" "[B" ∈ wsX0_write := by decide +kernel
set_option maxHeartbeats 4000000 in
set_option maxRecDepth 100000 in
/-- write: the loop -/
theorem l_X0_write {p : Program} {l : Launch} {e : Env} {s : State} {m : MethodId} {args : Array Value} {below : List Frame} {meth : Method} {c : Code} {G : x_G} {ad : Nat → Nat} {R : Nat → Nat → Int32} {N : Nat → Int64} {tl : Nat → Bool} {T : Nat → Nat → Int32} {pl : Nat → Bool} {X : Nat → Option va_E} (C0 : x_B p s m meth c args cX0_write 7 none RX0 wsX0_write) (hK : x_K G s) {P0 : Nat → Nat → Int32} {pg a n : Nat} {v : Int64} (hp : pg < 60) (hl_p : pl pg = true) (ha : a + n < 2 ^ 30) : ∀ (d : Nat) (i : Nat) (v5 : Int32) (P : Nat → Nat → Int32) (H : Heap) (locs : List Loc), n < i + d → i ≤ n → v5 = nI i → P = va_up P0 pg (pg_wr (P0 pg) a n v i) → x_H G ad (x_con G ad R N tl T pl P X) H locs → ∀ (ls : Array Slot), lv_has ls 7 [(0, .ref (ad (16 + pg))), (1, .int (nI a)), (2, .int (nI n)), (3, .long v), (5, .int v5)] → W p l e ({ frames := 0, cells := 0, slots := 0, locals := 0 } : Room) s m args below meth c H locs 0 0 (MQ below (x_Qw G ad (x_con G ad R N tl T pl (va_up P0 pg (pg_wr (P0 pg) a n v n)) X) none) args s 0 0 (x_A G)) (F0 m 3 ls []) := by
  obtain ⟨hx, hb, hr, hml, hown, hts, hlk⟩ := id C0
  intro d
  induction d with
  | zero =>
    intro i v5 P H locs hd hin e5 hPi hS ls hl
    exact absurd hd (by omega)
  | succ d ih =>
    intro i v5 P H locs hd hin e5 hPi hS ls hl
    refine lv_iload hx hb dX0_write_3 (lv_at hl 4 rfl) ?_
    refine lv_iload_n hx hb dX0_write_5 rfl (lv_at hl 2 rfl) ?_
    refine lv_icmp_ge (tgt := 54) hx hb dX0_write_6 (by decide) (fun c6 => ?_) (fun c6 => ?_)
    · have hj : i = n := Nat.le_antisymm hin (nz_le c6 rfl e5 (by omega) (by omega))
      exact x_wretv C0 hS (by rw [hPi, hj]) dX0_write_54
    · have hj : i < n := nz_nle c6 rfl e5 (by omega) (by omega)
      refine lv_iload_n hx hb dX0_write_9 rfl (lv_at hl 1 rfl) ?_
      refine lv_iload_n hx hb dX0_write_10 rfl (lv_at hl 2 rfl) ?_
      refine lv_iadd hx hb dX0_write_11 ?_
      refine lv_iconst (v := 1) hx hb dX0_write_12 (by decide) ?_
      refine lv_isub hx hb dX0_write_13 ?_
      refine lv_iload hx hb dX0_write_14 (lv_at hl 4 rfl) ?_
      refine lv_isub hx hb dX0_write_16 ?_
      refine lv_topi (fun v6 e6 => ?_)
      have e6 : v6 = nI (a + n - 1 - i) := by rw [e6, e5, nI_add, show nI (a + n) - 1 = nI (a + n - 1) from pk_sub (b := 1) (by omega), pk_sub (by omega)]
      refine lv_istore (lv' := [(6, .int v6), (0, .ref (ad (16 + pg))), (1, .int (nI a)), (2, .int (nI n)), (3, .long v), (5, .int v5)]) hx hb dX0_write_17 hl (by decide) rfl (fun ls hl => ?_)
      refine lv_iload hx hb dX0_write_19 (lv_at hl 0 rfl) ?_
      refine lv_if_lt (tgt := 48) hx hb dX0_write_21 (by decide) (fun c21 => absurd c21 (by rw [e6]; exact nI_pos (by omega))) (fun c21 => ?_)
      refine lv_iload hx hb dX0_write_24 (lv_at hl 0 rfl) ?_
      refine lv_sipush (v := 496) hx hb dX0_write_26 (by decide) ?_
      refine lv_icmp_ge (tgt := 48) hx hb dX0_write_29 (by decide) (fun c29 => ?_) (fun c29 => ?_)
      · have hge : ¬ a + n - 1 - i < 496 := by have := nz_le (a := 496) c29 rfl e6 (by omega) (by omega); omega
        obtain ⟨x1, ex1⟩ : ∃ z : Int32, z = v5 + (1) := ⟨_, rfl⟩
        refine lv_iinc (v := x1) (lv' := [(5, .int x1), (6, .int v6), (0, .ref (ad (16 + pg))), (1, .int (nI a)), (2, .int (nI n)), (3, .long v)]) hx hb dX0_write_48 hl (k := 5) rfl (by rw [ex1]; rfl) (by decide) rfl (fun ls hl => ?_)
        refine lv_goto (tgt := 3) hx hb dX0_write_51 (by decide) ?_
        exact ih (i + 1) _ _ _ _ (by omega) (by omega) (by rw [ex1, e5]; exact nI_1 i) (pg_wr_out hPi hge) hS ls (lv_sub hl [2, 3, 4, 5, 0] rfl)
      · have hlt : a + n - 1 - i < 496 := nz_nle (a := 496) c29 rfl e6 (by omega) (by omega)
        refine lv_aload_n hx hb dX0_write_32 rfl (lv_at hl 1 rfl) ?_
        refine x_pgetb C0 hK hS hp hl_p kX0_write_wX0 kX0_write_f27 dX0_write_33 ?_
        refine lv_iload hx hb dX0_write_36 (lv_at hl 0 rfl) ?_
        refine lv_lload_n hx hb dX0_write_38 rfl (lv_at hl 4 rfl) ?_
        refine lv_bipush (v := 8) hx hb dX0_write_39 (by decide) ?_
        refine lv_iload hx hb dX0_write_41 (lv_at hl 5 rfl) ?_
        refine lv_imul hx hb dX0_write_43 ?_
        refine lv_lushr hx hb dX0_write_44 rfl ?_
        refine lv_l2i hx hb dX0_write_45 rfl ?_
        refine lv_i2b hx hb dX0_write_46 rfl ?_
        refine lv_topi (fun b eb => ?_)
        have eb : b = pg_vb v i := by rw [eb, e5, show (8 : Int32) * nI i = nI (8 * i) from pk_mul 8 i]; rfl
        have eb2 : vp_nar .byte b = b := by rw [eb]; exact pk_vb _
        refine x_pbast (i := a + n - 1 - i) C0 hK hS hp hl_p hlt e6 dX0_write_47 (fun H locs hS => ?_)
        rw [eb2] at hS
        obtain ⟨x2, ex2⟩ : ∃ z : Int32, z = v5 + (1) := ⟨_, rfl⟩
        refine lv_iinc (v := x2) (lv' := [(5, .int x2), (6, .int v6), (0, .ref (ad (16 + pg))), (1, .int (nI a)), (2, .int (nI n)), (3, .long v)]) hx hb dX0_write_48 hl (k := 5) rfl (by rw [ex2]; rfl) (by decide) rfl (fun ls hl => ?_)
        refine lv_goto (tgt := 3) hx hb dX0_write_51 (by decide) ?_
        exact ih (i + 1) _ _ _ _ (by omega) (by omega) (by rw [ex2, e5]; exact nI_1 i) (pg_wr_in hPi hlt eb) hS ls (lv_sub hl [2, 3, 4, 5, 0] rfl)
set_option maxHeartbeats 4000000 in
set_option maxRecDepth 100000 in
/-- write: the lowest n bytes of v, from a on -/
theorem c_X0_write (l : Launch) (G : x_G) (ad : Nat → Nat) (R : Nat → Nat → Int32) (N : Nat → Int64) (tl : Nat → Bool) (T : Nat → Nat → Int32) (pl : Nat → Bool) (P : Nat → Nat → Int32) (X : Nat → Option va_E) (pg a n : Nat) (v : Int64) (hp : pg < 60) (hl_p : pl pg = true) (ha : a + n < 2 ^ 30) : Met l yX0_write wsX0_write ({ frames := 0, cells := 0, slots := 0, locals := 0 } : Room) (x_Pc G ad (x_con G ad R N tl T pl P X) [.ref (ad (16 + pg)), .int (nI a), .int (nI n), .long v]) (x_Qw G ad (x_con G ad R N tl T pl (va_up P pg (pg_wr (P pg) a n v n)) X) none) 0 0 (x_A G) := by
  refine x_met (cc := cX0_write) (maxL := 7) (ret := none) (by decide) rfl _ (Nat.le_of_ble_eq_true rfl) ?_
  intro p e s m args below meth c C0 hini hK hS ls hl
  have hl : lv_has ls 7 [(0, .ref (ad (16 + pg))), (1, .int (nI a)), (2, .int (nI n)), (3, .long v)] := hl
  obtain ⟨hx, hb, hr, hml, hown, hts, hlk⟩ := id C0
  refine lv_iconst (v := 0) hx hb dX0_write_0 (by decide) ?_
  refine lv_istore (lv' := [(5, .int 0), (0, .ref (ad (16 + pg))), (1, .int (nI a)), (2, .int (nI n)), (3, .long v)]) hx hb dX0_write_1 hl (by decide) rfl (fun ls hl => ?_)
  exact l_X0_write C0 hK hp hl_p ha (n + 1) 0 _ P _ _ (by omega) (by omega) rfl (va_up_id P pg).symm hS ls (lv_sub hl [1, 2, 3, 4, 0] rfl)
def pg_st (P : Nat → Int32) (s : Nat) : Int32 := (pg_rd P (4 * s) 2).toInt32
def pg_sz (P : Nat → Int32) (s : Nat) : Int32 := (pg_rd P (4 * s + 2) 2).toInt32
/-- is there a version in slot k -/
def pg_hd (P : Nat → Int32) (k : Nat) : Bool := decide (nI k < P 2) && decide (0 < pg_sz P k)
def pg_fb (P : Nat → Int32) : Int32 := P 4 - 4 * P 2
def pg_fh (P : Nat → Int32) : Nat → Nat → Int32
  | 0, _ => -1
  | d + 1, k => if pg_hd P k then nI k else pg_fh P d (k + 1)
def pg_ff (P : Nat → Int32) : Nat → Nat → Option Nat
  | 0, _ => none
  | d + 1, k => if pg_hd P k then pg_ff P d (k + 1) else some k
def zb (b : Bool) : Int32 := if b then 1 else 0
theorem zb_ne {b : Bool} (h : ¬ zb b = 0) : b = true := by cases b <;> simp_all [zb]
theorem zb_eq {b : Bool} (h : zb b = 0) : b = false := by cases b <;> simp_all [zb]
theorem zb_nar (b : Bool) : narrow .boolean (.int (zb b)) = .int (zb b) := by cases b <;> rfl
set_option maxHeartbeats 4000000 in
set_option maxRecDepth 100000 in
/-- startOf: where the version of a slot starts -/
theorem c_X0_startOf (l : Launch) (G : x_G) (ad : Nat → Nat) (R : Nat → Nat → Int32) (N : Nat → Int64) (tl : Nat → Bool) (T : Nat → Nat → Int32) (pl : Nat → Bool) (P : Nat → Nat → Int32) (X : Nat → Option va_E) (pg k : Nat) (hp : pg < 60) (hl_p : pl pg = true) (hk : k < 2 ^ 20) : Met l yX0_startOf wsX0_startOf ({ frames := 1, cells := 0, slots := 0, locals := 26 } : Room) (x_Pc G ad (x_con G ad R N tl T pl P X) [.ref (ad (16 + pg)), .int (nI k)]) (x_Qr (some (.int (pg_st (P pg) k)))) 0 0 (fun _ => False) := by
  refine x_met (cc := cX0_startOf) (maxL := 2) (ret := (some .int)) (by decide) rfl _ (Nat.le_of_ble_eq_true rfl) ?_
  intro p e s m args below meth c C0 hini hK hS ls hl
  have hl : lv_has ls 2 [(0, .ref (ad (16 + pg))), (1, .int (nI k))] := hl
  obtain ⟨hx, hb, hr, hml, hown, hts, hlk⟩ := id C0
  refine lv_aload_n hx hb dX0_startOf_0 rfl (lv_at hl 0 rfl) ?_
  refine lv_iconst (v := 4) hx hb dX0_startOf_1 (by decide) ?_
  refine lv_iload_n hx hb dX0_startOf_2 rfl (lv_at hl 1 rfl) ?_
  refine lv_imul hx hb dX0_startOf_3 ?_
  refine lv_iconst (v := 2) hx hb dX0_startOf_4 (by decide) ?_
  rw [show (4 : Int32) * nI k = nI (4 * k) from pk_mul 4 k]
  refine x_callr (x_rV C0 hl.1 hK hS (c_X0_read l G ad R N tl T pl P X pg (4 * k) 2 hp hl_p (by omega)) (x_con_p hp hl_p) rfl gX0_startOf_X0_read 2 rfl rfl rfl (by decide +kernel) ⟨Nat.le_of_ble_eq_true rfl, Nat.le_of_ble_eq_true rfl⟩ rfl rfl (Nat.le_of_ble_eq_true rfl) dX0_startOf_5 ⟨Nat.le_of_ble_eq_true rfl, Nat.le_of_ble_eq_true rfl⟩) ?_
  show W _ _ _ _ _ _ _ _ _ _ _ _ _ _ _ (F0 m 8 ls [.long (pg_rd (P pg) (4 * k) 2)])
  refine lv_l2i hx hb dX0_startOf_8 rfl ?_
  exact x_reti C0 (rfl) dX0_startOf_9
set_option maxHeartbeats 4000000 in
set_option maxRecDepth 100000 in
/-- sizeOf: the size of the version of a slot -/
theorem c_X0_sizeOf (l : Launch) (G : x_G) (ad : Nat → Nat) (R : Nat → Nat → Int32) (N : Nat → Int64) (tl : Nat → Bool) (T : Nat → Nat → Int32) (pl : Nat → Bool) (P : Nat → Nat → Int32) (X : Nat → Option va_E) (pg k : Nat) (hp : pg < 60) (hl_p : pl pg = true) (hk : k < 2 ^ 20) : Met l yX0_sizeOf wsX0_sizeOf ({ frames := 1, cells := 0, slots := 0, locals := 26 } : Room) (x_Pc G ad (x_con G ad R N tl T pl P X) [.ref (ad (16 + pg)), .int (nI k)]) (x_Qr (some (.int (pg_sz (P pg) k)))) 0 0 (fun _ => False) := by
  refine x_met (cc := cX0_sizeOf) (maxL := 2) (ret := (some .int)) (by decide) rfl _ (Nat.le_of_ble_eq_true rfl) ?_
  intro p e s m args below meth c C0 hini hK hS ls hl
  have hl : lv_has ls 2 [(0, .ref (ad (16 + pg))), (1, .int (nI k))] := hl
  obtain ⟨hx, hb, hr, hml, hown, hts, hlk⟩ := id C0
  refine lv_aload_n hx hb dX0_sizeOf_0 rfl (lv_at hl 0 rfl) ?_
  refine lv_iconst (v := 4) hx hb dX0_sizeOf_1 (by decide) ?_
  refine lv_iload_n hx hb dX0_sizeOf_2 rfl (lv_at hl 1 rfl) ?_
  refine lv_imul hx hb dX0_sizeOf_3 ?_
  refine lv_iconst (v := 2) hx hb dX0_sizeOf_4 (by decide) ?_
  refine lv_iadd hx hb dX0_sizeOf_5 ?_
  refine lv_iconst (v := 2) hx hb dX0_sizeOf_6 (by decide) ?_
  rw [show (4 : Int32) * nI k + 2 = nI (4 * k + 2) from (by rw [show (4 : Int32) * nI k = nI (4 * k) from pk_mul 4 k]; exact nI_add (4 * k) 2)]
  refine x_callr (x_rV C0 hl.1 hK hS (c_X0_read l G ad R N tl T pl P X pg (4 * k + 2) 2 hp hl_p (by omega)) (x_con_p hp hl_p) rfl gX0_sizeOf_X0_read 2 rfl rfl rfl (by decide +kernel) ⟨Nat.le_of_ble_eq_true rfl, Nat.le_of_ble_eq_true rfl⟩ rfl rfl (Nat.le_of_ble_eq_true rfl) dX0_sizeOf_7 ⟨Nat.le_of_ble_eq_true rfl, Nat.le_of_ble_eq_true rfl⟩) ?_
  show W _ _ _ _ _ _ _ _ _ _ _ _ _ _ _ (F0 m 10 ls [.long (pg_rd (P pg) (4 * k + 2) 2)])
  refine lv_l2i hx hb dX0_sizeOf_10 rfl ?_
  exact x_reti C0 (rfl) dX0_sizeOf_11
theorem kX0_holds_wX0 : ∀ w ∈ u_ws RX0 TX0 6, w ∈ wsX0_holds := by decide +kernel
theorem kX0_holds_f18 : Cond.fieldLink RX0 18 "VersionDesk$Page" "slots" "I" ∈ wsX0_holds := by decide +kernel
set_option maxHeartbeats 4000000 in
set_option maxRecDepth 100000 in
/-- holds: has slot k a version -/
theorem c_X0_holds (l : Launch) (G : x_G) (ad : Nat → Nat) (R : Nat → Nat → Int32) (N : Nat → Int64) (tl : Nat → Bool) (T : Nat → Nat → Int32) (pl : Nat → Bool) (P : Nat → Nat → Int32) (X : Nat → Option va_E) (pg k : Nat) (hp : pg < 60) (hl_p : pl pg = true) (hk : k < 2 ^ 20) : Met l yX0_holds wsX0_holds ({ frames := 2, cells := 0, slots := 0, locals := 47 } : Room) (x_Pc G ad (x_con G ad R N tl T pl P X) [.ref (ad (16 + pg)), .int (nI k)]) (x_Qr (some (.int (zb (pg_hd (P pg) k))))) 0 0 (fun _ => False) := by
  refine x_met (cc := cX0_holds) (maxL := 2) (ret := (some .boolean)) (by decide) rfl _ (Nat.le_of_ble_eq_true rfl) ?_
  intro p e s m args below meth c C0 hini hK hS ls hl
  have hl : lv_has ls 2 [(0, .ref (ad (16 + pg))), (1, .int (nI k))] := hl
  obtain ⟨hx, hb, hr, hml, hown, hts, hlk⟩ := id C0
  refine lv_iload_n hx hb dX0_holds_0 rfl (lv_at hl 1 rfl) ?_
  refine lv_if_lt (tgt := 24) hx hb dX0_holds_1 (by decide) (fun c1 => absurd c1 (nI_pos (by omega))) (fun c1 => ?_)
  refine lv_iload_n hx hb dX0_holds_4 rfl (lv_at hl 1 rfl) ?_
  refine lv_aload_n hx hb dX0_holds_5 rfl (lv_at hl 0 rfl) ?_
  refine x_pget (j := 2) C0 hK hS hp hl_p (by decide) kX0_holds_wX0 kX0_holds_f18 dX0_holds_6 ?_
  refine lv_icmp_ge (tgt := 24) hx hb dX0_holds_9 (by decide) (fun c9 => ?_) (fun c9 => ?_)
  · refine lv_iconst (v := 0) hx hb dX0_holds_24 (by decide) ?_
    exact x_retz C0 (by simp only [zb, pg_hd]; simp [Int32.not_lt.mpr c9]) rfl dX0_holds_25
  · refine lv_aload_n hx hb dX0_holds_12 rfl (lv_at hl 0 rfl) ?_
    refine lv_iload_n hx hb dX0_holds_13 rfl (lv_at hl 1 rfl) ?_
    refine x_callr (x_rV C0 hl.1 hK hS (c_X0_sizeOf l G ad R N tl T pl P X pg k hp hl_p (by omega)) (x_con_p hp hl_p) rfl gX0_holds_X0_sizeOf 1 rfl rfl rfl (by decide +kernel) ⟨Nat.le_of_ble_eq_true rfl, Nat.le_of_ble_eq_true rfl⟩ rfl rfl (Nat.le_of_ble_eq_true rfl) dX0_holds_14 ⟨Nat.le_of_ble_eq_true rfl, Nat.le_of_ble_eq_true rfl⟩) ?_
    show W _ _ _ _ _ _ _ _ _ _ _ _ _ _ _ (F0 m 17 ls [.int (pg_sz (P pg) k)])
    refine lv_if_le (tgt := 24) hx hb dX0_holds_17 (by decide) (fun c17 => ?_) (fun c17 => ?_)
    · refine lv_iconst (v := 0) hx hb dX0_holds_24 (by decide) ?_
      exact x_retz C0 (by simp only [zb, pg_hd]; simp [Int32.not_lt.mpr c17]) rfl dX0_holds_25
    · refine lv_iconst (v := 1) hx hb dX0_holds_20 (by decide) ?_
      refine lv_goto (tgt := 25) hx hb dX0_holds_21 (by decide) ?_
      exact x_retz C0 (by simp only [zb, pg_hd]; simp [Int32.not_le.mp c9, Int32.not_le.mp c17]) rfl dX0_holds_25
theorem kX0_freeBytes_wX0 : ∀ w ∈ u_ws RX0 TX0 6, w ∈ wsX0_freeBytes := by decide +kernel
theorem kX0_freeBytes_f18 : Cond.fieldLink RX0 18 "VersionDesk$Page" "slots" "I" ∈ wsX0_freeBytes := by decide +kernel
theorem kX0_freeBytes_f24 : Cond.fieldLink RX0 24 "VersionDesk$Page" "packedFrom" "I" ∈ wsX0_freeBytes := by decide +kernel
set_option maxHeartbeats 4000000 in
set_option maxRecDepth 100000 in
/-- freeBytes -/
theorem c_X0_freeBytes (l : Launch) (G : x_G) (ad : Nat → Nat) (R : Nat → Nat → Int32) (N : Nat → Int64) (tl : Nat → Bool) (T : Nat → Nat → Int32) (pl : Nat → Bool) (P : Nat → Nat → Int32) (X : Nat → Option va_E) (pg : Nat) (hp : pg < 60) (hl_p : pl pg = true) : Met l yX0_freeBytes wsX0_freeBytes ({ frames := 0, cells := 0, slots := 0, locals := 0 } : Room) (x_Pc G ad (x_con G ad R N tl T pl P X) [.ref (ad (16 + pg))]) (x_Qr (some (.int (pg_fb (P pg))))) 0 0 (fun _ => False) := by
  refine x_met (cc := cX0_freeBytes) (maxL := 1) (ret := (some .int)) (by decide) rfl _ (Nat.le_of_ble_eq_true rfl) ?_
  intro p e s m args below meth c C0 hini hK hS ls hl
  have hl : lv_has ls 1 [(0, .ref (ad (16 + pg)))] := hl
  obtain ⟨hx, hb, hr, hml, hown, hts, hlk⟩ := id C0
  refine lv_aload_n hx hb dX0_freeBytes_0 rfl (lv_at hl 0 rfl) ?_
  refine x_pget (j := 4) C0 hK hS hp hl_p (by decide) kX0_freeBytes_wX0 kX0_freeBytes_f24 dX0_freeBytes_1 ?_
  refine lv_iconst (v := 4) hx hb dX0_freeBytes_4 (by decide) ?_
  refine lv_aload_n hx hb dX0_freeBytes_5 rfl (lv_at hl 0 rfl) ?_
  refine x_pget (j := 2) C0 hK hS hp hl_p (by decide) kX0_freeBytes_wX0 kX0_freeBytes_f18 dX0_freeBytes_6 ?_
  refine lv_imul hx hb dX0_freeBytes_9 ?_
  refine lv_isub hx hb dX0_freeBytes_10 ?_
  exact x_reti C0 (rfl) dX0_freeBytes_11
