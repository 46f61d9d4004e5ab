theorem pg_b_N (Z : Nat → Int32) (i : Nat) : pg_b Z i = nI (by_N Z i) := by
  unfold pg_b by_N
  split
  · exact pk_and _ 8 (by decide)
  · rfl
theorem pg_rd_N (Z : Nat → Int32) (a : Nat) : ∀ n, n ≤ 8 → pg_rd Z a n = lN (rd_N Z a n)
  | 0, _ => rfl
  | n + 1, h => by
    have ih := pg_rd_N Z a n (by omega)
    have h1 := rd_N_lt Z a n
    have h2 := by_N_lt Z (a + n)
    have h3 : 256 ^ n ≤ 256 ^ 7 := Nat.pow_le_pow_right (by decide) (by omega)
    simp only [pg_rd, rd_N]
    rw [ih, pg_b_N, nI_l (by omega), show ((8 : Int32).toInt64 &&& 63) = ((nI 8).toInt64 &&& 63) from rfl, wb_shl _ (by decide)]
    exact g_or (k := 8) (by decide) h2 (by omega)
def st_N (Z : Nat → Int32) (k : Nat) : Nat := rd_N Z (4 * k) 2
def sz_N (Z : Nat → Int32) (k : Nat) : Nat := rd_N Z (4 * k + 2) 2
theorem st_N_lt (Z : Nat → Int32) (k : Nat) : st_N Z k < 65536 := rd_N_lt Z _ 2
theorem sz_N_lt (Z : Nat → Int32) (k : Nat) : sz_N Z k < 65536 := rd_N_lt Z _ 2
theorem pg_st_N (Z : Nat → Int32) (k : Nat) : pg_st Z k = nI (st_N Z k) := by unfold pg_st st_N; rw [pg_rd_N _ _ _ (by omega), lN_i]
theorem pg_sz_N (Z : Nat → Int32) (k : Nat) : pg_sz Z k = nI (sz_N Z k) := by unfold pg_sz sz_N; rw [pg_rd_N _ _ _ (by omega), lN_i]
theorem pg_ss_lo (Z : Nat → Int32) (k : Nat) (a z : Int32) (j : Nat) (hj : j < 5) : pg_ss Z k a z j = Z j := by unfold pg_ss; rw [pg_wr_lo _ _ _ _ _ _ hj, pg_wr_lo _ _ _ _ _ _ hj]
def pg_cp (Z : Nat → Int32) (f b a : Nat) : Nat → Int32 := fun j => if j < 5 then Z j else va_cpy (fun i => Z (5 + i)) (fun i => Z (5 + i)) f (f + b) (a - f) (j - 5)
def pg_c1 (a b k : Nat) (Z : Nat → Int32) : Nat → Int32 := if pg_hd Z k && decide (pg_st Z k < nI a) then pg_ss Z k (pg_st Z k + nI b) (pg_sz Z k) else Z
def pg_cl (a b : Nat) : Nat → Nat → (Nat → Int32) → (Nat → Int32)
  | 0, _, Z => Z
  | d + 1, k, Z => pg_cl a b d (k + 1) (pg_c1 a b k Z)
def pg_cg (Z : Nat → Int32) (a b f n : Nat) : Nat → Int32 := if f ≤ a ∧ a + b ≤ 496 then pg_cl a b n 0 (upd (pg_cp Z f b a) 4 (nI (f + b))) else Z
section XCP
variable {p : Program} {l : Launch} {e : Env} {Rm : Room} {s : State} {m : MethodId} {args : Array Value} {below : List Frame} {meth : Method} {c : Code} {H : Heap} {locs : List Loc} {cells slots : Nat} {Q : State → Prop}
variable {cc : ByteArray} {pc nL : Nat} {ret0 : Option FieldType} {own : String} {Ts : List Cond} {ls : Array Slot} {rest : List Value} {G : x_G} {ad : Nat → Nat}
variable {R : Nat → Nat → Int32} {N : Nat → Int64} {tl : Nat → Bool} {T : Nat → Nat → Int32} {pl : Nat → Bool} {P : Nat → Nat → Int32} {X : Nat → Option va_E}
theorem x_pcopy (C0 : x_B p s m meth c args cc nL ret0 own Ts) (hls : ls.size = nL) (hK : x_K G s) (hS : x_H G ad (x_con G ad R N tl T pl P X) H locs) {pg f b a index : Nat} (hp : pg < 60) (hl : pl pg = true) (h1 : f ≤ a) (h2 : a + b ≤ 496) (hl1 : Cond.methodLink own index arraycopyName ∈ Ts) (hl2 : Cond.native arraycopyName ∈ Ts) (hl3 : Cond.static arraycopyName ∈ Ts) (hl4 : Cond.initialized "java/lang/System" ∈ Ts) (hfit : ∀ i, i < 496 → fits .byte (.int (P pg (5 + i))) = true) (hframes : 1 ≤ Rm.frames) (hlocals : (rest.map fun v => v.category).sum + (nativeFrameWords "java/lang/System" "arraycopy" 5 + 11) ≤ Rm.locals) (hdg : decode cc pc = .ok (.invokestatic index, 3))
    (kk : ∀ (H1 : Heap) (locs1 : List Loc), x_H G ad (x_con G ad R N tl T pl (va_up P pg (pg_cp (P pg) f b a)) X) H1 locs1 → W p l e Rm s m args below meth c H1 locs1 cells slots Q (F0 m (pc + 3) ls rest)) : W p l e Rm s m args below meth c H locs cells slots Q (F0 m pc ls (.int (nI (a - f)) :: .int (nI (f + b)) :: .ref (ad (76 + pg)) :: .int (nI f) :: .ref (ad (76 + pg)) :: rest)) := by
  refine x_copyB C0 hls hK hS (x_con_b hp hl) hl1 hl2 hl3 hl4 (nI_pos (by omega)) (nI_pos (by omega)) (nI_pos (by omega)) (by rw [nI_clamp (by omega), nI_clamp (by omega)]; omega) (by rw [nI_clamp (by omega), nI_clamp (by omega)]; omega) (fun i hi => by
    rw [nI_clamp (by omega)] at hi
    rw [nI_clamp (by omega)]
    exact hfit (f + i) (by omega)) hframes hlocals hdg (fun H1 locs1 h => kk H1 locs1 ?_)
  rw [nI_clamp (by omega), nI_clamp (by omega), nI_clamp (by omega), show (.inl (G.2.2 2, 496, .inl (va_cpy (fun i => P pg (5 + i)) (fun i => P pg (5 + i)) f (f + b) (a - f))) : va_E) = x_byE G (pg_cp (P pg) f b a) by
    simp only [x_byE]
    congr 4
    funext q
    unfold pg_cp
    rw [if_neg (by omega), show 5 + q - 5 = q by omega], x_con_bset hp hl (fun q hq => by unfold pg_cp; rw [if_pos hq])] at h
  exact h
end XCP
theorem kX0_closeGap_wX0 : ∀ w ∈ u_ws RX0 TX0 6, w ∈ wsX0_closeGap := by decide +kernel
theorem kX0_closeGap_f18 : Cond.fieldLink RX0 18 "VersionDesk$Page" "slots" "I" ∈ wsX0_closeGap := by decide +kernel
set_option maxHeartbeats 4000000 in
set_option maxRecDepth 100000 in
/-- closeGap: the loop -/
theorem l_X0_closeGap {p : Program} {l : Launch} {e : Env} {s : State} {m : MethodId} {args : Array Value} {below : List Frame} {meth : Method} {c : Code} {G : x_G} {ad : Nat → Nat} {R : Nat → Nat → Int32} {N : Nat → Int64} {tl : Nat → Bool} {T : Nat → Nat → Int32} {pl : Nat → Bool} {P : Nat → Nat → Int32} {X : Nat → Option va_E} (C0 : x_B p s m meth c args cX0_closeGap 4 none RX0 wsX0_closeGap) (hK : x_K G s) {pg a b n : Nat} {F : Nat → Int32} (hp : pg < 60) (hl_p : pl pg = true) (hn : n < 2 ^ 19) : ∀ (d : Nat) (k : Nat) (Z : Nat → Int32) (H : Heap) (locs : List Loc), n - k < d → k ≤ n → Z 2 = nI n → F = pg_cl a b (n - k) k Z → x_H G ad (x_con G ad R N tl T pl (va_up P pg Z) X) H locs → ∀ (ls : Array Slot), lv_has ls 4 [(0, .ref (ad (16 + pg))), (1, .int (nI a)), (2, .int (nI b)), (3, .int (nI k))] → W p l e ({ frames := 3, cells := 0, slots := 0, locals := 68 } : Room) s m args below meth c H locs 0 0 (MQ below (x_Qw G ad (x_con G ad R N tl T pl (va_up P pg F) X) none) args s 0 0 (x_A G)) (F0 m 68 ls []) := by
  obtain ⟨hx, hb, hr, hml, hown, hts, hlk⟩ := id C0
  intro d
  induction d with
  | zero =>
    intro k Z H locs hd hk0 h2 hF hS ls hl
    exact absurd hd (by omega)
  | succ d ih =>
    intro k Z H locs hd hk0 h2 hF hS ls hl
    refine lv_iload_n hx hb dX0_closeGap_68 rfl (lv_at hl 3 rfl) ?_
    refine lv_aload_n hx hb dX0_closeGap_69 rfl (lv_at hl 0 rfl) ?_
    refine x_pget (j := 2) C0 hK hS hp hl_p (by decide) kX0_closeGap_wX0 kX0_closeGap_f18 dX0_closeGap_70 ?_
    rw [va_up_self]
    refine lv_icmp_ge (tgt := 116) hx hb dX0_closeGap_73 (by decide) (fun c73 => ?_) (fun c73 => ?_)
    · have hk := nz_le c73 h2 rfl (by omega) (by omega)
      exact x_wretv C0 hS (by rw [hF, show n - k = 0 by omega]; rfl) dX0_closeGap_116
    · have hk := nz_nle c73 h2 rfl (by omega) (by omega)
      refine lv_aload_n hx hb dX0_closeGap_76 rfl (lv_at hl 0 rfl) ?_
      refine lv_iload_n hx hb dX0_closeGap_77 rfl (lv_at hl 3 rfl) ?_
      refine x_callr (x_rV C0 hl.1 hK hS (c_X0_holds l G ad R N tl T pl (va_up P pg Z) X pg k hp hl_p (by omega)) (x_con_p hp hl_p) rfl gX0_closeGap_X0_holds 1 rfl rfl rfl (by decide +kernel) ⟨Nat.le_of_ble_eq_true rfl, Nat.le_of_ble_eq_true rfl⟩ rfl rfl (Nat.le_of_ble_eq_true rfl) dX0_closeGap_78 ⟨Nat.le_of_ble_eq_true rfl, Nat.le_of_ble_eq_true rfl⟩) ?_
      rw [va_up_self]
      show W _ _ _ _ _ _ _ _ _ _ _ _ _ _ _ (F0 m 81 ls [.int (zb (pg_hd (Z) k))])
      refine lv_if_eq (tgt := 110) hx hb dX0_closeGap_81 (by decide) (fun c81 => ?_) (fun c81 => ?_)
      · refine lv_iinc (v := nI (k + 1)) (lv' := [(3, .int (nI (k + 1))), (0, .ref (ad (16 + pg))), (1, .int (nI a)), (2, .int (nI b))]) hx hb dX0_closeGap_110 hl (k := 3) rfl (nI_1 k) (by decide) rfl (fun ls hl => ?_)
        refine lv_goto (tgt := 68) hx hb dX0_closeGap_113 (by decide) ?_
        exact ih (k + 1) Z _ _ (by omega) (by omega) h2 (by rw [hF, show n - k = (n - (k + 1)) + 1 by omega]; simp only [pg_cl, pg_c1]; rw [zb_eq c81]; rfl) hS ls (lv_sub hl [1, 2, 3, 0] rfl)
      · refine lv_aload_n hx hb dX0_closeGap_84 rfl (lv_at hl 0 rfl) ?_
        refine lv_iload_n hx hb dX0_closeGap_85 rfl (lv_at hl 3 rfl) ?_
        refine x_callr (x_rV C0 hl.1 hK hS (c_X0_startOf l G ad R N tl T pl (va_up P pg Z) X pg k hp hl_p (by omega)) (x_con_p hp hl_p) rfl gX0_closeGap_X0_startOf 1 rfl rfl rfl (by decide +kernel) ⟨Nat.le_of_ble_eq_true rfl, Nat.le_of_ble_eq_true rfl⟩ rfl rfl (Nat.le_of_ble_eq_true rfl) dX0_closeGap_86 ⟨Nat.le_of_ble_eq_true rfl, Nat.le_of_ble_eq_true rfl⟩) ?_
        rw [va_up_self]
        show W _ _ _ _ _ _ _ _ _ _ _ _ _ _ _ (F0 m 89 ls [.int (pg_st (Z) k)])
        refine lv_iload_n hx hb dX0_closeGap_89 rfl (lv_at hl 1 rfl) ?_
        refine lv_icmp_ge (tgt := 110) hx hb dX0_closeGap_90 (by decide) (fun c90 => ?_) (fun c90 => ?_)
        · refine lv_iinc (v := nI (k + 1)) (lv' := [(3, .int (nI (k + 1))), (0, .ref (ad (16 + pg))), (1, .int (nI a)), (2, .int (nI b))]) hx hb dX0_closeGap_110 hl (k := 3) rfl (nI_1 k) (by decide) rfl (fun ls hl => ?_)
          refine lv_goto (tgt := 68) hx hb dX0_closeGap_113 (by decide) ?_
          exact ih (k + 1) Z _ _ (by omega) (by omega) h2 (by rw [hF, show n - k = (n - (k + 1)) + 1 by omega]; simp only [pg_cl, pg_c1]; rw [zb_ne c81, decide_eq_false (Int32.not_lt.mpr c90)]; rfl) hS ls (lv_sub hl [1, 2, 3, 0] rfl)
        · refine lv_aload_n hx hb dX0_closeGap_93 rfl (lv_at hl 0 rfl) ?_
          refine lv_iload_n hx hb dX0_closeGap_94 rfl (lv_at hl 3 rfl) ?_
          refine lv_aload_n hx hb dX0_closeGap_95 rfl (lv_at hl 0 rfl) ?_
          refine lv_iload_n hx hb dX0_closeGap_96 rfl (lv_at hl 3 rfl) ?_
          refine x_callr (x_rV C0 hl.1 hK hS (c_X0_startOf l G ad R N tl T pl (va_up P pg Z) X pg k hp hl_p (by omega)) (x_con_p hp hl_p) rfl gX0_closeGap_X0_startOf 1 rfl rfl rfl (by decide +kernel) ⟨Nat.le_of_ble_eq_true rfl, Nat.le_of_ble_eq_true rfl⟩ rfl rfl (Nat.le_of_ble_eq_true rfl) dX0_closeGap_97 ⟨Nat.le_of_ble_eq_true rfl, Nat.le_of_ble_eq_true rfl⟩) ?_
          rw [va_up_self]
          show W _ _ _ _ _ _ _ _ _ _ _ _ _ _ _ (F0 m 100 ls [.int (pg_st (Z) k), .int (nI k), .ref (ad (16 + pg))])
          refine lv_iload_n hx hb dX0_closeGap_100 rfl (lv_at hl 2 rfl) ?_
          refine lv_iadd hx hb dX0_closeGap_101 ?_
          refine lv_aload_n hx hb dX0_closeGap_102 rfl (lv_at hl 0 rfl) ?_
          refine lv_iload_n hx hb dX0_closeGap_103 rfl (lv_at hl 3 rfl) ?_
          refine x_callr (x_rV C0 hl.1 hK hS (c_X0_sizeOf l G ad R N tl T pl (va_up P pg Z) X pg k hp hl_p (by omega)) (x_con_p hp hl_p) rfl gX0_closeGap_X0_sizeOf 1 rfl rfl rfl (by decide +kernel) ⟨Nat.le_of_ble_eq_true rfl, Nat.le_of_ble_eq_true rfl⟩ rfl rfl (Nat.le_of_ble_eq_true rfl) dX0_closeGap_104 ⟨Nat.le_of_ble_eq_true rfl, Nat.le_of_ble_eq_true rfl⟩) ?_
          rw [va_up_self]
          show W _ _ _ _ _ _ _ _ _ _ _ _ _ _ _ (F0 m 107 ls [.int (pg_sz (Z) k), .int ((pg_st (Z) k) + (nI b)), .int (nI k), .ref (ad (16 + pg))])
          refine x_callw hS (x_rV C0 hl.1 hK hS (c_X0_setSlot l G ad R N tl T pl (va_up P pg Z) X pg k ((pg_st (Z) k) + (nI b)) (pg_sz (Z) k) hp hl_p (by omega)) (x_con_p hp hl_p) rfl gX0_closeGap_X0_setSlot 3 rfl rfl rfl (by decide +kernel) ⟨Nat.le_of_ble_eq_true rfl, Nat.le_of_ble_eq_true rfl⟩ rfl rfl (Nat.le_of_ble_eq_true rfl) dX0_closeGap_107 ⟨Nat.le_of_ble_eq_true rfl, Nat.le_of_ble_eq_true rfl⟩) (fun H locs hS => ?_)
          simp only [va_up_self, bx_uu] at hS
          obtain ⟨Z1, eZ1⟩ : ∃ zz, zz = pg_ss (Z) k ((pg_st (Z) k) + (nI b)) (pg_sz (Z) k) := ⟨_, rfl⟩
          rw [← eZ1] at hS
          show W _ _ _ _ _ _ _ _ _ _ _ _ _ _ _ (F0 m 110 ls [])
          refine lv_iinc (v := nI (k + 1)) (lv' := [(3, .int (nI (k + 1))), (0, .ref (ad (16 + pg))), (1, .int (nI a)), (2, .int (nI b))]) hx hb dX0_closeGap_110 hl (k := 3) rfl (nI_1 k) (by decide) rfl (fun ls hl => ?_)
          refine lv_goto (tgt := 68) hx hb dX0_closeGap_113 (by decide) ?_
          exact ih (k + 1) Z1 _ _ (by omega) (by omega) (by rw [eZ1, pg_ss_lo _ _ _ _ _ (by decide)]; exact h2) (by rw [hF, show n - k = (n - (k + 1)) + 1 by omega, eZ1]; simp only [pg_cl, pg_c1]; rw [zb_ne c81, decide_eq_true (Int32.not_le.mp c90)]; rfl) hS ls (lv_sub hl [1, 2, 3, 0] rfl)
theorem kX0_closeGap_ac0 : Cond.methodLink RX0 58 arraycopyName ∈ wsX0_closeGap := by decide +kernel
theorem kX0_closeGap_ac1 : Cond.native arraycopyName ∈ wsX0_closeGap := by decide +kernel
theorem kX0_closeGap_ac2 : Cond.static arraycopyName ∈ wsX0_closeGap := by decide +kernel
theorem kX0_closeGap_ac3 : Cond.initialized "java/lang/System" ∈ wsX0_closeGap := by decide +kernel
theorem kX0_closeGap_f24 : Cond.fieldLink RX0 24 "VersionDesk$Page" "packedFrom" "I" ∈ wsX0_closeGap := by decide +kernel
theorem kX0_closeGap_f27 : Cond.fieldLink RX0 27 "VersionDesk$Page" "bytes" "[B" ∈ wsX0_closeGap := by decide +kernel
set_option maxHeartbeats 4000000 in
set_option maxRecDepth 100000 in
/-- closeGap -/
theorem c_X0_closeGap (l : Launch) (G : x_G) (ad : Nat → Nat) (R : Nat → Nat → Int32) (N : Nat → Int64) (tl : Nat → Bool) (T : Nat → Nat → Int32) (pl : Nat → Bool) (P : Nat → Nat → Int32) (X : Nat → Option va_E) (pg a b f n : Nat) (hp : pg < 60) (hl_p : pl pg = true) (ha : a < 2 ^ 20) (hb : b < 2 ^ 20) (hf0 : f < 2 ^ 20) (hn : n < 2 ^ 19) (hf : P pg 4 = nI f) (hs : P pg 2 = nI n) (hfit : ∀ i, i < 496 → fits .byte (.int (P pg (5 + i))) = true) : Met l yX0_closeGap wsX0_closeGap ({ frames := 3, cells := 0, slots := 0, locals := 68 } : Room) (x_Pc G ad (x_con G ad R N tl T pl P X) [.ref (ad (16 + pg)), .int (nI a), .int (nI b)]) (x_Qw G ad (x_con G ad R N tl T pl (va_up P pg (pg_cg (P pg) a b f n)) X) none) 0 0 (x_A G) := by
  refine x_met (cc := cX0_closeGap) (maxL := 4) (ret := none) (by decide) rfl _ (Nat.le_of_ble_eq_true rfl) ?_
  intro p e s m args below meth c C0 hini hK hS ls hl
  have hl : lv_has ls 4 [(0, .ref (ad (16 + pg))), (1, .int (nI a)), (2, .int (nI b))] := hl
  obtain ⟨hx, hb, hr, hml, hown, hts, hlk⟩ := id C0
  refine lv_aload_n hx hb dX0_closeGap_0 rfl (lv_at hl 0 rfl) ?_
  refine x_pget (j := 4) C0 hK hS hp hl_p (by decide) kX0_closeGap_wX0 kX0_closeGap_f24 dX0_closeGap_1 ?_
  refine lv_if_lt (tgt := 28) hx hb dX0_closeGap_4 (by decide) (fun c4 => absurd c4 (by rw [hf]; exact nI_pos (by omega))) (fun c4 => ?_)
  refine lv_iload_n hx hb dX0_closeGap_7 rfl (lv_at hl 1 rfl) ?_
  refine lv_aload_n hx hb dX0_closeGap_8 rfl (lv_at hl 0 rfl) ?_
  refine x_pget (j := 4) C0 hK hS hp hl_p (by decide) kX0_closeGap_wX0 kX0_closeGap_f24 dX0_closeGap_9 ?_
  refine lv_icmp_lt (tgt := 28) hx hb dX0_closeGap_12 (by decide) (fun c12 => ?_) (fun c12 => ?_)
  · have hfa := nz_lt c12 rfl hf (by omega) (by omega)
    exact x_wretv C0 hS (by unfold pg_cg; rw [if_neg (by omega), va_up_id]) dX0_closeGap_28
  · have hfa := nz_nlt c12 rfl hf (by omega) (by omega)
    refine lv_iload_n hx hb dX0_closeGap_15 rfl (lv_at hl 2 rfl) ?_
    refine lv_if_lt (tgt := 28) hx hb dX0_closeGap_16 (by decide) (fun c16 => absurd c16 (nI_pos (by omega))) (fun c16 => ?_)
    refine lv_iload_n hx hb dX0_closeGap_19 rfl (lv_at hl 1 rfl) ?_
    refine lv_iload_n hx hb dX0_closeGap_20 rfl (lv_at hl 2 rfl) ?_
    refine lv_iadd hx hb dX0_closeGap_21 ?_
    refine lv_sipush (v := 496) hx hb dX0_closeGap_22 (by decide) ?_
    refine lv_icmp_le (tgt := 29) hx hb dX0_closeGap_25 (by decide) (fun c25 => ?_) (fun c25 => ?_)
    · have hab := nz_le (b := 496) c25 (nI_add a b) rfl (by omega) (by omega)
      refine lv_aload_n hx hb dX0_closeGap_29 rfl (lv_at hl 0 rfl) ?_
      refine x_pgetb C0 hK hS hp hl_p kX0_closeGap_wX0 kX0_closeGap_f27 dX0_closeGap_30 ?_
      refine lv_aload_n hx hb dX0_closeGap_33 rfl (lv_at hl 0 rfl) ?_
      refine x_pget (j := 4) C0 hK hS hp hl_p (by decide) kX0_closeGap_wX0 kX0_closeGap_f24 dX0_closeGap_34 ?_
      refine lv_aload_n hx hb dX0_closeGap_37 rfl (lv_at hl 0 rfl) ?_
      refine x_pgetb C0 hK hS hp hl_p kX0_closeGap_wX0 kX0_closeGap_f27 dX0_closeGap_38 ?_
      refine lv_aload_n hx hb dX0_closeGap_41 rfl (lv_at hl 0 rfl) ?_
      refine x_pget (j := 4) C0 hK hS hp hl_p (by decide) kX0_closeGap_wX0 kX0_closeGap_f24 dX0_closeGap_42 ?_
      refine lv_iload_n hx hb dX0_closeGap_45 rfl (lv_at hl 2 rfl) ?_
      refine lv_iadd hx hb dX0_closeGap_46 ?_
      refine lv_iload_n hx hb dX0_closeGap_47 rfl (lv_at hl 1 rfl) ?_
      refine lv_aload_n hx hb dX0_closeGap_48 rfl (lv_at hl 0 rfl) ?_
      refine x_pget (j := 4) C0 hK hS hp hl_p (by decide) kX0_closeGap_wX0 kX0_closeGap_f24 dX0_closeGap_49 ?_
      refine lv_isub hx hb dX0_closeGap_52 ?_
      rw [hf, pk_sub hfa, nI_add]
      refine x_pcopy (pg := pg) (f := f) (b := b) (a := a) C0 hl.1 hK hS hp hl_p hfa hab kX0_closeGap_ac0 kX0_closeGap_ac1 kX0_closeGap_ac2 kX0_closeGap_ac3 hfit (Nat.le_of_ble_eq_true rfl) (by decide) dX0_closeGap_53 (fun H locs hS => ?_)
      obtain ⟨Z1, eZ1⟩ : ∃ zz, zz = pg_cp (P pg) f b a := ⟨_, rfl⟩
      rw [← eZ1] at hS
      refine lv_aload_n hx hb dX0_closeGap_56 rfl (lv_at hl 0 rfl) ?_
      refine lv_dup hx hb dX0_closeGap_57 rfl ?_
      refine x_pget (j := 4) C0 hK hS hp hl_p (by decide) kX0_closeGap_wX0 kX0_closeGap_f24 dX0_closeGap_58 ?_
      rw [va_up_self]
      refine lv_iload_n hx hb dX0_closeGap_61 rfl (lv_at hl 2 rfl) ?_
      refine lv_iadd hx hb dX0_closeGap_62 ?_
      refine lv_topi (fun x2 ex2 => ?_)
      refine x_pput (j := 4) C0 hK hS hp hl_p (by decide) kX0_closeGap_wX0 kX0_closeGap_f24 dX0_closeGap_63 (fun H locs hS => ?_)
      simp only [va_up_self, bx_uu] at hS
      obtain ⟨Z3, eZ3⟩ : ∃ zz, zz = upd (Z1) 4 x2 := ⟨_, rfl⟩
      rw [← eZ3] at hS
      refine lv_iconst (v := 0) hx hb dX0_closeGap_66 (by decide) ?_
      refine lv_istore_n (lv' := [(3, .int 0), (0, .ref (ad (16 + pg))), (1, .int (nI a)), (2, .int (nI b))]) hx hb dX0_closeGap_67 rfl hl (by decide) rfl (fun ls hl => ?_)
      have h4 : Z1 4 = nI f := by rw [eZ1]; exact hf
      exact l_X0_closeGap (F := pg_cg (P pg) a b f n) C0 hK hp hl_p hn (n + 1) 0 _ _ _ (by omega) (by omega) (by rw [eZ3, pk_un (by decide), eZ1]; exact hs) (by rw [eZ3, ex2, h4, nI_add, eZ1]; unfold pg_cg; rw [if_pos ⟨hfa, hab⟩]; rfl) hS ls (lv_sub hl [1, 2, 3, 0] rfl)
    · have hab := nz_nle (b := 496) c25 (nI_add a b) rfl (by omega) (by omega)
      exact x_wretv C0 hS (by unfold pg_cg; rw [if_neg (by omega), va_up_id]) dX0_closeGap_28
def pg_rm (Z : Nat → Int32) (k f n : Nat) : Nat → Int32 :=
  let Y := pg_ss (pg_cg Z (st_N Z k) (sz_N Z k) f n) k 0 0
  upd Y 3 (Y 3 - 1)
theorem kX0_remove_wX0 : ∀ w ∈ u_ws RX0 TX0 6, w ∈ wsX0_remove := by decide +kernel
theorem kX0_remove_f21 : Cond.fieldLink RX0 21 "VersionDesk$Page" "versions" "I" ∈ wsX0_remove := by decide +kernel
set_option maxHeartbeats 4000000 in
set_option maxRecDepth 100000 in
/-- remove -/
theorem c_X0_remove (l : Launch) (G : x_G) (ad : Nat → Nat) (R : Nat → Nat → Int32) (N : Nat → Int64) (tl : Nat → Bool) (T : Nat → Nat → Int32) (pl : Nat → Bool) (P : Nat → Nat → Int32) (X : Nat → Option va_E) (pg k f n : Nat) (hp : pg < 60) (hl_p : pl pg = true) (hk : k < 2 ^ 20) (hf0 : f < 2 ^ 20) (hn : n < 2 ^ 19) (hf : P pg 4 = nI f) (hs : P pg 2 = nI n) (hfit : ∀ i, i < 496 → fits .byte (.int (P pg (5 + i))) = true) : Met l yX0_remove wsX0_remove ({ frames := 4, cells := 0, slots := 0, locals := 91 } : Room) (x_Pc G ad (x_con G ad R N tl T pl P X) [.ref (ad (16 + pg)), .int (nI k)]) (x_Qw G ad (x_con G ad R N tl T pl (va_up P pg (pg_rm (P pg) k f n)) X) none) 0 0 (x_A G) := by
  refine x_met (cc := cX0_remove) (maxL := 4) (ret := none) (by decide) rfl _ (Nat.le_of_ble_eq_true rfl) ?_
  intro p e s m args below meth c C0 hini hK hS ls hl
  have hl : lv_has ls 4 [(0, .ref (ad (16 + pg))), (1, .int (nI k))] := hl
  obtain ⟨hx, hb, hr, hml, hown, hts, hlk⟩ := id C0
  refine lv_aload_n hx hb dX0_remove_0 rfl (lv_at hl 0 rfl) ?_
  refine lv_iload_n hx hb dX0_remove_1 rfl (lv_at hl 1 rfl) ?_
  refine x_callr (x_rV C0 hl.1 hK hS (c_X0_startOf l G ad R N tl T pl P X pg k hp hl_p (by omega)) (x_con_p hp hl_p) rfl gX0_remove_X0_startOf 1 rfl rfl rfl (by decide +kernel) ⟨Nat.le_of_ble_eq_true rfl, Nat.le_of_ble_eq_true rfl⟩ rfl rfl (Nat.le_of_ble_eq_true rfl) dX0_remove_2 ⟨Nat.le_of_ble_eq_true rfl, Nat.le_of_ble_eq_true rfl⟩) ?_
  show W _ _ _ _ _ _ _ _ _ _ _ _ _ _ _ (F0 m 5 ls [.int (pg_st (P pg) k)])
  rw [pg_st_N]
  refine lv_istore_n (lv' := [(2, .int (nI (st_N (P pg) k))), (0, .ref (ad (16 + pg))), (1, .int (nI k))]) hx hb dX0_remove_5 rfl hl (by decide) rfl (fun ls hl => ?_)
  refine lv_aload_n hx hb dX0_remove_6 rfl (lv_at hl 1 rfl) ?_
  refine lv_iload_n hx hb dX0_remove_7 rfl (lv_at hl 2 rfl) ?_
  refine x_callr (x_rV C0 hl.1 hK hS (c_X0_sizeOf l G ad R N tl T pl P X pg k hp hl_p (by omega)) (x_con_p hp hl_p) rfl gX0_remove_X0_sizeOf 1 rfl rfl rfl (by decide +kernel) ⟨Nat.le_of_ble_eq_true rfl, Nat.le_of_ble_eq_true rfl⟩ rfl rfl (Nat.le_of_ble_eq_true rfl) dX0_remove_8 ⟨Nat.le_of_ble_eq_true rfl, Nat.le_of_ble_eq_true rfl⟩) ?_
  show W _ _ _ _ _ _ _ _ _ _ _ _ _ _ _ (F0 m 11 ls [.int (pg_sz (P pg) k)])
  rw [pg_sz_N]
  refine lv_istore_n (lv' := [(3, .int (nI (sz_N (P pg) k))), (2, .int (nI (st_N (P pg) k))), (0, .ref (ad (16 + pg))), (1, .int (nI k))]) hx hb dX0_remove_11 rfl hl (by decide) rfl (fun ls hl => ?_)
  refine lv_aload_n hx hb dX0_remove_12 rfl (lv_at hl 2 rfl) ?_
  refine lv_iload_n hx hb dX0_remove_13 rfl (lv_at hl 1 rfl) ?_
  refine lv_iload_n hx hb dX0_remove_14 rfl (lv_at hl 0 rfl) ?_
  refine x_callw hS (x_rV C0 hl.1 hK hS (c_X0_closeGap l G ad R N tl T pl P X pg (st_N (P pg) k) (sz_N (P pg) k) f n hp hl_p (by have := st_N_lt (P pg) k; omega) (by have := sz_N_lt (P pg) k; omega) hf0 hn hf hs hfit) (x_con_p hp hl_p) rfl gX0_remove_X0_closeGap 2 rfl rfl rfl (by decide +kernel) ⟨Nat.le_of_ble_eq_true rfl, Nat.le_of_ble_eq_true rfl⟩ rfl rfl (Nat.le_of_ble_eq_true rfl) dX0_remove_15 ⟨Nat.le_of_ble_eq_true rfl, Nat.le_of_ble_eq_true rfl⟩) (fun H locs hS => ?_)
  obtain ⟨Z1, eZ1⟩ : ∃ zz, zz = pg_cg (P pg) (st_N (P pg) k) (sz_N (P pg) k) f n := ⟨_, rfl⟩
  rw [← eZ1] at hS
  show W _ _ _ _ _ _ _ _ _ _ _ _ _ _ _ (F0 m 18 ls [])
  refine lv_aload_n hx hb dX0_remove_18 rfl (lv_at hl 2 rfl) ?_
  refine lv_iload_n hx hb dX0_remove_19 rfl (lv_at hl 3 rfl) ?_
  refine lv_iconst (v := 0) hx hb dX0_remove_20 (by decide) ?_
  refine lv_iconst (v := 0) hx hb dX0_remove_21 (by decide) ?_
  refine x_callw hS (x_rV C0 hl.1 hK hS (c_X0_setSlot l G ad R N tl T pl (va_up P pg Z1) X pg k 0 0 hp hl_p (by omega)) (x_con_p hp hl_p) rfl gX0_remove_X0_setSlot 3 rfl rfl rfl (by decide +kernel) ⟨Nat.le_of_ble_eq_true rfl, Nat.le_of_ble_eq_true rfl⟩ rfl rfl (Nat.le_of_ble_eq_true rfl) dX0_remove_22 ⟨Nat.le_of_ble_eq_true rfl, Nat.le_of_ble_eq_true rfl⟩) (fun H locs hS => ?_)
  simp only [va_up_self, bx_uu] at hS
  obtain ⟨Z2, eZ2⟩ : ∃ zz, zz = pg_ss (Z1) k 0 0 := ⟨_, rfl⟩
  rw [← eZ2] at hS
  show W _ _ _ _ _ _ _ _ _ _ _ _ _ _ _ (F0 m 25 ls [])
  refine lv_aload_n hx hb dX0_remove_25 rfl (lv_at hl 2 rfl) ?_
  refine lv_dup hx hb dX0_remove_26 rfl ?_
  refine x_pget (j := 3) C0 hK hS hp hl_p (by decide) kX0_remove_wX0 kX0_remove_f21 dX0_remove_27 ?_
  rw [va_up_self]
  refine lv_iconst (v := 1) hx hb dX0_remove_30 (by decide) ?_
  refine lv_isub hx hb dX0_remove_31 ?_
  refine lv_topi (fun x3 ex3 => ?_)
  refine x_pput (j := 3) C0 hK hS hp hl_p (by decide) kX0_remove_wX0 kX0_remove_f21 dX0_remove_32 (fun H locs hS => ?_)
  simp only [va_up_self, bx_uu] at hS
  obtain ⟨Z4, eZ4⟩ : ∃ zz, zz = upd (Z2) 3 x3 := ⟨_, rfl⟩
  rw [← eZ4] at hS
  exact x_wretv C0 hS (by subst_vars; rfl) dX0_remove_35
