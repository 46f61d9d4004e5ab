-- ===== the reference: take =====
def Tp_ok (M : Nat → Nat → Int32) (mn : Nat) : Prop := ∀ k q, k < mn → M 7 k = nI q → q < 15360 → ∃ t, t < 8 ∧ M 3 (q / 256) = nI t
def y_t1 (p : Nat) (t : Int32) (q : Nat) (M : Nat → Nat → Int32) : Nat → Nat → Int32 := va_up M 5 (upd (M 5) q (if M 3 q = t ∧ M 5 q = nI p then M 5 p else M 5 q))
def y_tl (p : Nat) (t : Int32) : Nat → Nat → (Nat → Nat → Int32) → (Nat → Nat → Int32)
  | 0, _, M => M
  | d + 1, q, M => y_tl p t d (q + 1) (y_t1 p t q M)
def y_ta9 (M1 : Nat → Nat → Int32) (e p : Nat) : Nat → Nat → Int32 := if y_vn M1 (nI p) e = 0 ∧ M1 2 (M1 3 p).toNatClampNeg ≠ nI p then va_up (y_tl p (M1 3 p) 60 0 M1) 3 (upd (y_tl p (M1 3 p) 60 0 M1 3) p (-1)) else M1
def y_taM (M : Nat → Nat → Int32) (mn : Nat) (a f : Int32) : Nat → Nat → Int32 := if f < 0 then M else y_ta9 (y_d0 M f.toNatClampNeg (mn - 1) 8) (mn - 1) (a.toNatClampNeg / 256)
theorem kX4_take_wX4 : ∀ w ∈ u_ws RX4 TX4 22, w ∈ wsX4_take := by decide +kernel
theorem kX4_take_f19 : Cond.fieldLink RX4 19 "VersionDeskModel" "tableOf" "[I" ∈ wsX4_take := by decide +kernel
theorem kX4_take_f25 : Cond.fieldLink RX4 25 "VersionDeskModel" "follows" "[I" ∈ wsX4_take := by decide +kernel
set_option maxHeartbeats 4000000 in
set_option maxRecDepth 100000 in
theorem l_X4_take {p : Program} {l : Launch} {e : Env} {s : State} {m : MethodId} {args : Array Value} {below : List Frame} {meth : Method} {c : Code} {G : x_G} {ad : Nat → Nat} {D : Nat → Option va_E} {V : Nat → Int64} (C0 : x_B p s m meth c args cX4_take 6 (some .boolean) RX4 wsX4_take) (hK : x_K G s) {k p1 tt : Nat} {a9 : Int32} {F : Nat → Nat → Int32} (hp : p1 < 60) : ∀ (d : Nat) (i : Nat) (M : Nat → Nat → Int32) (H : Heap) (locs : List Loc), 60 - i < d → i ≤ 60 → F = y_tl p1 (nI tt) (60 - i) i M → x_H G ad (y_con G ad D M V) H locs → ∀ (ls : Array Slot), lv_has ls 6 [(0, .ref (ad 200)), (1, .int a9), (2, .int (nI k)), (3, .int (nI p1)), (4, .int (nI tt)), (5, .int (nI i))] → W p l e ({ frames := 1, cells := 0, slots := 0, locals := 23 } : Room) s m args below meth c H locs 0 0 (MQ below (x_Qw G ad (y_con G ad D (va_up F 3 (upd (F 3) p1 (-1))) V) (some (.int 1))) args s 0 0 (x_A G)) (F0 m 53 ls []) := by
  obtain ⟨hx, hb, hr, hml, hown, hts, hlk⟩ := id C0
  intro d
  induction d with
  | zero =>
    intro i M H locs hd hi hF hS ls hl
    exact absurd hd (by omega)
  | succ d ih =>
    intro i M H locs hd hi hF hS ls hl
    refine lv_iload hx hb dX4_take_53 (lv_at hl 5 rfl) ?_
    refine lv_bipush (v := 60) hx hb dX4_take_55 (by decide) ?_
    refine lv_icmp_ge (tgt := 112) hx hb dX4_take_57 (by decide) (fun c57 => ?_) (fun c57 => ?_)
    · have hi2 := nz_le (a := 60) c57 rfl rfl (by omega) (by omega)
      refine lv_aload_n hx hb dX4_take_112 rfl (lv_at hl 0 rfl) ?_
      refine y_get (j := 3) C0 hK hS (by decide) (by decide) kX4_take_wX4 kX4_take_f19 dX4_take_113 ?_
      refine lv_iload_n hx hb dX4_take_116 rfl (lv_at hl 3 rfl) ?_
      refine lv_iconst (v := (-1)) hx hb dX4_take_117 (by decide) ?_
      refine y_iast (j := 3) (i := p1) (n := 60) C0 hK hS (by decide) (by decide) (by decide) (by omega) rfl dX4_take_118 (fun H locs hS => ?_)
      obtain ⟨M1, eM1⟩ : ∃ zz, zz = va_up M 3 (upd (M 3) p1 (-1)) := ⟨_, rfl⟩
      rw [← eM1] at hS
      refine lv_iconst (v := 1) hx hb dX4_take_119 (by decide) ?_
      exact x_wretz C0 hS (by rw [eM1, hF, show 60 - i = 0 by omega]; rfl) rfl rfl dX4_take_120
    · have hi2 := nz_nle (a := 60) c57 rfl rfl (by omega) (by omega)
      refine lv_aload_n hx hb dX4_take_60 rfl (lv_at hl 0 rfl) ?_
      refine y_get (j := 5) C0 hK hS (by decide) (by decide) kX4_take_wX4 kX4_take_f25 dX4_take_61 ?_
      refine lv_iload hx hb dX4_take_64 (lv_at hl 5 rfl) ?_
      refine lv_aload_n hx hb dX4_take_66 rfl (lv_at hl 0 rfl) ?_
      refine y_get (j := 3) C0 hK hS (by decide) (by decide) kX4_take_wX4 kX4_take_f19 dX4_take_67 ?_
      refine lv_iload hx hb dX4_take_70 (lv_at hl 5 rfl) ?_
      refine y_iald (j := 3) (i := i) (n := 60) C0 hK hS (by decide) (by decide) (by decide) (by omega) rfl dX4_take_72 ?_
      refine lv_iload hx hb dX4_take_73 (lv_at hl 4 rfl) ?_
      refine lv_icmp_ne (tgt := 98) hx hb dX4_take_75 (by decide) (fun c75 => ?_) (fun c75 => ?_)
      · refine lv_aload_n hx hb dX4_take_98 rfl (lv_at hl 0 rfl) ?_
        refine y_get (j := 5) C0 hK hS (by decide) (by decide) kX4_take_wX4 kX4_take_f25 dX4_take_99 ?_
        refine lv_iload hx hb dX4_take_102 (lv_at hl 5 rfl) ?_
        refine y_iald (j := 5) (i := i) (n := 60) C0 hK hS (by decide) (by decide) (by decide) (by omega) rfl dX4_take_104 ?_
        refine y_iast (j := 5) (i := i) (n := 60) C0 hK hS (by decide) (by decide) (by decide) (by omega) rfl dX4_take_105 (fun H locs hS => ?_)
        obtain ⟨M2, eM2⟩ : ∃ zz, zz = va_up M 5 (upd (M 5) i (M 5 i)) := ⟨_, rfl⟩
        rw [← eM2] at hS
        refine lv_iinc (v := nI (i + 1)) (lv' := [(5, .int (nI (i + 1))), (0, .ref (ad 200)), (1, .int a9), (2, .int (nI k)), (3, .int (nI p1)), (4, .int (nI tt))]) hx hb dX4_take_106 hl (k := 5) rfl (nI_1 i) (by decide) rfl (fun ls hl => ?_)
        refine lv_goto (tgt := 53) hx hb dX4_take_109 (by decide) ?_
        exact ih (i + 1) _ _ _ (by omega) (by omega) (by rw [hF, show 60 - i = (60 - (i + 1)) + 1 by omega, eM2]; simp only [y_tl, y_t1]; rw [if_neg (fun z => c75 z.1)]) hS ls (lv_sub hl [1, 2, 3, 4, 5, 0] rfl)
      · refine lv_aload_n hx hb dX4_take_78 rfl (lv_at hl 0 rfl) ?_
        refine y_get (j := 5) C0 hK hS (by decide) (by decide) kX4_take_wX4 kX4_take_f25 dX4_take_79 ?_
        refine lv_iload hx hb dX4_take_82 (lv_at hl 5 rfl) ?_
        refine y_iald (j := 5) (i := i) (n := 60) C0 hK hS (by decide) (by decide) (by decide) (by omega) rfl dX4_take_84 ?_
        refine lv_iload_n hx hb dX4_take_85 rfl (lv_at hl 3 rfl) ?_
        refine lv_icmp_ne (tgt := 98) hx hb dX4_take_86 (by decide) (fun c86 => ?_) (fun c86 => ?_)
        · refine lv_aload_n hx hb dX4_take_98 rfl (lv_at hl 0 rfl) ?_
          refine y_get (j := 5) C0 hK hS (by decide) (by decide) kX4_take_wX4 kX4_take_f25 dX4_take_99 ?_
          refine lv_iload hx hb dX4_take_102 (lv_at hl 5 rfl) ?_
          refine y_iald (j := 5) (i := i) (n := 60) C0 hK hS (by decide) (by decide) (by decide) (by omega) rfl dX4_take_104 ?_
          refine y_iast (j := 5) (i := i) (n := 60) C0 hK hS (by decide) (by decide) (by decide) (by omega) rfl dX4_take_105 (fun H locs hS => ?_)
          obtain ⟨M3, eM3⟩ : ∃ zz, zz = va_up M 5 (upd (M 5) i (M 5 i)) := ⟨_, rfl⟩
          rw [← eM3] at hS
          refine lv_iinc (v := nI (i + 1)) (lv' := [(5, .int (nI (i + 1))), (0, .ref (ad 200)), (1, .int a9), (2, .int (nI k)), (3, .int (nI p1)), (4, .int (nI tt))]) hx hb dX4_take_106 hl (k := 5) rfl (nI_1 i) (by decide) rfl (fun ls hl => ?_)
          refine lv_goto (tgt := 53) hx hb dX4_take_109 (by decide) ?_
          exact ih (i + 1) _ _ _ (by omega) (by omega) (by rw [hF, show 60 - i = (60 - (i + 1)) + 1 by omega, eM3]; simp only [y_tl, y_t1]; rw [if_neg (fun z => c86 z.2)]) hS ls (lv_sub hl [1, 2, 3, 4, 5, 0] rfl)
        · refine lv_aload_n hx hb dX4_take_89 rfl (lv_at hl 0 rfl) ?_
          refine y_get (j := 5) C0 hK hS (by decide) (by decide) kX4_take_wX4 kX4_take_f25 dX4_take_90 ?_
          refine lv_iload_n hx hb dX4_take_93 rfl (lv_at hl 3 rfl) ?_
          refine y_iald (j := 5) (i := p1) (n := 60) C0 hK hS (by decide) (by decide) (by decide) (by omega) rfl dX4_take_94 ?_
          refine lv_goto (tgt := 105) hx hb dX4_take_95 (by decide) ?_
          refine y_iast (j := 5) (i := i) (n := 60) C0 hK hS (by decide) (by decide) (by decide) (by omega) rfl dX4_take_105 (fun H locs hS => ?_)
          obtain ⟨M4, eM4⟩ : ∃ zz, zz = va_up M 5 (upd (M 5) i (M 5 p1)) := ⟨_, rfl⟩
          rw [← eM4] at hS
          refine lv_iinc (v := nI (i + 1)) (lv' := [(5, .int (nI (i + 1))), (0, .ref (ad 200)), (1, .int a9), (2, .int (nI k)), (3, .int (nI p1)), (4, .int (nI tt))]) hx hb dX4_take_106 hl (k := 5) rfl (nI_1 i) (by decide) rfl (fun ls hl => ?_)
          refine lv_goto (tgt := 53) hx hb dX4_take_109 (by decide) ?_
          exact ih (i + 1) _ _ _ (by omega) (by omega) (by rw [hF, show 60 - i = (60 - (i + 1)) + 1 by omega, eM4]; simp only [y_tl, y_t1]; rw [if_pos ⟨c75, c86⟩]) hS ls (lv_sub hl [1, 2, 3, 4, 5, 0] rfl)
theorem kX4_take_f16 : Cond.fieldLink RX4 16 "VersionDeskModel" "first" "[I" ∈ wsX4_take := by decide +kernel
set_option maxHeartbeats 4000000 in
set_option maxRecDepth 100000 in
/-- take -/
theorem c_X4_take (l : Launch) (G : x_G) (ad : Nat → Nat) (D : Nat → Option va_E) (M : Nat → Nat → Int32) (V : Nat → Int64) (a0 : Int32) (mn : Nat) (hmn : M 6 0 = nI mn) (hm : mn ≤ 514) (hPl : Pl_ok M mn) (hTp : Tp_ok M mn) (hsh : S_ok M) : Met l yX4_take wsX4_take ({ frames := 1, cells := 0, slots := 0, locals := 23 } : Room) (x_Pc G ad (y_con G ad D M V) [.ref (ad 200), .int a0]) (x_Qw G ad (y_con G ad D (y_taM M mn a0 (y_fd M a0 mn)) V) (some (.int (zb (!decide (y_fd M a0 mn < 0)))))) 0 0 (x_A G) := by
  refine x_met (cc := cX4_take) (maxL := 6) (ret := (some .boolean)) (by decide) rfl _ (Nat.le_of_ble_eq_true rfl) ?_
  intro p e s m args below meth c C0 hini hK hS ls hl
  have hl : lv_has ls 6 [(0, .ref (ad 200)), (1, .int a0)] := hl
  obtain ⟨hx, hb, hr, hml, hown, hts, hlk⟩ := id C0
  refine lv_aload_n hx hb dX4_take_0 rfl (lv_at hl 0 rfl) ?_
  refine lv_iload_n hx hb dX4_take_1 rfl (lv_at hl 1 rfl) ?_
  refine x_callr (x_rV C0 hl.1 hK hS (c_X4_find l G ad D M V a0 mn hmn hm) (show y_con G ad D M V 200 = some (x_mo ad M) from rfl) rfl gX4_take_X4_find 1 rfl rfl rfl (by decide +kernel) ⟨Nat.le_of_ble_eq_true rfl, Nat.le_of_ble_eq_true rfl⟩ rfl rfl (Nat.le_of_ble_eq_true rfl) dX4_take_2 ⟨Nat.le_of_ble_eq_true rfl, Nat.le_of_ble_eq_true rfl⟩) ?_
  show W _ _ _ _ _ _ _ _ _ _ _ _ _ _ _ (F0 m 5 ls [.int (y_fd M a0 mn)])
  rcases y_fd_N M a0 mn with hfd | ⟨k, hk, hfd, hpk⟩
  · rw [hfd]
    refine lv_istore_n (lv' := [(2, .int (-1)), (0, .ref (ad 200)), (1, .int a0)]) hx hb dX4_take_5 rfl hl (by decide) rfl (fun ls hl => ?_)
    refine lv_iload_n hx hb dX4_take_6 rfl (lv_at hl 0 rfl) ?_
    refine lv_if_ge (tgt := 12) hx hb dX4_take_7 (by decide) (fun c7 => absurd c7 (by decide)) (fun c7 => ?_)
    refine lv_iconst (v := 0) hx hb dX4_take_10 (by decide) ?_
    exact x_wretz C0 hS (by unfold y_taM; rw [if_pos neg1_lt]) rfl rfl dX4_take_11
  · rw [hfd]
    obtain ⟨q, hq, hpq⟩ := hPl k hk
    obtain rfl : a0 = nI q := hpk.symm.trans hpq
    obtain ⟨tt, htt, hT3⟩ := hTp k q hk hpq hq
    obtain ⟨e1, rfl⟩ : ∃ e1, mn = e1 + 1 := ⟨mn - 1, by omega⟩
    refine lv_istore_n (lv' := [(2, .int (nI k)), (0, .ref (ad 200)), (1, .int (nI q))]) hx hb dX4_take_5 rfl hl (by decide) rfl (fun ls hl => ?_)
    refine lv_iload_n hx hb dX4_take_6 rfl (lv_at hl 0 rfl) ?_
    refine lv_if_ge (tgt := 12) hx hb dX4_take_7 (by decide) (fun c7 => ?_) (fun c7 => absurd (nI_pos' (by omega)) c7)
    refine lv_iload_n hx hb dX4_take_12 rfl (lv_at hl 2 rfl) ?_
    refine lv_sipush (v := 256) hx hb dX4_take_13 (by decide) ?_
    refine lv_idiv hx hb dX4_take_16 (by decide) ?_
    rw [show nI q / 256 = nI (q / 256) from pk_div (d := 256) (by omega) (by decide) (by decide)]
    refine lv_istore_n (lv' := [(3, .int (nI (q / 256))), (2, .int (nI k)), (0, .ref (ad 200)), (1, .int (nI q))]) hx hb dX4_take_17 rfl hl (by decide) rfl (fun ls hl => ?_)
    refine lv_aload_n hx hb dX4_take_18 rfl (lv_at hl 2 rfl) ?_
    refine lv_iload_n hx hb dX4_take_19 rfl (lv_at hl 1 rfl) ?_
    refine x_callw hS (x_rV C0 hl.1 hK hS (c_X4_drop0 l G ad D M V k e1 (by omega) (by omega) hmn hsh) (show y_con G ad D M V 200 = some (x_mo ad M) from rfl) rfl gX4_take_X4_drop0 1 rfl rfl rfl (by decide +kernel) ⟨Nat.le_of_ble_eq_true rfl, Nat.le_of_ble_eq_true rfl⟩ rfl rfl (Nat.le_of_ble_eq_true rfl) dX4_take_20 ⟨Nat.le_of_ble_eq_true rfl, Nat.le_of_ble_eq_true rfl⟩) (fun H locs hS => ?_)
    obtain ⟨M1, eM1⟩ : ∃ zz, zz = y_d0 M k e1 8 := ⟨_, rfl⟩
    rw [← eM1] at hS
    have h6 : M1 6 0 = nI e1 := y_d0_6 eM1
    have h3 : M1 3 (q / 256) = nI tt := by rw [eM1]; exact hT3
    show W _ _ _ _ _ _ _ _ _ _ _ _ _ _ _ (F0 m 23 ls [])
    refine lv_aload_n hx hb dX4_take_23 rfl (lv_at hl 2 rfl) ?_
    refine y_get (j := 3) C0 hK hS (by decide) (by decide) kX4_take_wX4 kX4_take_f19 dX4_take_24 ?_
    refine lv_iload_n hx hb dX4_take_27 rfl (lv_at hl 0 rfl) ?_
    refine y_iald (j := 3) (i := q / 256) (n := 60) C0 hK hS (by decide) (by decide) (by decide) (by omega) rfl dX4_take_28 ?_
    rw [h3]
    refine lv_istore (lv' := [(4, .int (nI tt)), (3, .int (nI (q / 256))), (2, .int (nI k)), (0, .ref (ad 200)), (1, .int (nI q))]) hx hb dX4_take_29 hl (by decide) rfl (fun ls hl => ?_)
    refine lv_aload_n hx hb dX4_take_31 rfl (lv_at hl 3 rfl) ?_
    refine lv_iload_n hx hb dX4_take_32 rfl (lv_at hl 1 rfl) ?_
    refine x_callr (x_rV C0 hl.1 hK hS (c_X4_versionsIn l G ad D M1 V (nI (q / 256)) e1 h6 (by omega)) (show y_con G ad D M1 V 200 = some (x_mo ad M1) from rfl) rfl gX4_take_X4_versionsIn 1 rfl rfl rfl (by decide +kernel) ⟨Nat.le_of_ble_eq_true rfl, Nat.le_of_ble_eq_true rfl⟩ rfl rfl (Nat.le_of_ble_eq_true rfl) dX4_take_33 ⟨Nat.le_of_ble_eq_true rfl, Nat.le_of_ble_eq_true rfl⟩) ?_
    show W _ _ _ _ _ _ _ _ _ _ _ _ _ _ _ (F0 m 36 ls [.int (y_vn M1 (nI (q / 256)) e1)])
    refine lv_if_ne (tgt := 119) hx hb dX4_take_36 (by decide) (fun c36 => ?_) (fun c36 => ?_)
    · refine lv_iconst (v := 1) hx hb dX4_take_119 (by decide) ?_
      exact x_wretz C0 hS (by unfold y_taM; rw [if_neg (nI_pos (by omega)), nI_clamp (by omega), nI_clamp (by omega), show e1 + 1 - 1 = e1 by omega, ← eM1]; unfold y_ta9; rw [h3, nI_clamp (by omega), if_neg (fun z => c36 z.1)]) (by rw [decide_eq_false (nI_pos (by omega))]; rfl) rfl dX4_take_120
    · refine lv_aload_n hx hb dX4_take_39 rfl (lv_at hl 3 rfl) ?_
      refine y_get (j := 2) C0 hK hS (by decide) (by decide) kX4_take_wX4 kX4_take_f16 dX4_take_40 ?_
      refine lv_iload hx hb dX4_take_43 (lv_at hl 0 rfl) ?_
      refine y_iald (j := 2) (i := tt) (n := 8) C0 hK hS (by decide) (by decide) (by decide) (by omega) rfl dX4_take_45 ?_
      refine lv_iload_n hx hb dX4_take_46 rfl (lv_at hl 1 rfl) ?_
      refine lv_icmp_eq (tgt := 119) hx hb dX4_take_47 (by decide) (fun c47 => ?_) (fun c47 => ?_)
      · refine lv_iconst (v := 1) hx hb dX4_take_119 (by decide) ?_
        exact x_wretz C0 hS (by unfold y_taM; rw [if_neg (nI_pos (by omega)), nI_clamp (by omega), nI_clamp (by omega), show e1 + 1 - 1 = e1 by omega, ← eM1]; unfold y_ta9; rw [h3, nI_clamp (by omega), if_neg (fun z => z.2 c47)]) (by rw [decide_eq_false (nI_pos (by omega))]; rfl) rfl dX4_take_120
      · refine lv_iconst (v := 0) hx hb dX4_take_50 (by decide) ?_
        refine lv_istore (lv' := [(5, .int 0), (4, .int (nI tt)), (3, .int (nI (q / 256))), (2, .int (nI k)), (0, .ref (ad 200)), (1, .int (nI q))]) hx hb dX4_take_51 hl (by decide) rfl (fun ls hl => ?_)
        have eT : y_taM M (e1 + 1) (nI q) (nI k) = va_up (y_tl (q / 256) (nI tt) 60 0 M1) 3 (upd (y_tl (q / 256) (nI tt) 60 0 M1 3) (q / 256) (-1)) := by unfold y_taM; rw [if_neg (nI_pos (by omega)), nI_clamp (by omega), nI_clamp (by omega), show e1 + 1 - 1 = e1 by omega, ← eM1]; unfold y_ta9; rw [h3, nI_clamp (by omega), if_pos ⟨c36, c47⟩]
        rw [eT, show zb (!decide (nI k < 0)) = 1 from (by rw [decide_eq_false (nI_pos (by omega))]; rfl)]
        exact l_X4_take C0 hK (by omega) 61 0 _ _ _ (by omega) (by omega) rfl hS ls (lv_sub hl [4, 5, 3, 2, 1, 0] rfl)
-- ===== the reference: drop =====
def y_e1 (M : Nat → Nat → Int32) : Nat := (M 6 0).toNatClampNeg - 1
def y_dv (t : Int32) : Nat → (Nat → Nat → Int32) → (Nat → Nat → Int32)
  | 0, M => M
  | k + 1, M => y_dv t k (if M 3 ((M 7 k).toNatClampNeg / 256) = t then y_d0 M k (y_e1 M) 8 else M)
def y_dp (M : Nat → Nat → Int32) (t : Int32) (n : Nat) : Nat → Nat → Int32 := va_up M 3 (fun p => if p < n ∧ M 3 p = t then -1 else M 3 p)
theorem y_dp_0 (M : Nat → Nat → Int32) (t : Int32) : y_dp M t 0 = M := by
  unfold y_dp
  rw [show (fun p => if p < 0 ∧ M 3 p = t then (-1 : Int32) else M 3 p) = M 3 from by funext j; simp, va_up_id]
theorem y_dp_s {M M1 : Nat → Nat → Int32} {t v : Int32} {i : Nat} (h : M1 = y_dp M t i) (hv : v = if M 3 i = t then -1 else M 3 i) : va_up M1 3 (upd (M1 3) i v) = y_dp M t (i + 1) := by
  rw [h, hv]
  unfold y_dp
  rw [bx_uu, va_up_self]
  congr 1
  funext j
  by_cases hj : j = i
  · rw [hj, pk_us]
    by_cases h2 : M 3 i = t
    · rw [if_pos h2, if_pos ⟨by omega, h2⟩]
    · rw [if_neg h2, if_neg (fun z => h2 z.2)]
  · rw [pk_un hj]
    by_cases h2 : j < i ∧ M 3 j = t
    · rw [if_pos h2, if_pos ⟨by omega, h2.2⟩]
    · rw [if_neg h2, if_neg (fun z => h2 ⟨by omega, z.2⟩)]
theorem y_dp_i {M M1 : Nat → Nat → Int32} {t : Int32} {i : Nat} (h : M1 = y_dp M t i) : M1 3 i = M 3 i := by
  rw [h]
  unfold y_dp
  rw [va_up_self, if_neg (fun z => absurd z.1 (by omega))]
def y_drM (M : Nat → Nat → Int32) (mn : Nat) (t : Int32) : Nat → Nat → Int32 := if y_th M t then va_up (y_dp (y_dv t mn M) t 60) 0 (upd (y_dp (y_dv t mn M) t 60 0) t.toNatClampNeg 0) else M
theorem Pl_d0 {M : Nat → Nat → Int32} {k e : Nat} (h : Pl_ok M (e + 1)) (hk : k ≤ e) : Pl_ok (y_d0 M k e 8) e := by
  intro j hj
  rw [show y_d0 M k e 8 7 = upd (M 7) k (M 7 e) from rfl]
  by_cases h1 : j = k
  · rw [h1, pk_us]; exact h e (by omega)
  · rw [pk_un h1]; exact h j (by omega)
theorem kX4_drop_wX4 : ∀ w ∈ u_ws RX4 TX4 22, w ∈ wsX4_drop := by decide +kernel
theorem kX4_drop_f19 : Cond.fieldLink RX4 19 "VersionDeskModel" "tableOf" "[I" ∈ wsX4_drop := by decide +kernel
theorem kX4_drop_f7 : Cond.fieldLink RX4 7 "VersionDeskModel" "columns" "[I" ∈ wsX4_drop := by decide +kernel
set_option maxHeartbeats 4000000 in
set_option maxRecDepth 100000 in
theorem l_X4_drop2 {p : Program} {l : Launch} {e : Env} {s : State} {m : MethodId} {args : Array Value} {below : List Frame} {meth : Method} {c : Code} {G : x_G} {ad : Nat → Nat} {D : Nat → Option va_E} {V : Nat → Int64} (C0 : x_B p s m meth c args cX4_drop 3 (some .boolean) RX4 wsX4_drop) (hK : x_K G s) {M0 : Nat → Nat → Int32} {t : Nat} (ht : t < 8) : ∀ (d : Nat) (i : Nat) (M : Nat → Nat → Int32) (H : Heap) (locs : List Loc), 60 - i < d → i ≤ 60 → M = y_dp M0 (nI t) i → x_H G ad (y_con G ad D M V) H locs → ∀ (ls : Array Slot), lv_has ls 3 [(0, .ref (ad 200)), (1, .int (nI t)), (2, .int (nI i))] → W p l e ({ frames := 2, cells := 0, slots := 0, locals := 43 } : Room) s m args below meth c H locs 0 0 (MQ below (x_Qw G ad (y_con G ad D (va_up (y_dp M0 (nI t) 60) 0 (upd (y_dp M0 (nI t) 60 0) t 0)) V) (some (.int 1))) args s 0 0 (x_A G)) (F0 m 53 ls []) := by
  obtain ⟨hx, hb, hr, hml, hown, hts, hlk⟩ := id C0
  intro d
  induction d with
  | zero =>
    intro i M H locs hd hi hMi hS ls hl
    exact absurd hd (by omega)
  | succ d ih =>
    intro i M H locs hd hi hMi hS ls hl
    refine lv_iload_n hx hb dX4_drop_53 rfl (lv_at hl 2 rfl) ?_
    refine lv_bipush (v := 60) hx hb dX4_drop_54 (by decide) ?_
    refine lv_icmp_ge (tgt := 91) hx hb dX4_drop_56 (by decide) (fun c56 => ?_) (fun c56 => ?_)
    · have hi2 := nz_le (a := 60) c56 rfl rfl (by omega) (by omega)
      refine lv_aload_n hx hb dX4_drop_91 rfl (lv_at hl 0 rfl) ?_
      refine y_get (j := 0) C0 hK hS (by decide) (by decide) kX4_drop_wX4 kX4_drop_f7 dX4_drop_92 ?_
      refine lv_iload_n hx hb dX4_drop_95 rfl (lv_at hl 1 rfl) ?_
      refine lv_iconst (v := 0) hx hb dX4_drop_96 (by decide) ?_
      refine y_iast (j := 0) (i := t) (n := 8) C0 hK hS (by decide) (by decide) (by decide) (by omega) rfl dX4_drop_97 (fun H locs hS => ?_)
      obtain ⟨M1, eM1⟩ : ∃ zz, zz = va_up M 0 (upd (M 0) t 0) := ⟨_, rfl⟩
      rw [← eM1] at hS
      refine lv_iconst (v := 1) hx hb dX4_drop_98 (by decide) ?_
      exact x_wretz C0 hS (by rw [eM1, hMi, show i = 60 by omega]) rfl rfl dX4_drop_99
    · have hi2 := nz_nle (a := 60) c56 rfl rfl (by omega) (by omega)
      refine lv_aload_n hx hb dX4_drop_59 rfl (lv_at hl 0 rfl) ?_
      refine y_get (j := 3) C0 hK hS (by decide) (by decide) kX4_drop_wX4 kX4_drop_f19 dX4_drop_60 ?_
      refine lv_iload_n hx hb dX4_drop_63 rfl (lv_at hl 2 rfl) ?_
      refine lv_aload_n hx hb dX4_drop_64 rfl (lv_at hl 0 rfl) ?_
      refine y_get (j := 3) C0 hK hS (by decide) (by decide) kX4_drop_wX4 kX4_drop_f19 dX4_drop_65 ?_
      refine lv_iload_n hx hb dX4_drop_68 rfl (lv_at hl 2 rfl) ?_
      refine y_iald (j := 3) (i := i) (n := 60) C0 hK hS (by decide) (by decide) (by decide) (by omega) rfl dX4_drop_69 ?_
      refine lv_iload_n hx hb dX4_drop_70 rfl (lv_at hl 1 rfl) ?_
      refine lv_icmp_ne (tgt := 78) hx hb dX4_drop_71 (by decide) (fun c71 => ?_) (fun c71 => ?_)
      · refine lv_aload_n hx hb dX4_drop_78 rfl (lv_at hl 0 rfl) ?_
        refine y_get (j := 3) C0 hK hS (by decide) (by decide) kX4_drop_wX4 kX4_drop_f19 dX4_drop_79 ?_
        refine lv_iload_n hx hb dX4_drop_82 rfl (lv_at hl 2 rfl) ?_
        refine y_iald (j := 3) (i := i) (n := 60) C0 hK hS (by decide) (by decide) (by decide) (by omega) rfl dX4_drop_83 ?_
        refine y_iast (j := 3) (i := i) (n := 60) C0 hK hS (by decide) (by decide) (by decide) (by omega) rfl dX4_drop_84 (fun H locs hS => ?_)
        rw [y_dp_s hMi (by rw [if_neg (by rw [← y_dp_i hMi]; exact c71), y_dp_i hMi])] at hS
        refine lv_iinc (v := nI (i + 1)) (lv' := [(2, .int (nI (i + 1))), (0, .ref (ad 200)), (1, .int (nI t))]) hx hb dX4_drop_85 hl (k := 2) rfl (nI_1 i) (by decide) rfl (fun ls hl => ?_)
        refine lv_goto (tgt := 53) hx hb dX4_drop_88 (by decide) ?_
        exact ih (i + 1) _ _ _ (by omega) (by omega) rfl hS ls (lv_sub hl [1, 2, 0] rfl)
      · refine lv_iconst (v := (-1)) hx hb dX4_drop_74 (by decide) ?_
        refine lv_goto (tgt := 84) hx hb dX4_drop_75 (by decide) ?_
        refine y_iast (j := 3) (i := i) (n := 60) C0 hK hS (by decide) (by decide) (by decide) (by omega) rfl dX4_drop_84 (fun H locs hS => ?_)
        rw [y_dp_s hMi (if_pos (by rw [← y_dp_i hMi]; exact c71)).symm] at hS
        refine lv_iinc (v := nI (i + 1)) (lv' := [(2, .int (nI (i + 1))), (0, .ref (ad 200)), (1, .int (nI t))]) hx hb dX4_drop_85 hl (k := 2) rfl (nI_1 i) (by decide) rfl (fun ls hl => ?_)
        refine lv_goto (tgt := 53) hx hb dX4_drop_88 (by decide) ?_
        exact ih (i + 1) _ _ _ (by omega) (by omega) rfl hS ls (lv_sub hl [1, 2, 0] rfl)
theorem kX4_drop_f28 : Cond.fieldLink RX4 28 "VersionDeskModel" "place" "[I" ∈ wsX4_drop := by decide +kernel
set_option maxHeartbeats 4000000 in
set_option maxRecDepth 100000 in
theorem l_X4_drop1 {p : Program} {l : Launch} {e : Env} {s : State} {m : MethodId} {args : Array Value} {below : List Frame} {meth : Method} {c : Code} {G : x_G} {ad : Nat → Nat} {D : Nat → Option va_E} {V : Nat → Int64} (C0 : x_B p s m meth c args cX4_drop 3 (some .boolean) RX4 wsX4_drop) (hK : x_K G s) {t : Nat} {F : Nat → Nat → Int32} (ht : t < 8) : ∀ (d : Nat) (j mn : Nat) (v2 : Int32) (M : Nat → Nat → Int32) (H : Heap) (locs : List Loc), j < d → j ≤ mn → v2 = nI j - 1 → M 6 0 = nI mn → mn ≤ 514 → Pl_ok M mn → S_ok M → F = y_dv (nI t) j M → x_H G ad (y_con G ad D M V) H locs → ∀ (ls : Array Slot), lv_has ls 3 [(0, .ref (ad 200)), (1, .int (nI t)), (2, .int v2)] → W p l e ({ frames := 2, cells := 0, slots := 0, locals := 43 } : Room) s m args below meth c H locs 0 0 (MQ below (x_Qw G ad (y_con G ad D (va_up (y_dp F (nI t) 60) 0 (upd (y_dp F (nI t) 60 0) t 0)) V) (some (.int 1))) args s 0 0 (x_A G)) (F0 m 17 ls []) := by
  obtain ⟨hx, hb, hr, hml, hown, hts, hlk⟩ := id C0
  intro d
  induction d with
  | zero =>
    intro j mn v2 M H locs hd hjm e2 hmn hm hPl hsh hF hS ls hl
    exact absurd hd (by omega)
  | succ d ih =>
    intro j mn v2 M H locs hd hjm e2 hmn hm hPl hsh hF hS ls hl
    refine lv_iload_n hx hb dX4_drop_17 rfl (lv_at hl 2 rfl) ?_
    refine lv_if_lt (tgt := 51) hx hb dX4_drop_18 (by decide) (fun c18 => ?_) (fun c18 => ?_)
    · have hj : j = 0 := by
        cases j with
        | zero => rfl
        | succ j => rw [e2, nI_pred] at c18; exact absurd c18 (nI_pos (by omega))
      refine lv_iconst (v := 0) hx hb dX4_drop_51 (by decide) ?_
      refine lv_istore_n (lv' := [(2, .int 0), (0, .ref (ad 200)), (1, .int (nI t))]) hx hb dX4_drop_52 rfl hl (by decide) rfl (fun ls hl => ?_)
      exact l_X4_drop2 C0 hK ht 61 0 _ _ _ (by omega) (by omega) (by rw [hF, hj]; exact (y_dp_0 _ _).symm) hS ls (lv_sub hl [1, 2, 0] rfl)
    · obtain ⟨j, rfl⟩ : ∃ i, j = i + 1 := by
        cases j with
        | zero => exact absurd (by rw [e2]; decide) c18
        | succ j => exact ⟨j, rfl⟩
      obtain rfl : v2 = nI j := by rw [e2]; exact nI_pred j
      obtain ⟨q, hq, hpq⟩ := hPl j (by omega)
      obtain ⟨e1, rfl⟩ : ∃ e1, mn = e1 + 1 := ⟨mn - 1, by omega⟩
      have he1 : y_e1 M = e1 := by unfold y_e1; rw [hmn, nI_clamp (by omega)]; rfl
      refine lv_aload_n hx hb dX4_drop_21 rfl (lv_at hl 0 rfl) ?_
      refine y_get (j := 3) C0 hK hS (by decide) (by decide) kX4_drop_wX4 kX4_drop_f19 dX4_drop_22 ?_
      refine lv_aload_n hx hb dX4_drop_25 rfl (lv_at hl 0 rfl) ?_
      refine y_get (j := 7) C0 hK hS (by decide) (by decide) kX4_drop_wX4 kX4_drop_f28 dX4_drop_26 ?_
      refine lv_iload_n hx hb dX4_drop_29 rfl (lv_at hl 2 rfl) ?_
      refine y_iald (j := 7) (i := j) (n := 515) C0 hK hS (by decide) (by decide) (by decide) (by omega) rfl dX4_drop_30 ?_
      refine lv_sipush (v := 256) hx hb dX4_drop_31 (by decide) ?_
      refine lv_idiv hx hb dX4_drop_34 (by decide) ?_
      rw [hpq, show nI q / 256 = nI (q / 256) from pk_div (d := 256) (by omega) (by decide) (by decide)]
      refine y_iald (j := 3) (i := q / 256) (n := 60) C0 hK hS (by decide) (by decide) (by decide) (by omega) rfl dX4_drop_35 ?_
      refine lv_iload_n hx hb dX4_drop_36 rfl (lv_at hl 1 rfl) ?_
      refine lv_icmp_ne (tgt := 45) hx hb dX4_drop_37 (by decide) (fun c37 => ?_) (fun c37 => ?_)
      · obtain ⟨x1, ex1⟩ : ∃ z : Int32, z = nI j + (-1) := ⟨_, rfl⟩
        refine lv_iinc (v := x1) (lv' := [(2, .int x1), (0, .ref (ad 200)), (1, .int (nI t))]) hx hb dX4_drop_45 hl (k := 2) rfl (by rw [ex1]; rfl) (by decide) rfl (fun ls hl => ?_)
        refine lv_goto (tgt := 17) hx hb dX4_drop_48 (by decide) ?_
        exact ih j (e1 + 1) _ M _ _ (by omega) (by omega) (by rw [ex1, show ∀ x : Int32, x + (-1) = x - 1 from fun x => (Int32.sub_eq_add_neg x 1).symm]) hmn hm hPl hsh (by rw [hF]; simp only [y_dv]; rw [hpq, nI_clamp (by omega), if_neg c37]) hS ls (lv_sub hl [1, 2, 0] rfl)
      · refine lv_aload_n hx hb dX4_drop_40 rfl (lv_at hl 0 rfl) ?_
        refine lv_iload_n hx hb dX4_drop_41 rfl (lv_at hl 2 rfl) ?_
        refine x_callw hS (x_rV C0 hl.1 hK hS (c_X4_drop0 l G ad D M V j e1 (by omega) (by omega) hmn hsh) (show y_con G ad D M V 200 = some (x_mo ad M) from rfl) rfl gX4_drop_X4_drop0 1 rfl rfl rfl (by decide +kernel) ⟨Nat.le_of_ble_eq_true rfl, Nat.le_of_ble_eq_true rfl⟩ rfl rfl (Nat.le_of_ble_eq_true rfl) dX4_drop_42 ⟨Nat.le_of_ble_eq_true rfl, Nat.le_of_ble_eq_true rfl⟩) (fun H locs hS => ?_)
        obtain ⟨M2, eM2⟩ : ∃ zz, zz = y_d0 M j e1 8 := ⟨_, rfl⟩
        rw [← eM2] at hS
        show W _ _ _ _ _ _ _ _ _ _ _ _ _ _ _ (F0 m 45 ls [])
        obtain ⟨x3, ex3⟩ : ∃ z : Int32, z = nI j + (-1) := ⟨_, rfl⟩
        refine lv_iinc (v := x3) (lv' := [(2, .int x3), (0, .ref (ad 200)), (1, .int (nI t))]) hx hb dX4_drop_45 hl (k := 2) rfl (by rw [ex3]; rfl) (by decide) rfl (fun ls hl => ?_)
        refine lv_goto (tgt := 17) hx hb dX4_drop_48 (by decide) ?_
        exact ih j e1 _ _ _ _ (by omega) (by omega) (by rw [ex3, show ∀ x : Int32, x + (-1) = x - 1 from fun x => (Int32.sub_eq_add_neg x 1).symm]) (y_d0_6 eM2) (by omega) (by rw [eM2]; exact Pl_d0 hPl (by omega)) (y_d0_sh hsh eM2) (by rw [hF]; simp only [y_dv]; rw [hpq, nI_clamp (by omega), if_pos c37, he1, eM2]) hS ls (lv_sub hl [1, 2, 0] rfl)
theorem kX4_drop_f105 : Cond.fieldLink RX4 105 "VersionDeskModel" "many" "I" ∈ wsX4_drop := by decide +kernel
set_option maxHeartbeats 4000000 in
set_option maxRecDepth 100000 in
/-- drop -/
theorem c_X4_drop (l : Launch) (G : x_G) (ad : Nat → Nat) (D : Nat → Option va_E) (M : Nat → Nat → Int32) (V : Nat → Int64) (t0 : Int32) (mn : Nat) (hmn : M 6 0 = nI mn) (hm : mn ≤ 514) (hPl : Pl_ok M mn) (hsh : S_ok M) : Met l yX4_drop wsX4_drop ({ frames := 2, cells := 0, slots := 0, locals := 43 } : Room) (x_Pc G ad (y_con G ad D M V) [.ref (ad 200), .int t0]) (x_Qw G ad (y_con G ad D (y_drM M mn t0) V) (some (.int (zb (y_th M t0))))) 0 0 (x_A G) := by
  refine x_met (cc := cX4_drop) (maxL := 3) (ret := (some .boolean)) (by decide) rfl _ (Nat.le_of_ble_eq_true rfl) ?_
  intro p e s m args below meth c C0 hini hK hS ls hl
  have hl : lv_has ls 3 [(0, .ref (ad 200)), (1, .int t0)] := hl
  obtain ⟨hx, hb, hr, hml, hown, hts, hlk⟩ := id C0
  refine lv_aload_n hx hb dX4_drop_0 rfl (lv_at hl 0 rfl) ?_
  refine lv_iload_n hx hb dX4_drop_1 rfl (lv_at hl 1 rfl) ?_
  refine x_callr (x_rV C0 hl.1 hK hS (c_X4_isThere l G ad D M V t0) (show y_con G ad D M V 200 = some (x_mo ad M) from rfl) rfl gX4_drop_X4_isThere 1 rfl rfl rfl (by decide +kernel) ⟨Nat.le_of_ble_eq_true rfl, Nat.le_of_ble_eq_true rfl⟩ rfl rfl (Nat.le_of_ble_eq_true rfl) dX4_drop_2 ⟨Nat.le_of_ble_eq_true rfl, Nat.le_of_ble_eq_true rfl⟩) ?_
  show W _ _ _ _ _ _ _ _ _ _ _ _ _ _ _ (F0 m 5 ls [.int (zb (y_th M t0))])
  refine lv_if_ne (tgt := 10) hx hb dX4_drop_5 (by decide) (fun c5 => ?_) (fun c5 => ?_)
  · have hth := zb_ne c5
    obtain ⟨i, hi, rfl, hci0⟩ := y_th_in hth
    have hci : (nI i).toNatClampNeg = i := nI_clamp (by omega)
    refine lv_aload_n hx hb dX4_drop_10 rfl (lv_at hl 0 rfl) ?_
    refine y_geti (j := 6) C0 hK hS (by decide) kX4_drop_wX4 kX4_drop_f105 dX4_drop_11 ?_
    rw [hmn]
    refine lv_iconst (v := 1) hx hb dX4_drop_14 (by decide) ?_
    refine lv_isub hx hb dX4_drop_15 ?_
    refine lv_topi (fun x1 ex1 => ?_)
    refine lv_istore_n (lv' := [(2, .int x1), (0, .ref (ad 200)), (1, .int (nI i))]) hx hb dX4_drop_16 rfl hl (by decide) rfl (fun ls hl => ?_)
    rw [show y_drM M mn (nI i) = va_up (y_dp (y_dv (nI i) mn M) (nI i) 60) 0 (upd (y_dp (y_dv (nI i) mn M) (nI i) 60 0) i 0) from (by unfold y_drM; rw [if_pos hth, hci]), show zb (y_th M (nI i)) = 1 from (by rw [hth]; rfl)]
    exact l_X4_drop1 C0 hK hi (mn + 1) mn mn _ _ _ _ (by omega) (by omega) ex1 hmn hm hPl hsh rfl hS ls (lv_sub hl [1, 2, 0] rfl)
  · refine lv_iconst (v := 0) hx hb dX4_drop_8 (by decide) ?_
    exact x_wretz C0 hS (by unfold y_drM; rw [zb_eq c5]; rfl) (by rw [zb_eq c5]; rfl) rfl dX4_drop_9
