theorem kX0_firstHeldFrom_wX0 : ∀ w ∈ u_ws RX0 TX0 6, w ∈ wsX0_firstHeldFrom := by decide +kernel
theorem kX0_firstHeldFrom_f18 : Cond.fieldLink RX0 18 "VersionDesk$Page" "slots" "I" ∈ wsX0_firstHeldFrom := by decide +kernel
set_option maxHeartbeats 4000000 in
set_option maxRecDepth 100000 in
/-- firstHeldFrom: the loop -/
theorem l_X0_firstHeldFrom {p : Program} {l : Launch} {e : Env} {s : State} {m : MethodId} {args : Array Value} {below : List Frame} {meth : Method} {c : Code} {G : x_G} {ad : Nat → Nat} {R : Nat → Nat → Int32} {N : Nat → Int64} {tl : Nat → Bool} {T : Nat → Nat → Int32} {pl : Nat → Bool} {P : Nat → Nat → Int32} {X : Nat → Option va_E} (C0 : x_B p s m meth c args cX0_firstHeldFrom 3 (some .int) RX0 wsX0_firstHeldFrom) (hK : x_K G s) {pg k0 n : Nat} {r : Int32} (hp : pg < 60) (hl_p : pl pg = true) (hn : n < 2 ^ 19) (hs : P pg 2 = nI n) (hS : x_H G ad (x_con G ad R N tl T pl P X) s.heap []) : ∀ (d : Nat) (k : Nat) (v2 : Int32), n - k < d → k < 2 ^ 20 → v2 = nI k → r = pg_fh (P pg) (n - k) k → ∀ (ls : Array Slot), lv_has ls 3 [(0, .ref (ad (16 + pg))), (1, .int (nI k0)), (2, .int v2)] → W p l e ({ frames := 3, cells := 0, slots := 0, locals := 68 } : Room) s m args below meth c s.heap [] 0 0 (MQ below (x_Qr (some (.int r))) args s 0 0 (fun _ => False)) (F0 m 2 ls []) := by
  obtain ⟨hx, hb, hr, hml, hown, hts, hlk⟩ := id C0
  intro d
  induction d with
  | zero =>
    intro k v2 hd hk0 e2 hF ls hl
    exact absurd hd (by omega)
  | succ d ih =>
    intro k v2 hd hk0 e2 hF ls hl
    refine lv_iload_n hx hb dX0_firstHeldFrom_2 rfl (lv_at hl 2 rfl) ?_
    refine lv_aload_n hx hb dX0_firstHeldFrom_3 rfl (lv_at hl 0 rfl) ?_
    refine x_pget (j := 2) C0 hK hS hp hl_p (by decide) kX0_firstHeldFrom_wX0 kX0_firstHeldFrom_f18 dX0_firstHeldFrom_4 ?_
    refine lv_icmp_ge (tgt := 26) hx hb dX0_firstHeldFrom_7 (by decide) (fun c7 => ?_) (fun c7 => ?_)
    · have hk := nz_le c7 hs e2 (by omega) (by omega)
      refine lv_iconst (v := (-1)) hx hb dX0_firstHeldFrom_26 (by decide) ?_
      exact x_reti C0 (by rw [hF, show n - k = 0 by omega]; rfl) dX0_firstHeldFrom_27
    · have hk := nz_nle c7 hs e2 (by omega) (by omega)
      refine lv_aload_n hx hb dX0_firstHeldFrom_10 rfl (lv_at hl 0 rfl) ?_
      refine lv_iload_n hx hb dX0_firstHeldFrom_11 rfl (lv_at hl 2 rfl) ?_
      rw [e2]
      refine x_callr (x_rV C0 hl.1 hK hS (c_X0_holds l G ad R N tl T pl P X pg k hp hl_p (by omega)) (x_con_p hp hl_p) rfl gX0_firstHeldFrom_X0_holds 1 rfl rfl rfl (by decide +kernel) ⟨Nat.le_of_ble_eq_true rfl, Nat.le_of_ble_eq_true rfl⟩ rfl rfl (Nat.le_of_ble_eq_true rfl) dX0_firstHeldFrom_12 ⟨Nat.le_of_ble_eq_true rfl, Nat.le_of_ble_eq_true rfl⟩) ?_
      show W _ _ _ _ _ _ _ _ _ _ _ _ _ _ _ (F0 m 15 ls [.int (zb (pg_hd (P pg) k))])
      refine lv_if_eq (tgt := 20) hx hb dX0_firstHeldFrom_15 (by decide) (fun c15 => ?_) (fun c15 => ?_)
      · obtain ⟨x1, ex1⟩ : ∃ z : Int32, z = v2 + (1) := ⟨_, rfl⟩
        refine lv_iinc (v := x1) (lv' := [(2, .int x1), (0, .ref (ad (16 + pg))), (1, .int (nI k0))]) hx hb dX0_firstHeldFrom_20 hl (k := 2) rfl (by rw [ex1]; rfl) (by decide) rfl (fun ls hl => ?_)
        refine lv_goto (tgt := 2) hx hb dX0_firstHeldFrom_23 (by decide) ?_
        exact ih (k + 1) _ (by omega) (by omega) (by rw [ex1, e2]; exact nI_1 k) (by rw [hF]; rw [show n - k = (n - (k + 1)) + 1 by omega]; simp only [pg_fh]; rw [if_neg (by rw [zb_eq c15]; decide)]) ls (lv_sub hl [1, 2, 0] rfl)
      · refine lv_iload_n hx hb dX0_firstHeldFrom_18 rfl (lv_at hl 2 rfl) ?_
        exact x_reti C0 (by rw [e2, hF, show n - k = (n - k - 1) + 1 by omega]; simp only [pg_fh]; rw [if_pos (zb_ne c15)]) dX0_firstHeldFrom_19
set_option maxHeartbeats 4000000 in
set_option maxRecDepth 100000 in
/-- firstHeldFrom: the first slot from k on that has a version -/
theorem c_X0_firstHeldFrom (l : Launch) (G : x_G) (ad : Nat → Nat) (R : Nat → Nat → Int32) (N : Nat → Int64) (tl : Nat → Bool) (T : Nat → Nat → Int32) (pl : Nat → Bool) (P : Nat → Nat → Int32) (X : Nat → Option va_E) (pg k n : Nat) (hp : pg < 60) (hl_p : pl pg = true) (hk : k < 2 ^ 19) (hn : n < 2 ^ 19) (hs : P pg 2 = nI n) : Met l yX0_firstHeldFrom wsX0_firstHeldFrom ({ frames := 3, cells := 0, slots := 0, locals := 68 } : Room) (x_Pc G ad (x_con G ad R N tl T pl P X) [.ref (ad (16 + pg)), .int (nI k)]) (x_Qr (some (.int (pg_fh (P pg) (n - k) k)))) 0 0 (fun _ => False) := by
  refine x_met (cc := cX0_firstHeldFrom) (maxL := 3) (ret := (some .int)) (by decide) rfl _ (Nat.le_of_ble_eq_true rfl) ?_
  intro p e s m args below meth c C0 hini hK hS ls hl
  have hl : lv_has ls 3 [(0, .ref (ad (16 + pg))), (1, .int (nI k))] := hl
  obtain ⟨hx, hb, hr, hml, hown, hts, hlk⟩ := id C0
  refine lv_iload_n hx hb dX0_firstHeldFrom_0 rfl (lv_at hl 1 rfl) ?_
  refine lv_istore_n (lv' := [(2, .int (nI k)), (0, .ref (ad (16 + pg))), (1, .int (nI k))]) hx hb dX0_firstHeldFrom_1 rfl hl (by decide) rfl (fun ls hl => ?_)
  exact l_X0_firstHeldFrom C0 hK hp hl_p hn hs hS (n + 1) k _ (by omega) (by omega) rfl rfl ls (lv_sub hl [1, 2, 0] rfl)
def pg_sf (P : Nat → Int32) (n : Nat) (z : Int32) : Int32 := match pg_ff P n 0 with
  | some k => if z ≤ pg_fb P then nI k else -1
  | none => if P 2 < 120 ∧ z + 4 ≤ pg_fb P then P 2 else -1
theorem kX0_slotFor_wX0 : ∀ w ∈ u_ws RX0 TX0 6, w ∈ wsX0_slotFor := by decide +kernel
theorem kX0_slotFor_f18 : Cond.fieldLink RX0 18 "VersionDesk$Page" "slots" "I" ∈ wsX0_slotFor := by decide +kernel
set_option maxHeartbeats 4000000 in
set_option maxRecDepth 100000 in
/-- slotFor: the loop -/
theorem l_X0_slotFor {p : Program} {l : Launch} {e : Env} {s : State} {m : MethodId} {args : Array Value} {below : List Frame} {meth : Method} {c : Code} {G : x_G} {ad : Nat → Nat} {R : Nat → Nat → Int32} {N : Nat → Int64} {tl : Nat → Bool} {T : Nat → Nat → Int32} {pl : Nat → Bool} {P : Nat → Nat → Int32} {X : Nat → Option va_E} (C0 : x_B p s m meth c args cX0_slotFor 3 (some .int) RX0 wsX0_slotFor) (hK : x_K G s) {pg n : Nat} {z : Int32} (hp : pg < 60) (hl_p : pl pg = true) (hn : n < 2 ^ 19) (hs : P pg 2 = nI n) (hS : x_H G ad (x_con G ad R N tl T pl P X) s.heap []) : ∀ (d : Nat) (k : Nat) (v2 : Int32), n < k + d → k ≤ n → v2 = nI k → pg_ff (P pg) (n - k) k = pg_ff (P pg) n 0 → ∀ (ls : Array Slot), lv_has ls 3 [(0, .ref (ad (16 + pg))), (1, .int z), (2, .int v2)] → W p l e ({ frames := 3, cells := 0, slots := 0, locals := 68 } : Room) s m args below meth c s.heap [] 0 0 (MQ below (x_Qr (some (.int (pg_sf (P pg) n z)))) args s 0 0 (fun _ => False)) (F0 m 2 ls []) := by
  obtain ⟨hx, hb, hr, hml, hown, hts, hlk⟩ := id C0
  intro d
  induction d with
  | zero =>
    intro k v2 hd hk0 e2 hF ls hl
    exact absurd hd (by omega)
  | succ d ih =>
    intro k v2 hd hk0 e2 hF ls hl
    refine lv_iload_n hx hb dX0_slotFor_2 rfl (lv_at hl 2 rfl) ?_
    refine lv_aload_n hx hb dX0_slotFor_3 rfl (lv_at hl 0 rfl) ?_
    refine x_pget (j := 2) C0 hK hS hp hl_p (by decide) kX0_slotFor_wX0 kX0_slotFor_f18 dX0_slotFor_4 ?_
    refine lv_icmp_ge (tgt := 38) hx hb dX0_slotFor_7 (by decide) (fun c7 => ?_) (fun c7 => ?_)
    · have hk := nz_le c7 hs e2 (by omega) (by omega)
      refine lv_aload_n hx hb dX0_slotFor_38 rfl (lv_at hl 0 rfl) ?_
      refine x_pget (j := 2) C0 hK hS hp hl_p (by decide) kX0_slotFor_wX0 kX0_slotFor_f18 dX0_slotFor_39 ?_
      refine lv_bipush (v := 120) hx hb dX0_slotFor_42 (by decide) ?_
      refine lv_icmp_ge (tgt := 64) hx hb dX0_slotFor_44 (by decide) (fun c44 => ?_) (fun c44 => ?_)
      · refine lv_iconst (v := (-1)) hx hb dX0_slotFor_64 (by decide) ?_
        have hF2 : pg_ff (P pg) n 0 = none := by rw [← hF, show n - k = 0 by omega]; rfl
        exact x_reti C0 (by simp only [pg_sf, hF2]; rw [if_neg (fun q => absurd q.1 (Int32.not_lt.mpr c44))]) dX0_slotFor_65
      · refine lv_iload_n hx hb dX0_slotFor_47 rfl (lv_at hl 1 rfl) ?_
        refine lv_iconst (v := 4) hx hb dX0_slotFor_48 (by decide) ?_
        refine lv_iadd hx hb dX0_slotFor_49 ?_
        refine lv_aload_n hx hb dX0_slotFor_50 rfl (lv_at hl 0 rfl) ?_
        refine x_callr (x_rV C0 hl.1 hK hS (c_X0_freeBytes l G ad R N tl T pl P X pg hp hl_p) (x_con_p hp hl_p) rfl gX0_slotFor_X0_freeBytes 0 rfl rfl rfl (by decide +kernel) ⟨Nat.le_of_ble_eq_true rfl, Nat.le_of_ble_eq_true rfl⟩ rfl rfl (Nat.le_of_ble_eq_true rfl) dX0_slotFor_51 ⟨Nat.le_of_ble_eq_true rfl, Nat.le_of_ble_eq_true rfl⟩) ?_
        show W _ _ _ _ _ _ _ _ _ _ _ _ _ _ _ (F0 m 54 ls [.int (pg_fb (P pg)), .int (z + 4)])
        refine lv_icmp_gt (tgt := 64) hx hb dX0_slotFor_54 (by decide) (fun c54 => ?_) (fun c54 => ?_)
        · refine lv_iconst (v := (-1)) hx hb dX0_slotFor_64 (by decide) ?_
          have hF2 : pg_ff (P pg) n 0 = none := by rw [← hF, show n - k = 0 by omega]; rfl
          exact x_reti C0 (by simp only [pg_sf, hF2]; rw [if_neg (fun q => absurd q.2 (Int32.not_le.mpr c54))]) dX0_slotFor_65
        · refine lv_aload_n hx hb dX0_slotFor_57 rfl (lv_at hl 0 rfl) ?_
          refine x_pget (j := 2) C0 hK hS hp hl_p (by decide) kX0_slotFor_wX0 kX0_slotFor_f18 dX0_slotFor_58 ?_
          refine lv_goto (tgt := 65) hx hb dX0_slotFor_61 (by decide) ?_
          have hF2 : pg_ff (P pg) n 0 = none := by rw [← hF, show n - k = 0 by omega]; rfl
          exact x_reti C0 (by simp only [pg_sf, hF2]; rw [if_pos ⟨Int32.not_le.mp c44, Int32.not_lt.mp c54⟩]) dX0_slotFor_65
    · have hk := nz_nle c7 hs e2 (by omega) (by omega)
      refine lv_aload_n hx hb dX0_slotFor_10 rfl (lv_at hl 0 rfl) ?_
      refine lv_iload_n hx hb dX0_slotFor_11 rfl (lv_at hl 2 rfl) ?_
      rw [e2]
      rw [e2] at hl
      refine x_callr (x_rV C0 hl.1 hK hS (c_X0_holds l G ad R N tl T pl P X pg k hp hl_p (by omega)) (x_con_p hp hl_p) rfl gX0_slotFor_X0_holds 1 rfl rfl rfl (by decide +kernel) ⟨Nat.le_of_ble_eq_true rfl, Nat.le_of_ble_eq_true rfl⟩ rfl rfl (Nat.le_of_ble_eq_true rfl) dX0_slotFor_12 ⟨Nat.le_of_ble_eq_true rfl, Nat.le_of_ble_eq_true rfl⟩) ?_
      show W _ _ _ _ _ _ _ _ _ _ _ _ _ _ _ (F0 m 15 ls [.int (zb (pg_hd (P pg) k))])
      refine lv_if_ne (tgt := 32) hx hb dX0_slotFor_15 (by decide) (fun c15 => ?_) (fun c15 => ?_)
      · refine lv_iinc (v := nI (k + 1)) (lv' := [(2, .int (nI (k + 1))), (0, .ref (ad (16 + pg))), (1, .int z)]) hx hb dX0_slotFor_32 hl (k := 2) rfl (nI_1 k) (by decide) rfl (fun ls hl => ?_)
        refine lv_goto (tgt := 2) hx hb dX0_slotFor_35 (by decide) ?_
        exact ih (k + 1) _ (by omega) (by omega) rfl (by rw [← hF, show n - k = (n - (k + 1)) + 1 by omega]; simp only [pg_ff]; rw [if_pos (zb_ne c15)]) ls (lv_sub hl [1, 2, 0] rfl)
      · refine lv_iload_n hx hb dX0_slotFor_18 rfl (lv_at hl 1 rfl) ?_
        refine lv_aload_n hx hb dX0_slotFor_19 rfl (lv_at hl 0 rfl) ?_
        refine x_callr (x_rV C0 hl.1 hK hS (c_X0_freeBytes l G ad R N tl T pl P X pg hp hl_p) (x_con_p hp hl_p) rfl gX0_slotFor_X0_freeBytes 0 rfl rfl rfl (by decide +kernel) ⟨Nat.le_of_ble_eq_true rfl, Nat.le_of_ble_eq_true rfl⟩ rfl rfl (Nat.le_of_ble_eq_true rfl) dX0_slotFor_20 ⟨Nat.le_of_ble_eq_true rfl, Nat.le_of_ble_eq_true rfl⟩) ?_
        show W _ _ _ _ _ _ _ _ _ _ _ _ _ _ _ (F0 m 23 ls [.int (pg_fb (P pg)), .int z])
        refine lv_icmp_gt (tgt := 30) hx hb dX0_slotFor_23 (by decide) (fun c23 => ?_) (fun c23 => ?_)
        · refine lv_iconst (v := (-1)) hx hb dX0_slotFor_30 (by decide) ?_
          have hF2 : pg_ff (P pg) n 0 = some k := by rw [← hF, show n - k = (n - k - 1) + 1 by omega]; simp only [pg_ff]; rw [if_neg (by rw [zb_eq c15]; decide)]
          exact x_reti C0 (by simp only [pg_sf, hF2]; rw [if_neg (Int32.not_le.mpr c23)]) dX0_slotFor_31
        · refine lv_iload_n hx hb dX0_slotFor_26 rfl (lv_at hl 2 rfl) ?_
          refine lv_goto (tgt := 31) hx hb dX0_slotFor_27 (by decide) ?_
          have hF2 : pg_ff (P pg) n 0 = some k := by rw [← hF, show n - k = (n - k - 1) + 1 by omega]; simp only [pg_ff]; rw [if_neg (by rw [zb_eq c15]; decide)]
          exact x_reti C0 (by simp only [pg_sf, hF2]; rw [if_pos (Int32.not_lt.mp c23)]) dX0_slotFor_31
set_option maxHeartbeats 4000000 in
set_option maxRecDepth 100000 in
/-- slotFor: the slot for a version of that size -/
theorem c_X0_slotFor (l : Launch) (G : x_G) (ad : Nat → Nat) (R : Nat → Nat → Int32) (N : Nat → Int64) (tl : Nat → Bool) (T : Nat → Nat → Int32) (pl : Nat → Bool) (P : Nat → Nat → Int32) (X : Nat → Option va_E) (pg n : Nat) (z : Int32) (hp : pg < 60) (hl_p : pl pg = true) (hn : n < 2 ^ 19) (hs : P pg 2 = nI n) : Met l yX0_slotFor wsX0_slotFor ({ frames := 3, cells := 0, slots := 0, locals := 68 } : Room) (x_Pc G ad (x_con G ad R N tl T pl P X) [.ref (ad (16 + pg)), .int z]) (x_Qr (some (.int (pg_sf (P pg) n z)))) 0 0 (fun _ => False) := by
  refine x_met (cc := cX0_slotFor) (maxL := 3) (ret := (some .int)) (by decide) rfl _ (Nat.le_of_ble_eq_true rfl) ?_
  intro p e s m args below meth c C0 hini hK hS ls hl
  have hl : lv_has ls 3 [(0, .ref (ad (16 + pg))), (1, .int z)] := hl
  obtain ⟨hx, hb, hr, hml, hown, hts, hlk⟩ := id C0
  refine lv_iconst (v := 0) hx hb dX0_slotFor_0 (by decide) ?_
  refine lv_istore_n (lv' := [(2, .int 0), (0, .ref (ad (16 + pg))), (1, .int z)]) hx hb dX0_slotFor_1 rfl hl (by decide) rfl (fun ls hl => ?_)
  exact l_X0_slotFor C0 hK hp hl_p hn hs hS (n + 1) 0 _ (by omega) (by omega) rfl rfl ls (lv_sub hl [1, 2, 0] rfl)
def pg_rs (Z : Nat → Int32) (t : Int32) : Nat → Int32 := upd (upd (upd (upd (upd Z 0 t) 1 (-1)) 2 0) 3 0) 4 496
theorem kX0_reset_wX0 : ∀ w ∈ u_ws RX0 TX0 6, w ∈ wsX0_reset := by decide +kernel
theorem kX0_reset_f15 : Cond.fieldLink RX0 15 "VersionDesk$Page" "following" "I" ∈ wsX0_reset := by decide +kernel
theorem kX0_reset_f18 : Cond.fieldLink RX0 18 "VersionDesk$Page" "slots" "I" ∈ wsX0_reset := by decide +kernel
theorem kX0_reset_f21 : Cond.fieldLink RX0 21 "VersionDesk$Page" "versions" "I" ∈ wsX0_reset := by decide +kernel
theorem kX0_reset_f24 : Cond.fieldLink RX0 24 "VersionDesk$Page" "packedFrom" "I" ∈ wsX0_reset := by decide +kernel
theorem kX0_reset_f9 : Cond.fieldLink RX0 9 "VersionDesk$Page" "table" "I" ∈ wsX0_reset := by decide +kernel
set_option maxHeartbeats 4000000 in
set_option maxRecDepth 100000 in
/-- reset -/
theorem c_X0_reset (l : Launch) (G : x_G) (ad : Nat → Nat) (R : Nat → Nat → Int32) (N : Nat → Int64) (tl : Nat → Bool) (T : Nat → Nat → Int32) (pl : Nat → Bool) (P : Nat → Nat → Int32) (X : Nat → Option va_E) (pg : Nat) (t : Int32) (hp : pg < 60) (hl_p : pl pg = true) : Met l yX0_reset wsX0_reset ({ frames := 0, cells := 0, slots := 0, locals := 0 } : Room) (x_Pc G ad (x_con G ad R N tl T pl P X) [.ref (ad (16 + pg)), .int t]) (x_Qw G ad (x_con G ad R N tl T pl (va_up P pg (pg_rs (P pg) t)) X) none) 0 0 (x_A G) := by
  refine x_met (cc := cX0_reset) (maxL := 2) (ret := none) (by decide) rfl _ (Nat.le_of_ble_eq_true rfl) ?_
  intro p e s m args below meth c C0 hini hK hS ls hl
  have hl : lv_has ls 2 [(0, .ref (ad (16 + pg))), (1, .int t)] := hl
  obtain ⟨hx, hb, hr, hml, hown, hts, hlk⟩ := id C0
  refine lv_aload_n hx hb dX0_reset_0 rfl (lv_at hl 0 rfl) ?_
  refine lv_iload_n hx hb dX0_reset_1 rfl (lv_at hl 1 rfl) ?_
  refine x_pput (j := 0) C0 hK hS hp hl_p (by decide) kX0_reset_wX0 kX0_reset_f9 dX0_reset_2 (fun H locs hS => ?_)
  obtain ⟨Z1, eZ1⟩ : ∃ zz, zz = upd (P pg) 0 t := ⟨_, rfl⟩
  rw [← eZ1] at hS
  refine lv_aload_n hx hb dX0_reset_5 rfl (lv_at hl 0 rfl) ?_
  refine lv_iconst (v := (-1)) hx hb dX0_reset_6 (by decide) ?_
  refine x_pput (j := 1) C0 hK hS hp hl_p (by decide) kX0_reset_wX0 kX0_reset_f15 dX0_reset_7 (fun H locs hS => ?_)
  simp only [va_up_self, bx_uu] at hS
  obtain ⟨Z2, eZ2⟩ : ∃ zz, zz = upd (Z1) 1 (-1) := ⟨_, rfl⟩
  rw [← eZ2] at hS
  refine lv_aload_n hx hb dX0_reset_10 rfl (lv_at hl 0 rfl) ?_
  refine lv_iconst (v := 0) hx hb dX0_reset_11 (by decide) ?_
  refine x_pput (j := 2) C0 hK hS hp hl_p (by decide) kX0_reset_wX0 kX0_reset_f18 dX0_reset_12 (fun H locs hS => ?_)
  simp only [va_up_self, bx_uu] at hS
  obtain ⟨Z3, eZ3⟩ : ∃ zz, zz = upd (Z2) 2 0 := ⟨_, rfl⟩
  rw [← eZ3] at hS
  refine lv_aload_n hx hb dX0_reset_15 rfl (lv_at hl 0 rfl) ?_
  refine lv_iconst (v := 0) hx hb dX0_reset_16 (by decide) ?_
  refine x_pput (j := 3) C0 hK hS hp hl_p (by decide) kX0_reset_wX0 kX0_reset_f21 dX0_reset_17 (fun H locs hS => ?_)
  simp only [va_up_self, bx_uu] at hS
  obtain ⟨Z4, eZ4⟩ : ∃ zz, zz = upd (Z3) 3 0 := ⟨_, rfl⟩
  rw [← eZ4] at hS
  refine lv_aload_n hx hb dX0_reset_20 rfl (lv_at hl 0 rfl) ?_
  refine lv_sipush (v := 496) hx hb dX0_reset_21 (by decide) ?_
  refine x_pput (j := 4) C0 hK hS hp hl_p (by decide) kX0_reset_wX0 kX0_reset_f24 dX0_reset_24 (fun H locs hS => ?_)
  simp only [va_up_self, bx_uu] at hS
  obtain ⟨Z5, eZ5⟩ : ∃ zz, zz = upd (Z4) 4 496 := ⟨_, rfl⟩
  rw [← eZ5] at hS
  exact x_wretv C0 hS (by rw [eZ5, eZ4, eZ3, eZ2, eZ1]; rfl) dX0_reset_27
def pg_ss (Z : Nat → Int32) (k : Nat) (a z : Int32) : Nat → Int32 := pg_wr (pg_wr Z (4 * k) 2 a.toInt64 2) (4 * k + 2) 2 z.toInt64 2
set_option maxHeartbeats 4000000 in
set_option maxRecDepth 100000 in
/-- setSlot -/
theorem c_X0_setSlot (l : Launch) (G : x_G) (ad : Nat → Nat) (R : Nat → Nat → Int32) (N : Nat → Int64) (tl : Nat → Bool) (T : Nat → Nat → Int32) (pl : Nat → Bool) (P : Nat → Nat → Int32) (X : Nat → Option va_E) (pg k : Nat) (a z : Int32) (hp : pg < 60) (hl_p : pl pg = true) (hk : k < 2 ^ 20) : Met l yX0_setSlot wsX0_setSlot ({ frames := 1, cells := 0, slots := 0, locals := 26 } : Room) (x_Pc G ad (x_con G ad R N tl T pl P X) [.ref (ad (16 + pg)), .int (nI k), .int a, .int z]) (x_Qw G ad (x_con G ad R N tl T pl (va_up P pg (pg_ss (P pg) k a z)) X) none) 0 0 (x_A G) := by
  refine x_met (cc := cX0_setSlot) (maxL := 4) (ret := none) (by decide) rfl _ (Nat.le_of_ble_eq_true rfl) ?_
  intro p e s m args below meth c C0 hini hK hS ls hl
  have hl : lv_has ls 4 [(0, .ref (ad (16 + pg))), (1, .int (nI k)), (2, .int a), (3, .int z)] := hl
  obtain ⟨hx, hb, hr, hml, hown, hts, hlk⟩ := id C0
  refine lv_aload_n hx hb dX0_setSlot_0 rfl (lv_at hl 0 rfl) ?_
  refine lv_iconst (v := 4) hx hb dX0_setSlot_1 (by decide) ?_
  refine lv_iload_n hx hb dX0_setSlot_2 rfl (lv_at hl 1 rfl) ?_
  refine lv_imul hx hb dX0_setSlot_3 ?_
  refine lv_iconst (v := 2) hx hb dX0_setSlot_4 (by decide) ?_
  refine lv_iload_n hx hb dX0_setSlot_5 rfl (lv_at hl 2 rfl) ?_
  refine lv_i2l hx hb dX0_setSlot_6 rfl ?_
  rw [show (4 : Int32) * nI k = nI (4 * k) from pk_mul 4 k]
  refine x_callw hS (x_rV C0 hl.1 hK hS (c_X0_write l G ad R N tl T pl P X pg (4 * k) 2 a.toInt64 hp hl_p (by omega)) (x_con_p hp hl_p) rfl gX0_setSlot_X0_write 3 rfl rfl rfl (by decide +kernel) ⟨Nat.le_of_ble_eq_true rfl, Nat.le_of_ble_eq_true rfl⟩ rfl rfl (Nat.le_of_ble_eq_true rfl) dX0_setSlot_7 ⟨Nat.le_of_ble_eq_true rfl, Nat.le_of_ble_eq_true rfl⟩) (fun H locs hS => ?_)
  obtain ⟨Z1, eZ1⟩ : ∃ zz, zz = pg_wr (P pg) (4 * k) 2 a.toInt64 2 := ⟨_, rfl⟩
  rw [← eZ1] at hS
  show W _ _ _ _ _ _ _ _ _ _ _ _ _ _ _ (F0 m 10 ls [])
  refine lv_aload_n hx hb dX0_setSlot_10 rfl (lv_at hl 0 rfl) ?_
  refine lv_iconst (v := 4) hx hb dX0_setSlot_11 (by decide) ?_
  refine lv_iload_n hx hb dX0_setSlot_12 rfl (lv_at hl 1 rfl) ?_
  refine lv_imul hx hb dX0_setSlot_13 ?_
  refine lv_iconst (v := 2) hx hb dX0_setSlot_14 (by decide) ?_
  refine lv_iadd hx hb dX0_setSlot_15 ?_
  refine lv_iconst (v := 2) hx hb dX0_setSlot_16 (by decide) ?_
  refine lv_iload_n hx hb dX0_setSlot_17 rfl (lv_at hl 3 rfl) ?_
  refine lv_i2l hx hb dX0_setSlot_18 rfl ?_
  rw [show (4 : Int32) * nI k + 2 = nI (4 * k + 2) from (by rw [show (4 : Int32) * nI k = nI (4 * k) from pk_mul 4 k]; exact nI_add (4 * k) 2)]
  refine x_callw hS (x_rV C0 hl.1 hK hS (c_X0_write l G ad R N tl T pl (va_up P pg Z1) X pg (4 * k + 2) 2 z.toInt64 hp hl_p (by omega)) (x_con_p hp hl_p) rfl gX0_setSlot_X0_write 3 rfl rfl rfl (by decide +kernel) ⟨Nat.le_of_ble_eq_true rfl, Nat.le_of_ble_eq_true rfl⟩ rfl rfl (Nat.le_of_ble_eq_true rfl) dX0_setSlot_19 ⟨Nat.le_of_ble_eq_true rfl, Nat.le_of_ble_eq_true rfl⟩) (fun H locs hS => ?_)
  simp only [va_up_self, bx_uu] at hS
  obtain ⟨Z2, eZ2⟩ : ∃ zz, zz = pg_wr (Z1) (4 * k + 2) 2 z.toInt64 2 := ⟨_, rfl⟩
  rw [← eZ2] at hS
  show W _ _ _ _ _ _ _ _ _ _ _ _ _ _ _ (F0 m 22 ls [])
  exact x_wretv C0 hS (by rw [eZ2, eZ1]; rfl) dX0_setSlot_22
def pg_ad (Z : Nat → Int32) (k : Nat) (z : Int32) : Nat → Int32 :=
  let Y := upd (if nI k = Z 2 then upd Z 2 (Z 2 + 1) else Z) 4 (Z 4 - z)
  let U := pg_ss Y k (Z 4 - z) z
  upd U 3 (U 3 + 1)
theorem kX0_add_wX0 : ∀ w ∈ u_ws RX0 TX0 6, w ∈ wsX0_add := by decide +kernel
theorem kX0_add_f18 : Cond.fieldLink RX0 18 "VersionDesk$Page" "slots" "I" ∈ wsX0_add := by decide +kernel
theorem kX0_add_f21 : Cond.fieldLink RX0 21 "VersionDesk$Page" "versions" "I" ∈ wsX0_add := by decide +kernel
theorem kX0_add_f24 : Cond.fieldLink RX0 24 "VersionDesk$Page" "packedFrom" "I" ∈ wsX0_add := by decide +kernel
set_option maxHeartbeats 4000000 in
set_option maxRecDepth 100000 in
/-- add -/
theorem c_X0_add (l : Launch) (G : x_G) (ad : Nat → Nat) (R : Nat → Nat → Int32) (N : Nat → Int64) (tl : Nat → Bool) (T : Nat → Nat → Int32) (pl : Nat → Bool) (P : Nat → Nat → Int32) (X : Nat → Option va_E) (pg k : Nat) (z : Int32) (hp : pg < 60) (hl_p : pl pg = true) (hk : k < 2 ^ 20) : Met l yX0_add wsX0_add ({ frames := 2, cells := 0, slots := 0, locals := 49 } : Room) (x_Pc G ad (x_con G ad R N tl T pl P X) [.ref (ad (16 + pg)), .int (nI k), .int z]) (x_Qw G ad (x_con G ad R N tl T pl (va_up P pg (pg_ad (P pg) k z)) X) none) 0 0 (x_A G) := by
  refine x_met (cc := cX0_add) (maxL := 3) (ret := none) (by decide) rfl _ (Nat.le_of_ble_eq_true rfl) ?_
  intro p e s m args below meth c C0 hini hK hS ls hl
  have hl : lv_has ls 3 [(0, .ref (ad (16 + pg))), (1, .int (nI k)), (2, .int z)] := hl
  obtain ⟨hx, hb, hr, hml, hown, hts, hlk⟩ := id C0
  refine lv_iload_n hx hb dX0_add_0 rfl (lv_at hl 1 rfl) ?_
  refine lv_aload_n hx hb dX0_add_1 rfl (lv_at hl 0 rfl) ?_
  refine x_pget (j := 2) C0 hK hS hp hl_p (by decide) kX0_add_wX0 kX0_add_f18 dX0_add_2 ?_
  refine lv_icmp_ne (tgt := 18) hx hb dX0_add_5 (by decide) (fun c5 => ?_) (fun c5 => ?_)
  · refine lv_aload_n hx hb dX0_add_18 rfl (lv_at hl 0 rfl) ?_
    refine lv_dup hx hb dX0_add_19 rfl ?_
    refine x_pget (j := 4) C0 hK hS hp hl_p (by decide) kX0_add_wX0 kX0_add_f24 dX0_add_20 ?_
    refine lv_iload_n hx hb dX0_add_23 rfl (lv_at hl 2 rfl) ?_
    refine lv_isub hx hb dX0_add_24 ?_
    refine lv_topi (fun x1 ex1 => ?_)
    refine x_pput (j := 4) C0 hK hS hp hl_p (by decide) kX0_add_wX0 kX0_add_f24 dX0_add_25 (fun H locs hS => ?_)
    obtain ⟨Z2, eZ2⟩ : ∃ zz, zz = upd (P pg) 4 x1 := ⟨_, rfl⟩
    rw [← eZ2] at hS
    refine lv_aload_n hx hb dX0_add_28 rfl (lv_at hl 0 rfl) ?_
    refine lv_iload_n hx hb dX0_add_29 rfl (lv_at hl 1 rfl) ?_
    refine lv_aload_n hx hb dX0_add_30 rfl (lv_at hl 0 rfl) ?_
    refine x_pget (j := 4) C0 hK hS hp hl_p (by decide) kX0_add_wX0 kX0_add_f24 dX0_add_31 ?_
    rw [va_up_self]
    refine lv_iload_n hx hb dX0_add_34 rfl (lv_at hl 2 rfl) ?_
    refine x_callw hS (x_rV C0 hl.1 hK hS (c_X0_setSlot l G ad R N tl T pl (va_up P pg Z2) X pg k (Z2 4) z hp hl_p (by omega)) (x_con_p hp hl_p) rfl gX0_add_X0_setSlot 3 rfl rfl rfl (by decide +kernel) ⟨Nat.le_of_ble_eq_true rfl, Nat.le_of_ble_eq_true rfl⟩ rfl rfl (Nat.le_of_ble_eq_true rfl) dX0_add_35 ⟨Nat.le_of_ble_eq_true rfl, Nat.le_of_ble_eq_true rfl⟩) (fun H locs hS => ?_)
    simp only [va_up_self, bx_uu] at hS
    obtain ⟨Z3, eZ3⟩ : ∃ zz, zz = pg_ss (Z2) k (Z2 4) z := ⟨_, rfl⟩
    rw [← eZ3] at hS
    show W _ _ _ _ _ _ _ _ _ _ _ _ _ _ _ (F0 m 38 ls [])
    refine lv_aload_n hx hb dX0_add_38 rfl (lv_at hl 0 rfl) ?_
    refine lv_dup hx hb dX0_add_39 rfl ?_
    refine x_pget (j := 3) C0 hK hS hp hl_p (by decide) kX0_add_wX0 kX0_add_f21 dX0_add_40 ?_
    rw [va_up_self]
    refine lv_iconst (v := 1) hx hb dX0_add_43 (by decide) ?_
    refine lv_iadd hx hb dX0_add_44 ?_
    refine lv_topi (fun x4 ex4 => ?_)
    refine x_pput (j := 3) C0 hK hS hp hl_p (by decide) kX0_add_wX0 kX0_add_f21 dX0_add_45 (fun H locs hS => ?_)
    simp only [va_up_self, bx_uu] at hS
    obtain ⟨Z5, eZ5⟩ : ∃ zz, zz = upd (Z3) 3 x4 := ⟨_, rfl⟩
    rw [← eZ5] at hS
    exact x_wretv C0 hS (by simp only [pg_ad]; rw [if_neg c5]; subst_vars; rfl) dX0_add_48
  · refine lv_aload_n hx hb dX0_add_8 rfl (lv_at hl 0 rfl) ?_
    refine lv_dup hx hb dX0_add_9 rfl ?_
    refine x_pget (j := 2) C0 hK hS hp hl_p (by decide) kX0_add_wX0 kX0_add_f18 dX0_add_10 ?_
    refine lv_iconst (v := 1) hx hb dX0_add_13 (by decide) ?_
    refine lv_iadd hx hb dX0_add_14 ?_
    refine lv_topi (fun x6 ex6 => ?_)
    refine x_pput (j := 2) C0 hK hS hp hl_p (by decide) kX0_add_wX0 kX0_add_f18 dX0_add_15 (fun H locs hS => ?_)
    obtain ⟨Z7, eZ7⟩ : ∃ zz, zz = upd (P pg) 2 x6 := ⟨_, rfl⟩
    rw [← eZ7] at hS
    refine lv_aload_n hx hb dX0_add_18 rfl (lv_at hl 0 rfl) ?_
    refine lv_dup hx hb dX0_add_19 rfl ?_
    refine x_pget (j := 4) C0 hK hS hp hl_p (by decide) kX0_add_wX0 kX0_add_f24 dX0_add_20 ?_
    rw [va_up_self]
    refine lv_iload_n hx hb dX0_add_23 rfl (lv_at hl 2 rfl) ?_
    refine lv_isub hx hb dX0_add_24 ?_
    refine lv_topi (fun x8 ex8 => ?_)
    refine x_pput (j := 4) C0 hK hS hp hl_p (by decide) kX0_add_wX0 kX0_add_f24 dX0_add_25 (fun H locs hS => ?_)
    simp only [va_up_self, bx_uu] at hS
    obtain ⟨Z9, eZ9⟩ : ∃ zz, zz = upd (Z7) 4 x8 := ⟨_, rfl⟩
    rw [← eZ9] at hS
    refine lv_aload_n hx hb dX0_add_28 rfl (lv_at hl 0 rfl) ?_
    refine lv_iload_n hx hb dX0_add_29 rfl (lv_at hl 1 rfl) ?_
    refine lv_aload_n hx hb dX0_add_30 rfl (lv_at hl 0 rfl) ?_
    refine x_pget (j := 4) C0 hK hS hp hl_p (by decide) kX0_add_wX0 kX0_add_f24 dX0_add_31 ?_
    rw [va_up_self]
    refine lv_iload_n hx hb dX0_add_34 rfl (lv_at hl 2 rfl) ?_
    refine x_callw hS (x_rV C0 hl.1 hK hS (c_X0_setSlot l G ad R N tl T pl (va_up P pg Z9) X pg k (Z9 4) z hp hl_p (by omega)) (x_con_p hp hl_p) rfl gX0_add_X0_setSlot 3 rfl rfl rfl (by decide +kernel) ⟨Nat.le_of_ble_eq_true rfl, Nat.le_of_ble_eq_true rfl⟩ rfl rfl (Nat.le_of_ble_eq_true rfl) dX0_add_35 ⟨Nat.le_of_ble_eq_true rfl, Nat.le_of_ble_eq_true rfl⟩) (fun H locs hS => ?_)
    simp only [va_up_self, bx_uu] at hS
    obtain ⟨Z10, eZ10⟩ : ∃ zz, zz = pg_ss (Z9) k (Z9 4) z := ⟨_, rfl⟩
    rw [← eZ10] at hS
    show W _ _ _ _ _ _ _ _ _ _ _ _ _ _ _ (F0 m 38 ls [])
    refine lv_aload_n hx hb dX0_add_38 rfl (lv_at hl 0 rfl) ?_
    refine lv_dup hx hb dX0_add_39 rfl ?_
    refine x_pget (j := 3) C0 hK hS hp hl_p (by decide) kX0_add_wX0 kX0_add_f21 dX0_add_40 ?_
    rw [va_up_self]
    refine lv_iconst (v := 1) hx hb dX0_add_43 (by decide) ?_
    refine lv_iadd hx hb dX0_add_44 ?_
    refine lv_topi (fun x11 ex11 => ?_)
    refine x_pput (j := 3) C0 hK hS hp hl_p (by decide) kX0_add_wX0 kX0_add_f21 dX0_add_45 (fun H locs hS => ?_)
    simp only [va_up_self, bx_uu] at hS
    obtain ⟨Z12, eZ12⟩ : ∃ zz, zz = upd (Z10) 3 x11 := ⟨_, rfl⟩
    rw [← eZ12] at hS
    exact x_wretv C0 hS (by simp only [pg_ad]; rw [if_pos c5]; subst_vars; rfl) dX0_add_48
