-- ===== the reference: searches =====
def y_lf (M : Nat → Nat → Int32) : Nat → Int32 → Int32
  | 0, a => a
  | n + 1, a => y_lf M n (if M 3 n < 0 then nI n else a)
def y_op (M : Nat → Nat → Int32) (p : Nat) (t : Int32) : Nat → Nat → Int32 := va_up (va_up (va_up M 3 (upd (M 3) p t)) 4 (upd (M 4) p 0)) 5 (upd (M 5) p (-1))
def y_vn (M : Nat → Nat → Int32) (p : Int32) : Nat → Int32
  | 0 => 0
  | k + 1 => if M 7 k / 256 = p then y_vn M p k + 1 else y_vn M p k
def y_fr (M : Nat → Nat → Int32) (p : Nat) : Nat → Int32
  | 0 => 496 - 4 * M 4 p
  | k + 1 => if M 7 k / 256 = nI p then y_fr M p k - M 14 k else y_fr M p k
def y_fd (M : Nat → Nat → Int32) (a : Int32) : Nat → Int32
  | 0 => -1
  | k + 1 => if M 7 k = a then nI k else y_fd M a k
theorem y_fd_N (M : Nat → Nat → Int32) (a : Int32) : ∀ n, y_fd M a n = -1 ∨ ∃ k, k < n ∧ y_fd M a n = nI k ∧ M 7 k = a
  | 0 => Or.inl rfl
  | n + 1 => by
    simp only [y_fd]
    split
    · rename_i h
      exact Or.inr ⟨n, by omega, rfl, h⟩
    · rcases y_fd_N M a n with h | ⟨k, h1, h2, h3⟩
      · exact Or.inl h
      · exact Or.inr ⟨k, by omega, h2, h3⟩
def y_ls (M : Nat → Nat → Int32) (mn p : Nat) : Nat → Nat → Nat
  | 0, s => s
  | d + 1, s => if y_fd M (nI (256 * p + s)) mn < 0 then s else y_ls M mn p d (s + 1)
def y_ni (M : Nat → Nat → Int32) (p s : Int32) : Nat → Int32
  | 0 => -1
  | k + 1 => if (M 7 k / 256 = p ∧ s < M 7 k - M 7 k / 256 * 256) ∧ (y_ni M p s k < 0 ∨ M 7 k < y_ni M p s k) then M 7 k else y_ni M p s k
theorem kX4_lowestFree_wX4 : ∀ w ∈ u_ws RX4 TX4 22, w ∈ wsX4_lowestFree := by decide +kernel
theorem kX4_lowestFree_f19 : Cond.fieldLink RX4 19 "VersionDeskModel" "tableOf" "[I" ∈ wsX4_lowestFree := by decide +kernel
set_option maxHeartbeats 4000000 in
set_option maxRecDepth 100000 in
theorem l_X4_lowestFree {p : Program} {l : Launch} {e : Env} {s : State} {m : MethodId} {args : Array Value} {below : List Frame} {meth : Method} {c : Code} {G : x_G} {ad : Nat → Nat} {D : Nat → Option va_E} {M : Nat → Nat → Int32} {V : Nat → Int64} (C0 : x_B p s m meth c args cX4_lowestFree 3 (some .int) RX4 wsX4_lowestFree) (hK : x_K G s) {r : Int32} (hS : x_H G ad (y_con G ad D M V) s.heap []) : ∀ (d : Nat) (j : Nat) (v2 a : Int32), j < d → j ≤ 60 → v2 = nI j - 1 → r = y_lf M j a → ∀ (ls : Array Slot), lv_has ls 3 [(0, .ref (ad 200)), (1, .int a), (2, .int v2)] → W p l e ({ frames := 0, cells := 0, slots := 0, locals := 0 } : Room) s m args below meth c s.heap [] 0 0 (MQ below (x_Qr (some (.int r))) args s 0 0 (fun _ => False)) (F0 m 5 ls []) := by
  obtain ⟨hx, hb, hr, hml, hown, hts, hlk⟩ := id C0
  intro d
  induction d with
  | zero =>
    intro j v2 a hd hj60 e2 hF ls hl
    exact absurd hd (by omega)
  | succ d ih =>
    intro j v2 a hd hj60 e2 hF ls hl
    refine lv_iload_n hx hb dX4_lowestFree_5 rfl (lv_at hl 2 rfl) ?_
    refine lv_if_lt (tgt := 30) hx hb dX4_lowestFree_6 (by decide) (fun c6 => ?_) (fun c6 => ?_)
    · have hj : j = 0 := by
        cases j with
        | zero => rfl
        | succ j => rw [e2, nI_pred] at c6; exact absurd c6 (nI_pos (by omega))
      refine lv_iload_n hx hb dX4_lowestFree_30 rfl (lv_at hl 1 rfl) ?_
      exact x_reti C0 (by rw [hF, hj]; rfl) dX4_lowestFree_31
    · obtain ⟨j, rfl⟩ : ∃ i, j = i + 1 := by
        cases j with
        | zero => exact absurd (by rw [e2]; decide) c6
        | succ j => exact ⟨j, rfl⟩
      obtain rfl : v2 = nI j := by rw [e2]; exact nI_pred j
      refine lv_aload_n hx hb dX4_lowestFree_9 rfl (lv_at hl 0 rfl) ?_
      refine y_get (j := 3) C0 hK hS (by decide) (by decide) kX4_lowestFree_wX4 kX4_lowestFree_f19 dX4_lowestFree_10 ?_
      refine lv_iload_n hx hb dX4_lowestFree_13 rfl (lv_at hl 2 rfl) ?_
      refine y_iald (j := 3) (i := j) (n := 60) C0 hK hS (by decide) (by decide) (by decide) (by omega) rfl dX4_lowestFree_14 ?_
      refine lv_if_ge (tgt := 22) hx hb dX4_lowestFree_15 (by decide) (fun c15 => ?_) (fun c15 => ?_)
      · refine lv_iload_n hx hb dX4_lowestFree_22 rfl (lv_at hl 1 rfl) ?_
        refine lv_istore_n (lv' := [(1, .int a), (0, .ref (ad 200)), (2, .int (nI j))]) hx hb dX4_lowestFree_23 rfl hl (by decide) rfl (fun ls hl => ?_)
        obtain ⟨x1, ex1⟩ : ∃ z : Int32, z = nI j + (-1) := ⟨_, rfl⟩
        refine lv_iinc (v := x1) (lv' := [(2, .int x1), (1, .int a), (0, .ref (ad 200))]) hx hb dX4_lowestFree_24 hl (k := 2) rfl (by rw [ex1]; rfl) (by decide) rfl (fun ls hl => ?_)
        refine lv_goto (tgt := 5) hx hb dX4_lowestFree_27 (by decide) ?_
        exact ih j _ _ (by omega) (by omega) (by rw [ex1, show ∀ x : Int32, x + (-1) = x - 1 from fun x => (Int32.sub_eq_add_neg x 1).symm]) (by rw [hF]; simp only [y_lf]; rw [if_neg (Int32.not_lt.mpr c15)]) ls (lv_sub hl [2, 1, 0] rfl)
      · refine lv_iload_n hx hb dX4_lowestFree_18 rfl (lv_at hl 2 rfl) ?_
        refine lv_goto (tgt := 23) hx hb dX4_lowestFree_19 (by decide) ?_
        refine lv_istore_n (lv' := [(1, .int (nI j)), (0, .ref (ad 200)), (2, .int (nI j))]) hx hb dX4_lowestFree_23 rfl hl (by decide) rfl (fun ls hl => ?_)
        obtain ⟨x2, ex2⟩ : ∃ z : Int32, z = nI j + (-1) := ⟨_, rfl⟩
        refine lv_iinc (v := x2) (lv' := [(2, .int x2), (1, .int (nI j)), (0, .ref (ad 200))]) hx hb dX4_lowestFree_24 hl (k := 2) rfl (by rw [ex2]; rfl) (by decide) rfl (fun ls hl => ?_)
        refine lv_goto (tgt := 5) hx hb dX4_lowestFree_27 (by decide) ?_
        exact ih j _ _ (by omega) (by omega) (by rw [ex2, show ∀ x : Int32, x + (-1) = x - 1 from fun x => (Int32.sub_eq_add_neg x 1).symm]) (by rw [hF]; simp only [y_lf]; rw [if_pos (Int32.not_le.mp c15)]) ls (lv_sub hl [2, 1, 0] rfl)
set_option maxHeartbeats 4000000 in
set_option maxRecDepth 100000 in
/-- lowestFree -/
theorem c_X4_lowestFree (l : Launch) (G : x_G) (ad : Nat → Nat) (D : Nat → Option va_E) (M : Nat → Nat → Int32) (V : Nat → Int64)  : Met l yX4_lowestFree wsX4_lowestFree ({ frames := 0, cells := 0, slots := 0, locals := 0 } : Room) (x_Pc G ad (y_con G ad D M V) [.ref (ad 200)]) (x_Qr (some (.int (y_lf M 60 (-1))))) 0 0 (fun _ => False) := by
  refine x_met (cc := cX4_lowestFree) (maxL := 3) (ret := (some .int)) (by decide) rfl _ (Nat.le_of_ble_eq_true rfl) ?_
  intro p e s m args below meth c C0 hini hK hS ls hl
  have hl : lv_has ls 3 [(0, .ref (ad 200))] := hl
  obtain ⟨hx, hb, hr, hml, hown, hts, hlk⟩ := id C0
  refine lv_iconst (v := (-1)) hx hb dX4_lowestFree_0 (by decide) ?_
  refine lv_istore_n (lv' := [(1, .int (-1)), (0, .ref (ad 200))]) hx hb dX4_lowestFree_1 rfl hl (by decide) rfl (fun ls hl => ?_)
  refine lv_bipush (v := 59) hx hb dX4_lowestFree_2 (by decide) ?_
  refine lv_istore_n (lv' := [(2, .int 59), (1, .int (-1)), (0, .ref (ad 200))]) hx hb dX4_lowestFree_4 rfl hl (by decide) rfl (fun ls hl => ?_)
  exact l_X4_lowestFree C0 hK hS 61 60 _ _ (by omega) (by omega) (by decide) rfl ls (lv_sub hl [2, 1, 0] rfl)
theorem kX4_open_wX4 : ∀ w ∈ u_ws RX4 TX4 22, w ∈ wsX4_open := by decide +kernel
theorem kX4_open_f19 : Cond.fieldLink RX4 19 "VersionDeskModel" "tableOf" "[I" ∈ wsX4_open := by decide +kernel
theorem kX4_open_f22 : Cond.fieldLink RX4 22 "VersionDeskModel" "slots" "[I" ∈ wsX4_open := by decide +kernel
theorem kX4_open_f25 : Cond.fieldLink RX4 25 "VersionDeskModel" "follows" "[I" ∈ wsX4_open := by decide +kernel
set_option maxHeartbeats 4000000 in
set_option maxRecDepth 100000 in
/-- open -/
theorem c_X4_open (l : Launch) (G : x_G) (ad : Nat → Nat) (D : Nat → Option va_E) (M : Nat → Nat → Int32) (V : Nat → Int64) (p0 : Nat) (t0 : Int32) (hp : p0 < 60) : Met l yX4_open wsX4_open ({ frames := 0, cells := 0, slots := 0, locals := 0 } : Room) (x_Pc G ad (y_con G ad D M V) [.ref (ad 200), .int (nI p0), .int t0]) (x_Qw G ad (y_con G ad D (y_op M p0 t0) V) none) 0 0 (x_A G) := by
  refine x_met (cc := cX4_open) (maxL := 3) (ret := none) (by decide) rfl _ (Nat.le_of_ble_eq_true rfl) ?_
  intro p e s m args below meth c C0 hini hK hS ls hl
  have hl : lv_has ls 3 [(0, .ref (ad 200)), (1, .int (nI p0)), (2, .int t0)] := hl
  obtain ⟨hx, hb, hr, hml, hown, hts, hlk⟩ := id C0
  refine lv_aload_n hx hb dX4_open_0 rfl (lv_at hl 0 rfl) ?_
  refine y_get (j := 3) C0 hK hS (by decide) (by decide) kX4_open_wX4 kX4_open_f19 dX4_open_1 ?_
  refine lv_iload_n hx hb dX4_open_4 rfl (lv_at hl 1 rfl) ?_
  refine lv_iload_n hx hb dX4_open_5 rfl (lv_at hl 2 rfl) ?_
  refine y_iast (j := 3) (i := p0) (n := 60) C0 hK hS (by decide) (by decide) (by decide) (by omega) rfl dX4_open_6 (fun H locs hS => ?_)
  obtain ⟨M1, eM1⟩ : ∃ zz, zz = va_up M 3 (upd (M 3) p0 t0) := ⟨_, rfl⟩
  rw [← eM1] at hS
  refine lv_aload_n hx hb dX4_open_7 rfl (lv_at hl 0 rfl) ?_
  refine y_get (j := 4) C0 hK hS (by decide) (by decide) kX4_open_wX4 kX4_open_f22 dX4_open_8 ?_
  refine lv_iload_n hx hb dX4_open_11 rfl (lv_at hl 1 rfl) ?_
  refine lv_iconst (v := 0) hx hb dX4_open_12 (by decide) ?_
  refine y_iast (j := 4) (i := p0) (n := 60) C0 hK hS (by decide) (by decide) (by decide) (by omega) rfl dX4_open_13 (fun H locs hS => ?_)
  obtain ⟨M2, eM2⟩ : ∃ zz, zz = va_up M1 4 (upd (M1 4) p0 0) := ⟨_, rfl⟩
  rw [← eM2] at hS
  refine lv_aload_n hx hb dX4_open_14 rfl (lv_at hl 0 rfl) ?_
  refine y_get (j := 5) C0 hK hS (by decide) (by decide) kX4_open_wX4 kX4_open_f25 dX4_open_15 ?_
  refine lv_iload_n hx hb dX4_open_18 rfl (lv_at hl 1 rfl) ?_
  refine lv_iconst (v := (-1)) hx hb dX4_open_19 (by decide) ?_
  refine y_iast (j := 5) (i := p0) (n := 60) C0 hK hS (by decide) (by decide) (by decide) (by omega) rfl dX4_open_20 (fun H locs hS => ?_)
  obtain ⟨M3, eM3⟩ : ∃ zz, zz = va_up M2 5 (upd (M2 5) p0 (-1)) := ⟨_, rfl⟩
  rw [← eM3] at hS
  exact x_wretv C0 hS (by subst_vars; rfl) dX4_open_21
theorem kX4_versionsIn_wX4 : ∀ w ∈ u_ws RX4 TX4 22, w ∈ wsX4_versionsIn := by decide +kernel
theorem kX4_versionsIn_f105 : Cond.fieldLink RX4 105 "VersionDeskModel" "many" "I" ∈ wsX4_versionsIn := by decide +kernel
theorem kX4_versionsIn_f28 : Cond.fieldLink RX4 28 "VersionDeskModel" "place" "[I" ∈ wsX4_versionsIn := by decide +kernel
set_option maxHeartbeats 4000000 in
set_option maxRecDepth 100000 in
theorem l_X4_versionsIn {p : Program} {l : Launch} {e : Env} {s : State} {m : MethodId} {args : Array Value} {below : List Frame} {meth : Method} {c : Code} {G : x_G} {ad : Nat → Nat} {D : Nat → Option va_E} {M : Nat → Nat → Int32} {V : Nat → Int64} (C0 : x_B p s m meth c args cX4_versionsIn 4 (some .int) RX4 wsX4_versionsIn) (hK : x_K G s) {mn : Nat} {r p0 : Int32} (hmn : M 6 0 = nI mn) (hm : mn ≤ 514) (hr9 : r = y_vn M p0 mn) (hS : x_H G ad (y_con G ad D M V) s.heap []) : ∀ (d : Nat) (k : Nat) (a : Int32), mn - k < d → k ≤ mn → a = y_vn M p0 k → ∀ (ls : Array Slot), lv_has ls 4 [(0, .ref (ad 200)), (1, .int p0), (2, .int a), (3, .int (nI k))] → W p l e ({ frames := 0, cells := 0, slots := 0, locals := 0 } : Room) s m args below meth c s.heap [] 0 0 (MQ below (x_Qr (some (.int r))) args s 0 0 (fun _ => False)) (F0 m 4 ls []) := by
  obtain ⟨hx, hb, hr, hml, hown, hts, hlk⟩ := id C0
  intro d
  induction d with
  | zero =>
    intro k a hd hk hF ls hl
    exact absurd hd (by omega)
  | succ d ih =>
    intro k a hd hk hF ls hl
    refine lv_iload_n hx hb dX4_versionsIn_4 rfl (lv_at hl 3 rfl) ?_
    refine lv_aload_n hx hb dX4_versionsIn_5 rfl (lv_at hl 0 rfl) ?_
    refine y_geti (j := 6) C0 hK hS (by decide) kX4_versionsIn_wX4 kX4_versionsIn_f105 dX4_versionsIn_6 ?_
    rw [hmn]
    refine lv_icmp_ge (tgt := 40) hx hb dX4_versionsIn_9 (by decide) (fun c9 => ?_) (fun c9 => ?_)
    · have hk2 := nz_le c9 rfl rfl (by omega) (by omega)
      refine lv_iload_n hx hb dX4_versionsIn_40 rfl (lv_at hl 2 rfl) ?_
      exact x_reti C0 (by rw [hr9, hF, show k = mn by omega]) dX4_versionsIn_41
    · have hk2 := nz_nle c9 rfl rfl (by omega) (by omega)
      refine lv_aload_n hx hb dX4_versionsIn_12 rfl (lv_at hl 0 rfl) ?_
      refine y_get (j := 7) C0 hK hS (by decide) (by decide) kX4_versionsIn_wX4 kX4_versionsIn_f28 dX4_versionsIn_13 ?_
      refine lv_iload_n hx hb dX4_versionsIn_16 rfl (lv_at hl 3 rfl) ?_
      refine y_iald (j := 7) (i := k) (n := 515) C0 hK hS (by decide) (by decide) (by decide) (by omega) rfl dX4_versionsIn_17 ?_
      refine lv_sipush (v := 256) hx hb dX4_versionsIn_18 (by decide) ?_
      refine lv_idiv hx hb dX4_versionsIn_21 (by decide) ?_
      refine lv_iload_n hx hb dX4_versionsIn_22 rfl (lv_at hl 1 rfl) ?_
      refine lv_icmp_ne (tgt := 32) hx hb dX4_versionsIn_23 (by decide) (fun c23 => ?_) (fun c23 => ?_)
      · refine lv_iload_n hx hb dX4_versionsIn_32 rfl (lv_at hl 2 rfl) ?_
        refine lv_istore_n (lv' := [(2, .int a), (0, .ref (ad 200)), (1, .int p0), (3, .int (nI k))]) hx hb dX4_versionsIn_33 rfl hl (by decide) rfl (fun ls hl => ?_)
        refine lv_iinc (v := nI (k + 1)) (lv' := [(3, .int (nI (k + 1))), (2, .int a), (0, .ref (ad 200)), (1, .int p0)]) hx hb dX4_versionsIn_34 hl (k := 3) rfl (nI_1 k) (by decide) rfl (fun ls hl => ?_)
        refine lv_goto (tgt := 4) hx hb dX4_versionsIn_37 (by decide) ?_
        exact ih (k + 1) _ (by omega) (by omega) (by simp only [y_vn]; rw [if_neg c23, ← hF]) ls (lv_sub hl [2, 3, 1, 0] rfl)
      · refine lv_iload_n hx hb dX4_versionsIn_26 rfl (lv_at hl 2 rfl) ?_
        refine lv_iconst (v := 1) hx hb dX4_versionsIn_27 (by decide) ?_
        refine lv_iadd hx hb dX4_versionsIn_28 ?_
        refine lv_goto (tgt := 33) hx hb dX4_versionsIn_29 (by decide) ?_
        refine lv_topi (fun x1 ex1 => ?_)
        refine lv_istore_n (lv' := [(2, .int x1), (0, .ref (ad 200)), (1, .int p0), (3, .int (nI k))]) hx hb dX4_versionsIn_33 rfl hl (by decide) rfl (fun ls hl => ?_)
        refine lv_iinc (v := nI (k + 1)) (lv' := [(3, .int (nI (k + 1))), (2, .int x1), (0, .ref (ad 200)), (1, .int p0)]) hx hb dX4_versionsIn_34 hl (k := 3) rfl (nI_1 k) (by decide) rfl (fun ls hl => ?_)
        refine lv_goto (tgt := 4) hx hb dX4_versionsIn_37 (by decide) ?_
        exact ih (k + 1) _ (by omega) (by omega) (by simp only [y_vn]; rw [if_pos c23, ex1, ← hF]) ls (lv_sub hl [2, 3, 1, 0] rfl)
set_option maxHeartbeats 4000000 in
set_option maxRecDepth 100000 in
/-- versionsIn -/
theorem c_X4_versionsIn (l : Launch) (G : x_G) (ad : Nat → Nat) (D : Nat → Option va_E) (M : Nat → Nat → Int32) (V : Nat → Int64) (p0 : Int32) (mn : Nat) (hmn : M 6 0 = nI mn) (hm : mn ≤ 514) : Met l yX4_versionsIn wsX4_versionsIn ({ frames := 0, cells := 0, slots := 0, locals := 0 } : Room) (x_Pc G ad (y_con G ad D M V) [.ref (ad 200), .int p0]) (x_Qr (some (.int (y_vn M p0 mn)))) 0 0 (fun _ => False) := by
  refine x_met (cc := cX4_versionsIn) (maxL := 4) (ret := (some .int)) (by decide) rfl _ (Nat.le_of_ble_eq_true rfl) ?_
  intro p e s m args below meth c C0 hini hK hS ls hl
  have hl : lv_has ls 4 [(0, .ref (ad 200)), (1, .int p0)] := hl
  obtain ⟨hx, hb, hr, hml, hown, hts, hlk⟩ := id C0
  refine lv_iconst (v := 0) hx hb dX4_versionsIn_0 (by decide) ?_
  refine lv_istore_n (lv' := [(2, .int 0), (0, .ref (ad 200)), (1, .int p0)]) hx hb dX4_versionsIn_1 rfl hl (by decide) rfl (fun ls hl => ?_)
  refine lv_iconst (v := 0) hx hb dX4_versionsIn_2 (by decide) ?_
  refine lv_istore_n (lv' := [(3, .int 0), (2, .int 0), (0, .ref (ad 200)), (1, .int p0)]) hx hb dX4_versionsIn_3 rfl hl (by decide) rfl (fun ls hl => ?_)
  exact l_X4_versionsIn C0 hK hmn hm rfl hS (mn + 1) 0 _ (by omega) (by omega) rfl ls (lv_sub hl [2, 3, 1, 0] rfl)
theorem kX4_freeIn_wX4 : ∀ w ∈ u_ws RX4 TX4 22, w ∈ wsX4_freeIn := by decide +kernel
theorem kX4_freeIn_f105 : Cond.fieldLink RX4 105 "VersionDeskModel" "many" "I" ∈ wsX4_freeIn := by decide +kernel
theorem kX4_freeIn_f28 : Cond.fieldLink RX4 28 "VersionDeskModel" "place" "[I" ∈ wsX4_freeIn := by decide +kernel
theorem kX4_freeIn_f49 : Cond.fieldLink RX4 49 "VersionDeskModel" "size" "[I" ∈ wsX4_freeIn := by decide +kernel
set_option maxHeartbeats 4000000 in
set_option maxRecDepth 100000 in
theorem l_X4_freeIn {p : Program} {l : Launch} {e : Env} {s : State} {m : MethodId} {args : Array Value} {below : List Frame} {meth : Method} {c : Code} {G : x_G} {ad : Nat → Nat} {D : Nat → Option va_E} {M : Nat → Nat → Int32} {V : Nat → Int64} (C0 : x_B p s m meth c args cX4_freeIn 4 (some .int) RX4 wsX4_freeIn) (hK : x_K G s) {mn p0 : Nat} {r : Int32} (hmn : M 6 0 = nI mn) (hm : mn ≤ 514) (hp : p0 < 60) (hr9 : r = y_fr M p0 mn) (hS : x_H G ad (y_con G ad D M V) s.heap []) : ∀ (d : Nat) (k : Nat) (a : Int32), mn - k < d → k ≤ mn → a = y_fr M p0 k → ∀ (ls : Array Slot), lv_has ls 4 [(0, .ref (ad 200)), (1, .int (nI p0)), (2, .int a), (3, .int (nI k))] → W p l e ({ frames := 0, cells := 0, slots := 0, locals := 0 } : Room) s m args below meth c s.heap [] 0 0 (MQ below (x_Qr (some (.int r))) args s 0 0 (fun _ => False)) (F0 m 15 ls []) := by
  obtain ⟨hx, hb, hr, hml, hown, hts, hlk⟩ := id C0
  intro d
  induction d with
  | zero =>
    intro k a hd hk hF ls hl
    exact absurd hd (by omega)
  | succ d ih =>
    intro k a hd hk hF ls hl
    refine lv_iload_n hx hb dX4_freeIn_15 rfl (lv_at hl 3 rfl) ?_
    refine lv_aload_n hx hb dX4_freeIn_16 rfl (lv_at hl 0 rfl) ?_
    refine y_geti (j := 6) C0 hK hS (by decide) kX4_freeIn_wX4 kX4_freeIn_f105 dX4_freeIn_17 ?_
    rw [hmn]
    refine lv_icmp_ge (tgt := 56) hx hb dX4_freeIn_20 (by decide) (fun c20 => ?_) (fun c20 => ?_)
    · have hk2 := nz_le c20 rfl rfl (by omega) (by omega)
      refine lv_iload_n hx hb dX4_freeIn_56 rfl (lv_at hl 2 rfl) ?_
      exact x_reti C0 (by rw [hr9, hF, show k = mn by omega]) dX4_freeIn_57
    · have hk2 := nz_nle c20 rfl rfl (by omega) (by omega)
      refine lv_aload_n hx hb dX4_freeIn_23 rfl (lv_at hl 0 rfl) ?_
      refine y_get (j := 7) C0 hK hS (by decide) (by decide) kX4_freeIn_wX4 kX4_freeIn_f28 dX4_freeIn_24 ?_
      refine lv_iload_n hx hb dX4_freeIn_27 rfl (lv_at hl 3 rfl) ?_
      refine y_iald (j := 7) (i := k) (n := 515) C0 hK hS (by decide) (by decide) (by decide) (by omega) rfl dX4_freeIn_28 ?_
      refine lv_sipush (v := 256) hx hb dX4_freeIn_29 (by decide) ?_
      refine lv_idiv hx hb dX4_freeIn_32 (by decide) ?_
      refine lv_iload_n hx hb dX4_freeIn_33 rfl (lv_at hl 1 rfl) ?_
      refine lv_icmp_ne (tgt := 48) hx hb dX4_freeIn_34 (by decide) (fun c34 => ?_) (fun c34 => ?_)
      · refine lv_iload_n hx hb dX4_freeIn_48 rfl (lv_at hl 2 rfl) ?_
        refine lv_istore_n (lv' := [(2, .int a), (0, .ref (ad 200)), (1, .int (nI p0)), (3, .int (nI k))]) hx hb dX4_freeIn_49 rfl hl (by decide) rfl (fun ls hl => ?_)
        refine lv_iinc (v := nI (k + 1)) (lv' := [(3, .int (nI (k + 1))), (2, .int a), (0, .ref (ad 200)), (1, .int (nI p0))]) hx hb dX4_freeIn_50 hl (k := 3) rfl (nI_1 k) (by decide) rfl (fun ls hl => ?_)
        refine lv_goto (tgt := 15) hx hb dX4_freeIn_53 (by decide) ?_
        exact ih (k + 1) _ (by omega) (by omega) (by simp only [y_fr]; rw [if_neg c34, ← hF]) ls (lv_sub hl [2, 3, 1, 0] rfl)
      · refine lv_iload_n hx hb dX4_freeIn_37 rfl (lv_at hl 2 rfl) ?_
        refine lv_aload_n hx hb dX4_freeIn_38 rfl (lv_at hl 0 rfl) ?_
        refine y_get (j := 14) C0 hK hS (by decide) (by decide) kX4_freeIn_wX4 kX4_freeIn_f49 dX4_freeIn_39 ?_
        refine lv_iload_n hx hb dX4_freeIn_42 rfl (lv_at hl 3 rfl) ?_
        refine y_iald (j := 14) (i := k) (n := 515) C0 hK hS (by decide) (by decide) (by decide) (by omega) rfl dX4_freeIn_43 ?_
        refine lv_isub hx hb dX4_freeIn_44 ?_
        refine lv_goto (tgt := 49) hx hb dX4_freeIn_45 (by decide) ?_
        refine lv_topi (fun x1 ex1 => ?_)
        refine lv_istore_n (lv' := [(2, .int x1), (0, .ref (ad 200)), (1, .int (nI p0)), (3, .int (nI k))]) hx hb dX4_freeIn_49 rfl hl (by decide) rfl (fun ls hl => ?_)
        refine lv_iinc (v := nI (k + 1)) (lv' := [(3, .int (nI (k + 1))), (2, .int x1), (0, .ref (ad 200)), (1, .int (nI p0))]) hx hb dX4_freeIn_50 hl (k := 3) rfl (nI_1 k) (by decide) rfl (fun ls hl => ?_)
        refine lv_goto (tgt := 15) hx hb dX4_freeIn_53 (by decide) ?_
        exact ih (k + 1) _ (by omega) (by omega) (by simp only [y_fr]; rw [if_pos c34, ex1, ← hF]) ls (lv_sub hl [2, 3, 1, 0] rfl)
theorem kX4_freeIn_f22 : Cond.fieldLink RX4 22 "VersionDeskModel" "slots" "[I" ∈ wsX4_freeIn := by decide +kernel
set_option maxHeartbeats 4000000 in
set_option maxRecDepth 100000 in
/-- freeIn -/
theorem c_X4_freeIn (l : Launch) (G : x_G) (ad : Nat → Nat) (D : Nat → Option va_E) (M : Nat → Nat → Int32) (V : Nat → Int64) (p0 : Nat) (hp : p0 < 60) (mn : Nat) (hmn : M 6 0 = nI mn) (hm : mn ≤ 514) : Met l yX4_freeIn wsX4_freeIn ({ frames := 0, cells := 0, slots := 0, locals := 0 } : Room) (x_Pc G ad (y_con G ad D M V) [.ref (ad 200), .int (nI p0)]) (x_Qr (some (.int (y_fr M p0 mn)))) 0 0 (fun _ => False) := by
  refine x_met (cc := cX4_freeIn) (maxL := 4) (ret := (some .int)) (by decide) rfl _ (Nat.le_of_ble_eq_true rfl) ?_
  intro p e s m args below meth c C0 hini hK hS ls hl
  have hl : lv_has ls 4 [(0, .ref (ad 200)), (1, .int (nI p0))] := hl
  obtain ⟨hx, hb, hr, hml, hown, hts, hlk⟩ := id C0
  refine lv_sipush (v := 496) hx hb dX4_freeIn_0 (by decide) ?_
  refine lv_iconst (v := 4) hx hb dX4_freeIn_3 (by decide) ?_
  refine lv_aload_n hx hb dX4_freeIn_4 rfl (lv_at hl 0 rfl) ?_
  refine y_get (j := 4) C0 hK hS (by decide) (by decide) kX4_freeIn_wX4 kX4_freeIn_f22 dX4_freeIn_5 ?_
  refine lv_iload_n hx hb dX4_freeIn_8 rfl (lv_at hl 1 rfl) ?_
  refine y_iald (j := 4) (i := p0) (n := 60) C0 hK hS (by decide) (by decide) (by decide) (by omega) rfl dX4_freeIn_9 ?_
  refine lv_imul hx hb dX4_freeIn_10 ?_
  refine lv_isub hx hb dX4_freeIn_11 ?_
  refine lv_topi (fun x1 ex1 => ?_)
  refine lv_istore_n (lv' := [(2, .int x1), (0, .ref (ad 200)), (1, .int (nI p0))]) hx hb dX4_freeIn_12 rfl hl (by decide) rfl (fun ls hl => ?_)
  refine lv_iconst (v := 0) hx hb dX4_freeIn_13 (by decide) ?_
  refine lv_istore_n (lv' := [(3, .int 0), (2, .int x1), (0, .ref (ad 200)), (1, .int (nI p0))]) hx hb dX4_freeIn_14 rfl hl (by decide) rfl (fun ls hl => ?_)
  exact l_X4_freeIn C0 hK hmn hm hp rfl hS (mn + 1) 0 _ (by omega) (by omega) ex1 ls (lv_sub hl [2, 3, 1, 0] rfl)
theorem kX4_find_wX4 : ∀ w ∈ u_ws RX4 TX4 22, w ∈ wsX4_find := by decide +kernel
theorem kX4_find_f105 : Cond.fieldLink RX4 105 "VersionDeskModel" "many" "I" ∈ wsX4_find := by decide +kernel
theorem kX4_find_f28 : Cond.fieldLink RX4 28 "VersionDeskModel" "place" "[I" ∈ wsX4_find := by decide +kernel
set_option maxHeartbeats 4000000 in
set_option maxRecDepth 100000 in
theorem l_X4_find {p : Program} {l : Launch} {e : Env} {s : State} {m : MethodId} {args : Array Value} {below : List Frame} {meth : Method} {c : Code} {G : x_G} {ad : Nat → Nat} {D : Nat → Option va_E} {M : Nat → Nat → Int32} {V : Nat → Int64} (C0 : x_B p s m meth c args cX4_find 4 (some .int) RX4 wsX4_find) (hK : x_K G s) {mn : Nat} {r a0 : Int32} (hmn : M 6 0 = nI mn) (hm : mn ≤ 514) (hr9 : r = y_fd M a0 mn) (hS : x_H G ad (y_con G ad D M V) s.heap []) : ∀ (d : Nat) (k : Nat) (a : Int32), mn - k < d → k ≤ mn → a = y_fd M a0 k → ∀ (ls : Array Slot), lv_has ls 4 [(0, .ref (ad 200)), (1, .int a0), (2, .int a), (3, .int (nI k))] → W p l e ({ frames := 0, cells := 0, slots := 0, locals := 0 } : Room) s m args below meth c s.heap [] 0 0 (MQ below (x_Qr (some (.int r))) args s 0 0 (fun _ => False)) (F0 m 4 ls []) := by
  obtain ⟨hx, hb, hr, hml, hown, hts, hlk⟩ := id C0
  intro d
  induction d with
  | zero =>
    intro k a hd hk hF ls hl
    exact absurd hd (by omega)
  | succ d ih =>
    intro k a hd hk hF ls hl
    refine lv_iload_n hx hb dX4_find_4 rfl (lv_at hl 3 rfl) ?_
    refine lv_aload_n hx hb dX4_find_5 rfl (lv_at hl 0 rfl) ?_
    refine y_geti (j := 6) C0 hK hS (by decide) kX4_find_wX4 kX4_find_f105 dX4_find_6 ?_
    rw [hmn]
    refine lv_icmp_ge (tgt := 34) hx hb dX4_find_9 (by decide) (fun c9 => ?_) (fun c9 => ?_)
    · have hk2 := nz_le c9 rfl rfl (by omega) (by omega)
      refine lv_iload_n hx hb dX4_find_34 rfl (lv_at hl 2 rfl) ?_
      exact x_reti C0 (by rw [hr9, hF, show k = mn by omega]) dX4_find_35
    · have hk2 := nz_nle c9 rfl rfl (by omega) (by omega)
      refine lv_aload_n hx hb dX4_find_12 rfl (lv_at hl 0 rfl) ?_
      refine y_get (j := 7) C0 hK hS (by decide) (by decide) kX4_find_wX4 kX4_find_f28 dX4_find_13 ?_
      refine lv_iload_n hx hb dX4_find_16 rfl (lv_at hl 3 rfl) ?_
      refine y_iald (j := 7) (i := k) (n := 515) C0 hK hS (by decide) (by decide) (by decide) (by omega) rfl dX4_find_17 ?_
      refine lv_iload_n hx hb dX4_find_18 rfl (lv_at hl 1 rfl) ?_
      refine lv_icmp_ne (tgt := 26) hx hb dX4_find_19 (by decide) (fun c19 => ?_) (fun c19 => ?_)
      · refine lv_iload_n hx hb dX4_find_26 rfl (lv_at hl 2 rfl) ?_
        refine lv_istore_n (lv' := [(2, .int a), (0, .ref (ad 200)), (1, .int a0), (3, .int (nI k))]) hx hb dX4_find_27 rfl hl (by decide) rfl (fun ls hl => ?_)
        refine lv_iinc (v := nI (k + 1)) (lv' := [(3, .int (nI (k + 1))), (2, .int a), (0, .ref (ad 200)), (1, .int a0)]) hx hb dX4_find_28 hl (k := 3) rfl (nI_1 k) (by decide) rfl (fun ls hl => ?_)
        refine lv_goto (tgt := 4) hx hb dX4_find_31 (by decide) ?_
        exact ih (k + 1) _ (by omega) (by omega) (by simp only [y_fd]; rw [if_neg c19, ← hF]) ls (lv_sub hl [2, 3, 1, 0] rfl)
      · refine lv_iload_n hx hb dX4_find_22 rfl (lv_at hl 3 rfl) ?_
        refine lv_goto (tgt := 27) hx hb dX4_find_23 (by decide) ?_
        refine lv_istore_n (lv' := [(2, .int (nI k)), (0, .ref (ad 200)), (1, .int a0), (3, .int (nI k))]) hx hb dX4_find_27 rfl hl (by decide) rfl (fun ls hl => ?_)
        refine lv_iinc (v := nI (k + 1)) (lv' := [(3, .int (nI (k + 1))), (2, .int (nI k)), (0, .ref (ad 200)), (1, .int a0)]) hx hb dX4_find_28 hl (k := 3) rfl (nI_1 k) (by decide) rfl (fun ls hl => ?_)
        refine lv_goto (tgt := 4) hx hb dX4_find_31 (by decide) ?_
        exact ih (k + 1) _ (by omega) (by omega) (by simp only [y_fd]; rw [if_pos c19]) ls (lv_sub hl [2, 3, 1, 0] rfl)
set_option maxHeartbeats 4000000 in
set_option maxRecDepth 100000 in
/-- find -/
theorem c_X4_find (l : Launch) (G : x_G) (ad : Nat → Nat) (D : Nat → Option va_E) (M : Nat → Nat → Int32) (V : Nat → Int64) (a0 : Int32) (mn : Nat) (hmn : M 6 0 = nI mn) (hm : mn ≤ 514) : Met l yX4_find wsX4_find ({ frames := 0, cells := 0, slots := 0, locals := 0 } : Room) (x_Pc G ad (y_con G ad D M V) [.ref (ad 200), .int a0]) (x_Qr (some (.int (y_fd M a0 mn)))) 0 0 (fun _ => False) := by
  refine x_met (cc := cX4_find) (maxL := 4) (ret := (some .int)) (by decide) rfl _ (Nat.le_of_ble_eq_true rfl) ?_
  intro p e s m args below meth c C0 hini hK hS ls hl
  have hl : lv_has ls 4 [(0, .ref (ad 200)), (1, .int a0)] := hl
  obtain ⟨hx, hb, hr, hml, hown, hts, hlk⟩ := id C0
  refine lv_iconst (v := (-1)) hx hb dX4_find_0 (by decide) ?_
  refine lv_istore_n (lv' := [(2, .int (-1)), (0, .ref (ad 200)), (1, .int a0)]) hx hb dX4_find_1 rfl hl (by decide) rfl (fun ls hl => ?_)
  refine lv_iconst (v := 0) hx hb dX4_find_2 (by decide) ?_
  refine lv_istore_n (lv' := [(3, .int 0), (2, .int (-1)), (0, .ref (ad 200)), (1, .int a0)]) hx hb dX4_find_3 rfl hl (by decide) rfl (fun ls hl => ?_)
  exact l_X4_find C0 hK hmn hm rfl hS (mn + 1) 0 _ (by omega) (by omega) rfl ls (lv_sub hl [2, 3, 1, 0] rfl)
theorem kX4_nextIn_wX4 : ∀ w ∈ u_ws RX4 TX4 22, w ∈ wsX4_nextIn := by decide +kernel
theorem kX4_nextIn_f105 : Cond.fieldLink RX4 105 "VersionDeskModel" "many" "I" ∈ wsX4_nextIn := by decide +kernel
theorem kX4_nextIn_f28 : Cond.fieldLink RX4 28 "VersionDeskModel" "place" "[I" ∈ wsX4_nextIn := by decide +kernel
set_option maxHeartbeats 4000000 in
set_option maxRecDepth 100000 in
theorem l_X4_nextIn {p : Program} {l : Launch} {e : Env} {s : State} {m : MethodId} {args : Array Value} {below : List Frame} {meth : Method} {c : Code} {G : x_G} {ad : Nat → Nat} {D : Nat → Option va_E} {M : Nat → Nat → Int32} {V : Nat → Int64} (C0 : x_B p s m meth c args cX4_nextIn 6 (some .int) RX4 wsX4_nextIn) (hK : x_K G s) {mn : Nat} {r p0 s0 : Int32} (hmn : M 6 0 = nI mn) (hm : mn ≤ 514) (hr9 : r = y_ni M p0 s0 mn) (hS : x_H G ad (y_con G ad D M V) s.heap []) : ∀ (d : Nat) (k : Nat) (a : Int32), mn - k < d → k ≤ mn → a = y_ni M p0 s0 k → ∀ (ls : Array Slot), lv_has ls 6 [(0, .ref (ad 200)), (1, .int p0), (2, .int s0), (3, .int a), (4, .int (nI k))] → W p l e ({ frames := 0, cells := 0, slots := 0, locals := 0 } : Room) s m args below meth c s.heap [] 0 0 (MQ below (x_Qr (some (.int r))) args s 0 0 (fun _ => False)) (F0 m 5 ls []) := by
  obtain ⟨hx, hb, hr, hml, hown, hts, hlk⟩ := id C0
  intro d
  induction d with
  | zero =>
    intro k a hd hk hF ls hl
    exact absurd hd (by omega)
  | succ d ih =>
    intro k a hd hk hF ls hl
    refine lv_iload hx hb dX4_nextIn_5 (lv_at hl 4 rfl) ?_
    refine lv_aload_n hx hb dX4_nextIn_7 rfl (lv_at hl 0 rfl) ?_
    refine y_geti (j := 6) C0 hK hS (by decide) kX4_nextIn_wX4 kX4_nextIn_f105 dX4_nextIn_8 ?_
    rw [hmn]
    refine lv_icmp_ge (tgt := 89) hx hb dX4_nextIn_11 (by decide) (fun c11 => ?_) (fun c11 => ?_)
    · have hk2 := nz_le c11 rfl rfl (by omega) (by omega)
      refine lv_iload_n hx hb dX4_nextIn_89 rfl (lv_at hl 3 rfl) ?_
      exact x_reti C0 (by rw [hr9, hF, show k = mn by omega]) dX4_nextIn_90
    · have hk2 := nz_nle c11 rfl rfl (by omega) (by omega)
      refine lv_aload_n hx hb dX4_nextIn_14 rfl (lv_at hl 0 rfl) ?_
      refine y_get (j := 7) C0 hK hS (by decide) (by decide) kX4_nextIn_wX4 kX4_nextIn_f28 dX4_nextIn_15 ?_
      refine lv_iload hx hb dX4_nextIn_18 (lv_at hl 4 rfl) ?_
      refine y_iald (j := 7) (i := k) (n := 515) C0 hK hS (by decide) (by decide) (by decide) (by omega) rfl dX4_nextIn_20 ?_
      refine lv_sipush (v := 256) hx hb dX4_nextIn_21 (by decide) ?_
      refine lv_idiv hx hb dX4_nextIn_24 (by decide) ?_
      refine lv_iload_n hx hb dX4_nextIn_25 rfl (lv_at hl 1 rfl) ?_
      refine lv_icmp_ne (tgt := 48) hx hb dX4_nextIn_26 (by decide) (fun c26 => ?_) (fun c26 => ?_)
      · refine lv_iconst (v := 0) hx hb dX4_nextIn_48 (by decide) ?_
        refine lv_istore (lv' := [(5, .int 0), (0, .ref (ad 200)), (1, .int p0), (2, .int s0), (3, .int a), (4, .int (nI k))]) hx hb dX4_nextIn_49 hl (by decide) rfl (fun ls hl => ?_)
        refine lv_iload hx hb dX4_nextIn_51 (lv_at hl 0 rfl) ?_
        refine lv_if_eq (tgt := 81) hx hb dX4_nextIn_53 (by decide) (fun c53 => ?_) (fun c53 => absurd (by decide) c53)
        refine lv_iload_n hx hb dX4_nextIn_81 rfl (lv_at hl 4 rfl) ?_
        refine lv_istore_n (lv' := [(3, .int a), (5, .int 0), (0, .ref (ad 200)), (1, .int p0), (2, .int s0), (4, .int (nI k))]) hx hb dX4_nextIn_82 rfl hl (by decide) rfl (fun ls hl => ?_)
        refine lv_iinc (v := nI (k + 1)) (lv' := [(4, .int (nI (k + 1))), (3, .int a), (5, .int 0), (0, .ref (ad 200)), (1, .int p0), (2, .int s0)]) hx hb dX4_nextIn_83 hl (k := 5) rfl (nI_1 k) (by decide) rfl (fun ls hl => ?_)
        refine lv_goto (tgt := 5) hx hb dX4_nextIn_86 (by decide) ?_
        exact ih (k + 1) _ (by omega) (by omega) (by simp only [y_ni]; rw [if_neg (fun q => c26 q.1.1), ← hF]) ls (lv_sub hl [3, 4, 5, 1, 0] rfl)
      · refine lv_aload_n hx hb dX4_nextIn_29 rfl (lv_at hl 0 rfl) ?_
        refine y_get (j := 7) C0 hK hS (by decide) (by decide) kX4_nextIn_wX4 kX4_nextIn_f28 dX4_nextIn_30 ?_
        refine lv_iload hx hb dX4_nextIn_33 (lv_at hl 4 rfl) ?_
        refine y_iald (j := 7) (i := k) (n := 515) C0 hK hS (by decide) (by decide) (by decide) (by omega) rfl dX4_nextIn_35 ?_
        refine lv_sipush (v := 256) hx hb dX4_nextIn_36 (by decide) ?_
        refine lv_irem hx hb dX4_nextIn_39 (by decide) ?_
        refine lv_iload_n hx hb dX4_nextIn_40 rfl (lv_at hl 2 rfl) ?_
        refine lv_icmp_le (tgt := 48) hx hb dX4_nextIn_41 (by decide) (fun c41 => ?_) (fun c41 => ?_)
        · refine lv_iconst (v := 0) hx hb dX4_nextIn_48 (by decide) ?_
          refine lv_istore (lv' := [(5, .int 0), (0, .ref (ad 200)), (1, .int p0), (2, .int s0), (3, .int a), (4, .int (nI k))]) hx hb dX4_nextIn_49 hl (by decide) rfl (fun ls hl => ?_)
          refine lv_iload hx hb dX4_nextIn_51 (lv_at hl 0 rfl) ?_
          refine lv_if_eq (tgt := 81) hx hb dX4_nextIn_53 (by decide) (fun c53 => ?_) (fun c53 => absurd (by decide) c53)
          refine lv_iload_n hx hb dX4_nextIn_81 rfl (lv_at hl 4 rfl) ?_
          refine lv_istore_n (lv' := [(3, .int a), (5, .int 0), (0, .ref (ad 200)), (1, .int p0), (2, .int s0), (4, .int (nI k))]) hx hb dX4_nextIn_82 rfl hl (by decide) rfl (fun ls hl => ?_)
          refine lv_iinc (v := nI (k + 1)) (lv' := [(4, .int (nI (k + 1))), (3, .int a), (5, .int 0), (0, .ref (ad 200)), (1, .int p0), (2, .int s0)]) hx hb dX4_nextIn_83 hl (k := 5) rfl (nI_1 k) (by decide) rfl (fun ls hl => ?_)
          refine lv_goto (tgt := 5) hx hb dX4_nextIn_86 (by decide) ?_
          exact ih (k + 1) _ (by omega) (by omega) (by simp only [y_ni]; rw [if_neg (fun q => absurd q.1.2 (Int32.not_lt.mpr c41)), ← hF]) ls (lv_sub hl [3, 4, 5, 1, 0] rfl)
        · refine lv_iconst (v := 1) hx hb dX4_nextIn_44 (by decide) ?_
          refine lv_goto (tgt := 49) hx hb dX4_nextIn_45 (by decide) ?_
          refine lv_istore (lv' := [(5, .int 1), (0, .ref (ad 200)), (1, .int p0), (2, .int s0), (3, .int a), (4, .int (nI k))]) hx hb dX4_nextIn_49 hl (by decide) rfl (fun ls hl => ?_)
          refine lv_iload hx hb dX4_nextIn_51 (lv_at hl 0 rfl) ?_
          refine lv_if_eq (tgt := 81) hx hb dX4_nextIn_53 (by decide) (fun c53 => absurd c53 (by decide)) (fun c53 => ?_)
          refine lv_iload_n hx hb dX4_nextIn_56 rfl (lv_at hl 4 rfl) ?_
          refine lv_if_lt (tgt := 71) hx hb dX4_nextIn_57 (by decide) (fun c57 => ?_) (fun c57 => ?_)
          · refine lv_aload_n hx hb dX4_nextIn_71 rfl (lv_at hl 1 rfl) ?_
            refine y_get (j := 7) C0 hK hS (by decide) (by decide) kX4_nextIn_wX4 kX4_nextIn_f28 dX4_nextIn_72 ?_
            refine lv_iload hx hb dX4_nextIn_75 (lv_at hl 5 rfl) ?_
            refine y_iald (j := 7) (i := k) (n := 515) C0 hK hS (by decide) (by decide) (by decide) (by omega) rfl dX4_nextIn_77 ?_
            refine lv_goto (tgt := 82) hx hb dX4_nextIn_78 (by decide) ?_
            refine lv_topi (fun x1 ex1 => ?_)
            refine lv_istore_n (lv' := [(3, .int x1), (5, .int 1), (0, .ref (ad 200)), (1, .int p0), (2, .int s0), (4, .int (nI k))]) hx hb dX4_nextIn_82 rfl hl (by decide) rfl (fun ls hl => ?_)
            refine lv_iinc (v := nI (k + 1)) (lv' := [(4, .int (nI (k + 1))), (3, .int x1), (5, .int 1), (0, .ref (ad 200)), (1, .int p0), (2, .int s0)]) hx hb dX4_nextIn_83 hl (k := 5) rfl (nI_1 k) (by decide) rfl (fun ls hl => ?_)
            refine lv_goto (tgt := 5) hx hb dX4_nextIn_86 (by decide) ?_
            exact ih (k + 1) _ (by omega) (by omega) (by rw [ex1]; simp only [y_ni]; rw [if_pos ⟨⟨c26, Int32.not_le.mp c41⟩, Or.inl (by rw [← hF]; exact c57)⟩]) ls (lv_sub hl [3, 4, 5, 1, 0] rfl)
          · refine lv_aload_n hx hb dX4_nextIn_60 rfl (lv_at hl 1 rfl) ?_
            refine y_get (j := 7) C0 hK hS (by decide) (by decide) kX4_nextIn_wX4 kX4_nextIn_f28 dX4_nextIn_61 ?_
            refine lv_iload hx hb dX4_nextIn_64 (lv_at hl 5 rfl) ?_
            refine y_iald (j := 7) (i := k) (n := 515) C0 hK hS (by decide) (by decide) (by decide) (by omega) rfl dX4_nextIn_66 ?_
            refine lv_iload_n hx hb dX4_nextIn_67 rfl (lv_at hl 4 rfl) ?_
            refine lv_icmp_ge (tgt := 81) hx hb dX4_nextIn_68 (by decide) (fun c68 => ?_) (fun c68 => ?_)
            · refine lv_iload_n hx hb dX4_nextIn_81 rfl (lv_at hl 4 rfl) ?_
              refine lv_istore_n (lv' := [(3, .int a), (5, .int 1), (0, .ref (ad 200)), (1, .int p0), (2, .int s0), (4, .int (nI k))]) hx hb dX4_nextIn_82 rfl hl (by decide) rfl (fun ls hl => ?_)
              refine lv_iinc (v := nI (k + 1)) (lv' := [(4, .int (nI (k + 1))), (3, .int a), (5, .int 1), (0, .ref (ad 200)), (1, .int p0), (2, .int s0)]) hx hb dX4_nextIn_83 hl (k := 5) rfl (nI_1 k) (by decide) rfl (fun ls hl => ?_)
              refine lv_goto (tgt := 5) hx hb dX4_nextIn_86 (by decide) ?_
              exact ih (k + 1) _ (by omega) (by omega) (by simp only [y_ni]; rw [if_neg (fun q => q.2.elim (fun z => c57 (by rw [hF]; exact z)) (fun z => absurd (by rw [← hF] at z; exact z) (Int32.not_lt.mpr c68))), ← hF]) ls (lv_sub hl [3, 4, 5, 1, 0] rfl)
            · refine lv_aload_n hx hb dX4_nextIn_71 rfl (lv_at hl 1 rfl) ?_
              refine y_get (j := 7) C0 hK hS (by decide) (by decide) kX4_nextIn_wX4 kX4_nextIn_f28 dX4_nextIn_72 ?_
              refine lv_iload hx hb dX4_nextIn_75 (lv_at hl 5 rfl) ?_
              refine y_iald (j := 7) (i := k) (n := 515) C0 hK hS (by decide) (by decide) (by decide) (by omega) rfl dX4_nextIn_77 ?_
              refine lv_goto (tgt := 82) hx hb dX4_nextIn_78 (by decide) ?_
              refine lv_topi (fun x2 ex2 => ?_)
              refine lv_istore_n (lv' := [(3, .int x2), (5, .int 1), (0, .ref (ad 200)), (1, .int p0), (2, .int s0), (4, .int (nI k))]) hx hb dX4_nextIn_82 rfl hl (by decide) rfl (fun ls hl => ?_)
              refine lv_iinc (v := nI (k + 1)) (lv' := [(4, .int (nI (k + 1))), (3, .int x2), (5, .int 1), (0, .ref (ad 200)), (1, .int p0), (2, .int s0)]) hx hb dX4_nextIn_83 hl (k := 5) rfl (nI_1 k) (by decide) rfl (fun ls hl => ?_)
              refine lv_goto (tgt := 5) hx hb dX4_nextIn_86 (by decide) ?_
              exact ih (k + 1) _ (by omega) (by omega) (by rw [ex2]; simp only [y_ni]; rw [if_pos ⟨⟨c26, Int32.not_le.mp c41⟩, Or.inr (by rw [← hF]; exact Int32.not_le.mp c68)⟩]) ls (lv_sub hl [3, 4, 5, 1, 0] rfl)
set_option maxHeartbeats 4000000 in
set_option maxRecDepth 100000 in
/-- nextIn -/
theorem c_X4_nextIn (l : Launch) (G : x_G) (ad : Nat → Nat) (D : Nat → Option va_E) (M : Nat → Nat → Int32) (V : Nat → Int64) (p0 s0 : Int32) (mn : Nat) (hmn : M 6 0 = nI mn) (hm : mn ≤ 514) : Met l yX4_nextIn wsX4_nextIn ({ frames := 0, cells := 0, slots := 0, locals := 0 } : Room) (x_Pc G ad (y_con G ad D M V) [.ref (ad 200), .int p0, .int s0]) (x_Qr (some (.int (y_ni M p0 s0 mn)))) 0 0 (fun _ => False) := by
  refine x_met (cc := cX4_nextIn) (maxL := 6) (ret := (some .int)) (by decide) rfl _ (Nat.le_of_ble_eq_true rfl) ?_
  intro p e s m args below meth c C0 hini hK hS ls hl
  have hl : lv_has ls 6 [(0, .ref (ad 200)), (1, .int p0), (2, .int s0)] := hl
  obtain ⟨hx, hb, hr, hml, hown, hts, hlk⟩ := id C0
  refine lv_iconst (v := (-1)) hx hb dX4_nextIn_0 (by decide) ?_
  refine lv_istore_n (lv' := [(3, .int (-1)), (0, .ref (ad 200)), (1, .int p0), (2, .int s0)]) hx hb dX4_nextIn_1 rfl hl (by decide) rfl (fun ls hl => ?_)
  refine lv_iconst (v := 0) hx hb dX4_nextIn_2 (by decide) ?_
  refine lv_istore (lv' := [(4, .int 0), (3, .int (-1)), (0, .ref (ad 200)), (1, .int p0), (2, .int s0)]) hx hb dX4_nextIn_3 hl (by decide) rfl (fun ls hl => ?_)
  exact l_X4_nextIn C0 hK hmn hm rfl hS (mn + 1) 0 _ (by omega) (by omega) rfl ls (lv_sub hl [2, 3, 4, 1, 0] rfl)
theorem kX4_lowestSlot_wX4 : ∀ w ∈ u_ws RX4 TX4 22, w ∈ wsX4_lowestSlot := by decide +kernel
theorem kX4_lowestSlot_f22 : Cond.fieldLink RX4 22 "VersionDeskModel" "slots" "[I" ∈ wsX4_lowestSlot := by decide +kernel
set_option maxHeartbeats 4000000 in
set_option maxRecDepth 100000 in
theorem l_X4_lowestSlot {p : Program} {l : Launch} {e : Env} {s : State} {m : MethodId} {args : Array Value} {below : List Frame} {meth : Method} {c : Code} {G : x_G} {ad : Nat → Nat} {D : Nat → Option va_E} {M : Nat → Nat → Int32} {V : Nat → Int64} (C0 : x_B p s m meth c args cX4_lowestSlot 3 (some .int) RX4 wsX4_lowestSlot) (hK : x_K G s) {mn p0 n r : Nat} (hmn : M 6 0 = nI mn) (hm : mn ≤ 514) (hp : p0 < 60) (hn : n ≤ 200) (hsl : M 4 p0 = nI n) (hS : x_H G ad (y_con G ad D M V) s.heap []) : ∀ (d : Nat) (j : Nat), n - j < d → j ≤ n → r = y_ls M mn p0 (n - j) j → ∀ (ls : Array Slot), lv_has ls 3 [(0, .ref (ad 200)), (1, .int (nI p0)), (2, .int (nI j))] → W p l e ({ frames := 1, cells := 0, slots := 0, locals := 23 } : Room) s m args below meth c s.heap [] 0 0 (MQ below (x_Qr (some (.int (nI r)))) args s 0 0 (fun _ => False)) (F0 m 2 ls []) := by
  obtain ⟨hx, hb, hr, hml, hown, hts, hlk⟩ := id C0
  intro d
  induction d with
  | zero =>
    intro j hd hj hF ls hl
    exact absurd hd (by omega)
  | succ d ih =>
    intro j hd hj hF ls hl
    refine lv_iload_n hx hb dX4_lowestSlot_2 rfl (lv_at hl 2 rfl) ?_
    refine lv_aload_n hx hb dX4_lowestSlot_3 rfl (lv_at hl 0 rfl) ?_
    refine y_get (j := 4) C0 hK hS (by decide) (by decide) kX4_lowestSlot_wX4 kX4_lowestSlot_f22 dX4_lowestSlot_4 ?_
    refine lv_iload_n hx hb dX4_lowestSlot_7 rfl (lv_at hl 1 rfl) ?_
    refine y_iald (j := 4) (i := p0) (n := 60) C0 hK hS (by decide) (by decide) (by decide) (by omega) rfl dX4_lowestSlot_8 ?_
    refine lv_icmp_ge (tgt := 34) hx hb dX4_lowestSlot_9 (by decide) (fun c9 => ?_) (fun c9 => ?_)
    · have hj2 := nz_le c9 hsl rfl (by omega) (by omega)
      refine lv_aload_n hx hb dX4_lowestSlot_34 rfl (lv_at hl 0 rfl) ?_
      refine y_get (j := 4) C0 hK hS (by decide) (by decide) kX4_lowestSlot_wX4 kX4_lowestSlot_f22 dX4_lowestSlot_35 ?_
      refine lv_iload_n hx hb dX4_lowestSlot_38 rfl (lv_at hl 1 rfl) ?_
      refine y_iald (j := 4) (i := p0) (n := 60) C0 hK hS (by decide) (by decide) (by decide) (by omega) rfl dX4_lowestSlot_39 ?_
      exact x_reti C0 (by rw [hsl, hF, show n - j = 0 by omega, show j = n by omega]; rfl) dX4_lowestSlot_40
    · have hj2 := nz_nle c9 hsl rfl (by omega) (by omega)
      refine lv_aload_n hx hb dX4_lowestSlot_12 rfl (lv_at hl 0 rfl) ?_
      refine lv_sipush (v := 256) hx hb dX4_lowestSlot_13 (by decide) ?_
      refine lv_iload_n hx hb dX4_lowestSlot_16 rfl (lv_at hl 1 rfl) ?_
      refine lv_imul hx hb dX4_lowestSlot_17 ?_
      refine lv_iload_n hx hb dX4_lowestSlot_18 rfl (lv_at hl 2 rfl) ?_
      refine lv_iadd hx hb dX4_lowestSlot_19 ?_
      rw [show (256 : Int32) * nI p0 + nI j = nI (256 * p0 + j) from (by rw [show (256 : Int32) * nI p0 = nI (256 * p0) from pk_mul 256 p0]; exact nI_add _ _)]
      refine x_callr (x_rV C0 hl.1 hK hS (c_X4_find l G ad D M V (nI (256 * p0 + j)) mn hmn hm) (show y_con G ad D M V 200 = some (x_mo ad M) from rfl) rfl gX4_lowestSlot_X4_find 1 rfl rfl rfl (by decide +kernel) ⟨Nat.le_of_ble_eq_true rfl, Nat.le_of_ble_eq_true rfl⟩ rfl rfl (Nat.le_of_ble_eq_true rfl) dX4_lowestSlot_20 ⟨Nat.le_of_ble_eq_true rfl, Nat.le_of_ble_eq_true rfl⟩) ?_
      show W _ _ _ _ _ _ _ _ _ _ _ _ _ _ _ (F0 m 23 ls [.int (y_fd M (nI (256 * p0 + j)) mn)])
      refine lv_if_ge (tgt := 28) hx hb dX4_lowestSlot_23 (by decide) (fun c23 => ?_) (fun c23 => ?_)
      · refine lv_iinc (v := nI (j + 1)) (lv' := [(2, .int (nI (j + 1))), (0, .ref (ad 200)), (1, .int (nI p0))]) hx hb dX4_lowestSlot_28 hl (k := 2) rfl (nI_1 j) (by decide) rfl (fun ls hl => ?_)
        refine lv_goto (tgt := 2) hx hb dX4_lowestSlot_31 (by decide) ?_
        exact ih (j + 1) (by omega) (by omega) (by rw [hF, show n - j = (n - (j + 1)) + 1 by omega]; simp only [y_ls]; rw [if_neg (Int32.not_lt.mpr c23)]) ls (lv_sub hl [1, 2, 0] rfl)
      · refine lv_iload_n hx hb dX4_lowestSlot_26 rfl (lv_at hl 2 rfl) ?_
        exact x_reti C0 (by rw [hF, show n - j = (n - (j + 1)) + 1 by omega]; simp only [y_ls]; rw [if_pos (Int32.not_le.mp c23)]) dX4_lowestSlot_27
set_option maxHeartbeats 4000000 in
set_option maxRecDepth 100000 in
/-- lowestSlot -/
theorem c_X4_lowestSlot (l : Launch) (G : x_G) (ad : Nat → Nat) (D : Nat → Option va_E) (M : Nat → Nat → Int32) (V : Nat → Int64) (p0 : Nat) (hp : p0 < 60) (n : Nat) (hn : n ≤ 200) (hsl : M 4 p0 = nI n) (mn : Nat) (hmn : M 6 0 = nI mn) (hm : mn ≤ 514) : Met l yX4_lowestSlot wsX4_lowestSlot ({ frames := 1, cells := 0, slots := 0, locals := 23 } : Room) (x_Pc G ad (y_con G ad D M V) [.ref (ad 200), .int (nI p0)]) (x_Qr (some (.int (nI (y_ls M mn p0 n 0))))) 0 0 (fun _ => False) := by
  refine x_met (cc := cX4_lowestSlot) (maxL := 3) (ret := (some .int)) (by decide) rfl _ (Nat.le_of_ble_eq_true rfl) ?_
  intro p e s m args below meth c C0 hini hK hS ls hl
  have hl : lv_has ls 3 [(0, .ref (ad 200)), (1, .int (nI p0))] := hl
  obtain ⟨hx, hb, hr, hml, hown, hts, hlk⟩ := id C0
  refine lv_iconst (v := 0) hx hb dX4_lowestSlot_0 (by decide) ?_
  refine lv_istore_n (lv' := [(2, .int 0), (0, .ref (ad 200)), (1, .int (nI p0))]) hx hb dX4_lowestSlot_1 rfl hl (by decide) rfl (fun ls hl => ?_)
  exact l_X4_lowestSlot C0 hK hmn hm hp hn hsl hS (n + 1) 0 (by omega) (by omega) rfl ls (lv_sub hl [1, 2, 0] rfl)
def y_ro (M : Nat → Nat → Int32) (mn p n : Nat) (z : Int32) : Int32 := if nI (y_ls M mn p n 0) < M 4 p then (if z ≤ y_fr M p mn then nI (y_ls M mn p n 0) else -1) else if nI (y_ls M mn p n 0) < 120 ∧ z + 4 ≤ y_fr M p mn then nI (y_ls M mn p n 0) else -1
theorem kX4_roomIn_wX4 : ∀ w ∈ u_ws RX4 TX4 22, w ∈ wsX4_roomIn := by decide +kernel
theorem kX4_roomIn_f22 : Cond.fieldLink RX4 22 "VersionDeskModel" "slots" "[I" ∈ wsX4_roomIn := by decide +kernel
set_option maxHeartbeats 4000000 in
set_option maxRecDepth 100000 in
/-- roomIn -/
theorem c_X4_roomIn (l : Launch) (G : x_G) (ad : Nat → Nat) (D : Nat → Option va_E) (M : Nat → Nat → Int32) (V : Nat → Int64) (p0 : Nat) (z : Int32) (hp : p0 < 60) (n : Nat) (hn : n ≤ 200) (hsl : M 4 p0 = nI n) (mn : Nat) (hmn : M 6 0 = nI mn) (hm : mn ≤ 514) : Met l yX4_roomIn wsX4_roomIn ({ frames := 2, cells := 0, slots := 0, locals := 45 } : Room) (x_Pc G ad (y_con G ad D M V) [.ref (ad 200), .int (nI p0), .int z]) (x_Qr (some (.int (y_ro M mn p0 n z)))) 0 0 (fun _ => False) := by
  refine x_met (cc := cX4_roomIn) (maxL := 5) (ret := (some .int)) (by decide) rfl _ (Nat.le_of_ble_eq_true rfl) ?_
  intro p e s m args below meth c C0 hini hK hS ls hl
  have hl : lv_has ls 5 [(0, .ref (ad 200)), (1, .int (nI p0)), (2, .int z)] := hl
  obtain ⟨hx, hb, hr, hml, hown, hts, hlk⟩ := id C0
  refine lv_aload_n hx hb dX4_roomIn_0 rfl (lv_at hl 0 rfl) ?_
  refine lv_iload_n hx hb dX4_roomIn_1 rfl (lv_at hl 1 rfl) ?_
  refine x_callr (x_rV C0 hl.1 hK hS (c_X4_lowestSlot l G ad D M V p0 hp n hn hsl mn hmn hm) (show y_con G ad D M V 200 = some (x_mo ad M) from rfl) rfl gX4_roomIn_X4_lowestSlot 1 rfl rfl rfl (by decide +kernel) ⟨Nat.le_of_ble_eq_true rfl, Nat.le_of_ble_eq_true rfl⟩ rfl rfl (Nat.le_of_ble_eq_true rfl) dX4_roomIn_2 ⟨Nat.le_of_ble_eq_true rfl, Nat.le_of_ble_eq_true rfl⟩) ?_
  show W _ _ _ _ _ _ _ _ _ _ _ _ _ _ _ (F0 m 5 ls [.int (nI (y_ls M mn p0 n 0))])
  refine lv_istore_n (lv' := [(3, .int (nI (y_ls M mn p0 n 0))), (0, .ref (ad 200)), (1, .int (nI p0)), (2, .int z)]) hx hb dX4_roomIn_5 rfl hl (by decide) rfl (fun ls hl => ?_)
  refine lv_iload_n hx hb dX4_roomIn_6 rfl (lv_at hl 0 rfl) ?_
  refine lv_aload_n hx hb dX4_roomIn_7 rfl (lv_at hl 1 rfl) ?_
  refine y_get (j := 4) C0 hK hS (by decide) (by decide) kX4_roomIn_wX4 kX4_roomIn_f22 dX4_roomIn_8 ?_
  refine lv_iload_n hx hb dX4_roomIn_11 rfl (lv_at hl 2 rfl) ?_
  refine y_iald (j := 4) (i := p0) (n := 60) C0 hK hS (by decide) (by decide) (by decide) (by omega) rfl dX4_roomIn_12 ?_
  refine lv_icmp_ge (tgt := 33) hx hb dX4_roomIn_13 (by decide) (fun c13 => ?_) (fun c13 => ?_)
  · refine lv_iload_n hx hb dX4_roomIn_33 rfl (lv_at hl 0 rfl) ?_
    refine lv_bipush (v := 120) hx hb dX4_roomIn_34 (by decide) ?_
    refine lv_icmp_ge (tgt := 54) hx hb dX4_roomIn_36 (by decide) (fun c36 => ?_) (fun c36 => ?_)
    · refine lv_iconst (v := 0) hx hb dX4_roomIn_54 (by decide) ?_
      refine lv_istore (lv' := [(4, .int 0), (3, .int (nI (y_ls M mn p0 n 0))), (0, .ref (ad 200)), (1, .int (nI p0)), (2, .int z)]) hx hb dX4_roomIn_55 hl (by decide) rfl (fun ls hl => ?_)
      refine lv_iload hx hb dX4_roomIn_57 (lv_at hl 0 rfl) ?_
      refine lv_if_eq (tgt := 66) hx hb dX4_roomIn_59 (by decide) (fun c59 => ?_) (fun c59 => absurd (by decide) c59)
      refine lv_iconst (v := (-1)) hx hb dX4_roomIn_66 (by decide) ?_
      exact x_reti C0 (by unfold y_ro; rw [if_neg (Int32.not_lt.mpr c13), if_neg (fun q => absurd q.1 (Int32.not_lt.mpr c36))]) dX4_roomIn_67
    · refine lv_iload_n hx hb dX4_roomIn_39 rfl (lv_at hl 3 rfl) ?_
      refine lv_iconst (v := 4) hx hb dX4_roomIn_40 (by decide) ?_
      refine lv_iadd hx hb dX4_roomIn_41 ?_
      refine lv_aload_n hx hb dX4_roomIn_42 rfl (lv_at hl 1 rfl) ?_
      refine lv_iload_n hx hb dX4_roomIn_43 rfl (lv_at hl 2 rfl) ?_
      refine x_callr (x_rV C0 hl.1 hK hS (c_X4_freeIn l G ad D M V p0 hp mn hmn hm) (show y_con G ad D M V 200 = some (x_mo ad M) from rfl) rfl gX4_roomIn_X4_freeIn 1 rfl rfl rfl (by decide +kernel) ⟨Nat.le_of_ble_eq_true rfl, Nat.le_of_ble_eq_true rfl⟩ rfl rfl (Nat.le_of_ble_eq_true rfl) dX4_roomIn_44 ⟨Nat.le_of_ble_eq_true rfl, Nat.le_of_ble_eq_true rfl⟩) ?_
      show W _ _ _ _ _ _ _ _ _ _ _ _ _ _ _ (F0 m 47 ls [.int (y_fr M p0 mn), .int (z + 4)])
      refine lv_icmp_gt (tgt := 54) hx hb dX4_roomIn_47 (by decide) (fun c47 => ?_) (fun c47 => ?_)
      · refine lv_iconst (v := 0) hx hb dX4_roomIn_54 (by decide) ?_
        refine lv_istore (lv' := [(4, .int 0), (3, .int (nI (y_ls M mn p0 n 0))), (0, .ref (ad 200)), (1, .int (nI p0)), (2, .int z)]) hx hb dX4_roomIn_55 hl (by decide) rfl (fun ls hl => ?_)
        refine lv_iload hx hb dX4_roomIn_57 (lv_at hl 0 rfl) ?_
        refine lv_if_eq (tgt := 66) hx hb dX4_roomIn_59 (by decide) (fun c59 => ?_) (fun c59 => absurd (by decide) c59)
        refine lv_iconst (v := (-1)) hx hb dX4_roomIn_66 (by decide) ?_
        exact x_reti C0 (by unfold y_ro; rw [if_neg (Int32.not_lt.mpr c13), if_neg (fun q => absurd q.2 (Int32.not_le.mpr c47))]) dX4_roomIn_67
      · refine lv_iconst (v := 1) hx hb dX4_roomIn_50 (by decide) ?_
        refine lv_goto (tgt := 55) hx hb dX4_roomIn_51 (by decide) ?_
        refine lv_istore (lv' := [(4, .int 1), (3, .int (nI (y_ls M mn p0 n 0))), (0, .ref (ad 200)), (1, .int (nI p0)), (2, .int z)]) hx hb dX4_roomIn_55 hl (by decide) rfl (fun ls hl => ?_)
        refine lv_iload hx hb dX4_roomIn_57 (lv_at hl 0 rfl) ?_
        refine lv_if_eq (tgt := 66) hx hb dX4_roomIn_59 (by decide) (fun c59 => absurd c59 (by decide)) (fun c59 => ?_)
        refine lv_iload_n hx hb dX4_roomIn_62 rfl (lv_at hl 1 rfl) ?_
        refine lv_goto (tgt := 67) hx hb dX4_roomIn_63 (by decide) ?_
        exact x_reti C0 (by unfold y_ro; rw [if_neg (Int32.not_lt.mpr c13), if_pos ⟨Int32.not_le.mp c36, Int32.not_lt.mp c47⟩]) dX4_roomIn_67
  · refine lv_iload_n hx hb dX4_roomIn_16 rfl (lv_at hl 3 rfl) ?_
    refine lv_aload_n hx hb dX4_roomIn_17 rfl (lv_at hl 1 rfl) ?_
    refine lv_iload_n hx hb dX4_roomIn_18 rfl (lv_at hl 2 rfl) ?_
    refine x_callr (x_rV C0 hl.1 hK hS (c_X4_freeIn l G ad D M V p0 hp mn hmn hm) (show y_con G ad D M V 200 = some (x_mo ad M) from rfl) rfl gX4_roomIn_X4_freeIn 1 rfl rfl rfl (by decide +kernel) ⟨Nat.le_of_ble_eq_true rfl, Nat.le_of_ble_eq_true rfl⟩ rfl rfl (Nat.le_of_ble_eq_true rfl) dX4_roomIn_19 ⟨Nat.le_of_ble_eq_true rfl, Nat.le_of_ble_eq_true rfl⟩) ?_
    show W _ _ _ _ _ _ _ _ _ _ _ _ _ _ _ (F0 m 22 ls [.int (y_fr M p0 mn), .int z])
    refine lv_icmp_gt (tgt := 29) hx hb dX4_roomIn_22 (by decide) (fun c22 => ?_) (fun c22 => ?_)
    · refine lv_iconst (v := 0) hx hb dX4_roomIn_29 (by decide) ?_
      refine lv_goto (tgt := 55) hx hb dX4_roomIn_30 (by decide) ?_
      refine lv_istore (lv' := [(4, .int 0), (3, .int (nI (y_ls M mn p0 n 0))), (0, .ref (ad 200)), (1, .int (nI p0)), (2, .int z)]) hx hb dX4_roomIn_55 hl (by decide) rfl (fun ls hl => ?_)
      refine lv_iload hx hb dX4_roomIn_57 (lv_at hl 0 rfl) ?_
      refine lv_if_eq (tgt := 66) hx hb dX4_roomIn_59 (by decide) (fun c59 => ?_) (fun c59 => absurd (by decide) c59)
      refine lv_iconst (v := (-1)) hx hb dX4_roomIn_66 (by decide) ?_
      exact x_reti C0 (by unfold y_ro; rw [if_pos (Int32.not_le.mp c13), if_neg (Int32.not_le.mpr c22)]) dX4_roomIn_67
    · refine lv_iconst (v := 1) hx hb dX4_roomIn_25 (by decide) ?_
      refine lv_goto (tgt := 55) hx hb dX4_roomIn_26 (by decide) ?_
      refine lv_istore (lv' := [(4, .int 1), (3, .int (nI (y_ls M mn p0 n 0))), (0, .ref (ad 200)), (1, .int (nI p0)), (2, .int z)]) hx hb dX4_roomIn_55 hl (by decide) rfl (fun ls hl => ?_)
      refine lv_iload hx hb dX4_roomIn_57 (lv_at hl 0 rfl) ?_
      refine lv_if_eq (tgt := 66) hx hb dX4_roomIn_59 (by decide) (fun c59 => absurd c59 (by decide)) (fun c59 => ?_)
      refine lv_iload_n hx hb dX4_roomIn_62 rfl (lv_at hl 1 rfl) ?_
      refine lv_goto (tgt := 67) hx hb dX4_roomIn_63 (by decide) ?_
      exact x_reti C0 (by unfold y_ro; rw [if_pos (Int32.not_le.mp c13), if_pos (Int32.not_lt.mp c22)]) dX4_roomIn_67
