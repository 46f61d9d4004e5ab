-- ===== the reference's cells beside any others =====
def y_con (G : x_G) (ad : Nat → Nat) (D : Nat → Option va_E) (M : Nat → Nat → Int32) (V : Nat → Int64) : Nat → Option va_E := fun k => if 200 ≤ k then x_mcon G ad M V k else D k
theorem x_mlen_lt (j : Nat) : x_mlen j < 2 ^ 31 := by
  unfold x_mlen
  by_cases h1 : j = 0 ∨ j = 2 ∨ j = 16
  · rw [if_pos h1]; decide
  · rw [if_neg h1]
    by_cases h2 : j = 1
    · rw [if_pos h2]; decide
    · rw [if_neg h2]
      by_cases h3 : j = 3 ∨ j = 4 ∨ j = 5
      · rw [if_pos h3]; decide
      · rw [if_neg h3]; decide
section YR
variable {p : Program} {l : Launch} {e : Env} {Rm : Room} {s : State} {m : MethodId} {args : Array Value} {below : List Frame} {meth : Method} {c : Code} {H : Heap} {locs : List Loc} {cells slots : Nat} {Q : State → Prop}
variable {cc : ByteArray} {pc nL : Nat} {ret0 : Option FieldType} {own : String} {Ts : List Cond} {ls : Array Slot} {rest : List Value} {G : x_G} {ad : Nat → Nat}
variable {D : Nat → Option va_E} {M : Nat → Nat → Int32} {V : Nat → Int64}
theorem y_con_k {k : Nat} (h : 200 ≤ k) : y_con G ad D M V k = x_mcon G ad M V k := if_pos h
theorem y_con_up {k : Nat} {E : va_E} {M1 : Nat → Nat → Int32} {V1 : Nat → Int64} (hk : 200 ≤ k) (h : x_up (x_mcon G ad M V) k E = x_mcon G ad M1 V1) : x_up (y_con G ad D M V) k E = y_con G ad D M1 V1 := by
  funext q
  have hq := congrFun h q
  by_cases h1 : q = k
  · subst h1
    rw [x_up_s] at hq ⊢
    rw [y_con_k hk]
    exact hq
  · rw [x_up_n h1] at hq ⊢
    unfold y_con
    rw [hq]
/-- a field that holds an array -/
theorem y_get (C0 : x_B p s m meth c args cc nL ret0 own Ts) (hK : x_K G s) (hS : x_H G ad (y_con G ad D M V) H locs) {j index : Nat} (hj : j < 22) (hn : j ≠ 6 ∧ j ≠ 17) (hin : ∀ w ∈ u_ws RX4 TX4 22, w ∈ Ts) (hlink : Cond.fieldLink own index (TX4 j).1 (TX4 j).2.1 (TX4 j).2.2.1 ∈ Ts) (hdg : decode cc pc = .ok (.getfield index, 3))
    (kk : W p l e Rm s m args below meth c H locs cells slots Q (F0 m (pc + 3) ls (.ref (ad (201 + j)) :: rest))) : W p l e Rm s m args below meth c H locs cells slots Q (F0 m pc ls (.ref (ad 200) :: rest)) := by
  refine x_get (k := 200) (ci := 4) (j := j) C0 hK hS rfl rfl hin hj hlink ?_ hdg kk
  rcases (show j = 0 ∨ j = 1 ∨ j = 2 ∨ j = 3 ∨ j = 4 ∨ j = 5 ∨ j = 7 ∨ j = 8 ∨ j = 9 ∨ j = 10 ∨ j = 11 ∨ j = 12 ∨ j = 13 ∨ j = 14 ∨ j = 15 ∨ j = 16 ∨ j = 18 ∨ j = 19 ∨ j = 20 ∨ j = 21 by omega) with rfl | rfl | rfl | rfl | rfl | rfl | rfl | rfl | rfl | rfl | rfl | rfl | rfl | rfl | rfl | rfl | rfl | rfl | rfl | rfl <;> rfl
/-- many, steps -/
theorem y_geti (C0 : x_B p s m meth c args cc nL ret0 own Ts) (hK : x_K G s) (hS : x_H G ad (y_con G ad D M V) H locs) {j index : Nat} (hn : j = 6 ∨ j = 17) (hin : ∀ w ∈ u_ws RX4 TX4 22, w ∈ Ts) (hlink : Cond.fieldLink own index (TX4 j).1 (TX4 j).2.1 (TX4 j).2.2.1 ∈ Ts) (hdg : decode cc pc = .ok (.getfield index, 3))
    (kk : W p l e Rm s m args below meth c H locs cells slots Q (F0 m (pc + 3) ls (.int (M j 0) :: rest))) : W p l e Rm s m args below meth c H locs cells slots Q (F0 m pc ls (.ref (ad 200) :: rest)) := by
  refine x_get (k := 200) (ci := 4) (j := j) C0 hK hS rfl rfl hin (by omega) hlink ?_ hdg kk
  rcases hn with rfl | rfl <;> rfl
theorem y_puti (C0 : x_B p s m meth c args cc nL ret0 own Ts) (hK : x_K G s) (hS : x_H G ad (y_con G ad D M V) H locs) {j index : Nat} {v : Int32} (hn : j = 6 ∨ j = 17) (hin : ∀ w ∈ u_ws RX4 TX4 22, w ∈ Ts) (hlink : Cond.fieldLink own index (TX4 j).1 (TX4 j).2.1 (TX4 j).2.2.1 ∈ Ts) (hdg : decode cc pc = .ok (.putfield index, 3))
    (kk : ∀ (H1 : Heap) (locs1 : List Loc), x_H G ad (y_con G ad D (va_up M j (upd (M j) 0 v)) V) H1 locs1 → W p l e Rm s m args below meth c H1 locs1 cells slots Q (F0 m (pc + 3) ls rest)) : W p l e Rm s m args below meth c H locs cells slots Q (F0 m pc ls (.int v :: .ref (ad 200) :: rest)) := by
  have key : ∀ fs1, x_mo ad (va_up M j (upd (M j) 0 v)) = .inr (4, fs1) → ∀ H1 locs1, x_H G ad (x_up (y_con G ad D M V) 200 (.inr (4, fs1))) H1 locs1 → W p l e Rm s m args below meth c H1 locs1 cells slots Q (F0 m (pc + 3) ls rest) := by
    intro fs1 hf H1 locs1 h
    rw [← hf, y_con_up (by omega) (x_mcon_oset hn)] at h
    exact kk H1 locs1 h
  rcases hn with rfl | rfl
  all_goals exact x_put (k := 200) (ci := 4) (ty := .int) C0 hK hS tyX4 tyX4_ok nmX4 rfl rfl hin (by omega) hlink rfl (by decide +kernel) rfl rfl (Nat.le_of_ble_eq_true rfl) hdg (key _ rfl)
theorem y_iald (C0 : x_B p s m meth c args cc nL ret0 own Ts) (hK : x_K G s) (hS : x_H G ad (y_con G ad D M V) H locs) {j i n : Nat} {ix : Int32} (hj : j < 22) (hn : j ≠ 6 ∧ j ≠ 15 ∧ j ≠ 17 ∧ j ≠ 18) (hl : x_mlen j = n) (hi : i < n) (hix : ix = nI i) (hdg : decode cc pc = .ok (.iaload, 1))
    (kk : W p l e Rm s m args below meth c H locs cells slots Q (F0 m (pc + 1) ls (.int (M j i) :: rest))) : W p l e Rm s m args below meth c H locs cells slots Q (F0 m pc ls (.int ix :: .ref (ad (201 + j)) :: rest)) := by
  subst hix; subst hl
  have h31 : x_mlen j < 2 ^ 31 := x_mlen_lt j
  exact x_iald C0 hK hS ((y_con_k (by omega)).trans (x_mcon_a hj hn)) (vp_in_nI hi h31) (by rw [nI_clamp (by omega)]) hdg kk
theorem y_iast (C0 : x_B p s m meth c args cc nL ret0 own Ts) (hK : x_K G s) (hS : x_H G ad (y_con G ad D M V) H locs) {j i n : Nat} {ix v : Int32} (hj : j < 22) (hn : j ≠ 6 ∧ j ≠ 15 ∧ j ≠ 17 ∧ j ≠ 18) (hl : x_mlen j = n) (hi : i < n) (hix : ix = nI i) (hdg : decode cc pc = .ok (.iastore, 1))
    (kk : ∀ (H1 : Heap) (locs1 : List Loc), x_H G ad (y_con G ad D (va_up M j (upd (M j) i v)) V) H1 locs1 → W p l e Rm s m args below meth c H1 locs1 cells slots Q (F0 m (pc + 1) ls rest)) : W p l e Rm s m args below meth c H locs cells slots Q (F0 m pc ls (.int v :: .int ix :: .ref (ad (201 + j)) :: rest)) := by
  subst hix; subst hl
  have h31 : x_mlen j < 2 ^ 31 := x_mlen_lt j
  refine x_iast C0 hK hS ((y_con_k (by omega)).trans (x_mcon_a hj hn)) (vp_in_nI hi h31) hdg (fun H1 locs1 h => kk H1 locs1 ?_)
  rw [nI_clamp (by omega), y_con_up (by omega) (x_mcon_aset hj hn)] at h
  exact h
theorem y_sald (C0 : x_B p s m meth c args cc nL ret0 own Ts) (hK : x_K G s) (hS : x_H G ad (y_con G ad D M V) H locs) {i : Nat} {ix : Int32} (hi : i < 4120) (hix : ix = nI i) (hdg : decode cc pc = .ok (.saload, 1))
    (kk : W p l e Rm s m args below meth c H locs cells slots Q (F0 m (pc + 1) ls (.int (M 15 i) :: rest))) : W p l e Rm s m args below meth c H locs cells slots Q (F0 m pc ls (.int ix :: .ref (ad 216) :: rest)) := by
  subst hix
  exact x_sald (k := 216) C0 hK hS rfl (vp_in_nI hi (by omega)) (by rw [nI_clamp (by omega)]) hdg kk
theorem y_sast (C0 : x_B p s m meth c args cc nL ret0 own Ts) (hK : x_K G s) (hS : x_H G ad (y_con G ad D M V) H locs) {i : Nat} {ix v : Int32} (hi : i < 4120) (hix : ix = nI i) (hdg : decode cc pc = .ok (.sastore, 1))
    (kk : ∀ (H1 : Heap) (locs1 : List Loc), x_H G ad (y_con G ad D (va_up M 15 (upd (M 15) i (vp_nar .short v))) V) H1 locs1 → W p l e Rm s m args below meth c H1 locs1 cells slots Q (F0 m (pc + 1) ls rest)) : W p l e Rm s m args below meth c H locs cells slots Q (F0 m pc ls (.int v :: .int ix :: .ref (ad 216) :: rest)) := by
  subst hix
  refine x_sast (k := 216) C0 hK hS rfl (vp_in_nI hi (by omega)) hdg (fun H1 locs1 h => kk H1 locs1 ?_)
  rw [nI_clamp (by omega), y_con_up (by omega) x_mcon_sset] at h
  exact h
theorem y_lald (C0 : x_B p s m meth c args cc nL ret0 own Ts) (hK : x_K G s) (hS : x_H G ad (y_con G ad D M V) H locs) {i : Nat} {ix : Int32} (hi : i < 515) (hix : ix = nI i) (hdg : decode cc pc = .ok (.laload, 1))
    (kk : W p l e Rm s m args below meth c H locs cells slots Q (F0 m (pc + 1) ls (.long (V i) :: rest))) : W p l e Rm s m args below meth c H locs cells slots Q (F0 m pc ls (.int ix :: .ref (ad 219) :: rest)) := by
  subst hix
  exact x_lald (k := 219) C0 hK hS rfl (vp_in_nI hi (by omega)) (by rw [nI_clamp (by omega)]) hdg kk
theorem y_last (C0 : x_B p s m meth c args cc nL ret0 own Ts) (hK : x_K G s) (hS : x_H G ad (y_con G ad D M V) H locs) {i : Nat} {ix : Int32} {v : Int64} (hi : i < 515) (hix : ix = nI i) (hdg : decode cc pc = .ok (.lastore, 1))
    (kk : ∀ (H1 : Heap) (locs1 : List Loc), x_H G ad (y_con G ad D M (vp_updL V i v)) H1 locs1 → W p l e Rm s m args below meth c H1 locs1 cells slots Q (F0 m (pc + 1) ls rest)) : W p l e Rm s m args below meth c H locs cells slots Q (F0 m pc ls (.long v :: .int ix :: .ref (ad 219) :: rest)) := by
  subst hix
  refine x_last (k := 219) C0 hK hS rfl (vp_in_nI hi (by omega)) hdg (fun H1 locs1 h => kk H1 locs1 ?_)
  rw [nI_clamp (by omega), y_con_up (by omega) x_mcon_gset] at h
  exact h
end YR
