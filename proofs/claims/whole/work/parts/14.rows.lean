section XY
variable {p : Program} {l : Launch} {e : Env} {Rm : Room} {s : State} {m : MethodId} {args : Array Value} {below : List Frame} {meth : Method} {c : Code} {H : Heap} {locs : List Loc} {cells slots : Nat} {Q : State → Prop}
variable {cc : ByteArray} {pc nL : Nat} {ret0 : Option FieldType} {own : String} {Ts : List Cond} {ls : Array Slot} {rest : List Value} {G : x_G} {ad : Nat → Nat}
variable {R : Nat → Nat → Int32} {N : Nat → Int64} {tl : Nat → Bool} {T : Nat → Nat → Int32} {pl : Nat → Bool} {P : Nat → Nat → Int32} {X : Nat → Option va_E} {M : Nat → Nat → Int32} {V : Nat → Int64}
theorem x_pput (C0 : x_B p s m meth c args cc nL ret0 own Ts) (hK : x_K G s) (hS : x_H G ad (x_con G ad R N tl T pl P X) H locs) {pg j index : Nat} {v : Int32} (hp : pg < 60) (hl : pl pg = true) (hj : j < 5) (hin : ∀ w ∈ u_ws RX0 TX0 6, w ∈ Ts) (hlink : Cond.fieldLink own index (TX0 j).1 (TX0 j).2.1 (TX0 j).2.2.1 ∈ Ts) (hdg : decode cc pc = .ok (.putfield index, 3))
    (kk : ∀ (H1 : Heap) (locs1 : List Loc), x_H G ad (x_con G ad R N tl T pl (va_up P pg (upd (P pg) j v)) X) H1 locs1 → W p l e Rm s m args below meth c H1 locs1 cells slots Q (F0 m (pc + 3) ls rest)) : W p l e Rm s m args below meth c H locs cells slots Q (F0 m pc ls (.int v :: .ref (ad (16 + pg)) :: rest)) := by
  have key : ∀ fs1, x_pgE (upd (P pg) j v) (ad (76 + pg)) = .inr (0, fs1) → ∀ H1 locs1, x_H G ad (x_up (x_con G ad R N tl T pl P X) (16 + pg) (.inr (0, fs1))) H1 locs1 → W p l e Rm s m args below meth c H1 locs1 cells slots Q (F0 m (pc + 3) ls rest) := by
    intro fs1 hf H1 locs1 h
    rw [← hf, x_con_pset hp hl hj] at h
    exact kk H1 locs1 h
  rcases (show j = 0 ∨ j = 1 ∨ j = 2 ∨ j = 3 ∨ j = 4 by omega) with rfl | rfl | rfl | rfl | rfl
  all_goals exact x_put (ty := .int) C0 hK hS tyX0 tyX0_ok nmX0 (x_con_p hp hl) rfl hin (by omega) hlink rfl (by decide +kernel) rfl rfl (Nat.le_of_ble_eq_true rfl) hdg (key _ rfl)
theorem x_pbast (C0 : x_B p s m meth c args cc nL ret0 own Ts) (hK : x_K G s) (hS : x_H G ad (x_con G ad R N tl T pl P X) H locs) {pg i : Nat} {ix v : Int32} (hp : pg < 60) (hl : pl pg = true) (hi : i < 496) (hix : ix = nI i) (hdg : decode cc pc = .ok (.bastore, 1))
    (kk : ∀ (H1 : Heap) (locs1 : List Loc), x_H G ad (x_con G ad R N tl T pl (va_up P pg (upd (P pg) (5 + i) (vp_nar .byte v))) X) H1 locs1 → W p l e Rm s m args below meth c H1 locs1 cells slots Q (F0 m (pc + 1) ls rest)) : W p l e Rm s m args below meth c H locs cells slots Q (F0 m pc ls (.int v :: .int ix :: .ref (ad (76 + pg)) :: rest)) := by
  subst hix
  refine x_bast C0 hK hS (x_con_b hp hl) (vp_in_nI hi (by omega)) hdg (fun H1 locs1 h => kk H1 locs1 ?_)
  rw [nI_clamp (by omega), show (.inl (G.2.2 2, 496, .inl (upd (fun i => P pg (5 + i)) i (vp_nar .byte v))) : va_E) = x_byE G (upd (P pg) (5 + i) (vp_nar .byte v)) by
    simp only [x_byE]
    congr 4
    funext q
    by_cases hq : q = i
    · rw [hq, pk_us, pk_us]
    · rw [pk_un hq, pk_un (by omega)], x_con_bset hp hl (fun q hq => pk_un (by omega))] at h
  exact h
theorem x_pbald (C0 : x_B p s m meth c args cc nL ret0 own Ts) (hK : x_K G s) (hS : x_H G ad (x_con G ad R N tl T pl P X) H locs) {pg i : Nat} {ix : Int32} (hp : pg < 60) (hl : pl pg = true) (hi : i < 496) (hix : ix = nI i) (hdg : decode cc pc = .ok (.baload, 1))
    (kk : W p l e Rm s m args below meth c H locs cells slots Q (F0 m (pc + 1) ls (.int (P pg (5 + i)) :: rest))) : W p l e Rm s m args below meth c H locs cells slots Q (F0 m pc ls (.int ix :: .ref (ad (76 + pg)) :: rest)) := by
  subst hix
  exact x_bald C0 hK hS (x_con_b hp hl) (vp_in_nI hi (by omega)) (by rw [nI_clamp (by omega)]) hdg kk
/-- a page's int field is read -/
theorem x_pget (C0 : x_B p s m meth c args cc nL ret0 own Ts) (hK : x_K G s) (hS : x_H G ad (x_con G ad R N tl T pl P X) H locs) {pg j index : Nat} (hp : pg < 60) (hl : pl pg = true) (hj : j < 5) (hin : ∀ w ∈ u_ws RX0 TX0 6, w ∈ Ts) (hlink : Cond.fieldLink own index (TX0 j).1 (TX0 j).2.1 (TX0 j).2.2.1 ∈ Ts) (hdg : decode cc pc = .ok (.getfield index, 3))
    (kk : W p l e Rm s m args below meth c H locs cells slots Q (F0 m (pc + 3) ls (.int (P pg j) :: rest))) : W p l e Rm s m args below meth c H locs cells slots Q (F0 m pc ls (.ref (ad (16 + pg)) :: rest)) := by
  refine x_get (j := j) C0 hK hS (x_con_p hp hl) rfl hin (by omega) hlink ?_ hdg kk
  rcases (show j = 0 ∨ j = 1 ∨ j = 2 ∨ j = 3 ∨ j = 4 by omega) with rfl | rfl | rfl | rfl | rfl <;> rfl
theorem x_pgetb (C0 : x_B p s m meth c args cc nL ret0 own Ts) (hK : x_K G s) (hS : x_H G ad (x_con G ad R N tl T pl P X) H locs) {pg index : Nat} (hp : pg < 60) (hl : pl pg = true) (hin : ∀ w ∈ u_ws RX0 TX0 6, w ∈ Ts) (hlink : Cond.fieldLink own index (TX0 5).1 (TX0 5).2.1 (TX0 5).2.2.1 ∈ Ts) (hdg : decode cc pc = .ok (.getfield index, 3))
    (kk : W p l e Rm s m args below meth c H locs cells slots Q (F0 m (pc + 3) ls (.ref (ad (76 + pg)) :: rest))) : W p l e Rm s m args below meth c H locs cells slots Q (F0 m pc ls (.ref (ad (16 + pg)) :: rest)) :=
  x_get (j := 5) C0 hK hS (x_con_p hp hl) rfl hin (by omega) hlink rfl hdg kk
/-- a table's int field is read -/
theorem x_tget (C0 : x_B p s m meth c args cc nL ret0 own Ts) (hK : x_K G s) (hS : x_H G ad (x_con G ad R N tl T pl P X) H locs) {i j index : Nat} (hi : i < 8) (hl : tl i = true) (hj : j < 3) (hin : ∀ w ∈ u_ws RX2 TX2 3, w ∈ Ts) (hlink : Cond.fieldLink own index (TX2 j).1 (TX2 j).2.1 (TX2 j).2.2.1 ∈ Ts) (hdg : decode cc pc = .ok (.getfield index, 3))
    (kk : W p l e Rm s m args below meth c H locs cells slots Q (F0 m (pc + 3) ls (.int (T i j) :: rest))) : W p l e Rm s m args below meth c H locs cells slots Q (F0 m pc ls (.ref (ad (8 + i)) :: rest)) := by
  refine x_get (j := j) C0 hK hS (x_con_t hi hl) rfl hin hj hlink ?_ hdg kk
  rcases (show j = 0 ∨ j = 1 ∨ j = 2 by omega) with rfl | rfl | rfl <;> rfl
/-- the desk's fields, the hand's fields -/
theorem x_dget (C0 : x_B p s m meth c args cc nL ret0 own Ts) (hK : x_K G s) (hS : x_H G ad (x_con G ad R N tl T pl P X) H locs) {j index : Nat} (hj : j < 3) (hin : ∀ w ∈ u_ws RX3 TX3 3, w ∈ Ts) (hlink : Cond.fieldLink own index (TX3 j).1 (TX3 j).2.1 (TX3 j).2.2.1 ∈ Ts) (hdg : decode cc pc = .ok (.getfield index, 3))
    (kk : W p l e Rm s m args below meth c H locs cells slots Q (F0 m (pc + 3) ls (.ref (ad (1 + j)) :: rest))) : W p l e Rm s m args below meth c H locs cells slots Q (F0 m pc ls (.ref (ad 0) :: rest)) := by
  refine x_get (k := 0) (j := j) C0 hK hS (x_con_0 (by omega)) rfl hin hj hlink ?_ hdg kk
  rcases (show j = 0 ∨ j = 1 ∨ j = 2 by omega) with rfl | rfl | rfl <;> rfl
theorem x_hget (C0 : x_B p s m meth c args cc nL ret0 own Ts) (hK : x_K G s) (hS : x_H G ad (x_con G ad R N tl T pl P X) H locs) {j index : Nat} (hj : j < 4) (hin : ∀ w ∈ u_ws RX1 TX1 4, w ∈ Ts) (hlink : Cond.fieldLink own index (TX1 j).1 (TX1 j).2.1 (TX1 j).2.2.1 ∈ Ts) (hdg : decode cc pc = .ok (.getfield index, 3))
    (kk : W p l e Rm s m args below meth c H locs cells slots Q (F0 m (pc + 3) ls (.ref (ad (4 + j)) :: rest))) : W p l e Rm s m args below meth c H locs cells slots Q (F0 m pc ls (.ref (ad 1) :: rest)) := by
  refine x_get (k := 1) (j := j) C0 hK hS (x_con_0 (by omega)) rfl hin hj hlink ?_ hdg kk
  rcases (show j = 0 ∨ j = 1 ∨ j = 2 ∨ j = 3 by omega) with rfl | rfl | rfl | rfl <;> rfl
/-- the hand's arrays: kinds 4, numbers 5, lengths 6, letters 7 -/
theorem x_kald (C0 : x_B p s m meth c args cc nL ret0 own Ts) (hK : x_K G s) (hS : x_H G ad (x_con G ad R N tl T pl P X) H locs) {i : Nat} {ix : Int32} (hi : i < 8) (hix : ix = nI i) (hdg : decode cc pc = .ok (.iaload, 1))
    (kk : W p l e Rm s m args below meth c H locs cells slots Q (F0 m (pc + 1) ls (.int (R 0 i) :: rest))) : W p l e Rm s m args below meth c H locs cells slots Q (F0 m pc ls (.int ix :: .ref (ad 4) :: rest)) := by
  subst hix
  exact x_iald (k := 4) C0 hK hS (x_con_0 (by omega)) (vp_in_nI hi (by omega)) (by rw [nI_clamp (by omega)]) hdg kk
theorem x_nald (C0 : x_B p s m meth c args cc nL ret0 own Ts) (hK : x_K G s) (hS : x_H G ad (x_con G ad R N tl T pl P X) H locs) {i : Nat} {ix : Int32} (hi : i < 8) (hix : ix = nI i) (hdg : decode cc pc = .ok (.laload, 1))
    (kk : W p l e Rm s m args below meth c H locs cells slots Q (F0 m (pc + 1) ls (.long (N i) :: rest))) : W p l e Rm s m args below meth c H locs cells slots Q (F0 m pc ls (.int ix :: .ref (ad 5) :: rest)) := by
  subst hix
  exact x_lald (k := 5) C0 hK hS (x_con_0 (by omega)) (vp_in_nI hi (by omega)) (by rw [nI_clamp (by omega)]) hdg kk
theorem x_lnald (C0 : x_B p s m meth c args cc nL ret0 own Ts) (hK : x_K G s) (hS : x_H G ad (x_con G ad R N tl T pl P X) H locs) {i : Nat} {ix : Int32} (hi : i < 8) (hix : ix = nI i) (hdg : decode cc pc = .ok (.iaload, 1))
    (kk : W p l e Rm s m args below meth c H locs cells slots Q (F0 m (pc + 1) ls (.int (R 1 i) :: rest))) : W p l e Rm s m args below meth c H locs cells slots Q (F0 m pc ls (.int ix :: .ref (ad 6) :: rest)) := by
  subst hix
  exact x_iald (k := 6) C0 hK hS (x_con_0 (by omega)) (vp_in_nI hi (by omega)) (by rw [nI_clamp (by omega)]) hdg kk
theorem x_cald (C0 : x_B p s m meth c args cc nL ret0 own Ts) (hK : x_K G s) (hS : x_H G ad (x_con G ad R N tl T pl P X) H locs) {i : Nat} {ix : Int32} (hi : i < 248) (hix : ix = nI i) (hdg : decode cc pc = .ok (.baload, 1))
    (kk : W p l e Rm s m args below meth c H locs cells slots Q (F0 m (pc + 1) ls (.int (R 2 i) :: rest))) : W p l e Rm s m args below meth c H locs cells slots Q (F0 m pc ls (.int ix :: .ref (ad 7) :: rest)) := by
  subst hix
  exact x_bald (k := 7) C0 hK hS (x_con_0 (by omega)) (vp_in_nI hi (by omega)) (by rw [nI_clamp (by omega)]) hdg kk
theorem x_kast (C0 : x_B p s m meth c args cc nL ret0 own Ts) (hK : x_K G s) (hS : x_H G ad (x_con G ad R N tl T pl P X) H locs) {i : Nat} {ix v : Int32} (hi : i < 8) (hix : ix = nI i) (hdg : decode cc pc = .ok (.iastore, 1))
    (kk : ∀ (H1 : Heap) (locs1 : List Loc), x_H G ad (x_con G ad (va_up R 0 (upd (R 0) i v)) N tl T pl P X) H1 locs1 → W p l e Rm s m args below meth c H1 locs1 cells slots Q (F0 m (pc + 1) ls rest)) : W p l e Rm s m args below meth c H locs cells slots Q (F0 m pc ls (.int v :: .int ix :: .ref (ad 4) :: rest)) := by
  subst hix
  refine x_iast (k := 4) C0 hK hS (x_con_0 (by omega)) (vp_in_nI hi (by omega)) hdg (fun H1 locs1 h => kk H1 locs1 ?_)
  rw [nI_clamp (by omega), x_con_kset] at h
  exact h
theorem x_nast (C0 : x_B p s m meth c args cc nL ret0 own Ts) (hK : x_K G s) (hS : x_H G ad (x_con G ad R N tl T pl P X) H locs) {i : Nat} {ix : Int32} {v : Int64} (hi : i < 8) (hix : ix = nI i) (hdg : decode cc pc = .ok (.lastore, 1))
    (kk : ∀ (H1 : Heap) (locs1 : List Loc), x_H G ad (x_con G ad R (vp_updL N i v) tl T pl P X) H1 locs1 → W p l e Rm s m args below meth c H1 locs1 cells slots Q (F0 m (pc + 1) ls rest)) : W p l e Rm s m args below meth c H locs cells slots Q (F0 m pc ls (.long v :: .int ix :: .ref (ad 5) :: rest)) := by
  subst hix
  refine x_last (k := 5) C0 hK hS (x_con_0 (by omega)) (vp_in_nI hi (by omega)) hdg (fun H1 locs1 h => kk H1 locs1 ?_)
  rw [nI_clamp (by omega), x_con_nset] at h
  exact h
theorem x_lnast (C0 : x_B p s m meth c args cc nL ret0 own Ts) (hK : x_K G s) (hS : x_H G ad (x_con G ad R N tl T pl P X) H locs) {i : Nat} {ix v : Int32} (hi : i < 8) (hix : ix = nI i) (hdg : decode cc pc = .ok (.iastore, 1))
    (kk : ∀ (H1 : Heap) (locs1 : List Loc), x_H G ad (x_con G ad (va_up R 1 (upd (R 1) i v)) N tl T pl P X) H1 locs1 → W p l e Rm s m args below meth c H1 locs1 cells slots Q (F0 m (pc + 1) ls rest)) : W p l e Rm s m args below meth c H locs cells slots Q (F0 m pc ls (.int v :: .int ix :: .ref (ad 6) :: rest)) := by
  subst hix
  refine x_iast (k := 6) C0 hK hS (x_con_0 (by omega)) (vp_in_nI hi (by omega)) hdg (fun H1 locs1 h => kk H1 locs1 ?_)
  rw [nI_clamp (by omega), x_con_lset] at h
  exact h
theorem x_cast (C0 : x_B p s m meth c args cc nL ret0 own Ts) (hK : x_K G s) (hS : x_H G ad (x_con G ad R N tl T pl P X) H locs) {i : Nat} {ix v : Int32} (hi : i < 248) (hix : ix = nI i) (hdg : decode cc pc = .ok (.bastore, 1))
    (kk : ∀ (H1 : Heap) (locs1 : List Loc), x_H G ad (x_con G ad (va_up R 2 (upd (R 2) i (vp_nar .byte v))) N tl T pl P X) H1 locs1 → W p l e Rm s m args below meth c H1 locs1 cells slots Q (F0 m (pc + 1) ls rest)) : W p l e Rm s m args below meth c H locs cells slots Q (F0 m pc ls (.int v :: .int ix :: .ref (ad 7) :: rest)) := by
  subst hix
  refine x_bast (k := 7) C0 hK hS (x_con_0 (by omega)) (vp_in_nI hi (by omega)) hdg (fun H1 locs1 h => kk H1 locs1 ?_)
  rw [nI_clamp (by omega), x_con_cset] at h
  exact h
/-- the arrays of tables and of pages: two ways -/
theorem x_tald (C0 : x_B p s m meth c args cc nL ret0 own Ts) (hK : x_K G s) (hS : x_H G ad (x_con G ad R N tl T pl P X) H locs) {i : Nat} {ix : Int32} (hi : i < 8) (hix : ix = nI i) (hdg : decode cc pc = .ok (.aaload, 1))
    (k1 : tl i = true → W p l e Rm s m args below meth c H locs cells slots Q (F0 m (pc + 1) ls (.ref (ad (8 + i)) :: rest))) (k2 : tl i = false → W p l e Rm s m args below meth c H locs cells slots Q (F0 m (pc + 1) ls (.null :: rest))) : W p l e Rm s m args below meth c H locs cells slots Q (F0 m pc ls (.int ix :: .ref (ad 2) :: rest)) := by
  subst hix
  cases h : tl i with
  | true => exact x_aldT (k := 2) C0 hK hS (x_con_0 (by omega)) (vp_in_nI hi (by omega)) (by rw [nI_clamp (by omega)]; simp [h, va_rf]) hdg (k1 h)
  | false => exact x_aldT (k := 2) C0 hK hS (x_con_0 (by omega)) (vp_in_nI hi (by omega)) (by rw [nI_clamp (by omega)]; simp [h, va_rf]) hdg (k2 h)
theorem x_pald (C0 : x_B p s m meth c args cc nL ret0 own Ts) (hK : x_K G s) (hS : x_H G ad (x_con G ad R N tl T pl P X) H locs) {i : Nat} {ix : Int32} (hi : i < 60) (hix : ix = nI i) (hdg : decode cc pc = .ok (.aaload, 1))
    (k1 : pl i = true → W p l e Rm s m args below meth c H locs cells slots Q (F0 m (pc + 1) ls (.ref (ad (16 + i)) :: rest))) (k2 : pl i = false → W p l e Rm s m args below meth c H locs cells slots Q (F0 m (pc + 1) ls (.null :: rest))) : W p l e Rm s m args below meth c H locs cells slots Q (F0 m pc ls (.int ix :: .ref (ad 3) :: rest)) := by
  subst hix
  cases h : pl i with
  | true => exact x_aldP (k := 3) C0 hK hS (x_con_0 (by omega)) (vp_in_nI hi (by omega)) (by rw [nI_clamp (by omega)]; simp [h, va_rf]) hdg (k1 h)
  | false => exact x_aldP (k := 3) C0 hK hS (x_con_0 (by omega)) (vp_in_nI hi (by omega)) (by rw [nI_clamp (by omega)]; simp [h, va_rf]) hdg (k2 h)
end XY
