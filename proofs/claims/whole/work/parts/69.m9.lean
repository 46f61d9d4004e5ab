-- ===== the reference's constructor =====
def z_f (ad : Nat → Nat) (n j : Nat) : Value := if j = 6 ∨ j = 17 then .int 0 else if j < n then .ref (ad (201 + j)) else .null
def z_fs (ad : Nat → Nat) (n : Nat) : List Value := (List.range 22).map (z_f ad n)
def z_arr (G : x_G) (n : Nat) : va_E := if n = 15 then .inl (G.2.2 3, 4120, .inl (fun _ => 0)) else if n = 18 then .inl (G.2.2 1, 515, .inr (.inl (fun _ => 0))) else .inl (G.2.2 0, x_mlen n, .inl (fun _ => 0))
def z_con (G : x_G) (ad : Nat → Nat) (D : Nat → Option va_E) (n : Nat) : Nat → Option va_E := fun k => if k = 200 then some (.inr (4, z_fs ad n)) else if 201 ≤ k ∧ k < 201 + n ∧ k ≠ 207 ∧ k ≠ 218 then some (z_arr G (k - 201)) else D k
theorem z_fs_set {ad : Nat → Nat} {n q : Nat} (hn : n < 22) (h6 : n ≠ 6 ∧ n ≠ 17) : (z_fs ad n).set n (.ref q) = z_fs (va_up ad (201 + n) q) (n + 1) := by
  apply List.ext_getElem?
  intro i
  unfold z_fs
  rw [List.getElem?_set]
  by_cases hi : n = i
  · subst hi
    rw [if_pos rfl, if_pos (by simp; omega), List.getElem?_map, List.getElem?_range hn]
    show some _ = some _
    unfold z_f
    rw [if_neg (by omega), if_pos (by omega), va_up_self]
  · rw [if_neg hi, List.getElem?_map, List.getElem?_map]
    by_cases h22 : i < 22
    · rw [List.getElem?_range h22]
      show some _ = some _
      unfold z_f
      by_cases h7 : i = 6 ∨ i = 17
      · rw [if_pos h7, if_pos h7]
      · rw [if_neg h7, if_neg h7]
        by_cases h8 : i < n
        · rw [if_pos h8, if_pos (by omega), va_up_ne _ _ (by omega)]
        · rw [if_neg h8, if_neg (by omega)]
    · rw [List.getElem?_eq_none (by simp; omega)]
      rfl
theorem z_con_set {G : x_G} {ad : Nat → Nat} {D : Nat → Option va_E} {n q : Nat} (hn : n < 22) (h6 : n ≠ 6 ∧ n ≠ 17) : x_up (x_up (z_con G ad D n) (201 + n) (z_arr G n)) 200 (.inr (4, (z_fs ad n).set n (.ref q))) = z_con G (va_up ad (201 + n) q) D (n + 1) := by
  funext k
  by_cases h1 : k = 200
  · subst h1
    rw [x_up_s, z_fs_set hn h6]
    rfl
  · rw [x_up_n h1]
    by_cases h2 : k = 201 + n
    · subst h2
      rw [x_up_s]
      unfold z_con
      rw [if_neg (by omega), if_pos (by omega), show 201 + n - 201 = n by omega]
    · rw [x_up_n h2]
      unfold z_con
      rw [if_neg h1, if_neg h1]
      by_cases h3 : 201 ≤ k ∧ k < 201 + n ∧ k ≠ 207 ∧ k ≠ 218
      · rw [if_pos h3, if_pos (by omega)]
      · rw [if_neg h3, if_neg (by omega)]
theorem z_con_skip {G : x_G} {ad : Nat → Nat} {D : Nat → Option va_E} {n : Nat} (h6 : n = 6 ∨ n = 17) : z_con G ad D n = z_con G ad D (n + 1) := by
  funext k
  unfold z_con
  by_cases h1 : k = 200
  · rw [if_pos h1, if_pos h1]
    congr 3
    unfold z_fs
    congr 1
    funext j
    unfold z_f
    by_cases h7 : j = 6 ∨ j = 17
    · rw [if_pos h7, if_pos h7]
    · rw [if_neg h7, if_neg h7]
      by_cases h8 : j < n
      · rw [if_pos h8, if_pos (by omega)]
      · rw [if_neg h8, if_neg (by omega)]
  · rw [if_neg h1, if_neg h1]
    by_cases h3 : 201 ≤ k ∧ k < 201 + n ∧ k ≠ 207 ∧ k ≠ 218
    · rw [if_pos h3, if_pos (by omega)]
    · rw [if_neg h3, if_neg (by omega)]
theorem z_con_all {G : x_G} {ad : Nat → Nat} {D : Nat → Option va_E} (hD : ∀ k, 200 ≤ k → D k = none) : z_con G ad D 22 = y_con G ad D (fun _ _ => 0) (fun _ => 0) := by
  funext k
  unfold z_con y_con
  by_cases h1 : k = 200
  · subst h1; rfl
  · rw [if_neg h1]
    by_cases h3 : 201 ≤ k ∧ k < 201 + 22 ∧ k ≠ 207 ∧ k ≠ 218
    · rw [if_pos h3, if_pos (by omega)]
      simp only [x_mcon]
      rw [if_neg h1, if_neg (by omega)]
      unfold z_arr
      by_cases h4 : k = 216
      · subst h4; rfl
      · rw [if_neg (by omega), if_neg h4]
        by_cases h5 : k = 219
        · subst h5; rfl
        · rw [if_neg (by omega), if_neg h5, if_pos (by omega)]
    · rw [if_neg h3]
      by_cases h4 : 200 ≤ k
      · rw [if_pos h4, hD k h4]
        simp only [x_mcon]
        rw [if_neg h1]
        by_cases h5 : k = 207 ∨ k = 218
        · rw [if_pos h5]
        · rw [if_neg h5, if_neg (by omega), if_neg (by omega), if_neg (by omega)]
      · rw [if_neg h4]
section YI
variable {p : Program} {l : Launch} {e : Env} {Rm : Room} {s : State} {m : MethodId} {args : Array Value} {below : List Frame} {meth : Method} {c : Code} {H : Heap} {locs : List Loc} {cells slots : Nat} {Q : State → Prop}
variable {cc : ByteArray} {pc nL : Nat} {ret0 : Option FieldType} {Ts : List Cond} {ls : Array Slot} {rest : List Value} {G : x_G} {ad : Nat → Nat} {D : Nat → Option va_E}
/-- an array is made and put into field n -/
theorem y_ini (C0 : x_B p s m meth c args cc nL ret0 RX4 Ts) (hK : x_K G s) (hD : ∀ k, 200 ≤ k → D k = none) {n a index : Nat} (hS : x_H G ad (z_con G ad D n) H locs) (ha : ad 200 = a) (hn : n < 22) (h6 : n ≠ 6 ∧ n ≠ 17) (hini : meth.name = "<init>") {atype : ArrayType} {ty : FieldType} {j0 : Nat} {cA0 : ClassId} {a0 : vp_A} {len : Int32} {N' : Nat} (hza : z_arr G n = .inl (cA0, a0)) (hj : (x_tys G)[j0]? = some (cA0, ty)) (hra : ∀ cA, va_RA s cA ty → s.vm.findClass ("[" ++ ty.toString) = some cA) (harr : Cond.arrayClass (newarray.typeOf atype) ∈ Ts) (hty : newarray.typeOf atype = ty) (hac : ∀ cA : ClassId, vp_cell cA a0 = arrV cA N' (fun _ => defaultValue ty)) (hlen : ¬ len < 0) (hN : len.toNatClampNeg = N') (hbytes : N' * componentBytes ty ≤ 536870912) (hcells : cells + 1 ≤ Rm.cells) (hslots : slots + N' ≤ Rm.slots) (hdg : decode cc pc = .ok (.newarray atype, 2)) (hin : ∀ w ∈ u_ws RX4 TX4 22, w ∈ Ts) (hlink : Cond.fieldLink RX4 index (TX4 n).1 (TX4 n).2.1 (TX4 n).2.2.1 ∈ Ts) (hfin : (TX4 n).2.2.2 = true) (hown : (TX4 n).1 = RX4) (hd : parseFieldDescriptor (TX4 n).2.2.1 = some (.array ty)) (hdg2 : decode cc (pc + 2) = .ok (.putfield index, 3))
    (kk : ∀ (q : Nat) (H1 : Heap) (locs1 : List Loc), x_H G (va_up ad (201 + n) q) (z_con G (va_up ad (201 + n) q) D (n + 1)) H1 locs1 → W p l e Rm s m args below meth c H1 locs1 (cells + 1) (slots + N') Q (F0 m (pc + 2 + 3) ls rest)) : W p l e Rm s m args below meth c H locs cells slots Q (F0 m pc ls (.int len :: .ref a :: rest)) := by
  refine x_newa C0 hK hS (201 + n) (by unfold z_con; rw [if_neg (by omega), if_neg (by omega)]; exact hD _ (by omega)) (by omega) hj hra harr hty hac hlen hN hbytes hcells hslots hdg (fun q H1 hS1 => ?_)
  rw [← hza] at hS1
  refine x_putA (k := 200) (ci := 4) (j := n) (N := 22) (C := RX4) (T := TX4) (ty := .array ty) C0 hK hS1 (by rw [va_up_ne _ _ (by omega)]; exact ha) tyX4 tyX4_ok nmX4 (by rw [x_up_n (by omega)]; rfl) rfl hin hn hlink (Or.inr ⟨hfin, hini, hown⟩) hd rfl rfl (by unfold z_fs; simp; omega) hdg2 (fun H2 locs2 hS2 => kk q H2 locs2 ?_)
  rw [z_con_set hn h6] at hS2
  exact hS2
end YI
-- behind the arrays: tableOf and follows are -1
def i_M (n : Nat) : Nat → Nat → Int32 := va_up (va_up (fun _ _ => 0) 3 (fun i => if i < n then -1 else 0)) 5 (fun i => if i < n then -1 else 0)
theorem i_M_0 : i_M 0 = fun _ _ => 0 := by
  funext j i
  unfold i_M
  by_cases h5 : j = 5
  · subst h5; rw [va_up_self, if_neg (by omega)]
  · rw [va_up_ne _ _ h5]
    by_cases h3 : j = 3
    · subst h3; rw [va_up_self, if_neg (by omega)]
    · rw [va_up_ne _ _ h3]
theorem i_M_s (n : Nat) : va_up (va_up (i_M n) 3 (upd (i_M n 3) n (-1))) 5 (upd (va_up (i_M n) 3 (upd (i_M n 3) n (-1)) 5) n (-1)) = i_M (n + 1) := by
  have key : ∀ f : Nat → Int32, f = (fun i => if i < n then -1 else 0) → upd f n (-1) = fun i => if i < n + 1 then -1 else 0 := by
    intro f hf
    funext i
    by_cases hi : i = n
    · rw [hi, pk_us, if_pos (by omega)]
    · rw [pk_un hi, hf]
      show (if i < n then (-1 : Int32) else 0) = _
      by_cases h2 : i < n
      · rw [if_pos h2, if_pos (by omega)]
      · rw [if_neg h2, if_neg (by omega)]
  funext j
  by_cases h5 : j = 5
  · subst h5
    rw [va_up_self, va_up_ne _ _ (by decide), key _ (by unfold i_M; rw [va_up_self])]
    unfold i_M
    rw [va_up_self]
  · rw [va_up_ne _ _ h5]
    by_cases h3 : j = 3
    · subst h3
      rw [va_up_self, key _ (by unfold i_M; rw [va_up_ne _ _ (by decide), va_up_self])]
      unfold i_M
      rw [va_up_ne _ _ (by decide), va_up_self]
    · rw [va_up_ne _ _ h3]
      unfold i_M
      rw [va_up_ne _ _ h5, va_up_ne _ _ h3, va_up_ne _ _ h5, va_up_ne _ _ h3]
theorem kX4_init_wX4 : ∀ w ∈ u_ws RX4 TX4 22, w ∈ wsX4_init := by decide +kernel
theorem kX4_init_f19 : Cond.fieldLink RX4 19 "VersionDeskModel" "tableOf" "[I" ∈ wsX4_init := by decide +kernel
theorem kX4_init_f25 : Cond.fieldLink RX4 25 "VersionDeskModel" "follows" "[I" ∈ wsX4_init := by decide +kernel
set_option maxHeartbeats 4000000 in
set_option maxRecDepth 100000 in
theorem l_X4_init {p : Program} {l : Launch} {e : Env} {s : State} {m : MethodId} {args : Array Value} {below : List Frame} {meth : Method} {c : Code} {G : x_G} {ad : Nat → Nat} {D : Nat → Option va_E} {V : Nat → Int64} (C0 : x_B p s m meth c args cX4_init 2 none RX4 wsX4_init) (hK : x_K G s) {P9 : (Nat → Nat) → (Nat → Option va_E) → Option Value → Prop} (hP9 : P9 ad (y_con G ad D (i_M 60) V) none) : ∀ (d : Nat) (i : Nat) (M : Nat → Nat → Int32) (H : Heap) (locs : List Loc), 60 - i < d → i ≤ 60 → M = i_M i → x_H G ad (y_con G ad D M V) H locs → ∀ (ls : Array Slot), lv_has ls 2 [(0, .ref (ad 200)), (1, .int (nI i))] → W p l e ({ frames := 1, cells := 20, slots := 10999, locals := 20 } : Room) s m args below meth c H locs 20 10999 (MQ below (x_Qe G P9) args s 20 10999 (x_A G)) (F0 m 179 ls []) := by
  obtain ⟨hx, hb, hr, hml, hown, hts, hlk⟩ := id C0
  intro d
  induction d with
  | zero =>
    intro i M H locs hd hi hMi hS ls hl
    exact absurd hd (by omega)
  | succ d ih =>
    intro i M H locs hd hi hMi hS ls hl
    refine lv_iload_n hx hb dX4_init_179 rfl (lv_at hl 1 rfl) ?_
    refine lv_bipush (v := 60) hx hb dX4_init_180 (by decide) ?_
    refine lv_icmp_ge (tgt := 205) hx hb dX4_init_182 (by decide) (fun c182 => ?_) (fun c182 => ?_)
    · have hi2 := nz_le (a := 60) c182 rfl rfl (by omega) (by omega)
      exact x_eretv C0 hS (by rw [hMi, show i = 60 by omega]; exact hP9) dX4_init_205
    · have hi2 := nz_nle (a := 60) c182 rfl rfl (by omega) (by omega)
      refine lv_aload_n hx hb dX4_init_185 rfl (lv_at hl 0 rfl) ?_
      refine y_get (j := 3) C0 hK hS (by decide) (by decide) kX4_init_wX4 kX4_init_f19 dX4_init_186 ?_
      refine lv_iload_n hx hb dX4_init_189 rfl (lv_at hl 1 rfl) ?_
      refine lv_iconst (v := (-1)) hx hb dX4_init_190 (by decide) ?_
      refine y_iast (j := 3) (i := i) (n := 60) C0 hK hS (by decide) (by decide) (by decide) (by omega) rfl dX4_init_191 (fun H locs hS => ?_)
      obtain ⟨M1, eM1⟩ : ∃ zz, zz = va_up M 3 (upd (M 3) i (-1)) := ⟨_, rfl⟩
      rw [← eM1] at hS
      refine lv_aload_n hx hb dX4_init_192 rfl (lv_at hl 0 rfl) ?_
      refine y_get (j := 5) C0 hK hS (by decide) (by decide) kX4_init_wX4 kX4_init_f25 dX4_init_193 ?_
      refine lv_iload_n hx hb dX4_init_196 rfl (lv_at hl 1 rfl) ?_
      refine lv_iconst (v := (-1)) hx hb dX4_init_197 (by decide) ?_
      refine y_iast (j := 5) (i := i) (n := 60) C0 hK hS (by decide) (by decide) (by decide) (by omega) rfl dX4_init_198 (fun H locs hS => ?_)
      obtain ⟨M2, eM2⟩ : ∃ zz, zz = va_up M1 5 (upd (M1 5) i (-1)) := ⟨_, rfl⟩
      rw [← eM2] at hS
      refine lv_iinc (v := nI (i + 1)) (lv' := [(1, .int (nI (i + 1))), (0, .ref (ad 200))]) hx hb dX4_init_199 hl (k := 1) rfl (nI_1 i) (by decide) rfl (fun ls hl => ?_)
      refine lv_goto (tgt := 179) hx hb dX4_init_202 (by decide) ?_
      exact ih (i + 1) _ _ _ (by omega) (by omega) (by rw [eM2, eM1, hMi]; exact i_M_s i) hS ls (lv_sub hl [1, 0] rfl)
theorem kX4_init_acint : Cond.arrayClass .int ∈ wsX4_init := by decide +kernel
theorem kX4_init_aclong : Cond.arrayClass .long ∈ wsX4_init := by decide +kernel
theorem kX4_init_acshort : Cond.arrayClass .short ∈ wsX4_init := by decide +kernel
theorem kX4_init_f13 : Cond.fieldLink RX4 13 "VersionDeskModel" "types" "[I" ∈ wsX4_init := by decide +kernel
theorem kX4_init_f16 : Cond.fieldLink RX4 16 "VersionDeskModel" "first" "[I" ∈ wsX4_init := by decide +kernel
theorem kX4_init_f22 : Cond.fieldLink RX4 22 "VersionDeskModel" "slots" "[I" ∈ wsX4_init := by decide +kernel
theorem kX4_init_f28 : Cond.fieldLink RX4 28 "VersionDeskModel" "place" "[I" ∈ wsX4_init := by decide +kernel
theorem kX4_init_f31 : Cond.fieldLink RX4 31 "VersionDeskModel" "number" "[I" ∈ wsX4_init := by decide +kernel
theorem kX4_init_f34 : Cond.fieldLink RX4 34 "VersionDeskModel" "maker" "[I" ∈ wsX4_init := by decide +kernel
theorem kX4_init_f37 : Cond.fieldLink RX4 37 "VersionDeskModel" "command" "[I" ∈ wsX4_init := by decide +kernel
theorem kX4_init_f40 : Cond.fieldLink RX4 40 "VersionDeskModel" "ender" "[I" ∈ wsX4_init := by decide +kernel
theorem kX4_init_f43 : Cond.fieldLink RX4 43 "VersionDeskModel" "endCommand" "[I" ∈ wsX4_init := by decide +kernel
theorem kX4_init_f46 : Cond.fieldLink RX4 46 "VersionDeskModel" "behind" "[I" ∈ wsX4_init := by decide +kernel
theorem kX4_init_f49 : Cond.fieldLink RX4 49 "VersionDeskModel" "size" "[I" ∈ wsX4_init := by decide +kernel
theorem kX4_init_f52 : Cond.fieldLink RX4 52 "VersionDeskModel" "cells" "[S" ∈ wsX4_init := by decide +kernel
theorem kX4_init_f56 : Cond.fieldLink RX4 56 "VersionDeskModel" "hand" "[I" ∈ wsX4_init := by decide +kernel
theorem kX4_init_f59 : Cond.fieldLink RX4 59 "VersionDeskModel" "given" "[J" ∈ wsX4_init := by decide +kernel
theorem kX4_init_f63 : Cond.fieldLink RX4 63 "VersionDeskModel" "bytes" "[I" ∈ wsX4_init := by decide +kernel
theorem kX4_init_f66 : Cond.fieldLink RX4 66 "VersionDeskModel" "before" "[I" ∈ wsX4_init := by decide +kernel
theorem kX4_init_f69 : Cond.fieldLink RX4 69 "VersionDeskModel" "length" "[I" ∈ wsX4_init := by decide +kernel
theorem kX4_init_f7 : Cond.fieldLink RX4 7 "VersionDeskModel" "columns" "[I" ∈ wsX4_init := by decide +kernel
theorem kX4_init_oi1 : Cond.methodLink RX4 1 objectInit ∈ wsX4_init := by decide +kernel
theorem kX4_init_oi2 : Cond.instanceMethod objectInit ∈ wsX4_init := by decide +kernel
set_option maxHeartbeats 4000000 in
set_option maxRecDepth 100000 in
theorem c_X4_init (l : Launch) (G : x_G) (ad : Nat → Nat) (D : Nat → Option va_E) (a : Nat) (ha : ad 200 = a) (hD : ∀ k, 200 ≤ k → D k = none) : Met l yX4_init wsX4_init ({ frames := 1, cells := 20, slots := 10999, locals := 20 } : Room) (x_Pc G ad (z_con G ad D 0) [.ref a]) (x_Qe G (fun ad1 con1 v => v = none ∧ (∀ k, k < 201 ∨ 223 ≤ k → ad1 k = ad k) ∧ con1 = y_con G ad1 D (i_M 60) (fun _ => 0))) 20 10999 (x_A G) := by
  refine x_met (cc := cX4_init) (maxL := 2) (ret := none) (by decide) rfl _ (Nat.le_of_ble_eq_true rfl) ?_
  intro p e s m args below meth c C0 hini hK hS ls hl
  have hl : lv_has ls 2 [(0, .ref a)] := hl
  obtain ⟨hx, hb, hr, hml, hown, hts, hlk⟩ := id C0
  refine lv_aload_n hx hb dX4_init_0 rfl (lv_at hl 0 rfl) ?_
  refine W.objInit hx hb hown (hts _ kX4_init_oi1) (hts _ kX4_init_oi2) (hts _ (List.mem_cons_of_mem _ (List.mem_append_left _ <| List.mem_append_left _ <| List.mem_of_getElem? (i := 2) rfl))) rfl (by rw [hml]; exact hl.1) rfl dX4_init_1 (Nat.le_of_ble_eq_true rfl) (Nat.le_of_ble_eq_true rfl) ?_
  refine W.eq (g2 := F0 m 4 ls []) rfl ?_
  refine lv_aload_n hx hb dX4_init_4 rfl (lv_at hl 0 rfl) ?_
  refine lv_bipush (v := 8) hx hb dX4_init_5 (by decide) ?_
  refine y_ini (n := 0) (ty := .int) (atype := .int) (j0 := 0) (a0 := (8, .inl (fun _ => 0))) (N' := 8) C0 hK hD hS ha (by decide) (by decide) (hini rfl) rfl rfl (fun _ h => h) kX4_init_acint rfl (fun _ => rfl) (by decide) (by decide) (by decide) (Nat.le_of_ble_eq_true rfl) (Nat.le_of_ble_eq_true rfl) dX4_init_7 kX4_init_wX4 kX4_init_f7 rfl rfl (by decide +kernel) dX4_init_9 (fun q0 H locs hS => ?_)
  obtain ⟨ad1, ead1⟩ : ∃ z, z = va_up ad 201 q0 := ⟨_, rfl⟩
  have had1 : ∀ k, k ≠ 201 → ad1 k = ad k := fun k h => by rw [ead1, va_up_ne _ _ h]
  have ha1 : ad1 200 = a := (had1 200 (by omega)).trans ha
  rw [← show ad1 = va_up ad (201 + 0) q0 from ead1] at hS
  have hS : x_H G ad1 (z_con G ad1 D 1) H locs := hS
  refine lv_aload_n hx hb dX4_init_12 rfl (lv_at hl 0 rfl) ?_
  refine lv_bipush (v := 64) hx hb dX4_init_13 (by decide) ?_
  refine y_ini (n := 1) (ty := .int) (atype := .int) (j0 := 0) (a0 := (64, .inl (fun _ => 0))) (N' := 64) C0 hK hD hS ha1 (by decide) (by decide) (hini rfl) rfl rfl (fun _ h => h) kX4_init_acint rfl (fun _ => rfl) (by decide) (by decide) (by decide) (Nat.le_of_ble_eq_true rfl) (Nat.le_of_ble_eq_true rfl) dX4_init_15 kX4_init_wX4 kX4_init_f13 rfl rfl (by decide +kernel) dX4_init_17 (fun q1 H locs hS => ?_)
  obtain ⟨ad2, ead2⟩ : ∃ z, z = va_up ad1 202 q1 := ⟨_, rfl⟩
  have had2 : ∀ k, k ≠ 202 → ad2 k = ad1 k := fun k h => by rw [ead2, va_up_ne _ _ h]
  have ha2 : ad2 200 = a := (had2 200 (by omega)).trans ha1
  rw [← show ad2 = va_up ad1 (201 + 1) q1 from ead2] at hS
  have hS : x_H G ad2 (z_con G ad2 D 2) H locs := hS
  refine lv_aload_n hx hb dX4_init_20 rfl (lv_at hl 0 rfl) ?_
  refine lv_bipush (v := 8) hx hb dX4_init_21 (by decide) ?_
  refine y_ini (n := 2) (ty := .int) (atype := .int) (j0 := 0) (a0 := (8, .inl (fun _ => 0))) (N' := 8) C0 hK hD hS ha2 (by decide) (by decide) (hini rfl) rfl rfl (fun _ h => h) kX4_init_acint rfl (fun _ => rfl) (by decide) (by decide) (by decide) (Nat.le_of_ble_eq_true rfl) (Nat.le_of_ble_eq_true rfl) dX4_init_23 kX4_init_wX4 kX4_init_f16 rfl rfl (by decide +kernel) dX4_init_25 (fun q2 H locs hS => ?_)
  obtain ⟨ad3, ead3⟩ : ∃ z, z = va_up ad2 203 q2 := ⟨_, rfl⟩
  have had3 : ∀ k, k ≠ 203 → ad3 k = ad2 k := fun k h => by rw [ead3, va_up_ne _ _ h]
  have ha3 : ad3 200 = a := (had3 200 (by omega)).trans ha2
  rw [← show ad3 = va_up ad2 (201 + 2) q2 from ead3] at hS
  have hS : x_H G ad3 (z_con G ad3 D 3) H locs := hS
  refine lv_aload_n hx hb dX4_init_28 rfl (lv_at hl 0 rfl) ?_
  refine lv_bipush (v := 60) hx hb dX4_init_29 (by decide) ?_
  refine y_ini (n := 3) (ty := .int) (atype := .int) (j0 := 0) (a0 := (60, .inl (fun _ => 0))) (N' := 60) C0 hK hD hS ha3 (by decide) (by decide) (hini rfl) rfl rfl (fun _ h => h) kX4_init_acint rfl (fun _ => rfl) (by decide) (by decide) (by decide) (Nat.le_of_ble_eq_true rfl) (Nat.le_of_ble_eq_true rfl) dX4_init_31 kX4_init_wX4 kX4_init_f19 rfl rfl (by decide +kernel) dX4_init_33 (fun q3 H locs hS => ?_)
  obtain ⟨ad4, ead4⟩ : ∃ z, z = va_up ad3 204 q3 := ⟨_, rfl⟩
  have had4 : ∀ k, k ≠ 204 → ad4 k = ad3 k := fun k h => by rw [ead4, va_up_ne _ _ h]
  have ha4 : ad4 200 = a := (had4 200 (by omega)).trans ha3
  rw [← show ad4 = va_up ad3 (201 + 3) q3 from ead4] at hS
  have hS : x_H G ad4 (z_con G ad4 D 4) H locs := hS
  refine lv_aload_n hx hb dX4_init_36 rfl (lv_at hl 0 rfl) ?_
  refine lv_bipush (v := 60) hx hb dX4_init_37 (by decide) ?_
  refine y_ini (n := 4) (ty := .int) (atype := .int) (j0 := 0) (a0 := (60, .inl (fun _ => 0))) (N' := 60) C0 hK hD hS ha4 (by decide) (by decide) (hini rfl) rfl rfl (fun _ h => h) kX4_init_acint rfl (fun _ => rfl) (by decide) (by decide) (by decide) (Nat.le_of_ble_eq_true rfl) (Nat.le_of_ble_eq_true rfl) dX4_init_39 kX4_init_wX4 kX4_init_f22 rfl rfl (by decide +kernel) dX4_init_41 (fun q4 H locs hS => ?_)
  obtain ⟨ad5, ead5⟩ : ∃ z, z = va_up ad4 205 q4 := ⟨_, rfl⟩
  have had5 : ∀ k, k ≠ 205 → ad5 k = ad4 k := fun k h => by rw [ead5, va_up_ne _ _ h]
  have ha5 : ad5 200 = a := (had5 200 (by omega)).trans ha4
  rw [← show ad5 = va_up ad4 (201 + 4) q4 from ead5] at hS
  have hS : x_H G ad5 (z_con G ad5 D 5) H locs := hS
  refine lv_aload_n hx hb dX4_init_44 rfl (lv_at hl 0 rfl) ?_
  refine lv_bipush (v := 60) hx hb dX4_init_45 (by decide) ?_
  refine y_ini (n := 5) (ty := .int) (atype := .int) (j0 := 0) (a0 := (60, .inl (fun _ => 0))) (N' := 60) C0 hK hD hS ha5 (by decide) (by decide) (hini rfl) rfl rfl (fun _ h => h) kX4_init_acint rfl (fun _ => rfl) (by decide) (by decide) (by decide) (Nat.le_of_ble_eq_true rfl) (Nat.le_of_ble_eq_true rfl) dX4_init_47 kX4_init_wX4 kX4_init_f25 rfl rfl (by decide +kernel) dX4_init_49 (fun q5 H locs hS => ?_)
  obtain ⟨ad6, ead6⟩ : ∃ z, z = va_up ad5 206 q5 := ⟨_, rfl⟩
  have had6 : ∀ k, k ≠ 206 → ad6 k = ad5 k := fun k h => by rw [ead6, va_up_ne _ _ h]
  have ha6 : ad6 200 = a := (had6 200 (by omega)).trans ha5
  rw [← show ad6 = va_up ad5 (201 + 5) q5 from ead6] at hS
  have hS : x_H G ad6 (z_con G ad6 D 7) H locs := by rw [← z_con_skip (n := 6) (by decide)]; exact hS
  refine lv_aload_n hx hb dX4_init_52 rfl (lv_at hl 0 rfl) ?_
  refine lv_sipush (v := 515) hx hb dX4_init_53 (by decide) ?_
  refine y_ini (n := 7) (ty := .int) (atype := .int) (j0 := 0) (a0 := (515, .inl (fun _ => 0))) (N' := 515) C0 hK hD hS ha6 (by decide) (by decide) (hini rfl) rfl rfl (fun _ h => h) kX4_init_acint rfl (fun _ => rfl) (by decide) (by decide) (by decide) (Nat.le_of_ble_eq_true rfl) (Nat.le_of_ble_eq_true rfl) dX4_init_56 kX4_init_wX4 kX4_init_f28 rfl rfl (by decide +kernel) dX4_init_58 (fun q7 H locs hS => ?_)
  obtain ⟨ad7, ead7⟩ : ∃ z, z = va_up ad6 208 q7 := ⟨_, rfl⟩
  have had7 : ∀ k, k ≠ 208 → ad7 k = ad6 k := fun k h => by rw [ead7, va_up_ne _ _ h]
  have ha7 : ad7 200 = a := (had7 200 (by omega)).trans ha6
  rw [← show ad7 = va_up ad6 (201 + 7) q7 from ead7] at hS
  have hS : x_H G ad7 (z_con G ad7 D 8) H locs := hS
  refine lv_aload_n hx hb dX4_init_61 rfl (lv_at hl 0 rfl) ?_
  refine lv_sipush (v := 515) hx hb dX4_init_62 (by decide) ?_
  refine y_ini (n := 8) (ty := .int) (atype := .int) (j0 := 0) (a0 := (515, .inl (fun _ => 0))) (N' := 515) C0 hK hD hS ha7 (by decide) (by decide) (hini rfl) rfl rfl (fun _ h => h) kX4_init_acint rfl (fun _ => rfl) (by decide) (by decide) (by decide) (Nat.le_of_ble_eq_true rfl) (Nat.le_of_ble_eq_true rfl) dX4_init_65 kX4_init_wX4 kX4_init_f31 rfl rfl (by decide +kernel) dX4_init_67 (fun q8 H locs hS => ?_)
  obtain ⟨ad8, ead8⟩ : ∃ z, z = va_up ad7 209 q8 := ⟨_, rfl⟩
  have had8 : ∀ k, k ≠ 209 → ad8 k = ad7 k := fun k h => by rw [ead8, va_up_ne _ _ h]
  have ha8 : ad8 200 = a := (had8 200 (by omega)).trans ha7
  rw [← show ad8 = va_up ad7 (201 + 8) q8 from ead8] at hS
  have hS : x_H G ad8 (z_con G ad8 D 9) H locs := hS
  refine lv_aload_n hx hb dX4_init_70 rfl (lv_at hl 0 rfl) ?_
  refine lv_sipush (v := 515) hx hb dX4_init_71 (by decide) ?_
  refine y_ini (n := 9) (ty := .int) (atype := .int) (j0 := 0) (a0 := (515, .inl (fun _ => 0))) (N' := 515) C0 hK hD hS ha8 (by decide) (by decide) (hini rfl) rfl rfl (fun _ h => h) kX4_init_acint rfl (fun _ => rfl) (by decide) (by decide) (by decide) (Nat.le_of_ble_eq_true rfl) (Nat.le_of_ble_eq_true rfl) dX4_init_74 kX4_init_wX4 kX4_init_f34 rfl rfl (by decide +kernel) dX4_init_76 (fun q9 H locs hS => ?_)
  obtain ⟨ad9, ead9⟩ : ∃ z, z = va_up ad8 210 q9 := ⟨_, rfl⟩
  have had9 : ∀ k, k ≠ 210 → ad9 k = ad8 k := fun k h => by rw [ead9, va_up_ne _ _ h]
  have ha9 : ad9 200 = a := (had9 200 (by omega)).trans ha8
  rw [← show ad9 = va_up ad8 (201 + 9) q9 from ead9] at hS
  have hS : x_H G ad9 (z_con G ad9 D 10) H locs := hS
  refine lv_aload_n hx hb dX4_init_79 rfl (lv_at hl 0 rfl) ?_
  refine lv_sipush (v := 515) hx hb dX4_init_80 (by decide) ?_
  refine y_ini (n := 10) (ty := .int) (atype := .int) (j0 := 0) (a0 := (515, .inl (fun _ => 0))) (N' := 515) C0 hK hD hS ha9 (by decide) (by decide) (hini rfl) rfl rfl (fun _ h => h) kX4_init_acint rfl (fun _ => rfl) (by decide) (by decide) (by decide) (Nat.le_of_ble_eq_true rfl) (Nat.le_of_ble_eq_true rfl) dX4_init_83 kX4_init_wX4 kX4_init_f37 rfl rfl (by decide +kernel) dX4_init_85 (fun q10 H locs hS => ?_)
  obtain ⟨ad10, ead10⟩ : ∃ z, z = va_up ad9 211 q10 := ⟨_, rfl⟩
  have had10 : ∀ k, k ≠ 211 → ad10 k = ad9 k := fun k h => by rw [ead10, va_up_ne _ _ h]
  have ha10 : ad10 200 = a := (had10 200 (by omega)).trans ha9
  rw [← show ad10 = va_up ad9 (201 + 10) q10 from ead10] at hS
  have hS : x_H G ad10 (z_con G ad10 D 11) H locs := hS
  refine lv_aload_n hx hb dX4_init_88 rfl (lv_at hl 0 rfl) ?_
  refine lv_sipush (v := 515) hx hb dX4_init_89 (by decide) ?_
  refine y_ini (n := 11) (ty := .int) (atype := .int) (j0 := 0) (a0 := (515, .inl (fun _ => 0))) (N' := 515) C0 hK hD hS ha10 (by decide) (by decide) (hini rfl) rfl rfl (fun _ h => h) kX4_init_acint rfl (fun _ => rfl) (by decide) (by decide) (by decide) (Nat.le_of_ble_eq_true rfl) (Nat.le_of_ble_eq_true rfl) dX4_init_92 kX4_init_wX4 kX4_init_f40 rfl rfl (by decide +kernel) dX4_init_94 (fun q11 H locs hS => ?_)
  obtain ⟨ad11, ead11⟩ : ∃ z, z = va_up ad10 212 q11 := ⟨_, rfl⟩
  have had11 : ∀ k, k ≠ 212 → ad11 k = ad10 k := fun k h => by rw [ead11, va_up_ne _ _ h]
  have ha11 : ad11 200 = a := (had11 200 (by omega)).trans ha10
  rw [← show ad11 = va_up ad10 (201 + 11) q11 from ead11] at hS
  have hS : x_H G ad11 (z_con G ad11 D 12) H locs := hS
  refine lv_aload_n hx hb dX4_init_97 rfl (lv_at hl 0 rfl) ?_
  refine lv_sipush (v := 515) hx hb dX4_init_98 (by decide) ?_
  refine y_ini (n := 12) (ty := .int) (atype := .int) (j0 := 0) (a0 := (515, .inl (fun _ => 0))) (N' := 515) C0 hK hD hS ha11 (by decide) (by decide) (hini rfl) rfl rfl (fun _ h => h) kX4_init_acint rfl (fun _ => rfl) (by decide) (by decide) (by decide) (Nat.le_of_ble_eq_true rfl) (Nat.le_of_ble_eq_true rfl) dX4_init_101 kX4_init_wX4 kX4_init_f43 rfl rfl (by decide +kernel) dX4_init_103 (fun q12 H locs hS => ?_)
  obtain ⟨ad12, ead12⟩ : ∃ z, z = va_up ad11 213 q12 := ⟨_, rfl⟩
  have had12 : ∀ k, k ≠ 213 → ad12 k = ad11 k := fun k h => by rw [ead12, va_up_ne _ _ h]
  have ha12 : ad12 200 = a := (had12 200 (by omega)).trans ha11
  rw [← show ad12 = va_up ad11 (201 + 12) q12 from ead12] at hS
  have hS : x_H G ad12 (z_con G ad12 D 13) H locs := hS
  refine lv_aload_n hx hb dX4_init_106 rfl (lv_at hl 0 rfl) ?_
  refine lv_sipush (v := 515) hx hb dX4_init_107 (by decide) ?_
  refine y_ini (n := 13) (ty := .int) (atype := .int) (j0 := 0) (a0 := (515, .inl (fun _ => 0))) (N' := 515) C0 hK hD hS ha12 (by decide) (by decide) (hini rfl) rfl rfl (fun _ h => h) kX4_init_acint rfl (fun _ => rfl) (by decide) (by decide) (by decide) (Nat.le_of_ble_eq_true rfl) (Nat.le_of_ble_eq_true rfl) dX4_init_110 kX4_init_wX4 kX4_init_f46 rfl rfl (by decide +kernel) dX4_init_112 (fun q13 H locs hS => ?_)
  obtain ⟨ad13, ead13⟩ : ∃ z, z = va_up ad12 214 q13 := ⟨_, rfl⟩
  have had13 : ∀ k, k ≠ 214 → ad13 k = ad12 k := fun k h => by rw [ead13, va_up_ne _ _ h]
  have ha13 : ad13 200 = a := (had13 200 (by omega)).trans ha12
  rw [← show ad13 = va_up ad12 (201 + 13) q13 from ead13] at hS
  have hS : x_H G ad13 (z_con G ad13 D 14) H locs := hS
  refine lv_aload_n hx hb dX4_init_115 rfl (lv_at hl 0 rfl) ?_
  refine lv_sipush (v := 515) hx hb dX4_init_116 (by decide) ?_
  refine y_ini (n := 14) (ty := .int) (atype := .int) (j0 := 0) (a0 := (515, .inl (fun _ => 0))) (N' := 515) C0 hK hD hS ha13 (by decide) (by decide) (hini rfl) rfl rfl (fun _ h => h) kX4_init_acint rfl (fun _ => rfl) (by decide) (by decide) (by decide) (Nat.le_of_ble_eq_true rfl) (Nat.le_of_ble_eq_true rfl) dX4_init_119 kX4_init_wX4 kX4_init_f49 rfl rfl (by decide +kernel) dX4_init_121 (fun q14 H locs hS => ?_)
  obtain ⟨ad14, ead14⟩ : ∃ z, z = va_up ad13 215 q14 := ⟨_, rfl⟩
  have had14 : ∀ k, k ≠ 215 → ad14 k = ad13 k := fun k h => by rw [ead14, va_up_ne _ _ h]
  have ha14 : ad14 200 = a := (had14 200 (by omega)).trans ha13
  rw [← show ad14 = va_up ad13 (201 + 14) q14 from ead14] at hS
  have hS : x_H G ad14 (z_con G ad14 D 15) H locs := hS
  refine lv_aload_n hx hb dX4_init_124 rfl (lv_at hl 0 rfl) ?_
  refine lv_sipush (v := 4120) hx hb dX4_init_125 (by decide) ?_
  refine y_ini (n := 15) (ty := .short) (atype := .short) (j0 := 3) (a0 := (4120, .inl (fun _ => 0))) (N' := 4120) C0 hK hD hS ha14 (by decide) (by decide) (hini rfl) rfl rfl (fun _ h => h) kX4_init_acshort rfl (fun _ => rfl) (by decide) (by decide) (by decide) (Nat.le_of_ble_eq_true rfl) (Nat.le_of_ble_eq_true rfl) dX4_init_128 kX4_init_wX4 kX4_init_f52 rfl rfl (by decide +kernel) dX4_init_130 (fun q15 H locs hS => ?_)
  obtain ⟨ad15, ead15⟩ : ∃ z, z = va_up ad14 216 q15 := ⟨_, rfl⟩
  have had15 : ∀ k, k ≠ 216 → ad15 k = ad14 k := fun k h => by rw [ead15, va_up_ne _ _ h]
  have ha15 : ad15 200 = a := (had15 200 (by omega)).trans ha14
  rw [← show ad15 = va_up ad14 (201 + 15) q15 from ead15] at hS
  have hS : x_H G ad15 (z_con G ad15 D 16) H locs := hS
  refine lv_aload_n hx hb dX4_init_133 rfl (lv_at hl 0 rfl) ?_
  refine lv_bipush (v := 8) hx hb dX4_init_134 (by decide) ?_
  refine y_ini (n := 16) (ty := .int) (atype := .int) (j0 := 0) (a0 := (8, .inl (fun _ => 0))) (N' := 8) C0 hK hD hS ha15 (by decide) (by decide) (hini rfl) rfl rfl (fun _ h => h) kX4_init_acint rfl (fun _ => rfl) (by decide) (by decide) (by decide) (Nat.le_of_ble_eq_true rfl) (Nat.le_of_ble_eq_true rfl) dX4_init_136 kX4_init_wX4 kX4_init_f56 rfl rfl (by decide +kernel) dX4_init_138 (fun q16 H locs hS => ?_)
  obtain ⟨ad16, ead16⟩ : ∃ z, z = va_up ad15 217 q16 := ⟨_, rfl⟩
  have had16 : ∀ k, k ≠ 217 → ad16 k = ad15 k := fun k h => by rw [ead16, va_up_ne _ _ h]
  have ha16 : ad16 200 = a := (had16 200 (by omega)).trans ha15
  rw [← show ad16 = va_up ad15 (201 + 16) q16 from ead16] at hS
  have hS : x_H G ad16 (z_con G ad16 D 18) H locs := by rw [← z_con_skip (n := 17) (by decide)]; exact hS
  refine lv_aload_n hx hb dX4_init_141 rfl (lv_at hl 0 rfl) ?_
  refine lv_sipush (v := 515) hx hb dX4_init_142 (by decide) ?_
  refine y_ini (n := 18) (ty := .long) (atype := .long) (j0 := 1) (a0 := (515, .inr (.inl (fun _ => 0)))) (N' := 515) C0 hK hD hS ha16 (by decide) (by decide) (hini rfl) rfl rfl (fun _ h => h) kX4_init_aclong rfl (fun _ => rfl) (by decide) (by decide) (by decide) (Nat.le_of_ble_eq_true rfl) (Nat.le_of_ble_eq_true rfl) dX4_init_145 kX4_init_wX4 kX4_init_f59 rfl rfl (by decide +kernel) dX4_init_147 (fun q18 H locs hS => ?_)
  obtain ⟨ad17, ead17⟩ : ∃ z, z = va_up ad16 219 q18 := ⟨_, rfl⟩
  have had17 : ∀ k, k ≠ 219 → ad17 k = ad16 k := fun k h => by rw [ead17, va_up_ne _ _ h]
  have ha17 : ad17 200 = a := (had17 200 (by omega)).trans ha16
  rw [← show ad17 = va_up ad16 (201 + 18) q18 from ead17] at hS
  have hS : x_H G ad17 (z_con G ad17 D 19) H locs := hS
  refine lv_aload_n hx hb dX4_init_150 rfl (lv_at hl 0 rfl) ?_
  refine lv_sipush (v := 515) hx hb dX4_init_151 (by decide) ?_
  refine y_ini (n := 19) (ty := .int) (atype := .int) (j0 := 0) (a0 := (515, .inl (fun _ => 0))) (N' := 515) C0 hK hD hS ha17 (by decide) (by decide) (hini rfl) rfl rfl (fun _ h => h) kX4_init_acint rfl (fun _ => rfl) (by decide) (by decide) (by decide) (Nat.le_of_ble_eq_true rfl) (Nat.le_of_ble_eq_true rfl) dX4_init_154 kX4_init_wX4 kX4_init_f63 rfl rfl (by decide +kernel) dX4_init_156 (fun q19 H locs hS => ?_)
  obtain ⟨ad18, ead18⟩ : ∃ z, z = va_up ad17 220 q19 := ⟨_, rfl⟩
  have had18 : ∀ k, k ≠ 220 → ad18 k = ad17 k := fun k h => by rw [ead18, va_up_ne _ _ h]
  have ha18 : ad18 200 = a := (had18 200 (by omega)).trans ha17
  rw [← show ad18 = va_up ad17 (201 + 19) q19 from ead18] at hS
  have hS : x_H G ad18 (z_con G ad18 D 20) H locs := hS
  refine lv_aload_n hx hb dX4_init_159 rfl (lv_at hl 0 rfl) ?_
  refine lv_sipush (v := 515) hx hb dX4_init_160 (by decide) ?_
  refine y_ini (n := 20) (ty := .int) (atype := .int) (j0 := 0) (a0 := (515, .inl (fun _ => 0))) (N' := 515) C0 hK hD hS ha18 (by decide) (by decide) (hini rfl) rfl rfl (fun _ h => h) kX4_init_acint rfl (fun _ => rfl) (by decide) (by decide) (by decide) (Nat.le_of_ble_eq_true rfl) (Nat.le_of_ble_eq_true rfl) dX4_init_163 kX4_init_wX4 kX4_init_f66 rfl rfl (by decide +kernel) dX4_init_165 (fun q20 H locs hS => ?_)
  obtain ⟨ad19, ead19⟩ : ∃ z, z = va_up ad18 221 q20 := ⟨_, rfl⟩
  have had19 : ∀ k, k ≠ 221 → ad19 k = ad18 k := fun k h => by rw [ead19, va_up_ne _ _ h]
  have ha19 : ad19 200 = a := (had19 200 (by omega)).trans ha18
  rw [← show ad19 = va_up ad18 (201 + 20) q20 from ead19] at hS
  have hS : x_H G ad19 (z_con G ad19 D 21) H locs := hS
  refine lv_aload_n hx hb dX4_init_168 rfl (lv_at hl 0 rfl) ?_
  refine lv_sipush (v := 515) hx hb dX4_init_169 (by decide) ?_
  refine y_ini (n := 21) (ty := .int) (atype := .int) (j0 := 0) (a0 := (515, .inl (fun _ => 0))) (N' := 515) C0 hK hD hS ha19 (by decide) (by decide) (hini rfl) rfl rfl (fun _ h => h) kX4_init_acint rfl (fun _ => rfl) (by decide) (by decide) (by decide) (Nat.le_of_ble_eq_true rfl) (Nat.le_of_ble_eq_true rfl) dX4_init_172 kX4_init_wX4 kX4_init_f69 rfl rfl (by decide +kernel) dX4_init_174 (fun q21 H locs hS => ?_)
  obtain ⟨ad20, ead20⟩ : ∃ z, z = va_up ad19 222 q21 := ⟨_, rfl⟩
  have had20 : ∀ k, k ≠ 222 → ad20 k = ad19 k := fun k h => by rw [ead20, va_up_ne _ _ h]
  have ha20 : ad20 200 = a := (had20 200 (by omega)).trans ha19
  rw [← show ad20 = va_up ad19 (201 + 21) q21 from ead20] at hS
  have hS : x_H G ad20 (z_con G ad20 D 22) H locs := hS
  refine lv_iconst (v := 0) hx hb dX4_init_177 (by decide) ?_
  refine lv_istore_n (lv' := [(1, .int 0), (0, .ref a)]) hx hb dX4_init_178 rfl hl (by decide) rfl (fun ls hl => ?_)
  have hall : ∀ k, k < 201 ∨ 223 ≤ k → ad20 k = ad k := fun k hk => by rw [had20 k (by omega), had19 k (by omega), had18 k (by omega), had17 k (by omega), had16 k (by omega), had15 k (by omega), had14 k (by omega), had13 k (by omega), had12 k (by omega), had11 k (by omega), had10 k (by omega), had9 k (by omega), had8 k (by omega), had7 k (by omega), had6 k (by omega), had5 k (by omega), had4 k (by omega), had3 k (by omega), had2 k (by omega), had1 k (by omega)]
  rw [z_con_all hD, ← i_M_0] at hS
  rw [← ha20] at hl
  refine W.widen (k := 20) (n := 10999) (by omega) (by omega) ?_
  exact l_X4_init C0 hK ⟨rfl, hall, rfl⟩ 61 0 _ _ _ (by omega) (by omega) rfl hS ls (lv_sub hl [1, 0] rfl)
