-- ===== the law: both worlds beside each other =====
abbrev aR : Type := Nat → Nat → Int32
abbrev aN : Type := Nat → Int64
abbrev aB : Type := Nat → Bool
abbrev aS : Type := aR → aN → aB → aR → aB → aR → aR → aN → Prop
def w_con (G : x_G) (ad : Nat → Nat) (R : aR) (N : aN) (tl : aB) (T : aR) (pl : aB) (P : aR) (M : aR) (V : aN) : Nat → Option va_E := x_con G ad R N tl T pl P (x_mcon G ad M V)
def w_D (G : x_G) (ad : Nat → Nat) (R : aR) (N : aN) (tl : aB) (T : aR) (pl : aB) (P : aR) : Nat → Option va_E := x_con G ad R N tl T pl P (fun _ => none)
theorem w_y {G : x_G} {ad : Nat → Nat} {R : aR} {N : aN} {tl : aB} {T : aR} {pl : aB} {P : aR} {M : aR} {V : aN} : w_con G ad R N tl T pl P M V = y_con G ad (w_D G ad R N tl T pl P) M V := by
  funext k
  unfold w_con w_D y_con
  by_cases h : 200 ≤ k
  · rw [if_pos h]
    simp only [x_con]
    rw [if_neg (by omega), if_neg (by omega), if_neg (by omega), if_neg (by omega)]
  · rw [if_neg h]
    by_cases h2 : k < 136
    · simp only [x_con]
      by_cases h3 : k < 8
      · rw [if_pos h3, if_pos h3]
      · rw [if_neg h3, if_neg h3]
        by_cases h4 : k < 16
        · rw [if_pos h4, if_pos h4]
        · rw [if_neg h4, if_neg h4]
          by_cases h5 : k < 76
          · rw [if_pos h5, if_pos h5]
          · rw [if_neg h5, if_neg h5, if_pos h2, if_pos h2]
    · simp only [x_con]
      rw [if_neg (by omega), if_neg (by omega), if_neg (by omega), if_neg (by omega), if_neg (by omega), if_neg (by omega), if_neg (by omega), if_neg (by omega)]
      simp only [x_mcon]
      rw [if_neg (by omega), if_neg (by omega), if_neg (by omega), if_neg (by omega), if_neg (by omega)]
theorem w_mad {G : x_G} {ad ad1 : Nat → Nat} {M : aR} {V : aN} (h : ∀ k, 136 ≤ k → ad1 k = ad k) : x_mcon G ad M V = x_mcon G ad1 M V := by
  funext k
  simp only [x_mcon, x_mo]
  rw [h 201 (by omega), h 202 (by omega), h 203 (by omega), h 204 (by omega), h 205 (by omega), h 206 (by omega), h 208 (by omega), h 209 (by omega), h 210 (by omega), h 211 (by omega), h 212 (by omega), h 213 (by omega), h 214 (by omega), h 215 (by omega), h 216 (by omega), h 217 (by omega), h 219 (by omega), h 220 (by omega), h 221 (by omega), h 222 (by omega)]
theorem w_toy {G : x_G} {ad : Nat → Nat} {R : aR} {N : aN} {tl : aB} {T : aR} {pl : aB} {P : aR} {M : aR} {V : aN} {H : Heap} {locs : List Loc} (h : x_H G ad (x_con G ad R N tl T pl P (x_mcon G ad M V)) H locs) : x_H G ad (y_con G ad (w_D G ad R N tl T pl P) M V) H locs := by
  rw [← w_y]; exact h
theorem w_ofy {G : x_G} {ad : Nat → Nat} {R : aR} {N : aN} {tl : aB} {T : aR} {pl : aB} {P : aR} {M : aR} {V : aN} {H : Heap} {locs : List Loc} (h : x_H G ad (y_con G ad (w_D G ad R N tl T pl P) M V) H locs) : x_H G ad (w_con G ad R N tl T pl P M V) H locs := by
  rw [w_y]; exact h
def y_mn (M : aR) : Nat := (M 6 0).toNatClampNeg
def y_sn (M : aR) : Nat := (M 17 0).toNatClampNeg
/-- what both worlds keep that the contracts ask -/
def Bas (k : Nat) (R : aR) (tl : aB) (T : aR) (pl : aB) (P : aR) (M : aR) : Prop := (D_ok tl pl P ∧ h_ok R ∧ T_ok tl T ∧ P_ok pl P) ∧ (M 6 0 = nI (y_mn M) ∧ y_mn M ≤ k) ∧ (M 17 0 = nI (y_sn M) ∧ y_sn M ≤ k) ∧ (H_ok M ∧ B_ok M ∧ Pl_ok M (y_mn M) ∧ S_ok M ∧ Tp_ok M (y_mn M)) ∧ F_ok M ∧ Fi_ok M ∧ Ty_ok M ∧ C_ok M ∧ Sl_ok M
def lw_lg (a b : Int32) : Int64 := (a.toInt64 <<< ((32 : Int32).toInt64 &&& 63)) ||| (b.toInt64 &&& 4294967295)
section LWB
variable {p : Program} {l : Launch} {e : Env} {Rm : Room} {s : State} {m : MethodId} {args : Array Value} {below : List Frame} {meth : Method} {c : Code} {H : Heap} {locs : List Loc} {cells slots : Nat} {Q : State → Prop} {cc : ByteArray} {pc nL : Nat} {ret0 : Option FieldType} {own : String} {Ts : List Cond} {ls : Array Slot} {rest : List Value} {G : x_G} {ad : Nat → Nat} {con : Nat → Option va_E}
theorem lw_ld (C0 : x_B p s m meth c args cc nL ret0 own Ts) {b L i : Nat} {xs : Nat → Int32} (hX : va_X b L xs s G.2.1) (hbl : b < G.2.1.size) (hS : x_H G ad con H locs) (hi : i + 4 < L) (hL : L ≤ 2560) (j : Nat) (hj : j ≤ 4) {ix : Int32} (hix : ix = nI (i + j)) (hdg : decode cc pc = .ok (.iaload, 1))
    (kk : W p l e Rm s m args below meth c H locs cells slots Q (F0 m (pc + 1) ls (.int (xs (i + j)) :: rest))) : W p l e Rm s m args below meth c H locs cells slots Q (F0 m pc ls (.int ix :: .ref b :: rest)) := by
  refine va_sld C0.1 C0.2.1 hX hbl (Nat.not_le.mpr hbl) hS.2.2 (by rw [hix]; exact vp_in_nI (by omega) (by omega)) hdg ?_
  rw [hix, nI_clamp (by omega)]
  exact kk
theorem lw_len (C0 : x_B p s m meth c args cc nL ret0 own Ts) {b L : Nat} {xs : Nat → Int32} (hX : va_X b L xs s G.2.1) (hbl : b < G.2.1.size) (hS : x_H G ad con H locs) (hdg : decode cc pc = .ok (.arraylength, 1))
    (kk : W p l e Rm s m args below meth c H locs cells slots Q (F0 m (pc + 1) ls (.int (nI L) :: rest))) : W p l e Rm s m args below meth c H locs cells slots Q (F0 m pc ls (.ref b :: rest)) := va_slen C0.1 C0.2.1 hX hbl (Nat.not_le.mpr hbl) hS.2.2 hdg kk
end LWB
theorem nI_a (i : Nat) : nI i + 1 = nI (i + 1) ∧ nI i + 2 = nI (i + 2) ∧ nI i + 3 = nI (i + 3) ∧ nI i + 4 = nI (i + 4) ∧ nI i + 5 = nI (i + 5) := ⟨(Int32.ofNat_add i 1).symm, (Int32.ofNat_add i 2).symm, (Int32.ofNat_add i 3).symm, (Int32.ofNat_add i 4).symm, (Int32.ofNat_add i 5).symm⟩
theorem sw_15 (x : Int32) : ∃ n, n < 16 ∧ x &&& 15 = nI n := by
  refine ⟨(x &&& 15).toBitVec.toNat, ?_, ?_⟩
  · rw [Int32.toBitVec_and, BitVec.toNat_and]
    exact Nat.lt_of_le_of_lt Nat.and_le_right (by decide)
  · show x &&& 15 = Int32.ofNat _
    apply Int32.toBitVec_inj.mp
    rw [Int32.toBitVec_ofNat']
    apply BitVec.eq_of_toNat_eq
    rw [BitVec.toNat_ofNat, Nat.mod_eq_of_lt (BitVec.isLt _)]
theorem lg_cmp_self (x : Int64) : lg_cmp x x = 0 := by
  unfold lg_cmp
  rw [if_neg (by simp), if_pos rfl]
