-- ===== what the system holds: the desk at tags 0 .. 135, the reference at tags 200 .. 222 =====
-- a page: P 0 its table, P 1 following, P 2 slots, P 3 versions, P 4 packedFrom, P (5 + i) byte i
def x_pgE (P : Nat → Int32) (a : Nat) : va_E := .inr (0, [.int (P 0), .int (P 1), .int (P 2), .int (P 3), .int (P 4), .ref a])
def x_byE (G : x_G) (P : Nat → Int32) : va_E := .inl (G.2.2 2, 496, .inl (fun i => P (5 + i)))
def x_tbE (T : Nat → Int32) : va_E := .inr (2, [.int (T 0), .int (T 1), .int (T 2)])
-- the hand: R 0 the kinds, R 1 the lengths, R 2 the letters, N the numbers
def x_c0 (G : x_G) (ad : Nat → Nat) (R : Nat → Nat → Int32) (N : Nat → Int64) (tl pl : Nat → Bool) : Nat → va_E := fun k => match k with
  | 0 => .inr (3, [.ref (ad 1), .ref (ad 2), .ref (ad 3)])
  | 1 => .inr (1, [.ref (ad 4), .ref (ad 5), .ref (ad 6), .ref (ad 7)])
  | 2 => .inl (G.2.2 4, 8, .inr (.inr (.inr (.inr (fun i => if tl i then some (ad (8 + i)) else none)))))
  | 3 => .inl (G.2.2 5, 60, .inr (.inr (.inr (.inr (fun i => if pl i then some (ad (16 + i)) else none)))))
  | 4 => .inl (G.2.2 0, 8, .inl (R 0))
  | 5 => .inl (G.2.2 1, 8, .inr (.inl N))
  | 6 => .inl (G.2.2 0, 8, .inl (R 1))
  | _ => .inl (G.2.2 2, 248, .inl (R 2))
-- the reference: M j the array of its field j; M 6 0 many, M 17 0 steps; V the longs given
def x_mlen (j : Nat) : Nat := if j = 0 ∨ j = 2 ∨ j = 16 then 8 else if j = 1 then 64 else if j = 3 ∨ j = 4 ∨ j = 5 then 60 else 515
def x_mo (ad : Nat → Nat) (M : Nat → Nat → Int32) : va_E := .inr (4, [.ref (ad 201), .ref (ad 202), .ref (ad 203), .ref (ad 204), .ref (ad 205), .ref (ad 206), .int (M 6 0), .ref (ad 208), .ref (ad 209), .ref (ad 210), .ref (ad 211), .ref (ad 212), .ref (ad 213), .ref (ad 214), .ref (ad 215), .ref (ad 216), .ref (ad 217), .int (M 17 0), .ref (ad 219), .ref (ad 220), .ref (ad 221), .ref (ad 222)])
def x_mcon (G : x_G) (ad : Nat → Nat) (M : Nat → Nat → Int32) (V : Nat → Int64) : Nat → Option va_E := fun k =>
  if k = 200 then some (x_mo ad M) else if k = 207 ∨ k = 218 then none else if k = 216 then some (.inl (G.2.2 3, 4120, .inl (M 15))) else if k = 219 then some (.inl (G.2.2 1, 515, .inr (.inl V))) else if 201 ≤ k ∧ k < 223 then some (.inl (G.2.2 0, x_mlen (k - 201), .inl (M (k - 201)))) else none
def x_con (G : x_G) (ad : Nat → Nat) (R : Nat → Nat → Int32) (N : Nat → Int64) (tl : Nat → Bool) (T : Nat → Nat → Int32) (pl : Nat → Bool) (P : Nat → Nat → Int32) (X : Nat → Option va_E) : Nat → Option va_E := fun k =>
  if k < 8 then some (x_c0 G ad R N tl pl k) else if k < 16 then (if tl (k - 8) then some (x_tbE (T (k - 8))) else none) else if k < 76 then (if pl (k - 16) then some (x_pgE (P (k - 16)) (ad (k + 60))) else none) else if k < 136 then (if pl (k - 76) then some (x_byE G (P (k - 76))) else none) else X k
section XT
variable {G : x_G} {ad : Nat → Nat} {R : Nat → Nat → Int32} {N : Nat → Int64} {tl : Nat → Bool} {T : Nat → Nat → Int32} {pl : Nat → Bool} {P : Nat → Nat → Int32} {X : Nat → Option va_E} {M : Nat → Nat → Int32} {V : Nat → Int64}
theorem x_con_0 {k : Nat} (hk : k < 8) : x_con G ad R N tl T pl P X k = some (x_c0 G ad R N tl pl k) := by simp only [x_con]; rw [if_pos hk]
theorem x_con_t {i : Nat} (hi : i < 8) (h : tl i = true) : x_con G ad R N tl T pl P X (8 + i) = some (x_tbE (T i)) := by
  simp only [x_con]
  rw [if_neg (by omega), if_pos (by omega), show 8 + i - 8 = i by omega, if_pos h]
theorem x_con_p {p : Nat} (hp : p < 60) (h : pl p = true) : x_con G ad R N tl T pl P X (16 + p) = some (x_pgE (P p) (ad (76 + p))) := by
  simp only [x_con]
  rw [if_neg (by omega), if_neg (by omega), if_pos (by omega), show 16 + p - 16 = p by omega, if_pos h, show 16 + p + 60 = 76 + p by omega]
theorem x_con_b {p : Nat} (hp : p < 60) (h : pl p = true) : x_con G ad R N tl T pl P X (76 + p) = some (x_byE G (P p)) := by
  simp only [x_con]
  rw [if_neg (by omega), if_neg (by omega), if_neg (by omega), if_pos (by omega), show 76 + p - 76 = p by omega, if_pos h]
theorem x_con_x {k : Nat} (hk : 136 ≤ k) : x_con G ad R N tl T pl P X k = X k := by
  simp only [x_con]
  rw [if_neg (by omega), if_neg (by omega), if_neg (by omega), if_neg (by omega)]
-- a page's field is set
theorem x_con_pset {p j : Nat} {v : Int32} (hp : p < 60) (h : pl p = true) (hj : j < 5) : x_up (x_con G ad R N tl T pl P X) (16 + p) (x_pgE (upd (P p) j v) (ad (76 + p))) = x_con G ad R N tl T pl (va_up P p (upd (P p) j v)) X := by
  funext k
  by_cases h1 : k = 16 + p
  · subst h1
    rw [x_up_s, x_con_p hp h, va_up_self]
  · rw [x_up_n h1]
    simp only [x_con]
    by_cases h2 : k < 8
    · rw [if_pos h2, if_pos h2]
    · rw [if_neg h2, if_neg h2]
      by_cases h3 : k < 16
      · rw [if_pos h3, if_pos h3]
      · rw [if_neg h3, if_neg h3]
        by_cases h4 : k < 76
        · rw [if_pos h4, if_pos h4, va_up_ne _ _ (show k - 16 ≠ p by omega)]
        · rw [if_neg h4, if_neg h4]
          by_cases h5 : k < 136
          · rw [if_pos h5, if_pos h5]
            by_cases h6 : k - 76 = p
            · rw [h6, va_up_self]
              have : x_byE G (upd (P p) j v) = x_byE G (P p) := by
                simp only [x_byE]
                congr 4
                funext i
                exact pk_un (by omega)
              rw [this]
            · rw [va_up_ne _ _ h6]
          · rw [if_neg h5, if_neg h5]
-- a page's bytes are set
theorem x_con_bset {p : Nat} {Z : Nat → Int32} (hp : p < 60) (h : pl p = true) (hZ : ∀ j, j < 5 → Z j = P p j) : x_up (x_con G ad R N tl T pl P X) (76 + p) (x_byE G Z) = x_con G ad R N tl T pl (va_up P p Z) X := by
  funext k
  by_cases h1 : k = 76 + p
  · subst h1
    rw [x_up_s, x_con_b hp h, va_up_self]
  · rw [x_up_n h1]
    simp only [x_con]
    by_cases h2 : k < 8
    · rw [if_pos h2, if_pos h2]
    · rw [if_neg h2, if_neg h2]
      by_cases h3 : k < 16
      · rw [if_pos h3, if_pos h3]
      · rw [if_neg h3, if_neg h3]
        by_cases h4 : k < 76
        · rw [if_pos h4, if_pos h4]
          by_cases h6 : k - 16 = p
          · rw [h6, va_up_self]
            have : ∀ a, x_pgE Z a = x_pgE (P p) a := by
              intro a
              simp only [x_pgE]
              rw [hZ 0 (by omega), hZ 1 (by omega), hZ 2 (by omega), hZ 3 (by omega), hZ 4 (by omega)]
            rw [this]
          · rw [va_up_ne _ _ h6]
        · rw [if_neg h4, if_neg h4]
          by_cases h5 : k < 136
          · rw [if_pos h5, if_pos h5, va_up_ne _ _ (show k - 76 ≠ p by omega)]
          · rw [if_neg h5, if_neg h5]
-- the hand's cells are set
theorem x_con_c0 {R' : Nat → Nat → Int32} {N' : Nat → Int64} {k0 : Nat} {E : va_E} (h0 : k0 < 8) (hE : x_c0 G ad R' N' tl pl k0 = E) (ho : ∀ k, k < 8 → k ≠ k0 → x_c0 G ad R' N' tl pl k = x_c0 G ad R N tl pl k) : x_up (x_con G ad R N tl T pl P X) k0 E = x_con G ad R' N' tl T pl P X := by
  funext k
  by_cases h1 : k = k0
  · subst h1
    rw [x_up_s, x_con_0 h0, hE]
  · rw [x_up_n h1]
    simp only [x_con]
    by_cases h2 : k < 8
    · rw [if_pos h2, if_pos h2, ho k h2 h1]
    · rw [if_neg h2, if_neg h2]
theorem x_con_kset {Z : Nat → Int32} : x_up (x_con G ad R N tl T pl P X) 4 (.inl (G.2.2 0, 8, .inl Z)) = x_con G ad (va_up R 0 Z) N tl T pl P X := by
  refine x_con_c0 (by omega) rfl (fun k h1 h2 => ?_)
  rcases (show k = 0 ∨ k = 1 ∨ k = 2 ∨ k = 3 ∨ k = 5 ∨ k = 6 ∨ k = 7 by omega) with rfl | rfl | rfl | rfl | rfl | rfl | rfl <;> rfl
theorem x_con_nset {Z : Nat → Int64} : x_up (x_con G ad R N tl T pl P X) 5 (.inl (G.2.2 1, 8, .inr (.inl Z))) = x_con G ad R Z tl T pl P X := by
  refine x_con_c0 (by omega) rfl (fun k h1 h2 => ?_)
  rcases (show k = 0 ∨ k = 1 ∨ k = 2 ∨ k = 3 ∨ k = 4 ∨ k = 6 ∨ k = 7 by omega) with rfl | rfl | rfl | rfl | rfl | rfl | rfl <;> rfl
theorem x_con_lset {Z : Nat → Int32} : x_up (x_con G ad R N tl T pl P X) 6 (.inl (G.2.2 0, 8, .inl Z)) = x_con G ad (va_up R 1 Z) N tl T pl P X := by
  refine x_con_c0 (by omega) rfl (fun k h1 h2 => ?_)
  rcases (show k = 0 ∨ k = 1 ∨ k = 2 ∨ k = 3 ∨ k = 4 ∨ k = 5 ∨ k = 7 by omega) with rfl | rfl | rfl | rfl | rfl | rfl | rfl <;> rfl
theorem x_con_cset {Z : Nat → Int32} : x_up (x_con G ad R N tl T pl P X) 7 (.inl (G.2.2 2, 248, .inl Z)) = x_con G ad (va_up R 2 Z) N tl T pl P X := by
  refine x_con_c0 (by omega) rfl (fun k h1 h2 => ?_)
  rcases (show k = 0 ∨ k = 1 ∨ k = 2 ∨ k = 3 ∨ k = 4 ∨ k = 5 ∨ k = 6 by omega) with rfl | rfl | rfl | rfl | rfl | rfl | rfl <;> rfl
-- the reference's cells
theorem x_mcon_a {j : Nat} (hj : j < 22) (h : j ≠ 6 ∧ j ≠ 15 ∧ j ≠ 17 ∧ j ≠ 18) : x_mcon G ad M V (201 + j) = some (.inl (G.2.2 0, x_mlen j, .inl (M j))) := by
  simp only [x_mcon]
  rw [if_neg (by omega), if_neg (by omega), if_neg (by omega), if_neg (by omega), if_pos (by omega), show 201 + j - 201 = j by omega]
theorem x_mcon_o : x_mcon G ad M V 200 = some (x_mo ad M) := rfl
theorem x_mcon_s : x_mcon G ad M V 216 = some (.inl (G.2.2 3, 4120, .inl (M 15))) := rfl
theorem x_mcon_g : x_mcon G ad M V 219 = some (.inl (G.2.2 1, 515, .inr (.inl V))) := rfl
theorem x_mcon_aset {j : Nat} {Z : Nat → Int32} (hj : j < 22) (h : j ≠ 6 ∧ j ≠ 15 ∧ j ≠ 17 ∧ j ≠ 18) : x_up (x_mcon G ad M V) (201 + j) (.inl (G.2.2 0, x_mlen j, .inl Z)) = x_mcon G ad (va_up M j Z) V := by
  funext k
  by_cases h1 : k = 201 + j
  · subst h1
    rw [x_up_s, x_mcon_a hj h, va_up_self]
  · rw [x_up_n h1]
    simp only [x_mcon, x_mo]
    rw [va_up_ne _ _ (show 6 ≠ j by omega), va_up_ne _ _ (show 17 ≠ j by omega), va_up_ne _ _ (show 15 ≠ j by omega)]
    by_cases h5 : 201 ≤ k ∧ k < 223
    · rw [va_up_ne _ _ (show k - 201 ≠ j by omega)]
    · rw [if_neg h5, if_neg h5]
theorem x_mcon_sset {Z : Nat → Int32} : x_up (x_mcon G ad M V) 216 (.inl (G.2.2 3, 4120, .inl Z)) = x_mcon G ad (va_up M 15 Z) V := by
  funext k
  by_cases h1 : k = 216
  · subst h1
    rw [x_up_s]; rfl
  · rw [x_up_n h1]
    simp only [x_mcon, x_mo]
    rw [va_up_ne _ _ (show 6 ≠ 15 by omega), va_up_ne _ _ (show 17 ≠ 15 by omega), if_neg h1, if_neg h1]
    by_cases h5 : 201 ≤ k ∧ k < 223
    · rw [va_up_ne _ _ (show k - 201 ≠ 15 by omega)]
    · rw [if_neg h5, if_neg h5]
theorem x_mcon_gset {Z : Nat → Int64} : x_up (x_mcon G ad M V) 219 (.inl (G.2.2 1, 515, .inr (.inl Z))) = x_mcon G ad M Z := by
  funext k
  by_cases h1 : k = 219
  · subst h1
    rw [x_up_s]; rfl
  · rw [x_up_n h1]
    simp only [x_mcon]
    rw [if_neg h1, if_neg h1]
theorem x_mcon_oset {j : Nat} {v : Int32} (hj : j = 6 ∨ j = 17) : x_up (x_mcon G ad M V) 200 (x_mo ad (va_up M j (upd (M j) 0 v))) = x_mcon G ad (va_up M j (upd (M j) 0 v)) V := by
  funext k
  by_cases h1 : k = 200
  · subst h1
    rw [x_up_s]; rfl
  · rw [x_up_n h1]
    simp only [x_mcon]
    rw [if_neg h1, if_neg h1]
    by_cases h2 : k = 207 ∨ k = 218
    · rw [if_pos h2, if_pos h2]
    · rw [if_neg h2, if_neg h2, va_up_ne _ _ (show 15 ≠ j by omega)]
      by_cases h5 : 201 ≤ k ∧ k < 223
      · rw [va_up_ne _ _ (show k - 201 ≠ j by omega)]
      · rw [if_neg h5, if_neg h5]
-- the reference's part of the whole
theorem x_con_xset {k : Nat} {E : va_E} (hk : 136 ≤ k) : x_up (x_con G ad R N tl T pl P X) k E = x_con G ad R N tl T pl P (x_up X k E) := by
  funext q
  by_cases h1 : q = k
  · subst h1
    rw [x_up_s, x_con_x hk, x_up_s]
  · rw [x_up_n h1]
    simp only [x_con]
    rw [x_up_n h1]
end XT
