-- ===== the reference's versions, by their places =====
def vrec (M : aR) (V : aN) (j : Nat) : vR := (fun i => if i < 7 then M (8 + i) j else 0, fun c => if c < 8 then mcell M V (M 15 (8 * j + c)) else none)
def mrec (M : aR) (V : aN) (mn q : Nat) : Option vR := if y_fd M (nI q) mn < 0 then none else some (vrec M V (y_fd M (nI q) mn).toNatClampNeg)
def Inj (M : aR) (mn : Nat) : Prop := ∀ i j, i < mn → j < mn → M 7 i = M 7 j → i = j
theorem fd_none {M : aR} {a : Int32} : ∀ {n : Nat}, (∀ j, j < n → M 7 j ≠ a) → y_fd M a n = -1
  | 0, _ => rfl
  | n + 1, h => by
    show (if M 7 n = a then nI n else y_fd M a n) = -1
    rw [if_neg (h n (by omega))]
    exact fd_none (fun j hj => h j (by omega))
theorem fd_some {M : aR} {a : Int32} {j : Nat} : ∀ {n : Nat}, Inj M n → j < n → M 7 j = a → y_fd M a n = nI j
  | 0, _, h, _ => absurd h (by omega)
  | n + 1, hI, h, e => by
    show (if M 7 n = a then nI n else y_fd M a n) = nI j
    by_cases h1 : M 7 n = a
    · rw [if_pos h1, hI n j (by omega) h (h1.trans e.symm)]
    · rw [if_neg h1]
      have : j ≠ n := fun q => h1 (by rw [← q]; exact e)
      exact fd_some (fun a b ha hb => hI a b (by omega) (by omega)) (by omega) e
theorem mrec_none {M : aR} {V : aN} {mn q : Nat} (h : ∀ j, j < mn → M 7 j ≠ nI q) : mrec M V mn q = none := by
  unfold mrec
  rw [fd_none h, if_pos (by decide)]
theorem mrec_some {M : aR} {V : aN} {mn q j : Nat} (hI : Inj M mn) (hm : mn ≤ 514) (hj : j < mn) (e : M 7 j = nI q) : mrec M V mn q = some (vrec M V j) := by
  unfold mrec
  rw [fd_some hI hj e, if_neg (nI_pos (by omega)), nI_clamp (by omega)]
theorem mrec_of {M : aR} {V : aN} {mn q : Nat} {r : vR} (hm : mn ≤ 514) (h : mrec M V mn q = some r) : ∃ j, j < mn ∧ M 7 j = nI q ∧ r = vrec M V j ∧ y_fd M (nI q) mn = nI j := by
  unfold mrec at h
  rcases y_fd_N M (nI q) mn with e | ⟨k, hk, e, e2⟩
  · rw [e, if_pos (by decide)] at h; cases h
  · rw [e, if_neg (nI_pos (by omega)), nI_clamp (by omega)] at h
    cases h
    exact ⟨k, hk, e2, rfl, e⟩
theorem fd_ne {M : aR} {a : Int32} {j : Nat} (e : M 7 j = a) : ∀ n, n ≤ 515 → j < n → y_fd M a n ≠ -1
  | 0, _, h => absurd h (by omega)
  | n + 1, hn, h => by
    show (if M 7 n = a then nI n else y_fd M a n) ≠ -1
    by_cases h1 : M 7 n = a
    · rw [if_pos h1]
      intro q
      have := nI_pos (n := n) (by omega)
      rw [q] at this
      exact this (by decide)
    · rw [if_neg h1]
      have : j ≠ n := fun w => h1 (by rw [← w]; exact e)
      exact fd_ne e n (by omega) (by omega)
theorem mrec_or (M : aR) (V : aN) {mn : Nat} (q : Nat) (hm : mn ≤ 514) : (mrec M V mn q = none ∧ y_fd M (nI q) mn = -1 ∧ ∀ j, j < mn → M 7 j ≠ nI q) ∨ ∃ j, j < mn ∧ M 7 j = nI q ∧ mrec M V mn q = some (vrec M V j) ∧ y_fd M (nI q) mn = nI j := by
  rcases y_fd_N M (nI q) mn with e | ⟨k, hk, e, e2⟩
  · have h : ∀ j, j < mn → M 7 j ≠ nI q := fun j hj ej => fd_ne ej mn (by omega) hj e
    exact Or.inl ⟨mrec_none h, e, h⟩
  · refine Or.inr ⟨k, hk, e2, ?_, e⟩
    unfold mrec
    rw [e, if_neg (nI_pos (by omega)), nI_clamp (by omega)]
-- what depends on which columns
theorem lw_cg {M M' : aR} (h : M' 19 = M 19) (h1 : M' 20 = M 20) (h2 : M' 21 = M 21) (i : Int32) : ∀ (d s : Nat), y_lw M' i d s = y_lw M i d s
  | 0, _ => rfl
  | d + 1, s => by
    show (if i < M' 21 s - M' 19 s then y_lw M' i d (bs M' s) else s) = (if i < M 21 s - M 19 s then y_lw M i d (bs M s) else s)
    have : bs M' s = bs M s := by unfold bs; rw [h1]
    rw [h, h2, this, lw_cg h h1 h2 i d]
theorem mcell_cg {M M' : aR} {V : aN} (h : M' 19 = M 19) (h1 : M' 20 = M 20) (h2 : M' 21 = M 21) (w : Int32) : mcell M' V w = mcell M V w := by
  have e : ∀ s, mtxt M' V s = mtxt M V s := by
    intro s
    unfold mtxt
    rw [h2]
    refine List.map_congr_left (fun i _ => ?_)
    unfold mtl y_lb
    rw [lw_cg h h1 h2, h2]
  unfold mcell
  rw [h, e]
theorem fd_cg {M M' : aR} (h : M' 7 = M 7) (a : Int32) : ∀ n, y_fd M' a n = y_fd M a n
  | 0 => rfl
  | n + 1 => by
    show (if M' 7 n = a then nI n else y_fd M' a n) = (if M 7 n = a then nI n else y_fd M a n)
    rw [h, fd_cg h a n]
def vsum (f : Nat → Int32) : Nat → Int32
  | 0 => 0
  | k + 1 => vsum f k + f k
theorem vsum_cg {f g : Nat → Int32} : ∀ {n : Nat}, (∀ k, k < n → f k = g k) → vsum f n = vsum g n
  | 0, _ => rfl
  | n + 1, h => by
    show vsum f n + f n = vsum g n + g n
    rw [vsum_cg (fun k hk => h k (by omega)), h n (by omega)]
theorem vsum_up {f : Nat → Int32} {k : Nat} {a : Int32} : ∀ {e : Nat}, k < e → vsum (fun j => if j = k then a else f j) e = vsum f e - f k + a
  | 0, h => absurd h (by omega)
  | e + 1, h => by
    show vsum (fun j => if j = k then a else f j) e + (if e = k then a else f e) = vsum f e + f e - f k + a
    by_cases q : e = k
    · rw [if_pos q, vsum_cg (g := f) (fun j hj => if_neg (by omega)), q]
      grind
    · rw [if_neg q, vsum_up (by omega)]
      grind
theorem vsum_sw {f : Nat → Int32} {k e : Nat} (h : k ≤ e) : vsum (fun j => if j = k then f e else f j) e = vsum f (e + 1) - f k := by
  show _ = vsum f e + f e - f k
  by_cases q : k = e
  · rw [vsum_cg (g := f) (fun j hj => if_neg (by omega)), q]
    grind
  · rw [vsum_up (by omega)]
    grind
theorem vn_sum (M : aR) (p : Int32) : ∀ n, y_vn M p n = vsum (fun k => if M 7 k / 256 = p then 1 else 0) n
  | 0 => rfl
  | n + 1 => by
    show (if M 7 n / 256 = p then y_vn M p n + 1 else y_vn M p n) = vsum _ n + (if M 7 n / 256 = p then 1 else 0)
    rw [vn_sum M p n]
    by_cases h : M 7 n / 256 = p
    · rw [if_pos h, if_pos h]
    · rw [if_neg h, if_neg h, Int32.add_zero]
theorem fr_sum (M : aR) (p : Nat) : ∀ n, y_fr M p n = 496 - 4 * M 4 p - vsum (fun k => if M 7 k / 256 = nI p then M 14 k else 0) n
  | 0 => by
    show 496 - 4 * M 4 p = 496 - 4 * M 4 p - 0
    rw [Int32.sub_zero]
  | n + 1 => by
    show (if M 7 n / 256 = nI p then y_fr M p n - M 14 n else y_fr M p n) = _ - (vsum _ n + (if M 7 n / 256 = nI p then M 14 n else 0))
    rw [fr_sum M p n]
    by_cases h : M 7 n / 256 = nI p
    · rw [if_pos h, if_pos h]
      grind
    · rw [if_neg h, if_neg h]
      grind
theorem nI_dv (q : Nat) (h : q < 2 ^ 31) : nI q / 256 = nI (q / 256) := by
  have : (nI q / 256).toInt = (nI (q / 256)).toInt := by
    rw [Int32.toInt_div_of_ne_right _ _ (by decide), nI_toInt h, nI_toInt (by omega), show (256 : Int32).toInt = 256 from rfl]
    exact (Int.ofNat_tdiv q 256).symm
  exact Int32.toInt_inj.mp this
