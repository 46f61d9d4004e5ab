-- ===== bytes of a page, as numbers =====
abbrev bF : Type := Nat → Nat
def rdb (b : bF) (a : Nat) : Nat → Nat
  | 0 => 0
  | n + 1 => rdb b a n * 256 + b (a + n)
theorem rd_rdb (Z : Nat → Int32) (a : Nat) : ∀ n, rd_N Z a n = rdb (by_N Z) a n
  | 0 => rfl
  | n + 1 => by
    show rd_N Z a n * 256 + by_N Z (a + n) = rdb (by_N Z) a n * 256 + by_N Z (a + n)
    rw [rd_rdb Z a n]
theorem rdb_cg {b b' : bF} {a a' : Nat} : ∀ (n : Nat), (∀ i, i < n → b (a + i) = b' (a' + i)) → rdb b a n = rdb b' a' n
  | 0, _ => rfl
  | n + 1, h => by
    show rdb b a n * 256 + b (a + n) = rdb b' a' n * 256 + b' (a' + n)
    rw [rdb_cg n (fun i hi => h i (by omega)), h n (by omega)]
def bv (v k : Nat) : Nat := v / 256 ^ k % 256
theorem rdb_wr {b : bF} {a n v : Nat} (h : ∀ i, i < n → b (a + i) = bv v (n - 1 - i)) : ∀ k, k ≤ n → rdb b a k = v / 256 ^ (n - k) % 256 ^ k
  | 0, _ => by
    show 0 = v / 256 ^ (n - 0) % 256 ^ 0
    rw [Nat.pow_zero, Nat.mod_one]
  | k + 1, hk => by
    show rdb b a k * 256 + b (a + k) = _
    rw [rdb_wr h k (by omega), h k (by omega)]
    unfold bv
    have e1 : n - k = (n - (k + 1)) + 1 := by omega
    have e2 : n - 1 - k = n - (k + 1) := by omega
    rw [e1, e2, Nat.pow_succ, ← Nat.div_div_eq_div_mul, Nat.pow_succ, Nat.mul_comm (256 ^ k) 256, Nat.mod_mul]
    omega
theorem rdb_wr' {b : bF} {a n v : Nat} (h : ∀ i, i < n → b (a + i) = bv v (n - 1 - i)) : rdb b a n = v % 256 ^ n := by
  rw [rdb_wr h n (Nat.le_refl n), Nat.sub_self, Nat.pow_zero, Nat.div_one]
theorem i32_m256 (x : Int32) : (x &&& 255).toBitVec.toNat = x.toBitVec.toNat % 256 := by
  rw [Int32.toBitVec_and, BitVec.toNat_and]
  exact Nat.and_two_pow_sub_one_eq_mod _ 8
theorem i8_m256 (x : Int32) : x.toInt8.toInt32.toBitVec.toNat % 256 = x.toBitVec.toNat % 256 := by
  rw [← i32_m256, ← i32_m256, bp_b]
theorem nI_m256 (q : Nat) : (nI q).toBitVec.toNat % 256 = q % 256 := by
  show (BitVec.ofNat 32 q).toNat % 256 = _
  rw [BitVec.toNat_ofNat]
  exact Nat.mod_mod_of_dvd q ⟨2 ^ 24, by decide⟩
theorem pw_256 (i : Nat) : (256 : Nat) ^ i = 2 ^ (8 * i) := by rw [Nat.pow_mul]
theorem d_vb_N (v : Int64) {i : Nat} (hi : i < 8) : (d_vb v i).toBitVec.toNat % 256 = bv v.toBitVec.toNat i := by
  obtain ⟨a, ha, rfl⟩ := wb_of v
  unfold d_vb bv
  rw [wb_shr ha (by omega), lN_i, nI_m256, wb_tn ha, pw_256]
theorem pg_vb_N (v : Int64) {i : Nat} (hi : i < 8) : (pg_vb v i).toBitVec.toNat % 256 = bv v.toBitVec.toNat i := by
  rw [← d_vb_N v hi]
  exact i8_m256 _
theorem by_w1 (Z : Nat → Int32) (t : Nat) (x : Int32) (i : Nat) : by_N (pg_w1 Z t x) i = if i = t ∧ i < 496 then x.toBitVec.toNat % 256 else by_N Z i := by
  unfold by_N pg_w1
  by_cases h : i < 496
  · rw [if_pos h, if_pos h]
    by_cases ht : t < 496
    · rw [if_pos ht]
      by_cases e : i = t
      · rw [if_pos ⟨e, h⟩, e, pk_us]
      · rw [if_neg (by omega), pk_un (by omega)]
    · rw [if_neg ht, if_neg (by omega)]
  · rw [if_neg h, if_neg h, if_neg (by omega)]
theorem by_wr {Z : Nat → Int32} {a n : Nat} {v : Int64} (ha : a + n ≤ 496) (hn : n ≤ 8) : ∀ (k : Nat), k ≤ n → ∀ j, by_N (pg_wr Z a n v k) j = if a + n - k ≤ j ∧ j < a + n then bv v.toBitVec.toNat (a + n - 1 - j) else by_N Z j
  | 0, _, j => by
    rw [if_neg (by omega)]
    rfl
  | k + 1, hk, j => by
    show by_N (pg_w1 (pg_wr Z a n v k) (a + n - 1 - k) (pg_vb v k)) j = _
    rw [by_w1, by_wr ha hn k (by omega) j]
    by_cases e : j = a + n - 1 - k
    · rw [if_pos ⟨e, by omega⟩, if_pos (by omega), pg_vb_N v (by omega)]
      congr 1
      omega
    · rw [if_neg (by omega)]
      by_cases h : a + n - k ≤ j ∧ j < a + n
      · rw [if_pos h, if_pos (by omega)]
      · rw [if_neg h, if_neg (by omega)]
theorem by_wr' {Z : Nat → Int32} {a n : Nat} {v : Int64} (ha : a + n ≤ 496) (hn : n ≤ 8) (j : Nat) : by_N (pg_wr Z a n v n) j = if a ≤ j ∧ j < a + n then bv v.toBitVec.toNat (a + n - 1 - j) else by_N Z j := by
  rw [by_wr ha hn n (Nat.le_refl n) j, show a + n - n = a by omega]
theorem by_wr_out {Z : Nat → Int32} {a n : Nat} {v : Int64} (ha : a + n ≤ 496) (hn : n ≤ 8) {j : Nat} (h : j < a ∨ a + n ≤ j) : by_N (pg_wr Z a n v n) j = by_N Z j := by
  rw [by_wr' ha hn, if_neg (by omega)]
theorem rd_wr {Z : Nat → Int32} {a n : Nat} {v : Int64} (ha : a + n ≤ 496) (hn : n ≤ 8) : rdb (by_N (pg_wr Z a n v n)) a n = v.toBitVec.toNat % 256 ^ n := by
  refine rdb_wr' (fun i hi => ?_)
  rw [by_wr' ha hn, if_pos (by omega), show a + n - 1 - (a + i) = n - 1 - i by omega]
theorem rd_wr_out {Z : Nat → Int32} {a n c k : Nat} {v : Int64} (ha : a + n ≤ 496) (hn : n ≤ 8) (h : c + k ≤ a ∨ a + n ≤ c) : rdb (by_N (pg_wr Z a n v n)) c k = rdb (by_N Z) c k := by
  refine rdb_cg k (fun i hi => ?_)
  exact by_wr_out ha hn (by omega)
theorem lN_rd {Z : Nat → Int32} {a n : Nat} (hn : n ≤ 8) : pg_rd Z a n = lN (rdb (by_N Z) a n) := by rw [pg_rd_N Z a n hn, rd_rdb]
theorem i32_rd {Z : Nat → Int32} {a n : Nat} (hn : n ≤ 8) : (pg_rd Z a n).toInt32 = nI (rdb (by_N Z) a n) := by rw [lN_rd hn, lN_i]
theorem tn_64 {q : Nat} (h : q < 2 ^ 31) : (nI q).toInt64.toBitVec.toNat = q := by rw [nI_l h, wb_tn (by omega)]
theorem rdb_lt {b : bF} (hb : ∀ i, b i < 256) (a : Nat) : ∀ n, rdb b a n < 256 ^ n
  | 0 => by simp [rdb]
  | n + 1 => by
    have h1 := rdb_lt hb a n
    have h2 := hb (a + n)
    show rdb b a n * 256 + b (a + n) < 256 ^ (n + 1)
    rw [Nat.pow_succ]
    omega
theorem rdb_1 (b : bF) (a : Nat) : rdb b a 1 = b a := by
  show 0 * 256 + b (a + 0) = b a
  rw [Nat.zero_mul, Nat.zero_add, Nat.add_zero]
-- the slots
theorem st_rdb (Z : Nat → Int32) (k : Nat) : st_N Z k = rdb (by_N Z) (4 * k) 2 := rd_rdb Z _ 2
theorem sz_rdb (Z : Nat → Int32) (k : Nat) : sz_N Z k = rdb (by_N Z) (4 * k + 2) 2 := rd_rdb Z _ 2
theorem by_ss {Z : Nat → Int32} {k a z : Nat} (hk : 4 * k + 4 ≤ 496) {j : Nat} (h : j < 4 * k ∨ 4 * k + 4 ≤ j) : by_N (pg_ss Z k (nI a) (nI z)) j = by_N Z j := by
  unfold pg_ss
  rw [by_wr_out (by omega) (by omega) (by omega), by_wr_out (by omega) (by omega) (by omega)]
theorem st_ss {Z : Nat → Int32} {k a z : Nat} (hk : 4 * k + 4 ≤ 496) (ha : a < 65536) : st_N (pg_ss Z k (nI a) (nI z)) k = a := by
  rw [st_rdb]
  unfold pg_ss
  rw [rd_wr_out (by omega) (by omega) (by omega), rd_wr (by omega) (by omega), tn_64 (by omega)]
  exact Nat.mod_eq_of_lt ha
theorem sz_ss {Z : Nat → Int32} {k a z : Nat} (hk : 4 * k + 4 ≤ 496) (hz : z < 65536) : sz_N (pg_ss Z k (nI a) (nI z)) k = z := by
  rw [sz_rdb]
  unfold pg_ss
  rw [rd_wr (by omega) (by omega), tn_64 (by omega)]
  exact Nat.mod_eq_of_lt hz
theorem st_cg {Z Y : Nat → Int32} {k : Nat} (h : ∀ j, 4 * k ≤ j → j < 4 * k + 4 → by_N Y j = by_N Z j) : st_N Y k = st_N Z k ∧ sz_N Y k = sz_N Z k := by
  rw [st_rdb, st_rdb, sz_rdb, sz_rdb]
  exact ⟨rdb_cg 2 (fun i hi => h _ (by omega) (by omega)), rdb_cg 2 (fun i hi => h _ (by omega) (by omega))⟩
