-- ===== what the page's bytes say, in natural numbers =====
-- (pg_rd, pg_b stand in 20.page1; here the numbers alone)
def by_N (Z : Nat → Int32) (i : Nat) : Nat := if i < 496 then (Z (5 + i)).toBitVec.toNat % 256 else 0
theorem by_N_lt (Z : Nat → Int32) (i : Nat) : by_N Z i < 256 := by
  unfold by_N
  split
  · exact Nat.mod_lt _ (by decide)
  · decide
def rd_N (Z : Nat → Int32) (a : Nat) : Nat → Nat
  | 0 => 0
  | n + 1 => rd_N Z a n * 256 + by_N Z (a + n)
theorem rd_N_lt (Z : Nat → Int32) (a : Nat) : ∀ n, rd_N Z a n < 256 ^ n
  | 0 => by simp [rd_N]
  | n + 1 => by
    have h1 := rd_N_lt Z a n
    have h2 := by_N_lt Z (a + n)
    simp only [rd_N, Nat.pow_succ]
    omega
