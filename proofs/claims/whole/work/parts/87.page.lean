-- ===== a page and what it holds =====
abbrev vR : Type := (Nat → Int32) × (Nat → cv)
def HB (b : bF) (h : Nat → Int32) : Prop := h 0 = nI (rdb b 0 4) ∧ h 1 = nI (rdb b 4 2) ∧ h 2 = nI (rdb b 6 2) ∧ h 3 = nI (rdb b 8 2) ∧ h 4 = nI (rdb b 10 2) ∧ h 5 = nI (rdb b 12 2) - 1
theorem HB_cg {b b' : bF} {h : Nat → Int32} (hb : ∀ i, i < 14 → b' i = b i) (h0 : HB b h) : HB b' h := by
  obtain ⟨h1, h2, h3, h4, h5, h6⟩ := h0
  refine ⟨h1.trans ?_, h2.trans ?_, h3.trans ?_, h4.trans ?_, h5.trans ?_, h6.trans ?_⟩
  · rw [rdb_cg (b := b) (b' := b') 4 (fun i hi => (hb _ (by omega)).symm)]
  · rw [rdb_cg (b := b) (b' := b') 2 (fun i hi => (hb _ (by omega)).symm)]
  · rw [rdb_cg (b := b) (b' := b') 2 (fun i hi => (hb _ (by omega)).symm)]
  · rw [rdb_cg (b := b) (b' := b') 2 (fun i hi => (hb _ (by omega)).symm)]
  · rw [rdb_cg (b := b) (b' := b') 2 (fun i hi => (hb _ (by omega)).symm)]
  · rw [rdb_cg (b := b) (b' := b') 2 (fun i hi => (hb _ (by omega)).symm)]
/-- the bytes of a version that starts at st and has n of them -/
def VC (b : bF) (x : Int32) (m n : Nat) (r : vR) : Prop := r.1 6 = nI n ∧ n = 16 + csum x r.2 m ∧ HB b r.1 ∧ CB b x m r.2 ∧ ∀ c, m ≤ c → c < 8 → r.2 c = none
theorem VC_cg {b b' : bF} {x : Int32} {m n : Nat} {r : vR} (hb : ∀ i, i < n → b' i = b i) (h : VC b x m n r) : VC b' x m n r := by
  obtain ⟨h1, h2, h3, h4, h5⟩ := h
  exact ⟨h1, h2, HB_cg (fun i hi => hb i (by omega)) h3, CB_cg (fun i _ hi => hb i (by omega)) h4, h5⟩
def VR (Z : Nat → Int32) (x : Int32) (m s : Nat) (r : vR) : Prop := s < z2 Z ∧ z4 Z ≤ st_N Z s ∧ st_N Z s + sz_N Z s ≤ 496 ∧ VC (fun i => by_N Z (st_N Z s + i)) x m (sz_N Z s) r
def PG (Z : Nat → Int32) (x : Int32) (m : Nat) (g : Nat → Option vR) : Prop := g_ok Z ∧ z2 Z ≤ 120 ∧ 4 * z2 Z ≤ z4 Z ∧ (∀ s r, g s = some r → VR Z x m s r) ∧ (∀ s, s < z2 Z → g s = none → sz_N Z s = 0) ∧ ∀ s s' r r', g s = some r → g s' = some r' → s ≠ s' → st_N Z s + sz_N Z s ≤ st_N Z s' ∨ st_N Z s' + sz_N Z s' ≤ st_N Z s
theorem hd_N {Z : Nat → Int32} (hZ : g_ok Z) {s : Nat} (hs : s < 256) : pg_hd Z s = decide (s < z2 Z ∧ 0 < sz_N Z s) := by
  unfold pg_hd
  rw [pg_sz_N, hZ.1]
  have h1 : (nI s < nI (z2 Z)) ↔ s < z2 Z := nI_ltI (by omega) (by have := hZ.2.1; omega)
  have h2 : ((0 : Int32) < nI (sz_N Z s)) ↔ 0 < sz_N Z s := nI_ltI (a := 0) (by omega) (by have := sz_N_lt Z s; omega)
  rw [decide_eq_decide.mpr h1, decide_eq_decide.mpr h2, Bool.decide_and]
theorem PG.hd {Z : Nat → Int32} {x : Int32} {m : Nat} {g : Nat → Option vR} (h : PG Z x m g) {s : Nat} (hs : s < 256) : pg_hd Z s = (g s).isSome := by
  obtain ⟨h1, h2, h3, h4, h5, h6⟩ := h
  rw [hd_N h1 hs]
  cases hg : g s with
  | none =>
    show _ = false
    rw [decide_eq_false]
    intro q
    rw [h5 s q.1 hg] at q
    omega
  | some r =>
    obtain ⟨a1, a2, a3, a4, a5, -⟩ := h4 s r hg
    show _ = true
    rw [decide_eq_true]
    exact ⟨a1, by omega⟩
theorem ED.z {Z Z' : Nat → Int32} {lo hi : Nat} (h : ED Z Z' lo hi) : z2 Z' = z2 Z ∧ z4 Z' = z4 Z := by
  unfold z2 z4
  rw [h.1 2 (by omega), h.1 4 (by omega)]
  exact ⟨rfl, rfl⟩
theorem ED.g {Z Z' : Nat → Int32} {lo hi : Nat} (h : ED Z Z' lo hi) (hZ : g_ok Z) : g_ok Z' := by
  obtain ⟨e2, e4⟩ := h.z
  unfold g_ok
  rw [e2, e4, h.1 2 (by omega), h.1 4 (by omega)]
  exact ⟨hZ.1, hZ.2.1, hZ.2.2.1, hZ.2.2.2.1, h.2.2 hZ.2.2.2.2⟩
theorem ED.st {Z Z' : Nat → Int32} {lo hi s : Nat} (h : ED Z Z' lo hi) (hs : 4 * s + 4 ≤ lo) : st_N Z' s = st_N Z s ∧ sz_N Z' s = sz_N Z s := st_cg (fun j h1 h2 => h.2.1 j (Or.inl (by omega)))
/-- what is written inside of one version's bytes -/
theorem PG.edit {Z Z' : Nat → Int32} {x : Int32} {m k lo hi : Nat} {g : Nat → Option vR} {r r' : vR} (h : PG Z x m g) (hk : g k = some r) (hE : ED Z Z' lo hi) (h1 : st_N Z k ≤ lo) (h2 : hi ≤ st_N Z k + sz_N Z k) (hV : VC (fun i => by_N Z' (st_N Z k + i)) x m (sz_N Z k) r') : PG Z' x m (va_up g k (some r')) := by
  obtain ⟨p1, p2, p3, p4, p5, p6⟩ := h
  obtain ⟨e2, e4⟩ := hE.z
  obtain ⟨k1, k2, k3, k4⟩ := p4 k r hk
  have hss : ∀ s, s < z2 Z → st_N Z' s = st_N Z s ∧ sz_N Z' s = sz_N Z s := fun s hs => hE.st (by omega)
  refine ⟨hE.g p1, by rw [e2]; exact p2, by rw [e2, e4]; exact p3, ?_, ?_, ?_⟩
  · intro s q hs
    by_cases e : s = k
    · rw [e, va_up_self] at hs
      cases hs
      unfold VR
      rw [e, e2, e4, (hss k k1).1, (hss k k1).2]
      exact ⟨k1, k2, k3, hV⟩
    · rw [va_up_ne _ _ e] at hs
      obtain ⟨s1, s2, s3, s4⟩ := p4 s q hs
      unfold VR
      rw [e2, e4, (hss s s1).1, (hss s s1).2]
      refine ⟨s1, s2, s3, VC_cg (fun i hi => hE.2.1 _ ?_) s4⟩
      have := p6 s k q r hs hk e
      omega
  · intro s hs hg
    rw [e2] at hs
    by_cases e : s = k
    · rw [e, va_up_self] at hg; cases hg
    · rw [va_up_ne _ _ e] at hg
      rw [(hss s hs).2]
      exact p5 s hs hg
  · have hg : ∀ s q, va_up g k (some r') s = some q → ∃ q', g s = some q' := by
      intro s q hs
      by_cases e : s = k
      · exact ⟨r, by rw [e]; exact hk⟩
      · rw [va_up_ne _ _ e] at hs; exact ⟨q, hs⟩
    intro s s' q q' hs hs' hne
    obtain ⟨a, ha⟩ := hg s q hs
    obtain ⟨a', ha'⟩ := hg s' q' hs'
    have b1 := (p4 s a ha).1
    have b2 := (p4 s' a' ha').1
    rw [(hss s b1).1, (hss s b1).2, (hss s' b2).1, (hss s' b2).2]
    exact p6 s s' a a' ha ha' hne
theorem rdb_sh {Z : Nat → Int32} {st a n : Nat} : rdb (fun i => by_N Z (st + i)) a n = rdb (by_N Z) (st + a) n := rdb_cg n (fun i _ => by rw [Nat.add_assoc])
def h_set (h : Nat → Int32) (i : Nat) (v : Int32) : Nat → Int32 := fun j => if j = i then v else h j
/-- end -/
theorem PG.endd {Z : Nat → Int32} {x : Int32} {m k b c : Nat} {g : Nat → Option vR} {r : vR} (h : PG Z x m g) (hk : g k = some r) (hb : b < 65536) (hc : c < 65536) : PG (d_enZ Z k (nI b) (nI c)) x m (va_up g k (some (h_set (h_set r.1 3 (nI b)) 4 (nI c), r.2))) := by
  obtain ⟨k1, k2, k3, v1, v2, ⟨c1, c2, c3, c4, c5, c6⟩, v4, v5⟩ := h.2.2.2.1 k r hk
  have e1 : ED Z (pg_wr Z (st_N Z k + 8) 2 (nI b).toInt64 2) (st_N Z k + 8) (st_N Z k + 8 + 2) := ED_wr (by omega) (by omega)
  have e2 : ED (pg_wr Z (st_N Z k + 8) 2 (nI b).toInt64 2) (d_enZ Z k (nI b) (nI c)) (st_N Z k + 10) (st_N Z k + 10 + 2) := ED_wr (by omega) (by omega)
  have e3 : ED Z (d_enZ Z k (nI b) (nI c)) (st_N Z k + 8) (st_N Z k + 12) := (e1.mono (Nat.le_refl _) (by omega)).tr (e2.mono (by omega) (by omega))
  refine h.edit hk e3 (by omega) (by omega) ⟨v1, v2, ⟨?_, ?_, ?_, ?_, ?_, ?_⟩, CB_cg (fun i h1 _ => e3.2.1 _ (by omega)) v4, v5⟩
  · exact c1.trans (congrArg nI (rdb_cg 4 (fun i hi => (e3.2.1 _ (by omega)).symm)))
  · exact c2.trans (congrArg nI (rdb_cg 2 (fun i hi => (e3.2.1 _ (by omega)).symm)))
  · exact c3.trans (congrArg nI (rdb_cg 2 (fun i hi => (e3.2.1 _ (by omega)).symm)))
  · show nI b = _
    rw [rdb_sh]
    unfold d_enZ
    rw [rd_wr_out (by omega) (by omega) (by omega), rd_wr (by omega) (by omega), tn_64 (by omega)]
    rw [Nat.mod_eq_of_lt (by omega)]
  · show nI c = _
    rw [rdb_sh]
    unfold d_enZ
    rw [rd_wr (by omega) (by omega), tn_64 (by omega)]
    rw [Nat.mod_eq_of_lt (by omega)]
  · exact c6.trans (congrArg (fun z => nI z - 1) (rdb_cg 2 (fun i hi => (e3.2.1 _ (by omega)).symm)))
/-- behind -/
theorem PG.behind {Z : Nat → Int32} {x : Int32} {m k b : Nat} {g : Nat → Option vR} {r : vR} (h : PG Z x m g) (hk : g k = some r) (hb : b < 65536) : PG (pg_wr Z (st_N Z k + 12) 2 (nI b).toInt64 2) x m (va_up g k (some (h_set r.1 5 (nI b - 1), r.2))) := by
  obtain ⟨k1, k2, k3, v1, v2, ⟨c1, c2, c3, c4, c5, c6⟩, v4, v5⟩ := h.2.2.2.1 k r hk
  have e3 : ED Z (pg_wr Z (st_N Z k + 12) 2 (nI b).toInt64 2) (st_N Z k + 12) (st_N Z k + 12 + 2) := ED_wr (by omega) (by omega)
  refine h.edit hk e3 (by omega) (by omega) ⟨v1, v2, ⟨?_, ?_, ?_, ?_, ?_, ?_⟩, CB_cg (fun i h1 _ => e3.2.1 _ (by omega)) v4, v5⟩
  · exact c1.trans (congrArg nI (rdb_cg 4 (fun i hi => (e3.2.1 _ (by omega)).symm)))
  · exact c2.trans (congrArg nI (rdb_cg 2 (fun i hi => (e3.2.1 _ (by omega)).symm)))
  · exact c3.trans (congrArg nI (rdb_cg 2 (fun i hi => (e3.2.1 _ (by omega)).symm)))
  · exact c4.trans (congrArg nI (rdb_cg 2 (fun i hi => (e3.2.1 _ (by omega)).symm)))
  · exact c5.trans (congrArg nI (rdb_cg 2 (fun i hi => (e3.2.1 _ (by omega)).symm)))
  · show nI b - 1 = _
    rw [rdb_sh, rd_wr (by omega) (by omega), tn_64 (by omega)]
    rw [Nat.mod_eq_of_lt (by omega)]
/-- look -/
theorem PG.look {Z : Nat → Int32} {x : Int32} {m k : Nat} {g : Nat → Option vR} {r : vR} (h : PG Z x m g) (hk : g k = some r) (w : Int32) : d_lv Z k w = if w = 0 then r.1 0 else if w = 1 then r.1 1 else if w = 2 then r.1 2 else if w = 3 then r.1 3 else if w = 4 then r.1 4 else if w = 5 then r.1 5 else if w = 6 then r.1 6 else if w = 7 then Z 0 else -1 := by
  obtain ⟨k1, k2, k3, v1, v2, ⟨c1, c2, c3, c4, c5, c6⟩, v4, v5⟩ := h.2.2.2.1 k r hk
  unfold d_lv
  rw [i32_rd (by omega), i32_rd (by omega), i32_rd (by omega), i32_rd (by omega), i32_rd (by omega), i32_rd (by omega), c1, c2, c3, c4, c5, c6, v1, rdb_sh, rdb_sh, rdb_sh, rdb_sh, rdb_sh, rdb_sh, pg_sz_N]
/-- an opened page -/
theorem PG.reset {Z : Nat → Int32} {x t : Int32} {m : Nat} (hf : fitB Z) : PG (pg_rs Z t) x m (fun _ => none) := by
  have e2 : pg_rs Z t 2 = 0 := by
    unfold pg_rs
    rw [pk_un (by decide), pk_un (by decide), pk_us]
  have e4 : pg_rs Z t 4 = 496 := by
    unfold pg_rs
    rw [pk_us]
  have z2' : z2 (pg_rs Z t) = 0 := by unfold z2; rw [e2]; rfl
  have z4' : z4 (pg_rs Z t) = 496 := by unfold z4; rw [e4]; rfl
  refine ⟨⟨by rw [z2', e2]; rfl, by omega, by rw [z4', e4]; rfl, by omega, fun i hi => ?_⟩, by omega, by omega, fun s r h => (by cases h), fun s h => absurd h (by omega), fun s s' r r' h => (by cases h)⟩
  unfold pg_rs
  rw [pk_un (by omega), pk_un (by omega), pk_un (by omega), pk_un (by omega), pk_un (by omega)]
  exact hf i hi
