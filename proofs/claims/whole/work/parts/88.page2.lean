-- ===== a version is put into a page =====
theorem by_upd {Z : Nat → Int32} {j : Nat} {v : Int32} (hj : j < 5) : by_N (upd Z j v) = by_N Z := by
  funext i
  unfold by_N
  rw [pk_un (by omega)]
theorem fit_upd {Z : Nat → Int32} {j : Nat} {v : Int32} (hj : j < 5) (h : fitB Z) : fitB (upd Z j v) := by
  intro i hi
  rw [pk_un (by omega)]
  exact h i hi
def newh (n mk cm z : Nat) : Nat → Int32 := fun j => if j = 0 then nI n else if j = 1 then nI mk else if j = 2 then nI cm else if j = 5 then -1 else if j = 6 then nI z else 0
theorem pt_w_ok {A : Nat → Int32} {x : Int32} {m k zz n mk cm : Nat} {R : aR} {N : aN} {gg : Nat → cv} (hR : HOK R) (hm : m ≤ 8) (hg : ∀ c, c < m → gg c = scell (dg x c) (dcell R N c)) (hg0 : ∀ c, m ≤ c → c < 8 → gg c = none) (hs : ∀ c, c < m → R 0 c ≠ 0 → ((R 0 c = 2) ↔ (dg x c = 2))) (hz : zz = 16 + csum x gg m) (hst : st_N A k + zz ≤ 496) (hn : n < 2 ^ 31) (hmk : mk < 65536) (hcm : cm < 65536) : ED A (pt_w R N x m k (nI n) (nI mk) (nI cm) A) (st_N A k) (st_N A k + zz) ∧ VC (fun i => by_N (pt_w R N x m k (nI n) (nI mk) (nI cm) A) (st_N A k + i)) x m zz (newh n mk cm zz, gg) := by
  unfold pt_w
  generalize st_N A k = st at *
  obtain ⟨W1, e1⟩ : ∃ W, W = pg_wr A (st + 0) 4 (nI n).toInt64 4 := ⟨_, rfl⟩
  obtain ⟨W2, e2⟩ : ∃ W, W = pg_wr W1 (st + 4) 2 (nI mk).toInt64 2 := ⟨_, rfl⟩
  obtain ⟨W3, e3⟩ : ∃ W, W = pg_wr W2 (st + 6) 2 (nI cm).toInt64 2 := ⟨_, rfl⟩
  obtain ⟨W4, e4⟩ : ∃ W, W = pg_wr W3 (st + 8) 2 0 2 := ⟨_, rfl⟩
  obtain ⟨W5, e5⟩ : ∃ W, W = pg_wr W4 (st + 10) 2 0 2 := ⟨_, rfl⟩
  obtain ⟨W6, e6⟩ : ∃ W, W = pg_wr W5 (st + 12) 2 ((-1 : Int32) + 1).toInt64 2 := ⟨_, rfl⟩
  rw [← e1, ← e2, ← e3, ← e4, ← e5, ← e6]
  unfold p_h
  have hp := p_hZ_ok hR gg m hm hg hs (st + 16) (by omega) m 0 W6 (by omega)
  have hp1 : ED W6 (p_hZ R N x m 0 (st + 16) W6) (st + 16) (st + 16 + csum x gg m) := hp.1
  have hp2 : ∀ c', 0 ≤ c' → c' < m → cfit (dg x c') (gg c') ∧ CE (by_N (p_hZ R N x m 0 (st + 16) W6)) (st + 16 + csum x gg c') (dg x c') (gg c') := hp.2
  obtain ⟨Y, eY⟩ : ∃ Y, Y = p_hZ R N x m 0 (st + 16) W6 := ⟨_, rfl⟩
  rw [← eY] at hp1 hp2 ⊢
  obtain ⟨F, eF⟩ : ∃ F, F = pg_wr Y (st + 14) 1 (p_hF R m 0 0).toInt64 1 := ⟨_, rfl⟩
  rw [← eF]
  have d1 : ED A W1 (st + 0) (st + 0 + 4) := by rw [e1]; exact ED_wr (by omega) (by omega)
  have d2 : ED W1 W2 (st + 4) (st + 4 + 2) := by rw [e2]; exact ED_wr (by omega) (by omega)
  have d3 : ED W2 W3 (st + 6) (st + 6 + 2) := by rw [e3]; exact ED_wr (by omega) (by omega)
  have d4 : ED W3 W4 (st + 8) (st + 8 + 2) := by rw [e4]; exact ED_wr (by omega) (by omega)
  have d5 : ED W4 W5 (st + 10) (st + 10 + 2) := by rw [e5]; exact ED_wr (by omega) (by omega)
  have d6 : ED W5 W6 (st + 12) (st + 12 + 2) := by rw [e6]; exact ED_wr (by omega) (by omega)
  have dF : ED Y F (st + 14) (st + 14 + 1) := by rw [eF]; exact ED_wr (by omega) (by omega)
  have q6 : ED W6 F (st + 14) (st + zz) := (hp1.mono (by omega) (by omega)).tr (dF.mono (by omega) (by omega))
  have q5 : ED W5 F (st + 12) (st + zz) := (d6.mono (by omega) (by omega)).tr (q6.mono (by omega) (by omega))
  have q4 : ED W4 F (st + 10) (st + zz) := (d5.mono (by omega) (by omega)).tr (q5.mono (by omega) (by omega))
  have q3 : ED W3 F (st + 8) (st + zz) := (d4.mono (by omega) (by omega)).tr (q4.mono (by omega) (by omega))
  have q2 : ED W2 F (st + 6) (st + zz) := (d3.mono (by omega) (by omega)).tr (q3.mono (by omega) (by omega))
  have q1 : ED W1 F (st + 4) (st + zz) := (d2.mono (by omega) (by omega)).tr (q2.mono (by omega) (by omega))
  have q0 : ED A F st (st + zz) := (d1.mono (by omega) (by omega)).tr (q1.mono (by omega) (by omega))
  refine ⟨q0, rfl, hz, ⟨?_, ?_, ?_, ?_, ?_, ?_⟩, ⟨fun c hc => ?_, fun c hc => ⟨(hp2 c (Nat.zero_le c) hc).1, ?_⟩⟩, hg0⟩
  · show nI n = _
    rw [rdb_sh, rdb_cg (b' := by_N W1) (a' := st + 0) 4 (fun i hi => q1.2.1 _ (by omega)), e1, rd_wr (by omega) (by omega), tn_64 hn, Nat.mod_eq_of_lt (by omega)]
  · show nI mk = _
    rw [rdb_sh, rdb_cg (b' := by_N W2) (a' := st + 4) 2 (fun i hi => q2.2.1 _ (by omega)), e2, rd_wr (by omega) (by omega), tn_64 (by omega), Nat.mod_eq_of_lt (by omega)]
  · show nI cm = _
    rw [rdb_sh, rdb_cg (b' := by_N W3) (a' := st + 6) 2 (fun i hi => q3.2.1 _ (by omega)), e3, rd_wr (by omega) (by omega), tn_64 (by omega), Nat.mod_eq_of_lt (by omega)]
  · show (0 : Int32) = _
    rw [rdb_sh, rdb_cg (b' := by_N W4) (a' := st + 8) 2 (fun i hi => q4.2.1 _ (by omega)), e4, rd_wr (by omega) (by omega)]
    rfl
  · show (0 : Int32) = _
    rw [rdb_sh, rdb_cg (b' := by_N W5) (a' := st + 10) 2 (fun i hi => q5.2.1 _ (by omega)), e5, rd_wr (by omega) (by omega)]
    rfl
  · show (-1 : Int32) = _
    rw [rdb_sh, rdb_cg (b' := by_N W6) (a' := st + 12) 2 (fun i hi => q6.2.1 _ (by omega)), e6, rd_wr (by omega) (by omega)]
    rfl
  · show (by_N F (st + 14)).testBit c = (gg c).isSome
    rw [eF, by_wr1 (by omega), p_hF_ok hm hc, hg c hc, scell_0]
    by_cases h0 : R 0 c = 0
    · rw [dcell_0.mpr h0, decide_eq_true h0]; rfl
    · rw [decide_eq_false h0]
      cases hd : dcell R N c with
      | none => exact absurd (dcell_0.mp hd) h0
      | some q => rfl
  · refine CE_cg (fun i hi => ?_) (hp2 c (Nat.zero_le c) hc).2
    have := csum_lt (x := x) (g := gg) hc
    show by_N F (st + (16 + csum x gg c + i)) = by_N Y (st + 16 + csum x gg c + i)
    rw [show st + (16 + csum x gg c + i) = st + 16 + csum x gg c + i by omega]
    exact dF.2.1 _ (by omega)
theorem ad_ok {Z : Nat → Int32} {k zz : Nat} (hZ : g_ok Z) (hk : k < z2 Z ∧ zz + 4 * z2 Z ≤ z4 Z ∨ k = z2 Z ∧ zz + 4 + 4 * z2 Z ≤ z4 Z) (h120 : k < 120) : (∀ j, j < 2 → pg_ad Z k (nI zz) j = Z j) ∧ pg_ad Z k (nI zz) 2 = nI (if k = z2 Z then z2 Z + 1 else z2 Z) ∧ pg_ad Z k (nI zz) 3 = Z 3 + 1 ∧ pg_ad Z k (nI zz) 4 = nI (z4 Z - zz) ∧ (∀ j, j < 4 * k ∨ 4 * k + 4 ≤ j → by_N (pg_ad Z k (nI zz)) j = by_N Z j) ∧ st_N (pg_ad Z k (nI zz)) k = z4 Z - zz ∧ sz_N (pg_ad Z k (nI zz)) k = zz ∧ fitB (pg_ad Z k (nI zz)) := by
  have h4 := hZ.2.2.2.1
  have h2 := hZ.2.1
  have e4 : Z 4 - nI zz = nI (z4 Z - zz) := by rw [hZ.2.2.1, nI_sb (by omega)]
  unfold pg_ad
  simp only []
  rw [e4]
  obtain ⟨U, eU⟩ : ∃ U, U = (if nI k = Z 2 then upd Z 2 (Z 2 + 1) else Z) := ⟨_, rfl⟩
  have bU : by_N U = by_N Z := by
    rw [eU]
    by_cases e : nI k = Z 2
    · rw [if_pos e, by_upd (by decide)]
    · rw [if_neg e]
  have fU : fitB U := by
    rw [eU]
    by_cases e : nI k = Z 2
    · rw [if_pos e]; exact fit_upd (by decide) hZ.2.2.2.2
    · rw [if_neg e]; exact hZ.2.2.2.2
  have jU : ∀ j, j < 5 → j ≠ 2 → U j = Z j := by
    intro j hj h2
    rw [eU]
    by_cases e : nI k = Z 2
    · rw [if_pos e, pk_un h2]
    · rw [if_neg e]
  have U2 : U 2 = nI (if k = z2 Z then z2 Z + 1 else z2 Z) := by
    rw [eU]
    by_cases e : k = z2 Z
    · rw [if_pos (by rw [hZ.1, e]), if_pos e, pk_us, hZ.1, nI_1]
    · rw [if_neg (fun q => e ((nI_eq (by omega) (by omega)).mp (by rw [q, ← hZ.1]))), if_neg e, hZ.1, ← hZ.1]
  rw [← eU]
  have lo : ∀ j, j < 5 → pg_ss (upd U 4 (nI (z4 Z - zz))) k (nI (z4 Z - zz)) (nI zz) j = upd U 4 (nI (z4 Z - zz)) j := fun j hj => pg_ss_lo _ _ _ _ _ hj
  refine ⟨fun j hj => ?_, ?_, ?_, ?_, fun j hj => ?_, ?_, ?_, ?_⟩
  · rw [pk_un (by omega), lo j (by omega), pk_un (by omega), jU j (by omega) (by omega)]
  · rw [pk_un (by decide), lo 2 (by decide), pk_un (by decide), U2]
  · rw [pk_us, lo 3 (by decide), pk_un (by decide), jU 3 (by decide) (by decide)]
  · rw [pk_un (by decide), lo 4 (by decide), pk_us]
  · rw [by_upd (by decide), by_ss (by omega) hj, by_upd (by decide), bU]
  · rw [st_rdb, by_upd (by decide), ← st_rdb, st_ss (by omega) (by omega)]
  · rw [sz_rdb, by_upd (by decide), ← sz_rdb, sz_ss (by omega) (by omega)]
  · refine fit_upd (by decide) ?_
    unfold pg_ss
    exact wr_fit (wr_fit (fit_upd (by decide) fU) 2) 2
theorem PG.put {Z : Nat → Int32} {x : Int32} {m k zz n mk cm : Nat} {g : Nat → Option vR} {R : aR} {N : aN} {gg : Nat → cv} (h : PG Z x m g) (hk0 : g k = none) (hk : k < z2 Z ∧ zz + 4 * z2 Z ≤ z4 Z ∨ k = z2 Z ∧ zz + 4 + 4 * z2 Z ≤ z4 Z) (h120 : k < 120) (hR : HOK R) (hm : m ≤ 8) (hg : ∀ c, c < m → gg c = scell (dg x c) (dcell R N c)) (hg0 : ∀ c, m ≤ c → c < 8 → gg c = none) (hs : ∀ c, c < m → R 0 c ≠ 0 → ((R 0 c = 2) ↔ (dg x c = 2))) (hz : zz = 16 + csum x gg m) (hn : n < 2 ^ 31) (hmk : mk < 65536) (hcm : cm < 65536) : PG (pt_w R N x m k (nI n) (nI mk) (nI cm) (pg_ad Z k (nI zz))) x m (va_up g k (some (newh n mk cm zz, gg))) ∧ (∀ j, j < 5 → pt_w R N x m k (nI n) (nI mk) (nI cm) (pg_ad Z k (nI zz)) j = pg_ad Z k (nI zz) j) ∧ pg_hd (pg_ad Z k (nI zz)) k = true := by
  obtain ⟨p1, p2, p3, p4, p5, p6⟩ := h
  obtain ⟨a0, a2, a3, a4, a5, a6, a7, a8⟩ := ad_ok p1 hk h120
  have h4 := p1.2.2.2.1
  generalize hA : pg_ad Z k (nI zz) = A at *
  have hz2 : z2 A = if k = z2 Z then z2 Z + 1 else z2 Z := by
    unfold z2
    rw [a2]
    rw [nI_clamp (by split <;> omega)]
    rfl
  have hz4 : z4 A = z4 Z - zz := by
    unfold z4
    rw [a4, nI_clamp (by omega)]
    rfl
  have hzb : z2 Z ≤ z2 A ∧ z2 A ≤ 120 ∧ k < z2 A ∧ 4 * z2 A ≤ z4 A ∧ (∀ s, s < z2 A → s ≠ k → s < z2 Z) := by
    rw [hz2, hz4]
    by_cases e : k = z2 Z
    · rw [if_pos e]
      refine ⟨by omega, by omega, by omega, by omega, fun s h1 h2 => by omega⟩
    · rw [if_neg e]
      refine ⟨by omega, by omega, by omega, by omega, fun s h1 h2 => by omega⟩
  obtain ⟨b1, b2, b3, b4, b5⟩ := hzb
  have gA : g_ok A := by
    refine ⟨?_, by omega, ?_, by omega, a8⟩
    · rw [a2, hz2]
    · rw [a4, hz4]
  obtain ⟨w1, w2⟩ := pt_w_ok (A := A) (k := k) hR hm hg hg0 hs hz (by rw [a6]; omega) hn hmk hcm
  rw [a6] at w1 w2
  have hh : pg_hd A k = true := by
    rw [hd_N gA (by omega), decide_eq_true ⟨b3, by rw [a7]; omega⟩]
  generalize pt_w R N x m k (nI n) (nI mk) (nI cm) A = F at *
  obtain ⟨c2, c4⟩ := w1.z
  have hst : ∀ s, s < z2 A → st_N F s = st_N A s ∧ sz_N F s = sz_N A s := fun s hs => w1.st (by omega)
  have hso : ∀ s, s < z2 Z → s ≠ k → st_N F s = st_N Z s ∧ sz_N F s = sz_N Z s := by
    intro s hs hne
    obtain ⟨q1, q2⟩ := hst s (by omega)
    obtain ⟨q3, q4⟩ := st_cg (Z := Z) (Y := A) (k := s) (fun j h1 h2 => a5 j (by omega))
    exact ⟨q1.trans q3, q2.trans q4⟩
  refine ⟨⟨w1.g gA, by omega, by omega, ?_, ?_, ?_⟩, w1.1, hh⟩
  · intro s r hs
    by_cases e : s = k
    · rw [e, va_up_self] at hs
      cases hs
      obtain ⟨q1, q2⟩ := hst k b3
      unfold VR
      rw [e, q1, q2, a6, a7, c2, c4]
      exact ⟨b3, by omega, by omega, w2⟩
    · rw [va_up_ne _ _ e] at hs
      obtain ⟨s1, s2, s3, s4⟩ := p4 s r hs
      obtain ⟨q1, q2⟩ := hso s s1 e
      unfold VR
      rw [q1, q2, c2, c4]
      refine ⟨by omega, by omega, s3, VC_cg (fun i hi => ?_) s4⟩
      exact (w1.2.1 _ (by omega)).trans (a5 _ (by omega))
  · intro s hs hg
    rw [c2] at hs
    by_cases e : s = k
    · rw [e, va_up_self] at hg; cases hg
    · rw [va_up_ne _ _ e] at hg
      rw [(hso s (b5 s hs e) e).2]
      exact p5 s (b5 s hs e) hg
  · intro s s' r r' hs hs' hne
    obtain ⟨q1, q2⟩ := hst k b3
    by_cases e : s = k
    · have e' : s' ≠ k := fun q => hne (by rw [e, q])
      rw [va_up_ne _ _ e'] at hs'
      obtain ⟨s1, s2, s3, s4⟩ := p4 s' r' hs'
      obtain ⟨q3, q4⟩ := hso s' s1 e'
      rw [e, q1, q2, q3, q4, a6, a7]
      omega
    · rw [va_up_ne _ _ e] at hs
      obtain ⟨s1, s2, s3, s4⟩ := p4 s r hs
      obtain ⟨q3, q4⟩ := hso s s1 e
      by_cases e' : s' = k
      · rw [e', q1, q2, q3, q4, a6, a7]
        omega
      · rw [va_up_ne _ _ e'] at hs'
        obtain ⟨t1, t2, t3, t4⟩ := p4 s' r' hs'
        obtain ⟨q5, q6⟩ := hso s' t1 e'
        rw [q3, q4, q5, q6]
        exact p6 s s' r r' hs hs' hne
