-- ===== a version is taken out of a page =====
theorem c1_ok {W : Nat → Int32} {a b s : Nat} (hW : g_ok W) (hs : s < z2 W) (h120 : z2 W ≤ 120) (ha : a ≤ 496) (hb : b ≤ 496) (hst : 0 < sz_N W s → st_N W s ≤ 496) : (∀ j, j < 5 → pg_c1 a b s W j = W j) ∧ (∀ j, j < 4 * s ∨ 4 * s + 4 ≤ j → by_N (pg_c1 a b s W) j = by_N W j) ∧ fitB (pg_c1 a b s W) ∧ sz_N (pg_c1 a b s W) s = sz_N W s ∧ st_N (pg_c1 a b s W) s = if 0 < sz_N W s ∧ st_N W s < a then st_N W s + b else st_N W s := by
  have hl := sz_N_lt W s
  have hl2 := st_N_lt W s
  unfold pg_c1
  rw [hd_N hW (by omega), pg_st_N, pg_sz_N]
  have e : (decide (s < z2 W ∧ 0 < sz_N W s) && decide (nI (st_N W s) < nI a)) = decide (0 < sz_N W s ∧ st_N W s < a) := by
    rw [← Bool.decide_and]
    refine decide_eq_decide.mpr ⟨fun q => ⟨q.1.2, (nI_ltI (by omega) (by omega)).mp q.2⟩, fun q => ⟨⟨hs, q.1⟩, (nI_ltI (by omega) (by omega)).mpr q.2⟩⟩
  rw [e]
  by_cases h : 0 < sz_N W s ∧ st_N W s < a
  · rw [decide_eq_true h, if_pos rfl, if_pos h, nI_add]
    have := hst h.1
    refine ⟨fun j hj => pg_ss_lo _ _ _ _ _ hj, fun j hj => by_ss (by omega) hj, ?_, sz_ss (by omega) hl, st_ss (by omega) (by omega)⟩
    unfold pg_ss
    exact wr_fit (wr_fit hW.2.2.2.2 2) 2
  · rw [decide_eq_false h, if_neg (by decide), if_neg h]
    exact ⟨fun _ _ => rfl, fun _ _ => rfl, hW.2.2.2.2, rfl, rfl⟩
theorem g_of {W F : Nat → Int32} (hW : g_ok W) (h : ∀ j, j < 5 → F j = W j) (hf : fitB F) : g_ok F ∧ z2 F = z2 W ∧ z4 F = z4 W := by
  have e2 : z2 F = z2 W := by unfold z2; rw [h 2 (by omega)]
  have e4 : z4 F = z4 W := by unfold z4; rw [h 4 (by omega)]
  refine ⟨?_, e2, e4⟩
  unfold g_ok
  rw [e2, e4, h 2 (by omega), h 4 (by omega)]
  exact ⟨hW.1, hW.2.1, hW.2.2.1, hW.2.2.2.1, hf⟩
theorem cl_ok {a b : Nat} (ha : a ≤ 496) (hb : b ≤ 496) : ∀ (d s0 : Nat) (W : Nat → Int32), g_ok W → z2 W ≤ 120 → s0 + d = z2 W → (∀ s, s0 ≤ s → s < z2 W → 0 < sz_N W s → st_N W s ≤ 496) → (∀ j, j < 5 → pg_cl a b d s0 W j = W j) ∧ (∀ j, 4 * z2 W ≤ j → by_N (pg_cl a b d s0 W) j = by_N W j) ∧ fitB (pg_cl a b d s0 W) ∧ (∀ s, s < s0 → st_N (pg_cl a b d s0 W) s = st_N W s ∧ sz_N (pg_cl a b d s0 W) s = sz_N W s) ∧ ∀ s, s0 ≤ s → s < z2 W → sz_N (pg_cl a b d s0 W) s = sz_N W s ∧ st_N (pg_cl a b d s0 W) s = if 0 < sz_N W s ∧ st_N W s < a then st_N W s + b else st_N W s
  | 0, s0, W, hW, h120, hd, hst => ⟨fun _ _ => rfl, fun _ _ => rfl, hW.2.2.2.2, fun _ _ => ⟨rfl, rfl⟩, fun s h1 h2 => absurd h1 (by omega)⟩
  | d + 1, s0, W, hW, h120, hd, hst => by
    obtain ⟨c1, c2, c3, c4, c5⟩ := c1_ok (s := s0) hW (by omega) h120 ha hb (hst s0 (by omega) (by omega))
    obtain ⟨g1, g2, g3⟩ := g_of hW c1 c3
    have hne : ∀ s, s ≠ s0 → st_N (pg_c1 a b s0 W) s = st_N W s ∧ sz_N (pg_c1 a b s0 W) s = sz_N W s := fun s hs => st_cg (fun j h1 h2 => c2 j (by omega))
    have hfit : ∀ s, s0 + 1 ≤ s → s < z2 W → 0 < sz_N (pg_c1 a b s0 W) s → st_N (pg_c1 a b s0 W) s ≤ 496 := fun s h0 h1 h2 => by
      rw [(hne s (by omega)).1]; exact hst s (by omega) h1 (by rw [← (hne s (by omega)).2]; exact h2)
    show (∀ j, j < 5 → pg_cl a b d (s0 + 1) (pg_c1 a b s0 W) j = W j) ∧ (∀ j, 4 * z2 W ≤ j → by_N (pg_cl a b d (s0 + 1) (pg_c1 a b s0 W)) j = by_N W j) ∧ fitB (pg_cl a b d (s0 + 1) (pg_c1 a b s0 W)) ∧ (∀ s, s < s0 → st_N (pg_cl a b d (s0 + 1) (pg_c1 a b s0 W)) s = st_N W s ∧ sz_N (pg_cl a b d (s0 + 1) (pg_c1 a b s0 W)) s = sz_N W s) ∧ ∀ s, s0 ≤ s → s < z2 W → sz_N (pg_cl a b d (s0 + 1) (pg_c1 a b s0 W)) s = sz_N W s ∧ st_N (pg_cl a b d (s0 + 1) (pg_c1 a b s0 W)) s = if 0 < sz_N W s ∧ st_N W s < a then st_N W s + b else st_N W s
    obtain ⟨i1, i2, i3, i4, i5⟩ := cl_ok ha hb d (s0 + 1) (pg_c1 a b s0 W) g1 (by omega) (by omega) (by
      intro s h1 h2 h3
      exact hfit s h1 (by omega) h3)
    rw [g2] at i2 i5
    refine ⟨fun j hj => (i1 j hj).trans (c1 j hj), fun j hj => (i2 j hj).trans (c2 j (by omega)), i3, fun s hs => ?_, fun s h1 h2 => ?_⟩
    · rw [(i4 s (by omega)).1, (i4 s (by omega)).2]
      exact hne s (by omega)
    · by_cases e : s = s0
      · rw [e, (i4 s0 (by omega)).1, (i4 s0 (by omega)).2]
        exact ⟨c4, c5⟩
      · obtain ⟨q1, q2⟩ := i5 s (by omega) h2
        rw [(hne s e).1, (hne s e).2] at q2
        rw [(hne s e).2] at q1
        exact ⟨q1, q2⟩
theorem cp_ok {Z : Nat → Int32} {f a b : Nat} (hf : f ≤ a) (hab : a + b ≤ 496) : (∀ j, j < 5 → pg_cp Z f b a j = Z j) ∧ (∀ j, by_N (pg_cp Z f b a) j = if f + b ≤ j ∧ j < a + b then by_N Z (j - b) else by_N Z j) ∧ (fitB Z → fitB (pg_cp Z f b a)) := by
  have h5 : ∀ i, pg_cp Z f b a (5 + i) = if f + b ≤ i ∧ i < a + b then Z (5 + (i - b)) else Z (5 + i) := by
    intro i
    unfold pg_cp va_cpy
    rw [if_neg (by omega), show 5 + i - 5 = i by omega]
    by_cases h : f + b ≤ i ∧ i < a + b
    · rw [if_pos h, if_pos (by omega), show f + (i - (f + b)) = i - b by omega]
    · rw [if_neg h, if_neg (by omega)]
  refine ⟨fun j hj => ?_, fun j => ?_, fun hZ i hi => ?_⟩
  · unfold pg_cp
    rw [if_pos hj]
  · unfold by_N
    by_cases h : j < 496
    · rw [if_pos h, h5]
      by_cases h2 : f + b ≤ j ∧ j < a + b
      · rw [if_pos h2, if_pos h2, if_pos (by omega)]
      · rw [if_neg h2, if_neg h2, if_pos h]
    · rw [if_neg h, if_neg (by omega), if_neg h]
  · rw [h5]
    by_cases h2 : f + b ≤ i ∧ i < a + b
    · rw [if_pos h2]; exact hZ _ (by omega)
    · rw [if_neg h2]; exact hZ i hi
theorem PG.take {Z : Nat → Int32} {x : Int32} {m k : Nat} {g : Nat → Option vR} {r : vR} (h : PG Z x m g) (hk : g k = some r) : PG (pg_rm Z k (z4 Z) (z2 Z)) x m (va_up g k none) ∧ (∀ j, j < 3 → pg_rm Z k (z4 Z) (z2 Z) j = Z j) ∧ pg_rm Z k (z4 Z) (z2 Z) 3 = Z 3 - 1 ∧ pg_rm Z k (z4 Z) (z2 Z) 4 = nI (z4 Z + sz_N Z k) := by
  obtain ⟨p1, p2, p3, p4, p5, p6⟩ := h
  obtain ⟨k1, k2, k3, k4⟩ := p4 k r hk
  have h4 := p1.2.2.2.1
  unfold pg_rm
  simp only []
  generalize ea : st_N Z k = a at *
  generalize eb : sz_N Z k = b at *
  have eg : pg_cg Z a b (z4 Z) (z2 Z) = pg_cl a b (z2 Z) 0 (upd (pg_cp Z (z4 Z) b a) 4 (nI (z4 Z + b))) := by
    unfold pg_cg
    rw [if_pos ⟨k2, k3⟩]
  rw [eg]
  obtain ⟨u1, u2, u3⟩ := cp_ok (Z := Z) k2 k3
  obtain ⟨C, eC⟩ : ∃ C, C = upd (pg_cp Z (z4 Z) b a) 4 (nI (z4 Z + b)) := ⟨_, rfl⟩
  rw [← eC]
  have cj : ∀ j, j < 4 → C j = Z j := fun j hj => by rw [eC, pk_un (by omega), u1 j (by omega)]
  have c4 : C 4 = nI (z4 Z + b) := by rw [eC, pk_us]
  have cb : ∀ j, by_N C j = if z4 Z + b ≤ j ∧ j < a + b then by_N Z (j - b) else by_N Z j := fun j => by rw [eC, by_upd (by decide)]; exact u2 j
  have cf : fitB C := by rw [eC]; exact fit_upd (by decide) (u3 p1.2.2.2.2)
  have cz2 : z2 C = z2 Z := by unfold z2; rw [cj 2 (by decide)]
  have cz4 : z4 C = z4 Z + b := by unfold z4; rw [c4, nI_clamp (by omega)]; rfl
  have cg : g_ok C := ⟨by rw [cj 2 (by decide), cz2]; exact p1.1, by rw [cz2]; exact p1.2.1, by rw [c4, cz4], by omega, cf⟩
  have cs : ∀ s, s < z2 Z → st_N C s = st_N Z s ∧ sz_N C s = sz_N Z s := fun s hs => st_cg (fun j h1 h2 => by rw [cb j, if_neg (by omega)])
  have hst : ∀ s, s < z2 Z → 0 < sz_N Z s → st_N Z s ≤ 496 := by
    intro s hs h0
    cases hg : g s with
    | none => rw [p5 s hs hg] at h0; omega
    | some q => have := (p4 s q hg).2.2.1; omega
  obtain ⟨d1, d2, d3, -, d5⟩ := cl_ok (a := a) (b := b) (by omega) (by omega) (z2 Z) 0 C cg (by omega) (by omega) (by
    intro s _ h1 h2
    rw [cz2] at h1
    rw [(cs s h1).2] at h2
    rw [(cs s h1).1]
    exact hst s h1 h2)
  rw [cz2] at d2 d5
  generalize pg_cl a b (z2 Z) 0 C = F at *
  obtain ⟨f1, f2, f3⟩ := g_of cg d1 d3
  have k120 : 4 * k + 4 ≤ 496 := by omega
  have y0 : ∀ j, j < 5 → pg_ss F k (nI 0) (nI 0) j = F j := fun j hj => pg_ss_lo _ _ _ _ _ hj
  have yb : ∀ j, j < 4 * k ∨ 4 * k + 4 ≤ j → by_N (pg_ss F k (nI 0) (nI 0)) j = by_N F j := fun j hj => by_ss k120 hj
  have ysz : sz_N (pg_ss F k (nI 0) (nI 0)) k = 0 := sz_ss k120 (by decide)
  have yf : fitB (pg_ss F k (nI 0) (nI 0)) := by
    unfold pg_ss
    exact wr_fit (wr_fit d3 2) 2
  show PG (upd (pg_ss F k (nI 0) (nI 0)) 3 (pg_ss F k (nI 0) (nI 0) 3 - 1)) x m (va_up g k none) ∧ (∀ j, j < 3 → upd (pg_ss F k (nI 0) (nI 0)) 3 (pg_ss F k (nI 0) (nI 0) 3 - 1) j = Z j) ∧ upd (pg_ss F k (nI 0) (nI 0)) 3 (pg_ss F k (nI 0) (nI 0) 3 - 1) 3 = Z 3 - 1 ∧ upd (pg_ss F k (nI 0) (nI 0)) 3 (pg_ss F k (nI 0) (nI 0) 3 - 1) 4 = nI (z4 Z + b)
  generalize pg_ss F k (nI 0) (nI 0) = Y at *
  obtain ⟨E, eE⟩ : ∃ E, E = upd Y 3 (Y 3 - 1) := ⟨_, rfl⟩
  rw [← eE]
  have ej : ∀ j, j < 5 → j ≠ 3 → E j = C j := fun j hj h3 => by rw [eE, pk_un h3, y0 j hj, d1 j hj]
  have e3 : E 3 = Z 3 - 1 := by rw [eE, pk_us, y0 3 (by decide), d1 3 (by decide), cj 3 (by decide)]
  have ebb : by_N E = by_N Y := by rw [eE, by_upd (by decide)]
  have ez2 : z2 E = z2 Z := by unfold z2; rw [ej 2 (by decide) (by decide), cj 2 (by decide)]
  have ez4 : z4 E = z4 Z + b := by unfold z4; rw [ej 4 (by decide) (by decide), c4, nI_clamp (by omega)]; rfl
  have es : ∀ s, s < z2 Z → s ≠ k → sz_N E s = sz_N Z s ∧ st_N E s = if 0 < sz_N Z s ∧ st_N Z s < a then st_N Z s + b else st_N Z s := by
    intro s hs hne
    obtain ⟨q1, q2⟩ := st_cg (Z := F) (Y := E) (k := s) (fun j h1 h2 => by rw [ebb]; exact yb j (by omega))
    obtain ⟨q3, q4⟩ := d5 s (Nat.zero_le s) hs
    rw [(cs s hs).1, (cs s hs).2] at q4
    rw [(cs s hs).2] at q3
    exact ⟨q2.trans q3, q1.trans q4⟩
  have eby : ∀ j, 4 * z2 Z ≤ j → by_N E j = if z4 Z + b ≤ j ∧ j < a + b then by_N Z (j - b) else by_N Z j := fun j hj => by
    rw [ebb, yb j (by omega), d2 j hj]; exact cb j
  have es2 : ∀ s q, s ≠ k → g s = some q → (st_N Z s < a ∧ st_N Z s + sz_N Z s ≤ a ∧ st_N E s = st_N Z s + b) ∨ (a + b ≤ st_N Z s ∧ st_N E s = st_N Z s) := by
    intro s q hne hs
    obtain ⟨s1, s2, s3, s4⟩ := p4 s q hs
    have h0 : 0 < sz_N Z s := by have := s4.2.1; omega
    have hb0 : 0 < b := by have := k4.2.1; omega
    have hd := p6 s k q r hs hk hne
    rw [ea, eb] at hd
    obtain ⟨q1, q2⟩ := es s s1 hne
    by_cases hlt : st_N Z s < a
    · rw [if_pos ⟨h0, hlt⟩] at q2
      exact Or.inl ⟨hlt, by omega, q2⟩
    · rw [if_neg (fun w => hlt w.2)] at q2
      exact Or.inr ⟨by omega, q2⟩
  refine ⟨⟨⟨by rw [ej 2 (by decide) (by decide), cj 2 (by decide), ez2]; exact p1.1, by rw [ez2]; exact p1.2.1, by rw [ej 4 (by decide) (by decide), c4, ez4], by omega, by rw [eE]; exact fit_upd (by decide) yf⟩, by omega, by omega, ?_, ?_, ?_⟩, fun j hj => (ej j (by omega) (by omega)).trans (cj j (by omega)), e3, (ej 4 (by decide) (by decide)).trans c4⟩
  · intro s q hs
    by_cases e : s = k
    · rw [e, va_up_self] at hs; cases hs
    · rw [va_up_ne _ _ e] at hs
      obtain ⟨s1, s2, s3, s4⟩ := p4 s q hs
      have q1 := (es s s1 e).1
      unfold VR
      rw [ez2, ez4, q1]
      rcases es2 s q e hs with ⟨w1, w2, w3⟩ | ⟨w1, w3⟩
      · rw [w3]
        refine ⟨s1, by omega, by omega, VC_cg (fun i hi => ?_) s4⟩
        show by_N E (st_N Z s + b + i) = by_N Z (st_N Z s + i)
        rw [eby _ (by omega), if_pos (by omega), show st_N Z s + b + i - b = st_N Z s + i by omega]
      · rw [w3]
        refine ⟨s1, by omega, s3, VC_cg (fun i hi => ?_) s4⟩
        show by_N E (st_N Z s + i) = by_N Z (st_N Z s + i)
        rw [eby _ (by omega), if_neg (by omega)]
  · intro s hs hg
    rw [ez2] at hs
    by_cases e : s = k
    · rw [e, sz_rdb, ebb, ← sz_rdb]; exact ysz
    · rw [va_up_ne _ _ e] at hg
      rw [(es s hs e).1]
      exact p5 s hs hg
  · intro s s' q q' hs hs' hne
    by_cases e : s = k
    · rw [e, va_up_self] at hs; cases hs
    · by_cases e' : s' = k
      · rw [e', va_up_self] at hs'; cases hs'
      · rw [va_up_ne _ _ e] at hs
        rw [va_up_ne _ _ e'] at hs'
        have q1 := (es s (p4 s q hs).1 e).1
        have q2 := (es s' (p4 s' q' hs').1 e').1
        have hd := p6 s s' q q' hs hs' hne
        have w := es2 s q e hs
        have w' := es2 s' q' e' hs'
        rw [q1, q2]
        omega
