-- ===== chains =====
theorem nd_len : ∀ (n : Nat) (L : List Nat), L.Nodup → (∀ p ∈ L, p < n) → L.length ≤ n
  | 0, L, _, h => by
    cases L with
    | nil => exact Nat.le_refl _
    | cons a l => exact absurd (h a List.mem_cons_self) (by omega)
  | n + 1, L, hd, h => by
    by_cases hn : n ∈ L
    · have h1 := nd_len n (L.erase n) (hd.erase n) (fun p hp => by
        have := (hd.mem_erase_iff).mp hp
        have := h p this.2
        omega)
      rw [List.length_erase_of_mem hn] at h1
      omega
    · have := nd_len n L hd (fun p hp => by
        have h1 := h p hp
        have h2 : p ≠ n := fun e => hn (by rw [← e]; exact hp)
        omega)
      omega
theorem Lk_suf {F : Nat → Int32} : ∀ (l1 l2 : List Nat), Lk F (l1 ++ l2) → Lk F l2
  | [], _, h => h
  | [a], [], _ => trivial
  | [a], b :: l2, h => h.2
  | a :: b :: l1, l2, h => Lk_suf (b :: l1) l2 h.2
theorem Chain.len {M : aR} {t : Nat} {L : List Nat} (h : Chain M t L) : L.length ≤ 60 := nd_len 60 L h.2.1 (fun p hp => ((h.2.2.1 p).mp hp).1)
theorem Chain.at {M : aR} {t p : Nat} {L : List Nat} (h : Chain M t L) (hp : p < 60) (e : M 3 p = nI t) : ∃ r, Lk (M 5) (p :: r) ∧ (p :: r).length ≤ 60 ∧ ∀ q ∈ p :: r, q ∈ L := by
  obtain ⟨l1, r, e2⟩ := List.append_of_mem ((h.2.2.1 p).mpr ⟨hp, e⟩)
  refine ⟨r, Lk_suf l1 _ (by rw [← e2]; exact h.2.2.2), ?_, fun q hq => by rw [e2]; exact List.mem_append_right _ hq⟩
  have := h.len
  rw [e2, List.length_append] at this
  omega
-- ===== the first version in a page from a slot on =====
theorem fh_spec {Z : Nat → Int32} {g : Nat → Option vR} (hg : ∀ s, s < 256 → pg_hd Z s = (g s).isSome) : ∀ (d k : Nat), k + d ≤ 256 → (pg_fh Z d k = -1 ∧ ∀ s, k ≤ s → s < k + d → g s = none) ∨ ∃ s, k ≤ s ∧ s < k + d ∧ pg_fh Z d k = nI s ∧ (g s).isSome = true ∧ ∀ s', k ≤ s' → s' < s → g s' = none
  | 0, k, _ => Or.inl ⟨rfl, fun s h1 h2 => absurd h1 (by omega)⟩
  | d + 1, k, hk => by
    show ((if pg_hd Z k = true then nI k else pg_fh Z d (k + 1)) = -1 ∧ _) ∨ ∃ s, k ≤ s ∧ s < k + (d + 1) ∧ (if pg_hd Z k = true then nI k else pg_fh Z d (k + 1)) = nI s ∧ _
    rw [hg k (by omega)]
    cases hs : (g k).isSome with
    | true => exact Or.inr ⟨k, Nat.le_refl k, by omega, rfl, hs, fun s' h1 h2 => absurd h1 (by omega)⟩
    | false =>
      have h0 : g k = none := by
        cases hh : g k with
        | none => rfl
        | some r => rw [hh] at hs; cases hs
      rw [if_neg (by decide)]
      rcases fh_spec hg d (k + 1) (by omega) with ⟨i1, i2⟩ | ⟨s, i1, i2, i3, i4, i5⟩
      · refine Or.inl ⟨i1, fun s h1 h2 => ?_⟩
        by_cases e : s = k
        · rw [e]; exact h0
        · exact i2 s (by omega) (by omega)
      · refine Or.inr ⟨s, by omega, by omega, i3, i4, fun s' h1 h2 => ?_⟩
        by_cases e : s' = k
        · rw [e]; exact h0
        · exact i5 s' (by omega) h2
theorem pl_dv {p s : Nat} (hp : p < 60) (hs : s < 256) : nI (256 * p + s) / 256 = nI p ∧ nI (256 * p + s) - nI (256 * p + s) / 256 * 256 = nI s := by
  have e : nI (256 * p + s) / 256 = nI p := by
    rw [nI_dv _ (by omega), show (256 * p + s) / 256 = p by omega]
  refine ⟨e, ?_⟩
  rw [e, show nI p * (256 : Int32) = nI (p * 256) from (Int32.ofNat_mul p 256).symm, nI_sb (by omega), show 256 * p + s - p * 256 = s by omega]
theorem ni_spec {M : aR} {p k : Nat} {s0 : Int32} (hp : p < 60) (hs0 : ∀ s, s < 256 → (s0 < nI s ↔ k ≤ s)) : ∀ (n : Nat), (∀ j, j < n → ∃ p s, p < 60 ∧ s < 256 ∧ M 7 j = nI (256 * p + s)) → (y_ni M (nI p) s0 n = -1 ∧ ∀ j s, j < n → s < 256 → M 7 j = nI (256 * p + s) → s < k) ∨ ∃ j s, j < n ∧ s < 256 ∧ k ≤ s ∧ M 7 j = nI (256 * p + s) ∧ y_ni M (nI p) s0 n = nI (256 * p + s) ∧ ∀ j' s', j' < n → s' < 256 → M 7 j' = nI (256 * p + s') → k ≤ s' → s ≤ s'
  | 0, _ => Or.inl ⟨rfl, fun j s h => absurd h (by omega)⟩
  | n + 1, hpl => by
    obtain ⟨p1, s1, hp1, hs1, e1⟩ := hpl n (by omega)
    have ih := ni_spec hp hs0 n (fun j hj => hpl j (by omega))
    have u : y_ni M (nI p) s0 (n + 1) = if (M 7 n / 256 = nI p ∧ s0 < M 7 n - M 7 n / 256 * 256) ∧ (y_ni M (nI p) s0 n < 0 ∨ M 7 n < y_ni M (nI p) s0 n) then M 7 n else y_ni M (nI p) s0 n := rfl
    obtain ⟨d1, d2⟩ := pl_dv hp1 hs1
    rw [u, e1, d1, ← d1, d2, d1]
    by_cases hc : p1 = p ∧ k ≤ s1
    · obtain ⟨rfl, hk⟩ := hc
      have hcond : nI p1 = nI p1 ∧ s0 < nI s1 := ⟨rfl, (hs0 s1 hs1).mpr hk⟩
      rcases ih with ⟨i1, i2⟩ | ⟨j, s, hj, hs, hks, ej, i1, i2⟩
      · rw [i1, if_pos ⟨hcond, Or.inl (by decide)⟩]
        refine Or.inr ⟨n, s1, by omega, hs1, hk, e1, rfl, fun j' s' hj' hs' ej' hk' => ?_⟩
        by_cases ej2 : j' = n
        · rw [ej2, e1] at ej'
          have := (nI_eq (by omega) (by omega)).mp ej'
          omega
        · exact absurd (i2 j' s' (by omega) hs' ej') (by omega)
      · rw [i1]
        by_cases hlt : s1 < s
        · rw [if_pos ⟨hcond, Or.inr ((nI_ltI (by omega) (by omega)).mpr (by omega))⟩]
          refine Or.inr ⟨n, s1, by omega, hs1, hk, e1, rfl, fun j' s' hj' hs' ej' hk' => ?_⟩
          by_cases ej2 : j' = n
          · rw [ej2, e1] at ej'
            have := (nI_eq (by omega) (by omega)).mp ej'
            omega
          · have := i2 j' s' (by omega) hs' ej' hk'
            omega
        · rw [if_neg (fun w => by
            rcases w.2 with w | w
            · exact nI_pos (by omega) w
            · have := (nI_ltI (by omega) (by omega)).mp w; omega)]
          refine Or.inr ⟨j, s, by omega, hs, hks, ej, rfl, fun j' s' hj' hs' ej' hk' => ?_⟩
          by_cases ej2 : j' = n
          · rw [ej2, e1] at ej'
            have := (nI_eq (by omega) (by omega)).mp ej'
            omega
          · exact i2 j' s' (by omega) hs' ej' hk'
    · have hno : ¬ ((nI p1 = nI p ∧ s0 < nI s1) ∧ (y_ni M (nI p) s0 n < 0 ∨ nI (256 * p1 + s1) < y_ni M (nI p) s0 n)) := by
        intro w
        exact hc ⟨(nI_eq (by omega) (by omega)).mp w.1.1, (hs0 s1 hs1).mp w.1.2⟩
      rw [if_neg hno]
      have hx : ∀ s', s' < 256 → M 7 n = nI (256 * p + s') → s' < k := by
        intro s' hs' e'
        rw [e1] at e'
        have := (nI_eq (by omega) (by omega)).mp e'
        have hpp : p1 = p := by omega
        have : s1 = s' := by omega
        rw [← this]
        exact Nat.lt_of_not_le (fun w => hc ⟨hpp, w⟩)
      rcases ih with ⟨i1, i2⟩ | ⟨j, s, hj, hs, hks, ej, i1, i2⟩
      · refine Or.inl ⟨i1, fun j s hj hs ej => ?_⟩
        by_cases ej2 : j = n
        · rw [ej2] at ej; exact hx s hs ej
        · exact i2 j s (by omega) hs ej
      · refine Or.inr ⟨j, s, by omega, hs, hks, ej, i1, fun j' s' hj' hs' ej' hk' => ?_⟩
        by_cases ej2 : j' = n
        · rw [ej2] at ej'; exact absurd (hx s' hs' ej') (by omega)
        · exact i2 j' s' (by omega) hs' ej' hk'
theorem in_page {T : aR} {Z : Nat → Int32} {M : aR} {V : aN} {mn sn p t k : Nat} {s0 : Int32} (hp : p < 60) (hm : mn ≤ 514) (hPl : PlS M mn sn) (hG : PG Z (T t 2) (tm T t) (slots_of M V mn p)) (hk : k ≤ 256) (hs0 : ∀ s, s < 256 → (s0 < nI s ↔ k ≤ s)) : (pg_fh Z (z2 Z - k) k = -1 ∧ y_ni M (nI p) s0 mn = -1) ∨ ∃ s, s < 256 ∧ pg_fh Z (z2 Z - k) k = nI s ∧ y_ni M (nI p) s0 mn = nI (256 * p + s) := by
  have h120 := hG.2.1
  have hsl : ∀ s, s < 256 → slots_of M V mn p s = mrec M V mn (256 * p + s) := fun s hs => by unfold slots_of; rw [if_pos hs]
  have hto : ∀ s, s < 256 → ∀ j, j < mn → M 7 j = nI (256 * p + s) → (slots_of M V mn p s).isSome = true := by
    intro s hs j hj e
    rw [hsl s hs, mrec_some hPl.2.1 hm hj e]
    rfl
  have hz : ∀ s, s < 256 → (slots_of M V mn p s).isSome = true → s < z2 Z := by
    intro s hs h
    cases hh : slots_of M V mn p s with
    | none => rw [hh] at h; cases h
    | some r => exact (hG.2.2.2.1 s r hh).1
  have hsp := fh_spec (g := slots_of M V mn p) (fun s hs => hG.hd hs) (z2 Z - k) k (by omega)
  rcases ni_spec (M := M) hp hs0 mn (fun j hj => by
    obtain ⟨p, s, h1, h2, h3, -⟩ := hPl.1 j hj
    exact ⟨p, s, h1, h2, h3⟩) with ⟨n1, n2⟩ | ⟨j, s, hj, hs, hks, ej, n1, n2⟩
  · rcases hsp with ⟨f1, f2⟩ | ⟨s, f1, f2, f3, f4, f5⟩
    · exact Or.inl ⟨f1, n1⟩
    · exfalso
      rw [hsl s (by omega)] at f4
      rcases mrec_or M V (mn := mn) (256 * p + s) hm with ⟨r1, -⟩ | ⟨j, hj, r1, -⟩
      · rw [r1] at f4; cases f4
      · have := n2 j s hj (by omega) r1
        omega
  · have h1 := hto s hs j hj ej
    have h2 := hz s hs h1
    rcases hsp with ⟨f1, f2⟩ | ⟨s', f1, f2, f3, f4, f5⟩
    · rw [f2 s hks (by omega)] at h1; cases h1
    · refine Or.inr ⟨s', by omega, f3, ?_⟩
      have e : s' = s := by
        rcases Nat.lt_trichotomy s' s with q | q | q
        · rw [hsl s' (by omega)] at f4
          rcases mrec_or M V (mn := mn) (256 * p + s') hm with ⟨r1, -⟩ | ⟨j', hj', r1, -⟩
          · rw [r1] at f4; cases f4
          · have := n2 j' s' hj' (by omega) r1 f1
            omega
        · exact q
        · rw [f5 s hks q] at h1; cases h1
      rw [e]
      exact n1
