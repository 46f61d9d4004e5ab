-- ===== next =====
theorem up_no {pl : aB} {P : aR} : d_up pl P (-1) = false := by
  unfold d_up d_in
  rw [decide_eq_false (by decide)]
  rfl
theorem fv_no {pl : aB} {P : aR} : ∀ d k, d_fv pl P d (-1) k = -1
  | 0, _ => rfl
  | d + 1, k => by
    show (if d_up pl P (-1) = true then _ else -1) = -1
    rw [up_no, if_neg (by decide)]
theorem nl_pos {M : aR} {mn : Nat} {f : Int32} (h : ¬ f < 0) : ∀ d p, y_nl M mn d p f = f
  | 0, _ => rfl
  | d + 1, p => by
    show (if f < 0 ∧ 0 ≤ M 5 p then _ else f) = f
    rw [if_neg (fun q => h q.1)]
theorem walk_next {R : aR} {N : aN} {tl : aB} {T : aR} {pl : aB} {P : aR} {M : aR} {V : aN} {sn mn t : Nat} (h : Sim0 R N tl T pl P M V sn mn) (hm : mn ≤ 514) (ht : t < 8) : ∀ (r : List Nat) (p k d d' : Nat) (s0 : Int32), Lk (M 5) (p :: r) → (∀ q ∈ p :: r, q < 60 ∧ M 3 q = nI t) → (p :: r).length ≤ d → r.length ≤ d' → k ≤ 256 → (∀ s, s < 256 → (s0 < nI s ↔ k ≤ s)) → d_fv pl P d (nI p) k = y_nl M mn d' p (y_ni M (nI p) s0 mn) := by
  have hPg := h.2.2.2.1
  have hPl := h.2.2.2.2.2.1
  have hV := h.2.2.2.2.2.2
  intro r
  induction r with
  | nil =>
    intro p k d d' s0 hL hq hd hd' hk hs0
    obtain ⟨hp, h3⟩ := hq p List.mem_cons_self
    obtain ⟨d, rfl⟩ : ∃ e, d = e + 1 := ⟨d - 1, by simp at hd; omega⟩
    have hL : M 5 p = -1 := hL
    obtain ⟨e, q⟩ := hPg p hp
    rcases up_eq hPg hp with ⟨u1, -⟩ | ⟨t', a1, a2, a3, a4, a5, a6⟩
    · rw [u1] at h3; exact absurd h3.symm (nI_m1 (by omega))
    · show (if d_up pl P (nI p) = true then (if pg_fh (P (nI p).toNatClampNeg) (z2 (P (nI p).toNatClampNeg) - k) k = -1 then d_fv pl P d (P (nI p).toNatClampNeg 1) 0 else 256 * nI p + pg_fh (P (nI p).toNatClampNeg) (z2 (P (nI p).toNatClampNeg) - k) k) else -1) = _
      rw [a6, if_pos rfl, nI_clamp (by omega)]
      rcases in_page (T := T) (t := t) hp hm hPl (hV p hp t ht h3) hk hs0 with ⟨f1, f2⟩ | ⟨s, f0, f1, f2⟩
      · rw [f1, f2, if_pos rfl]
        have e1 : P p 1 = -1 := by
          rcases q with q | ⟨_, _, _, _, _, r5, _⟩
          · rw [q] at h3; exact absurd h3.symm (nI_m1 (by omega))
          · rw [r5, hL]
        rw [e1, fv_no]
        cases d' with
        | zero => rfl
        | succ d' =>
          show _ = (if (-1 : Int32) < 0 ∧ 0 ≤ M 5 p then _ else -1)
          rw [hL, if_neg (by decide)]
      · rw [f1, f2, if_neg (nI_m1 (by omega)), nl_pos (nI_pos (by omega)), show (256 : Int32) * nI p = nI (256 * p) from (Int32.ofNat_mul 256 p).symm, nI_add]
  | cons p2 r ih =>
    intro p k d d' s0 hL hq hd hd' hk hs0
    obtain ⟨hp, h3⟩ := hq p List.mem_cons_self
    obtain ⟨d, rfl⟩ : ∃ e, d = e + 1 := ⟨d - 1, by simp at hd; omega⟩
    obtain ⟨d', rfl⟩ : ∃ e, d' = e + 1 := ⟨d' - 1, by simp at hd'; omega⟩
    obtain ⟨hL5, hL2⟩ : M 5 p = nI p2 ∧ Lk (M 5) (p2 :: r) := hL
    obtain ⟨hp2, h32⟩ := hq p2 (List.mem_cons_of_mem _ List.mem_cons_self)
    obtain ⟨e, q⟩ := hPg p hp
    rcases up_eq hPg hp with ⟨u1, -⟩ | ⟨t', a1, a2, a3, a4, a5, a6⟩
    · rw [u1] at h3; exact absurd h3.symm (nI_m1 (by omega))
    · show (if d_up pl P (nI p) = true then (if pg_fh (P (nI p).toNatClampNeg) (z2 (P (nI p).toNatClampNeg) - k) k = -1 then d_fv pl P d (P (nI p).toNatClampNeg 1) 0 else 256 * nI p + pg_fh (P (nI p).toNatClampNeg) (z2 (P (nI p).toNatClampNeg) - k) k) else -1) = _
      rw [a6, if_pos rfl, nI_clamp (by omega)]
      rcases in_page (T := T) (t := t) hp hm hPl (hV p hp t ht h3) hk hs0 with ⟨f1, f2⟩ | ⟨s, f0, f1, f2⟩
      · rw [f1, f2, if_pos rfl]
        have e1 : P p 1 = nI p2 := by
          rcases q with q | ⟨_, _, _, _, _, r5, _⟩
          · rw [q] at h3; exact absurd h3.symm (nI_m1 (by omega))
          · rw [r5, hL5]
        have u : y_nl M mn (d' + 1) p (-1) = y_nl M mn d' p2 (y_ni M (nI p2) (-1) mn) := by
          show (if (-1 : Int32) < 0 ∧ 0 ≤ M 5 p then y_nl M mn d' (M 5 p).toNatClampNeg (y_ni M (M 5 p) (-1) mn) else -1) = _
          rw [hL5, if_pos ⟨by decide, nI_pos' (by omega)⟩, nI_clamp (by omega)]
        rw [e1, u]
        refine ih p2 0 d d' (-1) hL2 (fun q hq2 => hq q (List.mem_cons_of_mem _ hq2)) (by simp at hd ⊢; omega) (by simp at hd'; omega) (by omega) (fun s hs => ⟨fun _ => Nat.zero_le _, fun _ => Int32.lt_of_lt_of_le (by decide) (nI_pos' (n := s) (by omega))⟩)
      · rw [f1, f2, if_neg (nI_m1 (by omega)), nl_pos (nI_pos (by omega)), show (256 : Int32) * nI p = nI (256 * p) from (Int32.ofNat_mul 256 p).symm, nI_add]
theorem th_eq {tl : aB} {T : aR} {M : aR} (h : TabS tl T M) (t : Int32) : d_tb tl t = y_th M t := by
  unfold d_tb y_th
  rw [show (nI 8 : Int32) = nI (7 + 1) from rfl, in_eq (n := 7) (by decide) t]
  cases hi : m_in t 0 (nI 7) with
  | false => rfl
  | true =>
    obtain ⟨i, hi8, rfl⟩ := m_in_of (by decide) hi
    rw [nI_clamp (by omega)]
    have := h.th (t := i) hi8
    cases e : tl i with
    | true => rw [decide_eq_true (this.mp e)]
    | false => rw [decide_eq_false (fun q => by rw [this.mpr q] at e; cases e)]
theorem sim_next : lk_next Sim := by
  intro k R N tl T pl P M V t q hk h
  obtain ⟨h0, ⟨s1, s2⟩, ⟨m1, m2⟩, hS⟩ := h
  have hT := hS.2.1
  have hPg := hS.2.2.2.1
  obtain ⟨Ls, hC⟩ := hS.2.2.2.2.1
  unfold d_nx y_nx
  rw [th_eq hT]
  cases hy : y_th M t with
  | false => rw [if_neg (by decide), if_neg (fun w => by cases w.1)]
  | true =>
    obtain ⟨i, hi, rfl, h0i⟩ := y_th_in hy
    have htl : tl i = true := (hT.th hi).mpr h0i
    have hCh := hC i hi htl
    rw [if_pos rfl, nI_clamp (by omega)]
    by_cases hq1 : q = -1
    · subst hq1
      rw [if_pos rfl, if_pos ⟨rfl, by decide, Or.inl (by decide)⟩, if_pos (by decide)]
      obtain ⟨⟨f, r, eL, ef⟩, -, hmem, hLk⟩ := id hCh
      obtain ⟨m, -, -, -, -, eT, -⟩ := (hT i hi).1 htl
      have hlen := hCh.len
      rw [eL] at hlen hLk
      have hf60 : f < 60 := ((hmem f).mp (by rw [eL]; exact List.mem_cons_self)).1
      rw [eT, ef, nI_clamp (by omega)]
      exact walk_next hS (by omega) hi r f 0 60 60 (-1) hLk (fun q hq => (hmem q).mp (by rw [eL]; exact hq)) hlen (by simp at hlen; omega) (by omega) (fun s hs => ⟨fun _ => Nat.zero_le _, fun _ => Int32.lt_of_lt_of_le (by decide) (nI_pos' (n := s) (by omega))⟩)
    · rw [if_neg hq1]
      have ein : d_in q (nI 15360) = m_in q (-1) 15359 := by
        rw [in_eq (n := 15359) (by decide) q]
        unfold m_in
        rw [← Bool.decide_and, ← Bool.decide_and]
        refine decide_eq_decide.mpr ?_
        have hq1 : ¬ q.toInt = -1 := fun w => hq1 (Int32.toInt_inj.mp w)
        rw [Int32.le_iff_toInt_le, Int32.le_iff_toInt_le, Int32.le_iff_toInt_le, Int32.le_iff_toInt_le, show (-1 : Int32).toInt = -1 from rfl, show (0 : Int32).toInt = 0 from rfl, show (nI 15359).toInt = 15359 from rfl, show (15359 : Int32).toInt = 15359 from rfl]
        omega
      rw [ein]
      cases hin : m_in q (-1) 15359 with
      | false => rw [if_neg (by decide), if_neg (fun w => by cases w.2.1)]
      | true =>
        rw [← ein] at hin
        obtain ⟨a, ha, rfl⟩ := d_in_of (by decide) hin
        rw [if_pos rfl, nI_clamp (by omega)]
        have hneg : ¬ nI a < 0 := nI_pos (by omega)
        have hp : a / 256 < 60 := by omega
        obtain ⟨e, -⟩ := hPg (a / 256) hp
        by_cases h3 : M 3 (a / 256) = nI i
        · have hup : d_up pl P (nI (a / 256)) = true := by
            rcases up_eq hPg hp with ⟨u1, -⟩ | ⟨t', _, _, _, _, _, a6⟩
            · rw [u1] at h3; exact absurd h3.symm (nI_m1 (by omega))
            · exact a6
          rw [if_pos ⟨hup, e.trans h3⟩, if_pos ⟨rfl, rfl, Or.inr h3⟩, if_neg hneg]
          obtain ⟨r, hLk, hlen, hsub⟩ := hCh.at hp h3
          exact walk_next hS (by omega) hi r (a / 256) (a % 256 + 1) 60 60 (nI (a % 256)) hLk (fun q hq => (hCh.2.2.1 q).mp (hsub q hq)) hlen (by simp at hlen; omega) (by omega) (fun s hs => by
            rw [nI_ltI (by omega) (by omega)]
            omega)
        · rw [if_neg (fun w => h3 (e.symm.trans w.2)), if_neg (fun w => by
            rcases w.2.2 with z | z
            · exact hneg z
            · exact h3 z)]
