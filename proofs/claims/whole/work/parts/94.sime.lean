-- ===== end, behind =====
theorem vrec_cg {M M' : aR} {V : aN} {j : Nat} (h : ∀ i, i < 7 → M' (8 + i) j = M (8 + i) j) (h15 : M' 15 = M 15) (h19 : M' 19 = M 19) (h20 : M' 20 = M 20) (h21 : M' 21 = M 21) : vrec M' V j = vrec M V j := by
  unfold vrec
  congr 1
  · funext i
    by_cases hi : i < 7
    · rw [if_pos hi, if_pos hi, h i hi]
    · rw [if_neg hi, if_neg hi]
  · funext c
    by_cases hc : c < 8
    · rw [if_pos hc, if_pos hc, h15, mcell_cg h19 h20 h21]
    · rw [if_neg hc, if_neg hc]
theorem slots_edit {M M' : aR} {V : aN} {mn sn p s j : Nat} (hPl : PlS M mn sn) (hm : mn ≤ 514) (hp : p < 60) (hs : s < 256) (hj : j < mn) (ej : M 7 j = nI (256 * p + s)) (hc : ∀ i, i < 8 ∨ 14 ≤ i → M' i = M i) (ho : ∀ i j', j' ≠ j → M' i j' = M i j') : ∀ p', p' < 60 → slots_of M' V mn p' = if p' = p then va_up (slots_of M V mn p) s (some (vrec M' V j)) else slots_of M V mn p' := by
  have hI : Inj M mn := hPl.2.1
  intro p' hp'
  have key : ∀ s', s' < 256 → mrec M' V mn (256 * p' + s') = if p' = p ∧ s' = s then some (vrec M' V j) else mrec M V mn (256 * p' + s') := by
    intro s' hs'
    unfold mrec
    rw [fd_cg (hc 7 (by omega))]
    by_cases e : p' = p ∧ s' = s
    · rw [if_pos e, e.1, e.2, fd_some hI hj ej, if_neg (nI_pos (by omega)), nI_clamp (by omega)]
    · rw [if_neg e]
      rcases y_fd_N M (nI (256 * p' + s')) mn with q | ⟨i, hi, q, q2⟩
      · rw [q, if_pos (by decide), if_pos (by decide)]
      · rw [q, if_neg (nI_pos (by omega)), if_neg (nI_pos (by omega)), nI_clamp (by omega)]
        have hne : i ≠ j := by
          intro w
          rw [w, ej] at q2
          have := (nI_eq (by omega) (by omega)).mp q2
          exact e ⟨by omega, by omega⟩
        rw [vrec_cg (fun i7 _ => ho _ _ hne) (hc 15 (by omega)) (hc 19 (by omega)) (hc 20 (by omega)) (hc 21 (by omega))]
  by_cases e : p' = p
  · rw [if_pos e]
    funext s'
    unfold slots_of
    by_cases hs' : s' < 256
    · rw [if_pos hs', key s' hs']
      by_cases e2 : s' = s
      · rw [if_pos ⟨e, e2⟩, e2, va_up_self]
      · rw [if_neg (fun w => e2 w.2), va_up_ne _ _ e2, if_pos hs', e]
    · rw [if_neg hs', va_up_ne _ _ (by omega), if_neg hs']
  · rw [if_neg e]
    funext s'
    unfold slots_of
    by_cases hs' : s' < 256
    · rw [if_pos hs', if_pos hs', key s' hs', if_neg (fun w => e w.1)]
    · rw [if_neg hs', if_neg hs']
theorem Sim0.edit {R : aR} {N : aN} {tl : aB} {T : aR} {pl : aB} {P : aR} {M M' : aR} {V : aN} {sn mn p s t j : Nat} {Z' : Nat → Int32} (h : Sim0 R N tl T pl P M V sn mn) (hm : mn ≤ 514) (hp : p < 60) (hs : s < 256) (t1 : t < 8) (t2 : M 3 p = nI t) (t4 : pl p = true) (hj : j < mn) (ej : M 7 j = nI (256 * p + s)) (hc : ∀ i, i < 8 ∨ 14 ≤ i → M' i = M i) (ho : ∀ i j', j' ≠ j → M' i j' = M i j') (hZ : ∀ i, i < 5 → Z' i = P p i) (hG : PG Z' (T t 2) (tm T t) (va_up (slots_of M V mn p) s (some (vrec M' V j)))) : Sim0 R N tl T pl (va_up P p Z') M' V sn mn := by
  obtain ⟨⟨hR, hSt, hH⟩, hT, ⟨hD, hP, hF, hSl, hSh⟩, hPg, ⟨Ls, hC⟩, hPl, hV⟩ := h
  have c0 := hc 0 (by omega); have c1 := hc 1 (by omega); have c2 := hc 2 (by omega); have c3 := hc 3 (by omega); have c4 := hc 4 (by omega); have c5 := hc 5 (by omega); have c7 := hc 7 (by omega); have c14 := hc 14 (by omega); have c15 := hc 15 (by omega); have c16 := hc 16 (by omega); have c19 := hc 19 (by omega); have c20 := hc 20 (by omega); have c21 := hc 21 (by omega)
  have hSame : Same M M' V V sn := fun s _ => ⟨by rw [c19], by rw [c20], by rw [c21], rfl⟩
  have hPz : ∀ p' i, i < 5 → va_up P p Z' p' i = P p' i := by
    intro p' i hi
    by_cases e : p' = p
    · rw [e, va_up_self]; exact hZ i hi
    · rw [va_up_ne _ _ e]
  refine ⟨⟨hR, ?_, fun c hc => ?_⟩, ?_, ⟨⟨fun p' hp' => ?_, hD.2⟩, fun p' h1 h2 => ?_, ?_, ?_, ?_⟩, ?_, ⟨Ls, ?_⟩, ⟨?_, ?_, fun j hj c hc => ?_⟩, ?_⟩
  · unfold StI
    rw [c19, c20, c21]
    exact hSt
  · rw [c16, mcell_cg c19 c20 c21]
    exact ⟨cok_same hSame (Nat.le_refl _) (hH c hc).1, (hH c hc).2⟩
  · unfold TabS
    rw [c0, c1, c2]
    exact hT
  · have : p' ≠ p := fun e => by rw [e, t4] at hp'; cases hp'
    rw [va_up_ne _ _ this]
    exact hD.1 p' hp'
  · by_cases e : p' = p
    · rw [e, va_up_self]; exact hG.1
    · rw [va_up_ne _ _ e]; exact hP p' h1 h2
  · unfold F_ok
    rw [c5]
    exact hF
  · unfold Sl_ok sl
    rw [c4]
    exact hSl
  · unfold S_ok
    rw [c15]
    exact hSh
  · intro p' hp'
    rw [c3, c4, c5, vn_cg c7, fr_cg c4 c7 c14, hPz p' 0 (by omega), hPz p' 1 (by omega), hPz p' 2 (by omega), hPz p' 3 (by omega), hPz p' 4 (by omega)]
    exact hPg p' hp'
  · intro t ht htl
    unfold Chain
    rw [c2, c3, c5]
    exact hC t ht htl
  · rw [c7, c3]
    exact hPl.1
  · unfold Inj
    rw [c7]
    exact hPl.2.1
  · rw [c15]
    exact cok_same hSame (Nat.le_refl _) (hPl.2.2 j hj c hc)
  · intro p' hp' t' ht' e'
    rw [c3] at e'
    rw [slots_edit hPl hm hp hs hj ej hc ho p' hp']
    by_cases e : p' = p
    · have : t' = t := by
        rw [e, t2] at e'
        exact ((nI_eq (by omega) (by omega)).mp e').symm
      rw [if_pos e, e, va_up_self, this]
      exact hG
    · rw [if_neg e, va_up_ne _ _ e]
      exact hV p' hp' t' ht' e'
theorem sh_of {b : Int32} (h : d_sh b = true) : ∃ n, n < 65536 ∧ b = nI n := by
  obtain ⟨n, hn, e⟩ := m_in_of (n := 65535) (by decide) (show m_in b 0 (nI 65535) = true from h)
  exact ⟨n, by omega, e⟩
theorem d_enZ_lo {Z : Nat → Int32} {k : Nat} {b c : Int32} {j : Nat} (hj : j < 5) : d_enZ Z k b c j = Z j := by
  unfold d_enZ
  rw [pg_wr_lo _ _ _ _ _ _ hj, pg_wr_lo _ _ _ _ _ _ hj]
theorem sim_end : lk_end Sim := by
  intro k R N tl T pl P M V q b c hk h
  have h9 := (sim_base k R N tl T pl P M V hk h).2
  obtain ⟨h0, ⟨s1, s2⟩, ⟨m1, m2⟩, hS⟩ := h
  have e1 : d_sh b = m_in b 0 65535 := rfl
  have e2 : d_sh c = m_in c 0 65535 := rfl
  unfold d_enP y_enM d_en y_en
  rw [← e1, ← e2]
  rcases at_q hS (by omega) q with ⟨a1, a2⟩ | ⟨p, s, t, j, hp, hs, rfl, t1, t2, t3, t4, t5, hj, j1, j2, j3, j4, hG⟩
  · rw [a1, a2]
    exact ⟨rfl, h9⟩
  · rw [j3, j2, decide_eq_false (nI_pos (by omega))]
    refine ⟨rfl, ?_⟩
    cases hb : d_sh b with
    | false => exact h9
    | true =>
      cases hc : d_sh c with
      | false => exact h9
      | true =>
        obtain ⟨bb, hbb, rfl⟩ := sh_of hb
        obtain ⟨cc, hcc, rfl⟩ := sh_of hc
        obtain ⟨q1, q2⟩ := pq hp hs
        show Sim (k + 1) R N tl T pl (va_up P ((nI (256 * p + s)).toNatClampNeg / 256) (d_enZ (P ((nI (256 * p + s)).toNatClampNeg / 256)) ((nI (256 * p + s)).toNatClampNeg % 256) (nI bb) (nI cc))) (va_up (va_up M 11 (upd (M 11) (nI j).toNatClampNeg (nI bb))) 12 (upd (M 12) (nI j).toNatClampNeg (nI cc))) V
        rw [q1, q2, nI_clamp (n := j) (by omega)]
        obtain ⟨M', eM⟩ : ∃ M', M' = va_up (va_up M 11 (upd (M 11) j (nI bb))) 12 (upd (M 12) j (nI cc)) := ⟨_, rfl⟩
        rw [← eM]
        have c11 : M' 11 = upd (M 11) j (nI bb) := by rw [eM, va_up_ne _ _ (by decide), va_up_self]
        have c12 : M' 12 = upd (M 12) j (nI cc) := by rw [eM, va_up_self]
        have co : ∀ i, i ≠ 11 → i ≠ 12 → M' i = M i := fun i h1 h2 => by rw [eM, va_up_ne _ _ h2, va_up_ne _ _ h1]
        have es : y_sn M' = y_sn M := by unfold y_sn; rw [co 17 (by decide) (by decide)]
        have em : y_mn M' = y_mn M := by unfold y_mn; rw [co 6 (by decide) (by decide)]
        refine ⟨by omega, ⟨by rw [es, co 17 (by decide) (by decide)]; exact s1, by omega⟩, ⟨by rw [em, co 6 (by decide) (by decide)]; exact m1, by omega⟩, ?_⟩
        rw [es, em]
        refine hS.edit (by omega) hp hs t1 t2 t4 hj j1 (fun i hi => co i (by omega) (by omega)) (fun i j' hne => ?_) (fun i hi => d_enZ_lo hi) ?_
        · by_cases h1 : i = 11
          · rw [h1, c11, pk_un hne]
          · by_cases h2 : i = 12
            · rw [h2, c12, pk_un hne]
            · rw [co i h1 h2]
        · have er : vrec M' V j = (h_set (h_set (vrec M V j).1 3 (nI bb)) 4 (nI cc), (vrec M V j).2) := by
            unfold vrec
            congr 1
            · funext i
              show (if i < 7 then M' (8 + i) j else 0) = if i = 4 then nI cc else if i = 3 then nI bb else if i < 7 then M (8 + i) j else 0
              by_cases i4 : i = 4
              · rw [if_pos i4, if_pos (by omega), i4, c12, pk_us]
              · rw [if_neg i4]
                by_cases i3 : i = 3
                · rw [if_pos i3, if_pos (by omega), i3, c11, pk_us]
                · rw [if_neg i3]
                  by_cases i7 : i < 7
                  · rw [if_pos i7, if_pos i7, co (8 + i) (by omega) (by omega)]
                  · rw [if_neg i7, if_neg i7]
            · funext c
              show (if c < 8 then mcell M' V (M' 15 (8 * j + c)) else none) = if c < 8 then mcell M V (M 15 (8 * j + c)) else none
              by_cases hc : c < 8
              · rw [if_pos hc, if_pos hc, co 15 (by decide) (by decide), mcell_cg (co 19 (by decide) (by decide)) (co 20 (by decide) (by decide)) (co 21 (by decide) (by decide))]
              · rw [if_neg hc, if_neg hc]
          rw [er]
          exact hG.endd j4 hbb hcc
theorem sim_behind : lk_behind Sim := by
  intro k R N tl T pl P M V q o hk h
  have h9 := (sim_base k R N tl T pl P M V hk h).2
  obtain ⟨h0, ⟨s1, s2⟩, ⟨m1, m2⟩, hS⟩ := h
  have e1 : (decide (o = -1) || d_in o (nI 15360)) = m_in o (-1) 15359 := by
    rw [in_eq (n := 15359) (by decide) o]
    unfold m_in
    rw [← Bool.decide_and, ← Bool.decide_and, ← Bool.decide_or]
    refine decide_eq_decide.mpr ?_
    rw [Int32.le_iff_toInt_le, Int32.le_iff_toInt_le, Int32.le_iff_toInt_le, Int32.le_iff_toInt_le, ← Int32.toInt_inj, show (-1 : Int32).toInt = -1 from rfl, show (0 : Int32).toInt = 0 from rfl, show (nI 15359).toInt = 15359 from rfl, show (15359 : Int32).toInt = 15359 from rfl]
    omega
  unfold d_bhP y_bhM d_bh y_bh
  rw [e1]
  rcases at_q hS (by omega) q with ⟨a1, a2⟩ | ⟨p, s, t, j, hp, hs, rfl, t1, t2, t3, t4, t5, hj, j1, j2, j3, j4, hG⟩
  · rw [a1, a2]
    exact ⟨rfl, h9⟩
  · rw [j3, j2, decide_eq_false (nI_pos (by omega))]
    refine ⟨rfl, ?_⟩
    cases hb : m_in o (-1) 15359 with
    | false => exact h9
    | true =>
      obtain ⟨w, hw, ew⟩ : ∃ w, w < 65536 ∧ o + 1 = nI w := by
        rw [← e1] at hb
        rw [Bool.or_eq_true, decide_eq_true_eq] at hb
        rcases hb with hb | hb
        · exact ⟨0, by omega, by rw [hb]; rfl⟩
        · obtain ⟨i, hi, rfl⟩ := d_in_of (by decide) hb
          exact ⟨i + 1, by omega, nI_1 i⟩
      have eo : o = nI w - 1 := by rw [← ew, Int32.add_sub_cancel]
      obtain ⟨q1, q2⟩ := pq hp hs
      show Sim (k + 1) R N tl T pl (va_up P ((nI (256 * p + s)).toNatClampNeg / 256) (pg_wr (P ((nI (256 * p + s)).toNatClampNeg / 256)) (st_N (P ((nI (256 * p + s)).toNatClampNeg / 256)) ((nI (256 * p + s)).toNatClampNeg % 256) + 12) 2 (o + 1).toInt64 2)) (va_up M 13 (upd (M 13) (nI j).toNatClampNeg o)) V
      rw [q1, q2, nI_clamp (n := j) (by omega), ew, eo]
      obtain ⟨M', eM⟩ : ∃ M', M' = va_up M 13 (upd (M 13) j (nI w - 1)) := ⟨_, rfl⟩
      rw [← eM]
      have c13 : M' 13 = upd (M 13) j (nI w - 1) := by rw [eM, va_up_self]
      have co : ∀ i, i ≠ 13 → M' i = M i := fun i h1 => by rw [eM, va_up_ne _ _ h1]
      have es : y_sn M' = y_sn M := by unfold y_sn; rw [co 17 (by decide)]
      have em : y_mn M' = y_mn M := by unfold y_mn; rw [co 6 (by decide)]
      refine ⟨by omega, ⟨by rw [es, co 17 (by decide)]; exact s1, by omega⟩, ⟨by rw [em, co 6 (by decide)]; exact m1, by omega⟩, ?_⟩
      rw [es, em]
      refine hS.edit (by omega) hp hs t1 t2 t4 hj j1 (fun i hi => co i (by omega)) (fun i j' hne => ?_) (fun i hi => pg_wr_lo _ _ _ _ _ _ hi) ?_
      · by_cases h1 : i = 13
        · rw [h1, c13, pk_un hne]
        · rw [co i h1]
      · have er : vrec M' V j = (h_set (vrec M V j).1 5 (nI w - 1), (vrec M V j).2) := by
          unfold vrec
          congr 1
          · funext i
            show (if i < 7 then M' (8 + i) j else 0) = if i = 5 then nI w - 1 else if i < 7 then M (8 + i) j else 0
            by_cases i4 : i = 5
            · rw [if_pos i4, if_pos (by omega), i4, c13, pk_us]
            · rw [if_neg i4]
              by_cases i7 : i < 7
              · rw [if_pos i7, if_pos i7, co (8 + i) (by omega)]
              · rw [if_neg i7, if_neg i7]
          · funext c
            show (if c < 8 then mcell M' V (M' 15 (8 * j + c)) else none) = if c < 8 then mcell M V (M 15 (8 * j + c)) else none
            by_cases hc : c < 8
            · rw [if_pos hc, if_pos hc, co 15 (by decide), mcell_cg (co 19 (by decide)) (co 20 (by decide)) (co 21 (by decide))]
            · rw [if_neg hc, if_neg hc]
        rw [er]
        exact hG.behind j4 hw
