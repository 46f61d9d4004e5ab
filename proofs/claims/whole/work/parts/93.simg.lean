-- ===== text =====
theorem fr0_ok {R : aR} {N : aN} {M : aR} {V : aN} {sn c : Nat} (h : HandS R N M V sn) (hsn : sn < 515) (hc : c < 8) : y_fr0 M c ≤ sn ∧ 0 ≤ M 19 (y_fr0 M c) ∧ M 21 (y_fr0 M c) = nI (otx (dcell R N c)).length ∧ mtxt M V (y_fr0 M c) = otx (dcell R N c) := by
  obtain ⟨hR, hS, hH⟩ := h
  obtain ⟨h1, h2⟩ := hH c hc
  obtain ⟨-, hle, -⟩ := cok_so hsn h1
  have e : (y_tx M (M 16 c) = true ∧ ¬ M 16 c = 0 ∧ 0 ≤ M 19 (so (M 16 c))) ∨ (y_tx M (M 16 c) = false ∧ otx (dcell R N c) = []) := by
    rw [h2]
    unfold mcell y_tx
    by_cases w0 : M 16 c = 0
    · rw [if_pos w0, decide_eq_true w0]; exact Or.inr ⟨rfl, rfl⟩
    · rw [if_neg w0, decide_eq_false w0]
      by_cases w1 : 0 ≤ M 19 (so (M 16 c))
      · exact Or.inl ⟨by show (!false && decide (0 ≤ M 19 (so (M 16 c)))) = true; rw [decide_eq_true w1]; rfl, w0, w1⟩
      · refine Or.inr ⟨by show (!false && decide (0 ≤ M 19 (so (M 16 c)))) = false; rw [decide_eq_false w1]; rfl, ?_⟩
        rw [if_neg w1]
        by_cases w2 : 0 < M 16 c
        · rw [if_pos w2]; rfl
        · rw [if_neg w2]; rfl
  unfold y_fr0
  rcases e with ⟨e1, e2, e3⟩ | ⟨e1, e2⟩
  · rw [e1, if_pos rfl]
    have es : hs M c = so (M 16 c) := rfl
    rw [es]
    obtain ⟨n, l, -, -, hl, -, e21, -⟩ := hS.text hle e3
    have ed : otx (dcell R N c) = mtxt M V (so (M 16 c)) := by
      rw [h2]
      unfold mcell
      rw [if_neg e2, if_pos e3]
      rfl
    rw [ed, mtxt_len e21 hl]
    exact ⟨hle, e3, e21, rfl⟩
  · rw [e1, if_neg (by decide), e2, mtxt_0 hS, hS.1.1, hS.1.2.2]
    exact ⟨Nat.zero_le _, by decide, rfl, rfl⟩
theorem sim_text : lk_text Sim := by
  intro k R N tl T pl P M V c n v hk h
  have h9 := (sim_base k R N tl T pl P M V hk h).2
  obtain ⟨h0, ⟨s1, s2⟩, ⟨m1, m2⟩, hS⟩ := h
  have eq : d_tx R c n = y_tk M c n := by
    unfold d_tx y_tk
    rw [show (nI 8 : Int32) = nI (7 + 1) from rfl, in_eq (n := 7) (by decide) c]
    cases hi : m_in c 0 (nI 7) with
    | false => rfl
    | true =>
      obtain ⟨i, hi8, rfl⟩ := m_in_of (by decide) hi
      obtain ⟨-, -, f3, -⟩ := fr0_ok hS.1 (by omega) hi8
      rw [nI_clamp (by omega), f3, (ln_otx (N := N) hi8 hS.1.1).1]
      unfold m_in
      rw [Bool.and_assoc]
      rfl
  refine ⟨eq, ?_⟩
  unfold d_txR y_tkM y_tkV
  rw [eq]
  cases hy : y_tk M c n with
  | false => exact h9
  | true =>
    rw [if_pos rfl, if_pos rfl, if_pos rfl]
    unfold y_tk at hy
    rw [Bool.and_eq_true, Bool.and_eq_true, decide_eq_true_eq] at hy
    obtain ⟨hi, hn, hle⟩ := hy
    obtain ⟨i, hi8, rfl⟩ := m_in_of (by decide) hi
    obtain ⟨nn, hnn, rfl⟩ := m_in_of (by decide) hn
    rw [nI_clamp (by omega)] at hle ⊢
    obtain ⟨f1, f2, f3, f4⟩ := fr0_ok hS.1 (by omega) hi8
    obtain ⟨-, l2⟩ := ln_otx (N := N) hi8 hS.1.1
    rw [f3, nI_add] at hle
    have hle : (otx (dcell R N i)).length + nn ≤ 31 := (nI_leI (b := 31) (by omega) (by decide)).mp hle
    obtain ⟨a1, a2, a3, a4, a5, a6⟩ := step_ok (V := V) (c := i) (n := nI nn) (f := y_fr0 M i) (v := v) hS.1.2.1 (by omega) (Or.inr ⟨nn, _, rfl, by omega, f1, f2, f3, hle⟩)
    have hne : ¬ nI nn = -1 := by
      intro q
      have := nI_pos (n := nn) (by omega)
      rw [q] at this
      exact this (by decide)
    rw [if_neg hne, nI_clamp (by omega), f4] at a6
    rw [nI_clamp (by omega)]
    generalize y_ce M i (y_sn M + 1) (nI nn) (y_fr0 M i) = M' at *
    generalize vp_updL V (y_sn M + 1) v = V' at *
    have es : y_sn M' = y_sn M + 1 := by
      show (M' 17 0).toNatClampNeg = _
      rw [a4, nI_clamp (by omega)]
    have em : y_mn M' = y_mn M := by unfold y_mn; rw [a3 6 (by omega)]
    refine ⟨by omega, ⟨by rw [es]; exact a4, by omega⟩, ⟨by rw [em, a3 6 (by omega)]; exact m1, by omega⟩, ?_⟩
    rw [es, em]
    obtain ⟨t1, t2, t3, t4, t5⟩ := mt_AL (N := N) hi8 hS.1.1
    have hA := tl_AL (c := i) (v := v) hi8 nn (h_mt R (nI i)) (by omega) t1 t2 (by rw [t4]; exact hle)
    refine hS.hand (by omega) (by omega) (by omega) a3 a2 ⟨hA.1, a1, fun c' hc' => ?_⟩
    rw [a5, AL_cell hA t2 hc', t4]
    by_cases e : c' = i
    · rw [e, pk_us, if_pos rfl]
      exact ⟨⟨_, Nat.le_refl _, Or.inl rfl⟩, a6.symm⟩
    · rw [pk_un e, if_neg e, mt_cell hi8 hS.1.1, if_neg e]
      exact ⟨cok_same a2 (by omega) (hS.1.2.2 c' hc').1, by rw [mcell_same hS.1.2.1 (by omega) a2 (hS.1.2.2 c' hc').1]; exact (hS.1.2.2 c' hc').2⟩
-- ===== what lies at a place =====
theorem nI_m1 {t : Nat} (h : t < 2 ^ 31) : ¬ nI t = -1 := by
  intro q
  have := nI_pos h
  rw [q] at this
  exact this (by decide)
theorem up_eq {tl pl : aB} {P M : aR} {mn p : Nat} (h : PagS tl pl P M mn) (hp : p < 60) : (M 3 p = -1 ∧ P p 0 = -1 ∧ d_up pl P (nI p) = false) ∨ ∃ t, t < 8 ∧ M 3 p = nI t ∧ tl t = true ∧ pl p = true ∧ P p 0 = nI t ∧ d_up pl P (nI p) = true := by
  obtain ⟨e, q⟩ := h p hp
  rw [d_up_nI hp]
  rcases q with q | ⟨t, h1, h2, h3, h4, -⟩
  · rw [e, q]
    refine Or.inl ⟨rfl, rfl, ?_⟩
    rw [decide_eq_true rfl]
    cases pl p <;> rfl
  · rw [e, h2, h4, decide_eq_false (nI_m1 (by omega))]
    exact Or.inr ⟨t, h1, rfl, h3, rfl, rfl, rfl⟩
theorem at_q {R : aR} {N : aN} {tl : aB} {T : aR} {pl : aB} {P : aR} {M : aR} {V : aN} {sn mn : Nat} (h : Sim0 R N tl T pl P M V sn mn) (hm : mn ≤ 514) (q : Int32) : (d_wv pl P q = false ∧ y_fd M q mn = -1) ∨ ∃ p s t j, p < 60 ∧ s < 256 ∧ q = nI (256 * p + s) ∧ t < 8 ∧ M 3 p = nI t ∧ tl t = true ∧ pl p = true ∧ P p 0 = nI t ∧ j < mn ∧ M 7 j = nI (256 * p + s) ∧ y_fd M (nI (256 * p + s)) mn = nI j ∧ d_wv pl P (nI (256 * p + s)) = true ∧ slots_of M V mn p s = some (vrec M V j) ∧ PG (P p) (T t 2) (tm T t) (slots_of M V mn p) := by
  obtain ⟨-, -, -, hPg, -, ⟨pl1, pl2, -⟩, hV⟩ := h
  cases hq : d_in q (nI 15360) with
  | false =>
    refine Or.inl ⟨by unfold d_wv; rw [hq]; rfl, fd_none (fun j hj e => ?_)⟩
    obtain ⟨p, s, h1, h2, h3, -⟩ := pl1 j hj
    rw [← e, h3, d_in_nI (by omega) (by omega)] at hq
    cases hq
  | true =>
    obtain ⟨k, hk, rfl⟩ := d_in_of (by decide) hq
    have ek : k = 256 * (k / 256) + k % 256 := by omega
    have hp : k / 256 < 60 := by omega
    have hs : k % 256 < 256 := by omega
    rw [d_wv_nI hk]
    rcases up_eq hPg hp with ⟨u1, u2, u3⟩ | ⟨t, t1, t2, t3, t4, t5, t6⟩
    · refine Or.inl ⟨by rw [u3]; rfl, fd_none (fun j hj e => ?_)⟩
      obtain ⟨p, s, h1, h2, h3, t, h4, h5⟩ := pl1 j hj
      have : 256 * p + s = k := (nI_eq (by omega) (by omega)).mp (h3.symm.trans e)
      have : p = k / 256 := by omega
      rw [← this, h5] at u1
      exact nI_m1 (by omega) u1
    · have hP := hV (k / 256) hp t t1 t2
      rw [t6, hP.hd hs]
      have esl : slots_of M V mn (k / 256) (k % 256) = mrec M V mn k := by
        unfold slots_of
        rw [if_pos hs, ← ek]
      rw [esl]
      rcases mrec_or M V (mn := mn) k hm with ⟨r1, r2, -⟩ | ⟨j, hj, r1, r2, r3⟩
      · rw [r1]
        exact Or.inl ⟨rfl, r2⟩
      · refine Or.inr ⟨k / 256, k % 256, t, j, hp, hs, ?_, t1, t2, t3, t4, t5, hj, ?_, ?_, ?_, ?_, hP⟩
        · rw [← ek]
        · rw [← ek]; exact r1
        · rw [← ek]; exact r3
        · rw [← ek, d_wv_nI hk, t6, hP.hd hs, esl, r2]; rfl
        · rw [esl]; exact r2
theorem pq {p s : Nat} (hp : p < 60) (hs : s < 256) : (nI (256 * p + s)).toNatClampNeg / 256 = p ∧ (nI (256 * p + s)).toNatClampNeg % 256 = s := by
  rw [nI_clamp (by omega)]
  omega
theorem sim_look : lk_look Sim := by
  intro k R N tl T pl P M V q w hk h
  obtain ⟨h0, ⟨s1, s2⟩, ⟨m1, m2⟩, hS⟩ := h
  unfold d_lk y_lk
  rcases at_q hS (by omega) q with ⟨a1, a2⟩ | ⟨p, s, t, j, hp, hs, rfl, t1, t2, t3, t4, t5, hj, j1, j2, j3, j4, hG⟩
  · rw [a1, a2]; rfl
  · obtain ⟨e1, e2⟩ := pq hp hs
    rw [j3, if_pos rfl, j2, if_neg (nI_pos (by omega)), e1, e2, hG.look j4, nI_clamp (n := j) (by omega)]
    unfold y_lkv
    rw [e1, t2, t5]
    rfl
theorem sim_page : lk_page Sim := by
  intro k R N tl T pl P M V p w hk h
  obtain ⟨h0, ⟨s1, s2⟩, ⟨m1, m2⟩, hS⟩ := h
  have hPg := hS.2.2.2.1
  unfold d_pg y_pg
  rw [in_eq (n := 59) (by decide) p]
  cases hi : m_in p 0 (nI 59) with
  | false => rfl
  | true =>
    obtain ⟨i, hi60, rfl⟩ := m_in_of (by decide) hi
    rw [if_pos rfl, nI_clamp (by omega)]
    have hw : m_in w 0 4 = true ↔ (w = 0 ∨ w = 1 ∨ w = 2 ∨ w = 3 ∨ w = 4) := by
      constructor
      · intro q
        obtain ⟨n, hn, rfl⟩ := m_in_of (n := 4) (by decide) q
        rcases (show n = 0 ∨ n = 1 ∨ n = 2 ∨ n = 3 ∨ n = 4 by omega) with rfl | rfl | rfl | rfl | rfl <;> decide
      · rintro (rfl | rfl | rfl | rfl | rfl) <;> decide
    unfold d_fp d_ff y_pgv
    obtain ⟨e, q⟩ := hPg i hi60
    rcases up_eq hPg hi60 with ⟨u1, u2, u3⟩ | ⟨t, t1, t2, t3, t4, t5, t6⟩
    · rw [u3, u1]
      by_cases hh : m_in w 0 4 = true
      · rcases hw.mp hh with rfl | rfl | rfl | rfl | rfl <;> rfl
      · rw [if_neg (show ¬ (true = true ∧ m_in w 0 4 = true) from fun z => hh z.2), if_neg (show ¬ (false = true) by decide)]
        have hn := fun z => hh (hw.mpr z)
        rw [if_neg (fun z => hn (Or.inr (Or.inl z))), if_neg (fun z => hn (Or.inr (Or.inr (Or.inl z)))), if_neg (fun z => hn (Or.inr (Or.inr (Or.inr (Or.inl z)))))]
    · rcases q with q | ⟨t', r1, r2, r3, r4, r5, r6, r7, r8⟩
      · rw [q] at t2; exact absurd t2.symm (nI_m1 (by omega))
      · rw [t6, t2]
        have hnn : ¬ nI t < 0 := nI_pos (by omega)
        unfold pg_fb
        rw [if_neg hnn, if_neg hnn, if_neg hnn, if_neg hnn, t5, r5, r7, r8, r6]
        by_cases hh : m_in w 0 4 = true
        · rcases hw.mp hh with rfl | rfl | rfl | rfl | rfl <;> rfl
        · rw [if_neg (show ¬ (true = true ∧ m_in w 0 4 = true) from fun z => hh z.2), if_pos (show true = true from rfl)]
          have hn := fun z => hh (hw.mpr z)
          rw [if_neg (fun z => hn (Or.inl z)), if_neg (fun z => hn (Or.inr (Or.inl z))), if_neg (fun z => hn (Or.inr (Or.inr (Or.inl z)))), if_neg (fun z => hn (Or.inr (Or.inr (Or.inr (Or.inl z))))), if_neg (fun z => hn (Or.inr (Or.inr (Or.inr (Or.inr z)))))]
theorem sim_get : lk_get Sim := by
  intro k R N tl T pl P M V q hk h
  have h9 := (sim_base k R N tl T pl P M V hk h).2
  obtain ⟨h0, ⟨s1, s2⟩, ⟨m1, m2⟩, hS⟩ := h
  unfold d_gtR d_gtN d_gt y_gt
  rcases at_q hS (by omega) q with ⟨a1, a2⟩ | ⟨p, s, t, j, hp, hs, rfl, t1, t2, t3, t4, t5, hj, j1, j2, j3, j4, hG⟩
  · rw [a1, a2]
    exact ⟨rfl, h9⟩
  · obtain ⟨e1, e2⟩ := pq hp hs
    unfold d_gtT
    rw [j3, j2, e1, e2, t5, d_tb_nI t1, t3, if_neg (nI_pos (by omega)), decide_eq_false (nI_pos (by omega)), Bool.and_self, if_pos rfl, if_pos rfl, nI_clamp (n := t) (by omega), nI_clamp (n := j) (by omega)]
    refine ⟨rfl, ?_⟩
    obtain ⟨M', eM⟩ : ∃ M', M' = va_up M 16 (fun c => if c < 8 then M 15 (8 * j + c) else M 16 c) := ⟨_, rfl⟩
    rw [← eM]
    have c16 : ∀ c, c < 8 → M' 16 c = M 15 (8 * j + c) := by
      intro c hc
      rw [eM, va_up_self]
      show (if c < 8 then M 15 (8 * j + c) else M 16 c) = _
      rw [if_pos hc]
    have co : ∀ i, i ≠ 16 → M' i = M i := fun i hi => by rw [eM, va_up_ne _ _ hi]
    have es : y_sn M' = y_sn M := by unfold y_sn; rw [co 17 (by decide)]
    have em : y_mn M' = y_mn M := by unfold y_mn; rw [co 6 (by decide)]
    refine ⟨by omega, ⟨by rw [es, co 17 (by decide)]; exact s1, by omega⟩, ⟨by rw [em, co 6 (by decide)]; exact m1, by omega⟩, ?_⟩
    rw [es, em]
    have hSame : Same M M' V V (y_sn M) := fun s _ => ⟨by rw [co 19 (by decide)], by rw [co 20 (by decide)], by rw [co 21 (by decide)], rfl⟩
    obtain ⟨-, -, -, v1, v2, v3, v4, v5⟩ := hG.2.2.2.1 s _ j4
    have htm : tm T t ≤ 8 := by
      obtain ⟨m, _, h2, h3, _⟩ := (hS.2.1 t t1).1 t3
      unfold tm
      rw [h3, nI_clamp (by omega)]
      exact h2
    obtain ⟨u1, u2⟩ := u_ok (R := R) (N := N) htm v4 hS.1.1
    refine hS.hand (by omega) (by omega) (Nat.le_refl _) (fun j hj => co j (by omega)) hSame ⟨u1, ?_, fun c hc => ?_⟩
    · unfold StI
      rw [co 19 (by decide), co 20 (by decide), co 21 (by decide)]
      exact hS.1.2.1
    · rw [c16 c hc, u2 c hc]
      have hcok := hS.2.2.2.2.2.1.2.2 j hj c hc
      refine ⟨cok_same hSame (Nat.le_refl _) hcok, ?_⟩
      rw [mcell_same hS.1.2.1 (by omega) hSame hcok]
      have ev : (vrec M V j).2 c = mcell M V (M 15 (8 * j + c)) := by
        show (if c < 8 then mcell M V (M 15 (8 * j + c)) else none) = _
        rw [if_pos hc]
      by_cases hcm : c < tm T t
      · rw [if_pos hcm, ev]
      · rw [if_neg hcm, ← ev, v5 c (by omega) hc]
