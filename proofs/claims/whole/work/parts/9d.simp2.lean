-- ===== put: the cells that the reference keeps =====
theorem sh_1 : ∀ s, s < 515 → ((nI s).toInt16.toInt32 = nI s ∧ (-(nI s)).toInt16.toInt32 = -(nI s) ∧ vp_nar .short (nI s) = nI s ∧ vp_nar .short (-(nI s)) = -(nI s)) := by decide +kernel
theorem pc_cell {R : aR} {N : aN} {M : aR} {V : aN} {sn t m c : Nat} {x : Int32} (h : HandS R N M V sn) (hsn : sn < 515) (hm : m ≤ 8) (h0 : M 0 t = nI m) (hx : ∀ c, c < m → dg x c = M 1 (8 * t + c) ∧ (M 1 (8 * t + c) = 1 ∨ M 1 (8 * t + c) = 2 ∨ M 1 (8 * t + c) = 3)) (hsu : ∀ c, c < m → R 0 c ≠ 0 → ((R 0 c = 2) ↔ (dg x c = 2))) (hc : c < 8) : (y_pc M t c).toInt16.toInt32 = y_pc M t c ∧ cok M sn (y_pc M t c) ∧ vp_nar .short (y_pc M t c) = y_pc M t c ∧ mcell M V (y_pc M t c) = pcell R N x m c := by
  have hz : (0 : Int32) = nI 0 := rfl
  have none_ok : ((0 : Int32).toInt16.toInt32 = 0 ∧ cok M sn 0 ∧ vp_nar .short (0 : Int32) = 0 ∧ mcell M V 0 = none) := by
    refine ⟨rfl, ⟨0, Nat.zero_le _, Or.inl rfl⟩, (sh_1 0 (by omega)).2.2.1, ?_⟩
    unfold mcell
    rw [if_pos rfl]
  unfold y_pc pcell
  rw [h0]
  by_cases hcm : c < m
  · rw [if_pos hcm]
    obtain ⟨x1, x2⟩ := hx c hcm
    by_cases w0 : M 16 c = 0
    · rw [if_neg (fun q => q.2 w0), dcell_0.mpr ((h_0 h hc).mpr w0)]
      exact none_ok
    · rw [if_pos ⟨nI_lt hcm (by omega), w0⟩]
      have r0 : R 0 c ≠ 0 := fun q => w0 ((h_0 h hc).mp q)
      obtain ⟨hk1, hk2⟩ := h.2.2 c hc
      obtain ⟨e1, e2, e3⟩ := cok_so hsn hk1
      have hsu' := hsu c hcm r0
      by_cases y3 : M 1 (8 * t + c) = 3
      · rw [if_pos y3, e1]
        have hnt : ¬ R 0 c = 2 := fun q => by
          have := hsu'.mp q
          rw [x1, y3] at this
          exact absurd this (by decide)
        have hneg : M 19 (so (M 16 c)) < 0 := by
          have h2 := h_2 h hc
          rw [decide_eq_false hnt] at h2
          unfold y_tx at h2
          rw [decide_eq_false w0] at h2
          have h2 : decide (0 ≤ M 19 (so (M 16 c))) = false := h2.symm
          exact Int32.not_le.mp (of_decide_eq_false h2)
        have s0 : 0 < so (M 16 c) := by
          rcases Nat.eq_zero_or_pos (so (M 16 c)) with z | z
          · rw [z, h.2.1.1.1] at hneg; exact absurd hneg (by decide)
          · exact z
        obtain ⟨n1, n2, n3, n4⟩ := ng_1 (so (M 16 c)) (by omega) s0
        refine ⟨(sh_1 _ (by omega)).2.1, ⟨so (M 16 c), e2, Or.inr ⟨rfl, hneg⟩⟩, (sh_1 _ (by omega)).2.2.2, ?_⟩
        rw [hk2]
        have es : so (-(nI (so (M 16 c)))) = so (M 16 c) := by
          show (y_so (-(nI (so (M 16 c))))).toNatClampNeg = _
          rw [so_neg (by omega), nI_clamp (by omega)]
        unfold mcell
        rw [if_neg n4, es, if_neg (Int32.not_le.mpr hneg), if_neg n3, if_neg w0, if_neg (Int32.not_le.mpr hneg), x1, y3]
        by_cases p : 0 < M 16 c
        · rw [if_pos p]
          rfl
        · rw [if_neg p]
          show some (Sum.inl (if V (so (M 16 c)) = 0 then (0 : Int64) else 1)) = some (Sum.inl (if (if V (so (M 16 c)) = 0 then (0 : Int64) else 1) = 0 then 0 else 1))
          by_cases v0 : V (so (M 16 c)) = 0
          · rw [if_pos v0]; rfl
          · rw [if_neg v0]; rfl
      · rw [if_neg y3]
        have hw : (M 16 c).toInt16.toInt32 = M 16 c ∧ vp_nar .short (M 16 c) = M 16 c := by
          rcases e3 with e3 | e3
          · rw [e3]; exact ⟨(sh_1 _ (by omega)).1, (sh_1 _ (by omega)).2.2.1⟩
          · rw [e3.1]; exact ⟨(sh_1 _ (by omega)).2.1, (sh_1 _ (by omega)).2.2.2⟩
        refine ⟨hw.1, hk1, hw.2, ?_⟩
        rw [← hk2]
        by_cases r2 : R 0 c = 2
        · have : dcell R N c = some (.inr (dtxt R c)) := by
            unfold dcell
            rw [if_neg r0, if_pos r2]
          rw [this]
          rfl
        · have y2 : ¬ dg x c = 2 := fun q => r2 (hsu'.mpr q)
          have y1 : dg x c = 1 := by
            rw [x1] at y2 ⊢
            rcases x2 with x2 | x2 | x2
            · exact x2
            · exact absurd x2 y2
            · exact absurd x2 y3
          have : dcell R N c = some (.inl (N c)) := by
            unfold dcell
            rw [if_neg r0, if_neg r2]
          rw [this, y1]
          rfl
  · rw [if_neg hcm, if_neg (fun q => hcm ((nI_ltI (by omega) (by omega)).mp q.1))]
    exact none_ok
/-- a version more -/
theorem Sim0.put1 {R : aR} {N : aN} {tl : aB} {T : aR} {pl : aB} {P : aR} {M : aR} {V : aN} {sn mn q k t m zz n mk cm : Nat} (h : Sim0 R N tl T pl P M V sn mn) (hsn : sn < 515) (hmn : mn < 512) (hq : q < 60) (ht : t < 8) (htl : tl t = true) (h3 : M 3 q = nI t) (etm : tm T t = m) (hsuit : d_hs R (T t 2) m 0 = true) (hz : zz = 16 + csum (T t 2) (pcell R N (T t 2) m) m) (h120 : k < 120) (hk0 : slots_of M V mn q k = none) (hk : k < z2 (P q) ∧ zz + 4 * z2 (P q) ≤ z4 (P q) ∨ k = z2 (P q) ∧ zz + 4 + 4 * z2 (P q) ≤ z4 (P q)) (hn : n < 2 ^ 31) (hmk : mk < 65536) (hcm : cm < 65536) : Sim0 R N tl T pl (va_up P q (pt_w R N (T t 2) m k (nI n) (nI mk) (nI cm) (pg_ad (P q) k (nI zz)))) (y_pe (y_pa M mn q (nI k) (nI zz) (nI n) (nI mk) (nI cm)) mn t) V sn (mn + 1) ∧ pg_hd (pg_ad (P q) k (nI zz)) k = true := by
  obtain ⟨hHand, hT, ⟨hD, hP, hF, hSl, hSh⟩, hPg, ⟨Ls, hC⟩, hPl, hV⟩ := h
  obtain ⟨m', hm1, hm8, eT1, eM0, eT0, hx⟩ := (hT t ht).1 htl
  have em : m' = m := by rw [← etm]; unfold tm; rw [eT1, nI_clamp (by omega)]
  subst em
  have hG := hV q hq t ht h3
  rw [etm] at hG
  have hsu := suits hsuit
  have hpc : ∀ c, c < 8 → (y_pc M t c).toInt16.toInt32 = y_pc M t c ∧ cok M sn (y_pc M t c) ∧ vp_nar .short (y_pc M t c) = y_pc M t c ∧ mcell M V (y_pc M t c) = pcell R N (T t 2) m' c := fun c hc => pc_cell hHand hsn hm8 eM0 hx hsu hc
  obtain ⟨g1, g2, g3⟩ := hG.put (R := R) (N := N) (n := n) (mk := mk) (cm := cm) (gg := pcell R N (T t 2) m') hk0 hk h120 hHand.1 hm8 (fun c hc => by unfold pcell; rw [if_pos hc]) (fun c h1 h2 => by unfold pcell; rw [if_neg (by omega)]) hsu hz hn hmk hcm
  obtain ⟨ad0, ad2, ad3, ad4, -⟩ := ad_ok (zz := zz) hG.1 hk h120
  refine ⟨?_, g3⟩
  obtain ⟨r1, r2⟩ : P q 0 = M 3 q ∧ ∃ t, t < 8 ∧ M 3 q = nI t ∧ tl t = true ∧ pl q = true ∧ P q 1 = M 5 q ∧ P q 2 = M 4 q ∧ P q 3 = y_vn M (nI q) mn ∧ P q 4 - 4 * P q 2 = y_fr M q mn := by
    obtain ⟨a, b⟩ := hPg q hq
    rcases b with b | b
    · rw [b] at h3; exact absurd h3.symm (nI_m1 (by omega))
    · exact ⟨a, b⟩
  obtain ⟨t', b1, b2, b3, b4, b5, b6, b7, b8⟩ := r2
  have e4q : M 4 q = nI (z2 (P q)) := by rw [← b6]; exact hG.1.1
  have h124 := hG.2.1
  obtain ⟨A, eA⟩ : ∃ A, A = y_pa M mn q (nI k) (nI zz) (nI n) (nI mk) (nI cm) := ⟨_, rfl⟩
  rw [← eA]
  obtain ⟨M', eM⟩ : ∃ M', M' = y_pe A mn t := ⟨_, rfl⟩
  rw [← eM]
  have ao : ∀ j, j ≠ 4 → (j < 7 ∨ 14 < j) → A j = M j := fun j h4 hj => by
    rw [eA]; unfold y_pa
    rw [va_up_ne _ _ (by omega), va_up_ne _ _ (by omega), va_up_ne _ _ (by omega), va_up_ne _ _ (by omega), va_up_ne _ _ (by omega), va_up_ne _ _ (by omega), va_up_ne _ _ (by omega), va_up_ne _ _ (by omega), va_up_ne _ _ h4]
  have mo : ∀ j, j ≠ 6 → j ≠ 15 → M' j = A j := fun j h6 h15 => by
    rw [eM]; unfold y_pe y_pcs
    rw [va_up_ne _ _ h6, va_up_ne _ _ h15]
  have a4 : A 4 = upd (M 4) q (if nI k = M 4 q then nI k + 1 else M 4 q) := by rw [eA]; rfl
  have a7 : A 7 = upd (M 7) mn (256 * nI q + nI k) := by rw [eA]; rfl
  have a8 : A 8 = upd (M 8) mn (nI n) := by rw [eA]; rfl
  have a9 : A 9 = upd (M 9) mn (nI mk) := by rw [eA]; rfl
  have a10 : A 10 = upd (M 10) mn (nI cm) := by rw [eA]; rfl
  have a11 : A 11 = upd (M 11) mn 0 := by rw [eA]; rfl
  have a12 : A 12 = upd (M 12) mn 0 := by rw [eA]; rfl
  have a13 : A 13 = upd (M 13) mn (-1) := by rw [eA]; rfl
  have a14 : A 14 = upd (M 14) mn (nI zz) := by rw [eA]; rfl
  have e256 : 256 * nI q + nI k = nI (256 * q + k) := by rw [show (256 : Int32) * nI q = nI (256 * q) from (Int32.ofNat_mul 256 q).symm, nI_add]
  have c4 : M' 4 = upd (M 4) q (nI (if k = z2 (P q) then z2 (P q) + 1 else z2 (P q))) := by
    rw [mo 4 (by decide) (by decide), a4]
    congr 1
    rw [e4q]
    by_cases e : k = z2 (P q)
    · rw [if_pos (by rw [e]), if_pos e, nI_1, e]
    · rw [if_neg (fun w => e ((nI_eq (by omega) (by omega)).mp w)), if_neg e]
  have c7 : M' 7 = upd (M 7) mn (nI (256 * q + k)) := by rw [mo 7 (by decide) (by decide), a7, e256]
  have c14 : M' 14 = upd (M 14) mn (nI zz) := by rw [mo 14 (by decide) (by decide), a14]
  have c6 : M' 6 0 = nI (mn + 1) := by rw [eM]; rfl
  have co : ∀ j, j ≠ 4 → (j < 6 ∨ 16 ≤ j) → M' j = M j := fun j h4 hj => by rw [mo j (by omega) (by omega), ao j h4 (by omega)]
  have epc : ∀ c, y_pc A t c = y_pc M t c := fun c => by
    unfold y_pc
    rw [ao 0 (by decide) (by omega), ao 16 (by decide) (by omega), ao 1 (by decide) (by omega)]
  have c15 : ∀ i, M' 15 i = if 8 * mn ≤ i ∧ i < 8 * mn + 8 then y_pc M t (i - 8 * mn) else M 15 i := by
    intro i
    rw [eM]
    unfold y_pe y_pcs
    rw [va_up_ne _ _ (by decide), va_up_self]
    show (if 8 * mn ≤ i ∧ i < 8 * mn + 8 then (y_pc A t (i - 8 * mn)).toInt16.toInt32 else A 15 i) = _
    rw [epc, ao 15 (by decide) (by omega)]
    by_cases w : 8 * mn ≤ i ∧ i < 8 * mn + 8
    · rw [if_pos w, if_pos w, (hpc _ (by omega)).1]
    · rw [if_neg w, if_neg w]
  have c15o : ∀ j c, j < mn → c < 8 → M' 15 (8 * j + c) = M 15 (8 * j + c) := fun j c hj hc => by rw [c15, if_neg (by omega)]
  have c15n : ∀ c, c < 8 → M' 15 (8 * mn + c) = y_pc M t c := fun c hc => by rw [c15, if_pos (by omega), show 8 * mn + c - 8 * mn = c by omega]
  have hSame : Same M M' V V sn := fun s _ => ⟨by rw [co 19 (by decide) (by omega)], by rw [co 20 (by decide) (by omega)], by rw [co 21 (by decide) (by omega)], rfl⟩
  have hmc : ∀ w, mcell M' V w = mcell M V w := mcell_cg (co 19 (by decide) (by omega)) (co 20 (by decide) (by omega)) (co 21 (by decide) (by omega))
  have hcol : ∀ i j, j < mn → i < 7 → M' (8 + i) j = M (8 + i) j := by
    intro i j hj hi
    rw [mo (8 + i) (by omega) (by omega)]
    rcases (show i = 0 ∨ i = 1 ∨ i = 2 ∨ i = 3 ∨ i = 4 ∨ i = 5 ∨ i = 6 by omega) with rfl | rfl | rfl | rfl | rfl | rfl | rfl
    · rw [a8, pk_un (by omega)]
    · rw [a9, pk_un (by omega)]
    · rw [a10, pk_un (by omega)]
    · rw [a11, pk_un (by omega)]
    · rw [a12, pk_un (by omega)]
    · rw [a13, pk_un (by omega)]
    · rw [a14, pk_un (by omega)]
  have hrec : ∀ j, j < mn → vrec M' V j = vrec M V j := by
    intro j hj
    unfold vrec
    congr 1
    · funext i
      by_cases hi : i < 7
      · rw [if_pos hi, if_pos hi, hcol i j hj hi]
      · rw [if_neg hi, if_neg hi]
    · funext c
      by_cases hc : c < 8
      · rw [if_pos hc, if_pos hc, c15o j c hj hc, hmc]
      · rw [if_neg hc, if_neg hc]
  have hnew : vrec M' V mn = (newh n mk cm zz, pcell R N (T t 2) m') := by
    unfold vrec
    congr 1
    · funext i
      by_cases hi : i < 7
      · rw [if_pos hi, mo (8 + i) (by omega) (by omega)]
        rcases (show i = 0 ∨ i = 1 ∨ i = 2 ∨ i = 3 ∨ i = 4 ∨ i = 5 ∨ i = 6 by omega) with rfl | rfl | rfl | rfl | rfl | rfl | rfl
        · rw [a8, pk_us]; rfl
        · rw [a9, pk_us]; rfl
        · rw [a10, pk_us]; rfl
        · rw [a11, pk_us]; rfl
        · rw [a12, pk_us]; rfl
        · rw [a13, pk_us]; rfl
        · rw [a14, pk_us]; rfl
      · rw [if_neg hi]
        unfold newh
        rw [if_neg (by omega), if_neg (by omega), if_neg (by omega), if_neg (by omega), if_neg (by omega)]
    · funext c
      by_cases hc : c < 8
      · rw [if_pos hc, c15n c hc, hmc, (hpc c hc).2.2.2]
      · rw [if_neg hc]
        unfold pcell
        rw [if_neg (by omega)]
  have hfree : ∀ j, j < mn → M 7 j ≠ nI (256 * q + k) := by
    have : mrec M V mn (256 * q + k) = none := by
      unfold slots_of at hk0
      rw [if_pos (by omega)] at hk0
      exact hk0
    rcases mrec_or M V (mn := mn) (256 * q + k) (by omega) with ⟨-, -, r⟩ | ⟨j, hj, _, r, _⟩
    · exact r
    · rw [r] at this; cases this
  have hI : Inj M' (mn + 1) := by
    intro a b ha hb hab
    rw [c7] at hab
    by_cases e1 : a = mn
    · by_cases e2 : b = mn
      · rw [e1, e2]
      · rw [e1, pk_us, pk_un e2] at hab
        exact absurd hab.symm (hfree b (by omega))
    · by_cases e2 : b = mn
      · rw [e2, pk_us, pk_un e1] at hab
        exact absurd hab (hfree a (by omega))
      · rw [pk_un e1, pk_un e2] at hab
        exact hPl.2.1 a b (by omega) (by omega) hab
  have hmrec : ∀ a, a < 2 ^ 31 → mrec M' V (mn + 1) a = if a = 256 * q + k then some (newh n mk cm zz, pcell R N (T t 2) m') else mrec M V mn a := by
    intro a ha
    by_cases e : a = 256 * q + k
    · rw [if_pos e, e, mrec_some hI (by omega) (show mn < mn + 1 by omega) (by rw [c7, pk_us]), hnew]
    · rw [if_neg e]
      rcases mrec_or M V (mn := mn) a (by omega) with ⟨w1, -, w3⟩ | ⟨j, hj, w1, w2, -⟩
      · rw [w1]
        refine mrec_none (fun j hj ej => ?_)
        rw [c7] at ej
        by_cases e1 : j = mn
        · rw [e1, pk_us] at ej
          exact e ((nI_eq (by omega) (by omega)).mp ej).symm
        · rw [pk_un e1] at ej
          exact w3 j (by omega) ej
      · rw [w2, mrec_some hI (by omega) (show j < mn + 1 by omega) (by rw [c7, pk_un (by omega)]; exact w1), hrec j hj]
  have hdv : nI (256 * q + k) / 256 = nI q := (pl_dv hq (by omega)).1
  have hvn : ∀ p, y_vn M' (nI p) (mn + 1) = y_vn M (nI p) mn + if nI q = nI p then 1 else 0 := by
    intro p
    rw [vn_sum, vn_sum]
    show vsum _ mn + (if M' 7 mn / 256 = nI p then 1 else 0) = _
    rw [c7, pk_us, hdv]
    congr 1
    exact vsum_cg (fun j hj => by rw [pk_un (by omega)])
  have hfr : ∀ p, vsum (fun k => if M' 7 k / 256 = nI p then M' 14 k else 0) (mn + 1) = vsum (fun k => if M 7 k / 256 = nI p then M 14 k else 0) mn + if nI q = nI p then nI zz else 0 := by
    intro p
    show vsum _ mn + (if M' 7 mn / 256 = nI p then M' 14 mn else 0) = _
    rw [c7, c14, pk_us, pk_us, hdv]
    congr 1
    exact vsum_cg (fun j hj => by rw [pk_un (by omega), pk_un (by omega)])
  refine ⟨⟨hHand.1, ?_, fun c hcc => ?_⟩, ?_, ⟨⟨fun p hp => ?_, hD.2⟩, fun p hp hpl => ?_, ?_, fun p hp => ?_, fun i => ?_⟩, fun p hp => ?_, ⟨Ls, fun t' ht' htl' => ?_⟩, ⟨fun j hj => ?_, hI, fun j hj c hcc => ?_⟩, fun p hp t'' ht'' e' => ?_⟩
  · unfold StI
    rw [co 19 (by decide) (by omega), co 20 (by decide) (by omega), co 21 (by decide) (by omega)]
    exact hHand.2.1
  · rw [co 16 (by decide) (by omega), hmc]
    exact ⟨cok_same hSame (Nat.le_refl _) (hHand.2.2 c hcc).1, (hHand.2.2 c hcc).2⟩
  · unfold TabS
    rw [co 0 (by decide) (by omega), co 1 (by decide) (by omega), co 2 (by decide) (by omega)]
    exact hT
  · have : p ≠ q := fun w => by rw [w, b4] at hp; cases hp
    rw [va_up_ne _ _ this]
    exact hD.1 p hp
  · by_cases w : p = q
    · rw [w, va_up_self]; exact g1.1
    · rw [va_up_ne _ _ w]; exact hP p hp hpl
  · unfold F_ok
    rw [co 5 (by decide) (by omega)]
    exact hF
  · unfold sl
    by_cases w : p = q
    · rw [w, c4, pk_us, nI_clamp (by split <;> omega)]
      refine ⟨rfl, ?_⟩
      split <;> omega
    · rw [c4, pk_un w]; exact hSl p hp
  · rw [c15]
    by_cases w : 8 * mn ≤ i ∧ i < 8 * mn + 8
    · rw [if_pos w]; exact (hpc _ (by omega)).2.2.1
    · rw [if_neg w]; exact hSh i
  · rw [co 3 (by decide) (by omega), co 5 (by decide) (by omega), hvn, fr_sum, hfr, c4]
    obtain ⟨d1, d2⟩ := hPg p hp
    by_cases w : p = q
    · rw [w, va_up_self, g2 0 (by omega), g2 1 (by omega), g2 2 (by omega), g2 3 (by omega), g2 4 (by omega), ad0 0 (by omega), ad0 1 (by omega), ad2, ad3, ad4, pk_us, if_pos rfl, if_pos rfl]
      refine ⟨r1, Or.inr ⟨t', b1, b2, b3, b4, b5, rfl, by rw [b7], ?_⟩⟩
      rw [fr_sum] at b8
      have h4 := hG.1.2.2.1
      rw [← nI_sb (by omega), ← h4]
      rw [b6] at b8
      grind
    · have hne : ¬ nI q = nI p := fun z => w ((nI_eq (by omega) (by omega)).mp z).symm
      rw [va_up_ne _ _ w, pk_un w, if_neg hne, if_neg hne, Int32.add_zero, Int32.add_zero, ← fr_sum]
      exact ⟨d1, d2⟩
  · unfold Chain
    rw [co 2 (by decide) (by omega), co 3 (by decide) (by omega), co 5 (by decide) (by omega)]
    exact hC t' ht' htl'
  · by_cases e : j = mn
    · exact ⟨q, k, hq, by omega, by rw [e, c7, pk_us], t, ht, by rw [co 3 (by decide) (by omega)]; exact h3⟩
    · obtain ⟨p, s, d1, d2, d3, tt, d4, d5⟩ := hPl.1 j (by omega)
      exact ⟨p, s, d1, d2, by rw [c7, pk_un e]; exact d3, tt, d4, by rw [co 3 (by decide) (by omega)]; exact d5⟩
  · by_cases e : j = mn
    · rw [e, c15n c hcc]
      exact cok_same hSame (Nat.le_refl _) (hpc c hcc).2.1
    · rw [c15o j c (by omega) hcc]
      exact cok_same hSame (Nat.le_refl _) (hPl.2.2 j (by omega) c hcc)
  · rw [co 3 (by decide) (by omega)] at e'
    by_cases w : p = q
    · have et : t'' = t := by
        rw [w, h3] at e'
        exact ((nI_eq (by omega) (by omega)).mp e').symm
      have es : slots_of M' V (mn + 1) q = va_up (slots_of M V mn q) k (some (newh n mk cm zz, pcell R N (T t 2) m')) := by
        funext s
        by_cases z : s = k
        · rw [z, va_up_self]
          unfold slots_of
          rw [if_pos (by omega), hmrec _ (by omega), if_pos rfl]
        · rw [va_up_ne _ _ z]
          unfold slots_of
          by_cases hs : s < 256
          · rw [if_pos hs, if_pos hs, hmrec _ (by omega), if_neg (by omega)]
          · rw [if_neg hs, if_neg hs]
      rw [w, va_up_self, et, es, etm]
      exact g1
    · have es : slots_of M' V (mn + 1) p = slots_of M V mn p := by
        funext s
        unfold slots_of
        by_cases hs : s < 256
        · rw [if_pos hs, if_pos hs, hmrec _ (by omega), if_neg (by omega)]
        · rw [if_neg hs, if_neg hs]
      rw [va_up_ne _ _ w, es]
      exact hV p hp t'' ht'' e'
