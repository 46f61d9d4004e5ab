-- ===== a version is taken out of the reference =====
def sw (k e i : Nat) : Nat := if i = k then e else i
theorem d0_at {M : aR} {k e j i : Nat} (h1 : 7 ≤ j) (h2 : j ≤ 14) : y_d0 M k e 8 j i = M j (sw k e i) := by
  unfold y_d0 sw
  rw [if_neg (by omega), if_pos ⟨h1, h2⟩]
  by_cases h : i = k
  · rw [if_pos h, h, pk_us]
  · rw [if_neg h, pk_un h]
theorem d0_15 {M : aR} {k e i c : Nat} (hc : c < 8) : y_d0 M k e 8 15 (8 * i + c) = M 15 (8 * sw k e i + c) := by
  rw [y_d0_15]
  unfold sw
  show (if 8 * k ≤ 8 * i + c ∧ 8 * i + c < 8 * k + 8 then M 15 (8 * e + (8 * i + c - 8 * k)) else M 15 (8 * i + c)) = _
  by_cases h : i = k
  · rw [if_pos h, if_pos (by omega), show 8 * e + (8 * i + c - 8 * k) = 8 * e + c by omega]
  · rw [if_neg h, if_neg (by omega)]
theorem d0_o {M : aR} {k e j : Nat} (h : j < 6 ∨ 16 ≤ j) : y_d0 M k e 8 j = M j := by
  unfold y_d0
  rw [if_neg (by omega), if_neg (by omega), if_neg (by omega)]
theorem sw_lt {k e i : Nat} (hk : k ≤ e) (hi : i < e) : sw k e i < e + 1 ∧ sw k e i ≠ k := by
  unfold sw
  by_cases h : i = k
  · rw [if_pos h]; omega
  · rw [if_neg h]; omega
theorem sw_inj {k e a b : Nat} (ha : a < e) (hb : b < e) (h : sw k e a = sw k e b) : a = b := by
  unfold sw at h
  by_cases h1 : a = k
  · by_cases h2 : b = k
    · rw [h1, h2]
    · rw [if_pos h1, if_neg h2] at h; omega
  · by_cases h2 : b = k
    · rw [if_neg h1, if_pos h2] at h; omega
    · rw [if_neg h1, if_neg h2] at h; exact h
theorem sw_sur {k e j : Nat} (hk : k ≤ e) (hj : j < e + 1) (hne : j ≠ k) : ∃ i, i < e ∧ sw k e i = j := by
  by_cases h : j = e
  · refine ⟨k, by omega, ?_⟩
    unfold sw
    rw [if_pos rfl, h]
  · refine ⟨j, by omega, ?_⟩
    unfold sw
    rw [if_neg hne]
theorem d0_rec {M : aR} {V : aN} {k e i : Nat} : vrec (y_d0 M k e 8) V i = vrec M V (sw k e i) := by
  unfold vrec
  congr 1
  · funext j
    by_cases hj : j < 7
    · rw [if_pos hj, if_pos hj, d0_at (by omega) (by omega)]
    · rw [if_neg hj, if_neg hj]
  · funext c
    by_cases hc : c < 8
    · rw [if_pos hc, if_pos hc, d0_15 hc, mcell_cg (d0_o (by omega)) (d0_o (by omega)) (d0_o (by omega))]
    · rw [if_neg hc, if_neg hc]
theorem d0_ok {M : aR} {V : aN} {k e sn : Nat} (hk : k ≤ e) (he : e + 1 ≤ 514) (hPl : PlS M (e + 1) sn) : PlS (y_d0 M k e 8) e sn ∧ (∀ q, q < 2 ^ 31 → mrec (y_d0 M k e 8) V e q = if M 7 k = nI q then none else mrec M V (e + 1) q) ∧ (∀ p, y_vn (y_d0 M k e 8) p e = y_vn M p (e + 1) - (if M 7 k / 256 = p then 1 else 0)) ∧ ∀ p, y_fr (y_d0 M k e 8) p e = y_fr M p (e + 1) + (if M 7 k / 256 = nI p then M 14 k else 0) := by
  obtain ⟨h1, h2, h3⟩ := hPl
  have hSame : Same M (y_d0 M k e 8) V V sn := fun s _ => ⟨by rw [d0_o (by omega)], by rw [d0_o (by omega)], by rw [d0_o (by omega)], rfl⟩
  have hI : Inj (y_d0 M k e 8) e := by
    intro a b ha hb hab
    rw [d0_at (by omega) (by omega), d0_at (by omega) (by omega)] at hab
    exact sw_inj ha hb (h2 _ _ (sw_lt hk ha).1 (sw_lt hk hb).1 hab)
  refine ⟨⟨fun j hj => ?_, hI, fun j hj c hc => ?_⟩, fun q hq => ?_, fun p => ?_, fun p => ?_⟩
  · rw [d0_at (by omega) (by omega), d0_o (by omega)]
    exact h1 _ (sw_lt hk hj).1
  · rw [d0_15 hc]
    exact cok_same hSame (Nat.le_refl _) (h3 _ (sw_lt hk hj).1 c hc)
  · by_cases hq2 : M 7 k = nI q
    · rw [if_pos hq2]
      refine mrec_none (fun j hj e2 => ?_)
      rw [d0_at (by omega) (by omega)] at e2
      have := h2 _ k (sw_lt hk hj).1 (by omega) (e2.trans hq2.symm)
      exact (sw_lt hk hj).2 this
    · rw [if_neg hq2]
      rcases mrec_or M V (mn := e + 1) q he with ⟨r1, -, r3⟩ | ⟨j, hj, r1, r2, -⟩
      · rw [r1]
        refine mrec_none (fun j hj e2 => ?_)
        rw [d0_at (by omega) (by omega)] at e2
        exact r3 _ (sw_lt hk hj).1 e2
      · have hne : j ≠ k := fun w => hq2 (by rw [← w]; exact r1)
        obtain ⟨i, hi, ei⟩ := sw_sur hk hj hne
        rw [r2, mrec_some hI (by omega) hi (by rw [d0_at (by omega) (by omega), ei]; exact r1), d0_rec, ei]
  · rw [vn_sum, vn_sum, ← vsum_sw (f := fun k => if M 7 k / 256 = p then 1 else 0) hk]
    refine vsum_cg (fun i hi => ?_)
    rw [d0_at (by omega) (by omega)]
    unfold sw
    by_cases h : i = k
    · rw [if_pos h, if_pos h]
    · rw [if_neg h, if_neg h]
  · rw [fr_sum, fr_sum, d0_o (by omega)]
    have := vsum_sw (f := fun k => if M 7 k / 256 = nI p then M 14 k else 0) hk
    have e2 : vsum (fun i => if y_d0 M k e 8 7 i / 256 = nI p then y_d0 M k e 8 14 i else 0) e = vsum (fun j => if j = k then (if M 7 e / 256 = nI p then M 14 e else 0) else (if M 7 j / 256 = nI p then M 14 j else 0)) e := by
      refine vsum_cg (fun i hi => ?_)
      rw [d0_at (by omega) (by omega), d0_at (by omega) (by omega)]
      unfold sw
      by_cases h : i = k
      · rw [if_pos h, if_pos h]
      · rw [if_neg h, if_neg h]
    rw [e2, this]
    grind
-- ===== drop =====
theorem d0_mn {M : aR} {k e : Nat} (he : e < 2 ^ 31) : y_d0 M k e 8 6 0 = nI e ∧ y_mn (y_d0 M k e 8) = e := by
  have h := y_d0_6 (M := M) (k := k) (e := e) (n := 8) rfl
  refine ⟨h, ?_⟩
  unfold y_mn
  rw [h, nI_clamp he]
/-- versions of a table's pages go, the others stay -/
theorem dv_ok {M0 : aR} {V : aN} {tt mn0 sn : Nat} (htt : tt < 8) : ∀ (k : Nat) (M : aR) (mn : Nat), M 6 0 = nI mn → mn ≤ 512 → k ≤ mn → (∀ j, j < 6 ∨ 16 ≤ j → M j = M0 j) → PlS M mn sn → S_ok M → (∀ p, p < 60 → M0 3 p ≠ nI tt → y_vn M (nI p) mn = y_vn M0 (nI p) mn0 ∧ y_fr M p mn = y_fr M0 p mn0 ∧ slots_of M V mn p = slots_of M0 V mn0 p) → (∀ j, k ≤ j → j < mn → M 3 ((M 7 j).toNatClampNeg / 256) ≠ nI tt) → ∃ mn', y_dv (nI tt) k M 6 0 = nI mn' ∧ mn' ≤ mn ∧ (∀ j, j < 6 ∨ 16 ≤ j → y_dv (nI tt) k M j = M0 j) ∧ PlS (y_dv (nI tt) k M) mn' sn ∧ S_ok (y_dv (nI tt) k M) ∧ (∀ p, p < 60 → M0 3 p ≠ nI tt → y_vn (y_dv (nI tt) k M) (nI p) mn' = y_vn M0 (nI p) mn0 ∧ y_fr (y_dv (nI tt) k M) p mn' = y_fr M0 p mn0 ∧ slots_of (y_dv (nI tt) k M) V mn' p = slots_of M0 V mn0 p) ∧ ∀ j, j < mn' → M0 3 ((y_dv (nI tt) k M 7 j).toNatClampNeg / 256) ≠ nI tt
  | 0, M, mn, h6, hm, hk, ho, hPl, hSh, hp, hr => ⟨mn, h6, Nat.le_refl _, ho, hPl, hSh, hp, fun j hj => by
      have := hr j (Nat.zero_le j) hj
      rw [ho 3 (by omega)] at this
      exact this⟩
  | k + 1, M, mn, h6, hm, hk, ho, hPl, hSh, hp, hr => by
    have u : y_dv (nI tt) (k + 1) M = y_dv (nI tt) k (if M 3 ((M 7 k).toNatClampNeg / 256) = nI tt then y_d0 M k (y_e1 M) 8 else M) := rfl
    rw [u]
    obtain ⟨e, rfl⟩ : ∃ e, mn = e + 1 := ⟨mn - 1, by omega⟩
    by_cases ht : M 3 ((M 7 k).toNatClampNeg / 256) = nI tt
    · have ee : y_e1 M = e := by
        unfold y_e1
        rw [h6, nI_clamp (by omega)]
        omega
      rw [if_pos ht, ee]
      obtain ⟨a1, a2, a3, a4⟩ := d0_ok (V := V) (k := k) (e := e) (by omega) (by omega) hPl
      have hsh : S_ok (y_d0 M k e 8) := y_d0_sh hSh rfl
      obtain ⟨pk, sk, w1, w2, w3, -⟩ := hPl.1 k (by omega)
      have hpk : (M 7 k).toNatClampNeg / 256 = pk := by rw [w3]; exact (pq w1 w2).1
      rw [hpk] at ht
      have key := dv_ok (M0 := M0) (V := V) (mn0 := mn0) (sn := sn) htt k (y_d0 M k e 8) e (d0_mn (by omega)).1 (by omega) (by omega) (fun j hj => by rw [d0_o hj]; exact ho j hj) a1 hsh (fun p hp60 hne => by
        obtain ⟨b1, b2, b3⟩ := hp p hp60 hne
        have hnp : p ≠ pk := fun w => hne (by rw [← ho 3 (by omega), w]; exact ht)
        have hdv : ¬ (M 7 k / 256 = nI p) := by
          rw [w3, (pl_dv w1 w2).1]
          exact fun w => hnp ((nI_eq (by omega) (by omega)).mp w).symm
        refine ⟨?_, ?_, ?_⟩
        · rw [a3, if_neg hdv, b1, Int32.sub_zero]
        · rw [a4, if_neg hdv, b2, Int32.add_zero]
        · rw [← b3]
          funext s
          unfold slots_of
          by_cases hs : s < 256
          · rw [if_pos hs, if_pos hs, a2 _ (by omega), if_neg]
            rw [w3]
            intro w
            have := (nI_eq (by omega) (by omega)).mp w
            omega
          · rw [if_neg hs, if_neg hs]) (fun j h1 h2 => by
        rw [d0_at (j := 7) (by omega) (by omega), d0_o (j := 3) (by omega)]
        obtain ⟨z1, z2⟩ := sw_lt (k := k) (e := e) (i := j) (by omega) h2
        refine hr _ ?_ z1
        unfold sw at z2 ⊢
        by_cases hjk : j = k
        · rw [if_pos hjk] at z2 ⊢; omega
        · rw [if_neg hjk]; omega)
      obtain ⟨mn', q1, q2, q3⟩ := key
      exact ⟨mn', q1, by omega, q3⟩
    · rw [if_neg ht]
      exact dv_ok htt k M (e + 1) h6 hm (by omega) ho hPl hSh hp (fun j h1 h2 => by
        by_cases e2 : j = k
        · rw [e2]; exact ht
        · exact hr j (by omega) h2)
theorem dl_ok {pl : aB} {t : Int32} : ∀ (d p0 : Nat) (P : aR), p0 + d ≤ 60 → ∀ p, d_dl pl t d p0 P p = if (p0 ≤ p ∧ p < p0 + d) ∧ d_up pl P (nI p) = true ∧ P p 0 = t then pg_rs (P p) (-1) else P p
  | 0, p0, P, _, p => by
    rw [if_neg (by omega)]
    rfl
  | d + 1, p0, P, hd, p => by
    show d_dl pl t d (p0 + 1) (d_d1 pl t p0 P) p = _
    rw [dl_ok d (p0 + 1) (d_d1 pl t p0 P) (by omega) p]
    have h1 : ∀ q, q ≠ p0 → d_d1 pl t p0 P q = P q := fun q hq => by
      unfold d_d1
      split
      · rw [va_up_ne _ _ hq]
      · rfl
    by_cases e : p = p0
    · subst e
      rw [if_neg (by omega)]
      unfold d_d1
      by_cases hc : d_up pl P (nI p) = true ∧ P p 0 = t
      · rw [if_pos hc, if_pos ⟨by omega, hc⟩, va_up_self]
      · rw [if_neg hc, if_neg (fun w => hc w.2)]
    · rw [h1 p e]
      by_cases hr : p0 + 1 ≤ p ∧ p < p0 + 1 + d
      · have eu : d_up pl (d_d1 pl t p0 P) (nI p) = d_up pl P (nI p) := by
          rw [d_up_nI (by omega), d_up_nI (by omega), h1 p e]
        rw [eu]
        by_cases hc : d_up pl P (nI p) = true ∧ P p 0 = t
        · rw [if_pos ⟨hr, hc⟩, if_pos ⟨by omega, hc⟩]
        · rw [if_neg (fun w => hc w.2), if_neg (fun w => hc w.2)]
      · rw [if_neg (fun w => hr w.1), if_neg (fun w => by omega)]
theorem sim_drop : lk_drop Sim := by
  intro k R N tl T pl P M V t hk h
  have h9 := (sim_base k R N tl T pl P M V hk h).2
  obtain ⟨h0, ⟨s1, s2⟩, ⟨m1, m2⟩, hS⟩ := h
  refine ⟨th_eq hS.2.1 t, ?_⟩
  unfold d_drt d_drP y_drM
  rw [th_eq hS.2.1 t]
  cases hy : y_th M t with
  | false => exact h9
  | true =>
    obtain ⟨tt, htt, rfl, h0t⟩ := y_th_in hy
    rw [if_pos rfl, if_pos rfl, if_pos rfl, nI_clamp (by omega)]
    obtain ⟨⟨hR, hSt, hH⟩, hT, ⟨hD, hP, hF, hSl, hSh⟩, hPg, ⟨Ls, hC⟩, hPl, hV⟩ := id hS
    obtain ⟨mn', q1, q2, q3, q4, q5, q6, q7⟩ := dv_ok (M0 := M) (V := V) (mn0 := y_mn M) (sn := y_sn M) htt (y_mn M) M (y_mn M) m1 (by omega) (Nat.le_refl _) (fun _ _ => rfl) hPl hSh (fun _ _ _ => ⟨rfl, rfl, rfl⟩) (fun j h1 h2 => absurd h1 (by omega))
    generalize y_dv (nI tt) (y_mn M) M = M1 at *
    have p3 : ∀ p, p < 60 → y_dp M1 (nI tt) 60 3 p = if M 3 p = nI tt then -1 else M 3 p := by
      intro p hp
      unfold y_dp
      rw [va_up_self]
      show (if p < 60 ∧ M1 3 p = nI tt then (-1 : Int32) else M1 3 p) = _
      rw [q3 3 (by omega)]
      by_cases e : M 3 p = nI tt
      · rw [if_pos ⟨hp, e⟩, if_pos e]
      · rw [if_neg (fun w => e w.2), if_neg e]
    have po : ∀ j, j ≠ 3 → y_dp M1 (nI tt) 60 j = M1 j := fun j hj => by unfold y_dp; rw [va_up_ne _ _ hj]
    obtain ⟨M', eM⟩ : ∃ M', M' = va_up (y_dp M1 (nI tt) 60) 0 (upd (y_dp M1 (nI tt) 60 0) tt 0) := ⟨_, rfl⟩
    rw [← eM]
    have c0 : M' 0 = upd (M 0) tt 0 := by rw [eM, va_up_self, po 0 (by decide), q3 0 (by omega)]
    have c3 : ∀ p, p < 60 → M' 3 p = if M 3 p = nI tt then -1 else M 3 p := fun p hp => by rw [eM, va_up_ne _ _ (by decide)]; exact p3 p hp
    have cx : ∀ j, j ≠ 0 → j ≠ 3 → M' j = M1 j := fun j h0 h3 => by rw [eM, va_up_ne _ _ h0, po j h3]
    have co : ∀ j, j ≠ 0 → j ≠ 3 → (j < 6 ∨ 16 ≤ j) → M' j = M j := fun j h0 h3 hj => by rw [cx j h0 h3, q3 j hj]
    have es : y_sn M' = y_sn M := by unfold y_sn; rw [co 17 (by decide) (by decide) (by omega)]
    have e6 : M' 6 0 = nI mn' := by rw [cx 6 (by decide) (by decide)]; exact q1
    have em : y_mn M' = mn' := by unfold y_mn; rw [e6, nI_clamp (by omega)]
    refine ⟨by omega, ⟨by rw [es, co 17 (by decide) (by decide) (by omega)]; exact s1, by omega⟩, ⟨by rw [em]; exact e6, by omega⟩, ?_⟩
    rw [es, em]
    have hSame : Same M M' V V (y_sn M) := fun s _ => ⟨by rw [co 19 (by decide) (by decide) (by omega)], by rw [co 20 (by decide) (by decide) (by omega)], by rw [co 21 (by decide) (by decide) (by omega)], rfl⟩
    have hSame1 : Same M1 M' V V (y_sn M) := fun s _ => ⟨by rw [cx 19 (by decide) (by decide)], by rw [cx 20 (by decide) (by decide)], by rw [cx 21 (by decide) (by decide)], rfl⟩
    have hPt : ∀ p, p < 60 → (M 3 p = nI tt → d_dl pl (nI tt) 60 0 P p = pg_rs (P p) (-1)) ∧ (M 3 p ≠ nI tt → d_dl pl (nI tt) 60 0 P p = P p) := by
      intro p hp
      rw [dl_ok 60 0 P (by omega) p]
      obtain ⟨e, -⟩ := hPg p hp
      constructor
      · intro w
        rcases up_eq hPg hp with ⟨u1, -⟩ | ⟨t', _, _, _, _, _, a6⟩
        · rw [u1] at w; exact absurd w.symm (nI_m1 (by omega))
        · rw [if_pos ⟨by omega, a6, e.trans w⟩]
      · intro w
        rw [if_neg (fun z => w (e.symm.trans z.2.2))]
    have hne : ∀ p t', p < 60 → t' < 8 → M' 3 p = nI t' → t' ≠ tt ∧ M 3 p = nI t' := by
      intro p t' hp ht' e
      rw [c3 p hp] at e
      by_cases w : M 3 p = nI tt
      · rw [if_pos w] at e; exact absurd e.symm (nI_m1 (by omega))
      · rw [if_neg w] at e
        exact ⟨fun z => w (by rw [e, z]), e⟩
    have hsl : ∀ p, slots_of M' V mn' p = slots_of M1 V mn' p := fun p => slots_cg (fun i h1 h2 => cx i (by omega) (by omega)) (cx 19 (by decide) (by decide)) (cx 20 (by decide) (by decide)) (cx 21 (by decide) (by decide))
    refine ⟨⟨hR, ?_, fun c hcc => ?_⟩, fun t ht => ⟨fun htl => ?_, fun htl => ?_⟩, ⟨⟨fun q hq => ?_, hD.2.1, fun t ht => ?_⟩, fun q hq hql => ?_, ?_, ?_, ?_⟩, fun q hq => ?_, ⟨Ls, fun t ht htl => ?_⟩, ⟨fun j hj => ?_, ?_, fun j hj c hcc => ?_⟩, fun q hq t ht e => ?_⟩
    · unfold StI
      rw [co 19 (by decide) (by decide) (by omega), co 20 (by decide) (by decide) (by omega), co 21 (by decide) (by decide) (by omega)]
      exact hSt
    · rw [co 16 (by decide) (by decide) (by omega), mcell_cg (co 19 (by decide) (by decide) (by omega)) (co 20 (by decide) (by decide) (by omega)) (co 21 (by decide) (by decide) (by omega))]
      exact ⟨cok_same hSame (Nat.le_refl _) (hH c hcc).1, (hH c hcc).2⟩
    · by_cases e : t = tt
      · rw [e, va_up_self] at htl; cases htl
      · rw [va_up_ne _ _ e] at htl
        rw [c0, pk_un e, co 1 (by decide) (by decide) (by omega), co 2 (by decide) (by decide) (by omega)]
        exact (hT t ht).1 htl
    · by_cases e : t = tt
      · rw [e, c0, pk_us]; decide
      · rw [va_up_ne _ _ e] at htl
        rw [c0, pk_un e]
        exact (hT t ht).2 htl
    · by_cases hq60 : q < 60
      · by_cases w : M 3 q = nI tt
        · rcases (hPg q hq60).2 with z | ⟨_, _, _, _, z, _⟩
          · rw [z] at w; exact absurd w.symm (nI_m1 (by omega))
          · rw [z] at hq; cases hq
        · rw [(hPt q hq60).2 w]; exact hD.1 q hq
      · rw [dl_ok 60 0 P (by omega) q, if_neg (by omega)]
        exact hD.1 q hq
    · by_cases e : t = tt
      · omega
      · rw [va_up_ne _ _ e]; exact hD.2.2 t ht
    · by_cases w : M 3 q = nI tt
      · rw [(hPt q hq).1 w]
        exact (PG.reset (x := 0) (m := 0) (hP q hq hql).2.2.2.2).1
      · rw [(hPt q hq).2 w]; exact hP q hq hql
    · unfold F_ok
      rw [co 5 (by decide) (by decide) (by omega)]
      exact hF
    · unfold Sl_ok sl
      rw [co 4 (by decide) (by decide) (by omega)]
      exact hSl
    · unfold S_ok
      rw [cx 15 (by decide) (by decide)]
      exact q5
    · rw [c3 q hq]
      by_cases w : M 3 q = nI tt
      · rw [(hPt q hq).1 w, if_pos w]
        exact ⟨rs_at.1, Or.inl rfl⟩
      · rw [(hPt q hq).2 w, if_neg w]
        obtain ⟨a1, a2⟩ := hPg q hq
        refine ⟨a1, ?_⟩
        rcases a2 with a2 | ⟨t', b1, b2, b3, b4, b5, b6, b7, b8⟩
        · exact Or.inl a2
        · obtain ⟨z1, z2, -⟩ := q6 q hq w
          refine Or.inr ⟨t', b1, b2, ?_, b4, ?_, ?_, ?_, ?_⟩
          · rw [va_up_ne _ _ (fun z => w (by rw [b2, z]))]; exact b3
          · rw [co 5 (by decide) (by decide) (by omega)]; exact b5
          · rw [co 4 (by decide) (by decide) (by omega)]; exact b6
          · rw [vn_cg (cx 7 (by decide) (by decide)), z1]; exact b7
          · rw [fr_cg (cx 4 (by decide) (by decide)) (cx 7 (by decide) (by decide)) (cx 14 (by decide) (by decide)), z2]; exact b8
    · by_cases e : t = tt
      · rw [e, va_up_self] at htl; cases htl
      · rw [va_up_ne _ _ e] at htl
        obtain ⟨w1, w2, w3, w4⟩ := hC t ht htl
        unfold Chain
        rw [co 2 (by decide) (by decide) (by omega), co 5 (by decide) (by decide) (by omega)]
        refine ⟨w1, w2, fun q => ?_, w4⟩
        rw [w3 q]
        constructor
        · intro z
          refine ⟨z.1, ?_⟩
          rw [c3 q z.1, if_neg, z.2]
          rw [z.2]
          exact fun y => e ((nI_eq (by omega) (by omega)).mp y)
        · intro z
          exact ⟨z.1, (hne q t z.1 ht z.2).2⟩
    · obtain ⟨q, s, a1, a2, a3, t, a4, a5⟩ := q4.1 j hj
      have := q7 j hj
      rw [a3, (pq a1 a2).1] at this
      refine ⟨q, s, a1, a2, by rw [cx 7 (by decide) (by decide)]; exact a3, t, a4, ?_⟩
      rw [c3 q a1, if_neg this, ← q3 3 (by omega)]
      exact a5
    · unfold Inj
      rw [cx 7 (by decide) (by decide)]
      exact q4.2.1
    · rw [cx 15 (by decide) (by decide)]
      exact cok_same hSame1 (Nat.le_refl _) (q4.2.2 j hj c hcc)
    · obtain ⟨n1, n2⟩ := hne q t hq ht e
      have w : M 3 q ≠ nI tt := fun z => n1 ((nI_eq (by omega) (by omega)).mp (n2.symm.trans z))
      rw [hsl q, (q6 q hq w).2.2, (hPt q hq).2 w]
      exact hV q hq t ht n2
