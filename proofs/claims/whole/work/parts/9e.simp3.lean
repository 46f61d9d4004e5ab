-- ===== put: a page more in a chain =====
theorem Lk_add {F F' : Nat → Int32} {l q : Nat} (hl : F' l = nI q) (hq : F' q = -1) : ∀ (l2 : List Nat), (∀ x ∈ l2, F' x = F x) → Lk F (l2 ++ [l]) → Lk F' (l2 ++ [l, q])
  | [], _, _ => ⟨hl, hq⟩
  | [a], h, hL => ⟨(h a List.mem_cons_self).trans hL.1, hl, hq⟩
  | a :: b :: l2, h, hL => ⟨(h a List.mem_cons_self).trans hL.1, Lk_add hl hq (b :: l2) (fun x hx => h x (List.mem_cons_of_mem _ hx)) hL.2⟩
def grP (P : aR) (l q : Nat) (t : Int32) : aR := va_up (va_up P q (pg_rs (P q) t)) l (upd (va_up P q (pg_rs (P q) t) l) 1 (nI q))
theorem Sim0.grow {R : aR} {N : aN} {tl : aB} {T : aR} {pl : aB} {P : aR} {M : aR} {V : aN} {sn mn l q t : Nat} {l2 : List Nat} (h : Sim0 R N tl T pl P M V sn mn) (hm : mn ≤ 514) (hq : q < 60) (ht : t < 8) (htl : tl t = true) (hfree : M 3 q = -1) (hC0 : Chain M t (l2 ++ [l])) : Sim0 R N tl T (va_up pl q true) (grP P l q (nI t)) (y_pn M t l q) V sn mn := by
  obtain ⟨⟨hR, hSt, hH⟩, hT, hOk, hPg, ⟨Ls, hC⟩, hPl, hV⟩ := h
  have hfit := hOk.fit hq
  obtain ⟨hD, hP, hF, hSl, hSh⟩ := hOk
  obtain ⟨⟨f, r0, w1, w2⟩, w3, w4, w5⟩ := hC0
  have hlm := (w4 l).mp (by simp)
  have hlq : l ≠ q := fun e => by rw [e, hfree] at hlm; exact nI_m1 (by omega) hlm.2.symm
  obtain ⟨r0', r1, r2, r3, r4⟩ := rs_at (Z := P q) (t := nI t)
  obtain ⟨M', eM⟩ : ∃ M', M' = y_pn M t l q := ⟨_, rfl⟩
  rw [← eM]
  have c3 : M' 3 = upd (M 3) q (nI t) := by rw [eM]; rfl
  have c4 : M' 4 = upd (M 4) q 0 := by rw [eM]; rfl
  have c5 : M' 5 = upd (upd (M 5) q (-1)) l (nI q) := by rw [eM]; rfl
  have co : ∀ j, j ≠ 3 → j ≠ 4 → j ≠ 5 → M' j = M j := fun j h3 h4 h5 => by
    rw [eM]; unfold y_pn y_op
    rw [va_up_ne _ _ h5, va_up_ne _ _ h5, va_up_ne _ _ h4, va_up_ne _ _ h3]
  have Pq : grP P l q (nI t) q = pg_rs (P q) (nI t) := by
    unfold grP
    rw [va_up_ne _ _ (fun w => hlq w.symm), va_up_self]
  have Pl : grP P l q (nI t) l = upd (P l) 1 (nI q) := by
    unfold grP
    rw [va_up_self, va_up_ne _ _ hlq]
  have Po : ∀ p, p ≠ q → p ≠ l → grP P l q (nI t) p = P p := fun p h1 h2 => by
    unfold grP
    rw [va_up_ne _ _ h2, va_up_ne _ _ h1]
  have hSame : Same M M' V V sn := fun s _ => ⟨by rw [co 19 (by decide) (by decide) (by decide)], by rw [co 20 (by decide) (by decide) (by decide)], by rw [co 21 (by decide) (by decide) (by decide)], rfl⟩
  obtain ⟨f1, f2, f3, f4⟩ := free_pg (V := V) hPl hq hfree
  have h3 : ∀ p, p ≠ q → M' 3 p = M 3 p := fun p hp => by rw [c3, pk_un hp]
  have h3q : M' 3 q = nI t := by rw [c3, pk_us]
  have h5q : M' 5 q = -1 := by rw [c5, pk_un (fun w => hlq w.symm), pk_us]
  have h5l : M' 5 l = nI q := by rw [c5, pk_us]
  have h5o : ∀ p, p ≠ q → p ≠ l → M' 5 p = M 5 p := fun p h1 h2 => by rw [c5, pk_un h2, pk_un h1]
  have hsl : ∀ p, slots_of M' V mn p = slots_of M V mn p := fun p => slots_cg (fun i h1 h2 => co i (by omega) (by omega) (by omega)) (co 19 (by decide) (by decide) (by decide)) (co 20 (by decide) (by decide) (by decide)) (co 21 (by decide) (by decide) (by decide))
  have hfr : ∀ p, p ≠ q → y_fr M' p mn = y_fr M p mn := fun p hp => by rw [fr_sum, fr_sum, co 7 (by decide) (by decide) (by decide), co 14 (by decide) (by decide) (by decide), c4, pk_un hp]
  have pll : pl l = true := by
    rcases (hPg l hlm.1).2 with w | ⟨_, _, _, _, w, _⟩
    · rw [w] at hlm; exact absurd hlm.2.symm (nI_m1 (by omega))
    · exact w
  refine ⟨⟨hR, ?_, fun c hcc => ?_⟩, ?_, ⟨⟨fun p hp => ?_, fun p hp => ?_, hD.2.2⟩, fun p hp hpl => ?_, fun p hp => ?_, fun p hp => ?_, ?_⟩, fun p hp => ?_, ⟨va_up Ls t (l2 ++ [l, q]), fun t' ht' htl' => ?_⟩, ⟨fun j hj => ?_, ?_, fun j hj c hcc => ?_⟩, fun p hp t' ht' e' => ?_⟩
  · unfold StI
    rw [co 19 (by decide) (by decide) (by decide), co 20 (by decide) (by decide) (by decide), co 21 (by decide) (by decide) (by decide)]
    exact hSt
  · rw [co 16 (by decide) (by decide) (by decide), mcell_cg (co 19 (by decide) (by decide) (by decide)) (co 20 (by decide) (by decide) (by decide)) (co 21 (by decide) (by decide) (by decide))]
    exact ⟨cok_same hSame (Nat.le_refl _) (hH c hcc).1, (hH c hcc).2⟩
  · unfold TabS
    rw [co 0 (by decide) (by decide) (by decide), co 1 (by decide) (by decide) (by decide), co 2 (by decide) (by decide) (by decide)]
    exact hT
  · by_cases e : p = q
    · rw [e, va_up_self] at hp; cases hp
    · rw [va_up_ne _ _ e] at hp
      have : p ≠ l := fun w => by rw [w, pll] at hp; cases hp
      rw [Po p e this]
      exact hD.1 p hp
  · rw [va_up_ne _ _ (by omega)]
    exact hD.2.1 p hp
  · by_cases e : p = q
    · rw [e, Pq]
      exact (PG.reset (x := 0) (m := 0) hfit).1
    · rw [va_up_ne _ _ e] at hpl
      by_cases e2 : p = l
      · rw [e2, Pl]
        exact ((hV l hlm.1 t ht hlm.2).next).1
      · rw [Po p e e2]
        exact hP p hp hpl
  · by_cases e2 : p = l
    · rw [e2, h5l]; exact Or.inr ⟨q, hq, rfl⟩
    · by_cases e : p = q
      · rw [e, h5q]; exact Or.inl (by decide)
      · rw [h5o p e e2]; exact hF p hp
  · unfold sl
    by_cases e : p = q
    · rw [e, c4, pk_us]; exact ⟨rfl, by decide⟩
    · rw [c4, pk_un e]; exact hSl p hp
  · unfold S_ok
    rw [co 15 (by decide) (by decide) (by decide)]
    exact hSh
  · rw [vn_cg (co 7 (by decide) (by decide) (by decide))]
    by_cases e : p = q
    · rw [e, Pq, h3q, h5q, r0', r1, r2, r3, r4, f2, c4, pk_us, va_up_self]
      refine ⟨rfl, Or.inr ⟨t, ht, rfl, htl, rfl, rfl, rfl, rfl, ?_⟩⟩
      rw [fr_sum, co 7 (by decide) (by decide) (by decide), co 14 (by decide) (by decide) (by decide), c4, pk_us]
      rw [fr_sum] at f3
      have f9 : vsum (fun k => if M 7 k / 256 = nI q then M 14 k else 0) mn = 0 := by
        have : ∀ a b : Int32, a - b = a → b = 0 := by intro a b; grind
        exact this _ _ f3
      rw [f9]
      decide
    · rw [h3 p e, c4, pk_un e, hfr p e, va_up_ne _ _ e]
      obtain ⟨d1, d2⟩ := hPg p hp
      by_cases e2 : p = l
      · rw [e2, Pl, pk_us, pk_un (by decide), pk_un (by decide), pk_un (by decide), pk_un (by decide), h5l]
        rw [e2] at d1 d2
        refine ⟨d1, ?_⟩
        rcases d2 with d2 | ⟨t', b1, b2, b3, b4, b5, b6⟩
        · exact Or.inl d2
        · exact Or.inr ⟨t', b1, b2, b3, b4, rfl, b6⟩
      · rw [Po p e e2, h5o p e e2]
        exact ⟨d1, d2⟩
  · by_cases et : t' = t
    · rw [et, va_up_self]
      have hnq : q ∉ l2 ++ [l] := fun hx => by
        have := ((w4 q).mp hx).2
        rw [hfree] at this
        exact nI_m1 (by omega) this.symm
      have hnl : ∀ x ∈ l2, x ≠ l := fun x hx e => (List.nodup_append.mp w3).2.2 x hx l (by simp) e
      refine ⟨?_, ?_, fun p => ?_, Lk_add h5l h5q l2 (fun x hx => h5o x (fun e => hnq (by rw [← e]; exact List.mem_append_left _ hx)) (hnl x hx)) w5⟩
      · rw [co 2 (by decide) (by decide) (by decide)]
        cases l2 with
        | nil =>
          have : l :: [] = f :: r0 := w1
          injection this with z
          exact ⟨l, [q], rfl, by rw [z]; exact w2⟩
        | cons a l3 =>
          have : a :: (l3 ++ [l]) = f :: r0 := w1
          injection this with z
          exact ⟨a, l3 ++ [l, q], rfl, by rw [z]; exact w2⟩
      · rw [show l2 ++ [l, q] = (l2 ++ [l]) ++ [q] by rw [List.append_assoc]; rfl]
        refine List.nodup_append.mpr ⟨w3, by simp, fun x hx y hy e => ?_⟩
        have : y = q := by simpa using hy
        exact hnq (by rw [← this, ← e]; exact hx)
      · have hmem : p ∈ l2 ++ [l, q] ↔ p ∈ l2 ++ [l] ∨ p = q := by simp [or_assoc]
        rw [hmem, w4 p]
        by_cases e : p = q
        · rw [e, h3q]
          exact ⟨fun _ => ⟨hq, rfl⟩, fun _ => Or.inr rfl⟩
        · rw [h3 p e]
          exact ⟨fun z => z.resolve_right e, fun z => Or.inl z⟩
    · rw [va_up_ne _ _ et]
      obtain ⟨⟨f', r', x1, x2⟩, x3, x4, x5⟩ := hC t' ht' htl'
      have hnp : ∀ p ∈ Ls t', p ≠ q ∧ p ≠ l := fun p hp => by
        have := ((x4 p).mp hp).2
        refine ⟨fun e => ?_, fun e => et ((nI_eq (by omega) (by omega)).mp (by rw [← this, e]; exact hlm.2))⟩
        rw [e, hfree] at this
        exact nI_m1 (by omega) this.symm
      refine ⟨⟨f', r', x1, by rw [co 2 (by decide) (by decide) (by decide)]; exact x2⟩, x3, fun p => ?_, Lk_cg _ (fun p hp => h5o p (hnp p hp).1 (hnp p hp).2) x5⟩
      rw [x4 p]
      by_cases e : p = q
      · rw [e, h3q, hfree]
        constructor
        · intro z; exact absurd z.2.symm (nI_m1 (by omega))
        · intro z; exact absurd ((nI_eq (by omega) (by omega)).mp z.2).symm et
      · rw [h3 p e]
  · obtain ⟨p, s, a1, a2, a3, t', a4, a5⟩ := hPl.1 j hj
    have hne : p ≠ q := fun e => by rw [e, hfree] at a5; exact nI_m1 (by omega) a5.symm
    exact ⟨p, s, a1, a2, by rw [co 7 (by decide) (by decide) (by decide)]; exact a3, t', a4, by rw [h3 p hne]; exact a5⟩
  · unfold Inj
    rw [co 7 (by decide) (by decide) (by decide)]
    exact hPl.2.1
  · rw [co 15 (by decide) (by decide) (by decide)]
    exact cok_same hSame (Nat.le_refl _) (hPl.2.2 j hj c hcc)
  · rw [hsl p]
    by_cases e : p = q
    · rw [e, Pq, f4]
      exact PG.reset hfit
    · rw [h3 p e] at e'
      by_cases e2 : p = l
      · rw [e2, Pl]
        rw [e2] at e'
        exact (hV l hlm.1 t' ht' e').next
      · rw [Po p e e2]
        exact hV p hp t' ht' e'
-- ===== put: the walk along the chain =====
theorem pl_end {M : aR} {mn : Nat} {z : Int32} {l : Nat} : ∀ d, y_pl M mn z d (-1) l = (-1, l)
  | 0 => rfl
  | d + 1 => by
    have u : y_pl M mn z (d + 1) (-1) l = if (0 : Int32) ≤ -1 ∧ y_ro M mn (-1 : Int32).toNatClampNeg (sl M (-1 : Int32).toNatClampNeg) z < 0 then y_pl M mn z d (M 5 (-1 : Int32).toNatClampNeg) (-1 : Int32).toNatClampNeg else (-1, l) := rfl
    rw [u, if_neg (fun w => absurd w.1 (by decide))]
theorem walk_put {R : aR} {N : aN} {tl : aB} {T : aR} {pl : aB} {P : aR} {M : aR} {V : aN} {sn mn t zz : Nat} (h : Sim0 R N tl T pl P M V sn mn) (hm : mn ≤ 514) (ht : t < 8) (hz : zz ≤ 1000) : ∀ (r : List Nat) (p d d' l0 : Nat), Lk (M 5) (p :: r) → (∀ x ∈ p :: r, x < 60 ∧ M 3 x = nI t) → (p :: r).length ≤ d → (p :: r).length ≤ d' → (∃ q k, q < 60 ∧ M 3 q = nI t ∧ k < 120 ∧ y_ro M mn q (sl M q) (nI zz) = nI k ∧ slots_of M V mn q k = none ∧ (k < z2 (P q) ∧ zz + 4 * z2 (P q) ≤ z4 (P q) ∨ k = z2 (P q) ∧ zz + 4 + 4 * z2 (P q) ≤ z4 (P q)) ∧ m_l pl P (nI t) (nI zz) d (nI p) = m_add pl P (nI q) k (nI zz) ∧ (y_pl M mn (nI zz) d' (nI p) l0).1 = nI q) ∨ ∃ l l2, p :: r = l2 ++ [l] ∧ P l 1 = -1 ∧ m_l pl P (nI t) (nI zz) d (nI p) = m_new pl P (nI t) (nI zz) l ∧ y_pl M mn (nI zz) d' (nI p) l0 = (-1, l) := by
  have hPg := h.2.2.2.1
  have hV := h.2.2.2.2.2.2
  intro r
  induction r with
  | nil =>
    intro p d d' l0 hL hq hd hd'
    obtain ⟨hp, h3⟩ := hq p List.mem_cons_self
    obtain ⟨d, rfl⟩ : ∃ e, d = e + 1 := ⟨d - 1, by simp at hd; omega⟩
    obtain ⟨d', rfl⟩ : ∃ e, d' = e + 1 := ⟨d' - 1, by simp at hd'; omega⟩
    have hL : M 5 p = -1 := hL
    rcases up_eq hPg hp with ⟨u1, -⟩ | ⟨t', a1, a2, a3, a4, a5, a6⟩
    · rw [u1] at h3; exact absurd h3.symm (nI_m1 (by omega))
    · rcases (hPg p hp).2 with w | ⟨_, _, _, _, _, r5, r6, _, r8⟩
      · rw [w] at h3; exact absurd h3.symm (nI_m1 (by omega))
      · obtain ⟨e1, e2⟩ := room_eq hm (hV p hp t ht h3) r6 r8 hz
        have u : m_l pl P (nI t) (nI zz) (d + 1) (nI p) = if pg_sf (P p) (z2 (P p)) (nI zz) = -1 then m_new pl P (nI t) (nI zz) p else m_add pl P (nI p) (pg_sf (P p) (z2 (P p)) (nI zz)).toNatClampNeg (nI zz) := by
          show (if d_up pl P (nI p) = true then (if pg_sf (P (nI p).toNatClampNeg) (z2 (P (nI p).toNatClampNeg)) (nI zz) = -1 then (if P (nI p).toNatClampNeg 1 = -1 then m_new pl P (nI t) (nI zz) (nI p).toNatClampNeg else m_l pl P (nI t) (nI zz) d (P (nI p).toNatClampNeg 1)) else m_add pl P (nI p) (pg_sf (P (nI p).toNatClampNeg) (z2 (P (nI p).toNatClampNeg)) (nI zz)).toNatClampNeg (nI zz)) else (-1, pl, P)) = _
          rw [a6, if_pos rfl, nI_clamp (by omega), r5, hL, if_pos (show (-1 : Int32) = -1 from rfl)]
        have v : y_pl M mn (nI zz) (d' + 1) (nI p) l0 = if y_ro M mn p (sl M p) (nI zz) < 0 then y_pl M mn (nI zz) d' (M 5 p) p else (nI p, l0) := by
          show (if 0 ≤ nI p ∧ y_ro M mn (nI p).toNatClampNeg (sl M (nI p).toNatClampNeg) (nI zz) < 0 then y_pl M mn (nI zz) d' (M 5 (nI p).toNatClampNeg) (nI p).toNatClampNeg else (nI p, l0)) = _
          rw [nI_clamp (by omega)]
          by_cases w : y_ro M mn p (sl M p) (nI zz) < 0
          · rw [if_pos ⟨nI_pos' (by omega), w⟩, if_pos w]
          · rw [if_neg (fun z => w z.2), if_neg w]
        rw [u, v]
        rcases e2 with e2 | ⟨k, k1, k2, k3, k4⟩
        · rw [e2, if_pos rfl, ← e1, e2, if_pos (by decide), hL, pl_end]
          exact Or.inr ⟨p, [], rfl, by rw [r5, hL], rfl, rfl⟩
        · rw [k2, if_neg (nI_m1 (by omega)), ← e1, k2, if_neg (nI_pos (by omega)), nI_clamp (by omega)]
          exact Or.inl ⟨p, k, hp, h3, k1, by rw [← e1, k2], k3, k4, rfl, rfl⟩
  | cons p2 r ih =>
    intro p d d' l0 hL hq hd hd'
    obtain ⟨hp, h3⟩ := hq p List.mem_cons_self
    obtain ⟨hp2, -⟩ := hq p2 (List.mem_cons_of_mem _ List.mem_cons_self)
    obtain ⟨d, rfl⟩ : ∃ e, d = e + 1 := ⟨d - 1, by simp at hd; omega⟩
    obtain ⟨d', rfl⟩ : ∃ e, d' = e + 1 := ⟨d' - 1, by simp at hd'; omega⟩
    obtain ⟨hL5, hL2⟩ : M 5 p = nI p2 ∧ Lk (M 5) (p2 :: r) := hL
    rcases up_eq hPg hp with ⟨u1, -⟩ | ⟨t', a1, a2, a3, a4, a5, a6⟩
    · rw [u1] at h3; exact absurd h3.symm (nI_m1 (by omega))
    · rcases (hPg p hp).2 with w | ⟨_, _, _, _, _, r5, r6, _, r8⟩
      · rw [w] at h3; exact absurd h3.symm (nI_m1 (by omega))
      · obtain ⟨e1, e2⟩ := room_eq hm (hV p hp t ht h3) r6 r8 hz
        have u : m_l pl P (nI t) (nI zz) (d + 1) (nI p) = if pg_sf (P p) (z2 (P p)) (nI zz) = -1 then m_l pl P (nI t) (nI zz) d (nI p2) else m_add pl P (nI p) (pg_sf (P p) (z2 (P p)) (nI zz)).toNatClampNeg (nI zz) := by
          show (if d_up pl P (nI p) = true then (if pg_sf (P (nI p).toNatClampNeg) (z2 (P (nI p).toNatClampNeg)) (nI zz) = -1 then (if P (nI p).toNatClampNeg 1 = -1 then m_new pl P (nI t) (nI zz) (nI p).toNatClampNeg else m_l pl P (nI t) (nI zz) d (P (nI p).toNatClampNeg 1)) else m_add pl P (nI p) (pg_sf (P (nI p).toNatClampNeg) (z2 (P (nI p).toNatClampNeg)) (nI zz)).toNatClampNeg (nI zz)) else (-1, pl, P)) = _
          rw [a6, if_pos rfl, nI_clamp (by omega), r5, hL5, if_neg (show ¬ nI p2 = -1 from nI_m1 (by omega))]
        have v : y_pl M mn (nI zz) (d' + 1) (nI p) l0 = if y_ro M mn p (sl M p) (nI zz) < 0 then y_pl M mn (nI zz) d' (M 5 p) p else (nI p, l0) := by
          show (if 0 ≤ nI p ∧ y_ro M mn (nI p).toNatClampNeg (sl M (nI p).toNatClampNeg) (nI zz) < 0 then y_pl M mn (nI zz) d' (M 5 (nI p).toNatClampNeg) (nI p).toNatClampNeg else (nI p, l0)) = _
          rw [nI_clamp (by omega)]
          by_cases w : y_ro M mn p (sl M p) (nI zz) < 0
          · rw [if_pos ⟨nI_pos' (by omega), w⟩, if_pos w]
          · rw [if_neg (fun z => w z.2), if_neg w]
        rw [u, v]
        rcases e2 with e2 | ⟨k, k1, k2, k3, k4⟩
        · rw [e2, if_pos rfl, ← e1, e2, if_pos (by decide), hL5]
          rcases ih p2 d d' p hL2 (fun x hx => hq x (List.mem_cons_of_mem _ hx)) (by simp at hd ⊢; omega) (by simp at hd' ⊢; omega) with i | ⟨l, l2, i1, i2⟩
          · exact Or.inl i
          · exact Or.inr ⟨l, p :: l2, by rw [i1]; rfl, i2⟩
        · rw [k2, if_neg (nI_m1 (by omega)), ← e1, k2, if_neg (nI_pos (by omega)), nI_clamp (by omega)]
          exact Or.inl ⟨p, k, hp, h3, k1, by rw [← e1, k2], k3, k4, rfl, rfl⟩
