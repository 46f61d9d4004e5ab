-- ===== take: an empty page leaves its chain =====
theorem lc_none {pl : aB} {P : aR} {p : Nat} : ∀ (d : Nat), d_lc pl P p d (-1) = P
  | 0 => rfl
  | d + 1 => by
    show (if d_up pl P (-1) = true then _ else P) = P
    rw [up_no, if_neg (by decide)]
theorem lc_walk {tl pl : aB} {P M : aR} {mn t p i : Nat} {r : List Nat} (hPg : PagS tl pl P M mn) (hp : p < 60) : ∀ (l1 : List Nat) (a d : Nat), (∀ x ∈ l1 ++ i :: p :: r, x < 60 ∧ M 3 x = nI t) → t < 8 → (l1 ++ i :: p :: r).Nodup → Lk (M 5) (l1 ++ i :: p :: r) → (l1 ++ i :: p :: r).head? = some a → l1.length < d → d_lc pl P p d (nI a) = d_lcP P i p := by
  have use : ∀ q, q < 60 → M 3 q = nI t → t < 8 → d_up pl P (nI q) = true ∧ P q 1 = M 5 q := by
    intro q hq e ht
    rcases up_eq hPg hq with ⟨u1, -⟩ | ⟨t', _, _, _, _, _, a6⟩
    · rw [u1] at e; exact absurd e.symm (nI_m1 (by omega))
    · rcases (hPg q hq).2 with w | ⟨_, _, _, _, _, r5, _⟩
      · rw [w] at e; exact absurd e.symm (nI_m1 (by omega))
      · exact ⟨a6, r5⟩
  intro l1
  induction l1 with
  | nil =>
    intro a d h ht hn hL ha hd
    have ea : i = a := by simpa using ha
    subst ea
    obtain ⟨d, rfl⟩ : ∃ e, d = e + 1 := ⟨d - 1, by simp at hd; omega⟩
    obtain ⟨hi, e3⟩ := h i (by simp)
    obtain ⟨u1, u2⟩ := use i hi e3 ht
    have hL : M 5 i = nI p ∧ Lk (M 5) (p :: r) := hL
    show (if d_up pl P (nI i) = true then (if P (nI i).toNatClampNeg 1 = nI p then d_lcP P (nI i).toNatClampNeg p else d_lc pl P p d (P (nI i).toNatClampNeg 1)) else P) = _
    rw [u1, if_pos rfl, nI_clamp (by omega), u2, hL.1, if_pos rfl]
  | cons b l1 ih =>
    intro a d h ht hn hL ha hd
    have ea : b = a := by simpa using ha
    subst ea
    obtain ⟨d, rfl⟩ : ∃ e, d = e + 1 := ⟨d - 1, by simp at hd; omega⟩
    obtain ⟨hb, e3⟩ := h b (by simp)
    obtain ⟨u1, u2⟩ := use b hb e3 ht
    have hn : (b :: (l1 ++ i :: p :: r)).Nodup := hn
    have hn2 := (List.nodup_cons.mp hn).2
    obtain ⟨c, hc, hcl, hcp⟩ : ∃ c, M 5 b = nI c ∧ (l1 ++ i :: p :: r).head? = some c ∧ c ≠ p := by
      cases l1 with
      | nil =>
        have hL : M 5 b = nI i ∧ Lk (M 5) (i :: p :: r) := hL
        refine ⟨i, hL.1, rfl, fun w => ?_⟩
        have hn2 : (i :: p :: r).Nodup := hn2
        exact (List.nodup_cons.mp hn2).1 (by rw [w]; exact List.mem_cons_self)
      | cons x l2 =>
        have hL : M 5 b = nI x ∧ Lk (M 5) (x :: (l2 ++ i :: p :: r)) := hL
        refine ⟨x, hL.1, rfl, fun w => ?_⟩
        have hn2 : (x :: (l2 ++ i :: p :: r)).Nodup := hn2
        exact (List.nodup_cons.mp hn2).1 (by rw [w]; simp)
    have hc60 : c < 60 := (h c (List.mem_cons_of_mem _ (List.mem_of_mem_head? hcl))).1
    show (if d_up pl P (nI b) = true then (if P (nI b).toNatClampNeg 1 = nI p then d_lcP P (nI b).toNatClampNeg p else d_lc pl P p d (P (nI b).toNatClampNeg 1)) else P) = _
    rw [u1, if_pos rfl, nI_clamp (by omega), u2, hc, if_neg (fun w => hcp ((nI_eq (by omega) (by omega)).mp w))]
    exact ih c d (fun x hx => h x (List.mem_cons_of_mem _ hx)) ht hn2 (Lk_suf [b] _ hL) hcl (by simp at hd; omega)
/-- no page of the list is followed by p -/
theorem lc_no {tl pl : aB} {P M : aR} {mn t p : Nat} (hPg : PagS tl pl P M mn) (hp : p < 60) (ht : t < 8) : ∀ (r : List Nat) (a d : Nat), (∀ x ∈ a :: r, x < 60 ∧ M 3 x = nI t) → p ∉ r → Lk (M 5) (a :: r) → d_lc pl P p d (nI a) = P := by
  have use : ∀ q, q < 60 → M 3 q = nI t → d_up pl P (nI q) = true ∧ P q 1 = M 5 q := by
    intro q hq e
    rcases up_eq hPg hq with ⟨u1, -⟩ | ⟨t', _, _, _, _, _, a6⟩
    · rw [u1] at e; exact absurd e.symm (nI_m1 (by omega))
    · rcases (hPg q hq).2 with w | ⟨_, _, _, _, _, r5, _⟩
      · rw [w] at e; exact absurd e.symm (nI_m1 (by omega))
      · exact ⟨a6, r5⟩
  intro r
  induction r with
  | nil =>
    intro a d h hn hL
    cases d with
    | zero => rfl
    | succ d =>
      obtain ⟨ha, e3⟩ := h a (by simp)
      obtain ⟨u1, u2⟩ := use a ha e3
      have hL : M 5 a = -1 := hL
      show (if d_up pl P (nI a) = true then (if P (nI a).toNatClampNeg 1 = nI p then d_lcP P (nI a).toNatClampNeg p else d_lc pl P p d (P (nI a).toNatClampNeg 1)) else P) = _
      rw [u1, if_pos rfl, nI_clamp (by omega), u2, hL, if_neg (fun w => nI_m1 (by omega) w.symm), lc_none]
  | cons b r ih =>
    intro a d h hn hL
    cases d with
    | zero => rfl
    | succ d =>
      obtain ⟨ha, e3⟩ := h a (by simp)
      obtain ⟨hb, -⟩ := h b (by simp)
      obtain ⟨u1, u2⟩ := use a ha e3
      have hL : M 5 a = nI b ∧ Lk (M 5) (b :: r) := hL
      show (if d_up pl P (nI a) = true then (if P (nI a).toNatClampNeg 1 = nI p then d_lcP P (nI a).toNatClampNeg p else d_lc pl P p d (P (nI a).toNatClampNeg 1)) else P) = _
      rw [u1, if_pos rfl, nI_clamp (by omega), u2, hL.1, if_neg (fun w => hn (by rw [(nI_eq (by omega) (by omega)).mp w]; exact List.mem_cons_self))]
      exact ih b d (fun x hx => h x (List.mem_cons_of_mem _ hx)) (fun w => hn (List.mem_cons_of_mem _ w)) hL.2
theorem PG.next {Z : Nat → Int32} {x : Int32} {m : Nat} {g : Nat → Option vR} {v : Int32} (h : PG Z x m g) : PG (upd Z 1 v) x m g := by
  have hb : by_N (upd Z 1 v) = by_N Z := by_upd (by decide)
  have e2 : z2 (upd Z 1 v) = z2 Z := by unfold z2; rw [pk_un (by decide)]
  have e4 : z4 (upd Z 1 v) = z4 Z := by unfold z4; rw [pk_un (by decide)]
  have est : ∀ s, st_N (upd Z 1 v) s = st_N Z s := fun s => by rw [st_rdb, st_rdb, hb]
  have esz : ∀ s, sz_N (upd Z 1 v) s = sz_N Z s := fun s => by rw [sz_rdb, sz_rdb, hb]
  obtain ⟨p1, p2, p3, p4, p5, p6⟩ := h
  refine ⟨⟨by rw [pk_un (by decide), e2]; exact p1.1, by rw [e2]; exact p1.2.1, by rw [pk_un (by decide), e4]; exact p1.2.2.1, by rw [e4]; exact p1.2.2.2.1, fit_upd (by decide) p1.2.2.2.2⟩, by rw [e2]; exact p2, by rw [e2, e4]; exact p3, fun s r hs => ?_, fun s hs hg => ?_, fun s s' r r' hs hs' hne => ?_⟩
  · unfold VR
    rw [e2, e4, est, esz, hb]
    exact p4 s r hs
  · rw [e2] at hs
    rw [esz]
    exact p5 s hs hg
  · rw [est, est, esz, esz]
    exact p6 s s' r r' hs hs' hne
theorem Sim0.leave {R : aR} {N : aN} {tl : aB} {T : aR} {pl : aB} {P : aR} {M M' : aR} {V : aN} {sn mn p i t : Nat} {l1 r : List Nat} (h : Sim0 R N tl T pl P M V sn mn) (hm : mn ≤ 514) (hp : p < 60) (ht : t < 8) (hC0 : Chain M t (l1 ++ i :: p :: r)) (hv : y_vn M (nI p) mn = 0) (h5 : ∀ q, q < 60 → M' 5 q = if q = i then M 5 p else M 5 q) (h3 : M' 3 = upd (M 3) p (-1)) (ho : ∀ j, j ≠ 3 → j ≠ 5 → M' j = M j) : Sim0 R N tl T pl (d_lcP P i p) M' V sn mn := by
  obtain ⟨⟨hR, hSt, hH⟩, hT, ⟨hD, hP, hF, hSl, hSh⟩, hPg, ⟨Ls, hC⟩, hPl, hV⟩ := h
  obtain ⟨⟨f, r0, w1, w2⟩, w3, w4, w5⟩ := hC0
  have hpm := (w4 p).mp (by simp)
  have him := (w4 i).mp (by simp)
  have hip : i ≠ p := by
    intro e
    have := (List.nodup_append.mp w3).2.1
    exact (List.nodup_cons.mp this).1 (by rw [e]; exact List.mem_cons_self)
  have hno := vn_0 hm hv
  have hSame : Same M M' V V sn := fun s _ => ⟨by rw [ho 19 (by decide) (by decide)], by rw [ho 20 (by decide) (by decide)], by rw [ho 21 (by decide) (by decide)], rfl⟩
  have hsl : ∀ q, slots_of M' V mn q = slots_of M V mn q := fun q => slots_cg (fun i h1 h2 => ho i (by omega) (by omega)) (ho 19 (by decide) (by decide)) (ho 20 (by decide) (by decide)) (ho 21 (by decide) (by decide))
  have e3 : ∀ q, q ≠ p → M' 3 q = M 3 q := fun q hq => by rw [h3, pk_un hq]
  have e3p : M' 3 p = -1 := by rw [h3, pk_us]
  -- what the pages are now
  have Pp : d_lcP P i p p = pg_rs (P p) (-1) := by
    unfold d_lcP
    rw [va_up_self, va_up_ne _ _ (fun w => hip w.symm)]
  have Pi : d_lcP P i p i = upd (P i) 1 (P p 1) := by
    unfold d_lcP
    rw [va_up_ne _ _ hip, va_up_self]
  have Po : ∀ q, q ≠ p → q ≠ i → d_lcP P i p q = P q := fun q h1 h2 => by
    unfold d_lcP
    rw [va_up_ne _ _ h1, va_up_ne _ _ h2]
  have used : ∀ q, q < 60 → M 3 q = nI t → pl q = true ∧ P q 1 = M 5 q := by
    intro q hq e
    rcases (hPg q hq).2 with w | ⟨_, _, _, _, r4, r5, _⟩
    · rw [w] at e; exact absurd e.symm (nI_m1 (by omega))
    · exact ⟨r4, r5⟩
  obtain ⟨plp, P1p⟩ := used p hp hpm.2
  obtain ⟨pli, P1i⟩ := used i him.1 him.2
  refine ⟨⟨hR, ?_, fun c hcc => ?_⟩, ?_, ⟨⟨fun q hq => ?_, hD.2⟩, fun q hq hql => ?_, fun q hq => ?_, ?_, ?_⟩, fun q hq => ?_, ⟨va_up Ls t (l1 ++ i :: r), fun t' ht' htl => ?_⟩, ⟨fun j hj => ?_, ?_, fun j hj c hcc => ?_⟩, fun q hq t' ht' e' => ?_⟩
  · unfold StI
    rw [ho 19 (by decide) (by decide), ho 20 (by decide) (by decide), ho 21 (by decide) (by decide)]
    exact hSt
  · rw [ho 16 (by decide) (by decide), mcell_cg (ho 19 (by decide) (by decide)) (ho 20 (by decide) (by decide)) (ho 21 (by decide) (by decide))]
    exact ⟨cok_same hSame (Nat.le_refl _) (hH c hcc).1, (hH c hcc).2⟩
  · unfold TabS
    rw [ho 0 (by decide) (by decide), ho 1 (by decide) (by decide), ho 2 (by decide) (by decide)]
    exact hT
  · have h1 : q ≠ p := fun w => by rw [w, plp] at hq; cases hq
    have h2 : q ≠ i := fun w => by rw [w, pli] at hq; cases hq
    rw [Po q h1 h2]
    exact hD.1 q hq
  · by_cases h1 : q = p
    · rw [h1, Pp]
      exact (PG.reset (x := 0) (m := 0) (hP p hp plp).2.2.2.2).1
    · by_cases h2 : q = i
      · rw [h2, Pi]
        have hVi := hV i him.1 t ht him.2
        exact (hVi.next).1
      · rw [Po q h1 h2]
        exact hP q hq hql
  · rw [h5 q hq]
    by_cases e : q = i
    · rw [if_pos e]; exact hF p hp
    · rw [if_neg e]; exact hF q hq
  · unfold Sl_ok sl
    rw [ho 4 (by decide) (by decide)]
    exact hSl
  · unfold S_ok
    rw [ho 15 (by decide) (by decide)]
    exact hSh
  · rw [vn_cg (ho 7 (by decide) (by decide)), fr_cg (ho 4 (by decide) (by decide)) (ho 7 (by decide) (by decide)) (ho 14 (by decide) (by decide)), ho 4 (by decide) (by decide)]
    by_cases h1 : q = p
    · rw [h1, Pp, e3p]
      exact ⟨rs_at.1, Or.inl rfl⟩
    · rw [e3 q h1, h5 q hq]
      obtain ⟨b1, b2⟩ := hPg q hq
      by_cases h2 : q = i
      · rw [h2, Pi, if_pos rfl, pk_us, pk_un (by decide), pk_un (by decide), pk_un (by decide), pk_un (by decide)]
        rw [h2] at b1 b2
        refine ⟨b1, ?_⟩
        rcases b2 with b2 | ⟨t', c1, c2, c3, c4, c5, c6⟩
        · exact Or.inl b2
        · exact Or.inr ⟨t', c1, c2, c3, c4, P1p, c6⟩
      · rw [Po q h1 h2, if_neg h2]
        exact ⟨b1, b2⟩
  · by_cases et : t' = t
    · rw [et, va_up_self]
      have hL60 : ∀ x ∈ l1 ++ i :: p :: r, x < 60 := fun x hx => ((w4 x).mp hx).1
      have hnod : (l1 ++ i :: r).Nodup := by
        refine List.Nodup.sublist (List.Sublist.append_left ?_ l1) w3
        exact List.Sublist.cons_cons i (List.sublist_cons_self p r)
      have hni : ∀ q ∈ l1, q ≠ i := fun q hq e => by
        have := (List.nodup_append.mp w3).2.2 q hq i (by simp)
        exact this e
      have hnr : ∀ q ∈ r, q ≠ i := fun q hq e => by
        have := (List.nodup_append.mp w3).2.1
        exact (List.nodup_cons.mp this).1 (by rw [← e]; exact List.mem_cons_of_mem _ hq)
      have hnp1 : p ∉ l1 := fun hq => by
        exact (List.nodup_append.mp w3).2.2 p hq p (by simp) rfl
      have hnpr : p ∉ r := fun hq => by
        have := (List.nodup_append.mp w3).2.1
        exact (List.nodup_cons.mp (List.nodup_cons.mp this).2).1 hq
      refine ⟨?_, hnod, fun q => ?_, Lk_rm (F := M 5) (p := p) (by rw [h5 i him.1, if_pos rfl]) l1 (fun q hq => by rw [h5 q (hL60 q (by simp [hq])), if_neg (hni q hq)]) (fun q hq => by rw [h5 q (hL60 q (by simp [hq])), if_neg (hnr q hq)]) w5⟩
      · cases l1 with
        | nil =>
          have ef : i = f := by
            have : i :: p :: r = f :: r0 := w1
            injection this
          exact ⟨i, r, rfl, by rw [ho 2 (by decide) (by decide), ef]; exact w2⟩
        | cons a l2 =>
          have ef : a = f := by
            have : a :: (l2 ++ i :: p :: r) = f :: r0 := w1
            injection this
          exact ⟨a, l2 ++ i :: r, rfl, by rw [ho 2 (by decide) (by decide), ef]; exact w2⟩
      · have hmem : q ∈ l1 ++ i :: r ↔ q ∈ l1 ++ i :: p :: r ∧ q ≠ p := by
          constructor
          · intro hq
            rcases List.mem_append.mp hq with z | z
            · exact ⟨List.mem_append_left _ z, fun e => hnp1 (by rw [← e]; exact z)⟩
            · rcases List.mem_cons.mp z with z | z
              · exact ⟨by rw [z]; simp, by rw [z]; exact hip⟩
              · exact ⟨by simp [z], fun e => hnpr (by rw [← e]; exact z)⟩
          · rintro ⟨hq, hne⟩
            rcases List.mem_append.mp hq with z | z
            · exact List.mem_append_left _ z
            · rcases List.mem_cons.mp z with z | z
              · rw [z]; simp
              · rcases List.mem_cons.mp z with z | z
                · exact absurd z hne
                · simp [z]
        rw [hmem, w4 q]
        by_cases e : q = p
        · rw [e, e3p]
          constructor
          · intro z; exact absurd rfl z.2
          · intro z; exact absurd z.2.symm (nI_m1 (by omega))
        · rw [e3 q e]
          exact ⟨fun z => z.1, fun z => ⟨z, e⟩⟩
    · rw [va_up_ne _ _ et]
      obtain ⟨⟨f', r', x1, x2⟩, x3, x4, x5⟩ := hC t' ht' htl
      have hnp : ∀ q ∈ Ls t', q ≠ p ∧ q ≠ i := fun q hq => by
        have := ((x4 q).mp hq).2
        exact ⟨fun e => et ((nI_eq (by omega) (by omega)).mp (by rw [← this, e]; exact hpm.2)), fun e => et ((nI_eq (by omega) (by omega)).mp (by rw [← this, e]; exact him.2))⟩
      refine ⟨⟨f', r', x1, by rw [ho 2 (by decide) (by decide)]; exact x2⟩, x3, fun q => ?_, Lk_cg _ (fun q hq => by rw [h5 q ((x4 q).mp hq).1, if_neg (hnp q hq).2]) x5⟩
      rw [x4 q]
      by_cases e : q = p
      · rw [e, e3p, hpm.2]
        constructor
        · intro z; exact absurd ((nI_eq (by omega) (by omega)).mp z.2).symm et
        · intro z; exact absurd z.2.symm (nI_m1 (by omega))
      · rw [e3 q e]
  · obtain ⟨q, s, a1, a2, a3, t', a4, a5⟩ := hPl.1 j hj
    have hne : q ≠ p := fun e => by
      refine hno j hj ?_
      rw [a3, (pl_dv a1 a2).1, e]
    exact ⟨q, s, a1, a2, by rw [ho 7 (by decide) (by decide)]; exact a3, t', a4, by rw [e3 q hne]; exact a5⟩
  · unfold Inj
    rw [ho 7 (by decide) (by decide)]
    exact hPl.2.1
  · rw [ho 15 (by decide) (by decide)]
    exact cok_same hSame (Nat.le_refl _) (hPl.2.2 j hj c hcc)
  · rw [hsl q]
    by_cases h1 : q = p
    · rw [h1, e3p] at e'; exact absurd e'.symm (nI_m1 (by omega))
    · rw [e3 q h1] at e'
      by_cases h2 : q = i
      · rw [h2, Pi]
        rw [h2] at e'
        exact (hV i him.1 t' ht' e').next
      · rw [Po q h1 h2]
        exact hV q hq t' ht' e'
theorem sim_take : lk_take Sim := by
  intro k R N tl T pl P M V q hk h
  have h9 := (sim_base k R N tl T pl P M V hk h).2
  obtain ⟨h0, ⟨s1, s2⟩, ⟨m1, m2⟩, hS⟩ := h
  unfold d_tkP y_taM
  rcases at_q hS (by omega) q with ⟨a1, a2⟩ | ⟨p, s, t, j, hp, hs, rfl, t1, t2, t3, t4, t5, hj, j1, j2, j3, j4, hG⟩
  · rw [a1, a2]
    exact ⟨rfl, h9⟩
  · rw [j3, j2, decide_eq_false (nI_pos (by omega)), if_pos rfl, if_neg (nI_pos (by omega)), nI_clamp (n := j) (by omega)]
    refine ⟨rfl, ?_⟩
    unfold d_tk1
    obtain ⟨q1, q2⟩ := pq hp hs
    rw [q1, q2]
    obtain ⟨e, ee⟩ : ∃ e, y_mn M = e + 1 := ⟨y_mn M - 1, by omega⟩
    rw [ee, show e + 1 - 1 = e by omega]
    rw [ee] at hS hj j4 hG
    have hS1 := hS.take1 (by omega) hp hs t1 t2 t4 hj j1 j4 hG
    obtain ⟨P1, eP⟩ : ∃ P1, P1 = va_up P p (pg_rm (P p) s (z4 (P p)) (z2 (P p))) := ⟨_, rfl⟩
    obtain ⟨M1, eM⟩ : ∃ M1, M1 = y_d0 M j e 8 := ⟨_, rfl⟩
    rw [← eP, ← eM] at hS1 ⊢
    have h3p : M1 3 p = nI t := by rw [eM, d0_o (by omega)]; exact t2
    have h6 : M1 6 0 = nI e := by rw [eM]; exact (d0_mn (by omega)).1
    have h17 : M1 17 = M 17 := by rw [eM, d0_o (by omega)]
    have fin : ∀ (M' : aR) (P' : aR), M' 6 = M1 6 → M' 17 = M1 17 → Sim0 R N tl T pl P' M' V (y_sn M) e → Sim (k + 1) R N tl T pl P' M' V := by
      intro M' P' c6 c17 hh
      have es : y_sn M' = y_sn M := by unfold y_sn; rw [c17, h17]
      have em : y_mn M' = e := by unfold y_mn; rw [c6, h6, nI_clamp (by omega)]
      refine ⟨by omega, ⟨by rw [es, c17, h17]; exact s1, by omega⟩, ⟨by rw [em, c6]; exact h6, by omega⟩, ?_⟩
      rw [es, em]
      exact hh
    have hPg1 := hS1.2.2.2.1
    have hT1 := hS1.2.1
    obtain ⟨Ls, hC⟩ := hS1.2.2.2.2.1
    have hCh := hC t t1 t3
    have hP10 : P1 p 0 = nI t := by rw [(hPg1 p hp).1, h3p]
    have h3eq : P1 p 3 = y_vn M1 (nI p) e := by
      rcases (hPg1 p hp).2 with w | ⟨_, _, _, _, _, _, _, r7, _⟩
      · rw [w] at h3p; exact absurd h3p.symm (nI_m1 (by omega))
      · exact r7
    unfold d_lv9 y_ta9
    rw [h3eq, hP10, d_tb_nI t1, t3, h3p, nI_clamp (n := t) (by omega)]
    by_cases hv : y_vn M1 (nI p) e = 0
    · rw [if_pos hv, if_pos rfl]
      obtain ⟨⟨f, r0, w1, w2⟩, w3, w4, w5⟩ := id hCh
      have hf60 := ((w4 f).mp (by rw [w1]; exact List.mem_cons_self)).1
      obtain ⟨m, _, _, _, _, eT, _⟩ := (hT1 t t1).1 t3
      rw [eT, w2]
      by_cases hfp : f = p
      · rw [if_neg (fun z => z.2 (by rw [hfp]))]
        have hlc : d_lc pl P1 p 60 (nI f) = P1 := by
          refine lc_no hPg1 hp t1 r0 f 60 (fun x hx => (w4 x).mp (by rw [w1]; exact hx)) ?_ (by rw [← w1]; exact w5)
          rw [w1] at w3
          rw [← hfp]
          exact (List.nodup_cons.mp w3).1
        rw [hlc]
        exact fin M1 P1 rfl rfl hS1
      · rw [if_pos ⟨hv, fun z => hfp ((nI_eq (by omega) (by omega)).mp z)⟩]
        -- p lies behind some page
        have hpin := (w4 p).mpr ⟨hp, h3p⟩
        obtain ⟨lx, r, eL⟩ := List.append_of_mem hpin
        obtain ⟨l1, i, elx⟩ : ∃ l1 i, lx = l1 ++ [i] := by
          rcases List.eq_nil_or_concat lx with z | ⟨l1, i, z⟩
          · exfalso
            rw [z, w1] at eL
            have : f :: r0 = p :: r := eL
            injection this with z1
            exact hfp z1
          · exact ⟨l1, i, by rw [z, List.concat_eq_append]⟩
        have eL2 : Ls t = l1 ++ i :: p :: r := by rw [eL, elx, List.append_assoc]; rfl
        rw [eL2] at hCh w1 w3 w4 w5
        have hlen := hCh.len
        have h5p : M1 5 p ≠ nI p := by
          intro z
          have hx := Lk_suf (l1 ++ [i]) (p :: r) (by rw [List.append_assoc]; exact w5)
          have := Lk_mem hp r p p (fun x hx => ((w4 x).mp (by simp at hx ⊢; rcases hx with hx | hx <;> simp [hx])).1) hx List.mem_cons_self z
          have hn := (List.nodup_append.mp w3).2.1
          exact (List.nodup_cons.mp (List.nodup_cons.mp hn).2).1 this
        obtain ⟨u1, u2⟩ := tl_ok (p := p) (t := nI t) 60 0 M1 h5p
        have hlc : d_lc pl P1 p 60 (nI f) = d_lcP P1 i p := by
          refine lc_walk hPg1 hp l1 f 60 (fun x hx => (w4 x).mp hx) t1 w3 w5 (by rw [w1]; rfl) ?_
          rw [List.length_append] at hlen
          simp at hlen
          omega
        rw [hlc]
        have hi60 := ((w4 i).mp (by simp))
        have hi5 : M1 5 i = nI p := by
          have hx := Lk_suf l1 (i :: p :: r) w5
          exact hx.1
        refine fin _ _ ?_ ?_ (hS1.leave (by omega) hp t1 hCh hv (fun q hq => ?_) ?_ (fun j h3 h5 => ?_))
        · rw [va_up_ne _ _ (by decide), u1 6 (by decide)]
        · rw [va_up_ne _ _ (by decide), u1 17 (by decide)]
        · rw [va_up_ne _ _ (by decide), u2 q]
          by_cases z : q = i
          · rw [if_pos z, z, if_pos ⟨by omega, hi60.2, hi5⟩]
          · rw [if_neg z, if_neg]
            intro y
            refine z (Lk_pred l1 q (fun x hx => ((w4 x).mp hx).1) w3 w5 ((w4 q).mpr ⟨hq, y.2.1⟩) y.2.2)
        · rw [va_up_self, u1 3 (by decide)]
        · rw [va_up_ne _ _ h3, u1 j h5]
    · rw [if_neg hv, if_neg (fun z => hv z.1)]
      exact fin M1 P1 rfl rfl hS1
