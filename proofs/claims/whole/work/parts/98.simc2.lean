theorem Sim0.create {R : aR} {N : aN} {tl : aB} {T : aR} {pl : aB} {P : aR} {M M' : aR} {V : aN} {sn mn tt m p : Nat} {x : Int32} (h : Sim0 R N tl T pl P M V sn mn) (htt : tt < 8) (hf : tl tt = false) (hm1 : 1 ≤ m) (hm8 : m ≤ 8) (hty : ∀ c, c < m → dg x c = 1 ∨ dg x c = 2 ∨ dg x c = 3) (hp : p < 60) (hfree : M 3 p = -1) (c0 : M' 0 = upd (M 0) tt (nI m)) (c1 : M' 1 = fun j => if 8 * tt ≤ j ∧ j < 8 * tt + m then dg x (j - 8 * tt) else M 1 j) (c2 : M' 2 = upd (M 2) tt (nI p)) (c3 : M' 3 = upd (M 3) p (nI tt)) (c4 : M' 4 = upd (M 4) p 0) (c5 : M' 5 = upd (M 5) p (-1)) (co : ∀ j, 6 ≤ j → M' j = M j) : Sim0 R N (va_up tl tt true) (va_up T tt (tb_Z p (nI m) x)) (va_up pl p true) (va_up P p (pg_rs (P p) (nI tt))) M' V sn mn := by
  obtain ⟨⟨hR, hSt, hH⟩, hT, hOk, hPg, ⟨Ls, hC⟩, hPl, hV⟩ := h
  have hfit := hOk.fit hp
  obtain ⟨hD, hP, hF, hSl, hSh⟩ := hOk
  obtain ⟨r0, r1, r2, r3, r4⟩ := rs_at (Z := P p) (t := nI tt)
  have hSame : Same M M' V V sn := fun s _ => ⟨by rw [co 19 (by omega)], by rw [co 20 (by omega)], by rw [co 21 (by omega)], rfl⟩
  obtain ⟨f1, f2, f3, f4⟩ := free_pg (V := V) hPl hp hfree
  have h3 : ∀ q, q ≠ p → M' 3 q = M 3 q := fun q hq => by rw [c3, pk_un hq]
  have h3p : M' 3 p = nI tt := by rw [c3, pk_us]
  have hsl : ∀ q, slots_of M' V mn q = slots_of M V mn q := fun q => slots_cg (fun i h1 h2 => co i (by omega)) (co 19 (by omega)) (co 20 (by omega)) (co 21 (by omega))
  have hnt : ∀ q, q < 60 → M 3 q ≠ nI tt := by
    intro q hq e
    rcases (hPg q hq).2 with w | ⟨t, w1, w2, w3, -⟩
    · rw [w] at e; exact nI_m1 (by omega) e.symm
    · rw [e] at w2
      have : tt = t := (nI_eq (by omega) (by omega)).mp w2
      rw [← this, hf] at w3
      cases w3
  have htm : tm (va_up T tt (tb_Z p (nI m) x)) tt = m := by
    unfold tm
    rw [va_up_self]
    show (nI m).toNatClampNeg = m
    rw [nI_clamp (by omega)]
  refine ⟨⟨hR, ?_, fun c hcc => ?_⟩, fun t ht => ⟨fun htl => ?_, fun htl => ?_⟩, ⟨⟨fun q hq => ?_, fun q hq => ?_, fun t ht => ?_⟩, fun q hq hql => ?_, fun q hq => ?_, fun q hq => ?_, ?_⟩, fun q hq => ?_, ⟨va_up Ls tt [p], fun t ht htl => ?_⟩, ⟨fun j hj => ?_, ?_, fun j hj c hcc => ?_⟩, fun q hq t ht e => ?_⟩
  · unfold StI
    rw [co 19 (by omega), co 20 (by omega), co 21 (by omega)]
    exact hSt
  · rw [co 16 (by omega), mcell_cg (co 19 (by omega)) (co 20 (by omega)) (co 21 (by omega))]
    exact ⟨cok_same hSame (Nat.le_refl _) (hH c hcc).1, (hH c hcc).2⟩
  · by_cases e : t = tt
    · rw [e, va_up_self, c0, c1, c2, pk_us, pk_us]
      refine ⟨m, hm1, hm8, rfl, rfl, rfl, fun c hcm => ?_⟩
      show dg x c = (if 8 * tt ≤ 8 * tt + c ∧ 8 * tt + c < 8 * tt + m then dg x (8 * tt + c - 8 * tt) else M 1 (8 * tt + c)) ∧ ((if 8 * tt ≤ 8 * tt + c ∧ 8 * tt + c < 8 * tt + m then dg x (8 * tt + c - 8 * tt) else M 1 (8 * tt + c)) = 1 ∨ (if 8 * tt ≤ 8 * tt + c ∧ 8 * tt + c < 8 * tt + m then dg x (8 * tt + c - 8 * tt) else M 1 (8 * tt + c)) = 2 ∨ (if 8 * tt ≤ 8 * tt + c ∧ 8 * tt + c < 8 * tt + m then dg x (8 * tt + c - 8 * tt) else M 1 (8 * tt + c)) = 3)
      rw [if_pos (by omega), show 8 * tt + c - 8 * tt = c by omega]
      exact ⟨rfl, hty c hcm⟩
    · rw [va_up_ne _ _ e] at htl ⊢
      obtain ⟨m', a1, a2, a3, a4, a5, a6⟩ := (hT t ht).1 htl
      refine ⟨m', a1, a2, a3, by rw [c0, pk_un e]; exact a4, by rw [c2, pk_un e]; exact a5, fun c hcm => ?_⟩
      rw [c1]
      show dg (T t 2) c = (if 8 * tt ≤ 8 * t + c ∧ 8 * t + c < 8 * tt + m then dg x (8 * t + c - 8 * tt) else M 1 (8 * t + c)) ∧ ((if 8 * tt ≤ 8 * t + c ∧ 8 * t + c < 8 * tt + m then dg x (8 * t + c - 8 * tt) else M 1 (8 * t + c)) = 1 ∨ (if 8 * tt ≤ 8 * t + c ∧ 8 * t + c < 8 * tt + m then dg x (8 * t + c - 8 * tt) else M 1 (8 * t + c)) = 2 ∨ (if 8 * tt ≤ 8 * t + c ∧ 8 * t + c < 8 * tt + m then dg x (8 * t + c - 8 * tt) else M 1 (8 * t + c)) = 3)
      rw [if_neg (by omega)]
      exact a6 c hcm
  · by_cases e : t = tt
    · rw [e, va_up_self] at htl; cases htl
    · rw [va_up_ne _ _ e] at htl
      rw [c0, pk_un e]
      exact (hT t ht).2 htl
  · by_cases e : q = p
    · rw [e, va_up_self] at hq; cases hq
    · rw [va_up_ne _ _ e] at hq ⊢
      exact hD.1 q hq
  · rw [va_up_ne _ _ (by omega)]
    exact hD.2.1 q hq
  · rw [va_up_ne _ _ (by omega)]
    exact hD.2.2 t ht
  · by_cases e : q = p
    · rw [e, va_up_self]
      exact (PG.reset (x := x) (m := 0) hfit).1
    · rw [va_up_ne _ _ e] at hql ⊢
      exact hP q hq hql
  · by_cases e : q = p
    · rw [e, c5, pk_us]; exact Or.inl (by decide)
    · rw [c5, pk_un e]; exact hF q hq
  · unfold sl
    by_cases e : q = p
    · rw [e, c4, pk_us]; exact ⟨rfl, by decide⟩
    · rw [c4, pk_un e]; exact hSl q hq
  · unfold S_ok
    rw [co 15 (by omega)]
    exact hSh
  · by_cases e : q = p
    · rw [e, va_up_self, h3p, r0, r1, r2, r3, r4, vn_cg (co 7 (by omega)), f2, c4, c5, pk_us, pk_us, va_up_self]
      refine ⟨rfl, Or.inr ⟨tt, htt, rfl, va_up_self _ _ _, rfl, rfl, rfl, rfl, ?_⟩⟩
      rw [fr_sum, co 7 (by omega), co 14 (by omega), c4, pk_us]
      rw [fr_sum] at f3
      have f9 : vsum (fun k => if M 7 k / 256 = nI p then M 14 k else 0) mn = 0 := by
        have : ∀ a b : Int32, a - b = a → b = 0 := by intro a b; grind
        exact this _ _ f3
      rw [f9]
      decide
    · rw [va_up_ne _ _ e, h3 q e, c4, c5, pk_un e, pk_un e, vn_cg (co 7 (by omega)), va_up_ne _ _ e]
      have e4 : y_fr M' q mn = y_fr M q mn := by rw [fr_sum, fr_sum, co 7 (by omega), co 14 (by omega), c4, pk_un e]
      rw [e4]
      obtain ⟨a1, a2⟩ := hPg q hq
      refine ⟨a1, ?_⟩
      rcases a2 with a2 | ⟨t, b1, b2, b3, b4⟩
      · exact Or.inl a2
      · refine Or.inr ⟨t, b1, b2, ?_, b4⟩
        by_cases et : t = tt
        · rw [et, va_up_self]
        · rw [va_up_ne _ _ et]; exact b3
  · by_cases e : t = tt
    · rw [e, va_up_self]
      refine ⟨⟨p, [], rfl, by rw [c2, pk_us]⟩, by simp, fun q => ?_, by rw [c5]; exact pk_us⟩
      rw [List.mem_singleton]
      constructor
      · intro w; rw [w]; exact ⟨hp, h3p⟩
      · intro w
        exact Classical.byContradiction (fun hne => hnt q w.1 (by rw [← h3 q hne]; exact w.2))
    · rw [va_up_ne _ _ e] at htl ⊢
      obtain ⟨⟨f, r, w1, w2⟩, w3, w4, w5⟩ := hC t ht htl
      have hnp : ∀ q ∈ Ls t, q ≠ p := fun q hq eq => by
        have := ((w4 q).mp hq).2
        rw [eq, hfree] at this
        exact nI_m1 (by omega) this.symm
      refine ⟨⟨f, r, w1, by rw [c2, pk_un e]; exact w2⟩, w3, fun q => ?_, Lk_cg _ (fun q hq => by rw [c5, pk_un (hnp q hq)]) w5⟩
      rw [w4 q]
      by_cases eq : q = p
      · rw [eq, h3p, hfree]
        constructor
        · intro w; exact absurd w.2.symm (nI_m1 (by omega))
        · intro w
          exact absurd ((nI_eq (by omega) (by omega)).mp w.2).symm e
      · rw [h3 q eq]
  · obtain ⟨q, s, a1, a2, a3, t, a4, a5⟩ := hPl.1 j hj
    have hne : q ≠ p := fun eq => by rw [eq, hfree] at a5; exact nI_m1 (by omega) a5.symm
    exact ⟨q, s, a1, a2, by rw [co 7 (by omega)]; exact a3, t, a4, by rw [h3 q hne]; exact a5⟩
  · unfold Inj
    rw [co 7 (by omega)]
    exact hPl.2.1
  · rw [co 15 (by omega)]
    exact cok_same hSame (Nat.le_refl _) (hPl.2.2 j hj c hcc)
  · rw [hsl q]
    by_cases eq : q = p
    · rw [eq, h3p] at e
      have : tt = t := (nI_eq (by omega) (by omega)).mp e
      rw [eq, va_up_self, f4]
      exact PG.reset hfit
    · rw [h3 q eq] at e
      have hne : t ≠ tt := fun w => hnt q hq (by rw [e, w])
      have htm2 : tm (va_up T tt (tb_Z p (nI m) x)) t = tm T t := by unfold tm; rw [va_up_ne _ _ hne]
      rw [va_up_ne _ _ eq, va_up_ne _ _ hne, htm2]
      exact hV q hq t ht e
theorem sim_create : lk_create Sim := by
  intro k R N tl T pl P M V t n x hk h
  have h9 := (sim_base k R N tl T pl P M V hk h).2
  obtain ⟨h0, ⟨s1, s2⟩, ⟨m1, m2⟩, hS⟩ := h
  have hT := hS.2.1
  have hPg := hS.2.2.2.1
  have ec1 : ∀ b, (d_in t (nI 8) && (!tl t.toNatClampNeg && (decide (1 ≤ n) && (decide (n ≤ 8) && b)))) = (y_c1 M t n && b) := by
    intro b
    unfold y_c1
    rw [show (nI 8 : Int32) = nI (7 + 1) from rfl, in_eq (n := 7) (by decide) t]
    cases hi : m_in t 0 (nI 7) with
    | false => rfl
    | true =>
      obtain ⟨i, hi8, rfl⟩ := m_in_of (by decide) hi
      rw [nI_clamp (by omega)]
      have := hT.th (t := i) hi8
      have e : tl i = decide (0 < M 0 i) := by
        cases e : tl i with
        | true => rw [decide_eq_true (this.mp e)]
        | false => rw [decide_eq_false (fun q => by rw [this.mpr q] at e; cases e)]
      rw [e]
      show (true && (!decide (0 < M 0 i) && (decide (1 ≤ n) && (decide (n ≤ 8) && b)))) = (true && (!decide (0 < M 0 i) && (decide (1 ≤ n) && decide (n ≤ 8))) && b)
      rw [Bool.true_and, Bool.true_and, Bool.and_assoc, Bool.and_assoc]
  have ecr : cr_ok tl t n x = (y_c1 M t n && d_ty x n.toNatClampNeg 0) := ec1 _
  unfold cr_s cr_o y_crM y_cr
  rw [ecr]
  cases hc1 : y_c1 M t n with
  | false => exact ⟨rfl, h9⟩
  | true =>
    have hc1' := hc1
    unfold y_c1 at hc1'
    rw [Bool.and_eq_true, Bool.and_eq_true] at hc1'
    obtain ⟨hi, hn0, hn⟩ := hc1'
    obtain ⟨i, hi8, rfl⟩ := m_in_of (by decide) hi
    rw [nI_clamp (by omega)] at hn0
    have hn1 : (1 : Int32) ≤ n := by
      unfold m_in at hn
      rw [Bool.and_eq_true, decide_eq_true_eq] at hn
      exact hn.1
    obtain ⟨m, hm, rfl⟩ := m_in_18 hn
    have hm1 : 1 ≤ m := (nI_leI (a := 1) (by omega) (by omega)).mp hn1
    have htl : tl i = false := by
      cases e : tl i with
      | false => rfl
      | true => rw [decide_eq_true ((hT.th hi8).mp e)] at hn0; cases hn0
    have ect : ∀ j, j ≠ 1 → y_ct M i x m j = M j := fun j hj => by unfold y_ct; rw [va_up_ne _ _ hj]
    have ect1 : y_ct M i x m 1 = fun j => if 8 * i ≤ j ∧ j < 8 * i + m then dg x (j - 8 * i) else M 1 j := by unfold y_ct; rw [va_up_self]
    have hty0 : Sim (k + 1) R N tl T pl P (y_ct M i x m) V := by
      have es : y_sn (y_ct M i x m) = y_sn M := by unfold y_sn; rw [ect 17 (by decide)]
      have em : y_mn (y_ct M i x m) = y_mn M := by unfold y_mn; rw [ect 6 (by decide)]
      refine ⟨by omega, ⟨by rw [es, ect 17 (by decide)]; exact s1, by omega⟩, ⟨by rw [em, ect 6 (by decide)]; exact m1, by omega⟩, ?_⟩
      rw [es, em]
      refine hS.types htl ect (fun j hj => ?_)
      rw [ect1]
      show (if 8 * i ≤ j ∧ j < 8 * i + m then _ else M 1 j) = _
      rw [if_neg (by omega)]
    unfold y_c2
    rw [nI_clamp (n := i) (by omega), nI_clamp (n := m) (by omega), cg_eq]
    rcases free_eq hPg with ⟨o1, o2⟩ | ⟨p, hp, o1, o2, o3⟩
    · rw [o1, o2]
      show ((if (true && d_ty x m 0) = true then (none : Option Nat) else none).isSome = (true && (!decide ((-1 : Int32) < 0) && d_ty x m 0))) ∧ _
      have e : (if (true && d_ty x m 0) = true then (none : Option Nat) else none) = none := by split <;> rfl
      rw [e]
      exact ⟨rfl, hty0⟩
    · rw [o1, o2, decide_eq_false (nI_pos (by omega))]
      cases hty : d_ty x m 0 with
      | false => exact ⟨rfl, hty0⟩
      | true =>
        refine ⟨rfl, ?_⟩
        show Sim (k + 1) R N (va_up tl i true) (va_up T i (tb_Z p (nI m) x)) (va_up pl p true) (va_up P p (pg_rs (P p) (nI i))) (y_cr3 (y_ct M i x m) i (nI m) (nI p).toNatClampNeg) V
        rw [nI_clamp (by omega)]
        have htyc : ∀ c, c < m → dg x c = 1 ∨ dg x c = 2 ∨ dg x c = 3 := by
          intro c hc
          have := (ty_all m 0).mp hty c (Nat.zero_le c) (by omega)
          unfold d_t1 at this
          simpa using this
        obtain ⟨M1, e1⟩ : ∃ M1, M1 = y_ct M i x m := ⟨_, rfl⟩
        rw [← e1] at ect ect1 ⊢
        obtain ⟨M', eM⟩ : ∃ M', M' = y_cr3 M1 i (nI m) p := ⟨_, rfl⟩
        rw [← eM]
        have c0 : M' 0 = upd (M 0) i (nI m) := by
          rw [eM]; unfold y_cr3 y_op
          rw [va_up_ne _ _ (by decide), va_up_ne _ _ (by decide), va_up_ne _ _ (by decide), va_up_ne _ _ (by decide), va_up_self, ect 0 (by decide)]
        have c2 : M' 2 = upd (M 2) i (nI p) := by
          rw [eM]; unfold y_cr3 y_op
          rw [va_up_ne _ _ (by decide), va_up_ne _ _ (by decide), va_up_ne _ _ (by decide), va_up_self, ect 2 (by decide)]
        have hx : ∀ j, j ≠ 0 → j ≠ 2 → va_up (va_up M1 0 (upd (M1 0) i (nI m))) 2 (upd (M1 2) i (nI p)) j = M1 j := fun j h0 h2 => by rw [va_up_ne _ _ h2, va_up_ne _ _ h0]
        have c3 : M' 3 = upd (M 3) p (nI i) := by
          rw [eM]; unfold y_cr3 y_op
          rw [va_up_ne _ _ (by decide), va_up_ne _ _ (by decide), va_up_self, hx 3 (by decide) (by decide), ect 3 (by decide)]
        have c4 : M' 4 = upd (M 4) p 0 := by
          rw [eM]; unfold y_cr3 y_op
          rw [va_up_ne _ _ (by decide), va_up_self, hx 4 (by decide) (by decide), ect 4 (by decide)]
        have c5 : M' 5 = upd (M 5) p (-1) := by
          rw [eM]; unfold y_cr3 y_op
          rw [va_up_self, hx 5 (by decide) (by decide), ect 5 (by decide)]
        have cx : ∀ j, j ≠ 0 → j ≠ 2 → j ≠ 3 → j ≠ 4 → j ≠ 5 → M' j = M1 j := fun j h0 h2 h3 h4 h5 => by
          rw [eM]; unfold y_cr3 y_op
          rw [va_up_ne _ _ h5, va_up_ne _ _ h4, va_up_ne _ _ h3, hx j h0 h2]
        have c1 : M' 1 = fun j => if 8 * i ≤ j ∧ j < 8 * i + m then dg x (j - 8 * i) else M 1 j := by rw [cx 1 (by decide) (by decide) (by decide) (by decide) (by decide), ect1]
        have co : ∀ j, 6 ≤ j → M' j = M j := fun j hj => by rw [cx j (by omega) (by omega) (by omega) (by omega) (by omega), ect j (by omega)]
        have es : y_sn M' = y_sn M := by unfold y_sn; rw [co 17 (by omega)]
        have em : y_mn M' = y_mn M := by unfold y_mn; rw [co 6 (by omega)]
        refine ⟨by omega, ⟨by rw [es, co 17 (by omega)]; exact s1, by omega⟩, ⟨by rw [em, co 6 (by omega)]; exact m1, by omega⟩, ?_⟩
        rw [es, em]
        exact hS.create hi8 htl hm1 hm htyc hp o3 c0 c1 c2 c3 c4 c5 co
