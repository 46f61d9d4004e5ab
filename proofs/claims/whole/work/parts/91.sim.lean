-- ===== the relation of both worlds =====
def Lk (F : Nat → Int32) : List Nat → Prop
  | [] => True
  | [p] => F p = -1
  | p :: q :: r => F p = nI q ∧ Lk F (q :: r)
def Chain (M : aR) (t : Nat) (L : List Nat) : Prop := (∃ f r, L = f :: r ∧ M 2 t = nI f) ∧ L.Nodup ∧ (∀ p, p ∈ L ↔ p < 60 ∧ M 3 p = nI t) ∧ Lk (M 5) L
def HandS (R : aR) (N : aN) (M : aR) (V : aN) (sn : Nat) : Prop := HOK R ∧ StI M sn ∧ ∀ c, c < 8 → cok M sn (M 16 c) ∧ dcell R N c = mcell M V (M 16 c)
def TabS (tl : aB) (T : aR) (M : aR) : Prop := ∀ t, t < 8 → (tl t = true → ∃ m, 1 ≤ m ∧ m ≤ 8 ∧ T t 1 = nI m ∧ M 0 t = nI m ∧ T t 0 = M 2 t ∧ ∀ c, c < m → dg (T t 2) c = M 1 (8 * t + c) ∧ (M 1 (8 * t + c) = 1 ∨ M 1 (8 * t + c) = 2 ∨ M 1 (8 * t + c) = 3)) ∧ (tl t = false → ¬ 0 < M 0 t)
def PagS (tl pl : aB) (P : aR) (M : aR) (mn : Nat) : Prop := ∀ p, p < 60 → P p 0 = M 3 p ∧ (M 3 p = -1 ∨ ∃ t, t < 8 ∧ M 3 p = nI t ∧ tl t = true ∧ pl p = true ∧ P p 1 = M 5 p ∧ P p 2 = M 4 p ∧ P p 3 = y_vn M (nI p) mn ∧ P p 4 - 4 * P p 2 = y_fr M p mn)
def ChS (tl : aB) (M : aR) : Prop := ∃ Ls : Nat → List Nat, ∀ t, t < 8 → tl t = true → Chain M t (Ls t)
def PlS (M : aR) (mn sn : Nat) : Prop := (∀ j, j < mn → ∃ p s, p < 60 ∧ s < 256 ∧ M 7 j = nI (256 * p + s) ∧ ∃ t, t < 8 ∧ M 3 p = nI t) ∧ Inj M mn ∧ ∀ j, j < mn → ∀ c, c < 8 → cok M sn (M 15 (8 * j + c))
def slots_of (M : aR) (V : aN) (mn p : Nat) : Nat → Option vR := fun s => if s < 256 then mrec M V mn (256 * p + s) else none
def VerS (T : aR) (P : aR) (M : aR) (V : aN) (mn : Nat) : Prop := ∀ p, p < 60 → ∀ t, t < 8 → M 3 p = nI t → PG (P p) (T t 2) (tm T t) (slots_of M V mn p)
def OkS (tl pl : aB) (P : aR) (M : aR) : Prop := D_ok tl pl P ∧ P_ok pl P ∧ F_ok M ∧ Sl_ok M ∧ S_ok M
def Sim0 (R : aR) (N : aN) (tl : aB) (T : aR) (pl : aB) (P : aR) (M : aR) (V : aN) (sn mn : Nat) : Prop := HandS R N M V sn ∧ TabS tl T M ∧ OkS tl pl P M ∧ PagS tl pl P M mn ∧ ChS tl M ∧ PlS M mn sn ∧ VerS T P M V mn
def Sim (k : Nat) : aS := fun R N tl T pl P M V => k ≤ 512 ∧ (M 17 0 = nI (y_sn M) ∧ y_sn M ≤ k) ∧ (M 6 0 = nI (y_mn M) ∧ y_mn M ≤ k) ∧ Sim0 R N tl T pl P M V (y_sn M) (y_mn M)
theorem PlS.pl {M : aR} {mn sn : Nat} (h : PlS M mn sn) : Pl_ok M mn ∧ Tp_ok M mn := by
  refine ⟨fun k hk => ?_, fun k q hk e hq => ?_⟩
  · obtain ⟨p, s, h1, h2, h3, -⟩ := h.1 k hk
    exact ⟨256 * p + s, by omega, h3⟩
  · obtain ⟨p, s, h1, h2, h3, t, h4, h5⟩ := h.1 k hk
    have : q = 256 * p + s := (nI_eq (by omega) (by omega)).mp (e.symm.trans h3)
    have e2 : q / 256 = p := by omega
    exact ⟨t, h4, by rw [e2]; exact h5⟩
theorem TabS.th {tl : aB} {T : aR} {M : aR} (h : TabS tl T M) {t : Nat} (ht : t < 8) : tl t = true ↔ 0 < M 0 t := by
  constructor
  · intro q
    obtain ⟨m, h1, h2, -, h4, -⟩ := (h t ht).1 q
    rw [h4]
    exact (nI_ltI (a := 0) (by omega) (by omega)).mpr (by omega)
  · intro q
    cases e : tl t with
    | true => rfl
    | false => exact absurd q ((h t ht).2 e)
theorem sim_base : lk_base Sim := by
  intro k R N tl T pl P M V hk h
  obtain ⟨h0, ⟨s1, s2⟩, ⟨m1, m2⟩, ⟨⟨hR, hSt, hH⟩, hT, ⟨hD, hP, hF, hSl, hSh⟩, hPg, hC, hPl, hV⟩⟩ := h
  have hsn : y_sn M < 515 := by omega
  refine ⟨⟨⟨hD, hR.ok, ?_, hP⟩, ⟨m1, m2⟩, ⟨s1, s2⟩, ⟨?_, ?_, hPl.pl.1, hSh, hPl.pl.2⟩, hF, ?_, ?_, ?_, hSl⟩, ⟨by omega, ⟨s1, by omega⟩, ⟨m1, by omega⟩, ⟨⟨hR, hSt, hH⟩, hT, ⟨hD, hP, hF, hSl, hSh⟩, hPg, hC, hPl, hV⟩⟩⟩
  · intro t ht hl
    obtain ⟨m, h1, h2, h3, -⟩ := (hT t ht).1 hl
    unfold tm
    rw [h3, nI_clamp (by omega)]
    exact ⟨rfl, h2⟩
  · intro c hc
    obtain ⟨a, b, d⟩ := cok_so hsn (hH c hc).1
    refine ⟨a, by show so (M 16 c) < 515; omega, fun q => ?_⟩
    rcases d with d | d
    · exact d
    · exfalso
      unfold y_tx at q
      rw [Bool.and_eq_true, decide_eq_true_eq] at q
      have q2 : (0 : Int32) ≤ M 19 (so (M 16 c)) := q.2
      exact absurd d.2 (Int32.not_lt.mpr q2)
  · intro s hs
    by_cases h1 : s = 0
    · unfold bs
      rw [h1, hSt.1.2.1]
      exact ⟨rfl, by decide⟩
    · by_cases h2 : s ≤ y_sn M
      · obtain ⟨b, hb, e, -⟩ := hSt.2.1 s (by omega) h2
        unfold bs
        rw [e, nI_clamp (by omega)]
        exact ⟨rfl, by omega⟩
      · unfold bs
        rw [hSt.2.2 s (by omega) hs]
        exact ⟨rfl, by decide⟩
  · intro t ht h0
    obtain ⟨Ls, hL⟩ := hC
    obtain ⟨⟨f, r, e, e2⟩, -, hm, -⟩ := hL t ht ((hT.th ht).mpr h0)
    exact ⟨f, ((hm f).mp (by rw [e]; exact List.mem_cons_self)).1, e2⟩
  · intro t c ht hc hlt
    have h0 : 0 < M 0 t := Int32.lt_of_le_of_lt (nI_pos' (n := c) (by omega)) hlt
    obtain ⟨m, h1, h2, h3, h4, -, h5⟩ := (hT t ht).1 ((hT.th ht).mpr h0)
    rw [h4] at hlt
    exact (h5 c ((nI_ltI (by omega) (by omega)).mp hlt)).2
  · intro t ht h0
    obtain ⟨m, h1, h2, h3, h4, -, h5⟩ := (hT t ht).1 ((hT.th ht).mpr h0)
    rw [h4, nI_clamp (by omega)]
    exact ⟨rfl, h2⟩
-- columns that a call leaves
theorem vn_cg {M M' : aR} (h : M' 7 = M 7) (p : Int32) (n : Nat) : y_vn M' p n = y_vn M p n := by rw [vn_sum, vn_sum, h]
theorem fr_cg {M M' : aR} (h4 : M' 4 = M 4) (h7 : M' 7 = M 7) (h14 : M' 14 = M 14) (p n : Nat) : y_fr M' p n = y_fr M p n := by rw [fr_sum, fr_sum, h4, h7, h14]
/-- only the hand and the steps have changed -/
theorem Sim0.hand {R R' : aR} {N N' : aN} {tl : aB} {T : aR} {pl : aB} {P : aR} {M M' : aR} {V V' : aN} {sn sn' mn : Nat} (h : Sim0 R N tl T pl P M V sn mn) (hm : mn ≤ 514) (hsn : sn < 515) (hle : sn ≤ sn') (hc : ∀ j, j ≤ 15 → M' j = M j) (hS : Same M M' V V' sn) (hH : HandS R' N' M' V' sn') : Sim0 R' N' tl T pl P M' V' sn' mn := by
  obtain ⟨⟨-, hSt, -⟩, hT, ⟨hD, hP, hF, hSl, hSh⟩, hPg, ⟨Ls, hC⟩, ⟨pl1, pl2, pl3⟩, hV⟩ := h
  have c0 := hc 0 (by omega); have c1 := hc 1 (by omega); have c2 := hc 2 (by omega); have c3 := hc 3 (by omega); have c4 := hc 4 (by omega); have c5 := hc 5 (by omega); have c7 := hc 7 (by omega); have c14 := hc 14 (by omega); have c15 := hc 15 (by omega)
  refine ⟨hH, ?_, ⟨hD, hP, ?_, ?_, ?_⟩, ?_, ⟨Ls, ?_⟩, ⟨?_, ?_, ?_⟩, ?_⟩
  · unfold TabS
    rw [c0, c1, c2]
    exact hT
  · unfold F_ok
    rw [c5]
    exact hF
  · unfold Sl_ok sl
    rw [c4]
    exact hSl
  · unfold S_ok
    rw [c15]
    exact hSh
  · intro p hp
    rw [c3, c4, c5, vn_cg c7, fr_cg c4 c7 c14]
    exact hPg p hp
  · intro t ht htl
    unfold Chain
    rw [c2, c3, c5]
    exact hC t ht htl
  · rw [c7, c3]
    exact pl1
  · unfold Inj
    rw [c7]
    exact pl2
  · intro j hj c hc
    rw [c15]
    exact cok_same hS hle (pl3 j hj c hc)
  · intro p hp t ht e
    rw [c3] at e
    have e2 : slots_of M' V' mn p = slots_of M V mn p := by
      funext s
      unfold slots_of
      by_cases hs : s < 256
      · rw [if_pos hs, if_pos hs]
        unfold mrec
        rw [fd_cg c7]
        rcases y_fd_N M (nI (256 * p + s)) mn with q | ⟨j, hj, q, -⟩
        · rw [q, if_pos (by decide), if_pos (by decide)]
        · rw [q, if_neg (nI_pos (by omega)), if_neg (nI_pos (by omega)), nI_clamp (by omega)]
          congr 1
          unfold vrec
          congr 1
          · funext i
            by_cases hi : i < 7
            · rw [if_pos hi, if_pos hi, hc (8 + i) (by omega)]
            · rw [if_neg hi, if_neg hi]
          · funext c
            by_cases hc8 : c < 8
            · rw [if_pos hc8, if_pos hc8, c15, mcell_same hSt hsn hS (pl3 j hj c hc8)]
            · rw [if_neg hc8, if_neg hc8]
      · rw [if_neg hs, if_neg hs]
    rw [e2]
    exact hV p hp t ht e
