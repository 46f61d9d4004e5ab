-- ===== put: the room in a page =====
theorem ff_spec {Z : Nat → Int32} {g : Nat → Option vR} (hg : ∀ s, s < 256 → pg_hd Z s = (g s).isSome) : ∀ (d k : Nat), k + d ≤ 256 → (pg_ff Z d k = none ∧ ∀ s, k ≤ s → s < k + d → (g s).isSome = true) ∨ ∃ s, k ≤ s ∧ s < k + d ∧ pg_ff Z d k = some s ∧ g s = none ∧ ∀ s', k ≤ s' → s' < s → (g s').isSome = true
  | 0, k, _ => Or.inl ⟨rfl, fun s h1 h2 => absurd h1 (by omega)⟩
  | d + 1, k, hk => by
    have u : pg_ff Z (d + 1) k = if pg_hd Z k = true then pg_ff Z d (k + 1) else some k := rfl
    rw [u, hg k (by omega)]
    cases hs : g k with
    | none => exact Or.inr ⟨k, Nat.le_refl k, by omega, rfl, hs, fun s' h1 h2 => absurd h1 (by omega)⟩
    | some r =>
      rw [if_pos (show Option.isSome (some r) = true from rfl)]
      rcases ff_spec hg d (k + 1) (by omega) with ⟨i1, i2⟩ | ⟨s, i1, i2, i3, i4, i5⟩
      · refine Or.inl ⟨i1, fun s h1 h2 => ?_⟩
        by_cases e : s = k
        · rw [e, hs]; rfl
        · exact i2 s (by omega) (by omega)
      · refine Or.inr ⟨s, by omega, by omega, i3, i4, fun s' h1 h2 => ?_⟩
        by_cases e : s' = k
        · rw [e, hs]; rfl
        · exact i5 s' (by omega) h2
theorem ls_spec {M : aR} {V : aN} {mn p : Nat} (hm : mn ≤ 514) : ∀ (d k : Nat), k + d ≤ 256 → (y_ls M mn p d k = k + d ∧ ∀ s, k ≤ s → s < k + d → (slots_of M V mn p s).isSome = true) ∨ ∃ s, k ≤ s ∧ s < k + d ∧ y_ls M mn p d k = s ∧ slots_of M V mn p s = none ∧ ∀ s', k ≤ s' → s' < s → (slots_of M V mn p s').isSome = true
  | 0, k, _ => Or.inl ⟨rfl, fun s h1 h2 => absurd h1 (by omega)⟩
  | d + 1, k, hk => by
    have u : y_ls M mn p (d + 1) k = if y_fd M (nI (256 * p + k)) mn < 0 then k else y_ls M mn p d (k + 1) := rfl
    have hsl : slots_of M V mn p k = mrec M V mn (256 * p + k) := by unfold slots_of; rw [if_pos (by omega)]
    rw [u]
    rcases mrec_or M V (mn := mn) (256 * p + k) hm with ⟨r1, r2, -⟩ | ⟨j, hj, -, r2, r3⟩
    · rw [r2, if_pos (by decide)]
      exact Or.inr ⟨k, Nat.le_refl k, by omega, rfl, by rw [hsl]; exact r1, fun s' h1 h2 => absurd h1 (by omega)⟩
    · rw [r3, if_neg (nI_pos (by omega))]
      have h0 : (slots_of M V mn p k).isSome = true := by rw [hsl, r2]; rfl
      rcases ls_spec (V := V) hm d (k + 1) (by omega) with ⟨i1, i2⟩ | ⟨s, i1, i2, i3, i4, i5⟩
      · refine Or.inl ⟨by rw [i1]; omega, fun s h1 h2 => ?_⟩
        by_cases e : s = k
        · rw [e]; exact h0
        · exact i2 s (by omega) (by omega)
      · refine Or.inr ⟨s, by omega, by omega, i3, i4, fun s' h1 h2 => ?_⟩
        by_cases e : s' = k
        · rw [e]; exact h0
        · exact i5 s' (by omega) h2
theorem room_eq {Z : Nat → Int32} {x : Int32} {M : aR} {V : aN} {m mn p zz : Nat} (hm : mn ≤ 514) (hG : PG Z x m (slots_of M V mn p)) (e4 : Z 2 = M 4 p) (ef : Z 4 - 4 * Z 2 = y_fr M p mn) (hz : zz ≤ 1000) : pg_sf Z (z2 Z) (nI zz) = y_ro M mn p (sl M p) (nI zz) ∧ (pg_sf Z (z2 Z) (nI zz) = -1 ∨ ∃ k, k < 120 ∧ pg_sf Z (z2 Z) (nI zz) = nI k ∧ slots_of M V mn p k = none ∧ (k < z2 Z ∧ zz + 4 * z2 Z ≤ z4 Z ∨ k = z2 Z ∧ zz + 4 + 4 * z2 Z ≤ z4 Z)) := by
  have h120 := hG.2.1
  have h4 := hG.1.2.2.2.1
  have h44 := hG.2.2.1
  have en : sl M p = z2 Z := by unfold sl z2; rw [e4]
  have efb : pg_fb Z = nI (z4 Z - 4 * z2 Z) := by
    unfold pg_fb
    rw [hG.1.2.2.1, hG.1.1, show (4 : Int32) * nI (z2 Z) = nI (4 * z2 Z) from (Int32.ofNat_mul 4 _).symm, nI_sb (by omega)]
  have efr : y_fr M p mn = nI (z4 Z - 4 * z2 Z) := by rw [← ef]; exact efb
  have eM : M 4 p = nI (z2 Z) := by rw [← e4]; exact hG.1.1
  unfold pg_sf y_ro
  rw [efb, efr, eM, en]
  have hff := ff_spec (g := slots_of M V mn p) (fun s hs => hG.hd hs) (z2 Z) 0 (by omega)
  have hls := ls_spec (M := M) (V := V) (p := p) hm (z2 Z) 0 (by omega)
  have c1 : (nI zz ≤ nI (z4 Z - 4 * z2 Z)) ↔ zz + 4 * z2 Z ≤ z4 Z := by
    rw [nI_leI (by omega) (by omega)]; omega
  have c2 : (nI zz + 4 ≤ nI (z4 Z - 4 * z2 Z)) ↔ zz + 4 + 4 * z2 Z ≤ z4 Z := by
    rw [(nI_a zz).2.2.2.1, nI_leI (by omega) (by omega)]; omega
  have c3 : (nI (z2 Z) < (120 : Int32)) ↔ z2 Z < 120 := nI_ltI (b := 120) (by omega) (by decide)
  rcases hff with ⟨f1, f2⟩ | ⟨s, f1, f2, f3, f4, f5⟩
  · have hl : y_ls M mn p (z2 Z) 0 = z2 Z := by
      rcases hls with ⟨l1, -⟩ | ⟨s, l1, l2, l3, l4, -⟩
      · rw [l1]; omega
      · have := f2 s l1 l2
        rw [l4] at this; cases this
    rw [f1, hl, if_neg (nI_nlt (Nat.le_refl _) (by omega)), hG.1.1]
    refine ⟨rfl, ?_⟩
    show (if nI (z2 Z) < 120 ∧ nI zz + 4 ≤ nI (z4 Z - 4 * z2 Z) then nI (z2 Z) else -1) = -1 ∨ ∃ k, k < 120 ∧ (if nI (z2 Z) < 120 ∧ nI zz + 4 ≤ nI (z4 Z - 4 * z2 Z) then nI (z2 Z) else -1) = nI k ∧ _
    by_cases hc : nI (z2 Z) < 120 ∧ nI zz + 4 ≤ nI (z4 Z - 4 * z2 Z)
    · rw [if_pos hc]
      refine Or.inr ⟨z2 Z, c3.mp hc.1, rfl, ?_, Or.inr ⟨rfl, c2.mp hc.2⟩⟩
      cases hh : slots_of M V mn p (z2 Z) with
      | none => rfl
      | some r => exact absurd (hG.2.2.2.1 _ r hh).1 (by omega)
    · rw [if_neg hc]; exact Or.inl rfl
  · have hl : y_ls M mn p (z2 Z) 0 = s := by
      rcases hls with ⟨l1, l2⟩ | ⟨s', l1, l2, l3, l4, l5⟩
      · have := l2 s f1 f2
        rw [f4] at this; cases this
      · rw [l3]
        rcases Nat.lt_trichotomy s' s with q | q | q
        · have := f5 s' l1 q
          rw [l4] at this; cases this
        · exact q
        · have := l5 s f1 q
          rw [f4] at this; cases this
    rw [f3, hl, if_pos (nI_lt (by omega) (by omega))]
    refine ⟨rfl, ?_⟩
    show (if nI zz ≤ nI (z4 Z - 4 * z2 Z) then nI s else -1) = -1 ∨ ∃ k, k < 120 ∧ (if nI zz ≤ nI (z4 Z - 4 * z2 Z) then nI s else -1) = nI k ∧ _
    by_cases hc : nI zz ≤ nI (z4 Z - 4 * z2 Z)
    · rw [if_pos hc]
      exact Or.inr ⟨s, by omega, rfl, f4, Or.inl ⟨by omega, c1.mp hc⟩⟩
    · rw [if_neg hc]; exact Or.inl rfl
-- ===== what the hand gives to a table =====
/-- the cells as the table keeps them -/
def pcell (R : aR) (N : aN) (x : Int32) (m : Nat) : Nat → cv := fun c => if c < m then scell (dg x c) (dcell R N c) else none
theorem h_0 {R : aR} {N : aN} {M : aR} {V : aN} {sn c : Nat} (h : HandS R N M V sn) (hc : c < 8) : (R 0 c = 0 ↔ M 16 c = 0) := by
  rw [← dcell_0 (N := N), (h.2.2 c hc).2]
  unfold mcell
  by_cases w : M 16 c = 0
  · rw [if_pos w]; exact ⟨fun _ => w, fun _ => rfl⟩
  · rw [if_neg w]
    refine ⟨fun q => ?_, fun q => absurd q w⟩
    exfalso
    by_cases w1 : 0 ≤ M 19 (so (M 16 c))
    · rw [if_pos w1] at q; cases q
    · rw [if_neg w1] at q
      by_cases w2 : 0 < M 16 c
      · rw [if_pos w2] at q; cases q
      · rw [if_neg w2] at q; cases q
theorem h_2 {R : aR} {N : aN} {M : aR} {V : aN} {sn c : Nat} (h : HandS R N M V sn) (hc : c < 8) : decide (R 0 c = 2) = y_tx M (M 16 c) := by
  have e1 := dcell_ck (N := N) h.1 hc
  have e2 := mcell_ck (M := M) (V := V) (M 16 c)
  rw [← (h.2.2 c hc).2, ← e1] at e2
  rw [← e2]
  by_cases w : M 16 c = 0
  · rw [if_pos w]
    unfold y_tx
    rw [decide_eq_true w]
    rfl
  · rw [if_neg w]
    cases y_tx M (M 16 c) <;> rfl
theorem hs_eq {R : aR} {N : aN} {M : aR} {V : aN} {sn t m : Nat} {x : Int32} (h : HandS R N M V sn) (hm : m ≤ 8) (hx : ∀ c, c < m → dg x c = M 1 (8 * t + c)) : d_hs R x m 0 = y_ft M t m := by
  have a : ∀ d c, c + d ≤ m → (d_hs R x d c = true ↔ ∀ i, c ≤ i → i < c + d → d_s1 R x i = true) := by
    intro d
    induction d with
    | zero => intro c _; exact ⟨fun _ i h1 h2 => absurd h1 (by omega), fun _ => rfl⟩
    | succ d ih =>
      intro c hc
      show (d_s1 R x c && d_hs R x d (c + 1)) = true ↔ _
      rw [Bool.and_eq_true, ih (c + 1) (by omega)]
      constructor
      · intro w i h1 h2
        by_cases e : i = c
        · rw [e]; exact w.1
        · exact w.2 i (by omega) (by omega)
      · intro w
        exact ⟨w c (Nat.le_refl c) (by omega), fun i h1 h2 => w i (by omega) (by omega)⟩
  have b : ∀ n, y_ft M t n = true ↔ ∀ i, i < n → y_f1 M t i = true := by
    intro n
    induction n with
    | zero => exact ⟨fun _ i h => absurd h (by omega), fun _ => rfl⟩
    | succ n ih =>
      show (y_ft M t n && y_f1 M t n) = true ↔ _
      rw [Bool.and_eq_true, ih]
      constructor
      · intro w i hi
        by_cases e : i = n
        · rw [e]; exact w.2
        · exact w.1 i (by omega)
      · intro w
        exact ⟨fun i hi => w i (by omega), w n (by omega)⟩
  have e : ∀ i, i < m → d_s1 R x i = y_f1 M t i := by
    intro i hi
    unfold d_s1 y_f1
    rw [h_2 h (by omega), hx i hi, decide_eq_decide.mpr (h_0 h (by omega))]
  rw [Bool.eq_iff_iff, a m 0 (by omega), b m]
  constructor
  · intro w i hi; rw [← e i hi]; exact w i (Nat.zero_le i) (by omega)
  · intro w i _ hi; rw [e i (by omega)]; exact w i (by omega)
theorem suits {R : aR} {x : Int32} {m : Nat} (h : d_hs R x m 0 = true) : ∀ c, c < m → R 0 c ≠ 0 → ((R 0 c = 2) ↔ (dg x c = 2)) := by
  have a : ∀ d c, d_hs R x d c = true → ∀ i, c ≤ i → i < c + d → d_s1 R x i = true := by
    intro d
    induction d with
    | zero => intro c _ i h1 h2; exact absurd h1 (by omega)
    | succ d ih =>
      intro c w i h1 h2
      have w : (d_s1 R x c && d_hs R x d (c + 1)) = true := w
      rw [Bool.and_eq_true] at w
      by_cases e : i = c
      · rw [e]; exact w.1
      · exact ih (c + 1) w.2 i (by omega) (by omega)
  intro c hc h0
  have := a m 0 h c (Nat.zero_le c) (by omega)
  unfold d_s1 at this
  rw [decide_eq_false h0, Bool.false_or, beq_iff_eq, decide_eq_decide] at this
  exact this
theorem csz_le {y : Int32} {q : cv} (h : cfit y q) : csz y q ≤ 32 := by
  match q, h with
  | none, _ => exact Nat.zero_le _
  | some (.inl v), _ =>
    show (if y = 1 then 8 else 1) ≤ 32
    split <;> omega
  | some (.inr l), h =>
    have : l.length ≤ 31 := h.2
    show 1 + l.length ≤ 32
    omega
theorem csz_cell {R : aR} {N : aN} {y : Int32} {c : Nat} (hc : c < 8) (h : HOK R) (h0 : R 0 c ≠ 0) (hs : (R 0 c = 2) ↔ (y = 2)) : d_cb R y (nI c) = nI (csz y (scell y (dcell R N c))) ∧ csz y (scell y (dcell R N c)) ≤ 32 ∧ (y = 2 → csz y (scell y (dcell R N c)) = 1 + (otx (dcell R N c)).length) := by
  unfold d_cb
  obtain ⟨l1, l2⟩ := ln_otx (N := N) hc h
  by_cases h2 : R 0 c = 2
  · have hy := hs.mp h2
    have e : dcell R N c = some (.inr (dtxt R c)) := by
      unfold dcell
      rw [if_neg h0, if_pos h2]
    rw [l1, e, if_neg (by rw [hy]; decide), if_pos hy]
    rw [e] at l2
    have l2 : (dtxt R c).length ≤ 31 := l2
    refine ⟨?_, ?_, fun _ => rfl⟩
    · show (1 : Int32) + nI (dtxt R c).length = nI (1 + (dtxt R c).length)
      rw [show (1 : Int32) = nI 1 from rfl, nI_add]
    · show 1 + (dtxt R c).length ≤ 32
      omega
  · have hy : ¬ y = 2 := fun q => h2 (hs.mpr q)
    have e : dcell R N c = some (.inl (N c)) := by
      unfold dcell
      rw [if_neg h0, if_neg h2]
    rw [e]
    have ez : csz y (scell y (some (.inl (N c)))) = if y = 1 then 8 else 1 := rfl
    rw [ez]
    by_cases y1 : y = 1
    · rw [if_pos y1, if_pos y1]; exact ⟨rfl, by omega, fun q => absurd q hy⟩
    · rw [if_neg y1, if_neg y1, if_neg hy]; exact ⟨rfl, by omega, fun q => absurd q hy⟩
theorem dsz_eq {R : aR} {N : aN} {x : Int32} {m : Nat} (h : HOK R) (hm : m ≤ 8) (hs : ∀ c, c < m → R 0 c ≠ 0 → ((R 0 c = 2) ↔ (dg x c = 2))) : ∀ (d c a : Nat), c + d = m → d_sz R x d c (nI (a + csum x (pcell R N x m) c)) = nI (a + csum x (pcell R N x m) m)
  | 0, c, a, hd => by
    have : c = m := by omega
    rw [this]
    rfl
  | d + 1, c, a, hd => by
    have u : d_sz R x (d + 1) c (nI (a + csum x (pcell R N x m) c)) = d_sz R x d (c + 1) (if R 0 c = 0 then nI (a + csum x (pcell R N x m) c) else nI (a + csum x (pcell R N x m) c) + d_cb R (dg x c) (nI c)) := rfl
    have es : csum x (pcell R N x m) (c + 1) = csum x (pcell R N x m) c + csz (dg x c) (pcell R N x m c) := rfl
    have ep : pcell R N x m c = scell (dg x c) (dcell R N c) := by
      unfold pcell
      rw [if_pos (by omega)]
    rw [u, ← dsz_eq h hm hs d (c + 1) a (by omega), es, ep]
    congr 1
    by_cases h0 : R 0 c = 0
    · rw [if_pos h0, dcell_0.mpr h0]
      rfl
    · rw [if_neg h0, (csz_cell (N := N) (by omega) h h0 (hs c (by omega) h0)).1, nI_add]
      congr 1
      omega
theorem ysz_eq {R : aR} {N : aN} {M : aR} {V : aN} {sn t m : Nat} {x : Int32} (h : HandS R N M V sn) (hsn : sn < 515) (hm : m ≤ 8) (hx : ∀ c, c < m → dg x c = M 1 (8 * t + c) ∧ (M 1 (8 * t + c) = 1 ∨ M 1 (8 * t + c) = 2 ∨ M 1 (8 * t + c) = 3)) (hsu : ∀ c, c < m → R 0 c ≠ 0 → ((R 0 c = 2) ↔ (dg x c = 2))) : ∀ c, c ≤ m → y_sz M t c = nI (16 + csum x (pcell R N x m) c)
  | 0, _ => rfl
  | c + 1, hc => by
    have ih := ysz_eq h hsn hm hx hsu c (by omega)
    have u : y_sz M t (c + 1) = if M 16 c = 0 then y_sz M t c else if M 1 (8 * t + c) = 1 then y_sz M t c + 8 else if M 1 (8 * t + c) = 3 then y_sz M t c + 1 else y_sz M t c + 1 + M 21 (hs M c) := rfl
    have es : csum x (pcell R N x m) (c + 1) = csum x (pcell R N x m) c + csz (dg x c) (pcell R N x m c) := rfl
    have ep : pcell R N x m c = scell (dg x c) (dcell R N c) := by
      unfold pcell
      rw [if_pos (by omega)]
    rw [u, ih, es, ep]
    by_cases h0 : R 0 c = 0
    · rw [if_pos ((h_0 h (by omega)).mp h0), dcell_0.mpr h0]
      rfl
    · rw [if_neg (fun q => h0 ((h_0 h (by omega)).mpr q))]
      obtain ⟨c1, c2, c3⟩ := csz_cell (N := N) (by omega) h.1 h0 (hsu c (by omega) h0)
      obtain ⟨x1, x2⟩ := hx c (by omega)
      rw [← Nat.add_assoc, ← nI_add (16 + csum x (pcell R N x m) c) (csz (dg x c) (scell (dg x c) (dcell R N c))), ← c1]
      unfold d_cb
      rw [x1]
      rcases x2 with x2 | x2 | x2
      · rw [if_pos x2, if_pos x2]
      · have n1 : ¬ M 1 (8 * t + c) = 1 := by rw [x2]; decide
        have n3 : ¬ M 1 (8 * t + c) = 3 := by rw [x2]; decide
        rw [if_neg n1, if_neg n3, if_neg n1, if_pos x2, (ln_otx (N := N) (by omega) h.1).1]
        obtain ⟨f1, f2, f3, f4⟩ := fr0_ok h hsn (show c < 8 by omega)
        have ht : y_tx M (M 16 c) = true := by
          rw [← h_2 h (by omega), decide_eq_true]
          exact (hsu c (by omega) h0).mpr (by rw [x1, x2])
        have e0 : y_fr0 M c = hs M c := by unfold y_fr0; rw [ht, if_pos rfl]
        rw [e0] at f3
        rw [f3, Int32.add_assoc]
      · have n1 : ¬ M 1 (8 * t + c) = 1 := by rw [x2]; decide
        have n2 : ¬ M 1 (8 * t + c) = 2 := by rw [x2]; decide
        rw [if_neg n1, if_pos x2, if_neg n1, if_neg n2]
