-- ===== put =====
theorem csum_b {R : aR} {N : aN} {x : Int32} {m : Nat} (h : HOK R) (hm : m ≤ 8) (hs : ∀ c, c < m → R 0 c ≠ 0 → ((R 0 c = 2) ↔ (dg x c = 2))) : ∀ c, c ≤ m → csum x (pcell R N x m) c ≤ 32 * c
  | 0, _ => Nat.le_refl _
  | c + 1, hc => by
    have ih := csum_b (N := N) h hm hs c (by omega)
    have es : csum x (pcell R N x m) (c + 1) = csum x (pcell R N x m) c + csz (dg x c) (pcell R N x m c) := rfl
    have ep : pcell R N x m c = scell (dg x c) (dcell R N c) := by
      unfold pcell
      rw [if_pos (by omega)]
    rw [es, ep]
    by_cases h0 : R 0 c = 0
    · rw [dcell_0.mpr h0]
      show csum x (pcell R N x m) c + 0 ≤ _
      omega
    · have := (csz_cell (N := N) (by omega) h h0 (hs c (by omega) h0)).2.1
      omega
theorem va_uu {α : Type} (f : Nat → α) (k : Nat) (a b : α) : va_up (va_up f k a) k b = va_up f k b := by
  funext j
  by_cases h : j = k
  · rw [h, va_up_self, va_up_self]
  · rw [va_up_ne _ _ h, va_up_ne _ _ h, va_up_ne _ _ h]
/-- the desk's way with a place that was found -/
theorem pt_add {R : aR} {N : aN} {T : aR} {pl : aB} {P : aR} {t q k : Nat} {n mk cm z : Int32} (hq : q < 60) (hk : k < 120) (hup : d_up pl P (nI q) = true) (h0 : pg_ad (P q) k z 0 = P q 0) (hh : pg_hd (pg_ad (P q) k z) k = true) : pt_f R N T t n mk cm (m_add pl P (nI q) k z) = (nI (256 * q + k), pl, va_up P q (pt_w R N (T t 2) (tm T t) k n mk cm (pg_ad (P q) k z))) := by
  have e1 : d_adr pl P (nI q) k = nI (256 * q + k) := by
    unfold d_adr
    rw [hup, if_pos rfl, nI_clamp (by omega)]
  have e2 : d_adP pl P (nI q) k z = va_up P q (pg_ad (P q) k z) := by
    unfold d_adP
    rw [hup, if_pos rfl, nI_clamp (by omega)]
  unfold m_add
  rw [e1, e2]
  obtain ⟨q1, q2⟩ := pq hq (show k < 256 by omega)
  have hw : d_wv pl (va_up P q (pg_ad (P q) k z)) (nI (256 * q + k)) = true := by
    rw [d_wv_nI (by omega), show (256 * q + k) / 256 = q by omega, show (256 * q + k) % 256 = k by omega, va_up_self, hh, d_up_nI hq, va_up_self, h0, ← d_up_nI hq, hup]
    rfl
  unfold pt_f
  show (if d_wv pl (va_up P q (pg_ad (P q) k z)) (nI (256 * q + k)) = true then (nI (256 * q + k), pl, va_up (va_up P q (pg_ad (P q) k z)) ((nI (256 * q + k)).toNatClampNeg / 256) (pt_w R N (T t 2) (tm T t) ((nI (256 * q + k)).toNatClampNeg % 256) n mk cm (va_up P q (pg_ad (P q) k z) ((nI (256 * q + k)).toNatClampNeg / 256)))) else (-1, pl, va_up P q (pg_ad (P q) k z))) = _
  rw [hw, if_pos rfl, q1, q2, va_uu, va_up_self]
theorem sim_put : lk_put Sim := by
  intro k R N tl T pl P M V t n a b hk h
  have h9 := (sim_base k R N tl T pl P M V hk h).2
  obtain ⟨h0, ⟨s1, s2⟩, ⟨m1, m2⟩, hS⟩ := h
  have hT := hS.2.1
  have hPg := hS.2.2.2.1
  have hV := hS.2.2.2.2.2.2
  obtain ⟨Ls, hC⟩ := hS.2.2.2.2.1
  unfold pt_r y_put pt_ok y_pok
  rw [th_eq hT]
  cases hy : y_th M t with
  | false => exact ⟨rfl, h9⟩
  | true =>
    obtain ⟨tt, htt, rfl, h0t⟩ := y_th_in hy
    have htl : tl tt = true := (hT.th htt).mpr h0t
    obtain ⟨m, hm1, hm8, eT1, eM0, eT0, hx⟩ := (hT tt htt).1 htl
    have etm : tm T tt = m := by unfold tm; rw [eT1, nI_clamp (by omega)]
    rw [nI_clamp (n := tt) (by omega), etm, eM0, nI_clamp (n := m) (by omega), ← hs_eq hS.1 hm8 (fun c hc => (hx c hc).1)]
    have e1 : d_sh a = m_in a 0 65535 := rfl
    have e2 : d_sh b = m_in b 0 65535 := rfl
    rw [← e1, ← e2]
    cases hok : (true && (!decide (n < 0) && (d_sh a && (d_sh b && d_hs R (T tt 2) m 0)))) with
    | false => exact ⟨rfl, h9⟩
    | true =>
      rw [if_pos rfl, if_pos rfl]
      rw [Bool.true_and, Bool.and_eq_true, Bool.and_eq_true, Bool.and_eq_true] at hok
      obtain ⟨hn, ha, hb, hsuit⟩ := hok
      have hn : ¬ n < 0 := by simpa using hn
      obtain ⟨nn, hnn, rfl⟩ := nI_of hn
      obtain ⟨aa, haa, rfl⟩ := sh_of ha
      obtain ⟨bb, hbb, rfl⟩ := sh_of hb
      have hsu := suits hsuit
      obtain ⟨zz, ez⟩ : ∃ zz, zz = 16 + csum (T tt 2) (pcell R N (T tt 2) m) m := ⟨_, rfl⟩
      have hzb := csum_b (N := N) hS.1.1 hm8 hsu m (Nat.le_refl _)
      have ed : d_sz R (T tt 2) m 0 16 = nI zz := by
        rw [ez]
        exact dsz_eq (N := N) hS.1.1 hm8 hsu m 0 16 (by omega)
      have ey : y_sz M tt m = nI zz := by
        rw [ez]
        exact ysz_eq hS.1 (by omega) hm8 hx hsu m (Nat.le_refl _)
      have hCh := hC tt htt htl
      obtain ⟨⟨f, r, w1, w2⟩, w3, w4, w5⟩ := id hCh
      have hlen := hCh.len
      rw [w1] at w5 hlen
      have hf60 := ((w4 f).mp (by rw [w1]; exact List.mem_cons_self)).1
      unfold pt_m
      rw [etm, ed, ey, eT0, w2, nI_clamp (n := f) (by omega)]
      have fin : ∀ (M0 : aR) (P' : aR) (pl' : aB) (q : Nat) (kk : Int32), M0 17 = M 17 → Sim0 R N tl T pl' P' (y_pe (y_pa M0 (y_mn M) q kk (nI zz) (nI nn) (nI aa) (nI bb)) (y_mn M) tt) V (y_sn M) (y_mn M + 1) → Sim (k + 1) R N tl T pl' P' (y_pe (y_pa M0 (y_mn M) q kk (nI zz) (nI nn) (nI aa) (nI bb)) (y_mn M) tt) V := by
        intro M0 P' pl' q kk c17 hh
        have e6 : y_pe (y_pa M0 (y_mn M) q kk (nI zz) (nI nn) (nI aa) (nI bb)) (y_mn M) tt 6 0 = nI (y_mn M + 1) := rfl
        have e17 : y_pe (y_pa M0 (y_mn M) q kk (nI zz) (nI nn) (nI aa) (nI bb)) (y_mn M) tt 17 = M0 17 := rfl
        have es : y_sn (y_pe (y_pa M0 (y_mn M) q kk (nI zz) (nI nn) (nI aa) (nI bb)) (y_mn M) tt) = y_sn M := by unfold y_sn; rw [e17, c17]
        have em : y_mn (y_pe (y_pa M0 (y_mn M) q kk (nI zz) (nI nn) (nI aa) (nI bb)) (y_mn M) tt) = y_mn M + 1 := by
          show (y_pe (y_pa M0 (y_mn M) q kk (nI zz) (nI nn) (nI aa) (nI bb)) (y_mn M) tt 6 0).toNatClampNeg = _
          rw [e6, nI_clamp (by omega)]
        refine ⟨by omega, ⟨by rw [es, e17, c17]; exact s1, by omega⟩, ⟨by rw [em]; exact e6, by omega⟩, ?_⟩
        rw [es, em]
        exact hh
      have e256 : ∀ q kk : Nat, 256 * nI q + nI kk = nI (256 * q + kk) := fun q kk => by rw [show (256 : Int32) * nI q = nI (256 * q) from (Int32.ofNat_mul 256 q).symm, nI_add]
      rcases walk_put hS (by omega) htt (zz := zz) (by omega) r f 60 60 f w5 (fun x hx => (w4 x).mp (by rw [w1]; exact hx)) hlen hlen with ⟨q, kk, q60, q3, k120, kro, kno, kroom, wm, wp⟩ | ⟨l, l2, eL, l1, wm, wp⟩
      · obtain ⟨p1, p2⟩ := hS.put1 (n := nn) (mk := aa) (cm := bb) (by omega) (by omega) q60 htt htl q3 etm hsuit ez k120 kno kroom hnn haa hbb
        have hup : d_up pl P (nI q) = true := by
          rcases up_eq hPg q60 with ⟨u1, -⟩ | ⟨t', _, _, _, _, _, a6⟩
          · rw [u1] at q3; exact absurd q3.symm (nI_m1 (by omega))
          · exact a6
        have hG := hV q q60 tt htt q3
        rw [wm, pt_add q60 k120 hup ((ad_ok hG.1 kroom k120).1 0 (by omega)) p2, etm]
        unfold y_pg9
        rw [wp, if_pos (nI_pos' (by omega)), nI_clamp (n := q) (by omega)]
        unfold y_pf
        rw [kro]
        exact ⟨(e256 q kk).symm, fin M _ pl q (nI kk) rfl p1⟩
      · rw [wm]
        unfold y_pg9
        rw [wp]
        show (pt_f R N T tt (nI nn) (nI aa) (nI bb) (m_new pl P (nI tt) (nI zz) l)).1 = (if (0 : Int32) ≤ -1 then y_pf M (y_mn M) tt (nI zz) (nI nn) (nI aa) (nI bb) (-1 : Int32).toNatClampNeg else if y_lf M 60 (-1) < 0 then (-1, M) else y_pf (y_pn M tt l (y_lf M 60 (-1)).toNatClampNeg) (y_mn M) tt (nI zz) (nI nn) (nI aa) (nI bb) (y_lf M 60 (-1)).toNatClampNeg).1 ∧ Sim (k + 1) R N tl T (pt_f R N T tt (nI nn) (nI aa) (nI bb) (m_new pl P (nI tt) (nI zz) l)).2.1 (pt_f R N T tt (nI nn) (nI aa) (nI bb) (m_new pl P (nI tt) (nI zz) l)).2.2 (if (0 : Int32) ≤ -1 then y_pf M (y_mn M) tt (nI zz) (nI nn) (nI aa) (nI bb) (-1 : Int32).toNatClampNeg else if y_lf M 60 (-1) < 0 then (-1, M) else y_pf (y_pn M tt l (y_lf M 60 (-1)).toNatClampNeg) (y_mn M) tt (nI zz) (nI nn) (nI aa) (nI bb) (y_lf M 60 (-1)).toNatClampNeg).2 V
        rw [if_neg (show ¬ (0 : Int32) ≤ -1 by decide)]
        rcases free_eq hPg with ⟨o1, o2⟩ | ⟨q0, hq0, o1, o2, o3⟩
        · rw [o2, if_pos (by decide)]
          have eP : va_up P l (upd (P l) 1 (-1)) = P := by
            funext p
            by_cases e : p = l
            · rw [e, va_up_self]
              funext j
              by_cases ej : j = 1
              · rw [ej, pk_us, l1]
              · rw [pk_un ej]
            · rw [va_up_ne _ _ e]
          have em : m_new pl P (nI tt) (nI zz) l = (-1, pl, P) := by
            unfold m_new
            rw [o1]
            show m_add pl (va_up P l (upd (P l) 1 (-1))) (-1) 0 (nI zz) = _
            rw [eP]
            unfold m_add d_adr d_adP
            rw [up_no]
            rfl
          rw [em]
          have hw : d_wv pl P (-1) = false := rfl
          unfold pt_f
          show (if d_wv pl P (-1) = true then _ else ((-1 : Int32), pl, P)).1 = (-1 : Int32) ∧ Sim (k + 1) R N tl T (if d_wv pl P (-1) = true then _ else ((-1 : Int32), pl, P)).2.1 (if d_wv pl P (-1) = true then _ else ((-1 : Int32), pl, P)).2.2 M V
          rw [hw, if_neg (by decide)]
          exact ⟨rfl, h9⟩
        · rw [o2, if_neg (nI_pos (by omega)), nI_clamp (n := q0) (by omega)]
          have eL2 : Ls tt = l2 ++ [l] := by rw [w1, eL]
          rw [eL2] at hCh
          have hlm := (hCh.2.2.1 l).mp (by simp)
          have hlq : l ≠ q0 := fun e => by rw [e, o3] at hlm; exact nI_m1 (by omega) hlm.2.symm
          have hS2 := hS.grow (by omega) hq0 htt htl o3 hCh
          have em : m_new pl P (nI tt) (nI zz) l = m_add (va_up pl q0 true) (grP P l q0 (nI tt)) (nI q0) 0 (nI zz) := by
            unfold m_new
            rw [o1]
            rfl
          rw [em]
          have c3 : y_pn M tt l q0 3 q0 = nI tt := by
            show upd (M 3) q0 (nI tt) q0 = _
            rw [pk_us]
          have c4 : y_pn M tt l q0 4 q0 = 0 := by
            show upd (M 4) q0 0 q0 = _
            rw [pk_us]
          have Pq : grP P l q0 (nI tt) q0 = pg_rs (P q0) (nI tt) := by
            unfold grP
            rw [va_up_ne _ _ (fun w => hlq w.symm), va_up_self]
          obtain ⟨r0, r1, r2, r3, r4⟩ := rs_at (Z := P q0) (t := nI tt)
          have hG := hS2.2.2.2.2.2.2 q0 hq0 tt htt c3
          have z2' : z2 (grP P l q0 (nI tt) q0) = 0 := by unfold z2; rw [Pq, r2]; rfl
          have z4' : z4 (grP P l q0 (nI tt) q0) = 496 := by unfold z4; rw [Pq, r4]; rfl
          have kno : slots_of (y_pn M tt l q0) V (y_mn M) q0 0 = none := by
            cases hh : slots_of (y_pn M tt l q0) V (y_mn M) q0 0 with
            | none => rfl
            | some r => exact absurd (hG.2.2.2.1 0 r hh).1 (by omega)
          have kroom : 0 < z2 (grP P l q0 (nI tt) q0) ∧ zz + 4 * z2 (grP P l q0 (nI tt) q0) ≤ z4 (grP P l q0 (nI tt) q0) ∨ 0 = z2 (grP P l q0 (nI tt) q0) ∧ zz + 4 + 4 * z2 (grP P l q0 (nI tt) q0) ≤ z4 (grP P l q0 (nI tt) q0) := by
            refine Or.inr ⟨z2'.symm, ?_⟩
            rw [z2', z4']
            omega
          obtain ⟨p1, p2⟩ := hS2.put1 (n := nn) (mk := aa) (cm := bb) (by omega) (by omega) hq0 htt htl c3 etm hsuit ez (by omega) kno kroom hnn haa hbb
          have hPg2 := hS2.2.2.2.1
          have hup : d_up (va_up pl q0 true) (grP P l q0 (nI tt)) (nI q0) = true := by
            rcases up_eq hPg2 hq0 with ⟨u1, -⟩ | ⟨t', _, _, _, _, _, a6⟩
            · rw [u1] at c3; exact absurd c3.symm (nI_m1 (by omega))
            · exact a6
          have kro : y_ro (y_pn M tt l q0) (y_mn M) q0 (sl (y_pn M tt l q0) q0) (nI zz) = nI 0 := by
            rcases (hPg2 q0 hq0).2 with w | ⟨_, _, _, _, _, _, r6, _, r8⟩
            · rw [w] at c3; exact absurd c3.symm (nI_m1 (by omega))
            · obtain ⟨x1, x2⟩ := room_eq (zz := zz) (show y_mn M ≤ 514 by omega) hG r6 r8 (by omega)
              rw [← x1]
              unfold pg_sf
              have : pg_ff (grP P l q0 (nI tt) q0) (z2 (grP P l q0 (nI tt) q0)) 0 = none := by rw [z2']; rfl
              rw [this]
              show (if grP P l q0 (nI tt) q0 2 < 120 ∧ nI zz + 4 ≤ pg_fb (grP P l q0 (nI tt) q0) then grP P l q0 (nI tt) q0 2 else -1) = nI 0
              unfold pg_fb
              rw [Pq, r2, r4, if_pos]
              · rfl
              · refine ⟨by decide, ?_⟩
                rw [(nI_a zz).2.2.2.1]
                exact (nI_leI (b := 496) (by omega) (by decide)).mpr (by omega)
          rw [pt_add hq0 (by omega) hup ((ad_ok hG.1 kroom (by omega)).1 0 (by omega)) p2, etm]
          unfold y_pf
          rw [kro]
          exact ⟨(e256 q0 0).symm, fin (y_pn M tt l q0) _ (va_up pl q0 true) q0 (nI 0) rfl p1⟩
-- ===== the start =====
theorem sim_0 : Sim 0 i_R i_N i_b i_R i_b i_P (i_M 60) (fun _ => 0) := by
  have e : ∀ j, j ≠ 3 → j ≠ 5 → i_M 60 j = fun _ => 0 := fun j h3 h5 => by unfold i_M; rw [va_up_ne _ _ h5, va_up_ne _ _ h3]
  have e3 : ∀ p, p < 60 → i_M 60 3 p = -1 := fun p hp => by
    unfold i_M
    rw [va_up_ne _ _ (by decide), va_up_self]
    show (if p < 60 then (-1 : Int32) else 0) = -1
    rw [if_pos hp]
  have e5 : ∀ p, p < 60 → i_M 60 5 p = -1 := fun p hp => by
    unfold i_M
    rw [va_up_self]
    show (if p < 60 then (-1 : Int32) else 0) = -1
    rw [if_pos hp]
  have es : y_sn (i_M 60) = 0 := by unfold y_sn; rw [e 17 (by decide) (by decide)]; rfl
  have em : y_mn (i_M 60) = 0 := by unfold y_mn; rw [e 6 (by decide) (by decide)]; rfl
  refine ⟨by omega, ⟨by rw [es, e 17 (by decide) (by decide)]; rfl, by omega⟩, ⟨by rw [em, e 6 (by decide) (by decide)]; rfl, by omega⟩, ?_⟩
  rw [es, em]
  refine ⟨⟨fun c hc => ⟨Or.inl rfl, 0, by omega, rfl⟩, ⟨⟨by rw [e 19 (by decide) (by decide)], by rw [e 20 (by decide) (by decide)], by rw [e 21 (by decide) (by decide)]⟩, fun s h1 h2 => absurd h1 (by omega), fun s _ _ => by rw [e 20 (by decide) (by decide)]⟩, fun c hc => ?_⟩, fun t ht => ⟨fun q => (by cases q), fun _ => ?_⟩, ⟨⟨fun _ _ => rfl, fun _ _ => rfl, fun _ _ => rfl⟩, fun p _ q => (by cases q), fun p hp => Or.inl (by rw [e5 p hp]; decide), fun p hp => ?_, fun i => ?_⟩, fun p hp => ⟨(by rw [e3 p hp]; rfl), Or.inl (e3 p hp)⟩, ⟨fun _ => [], fun t ht q => (by cases q)⟩, ⟨fun j hj => absurd hj (by omega), fun i j hi => absurd hi (by omega), fun j hj => absurd hj (by omega)⟩, fun p hp t ht w => ?_⟩
  · rw [e 16 (by decide) (by decide)]
    refine ⟨⟨0, Nat.le_refl _, Or.inl rfl⟩, ?_⟩
    unfold mcell
    rw [if_pos rfl]
    rfl
  · rw [e 0 (by decide) (by decide)]
    show ¬ (0 : Int32) < 0
    decide
  · unfold sl
    rw [e 4 (by decide) (by decide)]
    refine ⟨rfl, ?_⟩
    show (0 : Int32).toNatClampNeg ≤ 200
    decide
  · rw [e 15 (by decide) (by decide)]
    exact (sh_1 0 (by omega)).2.2.1
  · rw [e3 p hp] at w
    exact absurd w.symm (nI_m1 (by omega))
