-- ===== makeRoom =====
theorem o_l_some {P : Nat → Nat → Int32} : ∀ (d p q : Nat), o_l P d p = some q → P q 0 = -1 ∧ p ≤ q ∧ q < p + d
  | 0, _, _, h => by cases h
  | d + 1, p, q, h => by
    simp only [o_l] at h
    split at h
    · rename_i h1
      cases h
      exact ⟨h1, by omega, by omega⟩
    · obtain ⟨a, b, c⟩ := o_l_some d (p + 1) q h
      exact ⟨a, by omega, by omega⟩
theorem pg_ff_lt {Z : Nat → Int32} : ∀ (d k j : Nat), pg_ff Z d k = some j → k ≤ j ∧ j < k + d
  | 0, _, _, h => by cases h
  | d + 1, k, j, h => by
    simp only [pg_ff] at h
    split at h
    · have := pg_ff_lt d (k + 1) j h
      omega
    · cases h
      omega
theorem pg_sf_N {Z : Nat → Int32} (hZ : g_ok Z) (z : Int32) (h : ¬ pg_sf Z (z2 Z) z = -1) : ∃ k, k ≤ 124 ∧ pg_sf Z (z2 Z) z = nI k := by
  unfold pg_sf at h ⊢
  cases hf : pg_ff Z (z2 Z) 0 with
  | some k =>
    have hk := pg_ff_lt _ _ _ hf
    have := hZ.2.1
    rw [hf] at h
    simp only at h ⊢
    split at h
    · rename_i h1
      rw [if_pos h1]
      exact ⟨k, by omega, rfl⟩
    · exact absurd rfl h
  | none =>
    rw [hf] at h
    simp only at h ⊢
    split at h
    · rename_i h1
      rw [if_pos h1]
      exact ⟨z2 Z, hZ.2.1, hZ.1⟩
    · exact absurd rfl h
abbrev m_T : Type := Int32 × (Nat → Bool) × (Nat → Nat → Int32)
def m_add (pl : Nat → Bool) (P : Nat → Nat → Int32) (p : Int32) (k : Nat) (z : Int32) : m_T := (d_adr pl P p k, pl, d_adP pl P p k z)
/-- a page is opened behind page i -/
def m_new (pl : Nat → Bool) (P : Nat → Nat → Int32) (t z : Int32) (i : Nat) : m_T := match o_l P 60 0 with
  | none => m_add pl (va_up P i (upd (P i) 1 (-1))) (-1) 0 z
  | some q => m_add (va_up pl q true) (va_up (va_up P q (pg_rs (P q) t)) i (upd (va_up P q (pg_rs (P q) t) i) 1 (nI q))) (nI q) 0 z
def m_l (pl : Nat → Bool) (P : Nat → Nat → Int32) (t z : Int32) : Nat → Int32 → m_T
  | 0, _ => (-1, pl, P)
  | d + 1, a => if d_up pl P a then (if pg_sf (P a.toNatClampNeg) (z2 (P a.toNatClampNeg)) z = -1 then (if P a.toNatClampNeg 1 = -1 then m_new pl P t z a.toNatClampNeg else m_l pl P t z d (P a.toNatClampNeg 1)) else m_add pl P a (pg_sf (P a.toNatClampNeg) (z2 (P a.toNatClampNeg)) z).toNatClampNeg z) else (-1, pl, P)
def m_ads (ad : Nat → Nat) (pl : Nat → Bool) (ad1 : Nat → Nat) : Prop := (∀ k, k < 16 ∨ 136 ≤ k → ad1 k = ad k) ∧ ∀ p, p < 60 → pl p = true → ad1 (16 + p) = ad (16 + p) ∧ ad1 (76 + p) = ad (76 + p)
def m_post (G : x_G) (ad : Nat → Nat) (R : Nat → Nat → Int32) (N : Nat → Int64) (tl : Nat → Bool) (T : Nat → Nat → Int32) (pl : Nat → Bool) (X : Nat → Option va_E) (r : m_T) (ad1 : Nat → Nat) (con1 : Nat → Option va_E) (v : Option Value) : Prop := v = some (.int r.1) ∧ m_ads ad pl ad1 ∧ con1 = x_con G ad1 R N tl T r.2.1 r.2.2 X
theorem m_ads.rf {ad : Nat → Nat} {pl : Nat → Bool} : m_ads ad pl ad := ⟨fun _ _ => rfl, fun _ _ _ => ⟨rfl, rfl⟩⟩
theorem kX3_makeRoom_wX0 : ∀ w ∈ u_ws RX0 TX0 6, w ∈ wsX3_makeRoom := by decide +kernel
theorem kX3_makeRoom_f172 : Cond.fieldLink RX3 172 "VersionDesk$Page" "following" "I" ∈ wsX3_makeRoom := by decide +kernel
set_option maxHeartbeats 4000000 in
set_option maxRecDepth 100000 in
theorem l_X3_makeRoom {p : Program} {l : Launch} {e : Env} {s : State} {m : MethodId} {args : Array Value} {below : List Frame} {meth : Method} {c : Code} {G : x_G} {ad : Nat → Nat} {R : Nat → Nat → Int32} {N : Nat → Int64} {tl : Nat → Bool} {T : Nat → Nat → Int32} {pl : Nat → Bool} {P : Nat → Nat → Int32} {X : Nat → Option va_E} (C0 : x_B p s m meth c args cX3_makeRoom 8 (some .int) RX3 wsX3_makeRoom) (hK : x_K G s) {t0 z : Int32} {t : Nat} {r : m_T} (hi : t < 8) (hl_t : tl t = true) (hD : D_ok tl pl P) (hP : P_ok pl P) (hS : x_H G ad (x_con G ad R N tl T pl P X) s.heap []) : ∀ (d : Nat) (j : Nat) (a : Int32), 60 - j < d → j ≤ 60 → r = m_l pl P t0 z (60 - j) a → ∀ (ls : Array Slot), lv_has ls 8 [(0, .ref (ad 0)), (1, .int t0), (2, .ref (ad (8 + t))), (3, .int z), (4, .int a), (5, .int (nI j))] → W p l e ({ frames := 4, cells := 2, slots := 502, locals := 95 } : Room) s m args below meth c s.heap [] 0 0 (MQ below (x_Qe G (m_post G ad R N tl T pl X r)) args s 2 502 (x_A G)) (F0 m 9 ls []) := by
  obtain ⟨hx, hb, hr, hml, hown, hts, hlk⟩ := id C0
  intro d
  induction d with
  | zero =>
    intro j a hd hj hF ls hl
    exact absurd hd (by omega)
  | succ d ih =>
    intro j a hd hj hF ls hl
    refine lv_iload hx hb dX3_makeRoom_9 (lv_at hl 5 rfl) ?_
    refine lv_bipush (v := 60) hx hb dX3_makeRoom_11 (by decide) ?_
    refine lv_icmp_ge (tgt := 99) hx hb dX3_makeRoom_13 (by decide) (fun c13 => ?_) (fun c13 => ?_)
    · have hj2 := nz_le (a := 60) c13 rfl rfl (by omega) (by omega)
      refine lv_iconst (v := (-1)) hx hb dX3_makeRoom_99 (by decide) ?_
      refine W.widen (k := 2) (n := 502) (by omega) (by omega) ?_
      exact x_ereti C0 hS (by rw [hF, show 60 - j = 0 by omega]; exact ⟨rfl, m_ads.rf, rfl⟩) dX3_makeRoom_100
    · have hj2 := nz_nle (a := 60) c13 rfl rfl (by omega) (by omega)
      refine lv_aload_n hx hb dX3_makeRoom_16 rfl (lv_at hl 0 rfl) ?_
      refine lv_iload hx hb dX3_makeRoom_17 (lv_at hl 4 rfl) ?_
      cases hu : d_up pl P a with
      | false =>
        refine x_callr (x_rV C0 hl.1 hK hS (c_X3_usedPage l G ad R N tl T pl P X a) (x_con_0 (k := 0) (by omega)) rfl gX3_makeRoom_X3_usedPage 1 rfl rfl rfl (by decide +kernel) ⟨Nat.le_of_ble_eq_true rfl, Nat.le_of_ble_eq_true rfl⟩ rfl rfl (Nat.le_of_ble_eq_true rfl) dX3_makeRoom_19 ⟨Nat.le_of_ble_eq_true rfl, Nat.le_of_ble_eq_true rfl⟩) ?_
        rw [d_pv_n hu]
        show W _ _ _ _ _ _ _ _ _ _ _ _ _ _ _ (F0 m 22 ls [.null])
        refine lv_astoreN (lv' := [(6, .null), (0, .ref (ad 0)), (1, .int t0), (2, .ref (ad (8 + t))), (3, .int z), (4, .int a), (5, .int (nI j))]) hx hb dX3_makeRoom_22 hl (by decide) rfl (fun ls hl => ?_)
        refine lv_aloadN hx hb dX3_makeRoom_24 (lv_at hl 0 rfl) ?_
        refine lv_ifnonnullN hx hb dX3_makeRoom_26 ?_
        refine lv_iconst (v := (-1)) hx hb dX3_makeRoom_29 (by decide) ?_
        refine W.widen (k := 2) (n := 502) (by omega) (by omega) ?_
        exact x_ereti C0 hS (by rw [hF, show 60 - j = (60 - (j + 1)) + 1 by omega]; simp only [m_l]; rw [hu]; exact ⟨rfl, m_ads.rf, rfl⟩) dX3_makeRoom_30
      | true =>
        obtain ⟨i, hp, rfl, hl_p, hp0⟩ := d_up_in hu
        have hci : (nI i).toNatClampNeg = i := nI_clamp (by omega)
        have hgi := hP i hp hl_p
        refine x_callr (x_rV C0 hl.1 hK hS (c_X3_usedPage l G ad R N tl T pl P X (nI i)) (x_con_0 (k := 0) (by omega)) rfl gX3_makeRoom_X3_usedPage 1 rfl rfl rfl (by decide +kernel) ⟨Nat.le_of_ble_eq_true rfl, Nat.le_of_ble_eq_true rfl⟩ rfl rfl (Nat.le_of_ble_eq_true rfl) dX3_makeRoom_19 ⟨Nat.le_of_ble_eq_true rfl, Nat.le_of_ble_eq_true rfl⟩) ?_
        rw [d_pv_s hp hl_p hp0]
        show W _ _ _ _ _ _ _ _ _ _ _ _ _ _ _ (F0 m 22 ls [.ref (ad (16 + i))])
        refine lv_astore (lv' := [(6, .ref (ad (16 + i))), (0, .ref (ad 0)), (1, .int t0), (2, .ref (ad (8 + t))), (3, .int z), (4, .int (nI i)), (5, .int (nI j))]) hx hb dX3_makeRoom_22 hl (by decide) rfl (fun ls hl => ?_)
        refine lv_aload hx hb dX3_makeRoom_24 (lv_at hl 0 rfl) ?_
        refine lv_ifnonnull (tgt := 31) hx hb dX3_makeRoom_26 (by decide) ?_
        refine lv_aload hx hb dX3_makeRoom_31 (lv_at hl 0 rfl) ?_
        refine lv_iload_n hx hb dX3_makeRoom_33 rfl (lv_at hl 4 rfl) ?_
        refine x_callr (x_rV C0 hl.1 hK hS (c_X0_slotFor l G ad R N tl T pl P X i (z2 (P i)) z hp hl_p (by have := hgi.2.1; omega) hgi.1) (x_con_p hp hl_p) rfl gX3_makeRoom_X0_slotFor 1 rfl rfl rfl (by decide +kernel) ⟨Nat.le_of_ble_eq_true rfl, Nat.le_of_ble_eq_true rfl⟩ rfl rfl (Nat.le_of_ble_eq_true rfl) dX3_makeRoom_34 ⟨Nat.le_of_ble_eq_true rfl, Nat.le_of_ble_eq_true rfl⟩) ?_
        show W _ _ _ _ _ _ _ _ _ _ _ _ _ _ _ (F0 m 37 ls [.int (pg_sf (P i) (z2 (P i)) z)])
        refine lv_topi (fun x1 ex1 => ?_)
        refine lv_istore (lv' := [(7, .int x1), (6, .ref (ad (16 + i))), (0, .ref (ad 0)), (1, .int t0), (2, .ref (ad (8 + t))), (3, .int z), (4, .int (nI i)), (5, .int (nI j))]) hx hb dX3_makeRoom_37 hl (by decide) rfl (fun ls hl => ?_)
        refine lv_iload hx hb dX3_makeRoom_39 (lv_at hl 0 rfl) ?_
        refine lv_iconst (v := (-1)) hx hb dX3_makeRoom_41 (by decide) ?_
        refine lv_icmp_eq (tgt := 55) hx hb dX3_makeRoom_42 (by decide) (fun c42 => ?_) (fun c42 => ?_)
        · rw [ex1] at c42
          refine lv_aload hx hb dX3_makeRoom_55 (lv_at hl 1 rfl) ?_
          refine x_pget (j := 1) C0 hK hS hp hl_p (by decide) kX3_makeRoom_wX0 kX3_makeRoom_f172 dX3_makeRoom_57 ?_
          refine lv_iconst (v := (-1)) hx hb dX3_makeRoom_60 (by decide) ?_
          refine lv_icmp_ne (tgt := 86) hx hb dX3_makeRoom_61 (by decide) (fun c61 => ?_) (fun c61 => ?_)
          · refine lv_aload hx hb dX3_makeRoom_86 (lv_at hl 1 rfl) ?_
            refine x_pget (j := 1) C0 hK hS hp hl_p (by decide) kX3_makeRoom_wX0 kX3_makeRoom_f172 dX3_makeRoom_88 ?_
            refine lv_topi (fun x2 ex2 => ?_)
            refine lv_istore (lv' := [(4, .int x2), (7, .int x1), (6, .ref (ad (16 + i))), (0, .ref (ad 0)), (1, .int t0), (2, .ref (ad (8 + t))), (3, .int z), (5, .int (nI j))]) hx hb dX3_makeRoom_91 hl (by decide) rfl (fun ls hl => ?_)
            refine lv_iinc (v := nI (j + 1)) (lv' := [(5, .int (nI (j + 1))), (4, .int x2), (7, .int x1), (6, .ref (ad (16 + i))), (0, .ref (ad 0)), (1, .int t0), (2, .ref (ad (8 + t))), (3, .int z)]) hx hb dX3_makeRoom_93 hl (k := 7) rfl (nI_1 j) (by decide) rfl (fun ls hl => ?_)
            refine lv_goto (tgt := 9) hx hb dX3_makeRoom_96 (by decide) ?_
            exact ih (j + 1) _ (by omega) (by omega) (by rw [hF, show 60 - j = (60 - (j + 1)) + 1 by omega]; simp only [m_l]; rw [if_pos hu, hci, if_pos c42, if_neg c61, ex2]) ls (lv_sub hl [4, 5, 6, 7, 1, 0] rfl)
          · refine lv_aload hx hb dX3_makeRoom_64 (lv_at hl 1 rfl) ?_
            refine lv_aload_n hx hb dX3_makeRoom_66 rfl (lv_at hl 2 rfl) ?_
            refine lv_iload_n hx hb dX3_makeRoom_67 rfl (lv_at hl 3 rfl) ?_
            refine x_calle hS (x_rV C0 hl.1 hK hS (c_X3_openLowestFreePage l G ad R N tl T pl P X t0 hD) (x_con_0 (k := 0) (by omega)) rfl gX3_makeRoom_X3_openLowestFreePage 1 rfl rfl rfl (by decide +kernel) ⟨Nat.le_of_ble_eq_true rfl, Nat.le_of_ble_eq_true rfl⟩ rfl rfl (Nat.le_of_ble_eq_true rfl) dX3_makeRoom_68 ⟨Nat.le_of_ble_eq_true rfl, Nat.le_of_ble_eq_true rfl⟩) (fun ad1 con1 v H locs hv hS => ?_)
            cases ho : o_l P 60 0 with
            | none =>
              rw [ho] at hv
              obtain ⟨rfl, had9, rfl⟩ := hv
              rw [had9] at hS
              show W _ _ _ _ _ _ _ _ _ _ _ _ _ _ _ (F0 m 71 ls [.int (-1), .ref (ad (16 + i))])
              refine x_pput (j := 1) (pg := i) C0 hK hS hp hl_p (by decide) kX3_makeRoom_wX0 kX3_makeRoom_f172 dX3_makeRoom_71 (fun H locs hS => ?_)
              obtain ⟨P1, eP1⟩ : ∃ zz, zz = va_up P i (upd (P i) 1 (-1)) := ⟨_, rfl⟩
              rw [← eP1] at hS
              have hf1 : P1 i 1 = (-1) := by rw [eP1, va_up_self, pk_us]
              refine lv_aload_n hx hb dX3_makeRoom_74 rfl (lv_at hl 2 rfl) ?_
              refine lv_aload hx hb dX3_makeRoom_75 (lv_at hl 1 rfl) ?_
              refine x_pget (j := 1) C0 hK hS hp hl_p (by decide) kX3_makeRoom_wX0 kX3_makeRoom_f172 dX3_makeRoom_77 ?_
              refine lv_iconst (v := 0) hx hb dX3_makeRoom_80 (by decide) ?_
              refine lv_iload_n hx hb dX3_makeRoom_81 rfl (lv_at hl 5 rfl) ?_
              rw [hf1]
              refine x_callw hS (x_rV C0 hl.1 hK hS (c_X3_addAt l G ad R N tl T pl P1 X (-1) 0 z (by omega)) (x_con_0 (k := 0) (by omega)) rfl gX3_makeRoom_X3_addAt 3 rfl rfl rfl (by decide +kernel) ⟨Nat.le_of_ble_eq_true rfl, Nat.le_of_ble_eq_true rfl⟩ rfl rfl (Nat.le_of_ble_eq_true rfl) dX3_makeRoom_82 ⟨Nat.le_of_ble_eq_true rfl, Nat.le_of_ble_eq_true rfl⟩) (fun H locs hS => ?_)
              show W _ _ _ _ _ _ _ _ _ _ _ _ _ _ _ (F0 m 85 ls [.int (d_adr pl P1 (-1) 0)])
              rw [eP1] at hS
              rw [eP1]
              exact x_ereti C0 hS (by rw [hF, show 60 - j = (60 - (j + 1)) + 1 by omega]; simp only [m_l]; rw [if_pos hu, hci, if_pos c42, if_pos c61]; unfold m_new; rw [ho]; exact ⟨rfl, m_ads.rf, rfl⟩) dX3_makeRoom_85
            | some q =>
              rw [ho] at hv
              obtain ⟨hq, rfl, had, hsame, rfl⟩ := hv
              have hq0 := (o_l_some _ _ _ ho).1
              have hiq : i ≠ q := fun h => hp0 (by rw [h]; exact hq0)
              have hads : m_ads ad pl ad1 := by
                refine ⟨fun k hk => had k (by omega) (by omega), fun p hp1 hp2 => ?_⟩
                by_cases hpq : p = q
                · subst hpq; exact ⟨congrFun (hsame hp2) _, congrFun (hsame hp2) _⟩
                · exact ⟨had _ (by omega) (by omega), had _ (by omega) (by omega)⟩
              have e0 : ad 0 = ad1 0 := (had 0 (by omega) (by omega)).symm
              have e8 : ad (8 + t) = ad1 (8 + t) := (had _ (by omega) (by omega)).symm
              have e16 : ad (16 + i) = ad1 (16 + i) := (had _ (by omega) (by omega)).symm
              rw [e0, e8, e16] at hl
              rw [e16]
              have hl_p : va_up pl q true i = true := by rw [va_up_ne _ _ hiq]; exact hl_p
              obtain ⟨pl1, epl1⟩ : ∃ zz, zz = va_up pl q true := ⟨_, rfl⟩
              obtain ⟨P0, eP0⟩ : ∃ zz, zz = va_up P q (pg_rs (P q) t0) := ⟨_, rfl⟩
              rw [← epl1, ← eP0] at hS
              rw [← epl1] at hl_p
              show W _ _ _ _ _ _ _ _ _ _ _ _ _ _ _ (F0 m 71 ls [.int (nI q), .ref (ad1 (16 + i))])
              refine x_pput (j := 1) (pg := i) C0 hK hS hp hl_p (by decide) kX3_makeRoom_wX0 kX3_makeRoom_f172 dX3_makeRoom_71 (fun H locs hS => ?_)
              obtain ⟨P1, eP1⟩ : ∃ zz, zz = va_up P0 i (upd (P0 i) 1 (nI q)) := ⟨_, rfl⟩
              rw [← eP1] at hS
              have hf1 : P1 i 1 = (nI q) := by rw [eP1, va_up_self, pk_us]
              refine lv_aload_n hx hb dX3_makeRoom_74 rfl (lv_at hl 2 rfl) ?_
              refine lv_aload hx hb dX3_makeRoom_75 (lv_at hl 1 rfl) ?_
              refine x_pget (j := 1) C0 hK hS hp hl_p (by decide) kX3_makeRoom_wX0 kX3_makeRoom_f172 dX3_makeRoom_77 ?_
              refine lv_iconst (v := 0) hx hb dX3_makeRoom_80 (by decide) ?_
              refine lv_iload_n hx hb dX3_makeRoom_81 rfl (lv_at hl 5 rfl) ?_
              rw [hf1]
              refine x_callw hS (x_rV C0 hl.1 hK hS (c_X3_addAt l G ad1 R N tl T pl1 P1 X (nI q) 0 z (by omega)) (x_con_0 (k := 0) (by omega)) rfl gX3_makeRoom_X3_addAt 3 rfl rfl rfl (by decide +kernel) ⟨Nat.le_of_ble_eq_true rfl, Nat.le_of_ble_eq_true rfl⟩ rfl rfl (Nat.le_of_ble_eq_true rfl) dX3_makeRoom_82 ⟨Nat.le_of_ble_eq_true rfl, Nat.le_of_ble_eq_true rfl⟩) (fun H locs hS => ?_)
              show W _ _ _ _ _ _ _ _ _ _ _ _ _ _ _ (F0 m 85 ls [.int (d_adr pl1 P1 (nI q) 0)])
              rw [eP1, epl1, eP0] at hS
              rw [eP1, epl1, eP0]
              exact x_ereti C0 hS (by rw [hF, show 60 - j = (60 - (j + 1)) + 1 by omega]; simp only [m_l]; rw [if_pos hu, hci, if_pos c42, if_pos c61]; unfold m_new; rw [ho]; exact ⟨rfl, hads, rfl⟩) dX3_makeRoom_85
        · rw [ex1] at c42
          obtain ⟨k, hk, hsk⟩ := pg_sf_N hgi z c42
          rw [ex1, hsk] at hl
          refine lv_aload_n hx hb dX3_makeRoom_45 rfl (lv_at hl 2 rfl) ?_
          refine lv_iload hx hb dX3_makeRoom_46 (lv_at hl 6 rfl) ?_
          refine lv_iload hx hb dX3_makeRoom_48 (lv_at hl 0 rfl) ?_
          refine lv_iload_n hx hb dX3_makeRoom_50 rfl (lv_at hl 5 rfl) ?_
          refine x_callw hS (x_rV C0 hl.1 hK hS (c_X3_addAt l G ad R N tl T pl P X (nI i) k z (by omega)) (x_con_0 (k := 0) (by omega)) rfl gX3_makeRoom_X3_addAt 3 rfl rfl rfl (by decide +kernel) ⟨Nat.le_of_ble_eq_true rfl, Nat.le_of_ble_eq_true rfl⟩ rfl rfl (Nat.le_of_ble_eq_true rfl) dX3_makeRoom_51 ⟨Nat.le_of_ble_eq_true rfl, Nat.le_of_ble_eq_true rfl⟩) (fun H locs hS => ?_)
          show W _ _ _ _ _ _ _ _ _ _ _ _ _ _ _ (F0 m 54 ls [.int (d_adr pl P (nI i) k)])
          refine W.widen (k := 2) (n := 502) (by omega) (by omega) ?_
          exact x_ereti C0 hS (by rw [hF, show 60 - j = (60 - (j + 1)) + 1 by omega]; simp only [m_l]; rw [if_pos hu, hci, if_neg c42, hsk, nI_clamp (by omega)]; exact ⟨rfl, m_ads.rf, rfl⟩) dX3_makeRoom_54
theorem kX3_makeRoom_wX2 : ∀ w ∈ u_ws RX2 TX2 3, w ∈ wsX3_makeRoom := by decide +kernel
theorem kX3_makeRoom_f142 : Cond.fieldLink RX3 142 "VersionDesk$Table" "first" "I" ∈ wsX3_makeRoom := by decide +kernel
set_option maxHeartbeats 4000000 in
set_option maxRecDepth 100000 in
/-- makeRoom -/
theorem c_X3_makeRoom (l : Launch) (G : x_G) (ad : Nat → Nat) (R : Nat → Nat → Int32) (N : Nat → Int64) (tl : Nat → Bool) (T : Nat → Nat → Int32) (pl : Nat → Bool) (P : Nat → Nat → Int32) (X : Nat → Option va_E) (t0 z : Int32) (t : Nat) (hi : t < 8) (hl_t : tl t = true) (hD : D_ok tl pl P) (hP : P_ok pl P) : Met l yX3_makeRoom wsX3_makeRoom ({ frames := 4, cells := 2, slots := 502, locals := 95 } : Room) (x_Pc G ad (x_con G ad R N tl T pl P X) [.ref (ad 0), .int t0, .ref (ad (8 + t)), .int z]) (x_Qe G (m_post G ad R N tl T pl X (m_l pl P t0 z 60 (T t 0)))) 2 502 (x_A G) := by
  refine x_met (cc := cX3_makeRoom) (maxL := 8) (ret := (some .int)) (by decide) rfl _ (Nat.le_of_ble_eq_true rfl) ?_
  intro p e s m args below meth c C0 hini hK hS ls hl
  have hl : lv_has ls 8 [(0, .ref (ad 0)), (1, .int t0), (2, .ref (ad (8 + t))), (3, .int z)] := hl
  obtain ⟨hx, hb, hr, hml, hown, hts, hlk⟩ := id C0
  refine lv_aload_n hx hb dX3_makeRoom_0 rfl (lv_at hl 2 rfl) ?_
  refine x_tget (j := 0) C0 hK hS hi hl_t (by decide) kX3_makeRoom_wX2 kX3_makeRoom_f142 dX3_makeRoom_1 ?_
  refine lv_topi (fun x1 ex1 => ?_)
  refine lv_istore (lv' := [(4, .int x1), (0, .ref (ad 0)), (1, .int t0), (2, .ref (ad (8 + t))), (3, .int z)]) hx hb dX3_makeRoom_4 hl (by decide) rfl (fun ls hl => ?_)
  refine lv_iconst (v := 0) hx hb dX3_makeRoom_6 (by decide) ?_
  refine lv_istore (lv' := [(5, .int 0), (4, .int x1), (0, .ref (ad 0)), (1, .int t0), (2, .ref (ad (8 + t))), (3, .int z)]) hx hb dX3_makeRoom_7 hl (by decide) rfl (fun ls hl => ?_)
  exact l_X3_makeRoom C0 hK hi hl_t hD hP hS 61 0 _ (by omega) (by omega) (by rw [ex1]) ls (lv_sub hl [2, 3, 4, 5, 1, 0] rfl)
