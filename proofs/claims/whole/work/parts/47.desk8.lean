-- ===== cells that nobody needs any more =====
theorem x_H.less {G : x_G} {ad : Nat → Nat} {con con1 : Nat → Option va_E} {H : Heap} {locs : List Loc} (h : x_H G ad con H locs) (hc : ∀ k e, con1 k = some e → con k = some e) : x_H G ad con1 H locs :=
  ⟨fun k e hk => h.1 k e (hc k e hk), fun i j ei ej hi hj => h.2.1 i j ei ej (hc _ _ hi) (hc _ _ hj), h.2.2⟩
section XTN
variable {p : Program} {l : Launch} {e : Env} {Rm : Room} {s : State} {m : MethodId} {args : Array Value} {below : List Frame} {meth : Method} {c : Code} {H : Heap} {locs : List Loc} {cells slots : Nat} {Q : State → Prop}
variable {cc : ByteArray} {pc nL : Nat} {ret0 : Option FieldType} {own : String} {Ts : List Cond} {ls : Array Slot} {rest : List Value} {G : x_G} {ad : Nat → Nat}
variable {R : Nat → Nat → Int32} {N : Nat → Int64} {tl : Nat → Bool} {T : Nat → Nat → Int32} {pl : Nat → Bool} {P : Nat → Nat → Int32} {X : Nat → Option va_E}
theorem x_tnull (C0 : x_B p s m meth c args cc nL ret0 own Ts) (hK : x_K G s) (hS : x_H G ad (x_con G ad R N tl T pl P X) H locs) {t : Nat} (ht : t < 8) (hdg : decode cc pc = .ok (.aastore, 1))
    (kk : ∀ (H1 : Heap) (locs1 : List Loc), x_H G ad (x_con G ad R N (va_up tl t false) T pl P X) H1 locs1 → W p l e Rm s m args below meth c H1 locs1 cells slots Q (F0 m (pc + 1) ls rest)) : W p l e Rm s m args below meth c H locs cells slots Q (F0 m pc ls (.null :: .int (nI t) :: .ref (ad 2) :: rest)) := by
  refine x_astN (k := 2) C0 hK hS (x_con_0 (by omega)) (vp_in_nI ht (by omega)) hdg (fun H1 locs1 h => kk H1 locs1 (h.less ?_))
  rw [nI_clamp (by omega)]
  intro k e hk
  by_cases h1 : k = 2
  · subst h1
    rw [x_up_s]
    rw [x_con_0 (by omega)] at hk
    rw [← hk]
    simp only [x_c0]
    congr 8
    funext i
    by_cases hi : i = t
    · rw [hi, va_up_self, va_up_self]; rfl
    · rw [va_up_ne _ _ hi, va_up_ne _ _ hi]
  · rw [x_up_n h1]
    simp only [x_con] at hk ⊢
    by_cases h2 : k < 8
    · rw [if_pos h2] at hk ⊢
      rw [← hk]
      rcases (show k = 0 ∨ k = 1 ∨ k = 3 ∨ k = 4 ∨ k = 5 ∨ k = 6 ∨ k = 7 by omega) with rfl | rfl | rfl | rfl | rfl | rfl | rfl <;> rfl
    · rw [if_neg h2] at hk ⊢
      by_cases h3 : k < 16
      · rw [if_pos h3] at hk ⊢
        by_cases h4 : k - 8 = t
        · rw [h4, va_up_self] at hk
          exact absurd hk (by simp)
        · rw [va_up_ne _ _ h4] at hk
          exact hk
      · rw [if_neg h3] at hk ⊢
        exact hk
end XTN
-- ===== drop =====
def d_d1 (pl : Nat → Bool) (t : Int32) (p : Nat) (P : Nat → Nat → Int32) : Nat → Nat → Int32 := if d_up pl P (nI p) = true ∧ P p 0 = t then va_up P p (pg_rs (P p) (-1)) else P
def d_dl (pl : Nat → Bool) (t : Int32) : Nat → Nat → (Nat → Nat → Int32) → (Nat → Nat → Int32)
  | 0, _, P => P
  | d + 1, p, P => d_dl pl t d (p + 1) (d_d1 pl t p P)
def d_drP (tl pl : Nat → Bool) (P : Nat → Nat → Int32) (t : Int32) : Nat → Nat → Int32 := if d_tb tl t then d_dl pl t 60 0 P else P
def d_drt (tl : Nat → Bool) (t : Int32) : Nat → Bool := if d_tb tl t then va_up tl t.toNatClampNeg false else tl
theorem kX3_drop_wX0 : ∀ w ∈ u_ws RX0 TX0 6, w ∈ wsX3_drop := by decide +kernel
theorem kX3_drop_wX3 : ∀ w ∈ u_ws RX3 TX3 3, w ∈ wsX3_drop := by decide +kernel
theorem kX3_drop_f18 : Cond.fieldLink RX3 18 "VersionDesk" "tables" "[LVersionDesk$Table;" ∈ wsX3_drop := by decide +kernel
theorem kX3_drop_f47 : Cond.fieldLink RX3 47 "VersionDesk$Page" "table" "I" ∈ wsX3_drop := by decide +kernel
set_option maxHeartbeats 4000000 in
set_option maxRecDepth 100000 in
theorem l_X3_drop {p : Program} {l : Launch} {e : Env} {s : State} {m : MethodId} {args : Array Value} {below : List Frame} {meth : Method} {c : Code} {G : x_G} {ad : Nat → Nat} {R : Nat → Nat → Int32} {N : Nat → Int64} {tl : Nat → Bool} {T : Nat → Nat → Int32} {pl : Nat → Bool} {X : Nat → Option va_E} (C0 : x_B p s m meth c args cX3_drop 4 (some .boolean) RX3 wsX3_drop) (hK : x_K G s) {t : Nat} {F : Nat → Nat → Int32} (hi : t < 8) : ∀ (d : Nat) (q : Nat) (P : Nat → Nat → Int32) (H : Heap) (locs : List Loc), 60 - q < d → q ≤ 60 → F = d_dl pl (nI t) (60 - q) q P → x_H G ad (x_con G ad R N tl T pl P X) H locs → ∀ (ls : Array Slot), lv_has ls 4 [(0, .ref (ad 0)), (1, .int (nI t)), (2, .int (nI q))] → W p l e ({ frames := 1, cells := 0, slots := 0, locals := 22 } : Room) s m args below meth c H locs 0 0 (MQ below (x_Qw G ad (x_con G ad R N (va_up tl t false) T pl F X) (some (.int 1))) args s 0 0 (x_A G)) (F0 m 12 ls []) := by
  obtain ⟨hx, hb, hr, hml, hown, hts, hlk⟩ := id C0
  intro d
  induction d with
  | zero =>
    intro q P H locs hd hq hF hS ls hl
    exact absurd hd (by omega)
  | succ d ih =>
    intro q P H locs hd hq hF hS ls hl
    refine lv_iload_n hx hb dX3_drop_12 rfl (lv_at hl 2 rfl) ?_
    refine lv_bipush (v := 60) hx hb dX3_drop_13 (by decide) ?_
    refine lv_icmp_ge (tgt := 47) hx hb dX3_drop_15 (by decide) (fun c15 => ?_) (fun c15 => ?_)
    · have hq2 := nz_le (a := 60) c15 rfl rfl (by omega) (by omega)
      refine lv_aload_n hx hb dX3_drop_47 rfl (lv_at hl 0 rfl) ?_
      refine x_dget (j := 1) C0 hK hS (by decide) kX3_drop_wX3 kX3_drop_f18 dX3_drop_48 ?_
      refine lv_iload_n hx hb dX3_drop_51 rfl (lv_at hl 1 rfl) ?_
      refine lv_null hx hb dX3_drop_52 ?_
      refine x_tnull (t := t) C0 hK hS hi dX3_drop_53 (fun H locs hS => ?_)
      refine lv_iconst (v := 1) hx hb dX3_drop_54 (by decide) ?_
      exact x_wretz C0 hS (by rw [hF, show 60 - q = 0 by omega]; rfl) rfl rfl dX3_drop_55
    · have hq2 := nz_nle (a := 60) c15 rfl rfl (by omega) (by omega)
      refine lv_aload_n hx hb dX3_drop_18 rfl (lv_at hl 0 rfl) ?_
      refine lv_iload_n hx hb dX3_drop_19 rfl (lv_at hl 2 rfl) ?_
      cases hu : d_up pl P (nI q) with
      | false =>
        refine x_callr (x_rV C0 hl.1 hK hS (c_X3_usedPage l G ad R N tl T pl P X (nI q)) (x_con_0 (k := 0) (by omega)) rfl gX3_drop_X3_usedPage 1 rfl rfl rfl (by decide +kernel) ⟨Nat.le_of_ble_eq_true rfl, Nat.le_of_ble_eq_true rfl⟩ rfl rfl (Nat.le_of_ble_eq_true rfl) dX3_drop_20 ⟨Nat.le_of_ble_eq_true rfl, Nat.le_of_ble_eq_true rfl⟩) ?_
        rw [d_pv_n hu]
        show W _ _ _ _ _ _ _ _ _ _ _ _ _ _ _ (F0 m 23 ls [.null])
        refine lv_astore_nN (lv' := [(3, .null), (0, .ref (ad 0)), (1, .int (nI t)), (2, .int (nI q))]) hx hb dX3_drop_23 rfl hl (by decide) rfl (fun ls hl => ?_)
        refine lv_aload_nN hx hb dX3_drop_24 rfl (lv_at hl 0 rfl) ?_
        refine lv_ifnullN (tgt := 41) hx hb dX3_drop_25 (by decide) ?_
        refine lv_iinc (v := nI (q + 1)) (lv' := [(2, .int (nI (q + 1))), (3, .null), (0, .ref (ad 0)), (1, .int (nI t))]) hx hb dX3_drop_41 hl (k := 3) rfl (nI_1 q) (by decide) rfl (fun ls hl => ?_)
        refine lv_goto (tgt := 12) hx hb dX3_drop_44 (by decide) ?_
        exact ih (q + 1) P _ _ (by omega) (by omega) (by rw [hF, show 60 - q = (60 - (q + 1)) + 1 by omega]; simp only [d_dl, d_d1]; rw [if_neg (fun q => by rw [hu] at q; exact absurd q.1 (by decide))]) hS ls (lv_sub hl [2, 3, 0] rfl)
      | true =>
        obtain ⟨i, hp, hqi, hl_p, hp0⟩ := d_up_in hu
        have hqi : q = i := (nI_eq (by omega) (by omega)).mp hqi
        subst hqi
        refine x_callr (x_rV C0 hl.1 hK hS (c_X3_usedPage l G ad R N tl T pl P X (nI q)) (x_con_0 (k := 0) (by omega)) rfl gX3_drop_X3_usedPage 1 rfl rfl rfl (by decide +kernel) ⟨Nat.le_of_ble_eq_true rfl, Nat.le_of_ble_eq_true rfl⟩ rfl rfl (Nat.le_of_ble_eq_true rfl) dX3_drop_20 ⟨Nat.le_of_ble_eq_true rfl, Nat.le_of_ble_eq_true rfl⟩) ?_
        rw [d_pv_s hp hl_p hp0]
        show W _ _ _ _ _ _ _ _ _ _ _ _ _ _ _ (F0 m 23 ls [.ref (ad (16 + q))])
        refine lv_astore_n (lv' := [(3, .ref (ad (16 + q))), (0, .ref (ad 0)), (1, .int (nI t)), (2, .int (nI q))]) hx hb dX3_drop_23 rfl hl (by decide) rfl (fun ls hl => ?_)
        refine lv_aload_n hx hb dX3_drop_24 rfl (lv_at hl 0 rfl) ?_
        refine lv_ifnull hx hb dX3_drop_25 ?_
        refine lv_aload_n hx hb dX3_drop_28 rfl (lv_at hl 0 rfl) ?_
        refine x_pget (j := 0) C0 hK hS hp hl_p (by decide) kX3_drop_wX0 kX3_drop_f47 dX3_drop_29 ?_
        refine lv_iload_n hx hb dX3_drop_32 rfl (lv_at hl 2 rfl) ?_
        refine lv_icmp_ne (tgt := 41) hx hb dX3_drop_33 (by decide) (fun c33 => ?_) (fun c33 => ?_)
        · refine lv_iinc (v := nI (q + 1)) (lv' := [(2, .int (nI (q + 1))), (3, .ref (ad (16 + q))), (0, .ref (ad 0)), (1, .int (nI t))]) hx hb dX3_drop_41 hl (k := 3) rfl (nI_1 q) (by decide) rfl (fun ls hl => ?_)
          refine lv_goto (tgt := 12) hx hb dX3_drop_44 (by decide) ?_
          exact ih (q + 1) P _ _ (by omega) (by omega) (by rw [hF, show 60 - q = (60 - (q + 1)) + 1 by omega]; simp only [d_dl, d_d1]; rw [if_neg (fun q => c33 q.2)]) hS ls (lv_sub hl [2, 3, 0] rfl)
        · refine lv_aload_n hx hb dX3_drop_36 rfl (lv_at hl 0 rfl) ?_
          refine lv_iconst (v := (-1)) hx hb dX3_drop_37 (by decide) ?_
          refine x_callw hS (x_rV C0 hl.1 hK hS (c_X0_reset l G ad R N tl T pl P X q (-1) hp hl_p) (x_con_p hp hl_p) rfl gX3_drop_X0_reset 1 rfl rfl rfl (by decide +kernel) ⟨Nat.le_of_ble_eq_true rfl, Nat.le_of_ble_eq_true rfl⟩ rfl rfl (Nat.le_of_ble_eq_true rfl) dX3_drop_38 ⟨Nat.le_of_ble_eq_true rfl, Nat.le_of_ble_eq_true rfl⟩) (fun H locs hS => ?_)
          show W _ _ _ _ _ _ _ _ _ _ _ _ _ _ _ (F0 m 41 ls [])
          refine lv_iinc (v := nI (q + 1)) (lv' := [(2, .int (nI (q + 1))), (3, .ref (ad (16 + q))), (0, .ref (ad 0)), (1, .int (nI t))]) hx hb dX3_drop_41 hl (k := 3) rfl (nI_1 q) (by decide) rfl (fun ls hl => ?_)
          refine lv_goto (tgt := 12) hx hb dX3_drop_44 (by decide) ?_
          exact ih (q + 1) _ _ _ (by omega) (by omega) (by rw [hF, show 60 - q = (60 - (q + 1)) + 1 by omega]; simp only [d_dl, d_d1]; rw [if_pos ⟨hu, c33⟩]) hS ls (lv_sub hl [2, 3, 0] rfl)
set_option maxHeartbeats 4000000 in
set_option maxRecDepth 100000 in
/-- drop -/
theorem c_X3_drop (l : Launch) (G : x_G) (ad : Nat → Nat) (R : Nat → Nat → Int32) (N : Nat → Int64) (tl : Nat → Bool) (T : Nat → Nat → Int32) (pl : Nat → Bool) (P : Nat → Nat → Int32) (X : Nat → Option va_E) (t0 : Int32) : Met l yX3_drop wsX3_drop ({ frames := 1, cells := 0, slots := 0, locals := 22 } : Room) (x_Pc G ad (x_con G ad R N tl T pl P X) [.ref (ad 0), .int t0]) (x_Qw G ad (x_con G ad R N (d_drt tl t0) T pl (d_drP tl pl P t0) X) (some (.int (zb (d_tb tl t0))))) 0 0 (x_A G) := by
  refine x_met (cc := cX3_drop) (maxL := 4) (ret := (some .boolean)) (by decide) rfl _ (Nat.le_of_ble_eq_true rfl) ?_
  intro p e s m args below meth c C0 hini hK hS ls hl
  have hl : lv_has ls 4 [(0, .ref (ad 0)), (1, .int t0)] := hl
  obtain ⟨hx, hb, hr, hml, hown, hts, hlk⟩ := id C0
  refine lv_aload_n hx hb dX3_drop_0 rfl (lv_at hl 0 rfl) ?_
  refine lv_iload_n hx hb dX3_drop_1 rfl (lv_at hl 1 rfl) ?_
  cases ht : d_tb tl t0 with
  | false =>
    refine x_callr (x_rV C0 hl.1 hK hS (c_X3_tableAt l G ad R N tl T pl P X t0) (x_con_0 (k := 0) (by omega)) rfl gX3_drop_X3_tableAt 1 rfl rfl rfl (by decide +kernel) ⟨Nat.le_of_ble_eq_true rfl, Nat.le_of_ble_eq_true rfl⟩ rfl rfl (Nat.le_of_ble_eq_true rfl) dX3_drop_2 ⟨Nat.le_of_ble_eq_true rfl, Nat.le_of_ble_eq_true rfl⟩) ?_
    rw [d_tv_n ht]
    show W _ _ _ _ _ _ _ _ _ _ _ _ _ _ _ (F0 m 5 ls [.null])
    refine lv_ifnonnullN hx hb dX3_drop_5 ?_
    refine lv_iconst (v := 0) hx hb dX3_drop_8 (by decide) ?_
    exact x_wretz C0 hS (by unfold d_drt d_drP; rw [ht]; rfl) rfl rfl dX3_drop_9
  | true =>
    obtain ⟨t, hi, rfl, hl_t⟩ := d_tb_in ht
    refine x_callr (x_rV C0 hl.1 hK hS (c_X3_tableAt l G ad R N tl T pl P X (nI t)) (x_con_0 (k := 0) (by omega)) rfl gX3_drop_X3_tableAt 1 rfl rfl rfl (by decide +kernel) ⟨Nat.le_of_ble_eq_true rfl, Nat.le_of_ble_eq_true rfl⟩ rfl rfl (Nat.le_of_ble_eq_true rfl) dX3_drop_2 ⟨Nat.le_of_ble_eq_true rfl, Nat.le_of_ble_eq_true rfl⟩) ?_
    rw [d_tv_s hi hl_t]
    show W _ _ _ _ _ _ _ _ _ _ _ _ _ _ _ (F0 m 5 ls [.ref (ad (8 + t))])
    refine lv_ifnonnull (tgt := 10) hx hb dX3_drop_5 (by decide) ?_
    refine lv_iconst (v := 0) hx hb dX3_drop_10 (by decide) ?_
    refine lv_istore_n (lv' := [(2, .int 0), (0, .ref (ad 0)), (1, .int (nI t))]) hx hb dX3_drop_11 rfl hl (by decide) rfl (fun ls hl => ?_)
    have e1 : d_drt tl (nI t) = va_up tl t false := by unfold d_drt; rw [if_pos ht, nI_clamp (by omega)]
    have e2 : d_drP tl pl P (nI t) = d_dl pl (nI t) 60 0 P := by unfold d_drP; rw [if_pos ht]
    rw [e1, e2]
    exact l_X3_drop C0 hK hi 61 0 P _ _ (by omega) (by omega) rfl hS ls (lv_sub hl [1, 2, 0] rfl)
-- ===== leaveChain, take =====
def d_lcP (P : Nat → Nat → Int32) (i pg : Nat) : Nat → Nat → Int32 :=
  let P1 := va_up P i (upd (P i) 1 (P pg 1))
  va_up P1 pg (pg_rs (P1 pg) (-1))
def d_lc (pl : Nat → Bool) (P : Nat → Nat → Int32) (pg : Nat) : Nat → Int32 → (Nat → Nat → Int32)
  | 0, _ => P
  | d + 1, a => if d_up pl P a then (if P a.toNatClampNeg 1 = nI pg then d_lcP P a.toNatClampNeg pg else d_lc pl P pg d (P a.toNatClampNeg 1)) else P
def d_lv9 (tl pl : Nat → Bool) (T P : Nat → Nat → Int32) (pg : Nat) : Nat → Nat → Int32 := if d_tb tl (P pg 0) then d_lc pl P pg 60 (T (P pg 0).toNatClampNeg 0) else P
theorem kX3_leaveChain_wX0 : ∀ w ∈ u_ws RX0 TX0 6, w ∈ wsX3_leaveChain := by decide +kernel
theorem kX3_leaveChain_f172 : Cond.fieldLink RX3 172 "VersionDesk$Page" "following" "I" ∈ wsX3_leaveChain := by decide +kernel
set_option maxHeartbeats 4000000 in
set_option maxRecDepth 100000 in
theorem l_X3_leaveChain {p : Program} {l : Launch} {e : Env} {s : State} {m : MethodId} {args : Array Value} {below : List Frame} {meth : Method} {c : Code} {G : x_G} {ad : Nat → Nat} {R : Nat → Nat → Int32} {N : Nat → Int64} {tl : Nat → Bool} {T : Nat → Nat → Int32} {pl : Nat → Bool} {P : Nat → Nat → Int32} {X : Nat → Option va_E} (C0 : x_B p s m meth c args cX3_leaveChain 7 none RX3 wsX3_leaveChain) (hK : x_K G s) {pg t : Nat} {F : Nat → Nat → Int32} (hp : pg < 60) (hl_p : pl pg = true) : ∀ (d : Nat) (j : Nat) (a : Int32) (H : Heap) (locs : List Loc), 60 - j < d → j ≤ 60 → F = d_lc pl P pg (60 - j) a → x_H G ad (x_con G ad R N tl T pl P X) H locs → ∀ (ls : Array Slot), lv_has ls 7 [(0, .ref (ad 0)), (1, .int (nI pg)), (2, .ref (ad (16 + pg))), (3, .ref (ad (8 + t))), (4, .int a), (5, .int (nI j))] → W p l e ({ frames := 1, cells := 0, slots := 0, locals := 22 } : Room) s m args below meth c H locs 0 0 (MQ below (x_Qw G ad (x_con G ad R N tl T pl F X) none) args s 0 0 (x_A G)) (F0 m 23 ls []) := by
  obtain ⟨hx, hb, hr, hml, hown, hts, hlk⟩ := id C0
  intro d
  induction d with
  | zero =>
    intro j a H locs hd hj hF hS ls hl
    exact absurd hd (by omega)
  | succ d ih =>
    intro j a H locs hd hj hF hS ls hl
    refine lv_iload hx hb dX3_leaveChain_23 (lv_at hl 5 rfl) ?_
    refine lv_bipush (v := 60) hx hb dX3_leaveChain_25 (by decide) ?_
    refine lv_icmp_ge (tgt := 81) hx hb dX3_leaveChain_27 (by decide) (fun c27 => ?_) (fun c27 => ?_)
    · have hj2 := nz_le (a := 60) c27 rfl rfl (by omega) (by omega)
      exact x_wretv C0 hS (by rw [hF, show 60 - j = 0 by omega]; rfl) dX3_leaveChain_81
    · have hj2 := nz_nle (a := 60) c27 rfl rfl (by omega) (by omega)
      refine lv_aload_n hx hb dX3_leaveChain_30 rfl (lv_at hl 0 rfl) ?_
      refine lv_iload hx hb dX3_leaveChain_31 (lv_at hl 4 rfl) ?_
      cases hu : d_up pl P a with
      | false =>
        refine x_callr (x_rV C0 hl.1 hK hS (c_X3_usedPage l G ad R N tl T pl P X a) (x_con_0 (k := 0) (by omega)) rfl gX3_leaveChain_X3_usedPage 1 rfl rfl rfl (by decide +kernel) ⟨Nat.le_of_ble_eq_true rfl, Nat.le_of_ble_eq_true rfl⟩ rfl rfl (Nat.le_of_ble_eq_true rfl) dX3_leaveChain_33 ⟨Nat.le_of_ble_eq_true rfl, Nat.le_of_ble_eq_true rfl⟩) ?_
        rw [d_pv_n hu]
        show W _ _ _ _ _ _ _ _ _ _ _ _ _ _ _ (F0 m 36 ls [.null])
        refine lv_astoreN (lv' := [(6, .null), (0, .ref (ad 0)), (1, .int (nI pg)), (2, .ref (ad (16 + pg))), (3, .ref (ad (8 + t))), (4, .int a), (5, .int (nI j))]) hx hb dX3_leaveChain_36 hl (by decide) rfl (fun ls hl => ?_)
        refine lv_aloadN hx hb dX3_leaveChain_38 (lv_at hl 0 rfl) ?_
        refine lv_ifnonnullN hx hb dX3_leaveChain_40 ?_
        exact x_wretv C0 hS (by rw [hF, show 60 - j = (60 - (j + 1)) + 1 by omega]; simp only [d_lc]; rw [hu]; rfl) dX3_leaveChain_43
      | true =>
        obtain ⟨i, hpi, rfl, hl_i, hp0⟩ := d_up_in hu
        have hci : (nI i).toNatClampNeg = i := nI_clamp (by omega)
        refine x_callr (x_rV C0 hl.1 hK hS (c_X3_usedPage l G ad R N tl T pl P X (nI i)) (x_con_0 (k := 0) (by omega)) rfl gX3_leaveChain_X3_usedPage 1 rfl rfl rfl (by decide +kernel) ⟨Nat.le_of_ble_eq_true rfl, Nat.le_of_ble_eq_true rfl⟩ rfl rfl (Nat.le_of_ble_eq_true rfl) dX3_leaveChain_33 ⟨Nat.le_of_ble_eq_true rfl, Nat.le_of_ble_eq_true rfl⟩) ?_
        rw [d_pv_s hpi hl_i hp0]
        show W _ _ _ _ _ _ _ _ _ _ _ _ _ _ _ (F0 m 36 ls [.ref (ad (16 + i))])
        refine lv_astore (lv' := [(6, .ref (ad (16 + i))), (0, .ref (ad 0)), (1, .int (nI pg)), (2, .ref (ad (16 + pg))), (3, .ref (ad (8 + t))), (4, .int (nI i)), (5, .int (nI j))]) hx hb dX3_leaveChain_36 hl (by decide) rfl (fun ls hl => ?_)
        refine lv_aload hx hb dX3_leaveChain_38 (lv_at hl 0 rfl) ?_
        refine lv_ifnonnull (tgt := 44) hx hb dX3_leaveChain_40 (by decide) ?_
        refine lv_aload hx hb dX3_leaveChain_44 (lv_at hl 0 rfl) ?_
        refine x_pget (j := 1) C0 hK hS hpi hl_i (by decide) kX3_leaveChain_wX0 kX3_leaveChain_f172 dX3_leaveChain_46 ?_
        refine lv_iload_n hx hb dX3_leaveChain_49 rfl (lv_at hl 2 rfl) ?_
        refine lv_icmp_ne (tgt := 68) hx hb dX3_leaveChain_50 (by decide) (fun c50 => ?_) (fun c50 => ?_)
        · refine lv_aload hx hb dX3_leaveChain_68 (lv_at hl 0 rfl) ?_
          refine x_pget (j := 1) C0 hK hS hpi hl_i (by decide) kX3_leaveChain_wX0 kX3_leaveChain_f172 dX3_leaveChain_70 ?_
          refine lv_topi (fun x1 ex1 => ?_)
          refine lv_istore (lv' := [(4, .int x1), (6, .ref (ad (16 + i))), (0, .ref (ad 0)), (1, .int (nI pg)), (2, .ref (ad (16 + pg))), (3, .ref (ad (8 + t))), (5, .int (nI j))]) hx hb dX3_leaveChain_73 hl (by decide) rfl (fun ls hl => ?_)
          refine lv_iinc (v := nI (j + 1)) (lv' := [(5, .int (nI (j + 1))), (4, .int x1), (6, .ref (ad (16 + i))), (0, .ref (ad 0)), (1, .int (nI pg)), (2, .ref (ad (16 + pg))), (3, .ref (ad (8 + t)))]) hx hb dX3_leaveChain_75 hl (k := 6) rfl (nI_1 j) (by decide) rfl (fun ls hl => ?_)
          refine lv_goto (tgt := 23) hx hb dX3_leaveChain_78 (by decide) ?_
          exact ih (j + 1) _ _ _ (by omega) (by omega) (by rw [hF, show 60 - j = (60 - (j + 1)) + 1 by omega, ex1]; simp only [d_lc]; rw [if_pos hu, hci, if_neg c50]) hS ls (lv_sub hl [3, 4, 5, 6, 1, 0] rfl)
        · refine lv_aload hx hb dX3_leaveChain_53 (lv_at hl 0 rfl) ?_
          refine lv_aload_n hx hb dX3_leaveChain_55 rfl (lv_at hl 3 rfl) ?_
          refine x_pget (j := 1) C0 hK hS hp hl_p (by decide) kX3_leaveChain_wX0 kX3_leaveChain_f172 dX3_leaveChain_56 ?_
          refine x_pput (j := 1) C0 hK hS hpi hl_i (by decide) kX3_leaveChain_wX0 kX3_leaveChain_f172 dX3_leaveChain_59 (fun H locs hS => ?_)
          refine lv_aload_n hx hb dX3_leaveChain_62 rfl (lv_at hl 3 rfl) ?_
          refine lv_iconst (v := (-1)) hx hb dX3_leaveChain_63 (by decide) ?_
          refine x_callw hS (x_rV C0 hl.1 hK hS (c_X0_reset l G ad R N tl T pl (va_up P i (upd (P i) 1 (P pg 1))) X pg (-1) hp hl_p) (x_con_p hp hl_p) rfl gX3_leaveChain_X0_reset 1 rfl rfl rfl (by decide +kernel) ⟨Nat.le_of_ble_eq_true rfl, Nat.le_of_ble_eq_true rfl⟩ rfl rfl (Nat.le_of_ble_eq_true rfl) dX3_leaveChain_64 ⟨Nat.le_of_ble_eq_true rfl, Nat.le_of_ble_eq_true rfl⟩) (fun H locs hS => ?_)
          show W _ _ _ _ _ _ _ _ _ _ _ _ _ _ _ (F0 m 67 ls [])
          exact x_wretv C0 hS (by rw [hF, show 60 - j = (60 - (j + 1)) + 1 by omega]; simp only [d_lc]; rw [if_pos hu, hci, if_pos c50]; rfl) dX3_leaveChain_67
theorem kX3_leaveChain_wX2 : ∀ w ∈ u_ws RX2 TX2 3, w ∈ wsX3_leaveChain := by decide +kernel
theorem kX3_leaveChain_f142 : Cond.fieldLink RX3 142 "VersionDesk$Table" "first" "I" ∈ wsX3_leaveChain := by decide +kernel
theorem kX3_leaveChain_f47 : Cond.fieldLink RX3 47 "VersionDesk$Page" "table" "I" ∈ wsX3_leaveChain := by decide +kernel
set_option maxHeartbeats 4000000 in
set_option maxRecDepth 100000 in
/-- leaveChain -/
theorem c_X3_leaveChain (l : Launch) (G : x_G) (ad : Nat → Nat) (R : Nat → Nat → Int32) (N : Nat → Int64) (tl : Nat → Bool) (T : Nat → Nat → Int32) (pl : Nat → Bool) (P : Nat → Nat → Int32) (X : Nat → Option va_E) (pg : Nat) (hp : pg < 60) (hl_p : pl pg = true) : Met l yX3_leaveChain wsX3_leaveChain ({ frames := 1, cells := 0, slots := 0, locals := 22 } : Room) (x_Pc G ad (x_con G ad R N tl T pl P X) [.ref (ad 0), .int (nI pg), .ref (ad (16 + pg))]) (x_Qw G ad (x_con G ad R N tl T pl (d_lv9 tl pl T P pg) X) none) 0 0 (x_A G) := by
  refine x_met (cc := cX3_leaveChain) (maxL := 7) (ret := none) (by decide) rfl _ (Nat.le_of_ble_eq_true rfl) ?_
  intro p e s m args below meth c C0 hini hK hS ls hl
  have hl : lv_has ls 7 [(0, .ref (ad 0)), (1, .int (nI pg)), (2, .ref (ad (16 + pg)))] := hl
  obtain ⟨hx, hb, hr, hml, hown, hts, hlk⟩ := id C0
  refine lv_aload_n hx hb dX3_leaveChain_0 rfl (lv_at hl 0 rfl) ?_
  refine lv_aload_n hx hb dX3_leaveChain_1 rfl (lv_at hl 2 rfl) ?_
  refine x_pget (j := 0) C0 hK hS hp hl_p (by decide) kX3_leaveChain_wX0 kX3_leaveChain_f47 dX3_leaveChain_2 ?_
  cases ht : d_tb tl (P pg 0) with
  | false =>
    refine x_callr (x_rV C0 hl.1 hK hS (c_X3_tableAt l G ad R N tl T pl P X (P pg 0)) (x_con_0 (k := 0) (by omega)) rfl gX3_leaveChain_X3_tableAt 1 rfl rfl rfl (by decide +kernel) ⟨Nat.le_of_ble_eq_true rfl, Nat.le_of_ble_eq_true rfl⟩ rfl rfl (Nat.le_of_ble_eq_true rfl) dX3_leaveChain_5 ⟨Nat.le_of_ble_eq_true rfl, Nat.le_of_ble_eq_true rfl⟩) ?_
    rw [d_tv_n ht]
    show W _ _ _ _ _ _ _ _ _ _ _ _ _ _ _ (F0 m 8 ls [.null])
    refine lv_astore_nN (lv' := [(3, .null), (0, .ref (ad 0)), (1, .int (nI pg)), (2, .ref (ad (16 + pg)))]) hx hb dX3_leaveChain_8 rfl hl (by decide) rfl (fun ls hl => ?_)
    refine lv_aload_nN hx hb dX3_leaveChain_9 rfl (lv_at hl 0 rfl) ?_
    refine lv_ifnonnullN hx hb dX3_leaveChain_10 ?_
    exact x_wretv C0 hS (by unfold d_lv9; rw [ht]; rfl) dX3_leaveChain_13
  | true =>
    obtain ⟨t, hi, htk, hl_t⟩ := d_tb_in ht
    rw [htk]
    refine x_callr (x_rV C0 hl.1 hK hS (c_X3_tableAt l G ad R N tl T pl P X (nI t)) (x_con_0 (k := 0) (by omega)) rfl gX3_leaveChain_X3_tableAt 1 rfl rfl rfl (by decide +kernel) ⟨Nat.le_of_ble_eq_true rfl, Nat.le_of_ble_eq_true rfl⟩ rfl rfl (Nat.le_of_ble_eq_true rfl) dX3_leaveChain_5 ⟨Nat.le_of_ble_eq_true rfl, Nat.le_of_ble_eq_true rfl⟩) ?_
    rw [d_tv_s hi hl_t]
    show W _ _ _ _ _ _ _ _ _ _ _ _ _ _ _ (F0 m 8 ls [.ref (ad (8 + t))])
    refine lv_astore_n (lv' := [(3, .ref (ad (8 + t))), (0, .ref (ad 0)), (1, .int (nI pg)), (2, .ref (ad (16 + pg)))]) hx hb dX3_leaveChain_8 rfl hl (by decide) rfl (fun ls hl => ?_)
    refine lv_aload_n hx hb dX3_leaveChain_9 rfl (lv_at hl 0 rfl) ?_
    refine lv_ifnonnull (tgt := 14) hx hb dX3_leaveChain_10 (by decide) ?_
    refine lv_aload_n hx hb dX3_leaveChain_14 rfl (lv_at hl 0 rfl) ?_
    refine x_tget (j := 0) C0 hK hS hi hl_t (by decide) kX3_leaveChain_wX2 kX3_leaveChain_f142 dX3_leaveChain_15 ?_
    refine lv_topi (fun x1 ex1 => ?_)
    refine lv_istore (lv' := [(4, .int x1), (3, .ref (ad (8 + t))), (0, .ref (ad 0)), (1, .int (nI pg)), (2, .ref (ad (16 + pg)))]) hx hb dX3_leaveChain_18 hl (by decide) rfl (fun ls hl => ?_)
    refine lv_iconst (v := 0) hx hb dX3_leaveChain_20 (by decide) ?_
    refine lv_istore (lv' := [(5, .int 0), (4, .int x1), (3, .ref (ad (8 + t))), (0, .ref (ad 0)), (1, .int (nI pg)), (2, .ref (ad (16 + pg)))]) hx hb dX3_leaveChain_21 hl (by decide) rfl (fun ls hl => ?_)
    exact l_X3_leaveChain C0 hK hp hl_p 61 0 _ _ _ (by omega) (by omega) (by unfold d_lv9; rw [if_pos ht, htk, nI_clamp (by omega), ex1]) hS ls (lv_sub hl [3, 4, 5, 2, 1, 0] rfl)
def d_tk1 (P : Nat → Nat → Int32) (k : Nat) : Nat → Nat → Int32 := va_up P (k / 256) (pg_rm (P (k / 256)) (k % 256) (z4 (P (k / 256))) (z2 (P (k / 256))))
def d_tkP (tl pl : Nat → Bool) (T P : Nat → Nat → Int32) (q : Int32) : Nat → Nat → Int32 := if d_wv pl P q then (if d_tk1 P q.toNatClampNeg (q.toNatClampNeg / 256) 3 = 0 then d_lv9 tl pl T (d_tk1 P q.toNatClampNeg) (q.toNatClampNeg / 256) else d_tk1 P q.toNatClampNeg) else P
theorem kX3_take_wX0 : ∀ w ∈ u_ws RX0 TX0 6, w ∈ wsX3_take := by decide +kernel
theorem kX3_take_f121 : Cond.fieldLink RX3 121 "VersionDesk$Page" "versions" "I" ∈ wsX3_take := by decide +kernel
set_option maxHeartbeats 4000000 in
set_option maxRecDepth 100000 in
/-- take -/
theorem c_X3_take (l : Launch) (G : x_G) (ad : Nat → Nat) (R : Nat → Nat → Int32) (N : Nat → Int64) (tl : Nat → Bool) (T : Nat → Nat → Int32) (pl : Nat → Bool) (P : Nat → Nat → Int32) (X : Nat → Option va_E) (q0 : Int32) (hP : P_ok pl P) : Met l yX3_take wsX3_take ({ frames := 5, cells := 0, slots := 0, locals := 114 } : Room) (x_Pc G ad (x_con G ad R N tl T pl P X) [.ref (ad 0), .int q0]) (x_Qw G ad (x_con G ad R N tl T pl (d_tkP tl pl T P q0) X) (some (.int (zb (d_wv pl P q0))))) 0 0 (x_A G) := by
  refine x_met (cc := cX3_take) (maxL := 3) (ret := (some .boolean)) (by decide) rfl _ (Nat.le_of_ble_eq_true rfl) ?_
  intro p e s m args below meth c C0 hini hK hS ls hl
  have hl : lv_has ls 3 [(0, .ref (ad 0)), (1, .int q0)] := hl
  obtain ⟨hx, hb, hr, hml, hown, hts, hlk⟩ := id C0
  refine lv_aload_n hx hb dX3_take_0 rfl (lv_at hl 0 rfl) ?_
  refine lv_iload_n hx hb dX3_take_1 rfl (lv_at hl 1 rfl) ?_
  cases hw : d_wv pl P q0 with
  | false =>
    refine x_callr (x_rV C0 hl.1 hK hS (c_X3_pageWithVersion l G ad R N tl T pl P X q0) (x_con_0 (k := 0) (by omega)) rfl gX3_take_X3_pageWithVersion 1 rfl rfl rfl (by decide +kernel) ⟨Nat.le_of_ble_eq_true rfl, Nat.le_of_ble_eq_true rfl⟩ rfl rfl (Nat.le_of_ble_eq_true rfl) dX3_take_2 ⟨Nat.le_of_ble_eq_true rfl, Nat.le_of_ble_eq_true rfl⟩) ?_
    rw [d_wp_n hw]
    show W _ _ _ _ _ _ _ _ _ _ _ _ _ _ _ (F0 m 5 ls [.null])
    refine lv_astore_nN (lv' := [(2, .null), (0, .ref (ad 0)), (1, .int q0)]) hx hb dX3_take_5 rfl hl (by decide) rfl (fun ls hl => ?_)
    refine lv_aload_nN hx hb dX3_take_6 rfl (lv_at hl 0 rfl) ?_
    refine lv_ifnonnullN hx hb dX3_take_7 ?_
    refine lv_iconst (v := 0) hx hb dX3_take_10 (by decide) ?_
    exact x_wretz C0 hS (by unfold d_tkP; rw [hw]; rfl) rfl rfl dX3_take_11
  | true =>
    obtain ⟨k, hk, rfl, hp, hl_p, hp0, hhd⟩ := d_wv_in hw
    obtain ⟨hg1, hg2, hg3, hg4, hg5⟩ := hP (k / 256) hp hl_p
    refine x_callr (x_rV C0 hl.1 hK hS (c_X3_pageWithVersion l G ad R N tl T pl P X (nI k)) (x_con_0 (k := 0) (by omega)) rfl gX3_take_X3_pageWithVersion 1 rfl rfl rfl (by decide +kernel) ⟨Nat.le_of_ble_eq_true rfl, Nat.le_of_ble_eq_true rfl⟩ rfl rfl (Nat.le_of_ble_eq_true rfl) dX3_take_2 ⟨Nat.le_of_ble_eq_true rfl, Nat.le_of_ble_eq_true rfl⟩) ?_
    rw [d_wp_s hk hw]
    show W _ _ _ _ _ _ _ _ _ _ _ _ _ _ _ (F0 m 5 ls [.ref (ad (16 + k / 256))])
    refine lv_astore_n (lv' := [(2, .ref (ad (16 + k / 256))), (0, .ref (ad 0)), (1, .int (nI k))]) hx hb dX3_take_5 rfl hl (by decide) rfl (fun ls hl => ?_)
    refine lv_aload_n hx hb dX3_take_6 rfl (lv_at hl 0 rfl) ?_
    refine lv_ifnonnull (tgt := 12) hx hb dX3_take_7 (by decide) ?_
    refine lv_aload_n hx hb dX3_take_12 rfl (lv_at hl 0 rfl) ?_
    refine lv_iload_n hx hb dX3_take_13 rfl (lv_at hl 2 rfl) ?_
    refine x_callr (x_rS C0 hl.1 hK hS (c_X3_slotOf l G ad R N tl T pl P X k (by omega)) gX3_take_X3_slotOf 1 rfl rfl rfl (by decide +kernel) ⟨Nat.le_of_ble_eq_true rfl, Nat.le_of_ble_eq_true rfl⟩ rfl rfl (Nat.le_of_ble_eq_true rfl) dX3_take_14 ⟨Nat.le_of_ble_eq_true rfl, Nat.le_of_ble_eq_true rfl⟩) ?_
    show W _ _ _ _ _ _ _ _ _ _ _ _ _ _ _ (F0 m 17 ls [.int (nI (k % 256)), .ref (ad (16 + k / 256))])
    refine x_callw hS (x_rV C0 hl.1 hK hS (c_X0_remove l G ad R N tl T pl P X (k / 256) (k % 256) (z4 (P (k / 256))) (z2 (P (k / 256))) hp hl_p (by omega) (by omega) (by omega) hg3 hg1 hg5) (x_con_p hp hl_p) rfl gX3_take_X0_remove 1 rfl rfl rfl (by decide +kernel) ⟨Nat.le_of_ble_eq_true rfl, Nat.le_of_ble_eq_true rfl⟩ rfl rfl (Nat.le_of_ble_eq_true rfl) dX3_take_17 ⟨Nat.le_of_ble_eq_true rfl, Nat.le_of_ble_eq_true rfl⟩) (fun H locs hS => ?_)
    obtain ⟨P1, eP1⟩ : ∃ zz, zz = d_tk1 P k := ⟨_, rfl⟩
    rw [show va_up P (k / 256) (pg_rm (P (k / 256)) (k % 256) (z4 (P (k / 256))) (z2 (P (k / 256)))) = P1 from eP1.symm] at hS
    show W _ _ _ _ _ _ _ _ _ _ _ _ _ _ _ (F0 m 20 ls [])
    refine lv_aload_n hx hb dX3_take_20 rfl (lv_at hl 0 rfl) ?_
    refine x_pget (j := 3) C0 hK hS hp hl_p (by decide) kX3_take_wX0 kX3_take_f121 dX3_take_21 ?_
    refine lv_if_ne (tgt := 36) hx hb dX3_take_24 (by decide) (fun c24 => ?_) (fun c24 => ?_)
    · refine lv_iconst (v := 1) hx hb dX3_take_36 (by decide) ?_
      exact x_wretz C0 hS (by unfold d_tkP; rw [if_pos hw, nI_clamp (by omega), ← eP1, if_neg c24]) rfl rfl dX3_take_37
    · refine lv_aload_n hx hb dX3_take_27 rfl (lv_at hl 1 rfl) ?_
      refine lv_iload_n hx hb dX3_take_28 rfl (lv_at hl 2 rfl) ?_
      refine x_callr (x_rS C0 hl.1 hK hS (c_X3_pageOf l G ad R N tl T pl P1 X k (by omega)) gX3_take_X3_pageOf 1 rfl rfl rfl (by decide +kernel) ⟨Nat.le_of_ble_eq_true rfl, Nat.le_of_ble_eq_true rfl⟩ rfl rfl (Nat.le_of_ble_eq_true rfl) dX3_take_29 ⟨Nat.le_of_ble_eq_true rfl, Nat.le_of_ble_eq_true rfl⟩) ?_
      show W _ _ _ _ _ _ _ _ _ _ _ _ _ _ _ (F0 m 32 ls [.int (nI (k / 256)), .ref (ad 0)])
      refine lv_aload_n hx hb dX3_take_32 rfl (lv_at hl 0 rfl) ?_
      refine x_callw hS (x_rV C0 hl.1 hK hS (c_X3_leaveChain l G ad R N tl T pl P1 X (k / 256) hp hl_p) (x_con_0 (k := 0) (by omega)) rfl gX3_take_X3_leaveChain 2 rfl rfl rfl (by decide +kernel) ⟨Nat.le_of_ble_eq_true rfl, Nat.le_of_ble_eq_true rfl⟩ rfl rfl (Nat.le_of_ble_eq_true rfl) dX3_take_33 ⟨Nat.le_of_ble_eq_true rfl, Nat.le_of_ble_eq_true rfl⟩) (fun H locs hS => ?_)
      show W _ _ _ _ _ _ _ _ _ _ _ _ _ _ _ (F0 m 36 ls [])
      refine lv_iconst (v := 1) hx hb dX3_take_36 (by decide) ?_
      exact x_wretz C0 hS (by unfold d_tkP; rw [if_pos hw, nI_clamp (by omega), ← eP1, if_pos c24]) rfl rfl dX3_take_37
