theorem lw_c {i L : Nat} (hL : L ≤ 2560) (hi : i ≤ 2560) (h : ¬ (nI L - 5 < nI i)) : i + 4 < L := by
  by_cases h5 : L < 5
  · refine absurd ?_ h
    have h0 : (0 : Int32) ≤ nI i := nI_pos' (by omega)
    refine Int32.lt_of_lt_of_le ?_ h0
    rcases (show L = 0 ∨ L = 1 ∨ L = 2 ∨ L = 3 ∨ L = 4 by omega) with rfl | rfl | rfl | rfl | rfl <;> decide
  · obtain ⟨q, rfl⟩ : ∃ q, L = q + 5 := ⟨L - 5, by omega⟩
    have e : nI (q + 5) - 5 = nI q := by
      rw [← (nI_a q).2.2.2.2, Int32.add_sub_cancel]
    rw [e] at h
    have : ¬ q < i := fun hh => h (nI_lt hh (by omega))
    omega
def RM (k : Nat) : Nat × Nat := (40 + 3 * k, 12000 + 505 * k)
set_option maxHeartbeats 4000000 in
set_option maxRecDepth 100000 in
/-- THE LAW'S LOOP -/
theorem law_loop {Sim : Nat → aS} (hbase : lk_base Sim) (hcreate : lk_create Sim) (hdrop : lk_drop Sim) (hclear : lk_clear Sim) (hcell : lk_cell Sim) (htext : lk_text Sim) (hput : lk_put Sim) (hget : lk_get Sim) (hend : lk_end Sim) (hbehind : lk_behind Sim) (htake : lk_take Sim) (hlook : lk_look Sim) (hnext : lk_next Sim) (hvalue : lk_value Sim) (hletter : lk_letter Sim) (hkind : lk_kind Sim) (hpage : lk_page Sim) {p : Program} {l : Launch} {e : Env} {s : State} {m : MethodId} {below : List Frame} {meth : Method} {c : Code} {G : x_G} {b L : Nat} {xs : Nat → Int32} (C0 : x_B p s m meth c #[Value.ref b] cL_law 4 ret RL lw_tbl) (hK : x_K G s) (hG : G.2.1 = s.heap) (hX : va_X b L xs s G.2.1) (hbl : b < G.2.1.size) (hL : L ≤ 2560) : ∀ (d k : Nat), 513 ≤ k + d → 5 * k ≤ L → ∀ (R : aR) (N : aN) (tl : aB) (T : aR) (pl : aB) (P : aR) (M : aR) (V : aN) (ad : Nat → Nat) (H : Heap) (locs : List Loc), Sim k R N tl T pl P M V → x_H G ad (w_con G ad R N tl T pl P M V) H locs → ∀ (ls : Array Slot), lv_has ls 4 [(0, .ref b), (1, .ref (ad 0)), (2, .ref (ad 200)), (3, .int (nI (5 * k)))] → W p l e room_1 s m #[Value.ref b] below meth c H locs (40 + 3 * k) (12000 + 505 * k) (lw_Z below #[Value.ref b] s) (F0 m 18 ls []) := by
  obtain ⟨hx, hb, hr, hml, hown, hts, hlk⟩ := id C0
  intro d
  induction d with
  | zero =>
    intro k h1 h2
    exact absurd h2 (by omega)
  | succ d ih =>
    intro k hd hk5 R N tl T pl P M V ad H locs hSim hS ls hl
    obtain ⟨i, ei⟩ : ∃ i, i = 5 * k := ⟨_, rfl⟩
    rw [← ei] at hl
    refine lv_iload_n hx hb dL_law_18 rfl (lv_at hl 3 rfl) ?_
    refine lv_aload_n hx hb dL_law_19 rfl (lv_at hl 0 rfl) ?_
    refine lw_len C0 hX hbl hS dL_law_20 ?_
    refine lv_iconst (v := 5) hx hb dL_law_21 (by decide) ?_
    refine lv_isub hx hb dL_law_22 ?_
    refine lv_icmp_gt (tgt := 685) hx hb dL_law_23 (by decide) (fun c23 => ?_) (fun c23 => ?_)
    · refine lv_iconst (v := 1) hx hb dL_law_685 (by decide) ?_
      refine va_forget (fun q hq => by rw [← hG]; exact hS.2.2.2.2 q hq) ?_
      refine W.widen (k := 600000) (n := 7302250) (by omega) (by omega) ?_
      exact lw_ret hx hb hr hlk dL_law_686
    · have hi : i + 4 < L := lw_c hL (by omega) c23
      have hk : k < 512 := by omega
      obtain ⟨⟨⟨hD, hR, hT, hP⟩, ⟨hmn, hm0⟩, ⟨hst, hs0⟩, ⟨hH, hB, hPl, hSh, hTp⟩, hF, hFi, hTy, hC, hSl⟩, hSim1⟩ := hbase k R N tl T pl P M V hk hSim
      have hm : y_mn M < 514 := by omega
      have hs1 : y_sn M < 514 := by omega
      have cont : ∀ (R : aR) (N : aN) (tl : aB) (T : aR) (pl : aB) (P : aR) (M : aR) (V : aN) (ad : Nat → Nat) (H : Heap) (locs : List Loc) (ls : Array Slot), Sim (k + 1) R N tl T pl P M V → x_H G ad (w_con G ad R N tl T pl P M V) H locs → lv_has ls 4 [(0, .ref b), (1, .ref (ad 0)), (2, .ref (ad 200)), (3, .int (nI i))] → ∀ ce sl : Nat, ce ≤ 40 + 3 * (k + 1) → sl ≤ 12000 + 505 * (k + 1) → W p l e room_1 s m #[Value.ref b] below meth c H locs ce sl (lw_Z below #[Value.ref b] s) (F0 m 679 ls []) := by
        intro R N tl T pl P M V ad H locs ls hSim hS hl ce sl hce hsl
        refine W.widen hce hsl ?_
        refine lv_iinc (v := nI (5 * (k + 1))) (lv' := [(3, .int (nI (5 * (k + 1)))), (0, .ref b), (1, .ref (ad 0)), (2, .ref (ad 200))]) hx hb dL_law_679 hl (k := 3) rfl (by rw [ei, show 5 * (k + 1) = 5 * k + 5 by omega]; exact (nI_a (5 * k)).2.2.2.2) (by decide) rfl (fun ls hl => ?_)
        refine lv_goto (tgt := 18) hx hb dL_law_682 (by decide) ?_
        exact ih (k + 1) (by omega) (by omega) R N tl T pl P M V ad H locs hSim hS ls (lv_sub hl [1, 2, 3, 0] rfl)
      refine lv_aload_n hx hb dL_law_26 rfl (lv_at hl 0 rfl) ?_
      refine lv_iload_n hx hb dL_law_27 rfl (lv_at hl 3 rfl) ?_
      refine lw_ld C0 hX hbl hS hi hL 0 (by decide) rfl dL_law_28 ?_
      refine lv_bipush (v := 15) hx hb dL_law_29 (by decide) ?_
      refine lv_iand hx hb dL_law_31 ?_
      obtain ⟨n, hn, en⟩ := sw_15 (xs (i + 0))
      rw [en]
      rcases (show n = 0 ∨ n = 1 ∨ n = 2 ∨ n = 3 ∨ n = 4 ∨ n = 5 ∨ n = 6 ∨ n = 7 ∨ n = 8 ∨ n = 9 ∨ n = 10 ∨ n = 11 ∨ n = 12 ∨ n = 13 ∨ n = 14 ∨ n = 15 by omega) with rfl | rfl | rfl | rfl | rfl | rfl | rfl | rfl | rfl | rfl | rfl | rfl | rfl | rfl | rfl | rfl
      · refine lv_tableIn (off := 80) (tgt := 112) hx hb dL_law_32 (by decide) (by decide) (by decide) (by decide) ?_
        refine lwc_create C0 hK hX hbl hi hL hD hS (by omega) (by omega) (hcreate k R N tl T pl P M V (xs (i + 1)) (xs (i + 2)) (xs (i + 3)) hk hSim).1 hl (fun ad1 H locs hS hl => ?_)
        exact cont _ _ _ _ _ _ _ _ _ _ _ _ (hcreate k R N tl T pl P M V (xs (i + 1)) (xs (i + 2)) (xs (i + 3)) hk hSim).2 hS hl _ _ (by omega) (by omega)
      · refine lv_tableIn (off := 123) (tgt := 155) hx hb dL_law_32 (by decide) (by decide) (by decide) (by decide) ?_
        refine lwc_drop C0 hK hX hbl hi hL hmn hm hPl hSh hS (by omega) (by omega) (hdrop k R N tl T pl P M V (xs (i + 1)) hk hSim).1 hl (fun H locs hS => ?_)
        exact cont _ _ _ _ _ _ _ _ _ _ _ _ (hdrop k R N tl T pl P M V (xs (i + 1)) hk hSim).2 hS hl _ _ (by omega) (by omega)
      · refine lv_tableIn (off := 146) (tgt := 178) hx hb dL_law_32 (by decide) (by decide) (by decide) (by decide) ?_
        refine lwc_clear C0 hK hX hbl hi hL  hS (by omega) (by omega) hl (fun H locs hS => ?_)
        exact cont _ _ _ _ _ _ _ _ _ _ _ _ (hclear k R N tl T pl P M V  hk hSim) hS hl _ _ (by omega) (by omega)
      · refine lv_tableIn (off := 157) (tgt := 189) hx hb dL_law_32 (by decide) (by decide) (by decide) (by decide) ?_
        refine lwc_cell C0 hK hX hbl hi hL hst hs1 hS (by omega) (by omega) (hcell k R N tl T pl P M V (xs (i + 1)) (((xs (i + 2)).toInt64 <<< ((32 : Int32).toInt64 &&& 63)) ||| ((xs (i + 3)).toInt64 &&& 4294967295)) hk hSim).1 hl (fun H locs hS => ?_)
        exact cont _ _ _ _ _ _ _ _ _ _ _ _ (hcell k R N tl T pl P M V (xs (i + 1)) (((xs (i + 2)).toInt64 <<< ((32 : Int32).toInt64 &&& 63)) ||| ((xs (i + 3)).toInt64 &&& 4294967295)) hk hSim).2 hS hl _ _ (by omega) (by omega)
      · refine lv_tableIn (off := 220) (tgt := 252) hx hb dL_law_32 (by decide) (by decide) (by decide) (by decide) ?_
        refine lwc_text C0 hK hX hbl hi hL hst hs1 hR hH hS (by omega) (by omega) (htext k R N tl T pl P M V (xs (i + 1)) (xs (i + 4)) (((xs (i + 2)).toInt64 <<< ((32 : Int32).toInt64 &&& 63)) ||| ((xs (i + 3)).toInt64 &&& 4294967295)) hk hSim).1 hl (fun H locs hS => ?_)
        exact cont _ _ _ _ _ _ _ _ _ _ _ _ (htext k R N tl T pl P M V (xs (i + 1)) (xs (i + 4)) (((xs (i + 2)).toInt64 <<< ((32 : Int32).toInt64 &&& 63)) ||| ((xs (i + 3)).toInt64 &&& 4294967295)) hk hSim).2 hS hl _ _ (by omega) (by omega)
      · refine lv_tableIn (off := 293) (tgt := 325) hx hb dL_law_32 (by decide) (by decide) (by decide) (by decide) ?_
        refine lwc_put C0 hK hX hbl hi hL hD hR hT hP hmn hm hH hTy hC hSl hF hFi hS (by omega) (by omega) (hput k R N tl T pl P M V (xs (i + 1)) (xs (i + 2)) (xs (i + 3)) (xs (i + 4)) hk hSim).1 hl (fun ad1 H locs hS hl => ?_)
        exact cont _ _ _ _ _ _ _ _ _ _ _ _ (hput k R N tl T pl P M V (xs (i + 1)) (xs (i + 2)) (xs (i + 3)) (xs (i + 4)) hk hSim).2 hS hl _ _ (by omega) (by omega)
      · refine lv_tableIn (off := 346) (tgt := 378) hx hb dL_law_32 (by decide) (by decide) (by decide) (by decide) ?_
        refine lwc_get C0 hK hX hbl hi hL hmn hm hR hT hS (by omega) (by omega) (hget k R N tl T pl P M V (xs (i + 1)) hk hSim).1 hl (fun H locs hS => ?_)
        exact cont _ _ _ _ _ _ _ _ _ _ _ _ (hget k R N tl T pl P M V (xs (i + 1)) hk hSim).2 hS hl _ _ (by omega) (by omega)
      · refine lv_tableIn (off := 369) (tgt := 401) hx hb dL_law_32 (by decide) (by decide) (by decide) (by decide) ?_
        refine lwc_end C0 hK hX hbl hi hL hmn hm hS (by omega) (by omega) (hend k R N tl T pl P M V (xs (i + 1)) (xs (i + 2)) (xs (i + 3)) hk hSim).1 hl (fun H locs hS => ?_)
        exact cont _ _ _ _ _ _ _ _ _ _ _ _ (hend k R N tl T pl P M V (xs (i + 1)) (xs (i + 2)) (xs (i + 3)) hk hSim).2 hS hl _ _ (by omega) (by omega)
      · refine lv_tableIn (off := 412) (tgt := 444) hx hb dL_law_32 (by decide) (by decide) (by decide) (by decide) ?_
        refine lwc_behind C0 hK hX hbl hi hL hmn hm hS (by omega) (by omega) (hbehind k R N tl T pl P M V (xs (i + 1)) (xs (i + 2)) hk hSim).1 hl (fun H locs hS => ?_)
        exact cont _ _ _ _ _ _ _ _ _ _ _ _ (hbehind k R N tl T pl P M V (xs (i + 1)) (xs (i + 2)) hk hSim).2 hS hl _ _ (by omega) (by omega)
      · refine lv_tableIn (off := 445) (tgt := 477) hx hb dL_law_32 (by decide) (by decide) (by decide) (by decide) ?_
        refine lwc_take C0 hK hX hbl hi hL hmn hm hP hPl hTp hSh hS (by omega) (by omega) (htake k R N tl T pl P M V (xs (i + 1)) hk hSim).1 hl (fun H locs hS => ?_)
        exact cont _ _ _ _ _ _ _ _ _ _ _ _ (htake k R N tl T pl P M V (xs (i + 1)) hk hSim).2 hS hl _ _ (by omega) (by omega)
      · refine lv_tableIn (off := 468) (tgt := 500) hx hb dL_law_32 (by decide) (by decide) (by decide) (by decide) ?_
        refine lwc_look C0 hK hX hbl hi hL hmn hm hPl hS (by omega) (by omega) (hlook k R N tl T pl P M V (xs (i + 1)) (xs (i + 2)) hk hSim) hl (fun H locs hS => ?_)
        exact cont _ _ _ _ _ _ _ _ _ _ _ _ hSim1 hS hl _ _ (by omega) (by omega)
      · refine lv_tableIn (off := 501) (tgt := 533) hx hb dL_law_32 (by decide) (by decide) (by decide) (by decide) ?_
        refine lwc_next C0 hK hX hbl hi hL hmn hm hP hF hFi hS (by omega) (by omega) (hnext k R N tl T pl P M V (xs (i + 1)) (xs (i + 2)) hk hSim) hl (fun H locs hS => ?_)
        exact cont _ _ _ _ _ _ _ _ _ _ _ _ hSim1 hS hl _ _ (by omega) (by omega)
      · refine lv_tableIn (off := 534) (tgt := 566) hx hb dL_law_32 (by decide) (by decide) (by decide) (by decide) ?_
        refine lwc_value C0 hK hX hbl hi hL hH hS (by omega) (by omega) (hvalue k R N tl T pl P M V (xs (i + 1)) hk hSim) hl (fun H locs hS => ?_)
        exact cont _ _ _ _ _ _ _ _ _ _ _ _ hSim1 hS hl _ _ (by omega) (by omega)
      · refine lv_tableIn (off := 558) (tgt := 590) hx hb dL_law_32 (by decide) (by decide) (by decide) (by decide) ?_
        refine lwc_letter C0 hK hX hbl hi hL hR hH hB hS (by omega) (by omega) (hletter k R N tl T pl P M V (xs (i + 1)) (xs (i + 2)) hk hSim) hl (fun H locs hS => ?_)
        exact cont _ _ _ _ _ _ _ _ _ _ _ _ hSim1 hS hl _ _ (by omega) (by omega)
      · refine lv_tableIn (off := 591) (tgt := 623) hx hb dL_law_32 (by decide) (by decide) (by decide) (by decide) ?_
        refine lwc_kind C0 hK hX hbl hi hL hH hS (by omega) (by omega) (hkind k R N tl T pl P M V (xs (i + 1)) hk hSim) hl (fun H locs hS => ?_)
        exact cont _ _ _ _ _ _ _ _ _ _ _ _ hSim1 hS hl _ _ (by omega) (by omega)
      · refine lv_tableIn (off := 614) (tgt := 646) hx hb dL_law_32 (by decide) (by decide) (by decide) (by decide) ?_
        refine lwc_page C0 hK hX hbl hi hL hmn hm hS (by omega) (by omega) (hpage k R N tl T pl P M V (xs (i + 1)) (xs (i + 2)) hk hSim) hl (fun H locs hS => ?_)
        exact cont _ _ _ _ _ _ _ _ _ _ _ _ hSim1 hS hl _ _ (by omega) (by omega)
