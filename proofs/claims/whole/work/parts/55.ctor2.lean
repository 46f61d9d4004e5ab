theorem kX1_init_wX1 : ∀ w ∈ u_ws RX1 TX1 4, w ∈ wsX1_init := by decide +kernel
theorem kX1_init_acbyte : Cond.arrayClass .byte ∈ wsX1_init := by decide +kernel
theorem kX1_init_acint : Cond.arrayClass .int ∈ wsX1_init := by decide +kernel
theorem kX1_init_aclong : Cond.arrayClass .long ∈ wsX1_init := by decide +kernel
theorem kX1_init_f15 : Cond.fieldLink RX1 15 "VersionDesk$Row" "numbers" "[J" ∈ wsX1_init := by decide +kernel
theorem kX1_init_f19 : Cond.fieldLink RX1 19 "VersionDesk$Row" "lengths" "[I" ∈ wsX1_init := by decide +kernel
theorem kX1_init_f22 : Cond.fieldLink RX1 22 "VersionDesk$Row" "letters" "[B" ∈ wsX1_init := by decide +kernel
theorem kX1_init_f9 : Cond.fieldLink RX1 9 "VersionDesk$Row" "kinds" "[I" ∈ wsX1_init := by decide +kernel
theorem kX1_init_oi1 : Cond.methodLink RX1 3 objectInit ∈ wsX1_init := by decide +kernel
theorem kX1_init_oi2 : Cond.instanceMethod objectInit ∈ wsX1_init := by decide +kernel
set_option maxHeartbeats 4000000 in
set_option maxRecDepth 100000 in
theorem c_X1_init (l : Launch) (G : x_G) (ad : Nat → Nat) (con : Nat → Option va_E) (a : Nat) (ha : ad 1 = a) (hk : con 1 = some (.inr (1, [.null, .null, .null, .null]))) (hc4 : con 4 = none) (hc5 : con 5 = none) (hc6 : con 6 = none) (hc7 : con 7 = none) : Met l yX1_init wsX1_init ({ frames := 1, cells := 4, slots := 272, locals := 20 } : Room) (x_Pc G ad con [.ref a]) (x_Qe G (fun ad1 con1 v => v = none ∧ (∀ k, k < 4 ∨ 8 ≤ k → ad1 k = ad k) ∧ con1 = x_up (x_up (x_up (x_up (x_up con 4 (.inl (G.2.2 0, 8, .inl (fun _ => 0)))) 5 (.inl (G.2.2 1, 8, .inr (.inl (fun _ => 0))))) 6 (.inl (G.2.2 0, 8, .inl (fun _ => 0)))) 7 (.inl (G.2.2 2, 248, .inl (fun _ => 0)))) 1 (.inr (1, [.ref (ad1 4), .ref (ad1 5), .ref (ad1 6), .ref (ad1 7)])))) 4 272 (x_A G) := by
  refine x_met (cc := cX1_init) (maxL := 1) (ret := none) (by decide) rfl _ (Nat.le_of_ble_eq_true rfl) ?_
  intro p e s m args below meth c C0 hini hK hS ls hl
  have hl : lv_has ls 1 [(0, .ref a)] := hl
  obtain ⟨hx, hb, hr, hml, hown, hts, hlk⟩ := id C0
  have hS : x_H G ad (x_up con 1 (.inr (1, [.null, .null, .null, .null]))) s.heap [] := by rw [x_up_same hk]; exact hS
  refine lv_aload_n hx hb dX1_init_0 rfl (lv_at hl 0 rfl) ?_
  refine W.objInit hx hb hown (hts _ kX1_init_oi1) (hts _ kX1_init_oi2) (hts _ (List.mem_cons_of_mem _ (List.mem_append_left _ <| List.mem_of_getElem? (i := 2) rfl))) rfl (by rw [hml]; exact hl.1) rfl dX1_init_1 (Nat.le_of_ble_eq_true rfl) (Nat.le_of_ble_eq_true rfl) ?_
  refine W.eq (g2 := F0 m 4 ls []) rfl ?_
  refine lv_aload_n hx hb dX1_init_4 rfl (lv_at hl 0 rfl) ?_
  refine lv_bipush (v := 8) hx hb dX1_init_5 (by decide) ?_
  refine x_newa (ty := .int) (atype := .int) (N' := 8) (a0 := (8, .inl (fun _ => 0))) C0 hK hS 4 (by rw [x_up_n (by omega)]; exact hc4) (by omega) (j0 := 0) rfl (fun _ h => h) kX1_init_acint rfl (fun _ => rfl) (by decide) (by decide) (by decide) (Nat.le_of_ble_eq_true rfl) (Nat.le_of_ble_eq_true rfl) dX1_init_7 (fun q4 H hS => ?_)
  obtain ⟨ad1, ead1⟩ : ∃ z, z = va_up ad 4 q4 := ⟨_, rfl⟩
  have had1 : ∀ k, k ≠ 4 → ad1 k = ad k := fun k h => by rw [ead1, va_up_ne _ _ h]
  have eq4 : q4 = ad1 4 := by rw [ead1, va_up_self]
  rw [← ead1, x_up_sw (show 4 ≠ 1 by omega)] at hS
  have ha1 : ad1 1 = a := (had1 1 (by omega)).trans ha
  refine x_putA (k := 1) (ci := 1) (j := 0) (N := 4) (C := RX1) (T := TX1) (ty := (.array .int)) C0 hK hS ha1 tyX1 tyX1_ok nmX1 x_up_s rfl kX1_init_wX1 (by decide) kX1_init_f9 (Or.inr ⟨rfl, hini rfl, rfl⟩) (by decide +kernel) rfl rfl (Nat.le_of_ble_eq_true rfl) dX1_init_9 (fun H locs hS => ?_)
  rw [x_up_up] at hS
  have hS : x_H G ad1 (x_up (x_up con 4 (.inl (G.2.2 0, 8, .inl (fun _ => 0)))) 1 (.inr (1, [.ref q4, .null, .null, .null]))) H locs := hS
  refine lv_aload_n hx hb dX1_init_12 rfl (lv_at hl 0 rfl) ?_
  refine lv_bipush (v := 8) hx hb dX1_init_13 (by decide) ?_
  refine x_newa (ty := .long) (atype := .long) (N' := 8) (a0 := (8, .inr (.inl (fun _ => 0)))) C0 hK hS 5 (by rw [x_up_n (by omega), x_up_n (by omega)]; exact hc5) (by omega) (j0 := 1) rfl (fun _ h => h) kX1_init_aclong rfl (fun _ => rfl) (by decide) (by decide) (by decide) (Nat.le_of_ble_eq_true rfl) (Nat.le_of_ble_eq_true rfl) dX1_init_15 (fun q5 H hS => ?_)
  obtain ⟨ad2, ead2⟩ : ∃ z, z = va_up ad1 5 q5 := ⟨_, rfl⟩
  have had2 : ∀ k, k ≠ 5 → ad2 k = ad1 k := fun k h => by rw [ead2, va_up_ne _ _ h]
  have eq5 : q5 = ad2 5 := by rw [ead2, va_up_self]
  rw [← ead2, x_up_sw (show 5 ≠ 1 by omega)] at hS
  have ha2 : ad2 1 = a := (had2 1 (by omega)).trans ha1
  refine x_putA (k := 1) (ci := 1) (j := 1) (N := 4) (C := RX1) (T := TX1) (ty := (.array .long)) C0 hK hS ha2 tyX1 tyX1_ok nmX1 x_up_s rfl kX1_init_wX1 (by decide) kX1_init_f15 (Or.inr ⟨rfl, hini rfl, rfl⟩) (by decide +kernel) rfl rfl (Nat.le_of_ble_eq_true rfl) dX1_init_17 (fun H locs hS => ?_)
  rw [x_up_up] at hS
  have hS : x_H G ad2 (x_up (x_up (x_up con 4 (.inl (G.2.2 0, 8, .inl (fun _ => 0)))) 5 (.inl (G.2.2 1, 8, .inr (.inl (fun _ => 0))))) 1 (.inr (1, [.ref q4, .ref q5, .null, .null]))) H locs := hS
  refine lv_aload_n hx hb dX1_init_20 rfl (lv_at hl 0 rfl) ?_
  refine lv_bipush (v := 8) hx hb dX1_init_21 (by decide) ?_
  refine x_newa (ty := .int) (atype := .int) (N' := 8) (a0 := (8, .inl (fun _ => 0))) C0 hK hS 6 (by rw [x_up_n (by omega), x_up_n (by omega), x_up_n (by omega)]; exact hc6) (by omega) (j0 := 0) rfl (fun _ h => h) kX1_init_acint rfl (fun _ => rfl) (by decide) (by decide) (by decide) (Nat.le_of_ble_eq_true rfl) (Nat.le_of_ble_eq_true rfl) dX1_init_23 (fun q6 H hS => ?_)
  obtain ⟨ad3, ead3⟩ : ∃ z, z = va_up ad2 6 q6 := ⟨_, rfl⟩
  have had3 : ∀ k, k ≠ 6 → ad3 k = ad2 k := fun k h => by rw [ead3, va_up_ne _ _ h]
  have eq6 : q6 = ad3 6 := by rw [ead3, va_up_self]
  rw [← ead3, x_up_sw (show 6 ≠ 1 by omega)] at hS
  have ha3 : ad3 1 = a := (had3 1 (by omega)).trans ha2
  refine x_putA (k := 1) (ci := 1) (j := 2) (N := 4) (C := RX1) (T := TX1) (ty := (.array .int)) C0 hK hS ha3 tyX1 tyX1_ok nmX1 x_up_s rfl kX1_init_wX1 (by decide) kX1_init_f19 (Or.inr ⟨rfl, hini rfl, rfl⟩) (by decide +kernel) rfl rfl (Nat.le_of_ble_eq_true rfl) dX1_init_25 (fun H locs hS => ?_)
  rw [x_up_up] at hS
  have hS : x_H G ad3 (x_up (x_up (x_up (x_up con 4 (.inl (G.2.2 0, 8, .inl (fun _ => 0)))) 5 (.inl (G.2.2 1, 8, .inr (.inl (fun _ => 0))))) 6 (.inl (G.2.2 0, 8, .inl (fun _ => 0)))) 1 (.inr (1, [.ref q4, .ref q5, .ref q6, .null]))) H locs := hS
  refine lv_aload_n hx hb dX1_init_28 rfl (lv_at hl 0 rfl) ?_
  refine lv_sipush (v := 248) hx hb dX1_init_29 (by decide) ?_
  refine x_newa (ty := .byte) (atype := .byte) (N' := 248) (a0 := (248, .inl (fun _ => 0))) C0 hK hS 7 (by rw [x_up_n (by omega), x_up_n (by omega), x_up_n (by omega), x_up_n (by omega)]; exact hc7) (by omega) (j0 := 2) rfl (fun _ h => h) kX1_init_acbyte rfl (fun _ => rfl) (by decide) (by decide) (by decide) (Nat.le_of_ble_eq_true rfl) (Nat.le_of_ble_eq_true rfl) dX1_init_32 (fun q7 H hS => ?_)
  obtain ⟨ad4, ead4⟩ : ∃ z, z = va_up ad3 7 q7 := ⟨_, rfl⟩
  have had4 : ∀ k, k ≠ 7 → ad4 k = ad3 k := fun k h => by rw [ead4, va_up_ne _ _ h]
  have eq7 : q7 = ad4 7 := by rw [ead4, va_up_self]
  rw [← ead4, x_up_sw (show 7 ≠ 1 by omega)] at hS
  have ha4 : ad4 1 = a := (had4 1 (by omega)).trans ha3
  refine x_putA (k := 1) (ci := 1) (j := 3) (N := 4) (C := RX1) (T := TX1) (ty := (.array .byte)) C0 hK hS ha4 tyX1 tyX1_ok nmX1 x_up_s rfl kX1_init_wX1 (by decide) kX1_init_f22 (Or.inr ⟨rfl, hini rfl, rfl⟩) (by decide +kernel) rfl rfl (Nat.le_of_ble_eq_true rfl) dX1_init_34 (fun H locs hS => ?_)
  rw [x_up_up] at hS
  have hS : x_H G ad4 (x_up (x_up (x_up (x_up (x_up con 4 (.inl (G.2.2 0, 8, .inl (fun _ => 0)))) 5 (.inl (G.2.2 1, 8, .inr (.inl (fun _ => 0))))) 6 (.inl (G.2.2 0, 8, .inl (fun _ => 0)))) 7 (.inl (G.2.2 2, 248, .inl (fun _ => 0)))) 1 (.inr (1, [.ref q4, .ref q5, .ref q6, .ref q7]))) H locs := hS
  exact x_eretv C0 hS ⟨rfl, fun k hk => by rw [had4 k (by omega), had3 k (by omega), had2 k (by omega), had1 k (by omega)], by rw [eq7, eq6, eq5, eq4, had4 4 (by omega), had3 4 (by omega), had2 4 (by omega), had4 5 (by omega), had3 5 (by omega), had4 6 (by omega)]⟩ dX1_init_37
def i_R : Nat → Nat → Int32 := fun _ _ => 0
def i_N : Nat → Int64 := fun _ => 0
def i_b : Nat → Bool := fun _ => false
def i_P : Nat → Nat → Int32 := fun _ => pg_new
theorem x_con_ini {G : x_G} {ad : Nat → Nat} {con : Nat → Option va_E} (hn : ∀ k, 1 ≤ k → k < 136 → con k = none) : x_up (x_up (x_up (x_up (x_up (x_up (x_up (x_up con 4 (.inl (G.2.2 0, 8, .inl (fun _ => 0)))) 5 (.inl (G.2.2 1, 8, .inr (.inl (fun _ => 0))))) 6 (.inl (G.2.2 0, 8, .inl (fun _ => 0)))) 7 (.inl (G.2.2 2, 248, .inl (fun _ => 0)))) 1 (.inr (1, [.ref (ad 4), .ref (ad 5), .ref (ad 6), .ref (ad 7)]))) 2 (.inl (G.2.2 4, 8, .inr (.inr (.inr (.inr (fun _ => none))))))) 3 (.inl (G.2.2 5, 60, .inr (.inr (.inr (.inr (fun _ => none))))))) 0 (.inr (3, [.ref (ad 1), .ref (ad 2), .ref (ad 3)])) = x_con G ad i_R i_N i_b i_R i_b i_P con := by
  funext k
  by_cases h8 : k < 8
  · rw [x_con_0 h8]
    rcases (show k = 0 ∨ k = 1 ∨ k = 2 ∨ k = 3 ∨ k = 4 ∨ k = 5 ∨ k = 6 ∨ k = 7 by omega) with rfl | rfl | rfl | rfl | rfl | rfl | rfl | rfl <;> rfl
  · rw [x_up_n (by omega), x_up_n (by omega), x_up_n (by omega), x_up_n (by omega), x_up_n (by omega), x_up_n (by omega), x_up_n (by omega), x_up_n (by omega)]
    simp only [x_con]
    rw [if_neg h8]
    by_cases h1 : k < 136
    · rw [hn k (by omega) h1]
      by_cases h2 : k < 16
      · rw [if_pos h2]; rfl
      · rw [if_neg h2]
        by_cases h3 : k < 76
        · rw [if_pos h3]; rfl
        · rw [if_neg h3, if_pos h1]; rfl
    · rw [if_neg (by omega), if_neg (by omega), if_neg h1]
theorem kX3_init_wX1 : ∀ w ∈ u_ws RX1 TX1 4, w ∈ wsX3_init := by decide +kernel
theorem kX3_init_wX3 : ∀ w ∈ u_ws RX3 TX3 3, w ∈ wsX3_init := by decide +kernel
theorem kX3_init_cl16 : Cond.classLink RX3 16 RX2 ∈ wsX3_init := by decide +kernel
theorem kX3_init_cl22 : Cond.classLink RX3 22 RX0 ∈ wsX3_init := by decide +kernel
theorem kX3_init_f12 : Cond.fieldLink RX3 12 "VersionDesk" "hand" "LVersionDesk$Row;" ∈ wsX3_init := by decide +kernel
theorem kX3_init_f18 : Cond.fieldLink RX3 18 "VersionDesk" "tables" "[LVersionDesk$Table;" ∈ wsX3_init := by decide +kernel
theorem kX3_init_f24 : Cond.fieldLink RX3 24 "VersionDesk" "pages" "[LVersionDesk$Page;" ∈ wsX3_init := by decide +kernel
theorem kX3_init_i11 : Cond.initialized yX1_init.cls ∈ wsX3_init := by decide +kernel
theorem kX3_init_n11 : Cond.instanceMethod yX1_init ∈ wsX3_init := by decide +kernel
theorem kX3_init_nw0 : Cond.classLink RX3 9 RX1 ∈ wsX3_init := by decide +kernel
theorem kX3_init_nw1 : Cond.instantiable RX1 4 ∈ wsX3_init := by decide +kernel
theorem kX3_init_nw2 : Cond.initialized RX1 ∈ wsX3_init := by decide +kernel
theorem kX3_init_oi1 : Cond.methodLink RX3 3 objectInit ∈ wsX3_init := by decide +kernel
theorem kX3_init_oi2 : Cond.instanceMethod objectInit ∈ wsX3_init := by decide +kernel
set_option maxHeartbeats 4000000 in
set_option maxRecDepth 100000 in
theorem c_X3_init (l : Launch) (G : x_G) (ad : Nat → Nat) (con : Nat → Option va_E) (a : Nat) (ha : ad 0 = a) (hk : con 0 = some (.inr (3, [.null, .null, .null]))) (hn : ∀ k, 1 ≤ k → k < 136 → con k = none) : Met l yX3_init wsX3_init ({ frames := 2, cells := 7, slots := 344, locals := 40 } : Room) (x_Pc G ad con [.ref a]) (x_Qe G (fun ad1 con1 v => v = none ∧ (∀ k, k = 0 ∨ 136 ≤ k → ad1 k = ad k) ∧ con1 = x_con G ad1 i_R i_N i_b i_R i_b i_P con)) 7 344 (x_A G) := by
  refine x_met (cc := cX3_init) (maxL := 1) (ret := none) (by decide) rfl _ (Nat.le_of_ble_eq_true rfl) ?_
  intro p e s m args below meth c C0 hini hK hS ls hl
  have hl : lv_has ls 1 [(0, .ref a)] := hl
  obtain ⟨hx, hb, hr, hml, hown, hts, hlk⟩ := id C0
  have hS : x_H G ad (x_up con 0 (.inr (3, [.null, .null, .null]))) s.heap [] := by rw [x_up_same hk]; exact hS
  refine lv_aload_n hx hb dX3_init_0 rfl (lv_at hl 0 rfl) ?_
  refine W.objInit hx hb hown (hts _ kX3_init_oi1) (hts _ kX3_init_oi2) (hts _ (List.mem_cons_of_mem _ (List.mem_append_left _ <| List.mem_append_left _ <| List.mem_of_getElem? (i := 2) rfl))) rfl (by rw [hml]; exact hl.1) rfl dX3_init_1 (Nat.le_of_ble_eq_true rfl) (Nat.le_of_ble_eq_true rfl) ?_
  refine W.eq (g2 := F0 m 4 ls []) rfl ?_
  refine lv_aload_n hx hb dX3_init_4 rfl (lv_at hl 0 rfl) ?_
  refine x_new (ci := 1) (N := 4) (C := RX1) (T := TX1) (fs := [.null, .null, .null, .null]) C0 hK hS 1 (by rw [x_up_n (by omega)]; exact hn 1 (by omega) (by omega)) (by omega) tyX1 tyX1_ok rfl kX3_init_wX1 kX3_init_nw0 kX3_init_nw1 kX3_init_nw2 (fun j hj => by rcases (show j = 0 ∨ j = 1 ∨ j = 2 ∨ j = 3 by omega) with rfl | rfl | rfl | rfl <;> rfl) (Nat.le_of_ble_eq_true rfl) (Nat.le_of_ble_eq_true rfl) dX3_init_5 (fun q1 H hS => ?_)
  refine lv_dup hx hb dX3_init_8 rfl ?_
  refine x_calle hS (x_rIN (As := []) C0 hl.1 hK hS (c_X1_init l G (va_up ad 1 q1) (x_up (x_up con 0 (.inr (3, [.null, .null, .null]))) 1 (.inr (1, [.null, .null, .null, .null]))) q1 (va_up_self _ _ _) x_up_s (by rw [x_up_n (by omega), x_up_n (by omega)]; exact hn 4 (by omega) (by omega)) (by rw [x_up_n (by omega), x_up_n (by omega)]; exact hn 5 (by omega) (by omega)) (by rw [x_up_n (by omega), x_up_n (by omega)]; exact hn 6 (by omega) (by omega)) (by rw [x_up_n (by omega), x_up_n (by omega)]; exact hn 7 (by omega) (by omega))) gX3_init_X1_init_n11 0 rfl rfl rfl (host := RX3) (by decide +kernel) kX3_init_i11 kX3_init_n11 rfl (by decide +kernel) ⟨Nat.le_of_ble_eq_true rfl, Nat.le_of_ble_eq_true rfl⟩ rfl rfl (Nat.le_of_ble_eq_true rfl) dX3_init_9 ⟨Nat.le_of_ble_eq_true rfl, Nat.le_of_ble_eq_true rfl⟩) (fun ad1 con1 v H locs hv hS => ?_)
  obtain ⟨rfl, had, rfl⟩ := hv
  have e1 : q1 = ad1 1 := by rw [had 1 (by omega), va_up_self]
  have had1 : ∀ k, k = 0 ∨ 8 ≤ k → ad1 k = ad k := fun k hk => by rw [had k (by omega), va_up_ne _ _ (by omega)]
  have ha1 : ad1 0 = a := (had1 0 (by omega)).trans ha
  have hS : x_H G ad1 (x_up (x_up (x_up (x_up (x_up (x_up con 4 (.inl (G.2.2 0, 8, .inl (fun _ => 0)))) 5 (.inl (G.2.2 1, 8, .inr (.inl (fun _ => 0))))) 6 (.inl (G.2.2 0, 8, .inl (fun _ => 0)))) 7 (.inl (G.2.2 2, 248, .inl (fun _ => 0)))) 1 (.inr (1, [.ref (ad1 4), .ref (ad1 5), .ref (ad1 6), .ref (ad1 7)]))) 0 (.inr (3, [.null, .null, .null]))) H locs := by
    refine cast (congrArg (fun z => x_H G ad1 z H locs) ?_) hS
    funext j
    rcases (show j = 0 ∨ j = 1 ∨ j = 4 ∨ j = 5 ∨ j = 6 ∨ j = 7 ∨ (j ≠ 0 ∧ j ≠ 1 ∧ j ≠ 4 ∧ j ≠ 5 ∧ j ≠ 6 ∧ j ≠ 7) by omega) with rfl | rfl | rfl | rfl | rfl | rfl | ⟨h0, h1, h4, h5, h6, h7⟩
    iterate 6 rfl
    simp only [x_up, h0, h1, h4, h5, h6, h7, if_false]
  rw [e1]
  show W _ _ _ _ _ _ _ _ _ _ _ _ _ _ _ (F0 m 12 ls [.ref (ad1 1), .ref a])
  refine x_putA (k := 0) (ci := 3) (j := 0) (N := 3) (C := RX3) (T := TX3) (ty := (.object "VersionDesk$Row")) C0 hK hS ha1 tyX3 tyX3_ok nmX3 x_up_s rfl kX3_init_wX3 (by decide) kX3_init_f12 (Or.inr ⟨rfl, hini rfl, rfl⟩) (by decide +kernel) rfl rfl (Nat.le_of_ble_eq_true rfl) dX3_init_12 (fun H locs hS => ?_)
  rw [x_up_up] at hS
  have hS : x_H G ad1 (x_up (x_up (x_up (x_up (x_up (x_up con 4 (.inl (G.2.2 0, 8, .inl (fun _ => 0)))) 5 (.inl (G.2.2 1, 8, .inr (.inl (fun _ => 0))))) 6 (.inl (G.2.2 0, 8, .inl (fun _ => 0)))) 7 (.inl (G.2.2 2, 248, .inl (fun _ => 0)))) 1 (.inr (1, [.ref (ad1 4), .ref (ad1 5), .ref (ad1 6), .ref (ad1 7)]))) 0 (.inr (3, [.ref (ad1 1), .null, .null]))) H locs := hS
  refine lv_aload_n hx hb dX3_init_15 rfl (lv_at hl 0 rfl) ?_
  refine lv_bipush (v := 8) hx hb dX3_init_16 (by decide) ?_
  refine x_newq (C := RX2) (N' := 8) C0 hK hS 2 (by rw [x_up_n (by omega), x_up_n (by omega), x_up_n (by omega), x_up_n (by omega), x_up_n (by omega), x_up_n (by omega)]; exact hn 2 (by omega) (by omega)) (by omega) (j0 := 4) rfl kX3_init_cl16 hK.2.2.1 (by decide) (by decide) (by decide) (Nat.le_of_ble_eq_true rfl) (Nat.le_of_ble_eq_true rfl) dX3_init_18 (fun q2 H hS => ?_)
  obtain ⟨ad2, ead2⟩ : ∃ z, z = va_up ad1 2 q2 := ⟨_, rfl⟩
  have had2 : ∀ k, k ≠ 2 → ad2 k = ad1 k := fun k h => by rw [ead2, va_up_ne _ _ h]
  have eq2 : q2 = ad2 2 := by rw [ead2, va_up_self]
  rw [← ead2, x_up_sw (show 2 ≠ 0 by omega)] at hS
  have ha2 : ad2 0 = a := (had2 0 (by omega)).trans ha1
  refine x_putA (k := 0) (ci := 3) (j := 1) (N := 3) (C := RX3) (T := TX3) (ty := (.array (.object "VersionDesk$Table"))) C0 hK hS ha2 tyX3 tyX3_ok nmX3 x_up_s rfl kX3_init_wX3 (by decide) kX3_init_f18 (Or.inr ⟨rfl, hini rfl, rfl⟩) (by decide +kernel) rfl rfl (Nat.le_of_ble_eq_true rfl) dX3_init_21 (fun H locs hS => ?_)
  rw [x_up_up] at hS
  have hS : x_H G ad2 (x_up (x_up (x_up (x_up (x_up (x_up (x_up con 4 (.inl (G.2.2 0, 8, .inl (fun _ => 0)))) 5 (.inl (G.2.2 1, 8, .inr (.inl (fun _ => 0))))) 6 (.inl (G.2.2 0, 8, .inl (fun _ => 0)))) 7 (.inl (G.2.2 2, 248, .inl (fun _ => 0)))) 1 (.inr (1, [.ref (ad1 4), .ref (ad1 5), .ref (ad1 6), .ref (ad1 7)]))) 2 (.inl (G.2.2 4, 8, .inr (.inr (.inr (.inr (fun _ => none))))))) 0 (.inr (3, [.ref (ad1 1), .ref q2, .null]))) H locs := hS
  refine lv_aload_n hx hb dX3_init_24 rfl (lv_at hl 0 rfl) ?_
  refine lv_bipush (v := 60) hx hb dX3_init_25 (by decide) ?_
  refine x_newq (C := RX0) (N' := 60) C0 hK hS 3 (by rw [x_up_n (by omega), x_up_n (by omega), x_up_n (by omega), x_up_n (by omega), x_up_n (by omega), x_up_n (by omega), x_up_n (by omega)]; exact hn 3 (by omega) (by omega)) (by omega) (j0 := 5) rfl kX3_init_cl22 hK.2.2.2 (by decide) (by decide) (by decide) (Nat.le_of_ble_eq_true rfl) (Nat.le_of_ble_eq_true rfl) dX3_init_27 (fun q3 H hS => ?_)
  obtain ⟨ad3, ead3⟩ : ∃ z, z = va_up ad2 3 q3 := ⟨_, rfl⟩
  have had3 : ∀ k, k ≠ 3 → ad3 k = ad2 k := fun k h => by rw [ead3, va_up_ne _ _ h]
  have eq3 : q3 = ad3 3 := by rw [ead3, va_up_self]
  rw [← ead3, x_up_sw (show 3 ≠ 0 by omega)] at hS
  have ha3 : ad3 0 = a := (had3 0 (by omega)).trans ha2
  refine x_putA (k := 0) (ci := 3) (j := 2) (N := 3) (C := RX3) (T := TX3) (ty := (.array (.object "VersionDesk$Page"))) C0 hK hS ha3 tyX3 tyX3_ok nmX3 x_up_s rfl kX3_init_wX3 (by decide) kX3_init_f24 (Or.inr ⟨rfl, hini rfl, rfl⟩) (by decide +kernel) rfl rfl (Nat.le_of_ble_eq_true rfl) dX3_init_30 (fun H locs hS => ?_)
  rw [x_up_up] at hS
  have hS : x_H G ad3 (x_up (x_up (x_up (x_up (x_up (x_up (x_up (x_up con 4 (.inl (G.2.2 0, 8, .inl (fun _ => 0)))) 5 (.inl (G.2.2 1, 8, .inr (.inl (fun _ => 0))))) 6 (.inl (G.2.2 0, 8, .inl (fun _ => 0)))) 7 (.inl (G.2.2 2, 248, .inl (fun _ => 0)))) 1 (.inr (1, [.ref (ad1 4), .ref (ad1 5), .ref (ad1 6), .ref (ad1 7)]))) 2 (.inl (G.2.2 4, 8, .inr (.inr (.inr (.inr (fun _ => none))))))) 3 (.inl (G.2.2 5, 60, .inr (.inr (.inr (.inr (fun _ => none))))))) 0 (.inr (3, [.ref (ad1 1), .ref q2, .ref q3]))) H locs := hS
  exact x_eretv C0 hS ⟨rfl, fun k hk => by rw [had3 k (by omega), had2 k (by omega), had1 k (by omega)], by rw [eq3, eq2, show ad2 2 = ad3 2 from (had3 2 (by omega)).symm, show ad1 1 = ad3 1 by rw [had3 1 (by omega), had2 1 (by omega)], show ad1 4 = ad3 4 by rw [had3 4 (by omega), had2 4 (by omega)], show ad1 5 = ad3 5 by rw [had3 5 (by omega), had2 5 (by omega)], show ad1 6 = ad3 6 by rw [had3 6 (by omega), had2 6 (by omega)], show ad1 7 = ad3 7 by rw [had3 7 (by omega), had2 7 (by omega)]]; exact x_con_ini hn⟩ dX3_init_33
