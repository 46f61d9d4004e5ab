theorem x_up_sw {con : Nat → Option va_E} {k b : Nat} {e e1 : va_E} (h : b ≠ k) : x_up (x_up con k e) b e1 = x_up (x_up con b e1) k e := by
  funext j
  by_cases h1 : j = b
  · subst h1; rw [x_up_s, x_up_n h, x_up_s]
  · rw [x_up_n h1]
    by_cases h2 : j = k
    · subst h2; rw [x_up_s, x_up_s]
    · rw [x_up_n h2, x_up_n h2, x_up_n h1]
theorem x_up_same {con : Nat → Option va_E} {k : Nat} {e : va_E} (h : con k = some e) : x_up con k e = con := by
  funext j
  by_cases h1 : j = k
  · subst h1; rw [x_up_s, h]
  · rw [x_up_n h1]
theorem kX0_init_wX0 : ∀ w ∈ u_ws RX0 TX0 6, w ∈ wsX0_init := by decide +kernel
theorem kX0_init_acb : Cond.arrayClass .byte ∈ wsX0_init := by decide +kernel
theorem kX0_init_f15 : Cond.fieldLink RX0 15 "VersionDesk$Page" "following" "I" ∈ wsX0_init := by decide +kernel
theorem kX0_init_f18 : Cond.fieldLink RX0 18 "VersionDesk$Page" "slots" "I" ∈ wsX0_init := by decide +kernel
theorem kX0_init_f21 : Cond.fieldLink RX0 21 "VersionDesk$Page" "versions" "I" ∈ wsX0_init := by decide +kernel
theorem kX0_init_f24 : Cond.fieldLink RX0 24 "VersionDesk$Page" "packedFrom" "I" ∈ wsX0_init := by decide +kernel
theorem kX0_init_f27 : Cond.fieldLink RX0 27 "VersionDesk$Page" "bytes" "[B" ∈ wsX0_init := by decide +kernel
theorem kX0_init_f9 : Cond.fieldLink RX0 9 "VersionDesk$Page" "table" "I" ∈ wsX0_init := by decide +kernel
theorem kX0_init_oi1 : Cond.methodLink RX0 3 objectInit ∈ wsX0_init := by decide +kernel
theorem kX0_init_oi2 : Cond.instanceMethod objectInit ∈ wsX0_init := by decide +kernel
set_option maxHeartbeats 4000000 in
set_option maxRecDepth 100000 in
theorem c_X0_init (l : Launch) (G : x_G) (ad : Nat → Nat) (con : Nat → Option va_E) (k b a : Nat) (ha : ad k = a) (hkb : k ≠ b) (hk : con k = some (.inr (0, [.int 0, .int 0, .int 0, .int 0, .int 0, .null]))) (hnb : con b = none) (hbM : b < 4096) : Met l yX0_init wsX0_init ({ frames := 1, cells := 1, slots := 496, locals := 20 } : Room) (x_Pc G ad con [.ref a]) (x_Qe G (fun ad1 con1 v => v = none ∧ ∃ q, ad1 = va_up ad b q ∧ con1 = x_up (x_up con b (.inl (G.2.2 2, 496, .inl (fun _ => 0)))) k (x_pgE pg_new q))) 1 496 (x_A G) := by
  refine x_met (cc := cX0_init) (maxL := 1) (ret := none) (by decide) rfl _ (Nat.le_of_ble_eq_true rfl) ?_
  intro p e s m args below meth c C0 hini hK hS ls hl
  have hl : lv_has ls 1 [(0, .ref a)] := hl
  obtain ⟨hx, hb, hr, hml, hown, hts, hlk⟩ := id C0
  have hS : x_H G ad (x_up con k (.inr (0, [.int 0, .int 0, .int 0, .int 0, .int 0, .null]))) s.heap [] := by rw [x_up_same hk]; exact hS
  refine lv_aload_n hx hb dX0_init_0 rfl (lv_at hl 0 rfl) ?_
  refine W.objInit hx hb hown (hts _ kX0_init_oi1) (hts _ kX0_init_oi2) (hts _ (List.mem_cons_of_mem _ (List.mem_append_left _ <| List.mem_of_getElem? (i := 2) rfl))) rfl (by rw [hml]; exact hl.1) rfl dX0_init_1 (Nat.le_of_ble_eq_true rfl) (Nat.le_of_ble_eq_true rfl) ?_
  refine W.eq (g2 := F0 m 4 ls []) rfl ?_
  refine lv_aload_n hx hb dX0_init_4 rfl (lv_at hl 0 rfl) ?_
  refine lv_iconst (v := (-1)) hx hb dX0_init_5 (by decide) ?_
  refine x_putA (k := k) (ci := 0) (j := 0) (N := 6) (C := RX0) (T := TX0) (ty := .int) C0 hK hS ha tyX0 tyX0_ok nmX0 x_up_s rfl kX0_init_wX0 (by decide) kX0_init_f9 (Or.inl rfl) (by decide +kernel) rfl rfl (Nat.le_of_ble_eq_true rfl) dX0_init_6 (fun H locs hS => ?_)
  rw [x_up_up] at hS
  have hS : x_H G ad (x_up con k (.inr (0, [.int (-1), .int 0, .int 0, .int 0, .int 0, .null]))) H locs := hS
  refine lv_aload_n hx hb dX0_init_9 rfl (lv_at hl 0 rfl) ?_
  refine lv_iconst (v := (-1)) hx hb dX0_init_10 (by decide) ?_
  refine x_putA (k := k) (ci := 0) (j := 1) (N := 6) (C := RX0) (T := TX0) (ty := .int) C0 hK hS ha tyX0 tyX0_ok nmX0 x_up_s rfl kX0_init_wX0 (by decide) kX0_init_f15 (Or.inl rfl) (by decide +kernel) rfl rfl (Nat.le_of_ble_eq_true rfl) dX0_init_11 (fun H locs hS => ?_)
  rw [x_up_up] at hS
  have hS : x_H G ad (x_up con k (.inr (0, [.int (-1), .int (-1), .int 0, .int 0, .int 0, .null]))) H locs := hS
  refine lv_aload_n hx hb dX0_init_14 rfl (lv_at hl 0 rfl) ?_
  refine lv_iconst (v := 0) hx hb dX0_init_15 (by decide) ?_
  refine x_putA (k := k) (ci := 0) (j := 2) (N := 6) (C := RX0) (T := TX0) (ty := .int) C0 hK hS ha tyX0 tyX0_ok nmX0 x_up_s rfl kX0_init_wX0 (by decide) kX0_init_f18 (Or.inl rfl) (by decide +kernel) rfl rfl (Nat.le_of_ble_eq_true rfl) dX0_init_16 (fun H locs hS => ?_)
  rw [x_up_up] at hS
  have hS : x_H G ad (x_up con k (.inr (0, [.int (-1), .int (-1), .int 0, .int 0, .int 0, .null]))) H locs := hS
  refine lv_aload_n hx hb dX0_init_19 rfl (lv_at hl 0 rfl) ?_
  refine lv_iconst (v := 0) hx hb dX0_init_20 (by decide) ?_
  refine x_putA (k := k) (ci := 0) (j := 3) (N := 6) (C := RX0) (T := TX0) (ty := .int) C0 hK hS ha tyX0 tyX0_ok nmX0 x_up_s rfl kX0_init_wX0 (by decide) kX0_init_f21 (Or.inl rfl) (by decide +kernel) rfl rfl (Nat.le_of_ble_eq_true rfl) dX0_init_21 (fun H locs hS => ?_)
  rw [x_up_up] at hS
  have hS : x_H G ad (x_up con k (.inr (0, [.int (-1), .int (-1), .int 0, .int 0, .int 0, .null]))) H locs := hS
  refine lv_aload_n hx hb dX0_init_24 rfl (lv_at hl 0 rfl) ?_
  refine lv_sipush (v := 496) hx hb dX0_init_25 (by decide) ?_
  refine x_putA (k := k) (ci := 0) (j := 4) (N := 6) (C := RX0) (T := TX0) (ty := .int) C0 hK hS ha tyX0 tyX0_ok nmX0 x_up_s rfl kX0_init_wX0 (by decide) kX0_init_f24 (Or.inl rfl) (by decide +kernel) rfl rfl (Nat.le_of_ble_eq_true rfl) dX0_init_28 (fun H locs hS => ?_)
  rw [x_up_up] at hS
  have hS : x_H G ad (x_up con k (.inr (0, [.int (-1), .int (-1), .int 0, .int 0, .int 496, .null]))) H locs := hS
  refine lv_aload_n hx hb dX0_init_31 rfl (lv_at hl 0 rfl) ?_
  refine lv_sipush (v := 496) hx hb dX0_init_32 (by decide) ?_
  refine x_newa (ty := .byte) (atype := .byte) (N' := 496) (a0 := (496, .inl (fun _ => 0))) C0 hK hS b (by rw [x_up_n (Ne.symm hkb)]; exact hnb) hbM (j0 := 2) rfl (fun _ h => h) kX0_init_acb rfl (fun _ => rfl) (by decide) (by decide) (by decide) (Nat.le_of_ble_eq_true rfl) (Nat.le_of_ble_eq_true rfl) dX0_init_35 (fun q H hS => ?_)
  have ha1 : va_up ad b q k = a := by rw [va_up_ne _ _ hkb]; exact ha
  rw [x_up_sw (Ne.symm hkb)] at hS
  refine x_putA (k := k) (ci := 0) (j := 5) (N := 6) (C := RX0) (T := TX0) (ty := (.array .byte)) C0 hK hS ha1 tyX0 tyX0_ok nmX0 x_up_s rfl kX0_init_wX0 (by decide) kX0_init_f27 (Or.inr ⟨rfl, hini rfl, rfl⟩) (by decide +kernel) rfl rfl (Nat.le_of_ble_eq_true rfl) dX0_init_37 (fun H locs hS => ?_)
  rw [x_up_up] at hS
  have hS : x_H G (va_up ad b q) (x_up (x_up con b (.inl (G.2.2 2, 496, .inl (fun _ => 0)))) k (.inr (0, [.int (-1), .int (-1), .int 0, .int 0, .int 496, .ref q]))) H locs := hS
  exact x_eretv C0 hS ⟨rfl, q, rfl, rfl⟩ dX0_init_40
theorem kX2_init_wX2 : ∀ w ∈ u_ws RX2 TX2 3, w ∈ wsX2_init := by decide +kernel
theorem kX2_init_f13 : Cond.fieldLink RX2 13 "VersionDesk$Table" "columns" "I" ∈ wsX2_init := by decide +kernel
theorem kX2_init_f16 : Cond.fieldLink RX2 16 "VersionDesk$Table" "types" "I" ∈ wsX2_init := by decide +kernel
theorem kX2_init_f7 : Cond.fieldLink RX2 7 "VersionDesk$Table" "first" "I" ∈ wsX2_init := by decide +kernel
theorem kX2_init_oi1 : Cond.methodLink RX2 1 objectInit ∈ wsX2_init := by decide +kernel
theorem kX2_init_oi2 : Cond.instanceMethod objectInit ∈ wsX2_init := by decide +kernel
set_option maxHeartbeats 4000000 in
set_option maxRecDepth 100000 in
theorem c_X2_init (l : Launch) (G : x_G) (ad : Nat → Nat) (con : Nat → Option va_E) (k a : Nat) (v1 v2 v3 : Int32) (ha : ad k = a) (hk : con k = some (.inr (2, [.int 0, .int 0, .int 0]))) : Met l yX2_init wsX2_init ({ frames := 1, cells := 0, slots := 0, locals := 20 } : Room) (x_Pc G ad con [.ref a, .int v1, .int v2, .int v3]) (x_Qw G ad (x_up con k (.inr (2, [.int v1, .int v2, .int v3]))) none) 0 0 (x_A G) := by
  refine x_met (cc := cX2_init) (maxL := 4) (ret := none) (by decide) rfl _ (Nat.le_of_ble_eq_true rfl) ?_
  intro p e s m args below meth c C0 hini hK hS ls hl
  have hl : lv_has ls 4 [(0, .ref a), (1, .int v1), (2, .int v2), (3, .int v3)] := hl
  obtain ⟨hx, hb, hr, hml, hown, hts, hlk⟩ := id C0
  have hS : x_H G ad (x_up con k (.inr (2, [.int 0, .int 0, .int 0]))) s.heap [] := by rw [x_up_same hk]; exact hS
  refine lv_aload_n hx hb dX2_init_0 rfl (lv_at hl 0 rfl) ?_
  refine W.objInit hx hb hown (hts _ kX2_init_oi1) (hts _ kX2_init_oi2) (hts _ (List.mem_cons_of_mem _ (List.mem_append_left _ <| List.mem_of_getElem? (i := 2) rfl))) rfl (by rw [hml]; exact hl.1) rfl dX2_init_1 (Nat.le_of_ble_eq_true rfl) (Nat.le_of_ble_eq_true rfl) ?_
  refine W.eq (g2 := F0 m 4 ls []) rfl ?_
  refine lv_aload_n hx hb dX2_init_4 rfl (lv_at hl 0 rfl) ?_
  refine lv_iload_n hx hb dX2_init_5 rfl (lv_at hl 1 rfl) ?_
  refine x_putA (k := k) (ci := 2) (j := 0) (N := 3) (C := RX2) (T := TX2) (ty := .int) C0 hK hS ha tyX2 tyX2_ok nmX2 x_up_s rfl kX2_init_wX2 (by decide) kX2_init_f7 (Or.inr ⟨rfl, hini rfl, rfl⟩) (by decide +kernel) rfl rfl (Nat.le_of_ble_eq_true rfl) dX2_init_6 (fun H locs hS => ?_)
  rw [x_up_up] at hS
  have hS : x_H G ad (x_up con k (.inr (2, [.int v1, .int 0, .int 0]))) H locs := hS
  refine lv_aload_n hx hb dX2_init_9 rfl (lv_at hl 0 rfl) ?_
  refine lv_iload_n hx hb dX2_init_10 rfl (lv_at hl 2 rfl) ?_
  refine x_putA (k := k) (ci := 2) (j := 1) (N := 3) (C := RX2) (T := TX2) (ty := .int) C0 hK hS ha tyX2 tyX2_ok nmX2 x_up_s rfl kX2_init_wX2 (by decide) kX2_init_f13 (Or.inr ⟨rfl, hini rfl, rfl⟩) (by decide +kernel) rfl rfl (Nat.le_of_ble_eq_true rfl) dX2_init_11 (fun H locs hS => ?_)
  rw [x_up_up] at hS
  have hS : x_H G ad (x_up con k (.inr (2, [.int v1, .int v2, .int 0]))) H locs := hS
  refine lv_aload_n hx hb dX2_init_14 rfl (lv_at hl 0 rfl) ?_
  refine lv_iload_n hx hb dX2_init_15 rfl (lv_at hl 3 rfl) ?_
  refine x_putA (k := k) (ci := 2) (j := 2) (N := 3) (C := RX2) (T := TX2) (ty := .int) C0 hK hS ha tyX2 tyX2_ok nmX2 x_up_s rfl kX2_init_wX2 (by decide) kX2_init_f16 (Or.inr ⟨rfl, hini rfl, rfl⟩) (by decide +kernel) rfl rfl (Nat.le_of_ble_eq_true rfl) dX2_init_16 (fun H locs hS => ?_)
  rw [x_up_up] at hS
  have hS : x_H G ad (x_up con k (.inr (2, [.int v1, .int v2, .int v3]))) H locs := hS
  exact x_wretv C0 hS rfl dX2_init_19
