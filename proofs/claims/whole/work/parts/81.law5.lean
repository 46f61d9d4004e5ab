theorem arr_prim {args : Array Value} {s : State} {ty : FieldType} (h : (Cond.arrayClass ty).before args s = true) : ∃ cA, ArrOfT s cA ty ∧ s.vm.findClass ("[" ++ ty.toString) = some cA := by
  obtain ⟨cA, kA, comp, h1, h2, h3⟩ := Cond.arrayClass_spec h
  exact ⟨cA, fun n z => ⟨fun k h => (by cases h), kA, h2, comp, h3⟩, h1⟩
theorem arr_obj {args : Array Value} {first s : State} {o : Option Outcome} {idx : List Nat} {C : String} (h : (Cond.arrayOver (.object C)).holds args first o s idx = true) : ∃ cA, ArrOfT s cA (.object C) ∧ va_RA s cA (.object C) := by
  simp only [Cond.holds, Cond.value, beq_iff_eq] at h
  cases hc : s.vm.findClass C with
  | none => simp [hc] at h
  | some comp =>
    simp only [hc, Option.bind_some, Option.bind_eq_some_iff, Option.map_eq_some_iff] at h
    obtain ⟨c, hi, k, hk, hb⟩ := h
    obtain ⟨hlt, hp, -⟩ := Array.findIdx?_eq_some_iff_getElem.mp hi
    have hkk : s.vm.classes[c] = k := (Array.getElem?_eq_some_iff.mp hk).2
    rw [hkk] at hp
    cases hkind : k.kind with
    | array component ty =>
      rw [hkind] at hb hp
      simp at hb hp
      have h3 : k.kind = .array comp (.object C) := by rw [hkind, hp, hb.1]
      exact ⟨c, fun n z => ⟨fun k h => (by cases h), k, hk, comp, h3⟩, k, comp, hk, h3, hc, hb.2⟩
    | _ => rw [hkind] at hb; simp at hb
theorem w_Dad {G : x_G} {ad ad1 : Nat → Nat} {X : Nat → Option va_E} (h : ∀ k, k < 136 → ad1 k = ad k) (hX : ∀ k, 136 ≤ k → X k = none) : x_con G ad i_R i_N i_b i_R i_b i_P X = w_D G ad1 i_R i_N i_b i_R i_b i_P := by
  unfold w_D
  rw [x_con_ad (tl := i_b) (pl := i_b) (ad := ad) (ad1 := ad1) (fun k hk => h k (by omega)) (fun i hi => fun q => by cases q) (fun p hp q => by cases q) (fun _ _ => rfl) (fun _ _ => rfl)]
  funext k
  by_cases hk : 136 ≤ k
  · rw [x_con_x hk, x_con_x hk, hX k hk]
  · simp only [x_con]
    by_cases h3 : k < 8
    · rw [if_pos h3, if_pos h3]
    · rw [if_neg h3, if_neg h3]
      by_cases h4 : k < 16
      · rw [if_pos h4, if_pos h4]
      · rw [if_neg h4, if_neg h4]
        by_cases h5 : k < 76
        · rw [if_pos h5, if_pos h5]
        · rw [if_neg h5, if_neg h5, if_pos (show k < 136 by omega), if_pos (show k < 136 by omega)]
def nl22 : List Value := [.null, .null, .null, .null, .null, .null, .int 0, .null, .null, .null, .null, .null, .null, .null, .null, .null, .null, .int 0, .null, .null, .null, .null]
theorem z_0 {G : x_G} {ad : Nat → Nat} {D : Nat → Option va_E} : x_up D 200 (.inr (4, nl22)) = z_con G ad D 0 := by
  funext k
  by_cases h : k = 200
  · subst h; rfl
  · rw [x_up_n h]
    unfold z_con
    rw [if_neg h, if_neg (by omega)]
set_option maxHeartbeats 4000000 in
set_option maxRecDepth 100000 in
/-- THE LAW, from its entry, over any relation that the calls keep -/
theorem law_start {Sim : Nat → aS} (hbase : lk_base Sim) (hcreate : lk_create Sim) (hdrop : lk_drop Sim) (hclear : lk_clear Sim) (hcell : lk_cell Sim) (htext : lk_text Sim) (hput : lk_put Sim) (hget : lk_get Sim) (hend : lk_end Sim) (hbehind : lk_behind Sim) (htake : lk_take Sim) (hlook : lk_look Sim) (hnext : lk_next Sim) (hvalue : lk_value Sim) (hletter : lk_letter Sim) (hkind : lk_kind Sim) (hpage : lk_page Sim) (h00 : Sim 0 i_R i_N i_b i_R i_b i_P (i_M 60) (fun _ => 0)) {p : Program} {e : Env} {s : State} {m : MethodId} {below : List Frame} {meth : Method} {c : Code} (l : Launch) {b L : Nat} {xs : Nat → Int32} (hL : L ≤ 2560) (C : lw_At p s m meth c b L xs) : W p l e room_1 s m #[Value.ref b] below meth c s.heap [] 0 0 (lw_Z below #[Value.ref b] s) (entryFrame m ([Value.ref b] : List Value).toArray 4) := by
  obtain ⟨hx, hb, hr, hml, hown, hts, hX, hbl, hlk, -⟩ := C
  have C0 : x_B p s m meth c #[Value.ref b] cL_law 4 ret RL lw_tbl := ⟨hx, hb, hr, hml, hown, hts, hlk⟩
  obtain ⟨c0, iS0, hKn0⟩ := u_known (C := RX0) (T := TX0) (N := 6) (n := 6) hts inu_X0 (hts _ lw_w99)
  obtain ⟨c1, iS1, hKn1⟩ := u_known (C := RX1) (T := TX1) (N := 4) (n := 4) hts inu_X1 (hts _ lw_w50)
  obtain ⟨c2, iS2, hKn2⟩ := u_known (C := RX2) (T := TX2) (N := 3) (n := 3) hts inu_X2 (hts _ lw_w131)
  obtain ⟨c3, iS3, hKn3⟩ := u_known (C := RX3) (T := TX3) (N := 3) (n := 3) hts inu_X3 (hts _ lw_w42)
  obtain ⟨c4, iS4, hKn4⟩ := u_known (C := RX4) (T := TX4) (N := 22) (n := 22) hts inu_X4 (hts _ lw_w400)
  obtain ⟨a0, hA0, hN0⟩ := arr_prim (hts _ lw_w68)
  obtain ⟨a1, hA1, hN1⟩ := arr_prim (hts _ lw_w69)
  obtain ⟨a2, hA2, hN2⟩ := arr_prim (hts _ lw_w70)
  obtain ⟨a3, hA3, hN3⟩ := arr_prim (hts _ lw_w472)
  obtain ⟨a4, hA4, hN4⟩ := arr_obj (hts _ lw_w72)
  obtain ⟨a5, hA5, hN5⟩ := arr_obj (hts _ lw_w74)
  obtain ⟨dC, dI, hKc⟩ : ∃ (dC : Nat → ClassId) (dI : Nat → Nat → Nat), ∀ (k : Nat) (q : vw_C), vwCl[k]? = some q → u_Kn s q.1 q.2.1 q.2.2 (dC k) (dI k) := by
    refine ⟨fun k => if k = 0 then c0 else if k = 1 then c1 else if k = 2 then c2 else if k = 3 then c3 else c4, fun k => if k = 0 then iS0 else if k = 1 then iS1 else if k = 2 then iS2 else if k = 3 then iS3 else iS4, ?_⟩
    intro k q hq
    match k, hq with
    | 0, hq => cases hq; exact hKn0
    | 1, hq => cases hq; exact hKn1
    | 2, hq => cases hq; exact hKn2
    | 3, hq => cases hq; exact hKn3
    | 4, hq => cases hq; exact hKn4
    | k + 5, hq => cases hq
  obtain ⟨G, eG⟩ : ∃ G : x_G, G = ((dC, dI), s.heap, fun k => if k = 0 then a0 else if k = 1 then a1 else if k = 2 then a2 else if k = 3 then a3 else if k = 4 then a4 else a5) := ⟨_, rfl⟩
  have hG : G.2.1 = s.heap := by rw [eG]
  have hK : x_K G s := by
    rw [eG]
    refine ⟨⟨hKc, ?_⟩, ?_, va_AO.of (hts _ lw_w72), va_AO.of (hts _ lw_w74)⟩
    · intro k q hq
      match k, hq with
      | 0, hq => cases hq; exact ⟨hA0, hN0⟩
      | 1, hq => cases hq; exact ⟨hA1, hN1⟩
      | 2, hq => cases hq; exact ⟨hA2, hN2⟩
      | 3, hq => cases hq; exact ⟨hA3, hN3⟩
      | 4, hq => cases hq; exact ⟨hA4, hN4⟩
      | 5, hq => cases hq; exact ⟨hA5, hN5⟩
      | k + 6, hq => cases hq
    · intro w hw
      rcases List.mem_cons.mp hw with rfl | hw
      · exact va_Nw.of rfl (hts _ lw_w51)
      rcases List.mem_cons.mp hw with rfl | hw
      · exact va_Nw.of rfl (hts _ lw_w100)
      rcases List.mem_cons.mp hw with rfl | hw
      · exact va_Nw.of rfl (hts _ lw_w182)
      rcases List.mem_cons.mp hw with rfl | hw
      · exact va_Nw.of rfl (hts _ lw_w220)
      cases hw
  have hS : x_H G (fun _ => 0) (fun _ => none) s.heap [] := ⟨fun k e h => (by cases h), fun i j ei ej h => (by cases h), (by rw [hG]; exact va_S.rf)⟩
  have hX : va_X b L xs s G.2.1 := by rw [hG]; exact hX
  have hbl : b < G.2.1.size := by rw [hG]; exact hbl
  have hl := lv_entry ([.ref b]) (n := 4) (Nat.le_of_ble_eq_true rfl)
  rw [lg_entry_eq]
  generalize (lg_sl ([.ref b]) ++ List.replicate (4 - (lg_sl ([.ref b])).length) Slot.unset).toArray = ls at hl ⊢
  have hl : lv_has ls 4 [(0, .ref b)] := hl
  refine x_new (ci := 3) (C := RX3) (T := TX3) (N := 3) (fs := [.null, .null, .null]) C0 hK hS 0 rfl (by decide) tyX3 tyX3_ok rfl inu_X3 lw_w41 lw_w42 lw_w34 (fun j hj => by rcases (show j = 0 ∨ j = 1 ∨ j = 2 by omega) with rfl | rfl | rfl <;> rfl) (Nat.le_of_ble_eq_true rfl) (Nat.le_of_ble_eq_true rfl) dL_law_0 (fun q0 H hS => ?_)
  refine lv_dup hx hb dL_law_3 rfl ?_
  refine x_calle hS (x_rI (As := []) (rest := [.ref q0]) C0 hl.1 hK hS (c_X3_init l G _ _ q0 (va_up_self _ _ _) x_up_s (fun k h1 h2 => by rw [x_up_n (by omega)])) gq_X3_init 0 rfl rfl rfl lw_w34 lw_w43 lw_w44 rfl (by decide +kernel) ⟨Nat.le_of_ble_eq_true rfl, Nat.le_of_ble_eq_true rfl⟩ rfl rfl (Nat.le_of_ble_eq_true rfl) dL_law_4 ⟨Nat.le_of_ble_eq_true rfl, Nat.le_of_ble_eq_true rfl⟩) (fun ad1 con1 v1 H locs hpost hS => ?_)
  obtain ⟨ev, had1, hcon⟩ := hpost
  subst ev
  have e0 : ad1 0 = q0 := (had1 0 (Or.inl rfl)).trans (va_up_self _ _ _)
  show W _ _ _ _ _ _ _ _ _ _ _ _ _ _ _ (F0 m 7 ls [.ref q0])
  refine lv_astore_n (lv' := [(1, .ref q0), (0, .ref b)]) hx hb dL_law_7 rfl hl (by decide) rfl (fun ls hl => ?_)
  have hz : ∀ k, 200 ≤ k → con1 k = none := fun k hk => by rw [hcon, x_con_x (by omega), x_up_n (by omega)]
  refine x_new (ci := 4) (C := RX4) (T := TX4) (N := 22) (fs := nl22) C0 hK hS 200 (hz 200 (by omega)) (by decide) tyX4 tyX4_ok rfl inu_X4 lw_w399 lw_w400 lw_w36 (by decide +kernel) (Nat.le_of_ble_eq_true rfl) (Nat.le_of_ble_eq_true rfl) dL_law_8 (fun q1 H hS => ?_)
  refine lv_dup hx hb dL_law_11 rfl ?_
  rw [hcon, w_Dad (ad1 := va_up ad1 200 q1) (fun k hk => va_up_ne _ _ (by omega)) (fun k hk => by rw [x_up_n (by omega)]), z_0 (G := G) (ad := va_up ad1 200 q1)] at hS
  refine x_calle hS (x_rI (As := []) (rest := [.ref q1]) C0 hl.1 hK hS (c_X4_init l G _ _ q1 (va_up_self _ _ _) (fun k hk => by unfold w_D; rw [x_con_x (by omega)])) gq_X4_init 0 rfl rfl rfl lw_w36 lw_w401 lw_w402 rfl (by decide +kernel) ⟨Nat.le_of_ble_eq_true rfl, Nat.le_of_ble_eq_true rfl⟩ rfl rfl (Nat.le_of_ble_eq_true rfl) dL_law_12 ⟨Nat.le_of_ble_eq_true rfl, Nat.le_of_ble_eq_true rfl⟩) (fun ad3 con3 v3 H locs hpost hS => ?_)
  obtain ⟨ev, had3, hcon3⟩ := hpost
  subst ev
  have e1 : ad3 200 = q1 := (had3 200 (Or.inl (by omega))).trans (va_up_self _ _ _)
  have e2 : ad3 0 = q0 := (had3 0 (Or.inl (by omega))).trans ((va_up_ne _ _ (by omega)).trans e0)
  show W _ _ _ _ _ _ _ _ _ _ _ _ _ _ _ (F0 m 15 ls [.ref q1])
  refine lv_astore_n (lv' := [(2, .ref q1), (1, .ref q0), (0, .ref b)]) hx hb dL_law_15 rfl hl (by decide) rfl (fun ls hl => ?_)
  refine lv_iconst (v := 0) hx hb dL_law_16 (by decide) ?_
  refine lv_istore_n (lv' := [(3, .int 0), (2, .ref q1), (1, .ref q0), (0, .ref b)]) hx hb dL_law_17 rfl hl (by decide) rfl (fun ls hl => ?_)
  have hw : w_D G (va_up ad1 200 q1) i_R i_N i_b i_R i_b i_P = w_D G ad3 i_R i_N i_b i_R i_b i_P := w_Dad (X := fun _ => none) (fun k hk => had3 k (Or.inl (by omega))) (fun _ _ => rfl)
  rw [hcon3, hw] at hS
  have hS := w_ofy hS
  refine W.widen (k := 40 + 3 * 0) (n := 12000 + 505 * 0) (Nat.le_of_ble_eq_true rfl) (Nat.le_of_ble_eq_true rfl) ?_
  rw [← e1, ← e2, ← nI_0] at hl
  exact law_loop hbase hcreate hdrop hclear hcell htext hput hget hend hbehind htake hlook hnext hvalue hletter hkind hpage C0 hK hG hX hbl hL 513 0 (by omega) (by omega) _ _ _ _ _ _ _ _ ad3 _ _ h00 hS ls (lv_sub hl [3, 2, 1, 0] rfl)
