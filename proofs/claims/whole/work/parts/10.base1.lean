-- the four links between nest mates
def x_nws : List (String × Nat × MethodName × String) := [(RX3, 11, yX1_init, RX3), (RX3, 182, yX0_init, RX3), (RX1, 32, yX3_isColumn, RX3), (RX2, 19, yX3_digit, RX3)]
-- ===== the cells of the system by tags: ad k is the address of tag k, con k says what lies there =====
abbrev x_G : Type := va_G × Heap × (Nat → ClassId)
def x_A (G : x_G) : Nat → Prop := fun q => G.2.1.size ≤ q
def x_ws (ad : Nat → Nat) (con : Nat → Option va_E) (M : Nat) : va_W := (List.range M).filterMap (fun k => (con k).map (fun e => (ad k, e)))
theorem x_ws_of {ad : Nat → Nat} {con : Nat → Option va_E} {M q : Nat} {x : Nat × va_E} (h : (x_ws ad con M)[q]? = some x) : ∃ k, k < M ∧ con k = some x.2 ∧ ad k = x.1 := by
  obtain ⟨k, h1, h2⟩ := List.mem_filterMap.mp (List.mem_of_getElem? h)
  obtain ⟨e, h3, h4⟩ := Option.map_eq_some_iff.mp h2
  subst h4
  exact ⟨k, List.mem_range.mp h1, h3, rfl⟩
theorem x_ws_at {ad : Nat → Nat} {con : Nat → Option va_E} {M k : Nat} {e : va_E} (hk : k < M) (h : con k = some e) : ∃ q : Nat, (x_ws ad con M)[q]? = some (ad k, e) := by
  apply List.getElem?_of_mem
  exact List.mem_filterMap.mpr ⟨k, List.mem_range.mpr hk, by rw [h]; rfl⟩
/-- the heap H holds con at ad; all of it lies behind the base heap, which is unchanged -/
def x_H (G : x_G) (ad : Nat → Nat) (con : Nat → Option va_E) (H : Heap) (locs : List Loc) : Prop :=
  (∀ k e, con k = some e → k < 4096 ∧ x_A G (ad k) ∧ va_at G.1 vwCl (ad k, e) H) ∧ (∀ i j ei ej, con i = some ei → con j = some ej → ad i = ad j → i = j) ∧ va_S (x_A G) G.2.1 H locs
theorem x_H.P {G : x_G} {ad : Nat → Nat} {con : Nat → Option va_E} {H : Heap} {locs : List Loc} (h : x_H G ad con H locs) : va_P G.1 vwCl (x_ws ad con 4096) H := by
  intro q x hq
  obtain ⟨k, h1, h2, h3⟩ := x_ws_of hq
  have := (h.1 k _ h2).2.2
  rw [h3] at this
  exact this
theorem x_nodup : ∀ (l : List Nat) (ad : Nat → Nat) (con : Nat → Option va_E), l.Nodup → (∀ i j ei ej, con i = some ei → con j = some ej → ad i = ad j → i = j) → ((l.filterMap (fun k => (con k).map (fun e => (ad k, e)))).map Prod.fst).Nodup
  | [], _, _, _, _ => by simp
  | k :: l, ad, con, hn, hi => by
    have ih := x_nodup l ad con (List.nodup_cons.mp hn).2 hi
    cases hk : con k with
    | none => simpa [List.filterMap_cons, hk] using ih
    | some e =>
      simp only [List.filterMap_cons, hk, Option.map_some, List.map_cons, List.nodup_cons]
      refine ⟨fun hm => ?_, ih⟩
      obtain ⟨x, h1, h2⟩ := List.mem_map.mp hm
      obtain ⟨j, h3, h4⟩ := List.mem_filterMap.mp h1
      obtain ⟨e', h5, h6⟩ := Option.map_eq_some_iff.mp h4
      subst h6
      have : j = k := hi j k e' e h5 hk h2
      subst this
      exact (List.nodup_cons.mp hn).1 h3
theorem x_H.D {G : x_G} {ad : Nat → Nat} {con : Nat → Option va_E} {H : Heap} {locs : List Loc} (h : x_H G ad con H locs) : va_D (x_A G) (x_ws ad con 4096) := by
  have hn := x_nodup (List.range 4096) ad con List.nodup_range h.2.1
  refine ⟨fun i j p q hi hj hpq => ?_, fun q x hq => ?_⟩
  · have h1 : ((x_ws ad con 4096).map Prod.fst)[i]? = some p.1 := by rw [List.getElem?_map, hi]; rfl
    have h2 : ((x_ws ad con 4096).map Prod.fst)[j]? = some p.1 := by rw [List.getElem?_map, hj, hpq]; rfl
    have l1 := (List.getElem?_eq_some_iff.mp h1).1
    exact (List.getElem?_inj l1 hn).mp (h1.trans h2.symm)
  · obtain ⟨k, h1, h2, h3⟩ := x_ws_of hq
    rw [← h3]
    exact (h.1 k _ h2).2.1
theorem x_H.P1 {G : x_G} {ad : Nat → Nat} {con : Nat → Option va_E} {H : Heap} {locs : List Loc} (h : x_H G ad con H locs) {k : Nat} {e : va_E} (hk : con k = some e) : va_P G.1 vwCl [(ad k, e)] H := by
  intro q x hq
  match q, hq with
  | 0, hq => cases hq; exact (h.1 k e hk).2.2
  | q + 1, hq => simp at hq
def x_up (con : Nat → Option va_E) (k : Nat) (e : va_E) : Nat → Option va_E := fun j => if j = k then some e else con j
theorem x_up_s {con : Nat → Option va_E} {k : Nat} {e : va_E} : x_up con k e k = some e := if_pos rfl
theorem x_up_n {con : Nat → Option va_E} {k j : Nat} {e : va_E} (h : j ≠ k) : x_up con k e j = con j := if_neg h
/-- back from a list whose place q0 (tag k's) was set -/
theorem x_H.back {G : x_G} {ad : Nat → Nat} {con : Nat → Option va_E} {H H1 : Heap} {locs locs1 : List Loc} (h : x_H G ad con H locs) {k q0 : Nat} {e e1 : va_E} (hk : con k = some e) (hq : (x_ws ad con 4096)[q0]? = some (ad k, e)) (hP : va_P G.1 vwCl ((x_ws ad con 4096).set q0 (ad k, e1)) H1) (hS : va_S (x_A G) G.2.1 H1 locs1) : x_H G ad (x_up con k e1) H1 locs1 := by
  have hl := (List.getElem?_eq_some_iff.mp hq).1
  refine ⟨fun j ej hj => ?_, fun i j ei ej hi hj => ?_, hS⟩
  · by_cases hjk : j = k
    · subst hjk
      rw [x_up_s] at hj
      cases hj
      exact ⟨(h.1 j e hk).1, (h.1 j e hk).2.1, hP q0 _ (List.getElem?_set_self hl)⟩
    · rw [x_up_n hjk] at hj
      obtain ⟨g1, g2, -⟩ := h.1 j ej hj
      refine ⟨g1, g2, ?_⟩
      obtain ⟨q, hq2⟩ := x_ws_at (ad := ad) g1 hj
      have hne : q0 ≠ q := by
        intro e0
        subst e0
        have := Option.some.inj (hq.symm.trans hq2)
        exact hjk (h.2.1 j k ej e hj hk (congrArg Prod.fst this).symm)
      exact hP q _ (by rw [List.getElem?_set_ne hne]; exact hq2)
  · have liv : ∀ a ea, x_up con k e1 a = some ea → ∃ eb, con a = some eb := by
      intro a ea ha
      by_cases hak : a = k
      · subst hak; exact ⟨e, hk⟩
      · rw [x_up_n hak] at ha; exact ⟨ea, ha⟩
    obtain ⟨e2, h2⟩ := liv i ei hi
    obtain ⟨e3, h3⟩ := liv j ej hj
    exact h.2.1 i j e2 e3 h2 h3
theorem x_H.locs {G : x_G} {ad : Nat → Nat} {con : Nat → Option va_E} {H : Heap} {locs locs1 : List Loc} (h : x_H G ad con H locs) (h1 : ∀ q ∈ locs1, x_A G q.base) : x_H G ad con H locs1 := ⟨h.1, h.2.1, h.2.2.1, h.2.2.2.1, h1⟩
theorem x_H.nil {G : x_G} {ad : Nat → Nat} {con : Nat → Option va_E} {H : Heap} {locs : List Loc} (h : x_H G ad con H locs) : x_H G ad con H [] := h.locs (fun _ h => by cases h)
/-- back from a list to which a cell was pushed, at a tag t that was not there -/
theorem x_H.push {G : x_G} {ad : Nat → Nat} {con : Nat → Option va_E} {H H1 : Heap} {locs locs1 : List Loc} (h : x_H G ad con H locs) {t q : Nat} {e : va_E} (ht : con t = none) (htM : t < 4096) (hP : va_P G.1 vwCl (x_ws ad con 4096 ++ [(q, e)]) H1) (hD : va_D (x_A G) (x_ws ad con 4096 ++ [(q, e)])) (hS : va_S (x_A G) G.2.1 H1 locs1) : x_H G (va_up ad t q) (x_up con t e) H1 locs1 := by
  have last : (x_ws ad con 4096 ++ [(q, e)])[(x_ws ad con 4096).length]? = some (q, e) := by rw [List.getElem?_append_right (Nat.le_refl _), Nat.sub_self]; rfl
  have old : ∀ j ej, j ≠ t → x_up con t e j = some ej → ∃ i : Nat, i < (x_ws ad con 4096).length ∧ (x_ws ad con 4096 ++ [(q, e)])[i]? = some (ad j, ej) ∧ con j = some ej := by
    intro j ej hj hc
    rw [x_up_n hj] at hc
    obtain ⟨i, hi⟩ := x_ws_at (ad := ad) (h.1 j ej hc).1 hc
    have hl := (List.getElem?_eq_some_iff.mp hi).1
    exact ⟨i, hl, by rw [List.getElem?_append_left hl]; exact hi, hc⟩
  refine ⟨fun j ej hj => ?_, fun i j ei ej hi hj hij => ?_, hS⟩
  · by_cases hjt : j = t
    · subst hjt
      rw [x_up_s] at hj
      cases hj
      rw [va_up_self]
      exact ⟨htM, hD.2 _ _ last, hP _ _ last⟩
    · obtain ⟨i, -, h2, h3⟩ := old j ej hjt hj
      rw [va_up_ne _ _ hjt]
      exact ⟨(h.1 j ej h3).1, (h.1 j ej h3).2.1, hP _ _ h2⟩
  · by_cases h1 : i = t <;> by_cases h2 : j = t
    · rw [h1, h2]
    · obtain ⟨a, l1, g1, -⟩ := old j ej h2 hj
      rw [h1, va_up_self, va_up_ne _ _ h2] at hij
      have := hD.1 _ _ _ _ last g1 hij
      omega
    · obtain ⟨a, l1, g1, -⟩ := old i ei h1 hi
      rw [h2, va_up_self, va_up_ne _ _ h1] at hij
      have := hD.1 _ _ _ _ g1 last hij
      omega
    · rw [va_up_ne _ _ h1, va_up_ne _ _ h2] at hij
      obtain ⟨_, _, _, c1⟩ := old i ei h1 hi
      obtain ⟨_, _, _, c2⟩ := old j ej h2 hj
      exact h.2.1 i j ei ej c1 c2 hij

-- ===== what a method's start and end are =====
def x_tys (G : x_G) : List (ClassId × FieldType) := [(G.2.2 0, .int), (G.2.2 1, .long), (G.2.2 2, .byte), (G.2.2 3, .short), (G.2.2 4, .object "VersionDesk$Table"), (G.2.2 5, .object "VersionDesk$Page")]
def x_K (G : x_G) (U : State) : Prop := va_K G.1 vwCl (x_tys G) U ∧ (∀ w ∈ x_nws, va_Nw (.methodLinkNest w.1 w.2.1 w.2.2.1 w.2.2.2) U) ∧ va_AO "VersionDesk$Table" U ∧ va_AO "VersionDesk$Page" U
theorem x_K.warm {G : x_G} {s U : State} (h : x_K G s) (hW : s.WarmedH U.vm) : x_K G U := ⟨va_K.moved hW.alike h.1, fun w hw => va_Nw.warmM hW (h.2.1 w hw), va_AO.moved hW.alike h.2.2.1, va_AO.moved hW.alike h.2.2.2⟩
def x_Pc (G : x_G) (ad : Nat → Nat) (con : Nat → Option va_E) (av : List Value) : Array Value → State → Prop := va_Pc av (fun U => x_K G U ∧ x_H G ad con U.heap [])
theorem x_Pc.blind {G : x_G} {ad : Nat → Nat} {con : Nat → Option va_E} {av : List Value} : FrameBlind (x_Pc G ad con av) := by
  intro a U g mk h
  obtain ⟨h0, ⟨h1, h2, h4, h5⟩, h3⟩ := h
  exact ⟨h0, ⟨va_K.moved (u := U) (U := U.calling g mk a) (Vm.Alike.refl U.vm) h1, fun w hw => va_Nw.same rfl (u := U) (U := U.calling g mk a) rfl (h2 w hw), va_AO.moved (u := U) (U := U.calling g mk a) (Vm.Alike.refl U.vm) h4, va_AO.moved (u := U) (U := U.calling g mk a) (Vm.Alike.refl U.vm) h5⟩, h3⟩
theorem x_Pc.pre {G : x_G} {ad : Nat → Nat} {con : Nat → Option va_E} {av : List Value} {s : State} {H : Heap} {locs : List Loc} (hK : x_K G s) (hS : x_H G ad con H locs) : ∀ U : State, U.heap = H → s.WarmedH U.vm → x_Pc G ad con av av.toArray U := fun U hU hW => ⟨rfl, hK.warm hW, by rw [hU]; exact hS.nil⟩
/-- a reader's end: its answer, the heap as it was -/
def x_Qr (v : Option Value) : Array Value → State → Outcome → State → Prop := fun _ st o t => o = .returned v ∧ t.heap = st.heap
/-- a writer's end: its answer, and what the heap holds now -/
def x_Qw (G : x_G) (ad : Nat → Nat) (con : Nat → Option va_E) (v : Option Value) : Array Value → State → Outcome → State → Prop := fun _ _ o t => o = .returned v ∧ x_H G ad con t.heap []
/-- the end of a method that makes cells: some layout, some contents, some answer, with P of them -/
def x_Qe (G : x_G) (P : (Nat → Nat) → (Nat → Option va_E) → Option Value → Prop) : Array Value → State → Outcome → State → Prop := fun _ _ o t => ∃ ad con v, o = .returned v ∧ P ad con v ∧ x_H G ad con t.heap []
/-- what stands over a method's body -/
def x_B (p : Program) (s : State) (m : MethodId) (meth : Method) (c : Code) (args : Array Value) (cc : ByteArray) (nL : Nat) (ret : Option FieldType) (own : String) (Ts : List Cond) : Prop :=
  p.tables.exec = Jvm.exec ∧ c.code = cc ∧ meth.sig.returnType = ret ∧ c.maxLocals = nL ∧ s.vm.findClass own = some m.cls ∧ (∀ w ∈ Ts, w.before args s = true) ∧ meth.locks = false
theorem x_met {l : Launch} {G : x_G} {ad : Nat → Nat} {con : Nat → Option va_E} {y : MethodName} {ws ws' : List Cond} {rm : Room} {Qc : Array Value → State → Outcome → State → Prop} {mc ms : Nat} {free : Addr → Prop} {cc : ByteArray} {maxL : Nat} {ret : Option FieldType} (hy : plainName y.cls = true) (hw : ws = Cond.code y cc maxL ret :: ws') (av : List Value) (hn : (lg_sl av).length ≤ maxL)
    (body : ∀ (p : Program) (e : Env) (s : State) (m : MethodId) (args : Array Value) (below : List Frame) (meth : Method) (c : Code), x_B p s m meth c args cc maxL ret y.cls ws → (y.name = "<init>" → meth.name = "<init>") → x_K G s → x_H G ad con s.heap [] → ∀ ls : Array Slot, lv_has ls maxL (lv_args 0 av) → W p l e rm s m args below meth c s.heap [] 0 0 (MQ below Qc args s mc ms free) (F0 m 0 ls [])) : Met l y ws rm (x_Pc G ad con av) Qc mc ms free := by
  refine Met.ofW (cc := cc) (maxL := maxL) (ret := ret) hy hw ?_
  intro p e s m args below meth c s₁ B hml hv
  obtain ⟨rfl, hK, hS⟩ := hv
  have hl := lv_entry av (n := maxL) hn
  rw [lg_entry_eq]
  exact body p e s m _ below meth c ⟨B.exec, B.bytes, B.returns, hml, findClass_of_methodNamed B.named, atoms_spec (ws := ws) B.pre, B.notSynchronized⟩ (fun h => (name_of_methodNamed B.named B.method).1.trans h) hK hS _ hl
