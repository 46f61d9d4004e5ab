section XC
variable {p : Program} {l : Launch} {e : Env} {R : Room} {s : State} {m : MethodId} {args : Array Value} {below : List Frame} {meth : Method} {c : Code} {H : Heap} {locs : List Loc} {cells slots : Nat} {Q : State → Prop}
variable {cc : ByteArray} {pc nL : Nat} {ret0 : Option FieldType} {own : String} {Ts : List Cond} {ls : Array Slot} {rest st0 As : List Value} {G : x_G} {ad : Nat → Nat} {con : Nat → Option va_E}
variable {y : MethodName} {bytes : ByteArray} {maxL mc ms index n : Nat} {ret : Option FieldType} {ws ws' : List Cond} {rm : Room} {Qc : Array Value → State → Outcome → State → Prop} {free : Addr → Prop}
-- ----- a call runs -----
theorem x_rV (C0 : x_B p s m meth c args cc nL ret0 own Ts) (hls : ls.size = nL) (hK : x_K G s) (hS : x_H G ad con H locs) {k ci : Nat} {fs : List Value} {q : vw_C} (hM : Met l y ws rm (x_Pc G ad con (.ref (ad k) :: As)) Qc mc ms free) (hk : con k = some (.inr (ci, fs))) (hc : vwCl[ci]? = some q) (hG : GoodIn Ts (wsV own index q.1 y ws)) (n : Nat) (hw : ws = Cond.code y bytes maxL ret :: ws') (hrc : rm.cells = mc) (hrs : rm.slots = ms) (hd : y.cls = q.1 ∧ y.cls ≠ "java/lang/invoke/MethodHandle" ∧ y.cls ≠ "java/lang/invoke/VarHandle" ∧ (parseMethodDescriptor y.desc).map (fun d => d.parameters.length) = some n) (hR : rm.frames + 1 ≤ R.frames ∧ 8 + (maxL + 11) + rm.locals ≤ R.locals) (hn : As.length = n) (hst : st0 = As.reverse ++ .ref (ad k) :: rest) (hW : (rest.map fun v => v.category).sum ≤ 8) (hdg : decode cc pc = .ok (.invokevirtual index, 3)) (hf : cells + mc ≤ R.cells ∧ slots + ms ≤ R.slots) :
    va_Run p l e R s m args below meth c H locs cells slots mc ms (F0 m pc ls st0) rest (Qc (Value.ref (ad k) :: As).toArray) free := by
  obtain ⟨hx, hb, -, hml, hown, hts, -⟩ := C0
  exact va_runV (As := As) (rest := rest) ⟨hx, hb, hml, hown, hts⟩ hM (cwV n hts hG hw hrc hrs hd hR) ⟨x_Pc.blind, va_recv (q0 := 0) hK.1 (hS.P1 hk) hc rfl, x_Pc.pre hK hS⟩ rfl hn hls hst (lv_room hW) hdg hf
theorem x_rS (C0 : x_B p s m meth c args cc nL ret0 own Ts) (hls : ls.size = nL) (hK : x_K G s) (hS : x_H G ad con H locs) (hM : Met l y ws rm (x_Pc G ad con As) Qc mc ms free) (hG : GoodIn Ts (va_wsS own index y ws)) (n : Nat) (hw : ws = Cond.code y bytes maxL ret :: ws') (hrc : rm.cells = mc) (hrs : rm.slots = ms) (hd : y.cls ≠ "java/lang/invoke/MethodHandle" ∧ y.cls ≠ "java/lang/invoke/VarHandle" ∧ (parseMethodDescriptor y.desc).map (fun d => d.parameters.length) = some n) (hR : rm.frames + 1 ≤ R.frames ∧ 8 + (maxL + 11) + rm.locals ≤ R.locals) (hn : As.length = n) (hst : st0 = As.reverse ++ rest) (hW : (rest.map fun v => v.category).sum ≤ 8) (hdg : decode cc pc = .ok (.invokestatic index, 3)) (hf : cells + mc ≤ R.cells ∧ slots + ms ≤ R.slots) :
    va_Run p l e R s m args below meth c H locs cells slots mc ms (F0 m pc ls st0) rest (Qc As.toArray) free := by
  obtain ⟨hx, hb, -, hml, hown, hts, -⟩ := C0
  exact va_runS (As := As) (rest := rest) ⟨hx, hb, hml, hown, hts⟩ hM (va_cwS n hts hG hw hrc hrs hd hR) ⟨x_Pc.blind, x_Pc.pre hK hS⟩ rfl hn hls hst (lv_room hW) hdg hf
theorem x_rSN (C0 : x_B p s m meth c args cc nL ret0 own Ts) (hls : ls.size = nL) (hK : x_K G s) (hS : x_H G ad con H locs) (hM : Met l y ws rm (x_Pc G ad con As) Qc mc ms free) (hG : GoodIn Ts ws) (n : Nat) (hw : ws = Cond.code y bytes maxL ret :: ws') (hrc : rm.cells = mc) (hrs : rm.slots = ms) {host : String} (hl : (own, index, y, host) ∈ x_nws) (hini : Cond.initialized y.cls ∈ Ts) (hstt : Cond.static y ∈ Ts) (hd : y.cls ≠ "java/lang/invoke/MethodHandle" ∧ y.cls ≠ "java/lang/invoke/VarHandle" ∧ (parseMethodDescriptor y.desc).map (fun d => d.parameters.length) = some n) (hR : rm.frames + 1 ≤ R.frames ∧ 8 + (maxL + 11) + rm.locals ≤ R.locals) (hn : As.length = n) (hst : st0 = As.reverse ++ rest) (hW : (rest.map fun v => v.category).sum ≤ 8) (hdg : decode cc pc = .ok (.invokestatic index, 3)) (hf : cells + mc ≤ R.cells ∧ slots + ms ≤ R.slots) :
    va_Run p l e R s m args below meth c H locs cells slots mc ms (F0 m pc ls st0) rest (Qc As.toArray) free := by
  obtain ⟨hx, hb, -, hml, hown, hts, -⟩ := C0
  exact va_runSN (As := As) (rest := rest) ⟨hx, hb, hml, hown, hts⟩ hM ⟨va_cnB n hts hG hw hrc hrs (hK.2.1 _ hl) (hts _ hini) hd hR, hts _ hstt, trivial⟩ ⟨x_Pc.blind, x_Pc.pre hK hS⟩ rfl hn hls hst (lv_room hW) hdg hf
theorem x_rI (C0 : x_B p s m meth c args cc nL ret0 own Ts) (hls : ls.size = nL) (hK : x_K G s) (hS : x_H G ad con H locs) {b : Nat} (hM : Met l y ws rm (x_Pc G ad con (.ref b :: As)) Qc mc ms free) (hG : GoodIn Ts ws) (n : Nat) (hw : ws = Cond.code y bytes maxL none :: ws') (hrc : rm.cells = mc) (hrs : rm.slots = ms) (hini : Cond.initialized y.cls ∈ Ts) (hl : Cond.methodLink own index y ∈ Ts) (hin : Cond.instanceMethod y ∈ Ts) (hy1 : y.name = "<init>") (hd : y.cls ≠ "java/lang/invoke/MethodHandle" ∧ y.cls ≠ "java/lang/invoke/VarHandle" ∧ (parseMethodDescriptor y.desc).map (fun d => d.parameters.length) = some n) (hR : rm.frames + 1 ≤ R.frames ∧ 8 + (maxL + 11) + rm.locals ≤ R.locals) (hn : As.length = n) (hst : st0 = As.reverse ++ .ref b :: rest) (hW : (rest.map fun v => v.category).sum ≤ 8) (hdg : decode cc pc = .ok (.invokespecial index, 3)) (hf : cells + mc ≤ R.cells ∧ slots + ms ≤ R.slots) :
    va_Run p l e R s m args below meth c H locs cells slots mc ms (F0 m pc ls st0) rest (Qc (Value.ref b :: As).toArray) free := by
  obtain ⟨hx, hb, -, hml, hown, hts, -⟩ := C0
  exact va_runI (As := As) (rest := rest) ⟨hx, hb, hml, hown, hts⟩ hM (cwI n hts hG hw hrc hrs (hts _ hini) (hts _ hl) (hts _ hin) hy1 hd hR) ⟨x_Pc.blind, x_Pc.pre hK hS⟩ rfl hn hls hst (lv_room hW) hdg hf
theorem x_rIN (C0 : x_B p s m meth c args cc nL ret0 own Ts) (hls : ls.size = nL) (hK : x_K G s) (hS : x_H G ad con H locs) {b : Nat} (hM : Met l y ws rm (x_Pc G ad con (.ref b :: As)) Qc mc ms free) (hG : GoodIn Ts ws) (n : Nat) (hw : ws = Cond.code y bytes maxL none :: ws') (hrc : rm.cells = mc) (hrs : rm.slots = ms) {host : String} (hl : (own, index, y, host) ∈ x_nws) (hini : Cond.initialized y.cls ∈ Ts) (hin : Cond.instanceMethod y ∈ Ts) (hy1 : y.name = "<init>") (hd : y.cls ≠ "java/lang/invoke/MethodHandle" ∧ y.cls ≠ "java/lang/invoke/VarHandle" ∧ (parseMethodDescriptor y.desc).map (fun d => d.parameters.length) = some n) (hR : rm.frames + 1 ≤ R.frames ∧ 8 + (maxL + 11) + rm.locals ≤ R.locals) (hn : As.length = n) (hst : st0 = As.reverse ++ .ref b :: rest) (hW : (rest.map fun v => v.category).sum ≤ 8) (hdg : decode cc pc = .ok (.invokespecial index, 3)) (hf : cells + mc ≤ R.cells ∧ slots + ms ≤ R.slots) :
    va_Run p l e R s m args below meth c H locs cells slots mc ms (F0 m pc ls st0) rest (Qc (Value.ref b :: As).toArray) free := by
  obtain ⟨hx, hb, -, hml, hown, hts, -⟩ := C0
  exact va_runIN (As := As) (rest := rest) ⟨hx, hb, hml, hown, hts⟩ hM ⟨va_cnB n hts hG hw hrc hrs (hK.2.1 _ hl) (hts _ hini) hd hR, hy1, hts _ hin⟩ ⟨x_Pc.blind, x_Pc.pre hK hS⟩ rfl hn hls hst (lv_room hW) hdg hf
-- ----- what comes behind a call -----
theorem x_callr {v : Option Value} {a : Array Value} (hr : va_Run p l e R s m args below meth c H locs cells slots 0 0 (F0 m pc ls st0) rest (x_Qr v a) (fun _ => False))
    (kk : W p l e R s m args below meth c H locs cells slots Q (F0 m (pc + 3) ls (v.toList ++ rest))) : W p l e R s m args below meth c H locs cells slots Q (F0 m pc ls st0) := by
  intro T hT X
  obtain ⟨v', st₀, t, T', L, h0, X', hL, e1, -, ⟨hv, hh⟩, st⟩ := hr T hT X
  cases hv
  obtain ⟨t2, a1, b1⟩ := kk T' (by rw [e1, hh, h0]) (Stand.forget X' (fun q h => (hL q h).elim))
  exact ⟨t2, st t2 a1, b1⟩
theorem x_callw {v : Option Value} {a : Array Value} {con1 : Nat → Option va_E} (hS : x_H G ad con H locs) (hr : va_Run p l e R s m args below meth c H locs cells slots mc ms (F0 m pc ls st0) rest (x_Qw G ad con1 v a) (x_A G))
    (kk : ∀ (H1 : Heap) (locs1 : List Loc), x_H G ad con1 H1 locs1 → W p l e R s m args below meth c H1 locs1 (cells + mc) (slots + ms) Q (F0 m (pc + 3) ls (v.toList ++ rest))) : W p l e R s m args below meth c H locs cells slots Q (F0 m pc ls st0) := by
  intro T hT X
  obtain ⟨v', st₀, t, T', L, h0, X', hL, e1, -, ⟨hv, hh⟩, st⟩ := hr T hT X
  cases hv
  rw [← e1] at hh
  obtain ⟨t2, a1, b1⟩ := kk T'.heap (locs ++ L) (hh.locs (fun q hq => (List.mem_append.mp hq).elim (hS.2.2.2.2 q) (hL q))) T' rfl X'
  exact ⟨t2, st t2 a1, b1⟩
theorem x_calle {a : Array Value} {P : (Nat → Nat) → (Nat → Option va_E) → Option Value → Prop} (hS : x_H G ad con H locs) (hr : va_Run p l e R s m args below meth c H locs cells slots mc ms (F0 m pc ls st0) rest (x_Qe G P a) (x_A G))
    (kk : ∀ (ad1 : Nat → Nat) (con1 : Nat → Option va_E) (v : Option Value) (H1 : Heap) (locs1 : List Loc), P ad1 con1 v → x_H G ad1 con1 H1 locs1 → W p l e R s m args below meth c H1 locs1 (cells + mc) (slots + ms) Q (F0 m (pc + 3) ls (v.toList ++ rest))) : W p l e R s m args below meth c H locs cells slots Q (F0 m pc ls st0) := by
  intro T hT X
  obtain ⟨v', st₀, t, T', L, h0, X', hL, e1, -, ⟨ad1, con1, v, hv, hP, hh⟩, st⟩ := hr T hT X
  cases hv
  rw [← e1] at hh
  obtain ⟨t2, a1, b1⟩ := kk ad1 con1 v' T'.heap (locs ++ L) hP (hh.locs (fun q hq => (List.mem_append.mp hq).elim (hS.2.2.2.2 q) (hL q))) T' rfl X'
  exact ⟨t2, st t2 a1, b1⟩
-- ----- ends -----
theorem x_reti (C0 : x_B p s m meth c args cc nL (some .int) own Ts) {v r : Int32} (he : v = r) (hdg : decode cc pc = .ok (.ireturn, 1)) : W p l e R s m args below meth c s.heap [] cells slots (MQ below (x_Qr (some (.int r))) args s cells slots (fun _ => False)) (F0 m pc ls [.int v]) := by
  obtain ⟨hx, hb, hr, -, -, -, hlocks⟩ := C0
  subst he
  exact W.iret hx hb hr (fun t ht _ => ⟨rfl, ht⟩) (fun _ h => by cases h) hdg
theorem x_retz (C0 : x_B p s m meth c args cc nL (some .boolean) own Ts) {v r : Int32} (he : v = r) (hn : narrow .boolean (.int v) = .int v) (hdg : decode cc pc = .ok (.ireturn, 1)) : W p l e R s m args below meth c s.heap [] cells slots (MQ below (x_Qr (some (.int r))) args s cells slots (fun _ => False)) (F0 m pc ls [.int v]) := by
  obtain ⟨hx, hb, hr, -, -, -, hlocks⟩ := C0
  subst he
  exact W.zret hx hb hr hn (fun t ht _ => ⟨rfl, ht⟩) (fun _ h => by cases h) hdg
theorem x_retl (C0 : x_B p s m meth c args cc nL (some .long) own Ts) {v r : Int64} (he : v = r) (hdg : decode cc pc = .ok (.lreturn, 1)) : W p l e R s m args below meth c s.heap [] cells slots (MQ below (x_Qr (some (.long r))) args s cells slots (fun _ => False)) (F0 m pc ls [.long v]) := by
  obtain ⟨hx, hb, hr, -, -, -, hlocks⟩ := C0
  subst he
  exact W.lret hx hb hr (fun t ht _ => ⟨rfl, ht⟩) (fun _ h => by cases h) hdg
theorem x_reta (C0 : x_B p s m meth c args cc nL ret0 own Ts) {v r : Value} {o : String} (ho : ret0 = some (.object o)) (he : v = r) (hv : v = .null ∨ ∃ a, v = .ref a) (hdg : decode cc pc = .ok (.areturn, 1)) : W p l e R s m args below meth c s.heap [] cells slots (MQ below (x_Qr (some r)) args s cells slots (fun _ => False)) (F0 m pc ls [v]) := by
  obtain ⟨hx, hb, hr, -, -, -, hlocks⟩ := C0
  subst he
  exact W.aret hx hb (hr.trans ho) (Or.inl ⟨_, rfl⟩) hv (fun t ht _ => ⟨rfl, ht⟩) (fun _ h => by cases h) hdg
theorem x_wretv (C0 : x_B p s m meth c args cc nL none own Ts) {con1 : Nat → Option va_E} (hS : x_H G ad con H locs) (hc : con = con1) (hdg : decode cc pc = .ok (.return_, 1)) : W p l e R s m args below meth c H locs cells slots (MQ below (x_Qw G ad con1 none) args s cells slots (x_A G)) (F0 m pc ls []) := by
  obtain ⟨hx, hb, hr, -, -, -, hlocks⟩ := C0
  subst hc
  exact W.vret hx hb hr (fun t ht _ => ⟨rfl, by rw [ht]; exact hS.nil⟩) hS.2.2.2.2 hdg
theorem x_wreti (C0 : x_B p s m meth c args cc nL (some .int) own Ts) {con1 : Nat → Option va_E} {v r : Int32} (hS : x_H G ad con H locs) (hc : con = con1) (he : v = r) (hdg : decode cc pc = .ok (.ireturn, 1)) : W p l e R s m args below meth c H locs cells slots (MQ below (x_Qw G ad con1 (some (.int r))) args s cells slots (x_A G)) (F0 m pc ls [.int v]) := by
  obtain ⟨hx, hb, hr, -, -, -, hlocks⟩ := C0
  subst hc; subst he
  exact W.iret hx hb hr (fun t ht _ => ⟨rfl, by rw [ht]; exact hS.nil⟩) hS.2.2.2.2 hdg
theorem x_wretz (C0 : x_B p s m meth c args cc nL (some .boolean) own Ts) {con1 : Nat → Option va_E} {v r : Int32} (hS : x_H G ad con H locs) (hc : con = con1) (he : v = r) (hn : narrow .boolean (.int v) = .int v) (hdg : decode cc pc = .ok (.ireturn, 1)) : W p l e R s m args below meth c H locs cells slots (MQ below (x_Qw G ad con1 (some (.int r))) args s cells slots (x_A G)) (F0 m pc ls [.int v]) := by
  obtain ⟨hx, hb, hr, -, -, -, hlocks⟩ := C0
  subst hc; subst he
  exact W.zret hx hb hr hn (fun t ht _ => ⟨rfl, by rw [ht]; exact hS.nil⟩) hS.2.2.2.2 hdg
theorem x_eretv (C0 : x_B p s m meth c args cc nL none own Ts) {P : (Nat → Nat) → (Nat → Option va_E) → Option Value → Prop} (hS : x_H G ad con H locs) (hP : P ad con none) (hdg : decode cc pc = .ok (.return_, 1)) : W p l e R s m args below meth c H locs cells slots (MQ below (x_Qe G P) args s cells slots (x_A G)) (F0 m pc ls []) := by
  obtain ⟨hx, hb, hr, -, -, -, hlocks⟩ := C0
  exact W.vret hx hb hr (fun t ht _ => ⟨ad, con, none, rfl, hP, by rw [ht]; exact hS.nil⟩) hS.2.2.2.2 hdg
theorem x_ereti (C0 : x_B p s m meth c args cc nL (some .int) own Ts) {v : Int32} {P : (Nat → Nat) → (Nat → Option va_E) → Option Value → Prop} (hS : x_H G ad con H locs) (hP : P ad con (some (.int v))) (hdg : decode cc pc = .ok (.ireturn, 1)) : W p l e R s m args below meth c H locs cells slots (MQ below (x_Qe G P) args s cells slots (x_A G)) (F0 m pc ls [.int v]) := by
  obtain ⟨hx, hb, hr, -, -, -, hlocks⟩ := C0
  exact W.iret hx hb hr (fun t ht _ => ⟨ad, con, some (.int v), rfl, hP, by rw [ht]; exact hS.nil⟩) hS.2.2.2.2 hdg
theorem x_eretz (C0 : x_B p s m meth c args cc nL (some .boolean) own Ts) {v : Int32} {P : (Nat → Nat) → (Nat → Option va_E) → Option Value → Prop} (hS : x_H G ad con H locs) (hP : P ad con (some (.int v))) (hn : narrow .boolean (.int v) = .int v) (hdg : decode cc pc = .ok (.ireturn, 1)) : W p l e R s m args below meth c H locs cells slots (MQ below (x_Qe G P) args s cells slots (x_A G)) (F0 m pc ls [.int v]) := by
  obtain ⟨hx, hb, hr, -, -, -, hlocks⟩ := C0
  exact W.zret hx hb hr hn (fun t ht _ => ⟨ad, con, some (.int v), rfl, hP, by rw [ht]; exact hS.nil⟩) hS.2.2.2.2 hdg
end XC
