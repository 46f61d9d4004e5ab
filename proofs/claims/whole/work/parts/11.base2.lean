section XR
variable {p : Program} {l : Launch} {e : Env} {R : Room} {s : State} {m : MethodId} {args : Array Value} {below : List Frame} {meth : Method} {c : Code} {H : Heap} {locs : List Loc} {cells slots : Nat} {Q : State → Prop}
variable {cc : ByteArray} {pc nL : Nat} {ret0 : Option FieldType} {own : String} {Ts : List Cond} {ls : Array Slot} {rest : List Value} {G : x_G} {ad : Nat → Nat} {con : Nat → Option va_E}
-- ----- fields -----
theorem x_get (C0 : x_B p s m meth c args cc nL ret0 own Ts) (hK : x_K G s) (hS : x_H G ad con H locs) {k ci N index j : Nat} {fs : List Value} {v : Value} {C : String} {T : u_T} (hk : con k = some (.inr (ci, fs))) (hc : vwCl[ci]? = some (C, T, N)) (hin : ∀ w ∈ u_ws C T N, w ∈ Ts) (hj : j < N) (hlink : Cond.fieldLink own index (T j).1 (T j).2.1 (T j).2.2.1 ∈ Ts) (hv : fs[j]? = some v) (hdg : decode cc pc = .ok (.getfield index, 3))
    (kk : W p l e R s m args below meth c H locs cells slots Q (F0 m (pc + 3) ls (v :: rest))) : W p l e R s m args below meth c H locs cells slots Q (F0 m pc ls (.ref (ad k) :: rest)) := by
  obtain ⟨hx, hb, -, -, hown, hts, -⟩ := C0
  exact va_get (D := G.1) (cl := vwCl) (tys := x_tys G) (C := C) (T := T) (N := N) hx hb hts hin hown hK.1 (hS.P1 hk) 0 rfl hc j hj (hts _ hlink) (fun _ h => h) hv hdg kk
theorem x_put (C0 : x_B p s m meth c args cc nL ret0 own Ts) (hK : x_K G s) (hS : x_H G ad con H locs) {k ci N index j : Nat} {fs : List Value} {v : Value} {C : String} {T : u_T} (ty0 : Nat → FieldType) (hty : ∀ k, k < N → parseFieldDescriptor (T k).2.2.1 = some (ty0 k)) (hnm : ∀ a, a < N → ∀ b, b < N → a ≠ b → (T a).2.1 ≠ (T b).2.1) (hk : con k = some (.inr (ci, fs))) (hc : vwCl[ci]? = some (C, T, N)) (hin : ∀ w ∈ u_ws C T N, w ∈ Ts) (hj : j < N) (hlink : Cond.fieldLink own index (T j).1 (T j).2.1 (T j).2.2.1 ∈ Ts) (hfin : (T j).2.2.2 = false) {ty : FieldType} (hd : parseFieldDescriptor (T j).2.2.1 = some ty) (hn : narrow ty v = v) (hfit : fits ty v = true) (hl : j < fs.length) (hdg : decode cc pc = .ok (.putfield index, 3))
    (kk : ∀ (H1 : Heap) (locs1 : List Loc), x_H G ad (x_up con k (.inr (ci, fs.set j v))) H1 locs1 → W p l e R s m args below meth c H1 locs1 cells slots Q (F0 m (pc + 3) ls rest)) : W p l e R s m args below meth c H locs cells slots Q (F0 m pc ls (v :: .ref (ad k) :: rest)) := by
  obtain ⟨hx, hb, -, -, hown, hts, -⟩ := C0
  obtain ⟨q0, hq⟩ := x_ws_at (ad := ad) (hS.1 k _ hk).1 hk
  exact va_put (D := G.1) (cl := vwCl) (tys := x_tys G) (C := C) (T := T) (N := N) hx hb hts hin ty0 hty hnm hown hK.1 hS.P hS.D hS.2.2 q0 hq hc j hj (hts _ hlink) (fun _ h => h) hfin hd hn hfit hl hdg (fun H1 locs1 hP1 _ hS1 => kk H1 locs1 (hS.back hk hq hP1 hS1))
theorem x_putF (C0 : x_B p s m meth c args cc nL ret0 own Ts) (hK : x_K G s) (hS : x_H G ad con H locs) {k ci N index j : Nat} {fs : List Value} {v : Value} {C : String} {T : u_T} (ty0 : Nat → FieldType) (hty : ∀ k, k < N → parseFieldDescriptor (T k).2.2.1 = some (ty0 k)) (hnm : ∀ a, a < N → ∀ b, b < N → a ≠ b → (T a).2.1 ≠ (T b).2.1) (hk : con k = some (.inr (ci, fs))) (hc : vwCl[ci]? = some (C, T, N)) (hin : ∀ w ∈ u_ws C T N, w ∈ Ts) (hj : j < N) (hlink : Cond.fieldLink own index (T j).1 (T j).2.1 (T j).2.2.1 ∈ Ts) (hfin : (T j).2.2.2 = true) (hin2 : meth.name = "<init>") (hdecl : (T j).1 = own) {ty : FieldType} (hd : parseFieldDescriptor (T j).2.2.1 = some ty) (hn : narrow ty v = v) (hfit : fits ty v = true) (hl : j < fs.length) (hdg : decode cc pc = .ok (.putfield index, 3))
    (kk : ∀ (H1 : Heap) (locs1 : List Loc), x_H G ad (x_up con k (.inr (ci, fs.set j v))) H1 locs1 → W p l e R s m args below meth c H1 locs1 cells slots Q (F0 m (pc + 3) ls rest)) : W p l e R s m args below meth c H locs cells slots Q (F0 m pc ls (v :: .ref (ad k) :: rest)) := by
  obtain ⟨hx, hb, -, -, hown, hts, -⟩ := C0
  obtain ⟨q0, hq⟩ := x_ws_at (ad := ad) (hS.1 k _ hk).1 hk
  exact va_putF (D := G.1) (cl := vwCl) (tys := x_tys G) (C := C) (T := T) (N := N) hx hb hts hin ty0 hty hnm hown hK.1 hS.P hS.D hS.2.2 q0 hq hc j hj (hts _ hlink) (fun _ h => h) hfin hin2 hdecl hd hn hfit hl hdg (fun H1 locs1 hP1 _ hS1 => kk H1 locs1 (hS.back hk hq hP1 hS1))
-- ----- arrays: reads -----
theorem x_iald (C0 : x_B p s m meth c args cc nL ret0 own Ts) (hK : x_K G s) (hS : x_H G ad con H locs) {k n : Nat} {f : Nat → Int32} (hk : con k = some (.inl (G.2.2 0, n, .inl f))) {i : Int32} {v : Int32} (hin : vp_in i n) (hv : f i.toNatClampNeg = v) (hdg : decode cc pc = .ok (.iaload, 1))
    (kk : W p l e R s m args below meth c H locs cells slots Q (F0 m (pc + 1) ls (.int v :: rest))) : W p l e R s m args below meth c H locs cells slots Q (F0 m pc ls (.int i :: .ref (ad k) :: rest)) := by
  subst hv
  exact va_iald C0.1 C0.2.1 hK.1 (hS.P1 hk) 0 0 rfl rfl hin hdg kk
theorem x_bald (C0 : x_B p s m meth c args cc nL ret0 own Ts) (hK : x_K G s) (hS : x_H G ad con H locs) {k n : Nat} {f : Nat → Int32} (hk : con k = some (.inl (G.2.2 2, n, .inl f))) {i : Int32} {v : Int32} (hin : vp_in i n) (hv : f i.toNatClampNeg = v) (hdg : decode cc pc = .ok (.baload, 1))
    (kk : W p l e R s m args below meth c H locs cells slots Q (F0 m (pc + 1) ls (.int v :: rest))) : W p l e R s m args below meth c H locs cells slots Q (F0 m pc ls (.int i :: .ref (ad k) :: rest)) := by
  subst hv
  exact va_bald C0.1 C0.2.1 hK.1 (hS.P1 hk) 0 2 rfl rfl hin hdg kk
theorem x_sald (C0 : x_B p s m meth c args cc nL ret0 own Ts) (hK : x_K G s) (hS : x_H G ad con H locs) {k n : Nat} {f : Nat → Int32} (hk : con k = some (.inl (G.2.2 3, n, .inl f))) {i : Int32} {v : Int32} (hin : vp_in i n) (hv : f i.toNatClampNeg = v) (hdg : decode cc pc = .ok (.saload, 1))
    (kk : W p l e R s m args below meth c H locs cells slots Q (F0 m (pc + 1) ls (.int v :: rest))) : W p l e R s m args below meth c H locs cells slots Q (F0 m pc ls (.int i :: .ref (ad k) :: rest)) := by
  subst hv
  exact va_sald C0.1 C0.2.1 hK.1 (hS.P1 hk) 0 3 rfl rfl hin hdg kk
theorem x_lald (C0 : x_B p s m meth c args cc nL ret0 own Ts) (hK : x_K G s) (hS : x_H G ad con H locs) {k n : Nat} {f : Nat → Int64} (hk : con k = some (.inl (G.2.2 1, n, .inr (.inl f)))) {i : Int32} {v : Int64} (hin : vp_in i n) (hv : f i.toNatClampNeg = v) (hdg : decode cc pc = .ok (.laload, 1))
    (kk : W p l e R s m args below meth c H locs cells slots Q (F0 m (pc + 1) ls (.long v :: rest))) : W p l e R s m args below meth c H locs cells slots Q (F0 m pc ls (.int i :: .ref (ad k) :: rest)) := by
  subst hv
  exact va_lald C0.1 C0.2.1 hK.1 (hS.P1 hk) 0 1 rfl rfl hin hdg kk
theorem x_aldT (C0 : x_B p s m meth c args cc nL ret0 own Ts) (hK : x_K G s) (hS : x_H G ad con H locs) {k n : Nat} {f : Nat → Option Nat} (hk : con k = some (.inl (G.2.2 4, n, .inr (.inr (.inr (.inr f)))))) {i : Int32} {v : Value} (hin : vp_in i n) (hv : va_rf (f i.toNatClampNeg) = v) (hdg : decode cc pc = .ok (.aaload, 1))
    (kk : W p l e R s m args below meth c H locs cells slots Q (F0 m (pc + 1) ls (v :: rest))) : W p l e R s m args below meth c H locs cells slots Q (F0 m pc ls (.int i :: .ref (ad k) :: rest)) := by
  subst hv
  exact va_aldq C0.1 C0.2.1 hK.1 (hS.P1 hk) 0 4 rfl rfl hin hdg kk
theorem x_aldP (C0 : x_B p s m meth c args cc nL ret0 own Ts) (hK : x_K G s) (hS : x_H G ad con H locs) {k n : Nat} {f : Nat → Option Nat} (hk : con k = some (.inl (G.2.2 5, n, .inr (.inr (.inr (.inr f)))))) {i : Int32} {v : Value} (hin : vp_in i n) (hv : va_rf (f i.toNatClampNeg) = v) (hdg : decode cc pc = .ok (.aaload, 1))
    (kk : W p l e R s m args below meth c H locs cells slots Q (F0 m (pc + 1) ls (v :: rest))) : W p l e R s m args below meth c H locs cells slots Q (F0 m pc ls (.int i :: .ref (ad k) :: rest)) := by
  subst hv
  exact va_aldq C0.1 C0.2.1 hK.1 (hS.P1 hk) 0 5 rfl rfl hin hdg kk
theorem x_alenI (C0 : x_B p s m meth c args cc nL ret0 own Ts) (hK : x_K G s) (hS : x_H G ad con H locs) {k : Nat} {x : vp_A} (hk : con k = some (.inl (G.2.2 0, x))) {v : Int32} (hv : Int32.ofNat x.1 = v) (hdg : decode cc pc = .ok (.arraylength, 1))
    (kk : W p l e R s m args below meth c H locs cells slots Q (F0 m (pc + 1) ls (.int v :: rest))) : W p l e R s m args below meth c H locs cells slots Q (F0 m pc ls (.ref (ad k) :: rest)) :=
  va_alen C0.1 C0.2.1 hK.1 (hS.P1 hk) 0 0 rfl rfl hv hdg kk
-- ----- arrays: writes -----
theorem x_iast (C0 : x_B p s m meth c args cc nL ret0 own Ts) (hK : x_K G s) (hS : x_H G ad con H locs) {k n : Nat} {f : Nat → Int32} (hk : con k = some (.inl (G.2.2 0, n, .inl f))) {i x : Int32} (hin : vp_in i n) (hdg : decode cc pc = .ok (.iastore, 1))
    (kk : ∀ (H1 : Heap) (locs1 : List Loc), x_H G ad (x_up con k (.inl (G.2.2 0, n, .inl (upd f i.toNatClampNeg x)))) H1 locs1 → W p l e R s m args below meth c H1 locs1 cells slots Q (F0 m (pc + 1) ls rest)) : W p l e R s m args below meth c H locs cells slots Q (F0 m pc ls (.int x :: .int i :: .ref (ad k) :: rest)) := by
  obtain ⟨q0, hq⟩ := x_ws_at (ad := ad) (hS.1 k _ hk).1 hk
  exact va_iast C0.1 C0.2.1 hK.1 hS.P hS.D hS.2.2 q0 0 hq rfl hin hdg (fun H1 locs1 hP1 _ hS1 => kk H1 locs1 (hS.back hk hq hP1 hS1))
theorem x_bast (C0 : x_B p s m meth c args cc nL ret0 own Ts) (hK : x_K G s) (hS : x_H G ad con H locs) {k n : Nat} {f : Nat → Int32} (hk : con k = some (.inl (G.2.2 2, n, .inl f))) {i x : Int32} (hin : vp_in i n) (hdg : decode cc pc = .ok (.bastore, 1))
    (kk : ∀ (H1 : Heap) (locs1 : List Loc), x_H G ad (x_up con k (.inl (G.2.2 2, n, .inl (upd f i.toNatClampNeg (vp_nar .byte x))))) H1 locs1 → W p l e R s m args below meth c H1 locs1 cells slots Q (F0 m (pc + 1) ls rest)) : W p l e R s m args below meth c H locs cells slots Q (F0 m pc ls (.int x :: .int i :: .ref (ad k) :: rest)) := by
  obtain ⟨q0, hq⟩ := x_ws_at (ad := ad) (hS.1 k _ hk).1 hk
  exact va_bast C0.1 C0.2.1 hK.1 hS.P hS.D hS.2.2 q0 2 hq rfl hin hdg (fun H1 locs1 hP1 _ hS1 => kk H1 locs1 (hS.back hk hq hP1 hS1))
theorem x_sast (C0 : x_B p s m meth c args cc nL ret0 own Ts) (hK : x_K G s) (hS : x_H G ad con H locs) {k n : Nat} {f : Nat → Int32} (hk : con k = some (.inl (G.2.2 3, n, .inl f))) {i x : Int32} (hin : vp_in i n) (hdg : decode cc pc = .ok (.sastore, 1))
    (kk : ∀ (H1 : Heap) (locs1 : List Loc), x_H G ad (x_up con k (.inl (G.2.2 3, n, .inl (upd f i.toNatClampNeg (vp_nar .short x))))) H1 locs1 → W p l e R s m args below meth c H1 locs1 cells slots Q (F0 m (pc + 1) ls rest)) : W p l e R s m args below meth c H locs cells slots Q (F0 m pc ls (.int x :: .int i :: .ref (ad k) :: rest)) := by
  obtain ⟨q0, hq⟩ := x_ws_at (ad := ad) (hS.1 k _ hk).1 hk
  exact va_sast C0.1 C0.2.1 hK.1 hS.P hS.D hS.2.2 q0 3 hq rfl hin hdg (fun H1 locs1 hP1 _ hS1 => kk H1 locs1 (hS.back hk hq hP1 hS1))
theorem x_last (C0 : x_B p s m meth c args cc nL ret0 own Ts) (hK : x_K G s) (hS : x_H G ad con H locs) {k n : Nat} {f : Nat → Int64} (hk : con k = some (.inl (G.2.2 1, n, .inr (.inl f)))) {i : Int32} {x : Int64} (hin : vp_in i n) (hdg : decode cc pc = .ok (.lastore, 1))
    (kk : ∀ (H1 : Heap) (locs1 : List Loc), x_H G ad (x_up con k (.inl (G.2.2 1, n, .inr (.inl (vp_updL f i.toNatClampNeg x))))) H1 locs1 → W p l e R s m args below meth c H1 locs1 cells slots Q (F0 m (pc + 1) ls rest)) : W p l e R s m args below meth c H locs cells slots Q (F0 m pc ls (.long x :: .int i :: .ref (ad k) :: rest)) := by
  obtain ⟨q0, hq⟩ := x_ws_at (ad := ad) (hS.1 k _ hk).1 hk
  exact va_last C0.1 C0.2.1 hK.1 hS.P hS.D hS.2.2 q0 1 hq rfl hin hdg (fun H1 locs1 hP1 _ hS1 => kk H1 locs1 (hS.back hk hq hP1 hS1))
theorem x_astT (C0 : x_B p s m meth c args cc nL ret0 own Ts) (hK : x_K G s) (hS : x_H G ad con H locs) {k kv n : Nat} {vs : List Value} {f : Nat → Option Nat} (hk : con k = some (.inl (G.2.2 4, n, .inr (.inr (.inr (.inr f)))))) (hkv : con kv = some (.inr (2, vs))) {i : Int32} (hin : vp_in i n) (hdg : decode cc pc = .ok (.aastore, 1))
    (kk : ∀ (H1 : Heap) (locs1 : List Loc), x_H G ad (x_up con k (.inl (G.2.2 4, n, .inr (.inr (.inr (.inr (va_up f i.toNatClampNeg (some (ad kv))))))))) H1 locs1 → W p l e R s m args below meth c H1 locs1 cells slots Q (F0 m (pc + 1) ls rest)) : W p l e R s m args below meth c H locs cells slots Q (F0 m pc ls (.ref (ad kv) :: .int i :: .ref (ad k) :: rest)) := by
  obtain ⟨q0, hq⟩ := x_ws_at (ad := ad) (hS.1 k _ hk).1 hk
  obtain ⟨q1, hq1⟩ := x_ws_at (ad := ad) (hS.1 kv _ hkv).1 hkv
  exact va_astq (r := (RX2, TX2, 3)) C0.1 C0.2.1 hK.1 hS.P hS.D hS.2.2 q0 4 q1 2 hq rfl hq1 rfl hin hdg (fun H1 locs1 hP1 _ hS1 => kk H1 locs1 (hS.back hk hq hP1 hS1))
theorem x_astP (C0 : x_B p s m meth c args cc nL ret0 own Ts) (hK : x_K G s) (hS : x_H G ad con H locs) {k kv n : Nat} {vs : List Value} {f : Nat → Option Nat} (hk : con k = some (.inl (G.2.2 5, n, .inr (.inr (.inr (.inr f)))))) (hkv : con kv = some (.inr (0, vs))) {i : Int32} (hin : vp_in i n) (hdg : decode cc pc = .ok (.aastore, 1))
    (kk : ∀ (H1 : Heap) (locs1 : List Loc), x_H G ad (x_up con k (.inl (G.2.2 5, n, .inr (.inr (.inr (.inr (va_up f i.toNatClampNeg (some (ad kv))))))))) H1 locs1 → W p l e R s m args below meth c H1 locs1 cells slots Q (F0 m (pc + 1) ls rest)) : W p l e R s m args below meth c H locs cells slots Q (F0 m pc ls (.ref (ad kv) :: .int i :: .ref (ad k) :: rest)) := by
  obtain ⟨q0, hq⟩ := x_ws_at (ad := ad) (hS.1 k _ hk).1 hk
  obtain ⟨q1, hq1⟩ := x_ws_at (ad := ad) (hS.1 kv _ hkv).1 hkv
  exact va_astq (r := (RX0, TX0, 6)) C0.1 C0.2.1 hK.1 hS.P hS.D hS.2.2 q0 5 q1 0 hq rfl hq1 rfl hin hdg (fun H1 locs1 hP1 _ hS1 => kk H1 locs1 (hS.back hk hq hP1 hS1))
theorem x_astN (C0 : x_B p s m meth c args cc nL ret0 own Ts) (hK : x_K G s) (hS : x_H G ad con H locs) {k n : Nat} {f : Nat → Option Nat} (hk : con k = some (.inl (G.2.2 4, n, .inr (.inr (.inr (.inr f)))))) {i : Int32} (hin : vp_in i n) (hdg : decode cc pc = .ok (.aastore, 1))
    (kk : ∀ (H1 : Heap) (locs1 : List Loc), x_H G ad (x_up con k (.inl (G.2.2 4, n, .inr (.inr (.inr (.inr (va_up f i.toNatClampNeg none))))))) H1 locs1 → W p l e R s m args below meth c H1 locs1 cells slots Q (F0 m (pc + 1) ls rest)) : W p l e R s m args below meth c H locs cells slots Q (F0 m pc ls (.null :: .int i :: .ref (ad k) :: rest)) := by
  obtain ⟨q0, hq⟩ := x_ws_at (ad := ad) (hS.1 k _ hk).1 hk
  exact va_astqN (C := "VersionDesk$Table") C0.1 C0.2.1 hK.1 hS.P hS.D hS.2.2 q0 4 hq rfl hin hdg (fun H1 locs1 hP1 _ hS1 => kk H1 locs1 (hS.back hk hq hP1 hS1))
theorem x_copyB (C0 : x_B p s m meth c args cc nL ret0 own Ts) (hls : ls.size = nL) (hK : x_K G s) (hS : x_H G ad con H locs) {k n0 index : Nat} {f : Nat → Int32} (hk : con k = some (.inl (G.2.2 2, n0, .inl f))) (hl1 : Cond.methodLink own index arraycopyName ∈ Ts) (hl2 : Cond.native arraycopyName ∈ Ts) (hl3 : Cond.static arraycopyName ∈ Ts) (hl4 : Cond.initialized "java/lang/System" ∈ Ts) {sp dp n : Int32} (h1 : ¬ sp < 0) (h2 : ¬ dp < 0) (h3 : ¬ n < 0) (h4 : sp.toNatClampNeg + n.toNatClampNeg ≤ n0) (h5 : dp.toNatClampNeg + n.toNatClampNeg ≤ n0) (hfit : ∀ i, i < n.toNatClampNeg → fits .byte (.int (f (sp.toNatClampNeg + i))) = true) (hframes : 1 ≤ R.frames) (hlocals : (rest.map fun v => v.category).sum + (nativeFrameWords "java/lang/System" "arraycopy" 5 + 11) ≤ R.locals) (hdg : decode cc pc = .ok (.invokestatic index, 3))
    (kk : ∀ (H1 : Heap) (locs1 : List Loc), x_H G ad (x_up con k (.inl (G.2.2 2, n0, .inl (va_cpy f f sp.toNatClampNeg dp.toNatClampNeg n.toNatClampNeg)))) H1 locs1 → W p l e R s m args below meth c H1 locs1 cells slots Q (F0 m (pc + 3) ls rest)) : W p l e R s m args below meth c H locs cells slots Q (F0 m pc ls (.int n :: .int dp :: .ref (ad k) :: .int sp :: .ref (ad k) :: rest)) := by
  obtain ⟨hx, hb, -, hml, hown, hts, -⟩ := C0
  obtain ⟨q0, hq⟩ := x_ws_at (ad := ad) (hS.1 k _ hk).1 hk
  exact va_copyi hx hb (hml.trans hls.symm) hown (hts _ hl1) (hts _ hl2) (hts _ hl3) (hts _ hl4) hK.1 hS.P hS.D hS.2.2 q0 q0 2 2 hq hq rfl rfl rfl h1 h2 h3 h4 h5 hfit hframes hlocals hdg (fun H1 locs1 hP1 _ hS1 => kk H1 locs1 (hS.back hk hq hP1 hS1))
-- ----- new cells -----
theorem x_new (C0 : x_B p s m meth c args cc nL ret0 own Ts) (hK : x_K G s) (hS : x_H G ad con H locs) (t : Nat) (ht : con t = none) (htM : t < 4096) {ci N index : Nat} {C : String} {T : u_T} (ty : Nat → FieldType) (hty : ∀ k, k < N → parseFieldDescriptor (T k).2.2.1 = some (ty k)) (hc : vwCl[ci]? = some (C, T, N)) (hin : ∀ w ∈ u_ws C T N, w ∈ Ts) (h1 : Cond.classLink own index C ∈ Ts) (h2 : Cond.instantiable C N ∈ Ts) (h3 : Cond.initialized C ∈ Ts) {fs : List Value} (hfs : ∀ j, j < N → defaultValue (ty j) = vp_V fs j) (hcells : cells + 1 ≤ R.cells) (hslots : slots + N ≤ R.slots) (hdg : decode cc pc = .ok (.new index, 3))
    (kk : ∀ (q : Nat) (H1 : Heap), x_H G (va_up ad t q) (x_up con t (.inr (ci, fs))) H1 locs → W p l e R s m args below meth c H1 locs (cells + 1) (slots + N) Q (F0 m (pc + 3) ls (.ref q :: rest))) : W p l e R s m args below meth c H locs cells slots Q (F0 m pc ls rest) := by
  obtain ⟨hx, hb, -, -, hown, hts, -⟩ := C0
  exact va_new (cl := vwCl) (D := G.1) (tys := x_tys G) (C := C) (T := T) (N := N) hx hb hts hin ty hty hown (hts _ h1) (hts _ h2) (hts _ h3) hK.1 hS.P hS.D hS.2.2 (fun _ h => h) hc hfs hcells hslots hdg (fun q H1 hP1 hD1 hS1 => kk q H1 (hS.push ht htM hP1 hD1 hS1))
theorem x_newa (C0 : x_B p s m meth c args cc nL ret0 own Ts) (hK : x_K G s) (hS : x_H G ad con H locs) (t : Nat) (ht : con t = none) (htM : t < 4096) {atype : ArrayType} {ty : FieldType} {j0 : Nat} {cA0 : ClassId} (hj : (x_tys G)[j0]? = some (cA0, ty)) (hra : ∀ cA, va_RA s cA ty → s.vm.findClass ("[" ++ ty.toString) = some cA) (harr : Cond.arrayClass (newarray.typeOf atype) ∈ Ts) (hty : newarray.typeOf atype = ty) {n : Int32} {N' : Nat} {a0 : vp_A} (ha : ∀ cA : ClassId, vp_cell cA a0 = arrV cA N' (fun _ => defaultValue ty)) (hn : ¬ n < 0) (hN : n.toNatClampNeg = N') (hbytes : N' * componentBytes ty ≤ 536870912) (hcells : cells + 1 ≤ R.cells) (hslots : slots + N' ≤ R.slots) (hdg : decode cc pc = .ok (.newarray atype, 2))
    (kk : ∀ (q : Nat) (H1 : Heap), x_H G (va_up ad t q) (x_up con t (.inl (cA0, a0))) H1 locs → W p l e R s m args below meth c H1 locs (cells + 1) (slots + N') Q (F0 m (pc + 2) ls (.ref q :: rest))) : W p l e R s m args below meth c H locs cells slots Q (F0 m pc ls (.int n :: rest)) := by
  obtain ⟨hx, hb, -, -, hown, hts, -⟩ := C0
  refine va_newa (cl := vwCl) (D := G.1) (tys := x_tys G) hx hb (hts _ harr) hty hK.1 hS.P hS.D hS.2.2 (fun _ h => h) ha hn hN hbytes hcells hslots hdg (fun q cA H1 hK1 hP1 hD1 hS1 => ?_)
  have e1 := hra _ (hK.1.2 j0 _ hj).2
  have e2 := hra _ (hK1.2 (x_tys G).length (cA, ty) (by rw [List.getElem?_append_right (Nat.le_refl _), Nat.sub_self]; rfl)).2
  have e3 : cA = cA0 := Option.some.inj (e2.symm.trans e1)
  subst e3
  exact kk q H1 (hS.push ht htM hP1 hD1 hS1)
theorem x_newq (C0 : x_B p s m meth c args cc nL ret0 own Ts) (hK : x_K G s) (hS : x_H G ad con H locs) (t : Nat) (ht : con t = none) (htM : t < 4096) {C : String} {index j0 : Nat} {cA0 : ClassId} (hj : (x_tys G)[j0]? = some (cA0, .object C)) (h1 : Cond.classLink own index C ∈ Ts) (h2 : va_AO C s) {n : Int32} {N' : Nat} (hn : ¬ n < 0) (hN : n.toNatClampNeg = N') (hbytes : N' * 4 ≤ 536870912) (hcells : cells + 1 ≤ R.cells) (hslots : slots + N' ≤ R.slots) (hdg : decode cc pc = .ok (.anewarray index, 3))
    (kk : ∀ (q : Nat) (H1 : Heap), x_H G (va_up ad t q) (x_up con t (.inl (cA0, N', .inr (.inr (.inr (.inr (fun _ => none))))))) H1 locs → W p l e R s m args below meth c H1 locs (cells + 1) (slots + N') Q (F0 m (pc + 3) ls (.ref q :: rest))) : W p l e R s m args below meth c H locs cells slots Q (F0 m pc ls (.int n :: rest)) := by
  obtain ⟨hx, hb, -, -, hown, hts, -⟩ := C0
  refine va_newq (cl := vwCl) (D := G.1) (tys := x_tys G) hx hb hown (hts _ h1) h2 hK.1 hS.P hS.D hS.2.2 (fun _ h => h) hn hN hbytes hcells hslots hdg (fun q cA H1 hK1 hP1 hD1 hS1 => ?_)
  obtain ⟨_, _, _, _, _, e1⟩ := (hK.1.2 j0 _ hj).2
  obtain ⟨_, _, _, _, _, e2⟩ := (hK1.2 (x_tys G).length (cA, .object C) (by rw [List.getElem?_append_right (Nat.le_refl _), Nat.sub_self]; rfl)).2
  have e3 : cA = cA0 := Option.some.inj (e2.symm.trans e1)
  subst e3
  exact kk q H1 (hS.push ht htM hP1 hD1 hS1)
-- ----- the same at an address that is known by another name -----
theorem x_putA (C0 : x_B p s m meth c args cc nL ret0 own Ts) (hK : x_K G s) (hS : x_H G ad con H locs) {k ci N index j a : Nat} {fs : List Value} {v : Value} {C : String} {T : u_T} (ha : ad k = a) (ty0 : Nat → FieldType) (hty : ∀ k, k < N → parseFieldDescriptor (T k).2.2.1 = some (ty0 k)) (hnm : ∀ a, a < N → ∀ b, b < N → a ≠ b → (T a).2.1 ≠ (T b).2.1) (hk : con k = some (.inr (ci, fs))) (hc : vwCl[ci]? = some (C, T, N)) (hin : ∀ w ∈ u_ws C T N, w ∈ Ts) (hj : j < N) (hlink : Cond.fieldLink own index (T j).1 (T j).2.1 (T j).2.2.1 ∈ Ts) (hfin : (T j).2.2.2 = false ∨ ((T j).2.2.2 = true ∧ meth.name = "<init>" ∧ (T j).1 = own)) {ty : FieldType} (hd : parseFieldDescriptor (T j).2.2.1 = some ty) (hn : narrow ty v = v) (hfit : fits ty v = true) (hl : j < fs.length) (hdg : decode cc pc = .ok (.putfield index, 3))
    (kk : ∀ (H1 : Heap) (locs1 : List Loc), x_H G ad (x_up con k (.inr (ci, fs.set j v))) H1 locs1 → W p l e R s m args below meth c H1 locs1 cells slots Q (F0 m (pc + 3) ls rest)) : W p l e R s m args below meth c H locs cells slots Q (F0 m pc ls (v :: .ref a :: rest)) := by
  subst ha
  rcases hfin with h | ⟨h1, h2, h3⟩
  · exact x_put C0 hK hS ty0 hty hnm hk hc hin hj hlink h hd hn hfit hl hdg kk
  · exact x_putF C0 hK hS ty0 hty hnm hk hc hin hj hlink h1 h2 h3 hd hn hfit hl hdg kk
end XR
