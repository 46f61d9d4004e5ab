-- ===== the reference: create =====
theorem y_lf_N (M : Nat → Nat → Int32) : ∀ (n : Nat) (a : Int32), y_lf M n a = a ∨ ∃ p, p < n ∧ y_lf M n a = nI p
  | 0, a => Or.inl rfl
  | n + 1, a => by
    simp only [y_lf]
    rcases y_lf_N M n (if M 3 n < 0 then nI n else a) with h | ⟨p, h1, h2⟩
    · rw [h]
      split
      · exact Or.inr ⟨n, by omega, rfl⟩
      · exact Or.inl rfl
    · exact Or.inr ⟨p, by omega, h2⟩
theorem y_lf_cg {M M1 : Nat → Nat → Int32} (h : M1 3 = M 3) : ∀ (n : Nat) (a : Int32), y_lf M1 n a = y_lf M n a
  | 0, _ => rfl
  | n + 1, a => by simp only [y_lf]; rw [h, y_lf_cg h n]
def y_cg (b : Bool) (x : Int32) : Nat → Bool
  | 0 => b
  | c + 1 => y_cg b x c && m_in (dg x c) 1 3
def y_ct (M : Nat → Nat → Int32) (t : Nat) (x : Int32) (n : Nat) : Nat → Nat → Int32 := va_up M 1 (fun j => if 8 * t ≤ j ∧ j < 8 * t + n then dg x (j - 8 * t) else M 1 j)
theorem y_ct_0 (M : Nat → Nat → Int32) (t : Nat) (x : Int32) : y_ct M t x 0 = M := by
  unfold y_ct
  rw [show (fun j => if 8 * t ≤ j ∧ j < 8 * t + 0 then dg x (j - 8 * t) else M 1 j) = M 1 from by funext j; rw [if_neg (by omega)], va_up_id]
theorem y_ct_s {M M1 : Nat → Nat → Int32} {t i : Nat} {x v : Int32} (h : M1 = y_ct M t x i) (hv : v = dg x i) : va_up M1 1 (upd (M1 1) (8 * t + i) v) = y_ct M t x (i + 1) := by
  rw [h, hv]
  unfold y_ct
  rw [bx_uu, va_up_self]
  congr 1
  funext j
  by_cases hj : j = 8 * t + i
  · rw [hj, pk_us, if_pos (by omega), show 8 * t + i - 8 * t = i by omega]
  · rw [pk_un hj]
    by_cases h2 : 8 * t ≤ j ∧ j < 8 * t + i
    · rw [if_pos h2, if_pos (by omega)]
    · rw [if_neg h2, if_neg (by omega)]
def y_c1 (M : Nat → Nat → Int32) (t n : Int32) : Bool := m_in t 0 (nI 7) && (!decide (0 < M 0 t.toNatClampNeg) && m_in n 1 (nI 8))
def y_c2 (M : Nat → Nat → Int32) (n x : Int32) : Bool := y_cg (!decide (y_lf M 60 (-1) < 0)) x n.toNatClampNeg
def y_cr (M : Nat → Nat → Int32) (t n x : Int32) : Bool := y_c1 M t n && y_c2 M n x
def y_cr3 (M : Nat → Nat → Int32) (t : Nat) (n : Int32) (p : Nat) : Nat → Nat → Int32 := y_op (va_up (va_up M 0 (upd (M 0) t n)) 2 (upd (M 2) t (nI p))) p (nI t)
def y_crM (M : Nat → Nat → Int32) (t n x : Int32) : Nat → Nat → Int32 := if y_c1 M t n then (if y_c2 M n x then y_cr3 (y_ct M t.toNatClampNeg x n.toNatClampNeg) t.toNatClampNeg n (y_lf M 60 (-1)).toNatClampNeg else y_ct M t.toNatClampNeg x n.toNatClampNeg) else M
theorem kX4_create_wX4 : ∀ w ∈ u_ws RX4 TX4 22, w ∈ wsX4_create := by decide +kernel
theorem kX4_create_f13 : Cond.fieldLink RX4 13 "VersionDeskModel" "types" "[I" ∈ wsX4_create := by decide +kernel
theorem kX4_create_f16 : Cond.fieldLink RX4 16 "VersionDeskModel" "first" "[I" ∈ wsX4_create := by decide +kernel
theorem kX4_create_f7 : Cond.fieldLink RX4 7 "VersionDeskModel" "columns" "[I" ∈ wsX4_create := by decide +kernel
theorem y_cg_b0 {b : Bool} {x : Int32} : ∀ {n : Nat}, y_cg b x n = true → b = true
  | 0, h => h
  | n + 1, h => by
    simp only [y_cg, Bool.and_eq_true] at h
    exact y_cg_b0 h.1
theorem m_in_18 {n : Int32} (h : m_in n 1 (nI 8) = true) : ∃ k, k ≤ 8 ∧ n = nI k := by
  simp only [m_in, Bool.and_eq_true, decide_eq_true_eq] at h
  obtain ⟨j, h1, h2⟩ := nI_of (fun q => absurd (Int32.lt_of_le_of_lt h.1 q) (by decide))
  exact ⟨j, nz_le h.2 h2 rfl h1 (by omega), h2⟩
set_option maxHeartbeats 4000000 in
set_option maxRecDepth 100000 in
theorem l_X4_create {p : Program} {l : Launch} {e : Env} {s : State} {m : MethodId} {args : Array Value} {below : List Frame} {meth : Method} {c : Code} {G : x_G} {ad : Nat → Nat} {D : Nat → Option va_E} {V : Nat → Int64} (C0 : x_B p s m meth c args cX4_create 7 (some .boolean) RX4 wsX4_create) (hK : x_K G s) {M0 : Nat → Nat → Int32} {t n : Nat} {x0 x9 : Int32} {b0 : Bool} {p1 : Nat} (ht : t < 8) (hn : n ≤ 8) (hp0 : b0 = true → y_lf M0 60 (-1) = nI p1 ∧ p1 < 60) : ∀ (d : Nat) (i : Nat) (b : Bool) (r : Int32) (M : Nat → Nat → Int32) (H : Heap) (locs : List Loc), n - i < d → i ≤ n → b = y_cg b0 x0 i → r = dg_r x0 i → M = y_ct M0 t x0 i → x_H G ad (y_con G ad D M V) H locs → ∀ (ls : Array Slot), lv_has ls 7 [(0, .ref (ad 200)), (1, .int (nI t)), (2, .int (nI n)), (3, .int x9), (4, .int r), (5, .int (zb b)), (6, .int (nI i))] → W p l e ({ frames := 1, cells := 0, slots := 0, locals := 22 } : Room) s m args below meth c H locs 0 0 (MQ below (x_Qw G ad (y_con G ad D (if y_cg b0 x0 n then y_cr3 (y_ct M0 t x0 n) t (nI n) p1 else y_ct M0 t x0 n) V) (some (.int (zb (y_cg b0 x0 n))))) args s 0 0 (x_A G)) (F0 m 51 ls []) := by
  obtain ⟨hx, hb, hr, hml, hown, hts, hlk⟩ := id C0
  intro d
  induction d with
  | zero =>
    intro i b r M H locs hd hi hg er hMi hS ls hl
    exact absurd hd (by omega)
  | succ d ih =>
    intro i b r M H locs hd hi hg er hMi hS ls hl
    refine lv_iload hx hb dX4_create_51 (lv_at hl 6 rfl) ?_
    refine lv_iload_n hx hb dX4_create_53 rfl (lv_at hl 2 rfl) ?_
    refine lv_icmp_ge (tgt := 112) hx hb dX4_create_54 (by decide) (fun c54 => ?_) (fun c54 => ?_)
    · have hi2 := nz_le c54 rfl rfl (by omega) (by omega)
      have hi2e : i = n := by omega
      refine lv_iload hx hb dX4_create_112 (lv_at hl 5 rfl) ?_
      refine lv_if_eq (tgt := 145) hx hb dX4_create_114 (by decide) (fun c114 => ?_) (fun c114 => ?_)
      · refine lv_iload hx hb dX4_create_145 (lv_at hl 5 rfl) ?_
        exact x_wretz C0 hS (by rw [hMi, ← hi2e, show y_cg b0 x0 i = false from hg.symm.trans (zb_eq c114)]; rfl) (by rw [hi2e.symm, ← hg]) (zb_nar _) dX4_create_147
      · have hb0 : b0 = true := y_cg_b0 (hg.symm.trans (zb_ne c114))
        obtain ⟨hp1, hp1l⟩ := hp0 hb0
        refine lv_aload_n hx hb dX4_create_117 rfl (lv_at hl 0 rfl) ?_
        refine y_get (j := 0) C0 hK hS (by decide) (by decide) kX4_create_wX4 kX4_create_f7 dX4_create_118 ?_
        refine lv_iload_n hx hb dX4_create_121 rfl (lv_at hl 1 rfl) ?_
        refine lv_iload_n hx hb dX4_create_122 rfl (lv_at hl 2 rfl) ?_
        refine y_iast (j := 0) (i := t) (n := 8) C0 hK hS (by decide) (by decide) (by decide) (by omega) rfl dX4_create_123 (fun H locs hS => ?_)
        obtain ⟨M1, eM1⟩ : ∃ zz, zz = va_up M 0 (upd (M 0) t (nI n)) := ⟨_, rfl⟩
        rw [← eM1] at hS
        refine lv_aload_n hx hb dX4_create_124 rfl (lv_at hl 0 rfl) ?_
        refine y_get (j := 2) C0 hK hS (by decide) (by decide) kX4_create_wX4 kX4_create_f16 dX4_create_125 ?_
        refine lv_iload_n hx hb dX4_create_128 rfl (lv_at hl 1 rfl) ?_
        refine lv_aload_n hx hb dX4_create_129 rfl (lv_at hl 0 rfl) ?_
        refine x_callr (x_rV C0 hl.1 hK hS (c_X4_lowestFree l G ad D M1 V) (show y_con G ad D M1 V 200 = some (x_mo ad M1) from rfl) rfl gX4_create_X4_lowestFree 0 rfl rfl rfl (by decide +kernel) ⟨Nat.le_of_ble_eq_true rfl, Nat.le_of_ble_eq_true rfl⟩ rfl rfl (Nat.le_of_ble_eq_true rfl) dX4_create_130 ⟨Nat.le_of_ble_eq_true rfl, Nat.le_of_ble_eq_true rfl⟩) ?_
        show W _ _ _ _ _ _ _ _ _ _ _ _ _ _ _ (F0 m 133 ls [.int (y_lf M1 60 (-1)), .int (nI t), .ref (ad 203)])
        have hlf : y_lf M1 60 (-1) = nI p1 := by rw [y_lf_cg (M := M0) (by rw [eM1, va_up_ne _ _ (by decide), hMi]; rfl)]; exact hp1
        rw [hlf]
        refine y_iast (j := 2) (i := t) (n := 8) C0 hK hS (by decide) (by decide) (by decide) (by omega) rfl dX4_create_133 (fun H locs hS => ?_)
        obtain ⟨M2, eM2⟩ : ∃ zz, zz = va_up M1 2 (upd (M1 2) t (nI p1)) := ⟨_, rfl⟩
        rw [← eM2] at hS
        refine lv_aload_n hx hb dX4_create_134 rfl (lv_at hl 0 rfl) ?_
        refine lv_aload_n hx hb dX4_create_135 rfl (lv_at hl 0 rfl) ?_
        refine y_get (j := 2) C0 hK hS (by decide) (by decide) kX4_create_wX4 kX4_create_f16 dX4_create_136 ?_
        refine lv_iload_n hx hb dX4_create_139 rfl (lv_at hl 1 rfl) ?_
        refine y_iald (j := 2) (i := t) (n := 8) C0 hK hS (by decide) (by decide) (by decide) (by omega) rfl dX4_create_140 ?_
        rw [show M2 2 t = nI p1 from (by rw [eM2, va_up_self, pk_us])]
        refine lv_iload_n hx hb dX4_create_141 rfl (lv_at hl 1 rfl) ?_
        refine x_callw hS (x_rV C0 hl.1 hK hS (c_X4_open l G ad D M2 V p1 (nI t) hp1l) (show y_con G ad D M2 V 200 = some (x_mo ad M2) from rfl) rfl gX4_create_X4_open 2 rfl rfl rfl (by decide +kernel) ⟨Nat.le_of_ble_eq_true rfl, Nat.le_of_ble_eq_true rfl⟩ rfl rfl (Nat.le_of_ble_eq_true rfl) dX4_create_142 ⟨Nat.le_of_ble_eq_true rfl, Nat.le_of_ble_eq_true rfl⟩) (fun H locs hS => ?_)
        obtain ⟨M3, eM3⟩ : ∃ zz, zz = y_op M2 p1 (nI t) := ⟨_, rfl⟩
        rw [← eM3] at hS
        show W _ _ _ _ _ _ _ _ _ _ _ _ _ _ _ (F0 m 145 ls [])
        refine lv_iload hx hb dX4_create_145 (lv_at hl 5 rfl) ?_
        exact x_wretz C0 hS (by rw [← hi2e, show y_cg b0 x0 i = true from hg.symm.trans (zb_ne c114)]; subst_vars; rfl) (by rw [hi2e.symm, ← hg]) (zb_nar _) dX4_create_147
    · have hi2 := nz_nle c54 rfl rfl (by omega) (by omega)
      refine lv_aload_n hx hb dX4_create_57 rfl (lv_at hl 0 rfl) ?_
      refine y_get (j := 1) C0 hK hS (by decide) (by decide) kX4_create_wX4 kX4_create_f13 dX4_create_58 ?_
      refine lv_bipush (v := 8) hx hb dX4_create_61 (by decide) ?_
      refine lv_iload_n hx hb dX4_create_63 rfl (lv_at hl 1 rfl) ?_
      refine lv_imul hx hb dX4_create_64 ?_
      refine lv_iload hx hb dX4_create_65 (lv_at hl 6 rfl) ?_
      refine lv_iadd hx hb dX4_create_67 ?_
      refine lv_iload hx hb dX4_create_68 (lv_at hl 4 rfl) ?_
      refine lv_bipush (v := 10) hx hb dX4_create_70 (by decide) ?_
      refine lv_irem hx hb dX4_create_72 (by decide) ?_
      rw [show (8 : Int32) * nI t + nI i = nI (8 * t + i) from (by rw [show (8 : Int32) * nI t = nI (8 * t) from pk_mul 8 t]; exact nI_add _ _)]
      refine y_iast (j := 1) (i := 8 * t + i) (n := 64) C0 hK hS (by decide) (by decide) (by decide) (by omega) rfl dX4_create_73 (fun H locs hS => ?_)
      rw [y_ct_s hMi (by rw [er]; rfl)] at hS
      obtain ⟨M4, eM4⟩ : ∃ zz, zz = y_ct M0 t x0 (i + 1) := ⟨_, rfl⟩
      rw [← eM4] at hS
      refine lv_iload hx hb dX4_create_74 (lv_at hl 5 rfl) ?_
      refine lv_if_eq (tgt := 96) hx hb dX4_create_76 (by decide) (fun c76 => ?_) (fun c76 => ?_)
      · refine lv_iconst (v := 0) hx hb dX4_create_96 (by decide) ?_
        refine lv_istore (lv' := [(5, .int 0), (0, .ref (ad 200)), (1, .int (nI t)), (2, .int (nI n)), (3, .int x9), (4, .int r), (6, .int (nI i))]) hx hb dX4_create_97 hl (by decide) rfl (fun ls hl => ?_)
        refine lv_iload hx hb dX4_create_99 (lv_at hl 5 rfl) ?_
        refine lv_bipush (v := 10) hx hb dX4_create_101 (by decide) ?_
        refine lv_idiv hx hb dX4_create_103 (by decide) ?_
        refine lv_topi (fun x5 ex5 => ?_)
        refine lv_istore (lv' := [(4, .int x5), (5, .int 0), (0, .ref (ad 200)), (1, .int (nI t)), (2, .int (nI n)), (3, .int x9), (6, .int (nI i))]) hx hb dX4_create_104 hl (by decide) rfl (fun ls hl => ?_)
        refine lv_iinc (v := nI (i + 1)) (lv' := [(6, .int (nI (i + 1))), (4, .int x5), (5, .int 0), (0, .ref (ad 200)), (1, .int (nI t)), (2, .int (nI n)), (3, .int x9)]) hx hb dX4_create_106 hl (k := 6) rfl (nI_1 i) (by decide) rfl (fun ls hl => ?_)
        refine lv_goto (tgt := 51) hx hb dX4_create_109 (by decide) ?_
        exact ih (i + 1) false _ _ _ _ (by omega) (by omega) (by simp only [y_cg]; rw [← hg, zb_eq c76]; rfl) (by rw [ex5, er]; rfl) eM4 hS ls (lv_sub hl [3, 4, 5, 6, 1, 2, 0] rfl)
      · refine lv_iload hx hb dX4_create_79 (lv_at hl 4 rfl) ?_
        refine lv_bipush (v := 10) hx hb dX4_create_81 (by decide) ?_
        refine lv_irem hx hb dX4_create_83 (by decide) ?_
        refine lv_iconst (v := 1) hx hb dX4_create_84 (by decide) ?_
        refine lv_iconst (v := 3) hx hb dX4_create_85 (by decide) ?_
        rw [show r - r / 10 * 10 = dg x0 i from (by rw [er]; rfl)]
        refine x_callr (x_rS C0 hl.1 hK hS (c_X4_in l G ad D M4 V (dg x0 i) 1 3) gX4_create_X4_in 3 rfl rfl rfl (by decide +kernel) ⟨Nat.le_of_ble_eq_true rfl, Nat.le_of_ble_eq_true rfl⟩ rfl rfl (Nat.le_of_ble_eq_true rfl) dX4_create_86 ⟨Nat.le_of_ble_eq_true rfl, Nat.le_of_ble_eq_true rfl⟩) ?_
        show W _ _ _ _ _ _ _ _ _ _ _ _ _ _ _ (F0 m 89 ls [.int (zb (m_in (dg x0 i) 1 3))])
        refine lv_if_eq (tgt := 96) hx hb dX4_create_89 (by decide) (fun c89 => ?_) (fun c89 => ?_)
        · refine lv_iconst (v := 0) hx hb dX4_create_96 (by decide) ?_
          refine lv_istore (lv' := [(5, .int 0), (0, .ref (ad 200)), (1, .int (nI t)), (2, .int (nI n)), (3, .int x9), (4, .int r), (6, .int (nI i))]) hx hb dX4_create_97 hl (by decide) rfl (fun ls hl => ?_)
          refine lv_iload hx hb dX4_create_99 (lv_at hl 5 rfl) ?_
          refine lv_bipush (v := 10) hx hb dX4_create_101 (by decide) ?_
          refine lv_idiv hx hb dX4_create_103 (by decide) ?_
          refine lv_topi (fun x6 ex6 => ?_)
          refine lv_istore (lv' := [(4, .int x6), (5, .int 0), (0, .ref (ad 200)), (1, .int (nI t)), (2, .int (nI n)), (3, .int x9), (6, .int (nI i))]) hx hb dX4_create_104 hl (by decide) rfl (fun ls hl => ?_)
          refine lv_iinc (v := nI (i + 1)) (lv' := [(6, .int (nI (i + 1))), (4, .int x6), (5, .int 0), (0, .ref (ad 200)), (1, .int (nI t)), (2, .int (nI n)), (3, .int x9)]) hx hb dX4_create_106 hl (k := 6) rfl (nI_1 i) (by decide) rfl (fun ls hl => ?_)
          refine lv_goto (tgt := 51) hx hb dX4_create_109 (by decide) ?_
          exact ih (i + 1) false _ _ _ _ (by omega) (by omega) (by simp only [y_cg]; rw [zb_eq c89, Bool.and_false]) (by rw [ex6, er]; rfl) eM4 hS ls (lv_sub hl [3, 4, 5, 6, 1, 2, 0] rfl)
        · refine lv_iconst (v := 1) hx hb dX4_create_92 (by decide) ?_
          refine lv_goto (tgt := 97) hx hb dX4_create_93 (by decide) ?_
          refine lv_istore (lv' := [(5, .int 1), (0, .ref (ad 200)), (1, .int (nI t)), (2, .int (nI n)), (3, .int x9), (4, .int r), (6, .int (nI i))]) hx hb dX4_create_97 hl (by decide) rfl (fun ls hl => ?_)
          refine lv_iload hx hb dX4_create_99 (lv_at hl 5 rfl) ?_
          refine lv_bipush (v := 10) hx hb dX4_create_101 (by decide) ?_
          refine lv_idiv hx hb dX4_create_103 (by decide) ?_
          refine lv_topi (fun x7 ex7 => ?_)
          refine lv_istore (lv' := [(4, .int x7), (5, .int 1), (0, .ref (ad 200)), (1, .int (nI t)), (2, .int (nI n)), (3, .int x9), (6, .int (nI i))]) hx hb dX4_create_104 hl (by decide) rfl (fun ls hl => ?_)
          refine lv_iinc (v := nI (i + 1)) (lv' := [(6, .int (nI (i + 1))), (4, .int x7), (5, .int 1), (0, .ref (ad 200)), (1, .int (nI t)), (2, .int (nI n)), (3, .int x9)]) hx hb dX4_create_106 hl (k := 6) rfl (nI_1 i) (by decide) rfl (fun ls hl => ?_)
          refine lv_goto (tgt := 51) hx hb dX4_create_109 (by decide) ?_
          exact ih (i + 1) true _ _ _ _ (by omega) (by omega) (by simp only [y_cg]; rw [← hg, zb_ne c76, zb_ne c89]; rfl) (by rw [ex7, er]; rfl) eM4 hS ls (lv_sub hl [3, 4, 5, 6, 1, 2, 0] rfl)
set_option maxHeartbeats 4000000 in
set_option maxRecDepth 100000 in
/-- create -/
theorem c_X4_create (l : Launch) (G : x_G) (ad : Nat → Nat) (D : Nat → Option va_E) (M : Nat → Nat → Int32) (V : Nat → Int64) (t0 n0 x0 : Int32) : Met l yX4_create wsX4_create ({ frames := 1, cells := 0, slots := 0, locals := 22 } : Room) (x_Pc G ad (y_con G ad D M V) [.ref (ad 200), .int t0, .int n0, .int x0]) (x_Qw G ad (y_con G ad D (y_crM M t0 n0 x0) V) (some (.int (zb (y_cr M t0 n0 x0))))) 0 0 (x_A G) := by
  refine x_met (cc := cX4_create) (maxL := 7) (ret := (some .boolean)) (by decide) rfl _ (Nat.le_of_ble_eq_true rfl) ?_
  intro p e s m args below meth c C0 hini hK hS ls hl
  have hl : lv_has ls 7 [(0, .ref (ad 200)), (1, .int t0), (2, .int n0), (3, .int x0)] := hl
  obtain ⟨hx, hb, hr, hml, hown, hts, hlk⟩ := id C0
  refine lv_iload_n hx hb dX4_create_0 rfl (lv_at hl 1 rfl) ?_
  refine lv_iconst (v := 0) hx hb dX4_create_1 (by decide) ?_
  refine lv_bipush (v := 7) hx hb dX4_create_2 (by decide) ?_
  refine x_callr (x_rS C0 hl.1 hK hS (c_X4_in l G ad D M V t0 0 7) gX4_create_X4_in 3 rfl rfl rfl (by decide +kernel) ⟨Nat.le_of_ble_eq_true rfl, Nat.le_of_ble_eq_true rfl⟩ rfl rfl (Nat.le_of_ble_eq_true rfl) dX4_create_4 ⟨Nat.le_of_ble_eq_true rfl, Nat.le_of_ble_eq_true rfl⟩) ?_
  show W _ _ _ _ _ _ _ _ _ _ _ _ _ _ _ (F0 m 7 ls [.int (zb (m_in t0 0 7))])
  refine lv_if_eq (tgt := 29) hx hb dX4_create_7 (by decide) (fun c7 => ?_) (fun c7 => ?_)
  · refine lv_iconst (v := 0) hx hb dX4_create_29 (by decide) ?_
    have hc : y_c1 M t0 n0 = false := by unfold y_c1; rw [show m_in t0 0 (nI 7) = false from zb_eq c7]; simp
    exact x_wretz C0 hS (by unfold y_crM; rw [hc]; rfl) (by unfold y_cr; rw [hc]; rfl) rfl dX4_create_30
  · have hcc : m_in t0 0 (nI 7) = true := zb_ne c7
    obtain ⟨t, ht, rfl⟩ := m_in_of (n := 7) (by decide) hcc
    have hci : (nI t).toNatClampNeg = t := nI_clamp (by omega)
    refine lv_aload_n hx hb dX4_create_10 rfl (lv_at hl 0 rfl) ?_
    refine y_get (j := 0) C0 hK hS (by decide) (by decide) kX4_create_wX4 kX4_create_f7 dX4_create_11 ?_
    refine lv_iload_n hx hb dX4_create_14 rfl (lv_at hl 1 rfl) ?_
    refine y_iald (j := 0) (i := t) (n := 8) C0 hK hS (by decide) (by decide) (by decide) (by omega) rfl dX4_create_15 ?_
    refine lv_if_gt (tgt := 29) hx hb dX4_create_16 (by decide) (fun c16 => ?_) (fun c16 => ?_)
    · refine lv_iconst (v := 0) hx hb dX4_create_29 (by decide) ?_
      have hc : y_c1 M (nI t) n0 = false := by unfold y_c1; rw [hci, decide_eq_true c16]; simp
      exact x_wretz C0 hS (by unfold y_crM; rw [hc]; rfl) (by unfold y_cr; rw [hc]; rfl) rfl dX4_create_30
    · refine lv_iload_n hx hb dX4_create_19 rfl (lv_at hl 2 rfl) ?_
      refine lv_iconst (v := 1) hx hb dX4_create_20 (by decide) ?_
      refine lv_bipush (v := 8) hx hb dX4_create_21 (by decide) ?_
      refine x_callr (x_rS C0 hl.1 hK hS (c_X4_in l G ad D M V n0 1 8) gX4_create_X4_in 3 rfl rfl rfl (by decide +kernel) ⟨Nat.le_of_ble_eq_true rfl, Nat.le_of_ble_eq_true rfl⟩ rfl rfl (Nat.le_of_ble_eq_true rfl) dX4_create_23 ⟨Nat.le_of_ble_eq_true rfl, Nat.le_of_ble_eq_true rfl⟩) ?_
      show W _ _ _ _ _ _ _ _ _ _ _ _ _ _ _ (F0 m 26 ls [.int (zb (m_in n0 1 8))])
      refine lv_if_ne (tgt := 31) hx hb dX4_create_26 (by decide) (fun c26 => ?_) (fun c26 => ?_)
      · have hcn : m_in n0 1 (nI 8) = true := zb_ne c26
        obtain ⟨n, hn, rfl⟩ := m_in_18 hcn
        have hcn2 : (nI n).toNatClampNeg = n := nI_clamp (by omega)
        have hc : y_c1 M (nI t) (nI n) = true := by unfold y_c1; rw [hcc, hci, decide_eq_false c16, hcn]; rfl
        refine lv_iload_n hx hb dX4_create_31 rfl (lv_at hl 3 rfl) ?_
        refine lv_istore (lv' := [(4, .int x0), (0, .ref (ad 200)), (1, .int (nI t)), (2, .int (nI n)), (3, .int x0)]) hx hb dX4_create_32 hl (by decide) rfl (fun ls hl => ?_)
        refine lv_aload_n hx hb dX4_create_34 rfl (lv_at hl 1 rfl) ?_
        refine x_callr (x_rV C0 hl.1 hK hS (c_X4_lowestFree l G ad D M V) (show y_con G ad D M V 200 = some (x_mo ad M) from rfl) rfl gX4_create_X4_lowestFree 0 rfl rfl rfl (by decide +kernel) ⟨Nat.le_of_ble_eq_true rfl, Nat.le_of_ble_eq_true rfl⟩ rfl rfl (Nat.le_of_ble_eq_true rfl) dX4_create_35 ⟨Nat.le_of_ble_eq_true rfl, Nat.le_of_ble_eq_true rfl⟩) ?_
        show W _ _ _ _ _ _ _ _ _ _ _ _ _ _ _ (F0 m 38 ls [.int (y_lf M 60 (-1))])
        refine lv_if_lt (tgt := 45) hx hb dX4_create_38 (by decide) (fun c38 => ?_) (fun c38 => ?_)
        · refine lv_iconst (v := 0) hx hb dX4_create_45 (by decide) ?_
          refine lv_istore (lv' := [(5, .int 0), (4, .int x0), (0, .ref (ad 200)), (1, .int (nI t)), (2, .int (nI n)), (3, .int x0)]) hx hb dX4_create_46 hl (by decide) rfl (fun ls hl => ?_)
          refine lv_iconst (v := 0) hx hb dX4_create_48 (by decide) ?_
          refine lv_istore (lv' := [(6, .int 0), (5, .int 0), (4, .int x0), (0, .ref (ad 200)), (1, .int (nI t)), (2, .int (nI n)), (3, .int x0)]) hx hb dX4_create_49 hl (by decide) rfl (fun ls hl => ?_)
          have hb : (!decide (y_lf M 60 (-1) < 0)) = false := by rw [decide_eq_true c38]; rfl
          have hlf : false = true → y_lf M 60 (-1) = nI (y_lf M 60 (-1)).toNatClampNeg ∧ (y_lf M 60 (-1)).toNatClampNeg < 60 := by
            intro hb9
            rcases y_lf_N M 60 (-1) with h | ⟨p, h1, h2⟩
            · rw [h] at hb; rw [show decide ((-1 : Int32) < 0) = true from rfl] at hb; rw [hb9] at hb; cases hb
            · rw [h2, nI_clamp (by omega)]; exact ⟨rfl, h1⟩
          have e1 : y_crM M (nI t) (nI n) x0 = if y_cg false x0 n then y_cr3 (y_ct M t x0 n) t (nI n) (y_lf M 60 (-1)).toNatClampNeg else y_ct M t x0 n := by unfold y_crM y_c2; rw [if_pos hc, hb, hci, hcn2]
          have e2 : y_cr M (nI t) (nI n) x0 = y_cg false x0 n := by unfold y_cr y_c2; rw [hc, hb, hcn2]; rfl
          rw [e1, e2]
          exact l_X4_create (b0 := false) C0 hK (by omega) hn hlf (n + 1) 0 false _ _ _ _ (by omega) (by omega) rfl rfl (y_ct_0 M t x0).symm hS ls (lv_sub hl [3, 4, 5, 6, 2, 1, 0] rfl)
        · refine lv_iconst (v := 1) hx hb dX4_create_41 (by decide) ?_
          refine lv_goto (tgt := 46) hx hb dX4_create_42 (by decide) ?_
          refine lv_istore (lv' := [(5, .int 1), (4, .int x0), (0, .ref (ad 200)), (1, .int (nI t)), (2, .int (nI n)), (3, .int x0)]) hx hb dX4_create_46 hl (by decide) rfl (fun ls hl => ?_)
          refine lv_iconst (v := 0) hx hb dX4_create_48 (by decide) ?_
          refine lv_istore (lv' := [(6, .int 0), (5, .int 1), (4, .int x0), (0, .ref (ad 200)), (1, .int (nI t)), (2, .int (nI n)), (3, .int x0)]) hx hb dX4_create_49 hl (by decide) rfl (fun ls hl => ?_)
          have hb : (!decide (y_lf M 60 (-1) < 0)) = true := by rw [decide_eq_false c38]; rfl
          have hlf : true = true → y_lf M 60 (-1) = nI (y_lf M 60 (-1)).toNatClampNeg ∧ (y_lf M 60 (-1)).toNatClampNeg < 60 := by
            intro hb9
            rcases y_lf_N M 60 (-1) with h | ⟨p, h1, h2⟩
            · rw [h] at hb; rw [show decide ((-1 : Int32) < 0) = true from rfl] at hb; rw [hb9] at hb; cases hb
            · rw [h2, nI_clamp (by omega)]; exact ⟨rfl, h1⟩
          have e1 : y_crM M (nI t) (nI n) x0 = if y_cg true x0 n then y_cr3 (y_ct M t x0 n) t (nI n) (y_lf M 60 (-1)).toNatClampNeg else y_ct M t x0 n := by unfold y_crM y_c2; rw [if_pos hc, hb, hci, hcn2]
          have e2 : y_cr M (nI t) (nI n) x0 = y_cg true x0 n := by unfold y_cr y_c2; rw [hc, hb, hcn2]; rfl
          rw [e1, e2]
          exact l_X4_create (b0 := true) C0 hK (by omega) hn hlf (n + 1) 0 true _ _ _ _ (by omega) (by omega) rfl rfl (y_ct_0 M t x0).symm hS ls (lv_sub hl [3, 4, 5, 6, 2, 1, 0] rfl)
      · refine lv_iconst (v := 0) hx hb dX4_create_29 (by decide) ?_
        have hc : y_c1 M (nI t) n0 = false := by unfold y_c1; rw [show m_in n0 1 (nI 8) = false from zb_eq c26]; simp
        exact x_wretz C0 hS (by unfold y_crM; rw [hc]; rfl) (by unfold y_cr; rw [hc]; rfl) rfl dX4_create_30
