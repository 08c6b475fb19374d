section
def wd_V8_addSizes : List Cond := .code yX8_addSizes cX8_addSizes 9 none :: (([.fieldLink RX8 15 "GradientDesk$Whole" "size" "I", .fieldLink RX8 9 "GradientDesk$Whole" "words" "[I", .methodLink RX8 71 Lib.Math.max.name, .static Lib.Math.max.name, .initialized "java/lang/Math", .code Lib.Math.max.name Lib.Math.max.code 2 (some .int), .methodLink RX8 29 Lib.Math.min.name, .static Lib.Math.min.name, .code Lib.Math.min.name Lib.Math.min.code 2 (some .int), .constantLong RX8 48 (4294967295)] : List Cond) ++ (u_ws RX8 TX8 3 ++ ([])))
theorem gw_V8_addSizes : wd_V8_addSizes.all goodWord = true := k_allc rfl (k_all (by decide +kernel) (k_all (gu_X8) (rfl)))
set_option maxHeartbeats 4000000 in
set_option maxRecDepth 100000 in
theorem c_V8_addSizes (l : Launch) (dC : Nat → ClassId) (dI : Nat → Nat → Nat) (A : Nat → Prop) (ad : Nat → Nat) (cA : Nat → ClassId) (g : Nat → va_E) (t : Nat) (x : Nat) (y : Nat) (v : Int) (w1 : Int) (st9 : Nat) (nt9 : Nat) (ft9 : Nat → Nat) (a9 : Nat) (it : t < 1038) (ix : x < 1038) (iy : y < 1038) (hT : WN ad cA g t st9 nt9 ft9) (vx : WV ad cA g x v) (vy : WV ad cA g y w1) (htx : t ≠ x) (hty : t ≠ y) (hfa : v.natAbs < 4294967296 ^ a9) (hfb : w1.natAbs < 4294967296 ^ a9) (hab : a9 + 1 ≤ rmc t) : Met l yX8_addSizes wd_V8_addSizes ({ frames := 10, cells := 0, slots := 0, locals := 200 }) (va_Pc [.ref (ad (2 * t)), .ref (ad (2 * x)), .ref (ad (2 * y))] (PR NSc tyc dC dI A ad cA g)) (va_Qv (fun (u : (Nat → va_E) × Nat × (Nat → Nat)) => match u with | (g2, s2, f2) => (∀ k, k ≠ 2 * t ∧ k ≠ 2 * t + 1 → g2 k = g k) ∧ WN ad cA g2 t s2 nt9 f2 ∧ Rp f2 s2 (v.natAbs + w1.natAbs)) (fun (u : (Nat → va_E) × Nat × (Nat → Nat)) (t : State) => va_P (dC, dI) vwCl (wo ad NSc u.1) t.heap) A) (0) (0) A := by
  refine Met.ofW (cc := cX8_addSizes) (maxL := 9) (ret := none) (by decide) rfl ?_
  intro p e s m args below meth c s₁ B hml hv
  obtain ⟨rfl, hA, hP, hL⟩ := hv
  have hx := B.exec
  have hb := B.bytes
  have hr := B.returns
  have hts := atoms_spec (ws := wd_V8_addSizes) B.pre
  have hown : s.vm.findClass RX8 = some m.cls := findClass_of_methodNamed B.named
  have hlocks := B.notSynchronized
  have hK := hL.1
  have hD : ∀ g, va_D A (wo ad NSc g) := fun g => wo_D hL.2.1 hL.2.2 g
  have hS : va_S A s.heap s.heap [] := va_S.rf
  have bk0 : ∀ w ∈ u_ws RX8 TX8 3, w ∈ wd_V8_addSizes := fun _ h => List.mem_cons_of_mem _ (List.mem_append_right _ (List.mem_append_left _ h))
  have hl := lv_entry ([.ref (ad (2 * t)), .ref (ad (2 * x)), .ref (ad (2 * y))]) (n := 9) (Nat.le_of_ble_eq_true rfl)
  rw [lg_entry_eq]
  generalize (lg_sl ([.ref (ad (2 * t)), .ref (ad (2 * x)), .ref (ad (2 * y))]) ++ List.replicate (9 - (lg_sl ([.ref (ad (2 * t)), .ref (ad (2 * x)), .ref (ad (2 * y))])).length) Slot.unset).toArray = ls at hl ⊢
  have hl : lv_has ls 9 [(0, .ref (ad (2 * t))), (1, .ref (ad (2 * x))), (2, .ref (ad (2 * y)))] := hl
  obtain ⟨at9, bt9, ut9, ct9, et9⟩ := hT
  have qt9 := rmc_le t
  obtain ⟨sx9, nx9, fx9, ⟨ax9, bx9, ux9, cx9, ex9⟩, rx9, gx9⟩ := vx
  have qx9 := rmc_le x
  obtain ⟨sy9, ny9, fy9, ⟨ay9, by9, uy9, cy9, ey9⟩, ry9, gy9⟩ := vy
  have qy9 := rmc_le y
  have hsa := rx9.le_of hfa
  have hsb := ry9.le_of hfb
  refine lv_aload_n hx hb dX8_addSizes_0 rfl (lv_at hl 1 rfl) ?_
  refine m_get (D := (dC, dI)) (v := .int (nI sx9)) (C := RX8) (T := TX8) (N := 3) hx hb hts bk0 hown hK hP (2 * x) (ns_w (by omega)) ax9 rfl 1 (by decide) (hts (.fieldLink RX8 15 "GradientDesk$Whole" "size" "I") (List.mem_of_getElem? (i := 1) rfl)) (fun _ h9 => h9) rfl dX8_addSizes_1 ?_
  refine lv_istore_n (lv' := [(3, .int (nI sx9)), (0, .ref (ad (2 * t))), (1, .ref (ad (2 * x))), (2, .ref (ad (2 * y)))]) hx hb dX8_addSizes_4 rfl hl (by decide) rfl (fun ls hl => ?_)
  refine lv_aload_n hx hb dX8_addSizes_5 rfl (lv_at hl 3 rfl) ?_
  refine m_get (D := (dC, dI)) (v := .int (nI sy9)) (C := RX8) (T := TX8) (N := 3) hx hb hts bk0 hown hK hP (2 * y) (ns_w (by omega)) ay9 rfl 1 (by decide) (hts (.fieldLink RX8 15 "GradientDesk$Whole" "size" "I") (List.mem_of_getElem? (i := 1) rfl)) (fun _ h9 => h9) rfl dX8_addSizes_6 ?_
  refine lv_istore (lv' := [(4, .int (nI sy9)), (3, .int (nI sx9)), (0, .ref (ad (2 * t))), (1, .ref (ad (2 * x))), (2, .ref (ad (2 * y)))]) hx hb dX8_addSizes_9 hl (by decide) rfl (fun ls hl => ?_)
  refine lv_aload_n hx hb dX8_addSizes_11 rfl (lv_at hl 2 rfl) ?_
  refine m_get (D := (dC, dI)) (v := .ref (ad (2 * t + 1))) (C := RX8) (T := TX8) (N := 3) hx hb hts bk0 hown hK hP (2 * t) (ns_w (by omega)) at9 rfl 0 (by decide) (hts (.fieldLink RX8 9 "GradientDesk$Whole" "words" "[I") (List.mem_of_getElem? (i := 2) rfl)) (fun _ h9 => h9) rfl dX8_addSizes_12 ?_
  refine m_alen hx hb hK hP (2 * t + 1) (ns_w (by omega)) bt9 dX8_addSizes_15 ?_
  refine lv_iload_n hx hb dX8_addSizes_16 rfl (lv_at hl 1 rfl) ?_
  refine lv_iload hx hb dX8_addSizes_17 (lv_at hl 0 rfl) ?_
  refine va_mmax hx hb (by rw [hml]; exact hl.1.symm) hown (hts (.methodLink RX8 71 Lib.Math.max.name) (List.mem_of_getElem? (i := 3) rfl)) (hts (.static Lib.Math.max.name) (List.mem_of_getElem? (i := 4) rfl)) (hts (.initialized "java/lang/Math") (List.mem_of_getElem? (i := 5) rfl)) (hts (.code Lib.Math.max.name Lib.Math.max.code 2 (some .int)) (List.mem_of_getElem? (i := 6) rfl)) (Nat.le_of_ble_eq_true rfl) (Nat.le_of_ble_eq_true rfl) (Nat.le_of_ble_eq_true rfl) (Nat.le_of_ble_eq_true rfl) dX8_addSizes_19 ?_
  refine lv_topi (fun x_2 e_3 => ?_)
  obtain ⟨q_1, hq_1, eq_1⟩ : ∃ z : Nat, z = max sx9 sy9 ∧ x_2 = nI z := ⟨_, rfl, by rw [e_3]; exact k_max (by omega) (by omega)⟩
  subst eq_1
  refine lv_iconst (v := nI 1) hx hb dX8_addSizes_22 (by decide +kernel) ?_
  refine lv_iadd hx hb dX8_addSizes_23 ?_
  refine lv_topi (fun x_4 e_5 => ?_)
  obtain rfl : x_4 = nI (q_1 + 1) := e_5.trans (nI_add q_1 1)
  refine va_mmin hx hb (by rw [hml]; exact hl.1.symm) hown (hts (.methodLink RX8 29 Lib.Math.min.name) (List.mem_of_getElem? (i := 7) rfl)) (hts (.static Lib.Math.min.name) (List.mem_of_getElem? (i := 8) rfl)) (hts (.initialized "java/lang/Math") (List.mem_of_getElem? (i := 5) rfl)) (hts (.code Lib.Math.min.name Lib.Math.min.code 2 (some .int)) (List.mem_of_getElem? (i := 9) rfl)) (Nat.le_of_ble_eq_true rfl) (Nat.le_of_ble_eq_true rfl) (Nat.le_of_ble_eq_true rfl) (Nat.le_of_ble_eq_true rfl) dX8_addSizes_24 ?_
  refine lv_topi (fun x_7 e_8 => ?_)
  obtain ⟨q_6, hq_6, eq_6⟩ : ∃ z : Nat, z = min (rmc t) (q_1 + 1) ∧ x_7 = nI z := ⟨_, rfl, by rw [e_8]; exact k_min (by omega) (by omega)⟩
  subst eq_6
  refine lv_istore (lv' := [(5, .int (nI q_6)), (4, .int (nI sy9)), (3, .int (nI sx9)), (0, .ref (ad (2 * t))), (1, .ref (ad (2 * x))), (2, .ref (ad (2 * y)))]) hx hb dX8_addSizes_27 hl (by decide) rfl (fun ls hl => ?_)
  obtain ⟨rm, hrm⟩ : ∃ z, z = q_6 := ⟨_, rfl⟩
  rw [← hrm] at hl
  have hr9 : rm = max sx9 sy9 + 1 := by omega
  refine lv_lconst (v := lN 0) hx hb dX8_addSizes_29 (by decide +kernel) ?_
  refine lv_lstore (lv' := [(6, .long (lN 0)), (5, .int (nI rm)), (4, .int (nI sy9)), (3, .int (nI sx9)), (0, .ref (ad (2 * t))), (1, .ref (ad (2 * x))), (2, .ref (ad (2 * y)))]) hx hb dX8_addSizes_30 hl (by decide) rfl (fun ls hl => ?_)
  refine lv_iconst (v := nI 0) hx hb dX8_addSizes_32 (by decide +kernel) ?_
  refine lv_istore (lv' := [(8, .int (nI 0)), (6, .long (lN 0)), (5, .int (nI rm)), (4, .int (nI sy9)), (3, .int (nI sx9)), (0, .ref (ad (2 * t))), (1, .ref (ad (2 * x))), (2, .ref (ad (2 * y)))]) hx hb dX8_addSizes_33 hl (by decide) rfl (fun ls hl => ?_)
  have loop_9 : ∀ (k9 : Nat) (i : Nat) (q : Nat → Nat) (cy : Nat) (g_11 : Nat → va_E) (fr_12 : ∀ k, (k ≠ 2 * t + 1) → g_11 k = g k), 5000 - i < k9 → (i ≤ rm) → (∀ j, q j < 4294967296) → (∀ j, j < i → q j = dgt (v.natAbs + w1.natAbs + 0) j) → (cy = cr v.natAbs w1.natAbs 0 i) → (cy ≤ 1) → (g_11 (2 * t + 1) = .inl (cA (2 * t + 1), rmc t, .inl (fun j => nI (q j)))) → ∀ (H : Heap) (locs : List Loc) (ls : Array Slot), va_P (dC, dI) vwCl (wo ad NSc g_11) H → va_S A s.heap H locs → lv_has ls 9 [(0, .ref (ad (2 * t))), (1, .ref (ad (2 * x))), (2, .ref (ad (2 * y))), (3, .int (nI sx9)), (4, .int (nI sy9)), (5, .int (nI rm)), (6, .long (lN cy)), (8, .int (nI i))] → W p l e (headSpec wd_V8_addSizes ({ frames := 10, cells := 0, slots := 0, locals := 200 })).room s m ([.ref (ad (2 * t)), .ref (ad (2 * x)), .ref (ad (2 * y))] : List Value).toArray below meth c H locs (0) (0) (MQ below (va_Qv (fun (u : (Nat → va_E) × Nat × (Nat → Nat)) => match u with | (g2, s2, f2) => (∀ k, k ≠ 2 * t ∧ k ≠ 2 * t + 1 → g2 k = g k) ∧ WN ad cA g2 t s2 nt9 f2 ∧ Rp f2 s2 (v.natAbs + w1.natAbs)) (fun (u : (Nat → va_E) × Nat × (Nat → Nat)) (t : State) => va_P (dC, dI) vwCl (wo ad NSc u.1) t.heap) A) ([.ref (ad (2 * t)), .ref (ad (2 * x)), .ref (ad (2 * y))] : List Value).toArray s (0) (0) A) (F0 m 35 ls []) := by
    intro k9
    induction k9 with
    | zero => intro i q cy g_11 fr_12 h9; exact absurd h9 (Nat.not_lt_zero _)
    | succ k9 ih_10 =>
      intro i q cy g_11 fr_12 h9 hi hqb hqd hcy hc1 f_13 H locs ls hP hS hl
      refine lv_iload hx hb dX8_addSizes_35 (lv_at hl 7 rfl) ?_
      refine lv_iload hx hb dX8_addSizes_37 (lv_at hl 5 rfl) ?_
      refine lv_icmp_ge (tgt := 116) hx hb dX8_addSizes_39 (by decide) (fun c_14 => ?_) (fun c_14 => ?_)
      · have c_14 := (nI_leI (a := rm) (b := i) (by omega) (by omega)).mp c_14
        have hir : i = rm := by omega
        rw [hir] at hqd
        have hlt : v.natAbs + w1.natAbs + 0 < 4294967296 ^ rm := by rw [hr9]; exact k_2pw2 (Nat.lt_of_lt_of_le rx9.lt (Nat.pow_le_pow_right (by decide) (by omega))) (Nat.lt_of_lt_of_le ry9.lt (Nat.pow_le_pow_right (by decide) (by omega)))
        have hge : rm = 1 ∨ 4294967296 ^ (rm - 2) ≤ v.natAbs + w1.natAbs + 0 := by rcases Nat.lt_or_ge sx9 sy9 with h9 | h9; have h8 := ry9.ge (by omega); rw [show rm - 2 = sy9 - 1 by omega]; right; omega; by_cases h7 : sx9 = 0; left; omega; have h8 := rx9.ge (by omega); rw [show rm - 2 = sx9 - 1 by omega]; right; omega
        refine lv_aload_n hx hb dX8_addSizes_116 rfl (lv_at hl 0 rfl) ?_
        refine lv_iload hx hb dX8_addSizes_117 (lv_at hl 5 rfl) ?_
        refine lv_if_le (tgt := 141) hx hb dX8_addSizes_119 (by decide) (fun c_15 => absurd ((nI_leI (a := rm) (b := 0) (by omega) (by decide)).mp c_15) (by omega)) (fun c_15 => ?_)
        refine lv_aload_n hx hb dX8_addSizes_122 rfl (lv_at hl 0 rfl) ?_
        have f_16 : g_11 (2 * t) = .inr (11, [.ref (ad (2 * t + 1)), .int (nI st9), .int (nI nt9)]) := (fr_12 (2 * t) (by omega)).trans at9
        refine m_get (D := (dC, dI)) (v := .ref (ad (2 * t + 1))) (C := RX8) (T := TX8) (N := 3) hx hb hts bk0 hown hK hP (2 * t) (ns_w (by omega)) f_16 rfl 0 (by decide) (hts (.fieldLink RX8 9 "GradientDesk$Whole" "words" "[I") (List.mem_of_getElem? (i := 2) rfl)) (fun _ h9 => h9) rfl dX8_addSizes_123 ?_
        refine lv_iload hx hb dX8_addSizes_126 (lv_at hl 5 rfl) ?_
        refine lv_iconst (v := nI 1) hx hb dX8_addSizes_128 (by decide +kernel) ?_
        refine lv_isub hx hb dX8_addSizes_129 ?_
        refine lv_topi (fun x_17 e_18 => ?_)
        obtain rfl : x_17 = nI (rm - 1) := e_18.trans (pk_sub (show 1 ≤ rm by omega))
        refine m_iald hx hb hK hP (2 * t + 1) (ns_w (by omega)) (tyc_w (by omega)) f_13 (i := rm - 1) (by omega) (by omega) dX8_addSizes_130 ?_
        have b_19 := hqb (rm - 1)
        refine lv_if_ne (tgt := 141) hx hb dX8_addSizes_131 (by decide) (fun c_20 => ?_) (fun c_20 => ?_)
        · have c_20 := mt (k_weq (a := (q (rm - 1))) (b := 0) (by omega) (by decide)).mpr c_20
          refine lv_iload hx hb dX8_addSizes_141 (lv_at hl 5 rfl) ?_
          refine m_put (D := (dC, dI)) (v := .int (nI rm)) (tv := .int) (C := RX8) (T := TX8) (N := 3) hx hb hts bk0 tyX8 tyX8_ok nmX8 hown hK hP hD hS (2 * t) (ns_w (by omega)) f_16 rfl 1 (by decide) (hts (.fieldLink RX8 15 "GradientDesk$Whole" "size" "I") (List.mem_of_getElem? (i := 1) rfl)) (fun _ h9 => h9) rfl (by decide +kernel) rfl rfl (Nat.le_of_ble_eq_true rfl) dX8_addSizes_143 (fun H locs g_21 f_22 fr_23 hP hS => ?_)
          have f_22 : g_21 (2 * t) = .inr (11, [.ref (ad (2 * t + 1)), .int (nI rm), .int (nI nt9)]) := f_22
          have f_24 : g_21 (2 * t + 1) = .inl (cA (2 * t + 1), rmc t, .inl (fun j => nI (q j))) := (fr_23 (2 * t + 1) (by omega)).trans f_13
          refine W.widen (k := 0) (n := 0) (by omega) (by omega) ?_
          exact W.vret hx hb hr (fun t9 ht9 hW9 => ⟨⟨(g_21, rm, (q)), rfl, ⟨(fun (k : Nat) (hk : k ≠ 2 * t ∧ k ≠ 2 * t + 1) => (fr_23 k (by omega)).trans ((fr_12 k (by omega)).trans (rfl))), ⟨f_22, f_24, hqb, by omega, by omega⟩, rp_tn hqd hlt (by omega)⟩, by show va_P (dC, dI) vwCl _ t9.heap; rw [ht9]; exact hP⟩, hS.F ht9⟩) hS.2.2 dX8_addSizes_146
        · have c_20 := (k_weq (a := (q (rm - 1))) (b := 0) (by omega) (by decide)).mp c_20
          refine lv_iload hx hb dX8_addSizes_134 (lv_at hl 5 rfl) ?_
          refine lv_iconst (v := nI 1) hx hb dX8_addSizes_136 (by decide +kernel) ?_
          refine lv_isub hx hb dX8_addSizes_137 ?_
          refine lv_topi (fun x_25 e_26 => ?_)
          obtain rfl : x_25 = nI (rm - 1) := e_26.trans (pk_sub (show 1 ≤ rm by omega))
          refine lv_goto (tgt := 143) hx hb dX8_addSizes_138 (by decide) ?_
          refine m_put (D := (dC, dI)) (v := .int (nI (rm - 1))) (tv := .int) (C := RX8) (T := TX8) (N := 3) hx hb hts bk0 tyX8 tyX8_ok nmX8 hown hK hP hD hS (2 * t) (ns_w (by omega)) f_16 rfl 1 (by decide) (hts (.fieldLink RX8 15 "GradientDesk$Whole" "size" "I") (List.mem_of_getElem? (i := 1) rfl)) (fun _ h9 => h9) rfl (by decide +kernel) rfl rfl (Nat.le_of_ble_eq_true rfl) dX8_addSizes_143 (fun H locs g_27 f_28 fr_29 hP hS => ?_)
          have f_28 : g_27 (2 * t) = .inr (11, [.ref (ad (2 * t + 1)), .int (nI (rm - 1)), .int (nI nt9)]) := f_28
          have f_30 : g_27 (2 * t + 1) = .inl (cA (2 * t + 1), rmc t, .inl (fun j => nI (q j))) := (fr_29 (2 * t + 1) (by omega)).trans f_13
          refine W.widen (k := 0) (n := 0) (by omega) (by omega) ?_
          exact W.vret hx hb hr (fun t9 ht9 hW9 => ⟨⟨(g_27, rm - 1, (q)), rfl, ⟨(fun (k : Nat) (hk : k ≠ 2 * t ∧ k ≠ 2 * t + 1) => (fr_29 k (by omega)).trans ((fr_12 k (by omega)).trans (rfl))), ⟨f_28, f_30, hqb, by omega, by omega⟩, rp_tz hqd hlt (by omega) (by omega) hge⟩, by show va_P (dC, dI) vwCl _ t9.heap; rw [ht9]; exact hP⟩, hS.F ht9⟩) hS.2.2 dX8_addSizes_146
      · have c_14 := mt (nI_leI (a := rm) (b := i) (by omega) (by omega)).mpr c_14
        refine lv_lload hx hb dX8_addSizes_42 (lv_at hl 6 rfl) ?_
        refine lv_iload hx hb dX8_addSizes_44 (lv_at hl 7 rfl) ?_
        refine lv_iload_n hx hb dX8_addSizes_46 rfl (lv_at hl 3 rfl) ?_
        refine lv_icmp_ge (tgt := 65) hx hb dX8_addSizes_47 (by decide) (fun c_31 => ?_) (fun c_31 => ?_)
        · have c_31 := (nI_leI (a := sx9) (b := i) (by omega) (by omega)).mp c_31
          refine lv_lconst (v := lN 0) hx hb dX8_addSizes_65 (by decide +kernel) ?_
          refine lv_iload hx hb dX8_addSizes_66 (lv_at hl 7 rfl) ?_
          refine lv_iload hx hb dX8_addSizes_68 (lv_at hl 4 rfl) ?_
          refine lv_icmp_ge (tgt := 88) hx hb dX8_addSizes_70 (by decide) (fun c_32 => ?_) (fun c_32 => ?_)
          · have c_32 := (nI_leI (a := sy9) (b := i) (by omega) (by omega)).mp c_32
            refine lv_lconst (v := lN 0) hx hb dX8_addSizes_88 (by decide +kernel) ?_
            refine lv_ladd hx hb dX8_addSizes_89 ?_
            refine lv_topl (fun y_33 e_34 => ?_)
            obtain rfl : y_33 = lN 0 := e_34.trans (lN_add 0 0)
            refine lv_ladd hx hb dX8_addSizes_90 ?_
            refine lv_topl (fun y_35 e_36 => ?_)
            obtain rfl : y_35 = lN cy := e_36.trans (lN_add cy 0)
            refine lv_lstore (lv' := [(6, .long (lN cy)), (0, .ref (ad (2 * t))), (1, .ref (ad (2 * x))), (2, .ref (ad (2 * y))), (3, .int (nI sx9)), (4, .int (nI sy9)), (5, .int (nI rm)), (8, .int (nI i))]) hx hb dX8_addSizes_91 hl (by decide) rfl (fun ls hl => ?_)
            have hdx : dgt v.natAbs i = 0 := rx9.dg0 (by omega)
            have hdy : dgt w1.natAbs i = 0 := ry9.dg0 (by omega)
            have hux := ux9 i
            have huy := uy9 i
            have hval : cy = dgt v.natAbs i + dgt w1.natAbs i + cy := by omega
            refine lv_aload_n hx hb dX8_addSizes_93 rfl (lv_at hl 1 rfl) ?_
            have f_37 : g_11 (2 * t) = .inr (11, [.ref (ad (2 * t + 1)), .int (nI st9), .int (nI nt9)]) := (fr_12 (2 * t) (by omega)).trans at9
            refine m_get (D := (dC, dI)) (v := .ref (ad (2 * t + 1))) (C := RX8) (T := TX8) (N := 3) hx hb hts bk0 hown hK hP (2 * t) (ns_w (by omega)) f_37 rfl 0 (by decide) (hts (.fieldLink RX8 9 "GradientDesk$Whole" "words" "[I") (List.mem_of_getElem? (i := 2) rfl)) (fun _ h9 => h9) rfl dX8_addSizes_94 ?_
            refine lv_iload hx hb dX8_addSizes_97 (lv_at hl 7 rfl) ?_
            refine lv_lload hx hb dX8_addSizes_99 (lv_at hl 0 rfl) ?_
            refine lv_l2i hx hb dX8_addSizes_101 rfl ?_
            refine lv_topi (fun x_38 e_39 => ?_)
            obtain rfl : x_38 = nI cy := e_39.trans (lN_i cy)
            rw [show nI cy = nI (cy % 4294967296) from nI_md _]
            refine m_iast hx hb hK hP hD hS (2 * t + 1) (ns_w (by omega)) (tyc_w (by omega)) f_13 (i := i) (x := nI (cy % 4294967296)) (by omega) (by omega) dX8_addSizes_102 (fun H locs g_40 f_41 fr_42 hP hS => ?_)
            rw [k_updI] at f_41
            have b_43 : ∀ j, (va_up q i (cy % 4294967296)) j < 4294967296 := k_up_lt hqb (by omega)
            have f_41 : g_40 (2 * t + 1) = .inl (cA (2 * t + 1), rmc t, .inl (fun j => nI ((va_up q i (cy % 4294967296)) j))) := f_41
            refine lv_lload hx hb dX8_addSizes_103 (lv_at hl 0 rfl) ?_
            refine lv_bipush (v := nI 32) hx hb dX8_addSizes_105 (by decide +kernel) ?_
            refine lv_lushr hx hb dX8_addSizes_107 rfl ?_
            refine lv_topl (fun y_44 e_45 => ?_)
            obtain rfl : y_44 = lN (cy / 4294967296) := e_45.trans ((wb_shr (n := cy) (k := 32) (by omega) (by decide)).trans rfl)
            refine lv_lstore (lv' := [(6, .long (lN (cy / 4294967296))), (0, .ref (ad (2 * t))), (1, .ref (ad (2 * x))), (2, .ref (ad (2 * y))), (3, .int (nI sx9)), (4, .int (nI sy9)), (5, .int (nI rm)), (8, .int (nI i))]) hx hb dX8_addSizes_108 hl (by decide) rfl (fun ls hl => ?_)
            refine lv_iinc (v := nI (i + 1)) (lv' := [(8, .int (nI (i + 1))), (6, .long (lN (cy / 4294967296))), (0, .ref (ad (2 * t))), (1, .ref (ad (2 * x))), (2, .ref (ad (2 * y))), (3, .int (nI sx9)), (4, .int (nI sy9)), (5, .int (nI rm))]) hx hb dX8_addSizes_110 hl (k := 7) rfl (nI_add i 1) (by decide) rfl (fun ls hl => ?_)
            refine lv_goto (tgt := 35) hx hb dX8_addSizes_113 (by decide) ?_
            exact ih_10 (i + 1) (va_up q i (cy % 4294967296)) (cy / 4294967296) g_40 (fun (k : Nat) (hk : k ≠ 2 * t + 1) => (fr_42 k (by omega)).trans ((fr_12 k (by omega)).trans (rfl))) (by omega) (by omega) b_43 (fun j hj => by by_cases hji : j = i; subst hji; rw [va_up_self, dgt_add, hval, ← hcy]; rw [va_up_ne _ _ hji]; exact hqd j (by omega)) (by rw [cr_s, hval, ← hcy]) (by omega) f_41 _ _ _ hP hS (lv_sub (l' := [(0, .ref (ad (2 * t))), (1, .ref (ad (2 * x))), (2, .ref (ad (2 * y))), (3, .int (nI sx9)), (4, .int (nI sy9)), (5, .int (nI rm)), (6, .long (lN (cy / 4294967296))), (8, .int (nI (i + 1)))]) hl [2, 3, 4, 5, 6, 7, 1, 0] rfl)
          · have c_32 := mt (nI_leI (a := sy9) (b := i) (by omega) (by omega)).mpr c_32
            refine lv_aload_n hx hb dX8_addSizes_73 rfl (lv_at hl 2 rfl) ?_
            have f_48 : g_11 (2 * y) = .inr (11, [.ref (ad (2 * y + 1)), .int (nI sy9), .int (nI ny9)]) := (fr_12 (2 * y) (by omega)).trans ay9
            refine m_get (D := (dC, dI)) (v := .ref (ad (2 * y + 1))) (C := RX8) (T := TX8) (N := 3) hx hb hts bk0 hown hK hP (2 * y) (ns_w (by omega)) f_48 rfl 0 (by decide) (hts (.fieldLink RX8 9 "GradientDesk$Whole" "words" "[I") (List.mem_of_getElem? (i := 2) rfl)) (fun _ h9 => h9) rfl dX8_addSizes_74 ?_
            refine lv_iload hx hb dX8_addSizes_77 (lv_at hl 7 rfl) ?_
            have f_49 : g_11 (2 * y + 1) = .inl (cA (2 * y + 1), rmc y, .inl (fun j => nI (fy9 j))) := (fr_12 (2 * y + 1) (by omega)).trans by9
            refine m_iald hx hb hK hP (2 * y + 1) (ns_w (by omega)) (tyc_w (by omega)) f_49 (i := i) (by omega) (by omega) dX8_addSizes_79 ?_
            have b_50 := uy9 i
            refine lv_i2l hx hb dX8_addSizes_80 rfl ?_
            refine lv_topl (fun y_51 e_52 => ?_)
            subst e_52
            refine lv_ldc2 (v := 4294967295) hx hb hown (hts (.constantLong RX8 48 (4294967295)) (List.mem_of_getElem? (i := 10) rfl)) dX8_addSizes_81 ?_
            refine lv_topl (fun y_53 e_54 => ?_)
            obtain rfl : y_53 = lN 4294967295 := e_54
            refine lv_land hx hb dX8_addSizes_84 ?_
            refine lv_topl (fun y_55 e_56 => ?_)
            obtain rfl : y_55 = lN (fy9 i) := e_56.trans (k_word b_50)
            refine lv_goto (tgt := 89) hx hb dX8_addSizes_85 (by decide) ?_
            refine lv_ladd hx hb dX8_addSizes_89 ?_
            refine lv_topl (fun y_57 e_58 => ?_)
            obtain rfl : y_57 = lN (fy9 i) := e_58.trans ((lN_add 0 (fy9 i)).trans (congrArg lN (Nat.zero_add _)))
            refine lv_ladd hx hb dX8_addSizes_90 ?_
            refine lv_topl (fun y_59 e_60 => ?_)
            obtain rfl : y_59 = lN (cy + (fy9 i)) := e_60.trans (lN_add cy (fy9 i))
            refine lv_lstore (lv' := [(6, .long (lN (cy + (fy9 i)))), (0, .ref (ad (2 * t))), (1, .ref (ad (2 * x))), (2, .ref (ad (2 * y))), (3, .int (nI sx9)), (4, .int (nI sy9)), (5, .int (nI rm)), (8, .int (nI i))]) hx hb dX8_addSizes_91 hl (by decide) rfl (fun ls hl => ?_)
            have hdx : dgt v.natAbs i = 0 := rx9.dg0 (by omega)
            have hdy : fy9 i = dgt w1.natAbs i := ry9.dg (by omega)
            have hux := ux9 i
            have huy := uy9 i
            have hval : cy + (fy9 i) = dgt v.natAbs i + dgt w1.natAbs i + cy := by omega
            refine lv_aload_n hx hb dX8_addSizes_93 rfl (lv_at hl 1 rfl) ?_
            have f_61 : g_11 (2 * t) = .inr (11, [.ref (ad (2 * t + 1)), .int (nI st9), .int (nI nt9)]) := (fr_12 (2 * t) (by omega)).trans at9
            refine m_get (D := (dC, dI)) (v := .ref (ad (2 * t + 1))) (C := RX8) (T := TX8) (N := 3) hx hb hts bk0 hown hK hP (2 * t) (ns_w (by omega)) f_61 rfl 0 (by decide) (hts (.fieldLink RX8 9 "GradientDesk$Whole" "words" "[I") (List.mem_of_getElem? (i := 2) rfl)) (fun _ h9 => h9) rfl dX8_addSizes_94 ?_
            refine lv_iload hx hb dX8_addSizes_97 (lv_at hl 7 rfl) ?_
            refine lv_lload hx hb dX8_addSizes_99 (lv_at hl 0 rfl) ?_
            refine lv_l2i hx hb dX8_addSizes_101 rfl ?_
            refine lv_topi (fun x_62 e_63 => ?_)
            obtain rfl : x_62 = nI (cy + (fy9 i)) := e_63.trans (lN_i (cy + (fy9 i)))
            rw [show nI (cy + (fy9 i)) = nI ((cy + (fy9 i)) % 4294967296) from nI_md _]
            refine m_iast hx hb hK hP hD hS (2 * t + 1) (ns_w (by omega)) (tyc_w (by omega)) f_13 (i := i) (x := nI ((cy + (fy9 i)) % 4294967296)) (by omega) (by omega) dX8_addSizes_102 (fun H locs g_64 f_65 fr_66 hP hS => ?_)
            rw [k_updI] at f_65
            have b_67 : ∀ j, (va_up q i ((cy + (fy9 i)) % 4294967296)) j < 4294967296 := k_up_lt hqb (by omega)
            have f_65 : g_64 (2 * t + 1) = .inl (cA (2 * t + 1), rmc t, .inl (fun j => nI ((va_up q i ((cy + (fy9 i)) % 4294967296)) j))) := f_65
            refine lv_lload hx hb dX8_addSizes_103 (lv_at hl 0 rfl) ?_
            refine lv_bipush (v := nI 32) hx hb dX8_addSizes_105 (by decide +kernel) ?_
            refine lv_lushr hx hb dX8_addSizes_107 rfl ?_
            refine lv_topl (fun y_68 e_69 => ?_)
            obtain rfl : y_68 = lN ((cy + (fy9 i)) / 4294967296) := e_69.trans ((wb_shr (n := (cy + (fy9 i))) (k := 32) (by omega) (by decide)).trans rfl)
            refine lv_lstore (lv' := [(6, .long (lN ((cy + (fy9 i)) / 4294967296))), (0, .ref (ad (2 * t))), (1, .ref (ad (2 * x))), (2, .ref (ad (2 * y))), (3, .int (nI sx9)), (4, .int (nI sy9)), (5, .int (nI rm)), (8, .int (nI i))]) hx hb dX8_addSizes_108 hl (by decide) rfl (fun ls hl => ?_)
            refine lv_iinc (v := nI (i + 1)) (lv' := [(8, .int (nI (i + 1))), (6, .long (lN ((cy + (fy9 i)) / 4294967296))), (0, .ref (ad (2 * t))), (1, .ref (ad (2 * x))), (2, .ref (ad (2 * y))), (3, .int (nI sx9)), (4, .int (nI sy9)), (5, .int (nI rm))]) hx hb dX8_addSizes_110 hl (k := 7) rfl (nI_add i 1) (by decide) rfl (fun ls hl => ?_)
            refine lv_goto (tgt := 35) hx hb dX8_addSizes_113 (by decide) ?_
            exact ih_10 (i + 1) (va_up q i ((cy + (fy9 i)) % 4294967296)) ((cy + (fy9 i)) / 4294967296) g_64 (fun (k : Nat) (hk : k ≠ 2 * t + 1) => (fr_66 k (by omega)).trans ((fr_12 k (by omega)).trans (rfl))) (by omega) (by omega) b_67 (fun j hj => by by_cases hji : j = i; subst hji; rw [va_up_self, dgt_add, hval, ← hcy]; rw [va_up_ne _ _ hji]; exact hqd j (by omega)) (by rw [cr_s, hval, ← hcy]) (by omega) f_65 _ _ _ hP hS (lv_sub (l' := [(0, .ref (ad (2 * t))), (1, .ref (ad (2 * x))), (2, .ref (ad (2 * y))), (3, .int (nI sx9)), (4, .int (nI sy9)), (5, .int (nI rm)), (6, .long (lN ((cy + (fy9 i)) / 4294967296))), (8, .int (nI (i + 1)))]) hl [2, 3, 4, 5, 6, 7, 1, 0] rfl)
        · have c_31 := mt (nI_leI (a := sx9) (b := i) (by omega) (by omega)).mpr c_31
          refine lv_aload_n hx hb dX8_addSizes_50 rfl (lv_at hl 1 rfl) ?_
          have f_72 : g_11 (2 * x) = .inr (11, [.ref (ad (2 * x + 1)), .int (nI sx9), .int (nI nx9)]) := (fr_12 (2 * x) (by omega)).trans ax9
          refine m_get (D := (dC, dI)) (v := .ref (ad (2 * x + 1))) (C := RX8) (T := TX8) (N := 3) hx hb hts bk0 hown hK hP (2 * x) (ns_w (by omega)) f_72 rfl 0 (by decide) (hts (.fieldLink RX8 9 "GradientDesk$Whole" "words" "[I") (List.mem_of_getElem? (i := 2) rfl)) (fun _ h9 => h9) rfl dX8_addSizes_51 ?_
          refine lv_iload hx hb dX8_addSizes_54 (lv_at hl 7 rfl) ?_
          have f_73 : g_11 (2 * x + 1) = .inl (cA (2 * x + 1), rmc x, .inl (fun j => nI (fx9 j))) := (fr_12 (2 * x + 1) (by omega)).trans bx9
          refine m_iald hx hb hK hP (2 * x + 1) (ns_w (by omega)) (tyc_w (by omega)) f_73 (i := i) (by omega) (by omega) dX8_addSizes_56 ?_
          have b_74 := ux9 i
          refine lv_i2l hx hb dX8_addSizes_57 rfl ?_
          refine lv_topl (fun y_75 e_76 => ?_)
          subst e_76
          refine lv_ldc2 (v := 4294967295) hx hb hown (hts (.constantLong RX8 48 (4294967295)) (List.mem_of_getElem? (i := 10) rfl)) dX8_addSizes_58 ?_
          refine lv_topl (fun y_77 e_78 => ?_)
          obtain rfl : y_77 = lN 4294967295 := e_78
          refine lv_land hx hb dX8_addSizes_61 ?_
          refine lv_topl (fun y_79 e_80 => ?_)
          obtain rfl : y_79 = lN (fx9 i) := e_80.trans (k_word b_74)
          refine lv_goto (tgt := 66) hx hb dX8_addSizes_62 (by decide) ?_
          refine lv_iload hx hb dX8_addSizes_66 (lv_at hl 7 rfl) ?_
          refine lv_iload hx hb dX8_addSizes_68 (lv_at hl 4 rfl) ?_
          refine lv_icmp_ge (tgt := 88) hx hb dX8_addSizes_70 (by decide) (fun c_81 => ?_) (fun c_81 => ?_)
          · have c_81 := (nI_leI (a := sy9) (b := i) (by omega) (by omega)).mp c_81
            refine lv_lconst (v := lN 0) hx hb dX8_addSizes_88 (by decide +kernel) ?_
            refine lv_ladd hx hb dX8_addSizes_89 ?_
            refine lv_topl (fun y_82 e_83 => ?_)
            obtain rfl : y_82 = lN (fx9 i) := e_83.trans (lN_add (fx9 i) 0)
            refine lv_ladd hx hb dX8_addSizes_90 ?_
            refine lv_topl (fun y_84 e_85 => ?_)
            obtain rfl : y_84 = lN (cy + (fx9 i)) := e_85.trans (lN_add cy (fx9 i))
            refine lv_lstore (lv' := [(6, .long (lN (cy + (fx9 i)))), (0, .ref (ad (2 * t))), (1, .ref (ad (2 * x))), (2, .ref (ad (2 * y))), (3, .int (nI sx9)), (4, .int (nI sy9)), (5, .int (nI rm)), (8, .int (nI i))]) hx hb dX8_addSizes_91 hl (by decide) rfl (fun ls hl => ?_)
            have hdx : fx9 i = dgt v.natAbs i := rx9.dg (by omega)
            have hdy : dgt w1.natAbs i = 0 := ry9.dg0 (by omega)
            have hux := ux9 i
            have huy := uy9 i
            have hval : cy + (fx9 i) = dgt v.natAbs i + dgt w1.natAbs i + cy := by omega
            refine lv_aload_n hx hb dX8_addSizes_93 rfl (lv_at hl 1 rfl) ?_
            have f_86 : g_11 (2 * t) = .inr (11, [.ref (ad (2 * t + 1)), .int (nI st9), .int (nI nt9)]) := (fr_12 (2 * t) (by omega)).trans at9
            refine m_get (D := (dC, dI)) (v := .ref (ad (2 * t + 1))) (C := RX8) (T := TX8) (N := 3) hx hb hts bk0 hown hK hP (2 * t) (ns_w (by omega)) f_86 rfl 0 (by decide) (hts (.fieldLink RX8 9 "GradientDesk$Whole" "words" "[I") (List.mem_of_getElem? (i := 2) rfl)) (fun _ h9 => h9) rfl dX8_addSizes_94 ?_
            refine lv_iload hx hb dX8_addSizes_97 (lv_at hl 7 rfl) ?_
            refine lv_lload hx hb dX8_addSizes_99 (lv_at hl 0 rfl) ?_
            refine lv_l2i hx hb dX8_addSizes_101 rfl ?_
            refine lv_topi (fun x_87 e_88 => ?_)
            obtain rfl : x_87 = nI (cy + (fx9 i)) := e_88.trans (lN_i (cy + (fx9 i)))
            rw [show nI (cy + (fx9 i)) = nI ((cy + (fx9 i)) % 4294967296) from nI_md _]
            refine m_iast hx hb hK hP hD hS (2 * t + 1) (ns_w (by omega)) (tyc_w (by omega)) f_13 (i := i) (x := nI ((cy + (fx9 i)) % 4294967296)) (by omega) (by omega) dX8_addSizes_102 (fun H locs g_89 f_90 fr_91 hP hS => ?_)
            rw [k_updI] at f_90
            have b_92 : ∀ j, (va_up q i ((cy + (fx9 i)) % 4294967296)) j < 4294967296 := k_up_lt hqb (by omega)
            have f_90 : g_89 (2 * t + 1) = .inl (cA (2 * t + 1), rmc t, .inl (fun j => nI ((va_up q i ((cy + (fx9 i)) % 4294967296)) j))) := f_90
            refine lv_lload hx hb dX8_addSizes_103 (lv_at hl 0 rfl) ?_
            refine lv_bipush (v := nI 32) hx hb dX8_addSizes_105 (by decide +kernel) ?_
            refine lv_lushr hx hb dX8_addSizes_107 rfl ?_
            refine lv_topl (fun y_93 e_94 => ?_)
            obtain rfl : y_93 = lN ((cy + (fx9 i)) / 4294967296) := e_94.trans ((wb_shr (n := (cy + (fx9 i))) (k := 32) (by omega) (by decide)).trans rfl)
            refine lv_lstore (lv' := [(6, .long (lN ((cy + (fx9 i)) / 4294967296))), (0, .ref (ad (2 * t))), (1, .ref (ad (2 * x))), (2, .ref (ad (2 * y))), (3, .int (nI sx9)), (4, .int (nI sy9)), (5, .int (nI rm)), (8, .int (nI i))]) hx hb dX8_addSizes_108 hl (by decide) rfl (fun ls hl => ?_)
            refine lv_iinc (v := nI (i + 1)) (lv' := [(8, .int (nI (i + 1))), (6, .long (lN ((cy + (fx9 i)) / 4294967296))), (0, .ref (ad (2 * t))), (1, .ref (ad (2 * x))), (2, .ref (ad (2 * y))), (3, .int (nI sx9)), (4, .int (nI sy9)), (5, .int (nI rm))]) hx hb dX8_addSizes_110 hl (k := 7) rfl (nI_add i 1) (by decide) rfl (fun ls hl => ?_)
            refine lv_goto (tgt := 35) hx hb dX8_addSizes_113 (by decide) ?_
            exact ih_10 (i + 1) (va_up q i ((cy + (fx9 i)) % 4294967296)) ((cy + (fx9 i)) / 4294967296) g_89 (fun (k : Nat) (hk : k ≠ 2 * t + 1) => (fr_91 k (by omega)).trans ((fr_12 k (by omega)).trans (rfl))) (by omega) (by omega) b_92 (fun j hj => by by_cases hji : j = i; subst hji; rw [va_up_self, dgt_add, hval, ← hcy]; rw [va_up_ne _ _ hji]; exact hqd j (by omega)) (by rw [cr_s, hval, ← hcy]) (by omega) f_90 _ _ _ hP hS (lv_sub (l' := [(0, .ref (ad (2 * t))), (1, .ref (ad (2 * x))), (2, .ref (ad (2 * y))), (3, .int (nI sx9)), (4, .int (nI sy9)), (5, .int (nI rm)), (6, .long (lN ((cy + (fx9 i)) / 4294967296))), (8, .int (nI (i + 1)))]) hl [2, 3, 4, 5, 6, 7, 1, 0] rfl)
          · have c_81 := mt (nI_leI (a := sy9) (b := i) (by omega) (by omega)).mpr c_81
            refine lv_aload_n hx hb dX8_addSizes_73 rfl (lv_at hl 2 rfl) ?_
            have f_97 : g_11 (2 * y) = .inr (11, [.ref (ad (2 * y + 1)), .int (nI sy9), .int (nI ny9)]) := (fr_12 (2 * y) (by omega)).trans ay9
            refine m_get (D := (dC, dI)) (v := .ref (ad (2 * y + 1))) (C := RX8) (T := TX8) (N := 3) hx hb hts bk0 hown hK hP (2 * y) (ns_w (by omega)) f_97 rfl 0 (by decide) (hts (.fieldLink RX8 9 "GradientDesk$Whole" "words" "[I") (List.mem_of_getElem? (i := 2) rfl)) (fun _ h9 => h9) rfl dX8_addSizes_74 ?_
            refine lv_iload hx hb dX8_addSizes_77 (lv_at hl 7 rfl) ?_
            have f_98 : g_11 (2 * y + 1) = .inl (cA (2 * y + 1), rmc y, .inl (fun j => nI (fy9 j))) := (fr_12 (2 * y + 1) (by omega)).trans by9
            refine m_iald hx hb hK hP (2 * y + 1) (ns_w (by omega)) (tyc_w (by omega)) f_98 (i := i) (by omega) (by omega) dX8_addSizes_79 ?_
            have b_99 := uy9 i
            refine lv_i2l hx hb dX8_addSizes_80 rfl ?_
            refine lv_topl (fun y_100 e_101 => ?_)
            subst e_101
            refine lv_ldc2 (v := 4294967295) hx hb hown (hts (.constantLong RX8 48 (4294967295)) (List.mem_of_getElem? (i := 10) rfl)) dX8_addSizes_81 ?_
            refine lv_topl (fun y_102 e_103 => ?_)
            obtain rfl : y_102 = lN 4294967295 := e_103
            refine lv_land hx hb dX8_addSizes_84 ?_
            refine lv_topl (fun y_104 e_105 => ?_)
            obtain rfl : y_104 = lN (fy9 i) := e_105.trans (k_word b_99)
            refine lv_goto (tgt := 89) hx hb dX8_addSizes_85 (by decide) ?_
            refine lv_ladd hx hb dX8_addSizes_89 ?_
            refine lv_topl (fun y_106 e_107 => ?_)
            obtain rfl : y_106 = lN (fx9 i + (fy9 i)) := e_107.trans (lN_add (fx9 i) (fy9 i))
            refine lv_ladd hx hb dX8_addSizes_90 ?_
            refine lv_topl (fun y_108 e_109 => ?_)
            obtain rfl : y_108 = lN (cy + (fx9 i + (fy9 i))) := e_109.trans (lN_add cy (fx9 i + (fy9 i)))
            refine lv_lstore (lv' := [(6, .long (lN (cy + (fx9 i + (fy9 i))))), (0, .ref (ad (2 * t))), (1, .ref (ad (2 * x))), (2, .ref (ad (2 * y))), (3, .int (nI sx9)), (4, .int (nI sy9)), (5, .int (nI rm)), (8, .int (nI i))]) hx hb dX8_addSizes_91 hl (by decide) rfl (fun ls hl => ?_)
            have hdx : fx9 i = dgt v.natAbs i := rx9.dg (by omega)
            have hdy : fy9 i = dgt w1.natAbs i := ry9.dg (by omega)
            have hux := ux9 i
            have huy := uy9 i
            have hval : cy + (fx9 i + (fy9 i)) = dgt v.natAbs i + dgt w1.natAbs i + cy := by omega
            refine lv_aload_n hx hb dX8_addSizes_93 rfl (lv_at hl 1 rfl) ?_
            have f_110 : g_11 (2 * t) = .inr (11, [.ref (ad (2 * t + 1)), .int (nI st9), .int (nI nt9)]) := (fr_12 (2 * t) (by omega)).trans at9
            refine m_get (D := (dC, dI)) (v := .ref (ad (2 * t + 1))) (C := RX8) (T := TX8) (N := 3) hx hb hts bk0 hown hK hP (2 * t) (ns_w (by omega)) f_110 rfl 0 (by decide) (hts (.fieldLink RX8 9 "GradientDesk$Whole" "words" "[I") (List.mem_of_getElem? (i := 2) rfl)) (fun _ h9 => h9) rfl dX8_addSizes_94 ?_
            refine lv_iload hx hb dX8_addSizes_97 (lv_at hl 7 rfl) ?_
            refine lv_lload hx hb dX8_addSizes_99 (lv_at hl 0 rfl) ?_
            refine lv_l2i hx hb dX8_addSizes_101 rfl ?_
            refine lv_topi (fun x_111 e_112 => ?_)
            obtain rfl : x_111 = nI (cy + (fx9 i + (fy9 i))) := e_112.trans (lN_i (cy + (fx9 i + (fy9 i))))
            rw [show nI (cy + (fx9 i + (fy9 i))) = nI ((cy + (fx9 i + (fy9 i))) % 4294967296) from nI_md _]
            refine m_iast hx hb hK hP hD hS (2 * t + 1) (ns_w (by omega)) (tyc_w (by omega)) f_13 (i := i) (x := nI ((cy + (fx9 i + (fy9 i))) % 4294967296)) (by omega) (by omega) dX8_addSizes_102 (fun H locs g_113 f_114 fr_115 hP hS => ?_)
            rw [k_updI] at f_114
            have b_116 : ∀ j, (va_up q i ((cy + (fx9 i + (fy9 i))) % 4294967296)) j < 4294967296 := k_up_lt hqb (by omega)
            have f_114 : g_113 (2 * t + 1) = .inl (cA (2 * t + 1), rmc t, .inl (fun j => nI ((va_up q i ((cy + (fx9 i + (fy9 i))) % 4294967296)) j))) := f_114
            refine lv_lload hx hb dX8_addSizes_103 (lv_at hl 0 rfl) ?_
            refine lv_bipush (v := nI 32) hx hb dX8_addSizes_105 (by decide +kernel) ?_
            refine lv_lushr hx hb dX8_addSizes_107 rfl ?_
            refine lv_topl (fun y_117 e_118 => ?_)
            obtain rfl : y_117 = lN ((cy + (fx9 i + (fy9 i))) / 4294967296) := e_118.trans ((wb_shr (n := (cy + (fx9 i + (fy9 i)))) (k := 32) (by omega) (by decide)).trans rfl)
            refine lv_lstore (lv' := [(6, .long (lN ((cy + (fx9 i + (fy9 i))) / 4294967296))), (0, .ref (ad (2 * t))), (1, .ref (ad (2 * x))), (2, .ref (ad (2 * y))), (3, .int (nI sx9)), (4, .int (nI sy9)), (5, .int (nI rm)), (8, .int (nI i))]) hx hb dX8_addSizes_108 hl (by decide) rfl (fun ls hl => ?_)
            refine lv_iinc (v := nI (i + 1)) (lv' := [(8, .int (nI (i + 1))), (6, .long (lN ((cy + (fx9 i + (fy9 i))) / 4294967296))), (0, .ref (ad (2 * t))), (1, .ref (ad (2 * x))), (2, .ref (ad (2 * y))), (3, .int (nI sx9)), (4, .int (nI sy9)), (5, .int (nI rm))]) hx hb dX8_addSizes_110 hl (k := 7) rfl (nI_add i 1) (by decide) rfl (fun ls hl => ?_)
            refine lv_goto (tgt := 35) hx hb dX8_addSizes_113 (by decide) ?_
            exact ih_10 (i + 1) (va_up q i ((cy + (fx9 i + (fy9 i))) % 4294967296)) ((cy + (fx9 i + (fy9 i))) / 4294967296) g_113 (fun (k : Nat) (hk : k ≠ 2 * t + 1) => (fr_115 k (by omega)).trans ((fr_12 k (by omega)).trans (rfl))) (by omega) (by omega) b_116 (fun j hj => by by_cases hji : j = i; subst hji; rw [va_up_self, dgt_add, hval, ← hcy]; rw [va_up_ne _ _ hji]; exact hqd j (by omega)) (by rw [cr_s, hval, ← hcy]) (by omega) f_114 _ _ _ hP hS (lv_sub (l' := [(0, .ref (ad (2 * t))), (1, .ref (ad (2 * x))), (2, .ref (ad (2 * y))), (3, .int (nI sx9)), (4, .int (nI sy9)), (5, .int (nI rm)), (6, .long (lN ((cy + (fx9 i + (fy9 i))) / 4294967296))), (8, .int (nI (i + 1)))]) hl [2, 3, 4, 5, 6, 7, 1, 0] rfl)
  exact loop_9 _ 0 ft9 0 g (fun (k : Nat) (hk : k ≠ 2 * t + 1) => rfl) (Nat.lt_succ_self _) (by omega) ut9 (fun j h => absurd h (by omega)) ((cr_0 _ _ _).symm) (by decide) bt9 _ _ _ hP hS (lv_sub (l' := [(0, .ref (ad (2 * t))), (1, .ref (ad (2 * x))), (2, .ref (ad (2 * y))), (3, .int (nI sx9)), (4, .int (nI sy9)), (5, .int (nI rm)), (6, .long (lN 0)), (8, .int (nI 0))]) hl [5, 6, 7, 4, 3, 2, 1, 0] rfl)
def wd_V8_take3 : List Cond := .code yX8_takeSizes cX8_takeSizes 10 none :: (([.fieldLink RX8 9 "GradientDesk$Whole" "words" "[I", .fieldLink RX8 15 "GradientDesk$Whole" "size" "I", .methodLink RX8 29 Lib.Math.min.name, .static Lib.Math.min.name, .initialized "java/lang/Math", .code Lib.Math.min.name Lib.Math.min.code 2 (some .int), .constantLong RX8 48 (4294967295)] : List Cond) ++ (u_ws RX8 TX8 3 ++ ([])))
theorem gw_V8_take3 : wd_V8_take3.all goodWord = true := k_allc rfl (k_all (by decide +kernel) (k_all (gu_X8) (rfl)))
set_option maxHeartbeats 4000000 in
set_option maxRecDepth 100000 in
theorem c_V8_take3 (l : Launch) (dC : Nat → ClassId) (dI : Nat → Nat → Nat) (A : Nat → Prop) (ad : Nat → Nat) (cA : Nat → ClassId) (g : Nat → va_E) (t : Nat) (x : Nat) (y : Nat) (v : Int) (w1 : Int) (st9 : Nat) (nt9 : Nat) (ft9 : Nat → Nat) (it : t < 1038) (ix : x < 1038) (iy : y < 1038) (hT : WN ad cA g t st9 nt9 ft9) (vx : WV ad cA g x v) (htx : t ≠ x) (hfit : v.natAbs < 4294967296 ^ rmc t) (vy : WV ad cA g y w1) (hty : t ≠ y) (hle : w1.natAbs ≤ v.natAbs) : Met l yX8_takeSizes wd_V8_take3 ({ frames := 10, cells := 0, slots := 0, locals := 200 }) (va_Pc [.ref (ad (2 * t)), .ref (ad (2 * x)), .ref (ad (2 * y))] (PR NSc tyc dC dI A ad cA g)) (va_Qv (fun (u : (Nat → va_E) × Nat × (Nat → Nat)) => match u with | (g2, s2, f2) => (∀ k, k ≠ 2 * t ∧ k ≠ 2 * t + 1 → g2 k = g k) ∧ WN ad cA g2 t s2 nt9 f2 ∧ Rp f2 s2 (v.natAbs - w1.natAbs)) (fun (u : (Nat → va_E) × Nat × (Nat → Nat)) (t : State) => va_P (dC, dI) vwCl (wo ad NSc u.1) t.heap) A) (0) (0) A := by
  refine Met.ofW (cc := cX8_takeSizes) (maxL := 10) (ret := none) (by decide) rfl ?_
  intro p e s m args below meth c s₁ B hml hv
  obtain ⟨rfl, hA, hP, hL⟩ := hv
  have hx := B.exec
  have hb := B.bytes
  have hr := B.returns
  have hts := atoms_spec (ws := wd_V8_take3) B.pre
  have hown : s.vm.findClass RX8 = some m.cls := findClass_of_methodNamed B.named
  have hlocks := B.notSynchronized
  have hK := hL.1
  have hD : ∀ g, va_D A (wo ad NSc g) := fun g => wo_D hL.2.1 hL.2.2 g
  have hS : va_S A s.heap s.heap [] := va_S.rf
  have bk0 : ∀ w ∈ u_ws RX8 TX8 3, w ∈ wd_V8_take3 := fun _ h => List.mem_cons_of_mem _ (List.mem_append_right _ (List.mem_append_left _ h))
  have hl := lv_entry ([.ref (ad (2 * t)), .ref (ad (2 * x)), .ref (ad (2 * y))]) (n := 10) (Nat.le_of_ble_eq_true rfl)
  rw [lg_entry_eq]
  generalize (lg_sl ([.ref (ad (2 * t)), .ref (ad (2 * x)), .ref (ad (2 * y))]) ++ List.replicate (10 - (lg_sl ([.ref (ad (2 * t)), .ref (ad (2 * x)), .ref (ad (2 * y))])).length) Slot.unset).toArray = ls at hl ⊢
  have hl : lv_has ls 10 [(0, .ref (ad (2 * t))), (1, .ref (ad (2 * x))), (2, .ref (ad (2 * y)))] := hl
  obtain ⟨at9, bt9, ut9, ct9, et9⟩ := hT
  have qt9 := rmc_le t
  obtain ⟨sx9, nx9, fx9, ⟨ax9, bx9, ux9, cx9, ex9⟩, rx9, gx9⟩ := vx
  have qx9 := rmc_le x
  have hsa := rx9.le_of hfit
  obtain ⟨sy9, ny9, fy9, ⟨ay9, by9, uy9, cy9, ey9⟩, ry9, gy9⟩ := vy
  have qy9 := rmc_le y
  refine lv_aload_n hx hb dX8_takeSizes_0 rfl (lv_at hl 0 rfl) ?_
  refine m_get (D := (dC, dI)) (v := .ref (ad (2 * t + 1))) (C := RX8) (T := TX8) (N := 3) hx hb hts bk0 hown hK hP (2 * t) (ns_w (by omega)) at9 rfl 0 (by decide) (hts (.fieldLink RX8 9 "GradientDesk$Whole" "words" "[I") (List.mem_of_getElem? (i := 1) rfl)) (fun _ h9 => h9) rfl dX8_takeSizes_1 ?_
  refine m_alen hx hb hK hP (2 * t + 1) (ns_w (by omega)) bt9 dX8_takeSizes_4 ?_
  refine lv_aload_n hx hb dX8_takeSizes_5 rfl (lv_at hl 1 rfl) ?_
  refine m_get (D := (dC, dI)) (v := .int (nI sx9)) (C := RX8) (T := TX8) (N := 3) hx hb hts bk0 hown hK hP (2 * x) (ns_w (by omega)) ax9 rfl 1 (by decide) (hts (.fieldLink RX8 15 "GradientDesk$Whole" "size" "I") (List.mem_of_getElem? (i := 2) rfl)) (fun _ h9 => h9) rfl dX8_takeSizes_6 ?_
  refine va_mmin hx hb (by rw [hml]; exact hl.1.symm) hown (hts (.methodLink RX8 29 Lib.Math.min.name) (List.mem_of_getElem? (i := 3) rfl)) (hts (.static Lib.Math.min.name) (List.mem_of_getElem? (i := 4) rfl)) (hts (.initialized "java/lang/Math") (List.mem_of_getElem? (i := 5) rfl)) (hts (.code Lib.Math.min.name Lib.Math.min.code 2 (some .int)) (List.mem_of_getElem? (i := 6) rfl)) (Nat.le_of_ble_eq_true rfl) (Nat.le_of_ble_eq_true rfl) (Nat.le_of_ble_eq_true rfl) (Nat.le_of_ble_eq_true rfl) dX8_takeSizes_9 ?_
  refine lv_topi (fun x_2 e_3 => ?_)
  obtain ⟨q_1, hq_1, eq_1⟩ : ∃ z : Nat, z = min (rmc t) sx9 ∧ x_2 = nI z := ⟨_, rfl, by rw [e_3]; exact k_min (by omega) (by omega)⟩
  subst eq_1
  refine lv_istore_n (lv' := [(3, .int (nI q_1)), (0, .ref (ad (2 * t))), (1, .ref (ad (2 * x))), (2, .ref (ad (2 * y)))]) hx hb dX8_takeSizes_12 rfl hl (by decide) rfl (fun ls hl => ?_)
  refine lv_aload_n hx hb dX8_takeSizes_13 rfl (lv_at hl 3 rfl) ?_
  refine m_get (D := (dC, dI)) (v := .int (nI sy9)) (C := RX8) (T := TX8) (N := 3) hx hb hts bk0 hown hK hP (2 * y) (ns_w (by omega)) ay9 rfl 1 (by decide) (hts (.fieldLink RX8 15 "GradientDesk$Whole" "size" "I") (List.mem_of_getElem? (i := 2) rfl)) (fun _ h9 => h9) rfl dX8_takeSizes_14 ?_
  refine lv_istore (lv' := [(4, .int (nI sy9)), (3, .int (nI q_1)), (0, .ref (ad (2 * t))), (1, .ref (ad (2 * x))), (2, .ref (ad (2 * y)))]) hx hb dX8_takeSizes_17 hl (by decide) rfl (fun ls hl => ?_)
  have hrm : q_1 = sx9 := by omega
  rw [hrm] at hl
  refine lv_lconst (v := lN 0) hx hb dX8_takeSizes_19 (by decide +kernel) ?_
  refine lv_lstore (lv' := [(5, .long (lN 0)), (4, .int (nI sy9)), (3, .int (nI sx9)), (0, .ref (ad (2 * t))), (1, .ref (ad (2 * x))), (2, .ref (ad (2 * y)))]) hx hb dX8_takeSizes_20 hl (by decide) rfl (fun ls hl => ?_)
  refine lv_iconst (v := nI 0) hx hb dX8_takeSizes_22 (by decide +kernel) ?_
  refine lv_istore (lv' := [(7, .int (nI 0)), (5, .long (lN 0)), (4, .int (nI sy9)), (3, .int (nI sx9)), (0, .ref (ad (2 * t))), (1, .ref (ad (2 * x))), (2, .ref (ad (2 * y)))]) hx hb dX8_takeSizes_23 hl (by decide) rfl (fun ls hl => ?_)
  have loop_4 : ∀ (k9 : Nat) (i : Nat) (q : Nat → Nat) (bo : Nat) (g_6 : Nat → va_E) (fr_7 : ∀ k, (k ≠ 2 * t + 1) → g_6 k = g k), 5000 - i < k9 → (i ≤ sx9) → (∀ j, q j < 4294967296) → (∀ j, j < i → q j = dgt (v.natAbs - w1.natAbs) j) → (bo = bw v.natAbs w1.natAbs i) → (bo ≤ 1) → (g_6 (2 * t + 1) = .inl (cA (2 * t + 1), rmc t, .inl (fun j => nI (q j)))) → ∀ (H : Heap) (locs : List Loc) (ls : Array Slot), va_P (dC, dI) vwCl (wo ad NSc g_6) H → va_S A s.heap H locs → lv_has ls 10 [(0, .ref (ad (2 * t))), (1, .ref (ad (2 * x))), (2, .ref (ad (2 * y))), (3, .int (nI sx9)), (4, .int (nI sy9)), (5, .long (lN bo)), (7, .int (nI i))] → W p l e (headSpec wd_V8_take3 ({ frames := 10, cells := 0, slots := 0, locals := 200 })).room s m ([.ref (ad (2 * t)), .ref (ad (2 * x)), .ref (ad (2 * y))] : List Value).toArray below meth c H locs (0) (0) (MQ below (va_Qv (fun (u : (Nat → va_E) × Nat × (Nat → Nat)) => match u with | (g2, s2, f2) => (∀ k, k ≠ 2 * t ∧ k ≠ 2 * t + 1 → g2 k = g k) ∧ WN ad cA g2 t s2 nt9 f2 ∧ Rp f2 s2 (v.natAbs - w1.natAbs)) (fun (u : (Nat → va_E) × Nat × (Nat → Nat)) (t : State) => va_P (dC, dI) vwCl (wo ad NSc u.1) t.heap) A) ([.ref (ad (2 * t)), .ref (ad (2 * x)), .ref (ad (2 * y))] : List Value).toArray s (0) (0) A) (F0 m 25 ls []) := by
    intro k9
    induction k9 with
    | zero => intro i q bo g_6 fr_7 h9; exact absurd h9 (Nat.not_lt_zero _)
    | succ k9 ih_5 =>
      intro i q bo g_6 fr_7 h9 hi hqb hqd hbo hc1 f_8 H locs ls hP hS hl
      refine lv_iload hx hb dX8_takeSizes_25 (lv_at hl 6 rfl) ?_
      refine lv_iload_n hx hb dX8_takeSizes_27 rfl (lv_at hl 3 rfl) ?_
      refine lv_icmp_ge (tgt := 102) hx hb dX8_takeSizes_28 (by decide) (fun c_9 => ?_) (fun c_9 => ?_)
      · have c_9 := (nI_leI (a := sx9) (b := i) (by omega) (by omega)).mp c_9
        have hir : i = sx9 := by omega
        rw [hir] at hqd
        refine lv_aload_n hx hb dX8_takeSizes_102 rfl (lv_at hl 0 rfl) ?_
        refine lv_iload_n hx hb dX8_takeSizes_103 rfl (lv_at hl 3 rfl) ?_
        have f_10 : g_6 (2 * t) = .inr (11, [.ref (ad (2 * t + 1)), .int (nI st9), .int (nI nt9)]) := (fr_7 (2 * t) (by omega)).trans at9
        refine m_put (D := (dC, dI)) (v := .int (nI sx9)) (tv := .int) (C := RX8) (T := TX8) (N := 3) hx hb hts bk0 tyX8 tyX8_ok nmX8 hown hK hP hD hS (2 * t) (ns_w (by omega)) f_10 rfl 1 (by decide) (hts (.fieldLink RX8 15 "GradientDesk$Whole" "size" "I") (List.mem_of_getElem? (i := 2) rfl)) (fun _ h9 => h9) rfl (by decide +kernel) rfl rfl (Nat.le_of_ble_eq_true rfl) dX8_takeSizes_104 (fun H locs g_11 f_12 fr_13 hP hS => ?_)
        have f_12 : g_11 (2 * t) = .inr (11, [.ref (ad (2 * t + 1)), .int (nI sx9), .int (nI nt9)]) := f_12
        have loop_14 : ∀ (k9 : Nat) (z : Nat) (g_16 : Nat → va_E) (fr_17 : ∀ k, (k ≠ 2 * t) → g_16 k = g_11 k), z < k9 → (z ≤ sx9) → (∀ j, z ≤ j → j < sx9 → q j = 0) → (g_16 (2 * t) = .inr (11, [.ref (ad (2 * t + 1)), .int (nI z), .int (nI nt9)])) → ∀ (H : Heap) (locs : List Loc) (ls : Array Slot), va_P (dC, dI) vwCl (wo ad NSc g_16) H → va_S A s.heap H locs → lv_has ls 10 [(0, .ref (ad (2 * t)))] → W p l e (headSpec wd_V8_take3 ({ frames := 10, cells := 0, slots := 0, locals := 200 })).room s m ([.ref (ad (2 * t)), .ref (ad (2 * x)), .ref (ad (2 * y))] : List Value).toArray below meth c H locs (0) (0) (MQ below (va_Qv (fun (u : (Nat → va_E) × Nat × (Nat → Nat)) => match u with | (g2, s2, f2) => (∀ k, k ≠ 2 * t ∧ k ≠ 2 * t + 1 → g2 k = g k) ∧ WN ad cA g2 t s2 nt9 f2 ∧ Rp f2 s2 (v.natAbs - w1.natAbs)) (fun (u : (Nat → va_E) × Nat × (Nat → Nat)) (t : State) => va_P (dC, dI) vwCl (wo ad NSc u.1) t.heap) A) ([.ref (ad (2 * t)), .ref (ad (2 * x)), .ref (ad (2 * y))] : List Value).toArray s (0) (0) A) (F0 m 107 ls []) := by
          intro k9
          induction k9 with
          | zero => intro z g_16 fr_17 h9; exact absurd h9 (Nat.not_lt_zero _)
          | succ k9 ih_15 =>
            intro z g_16 fr_17 h9 hz hzz f_18 H locs ls hP hS hl
            refine lv_aload_n hx hb dX8_takeSizes_107 rfl (lv_at hl 0 rfl) ?_
            refine m_get (D := (dC, dI)) (v := .int (nI z)) (C := RX8) (T := TX8) (N := 3) hx hb hts bk0 hown hK hP (2 * t) (ns_w (by omega)) f_18 rfl 1 (by decide) (hts (.fieldLink RX8 15 "GradientDesk$Whole" "size" "I") (List.mem_of_getElem? (i := 2) rfl)) (fun _ h9 => h9) rfl dX8_takeSizes_108 ?_
            refine lv_if_le (tgt := 141) hx hb dX8_takeSizes_111 (by decide) (fun c_19 => ?_) (fun c_19 => ?_)
            · have c_19 := (nI_leI (a := z) (b := 0) (by omega) (by decide)).mp c_19
              have f_20 : g_16 (2 * t + 1) = .inl (cA (2 * t + 1), rmc t, .inl (fun j => nI (q j))) := (fr_17 (2 * t + 1) (by omega)).trans ((fr_13 (2 * t + 1) (by omega)).trans f_8)
              refine W.widen (k := 0) (n := 0) (by omega) (by omega) ?_
              exact W.vret hx hb hr (fun t9 ht9 hW9 => ⟨⟨(g_16, z, (q)), rfl, ⟨(fun (k : Nat) (hk : k ≠ 2 * t ∧ k ≠ 2 * t + 1) => (fr_17 k (by omega)).trans ((fr_13 k (by omega)).trans ((fr_7 k (by omega)).trans (rfl)))), ⟨f_18, f_20, hqb, by omega, by omega⟩, Rp.fin (n := sx9) hqd (Nat.lt_of_le_of_lt (Nat.sub_le _ _) rx9.lt) hz hzz (Or.inl (by omega))⟩, by show va_P (dC, dI) vwCl _ t9.heap; rw [ht9]; exact hP⟩, hS.F ht9⟩) hS.2.2 dX8_takeSizes_141
            · have c_19 := mt (nI_leI (a := z) (b := 0) (by omega) (by decide)).mpr c_19
              refine lv_aload_n hx hb dX8_takeSizes_114 rfl (lv_at hl 0 rfl) ?_
              refine m_get (D := (dC, dI)) (v := .ref (ad (2 * t + 1))) (C := RX8) (T := TX8) (N := 3) hx hb hts bk0 hown hK hP (2 * t) (ns_w (by omega)) f_18 rfl 0 (by decide) (hts (.fieldLink RX8 9 "GradientDesk$Whole" "words" "[I") (List.mem_of_getElem? (i := 1) rfl)) (fun _ h9 => h9) rfl dX8_takeSizes_115 ?_
              refine lv_aload_n hx hb dX8_takeSizes_118 rfl (lv_at hl 0 rfl) ?_
              refine m_get (D := (dC, dI)) (v := .int (nI z)) (C := RX8) (T := TX8) (N := 3) hx hb hts bk0 hown hK hP (2 * t) (ns_w (by omega)) f_18 rfl 1 (by decide) (hts (.fieldLink RX8 15 "GradientDesk$Whole" "size" "I") (List.mem_of_getElem? (i := 2) rfl)) (fun _ h9 => h9) rfl dX8_takeSizes_119 ?_
              refine lv_iconst (v := nI 1) hx hb dX8_takeSizes_122 (by decide +kernel) ?_
              refine lv_isub hx hb dX8_takeSizes_123 ?_
              refine lv_topi (fun x_21 e_22 => ?_)
              obtain rfl : x_21 = nI (z - 1) := e_22.trans (pk_sub (show 1 ≤ z by omega))
              have f_23 : g_16 (2 * t + 1) = .inl (cA (2 * t + 1), rmc t, .inl (fun j => nI (q j))) := (fr_17 (2 * t + 1) (by omega)).trans ((fr_13 (2 * t + 1) (by omega)).trans f_8)
              refine m_iald hx hb hK hP (2 * t + 1) (ns_w (by omega)) (tyc_w (by omega)) f_23 (i := z - 1) (by omega) (by omega) dX8_takeSizes_124 ?_
              have b_24 := hqb (z - 1)
              refine lv_if_ne (tgt := 141) hx hb dX8_takeSizes_125 (by decide) (fun c_25 => ?_) (fun c_25 => ?_)
              · have c_25 := mt (k_weq (a := (q (z - 1))) (b := 0) (by omega) (by decide)).mpr c_25
                refine W.widen (k := 0) (n := 0) (by omega) (by omega) ?_
                exact W.vret hx hb hr (fun t9 ht9 hW9 => ⟨⟨(g_16, z, (q)), rfl, ⟨(fun (k : Nat) (hk : k ≠ 2 * t ∧ k ≠ 2 * t + 1) => (fr_17 k (by omega)).trans ((fr_13 k (by omega)).trans ((fr_7 k (by omega)).trans (rfl)))), ⟨f_18, f_23, hqb, by omega, by omega⟩, Rp.fin (n := sx9) hqd (Nat.lt_of_le_of_lt (Nat.sub_le _ _) rx9.lt) hz hzz (Or.inr c_25)⟩, by show va_P (dC, dI) vwCl _ t9.heap; rw [ht9]; exact hP⟩, hS.F ht9⟩) hS.2.2 dX8_takeSizes_141
              · have c_25 := (k_weq (a := (q (z - 1))) (b := 0) (by omega) (by decide)).mp c_25
                refine lv_aload_n hx hb dX8_takeSizes_128 rfl (lv_at hl 0 rfl) ?_
                refine lv_dup hx hb dX8_takeSizes_129 rfl ?_
                refine m_get (D := (dC, dI)) (v := .int (nI z)) (C := RX8) (T := TX8) (N := 3) hx hb hts bk0 hown hK hP (2 * t) (ns_w (by omega)) f_18 rfl 1 (by decide) (hts (.fieldLink RX8 15 "GradientDesk$Whole" "size" "I") (List.mem_of_getElem? (i := 2) rfl)) (fun _ h9 => h9) rfl dX8_takeSizes_130 ?_
                refine lv_iconst (v := nI 1) hx hb dX8_takeSizes_133 (by decide +kernel) ?_
                refine lv_isub hx hb dX8_takeSizes_134 ?_
                refine lv_topi (fun x_26 e_27 => ?_)
                obtain rfl : x_26 = nI (z - 1) := e_27.trans (pk_sub (show 1 ≤ z by omega))
                refine m_put (D := (dC, dI)) (v := .int (nI (z - 1))) (tv := .int) (C := RX8) (T := TX8) (N := 3) hx hb hts bk0 tyX8 tyX8_ok nmX8 hown hK hP hD hS (2 * t) (ns_w (by omega)) f_18 rfl 1 (by decide) (hts (.fieldLink RX8 15 "GradientDesk$Whole" "size" "I") (List.mem_of_getElem? (i := 2) rfl)) (fun _ h9 => h9) rfl (by decide +kernel) rfl rfl (Nat.le_of_ble_eq_true rfl) dX8_takeSizes_135 (fun H locs g_28 f_29 fr_30 hP hS => ?_)
                have f_29 : g_28 (2 * t) = .inr (11, [.ref (ad (2 * t + 1)), .int (nI (z - 1)), .int (nI nt9)]) := f_29
                refine lv_goto (tgt := 107) hx hb dX8_takeSizes_138 (by decide) ?_
                exact ih_15 (z - 1) g_28 (fun (k : Nat) (hk : k ≠ 2 * t) => (fr_30 k (by omega)).trans ((fr_17 k (by omega)).trans (rfl))) (by omega) (by omega) (fun j h1 h2 => by by_cases h9 : j = z - 1; subst h9; exact c_25; exact hzz j (by omega) h2) f_29 _ _ _ hP hS (lv_sub (l' := [(0, .ref (ad (2 * t)))]) hl [0] rfl)
        exact loop_14 _ sx9 g_11 (fun (k : Nat) (hk : k ≠ 2 * t) => rfl) (Nat.lt_succ_self _) (by omega) (fun j h1 h2 => absurd h1 (by omega)) f_12 _ _ _ hP hS (lv_sub (l' := [(0, .ref (ad (2 * t)))]) hl [0] rfl)
      · have c_9 := mt (nI_leI (a := sx9) (b := i) (by omega) (by omega)).mpr c_9
        refine lv_aload_n hx hb dX8_takeSizes_31 rfl (lv_at hl 1 rfl) ?_
        have f_31 : g_6 (2 * x) = .inr (11, [.ref (ad (2 * x + 1)), .int (nI sx9), .int (nI nx9)]) := (fr_7 (2 * x) (by omega)).trans ax9
        refine m_get (D := (dC, dI)) (v := .ref (ad (2 * x + 1))) (C := RX8) (T := TX8) (N := 3) hx hb hts bk0 hown hK hP (2 * x) (ns_w (by omega)) f_31 rfl 0 (by decide) (hts (.fieldLink RX8 9 "GradientDesk$Whole" "words" "[I") (List.mem_of_getElem? (i := 1) rfl)) (fun _ h9 => h9) rfl dX8_takeSizes_32 ?_
        refine lv_iload hx hb dX8_takeSizes_35 (lv_at hl 6 rfl) ?_
        have f_32 : g_6 (2 * x + 1) = .inl (cA (2 * x + 1), rmc x, .inl (fun j => nI (fx9 j))) := (fr_7 (2 * x + 1) (by omega)).trans bx9
        refine m_iald hx hb hK hP (2 * x + 1) (ns_w (by omega)) (tyc_w (by omega)) f_32 (i := i) (by omega) (by omega) dX8_takeSizes_37 ?_
        have b_33 := ux9 i
        refine lv_i2l hx hb dX8_takeSizes_38 rfl ?_
        refine lv_topl (fun y_34 e_35 => ?_)
        subst e_35
        refine lv_ldc2 (v := 4294967295) hx hb hown (hts (.constantLong RX8 48 (4294967295)) (List.mem_of_getElem? (i := 7) rfl)) dX8_takeSizes_39 ?_
        refine lv_topl (fun y_36 e_37 => ?_)
        obtain rfl : y_36 = lN 4294967295 := e_37
        refine lv_land hx hb dX8_takeSizes_42 ?_
        refine lv_topl (fun y_38 e_39 => ?_)
        obtain rfl : y_38 = lN (fx9 i) := e_39.trans (k_word b_33)
        refine lv_iload hx hb dX8_takeSizes_43 (lv_at hl 6 rfl) ?_
        refine lv_iload hx hb dX8_takeSizes_45 (lv_at hl 4 rfl) ?_
        refine lv_icmp_ge (tgt := 65) hx hb dX8_takeSizes_47 (by decide) (fun c_40 => ?_) (fun c_40 => ?_)
        · have c_40 := (nI_leI (a := sy9) (b := i) (by omega) (by omega)).mp c_40
          refine lv_lconst (v := lN 0) hx hb dX8_takeSizes_65 (by decide +kernel) ?_
          have hdx : fx9 i = dgt v.natAbs i := rx9.dg (by omega)
          have hdy : dgt w1.natAbs i = 0 := ry9.dg0 (by omega)
          have hbx : fx9 i < 4294967296 := ux9 i
          have hby : 0 < 4294967296 := by decide
          refine lv_lsub hx hb dX8_takeSizes_66 ?_
          refine lv_topl (fun y_41 e_42 => ?_)
          refine lv_lload hx hb dX8_takeSizes_67 (lv_at hl 5 rfl) ?_
          refine lv_lsub hx hb dX8_takeSizes_69 ?_
          refine lv_topl (fun y_43 e_44 => ?_)
          rw [e_42] at e_44
          by_cases hlt : fx9 i < 0 + bo
          · skip
            obtain rfl : y_43 = lN (18446744073709551616 + fx9 i - 0 - bo) := e_44.trans (k_subn (by omega) (by omega) (by omega) hlt)
            refine lv_lstore (lv' := [(8, .long (lN (18446744073709551616 + fx9 i - 0 - bo))), (0, .ref (ad (2 * t))), (1, .ref (ad (2 * x))), (2, .ref (ad (2 * y))), (3, .int (nI sx9)), (4, .int (nI sy9)), (5, .long (lN bo)), (7, .int (nI i))]) hx hb dX8_takeSizes_70 hl (by decide) rfl (fun ls hl => ?_)
            refine lv_aload_n hx hb dX8_takeSizes_72 rfl (lv_at hl 1 rfl) ?_
            have f_45 : g_6 (2 * t) = .inr (11, [.ref (ad (2 * t + 1)), .int (nI st9), .int (nI nt9)]) := (fr_7 (2 * t) (by omega)).trans at9
            refine m_get (D := (dC, dI)) (v := .ref (ad (2 * t + 1))) (C := RX8) (T := TX8) (N := 3) hx hb hts bk0 hown hK hP (2 * t) (ns_w (by omega)) f_45 rfl 0 (by decide) (hts (.fieldLink RX8 9 "GradientDesk$Whole" "words" "[I") (List.mem_of_getElem? (i := 1) rfl)) (fun _ h9 => h9) rfl dX8_takeSizes_73 ?_
            refine lv_iload hx hb dX8_takeSizes_76 (lv_at hl 7 rfl) ?_
            refine lv_lload hx hb dX8_takeSizes_78 (lv_at hl 0 rfl) ?_
            refine lv_l2i hx hb dX8_takeSizes_80 rfl ?_
            refine lv_topi (fun x_46 e_47 => ?_)
            obtain rfl : x_46 = nI (18446744073709551616 + fx9 i - 0 - bo) := e_47.trans (lN_i (18446744073709551616 + fx9 i - 0 - bo))
            rw [show nI (18446744073709551616 + fx9 i - 0 - bo) = nI ((18446744073709551616 + fx9 i - 0 - bo) % 4294967296) from nI_md _]
            refine m_iast hx hb hK hP hD hS (2 * t + 1) (ns_w (by omega)) (tyc_w (by omega)) f_8 (i := i) (x := nI ((18446744073709551616 + fx9 i - 0 - bo) % 4294967296)) (by omega) (by omega) dX8_takeSizes_81 (fun H locs g_48 f_49 fr_50 hP hS => ?_)
            rw [k_updI] at f_49
            have b_51 : ∀ j, (va_up q i ((18446744073709551616 + fx9 i - 0 - bo) % 4294967296)) j < 4294967296 := k_up_lt hqb (by omega)
            have f_49 : g_48 (2 * t + 1) = .inl (cA (2 * t + 1), rmc t, .inl (fun j => nI ((va_up q i ((18446744073709551616 + fx9 i - 0 - bo) % 4294967296)) j))) := f_49
            refine lv_lload hx hb dX8_takeSizes_82 (lv_at hl 0 rfl) ?_
            refine lv_lconst (v := lN 0) hx hb dX8_takeSizes_84 (by decide +kernel) ?_
            refine W.lcmp hx hb dX8_takeSizes_85 ?_
            refine lv_if_ge (tgt := 93) hx hb dX8_takeSizes_86 (by decide) (fun c_52 => absurd ((k_cmp_ge _ _).mp c_52) (Int64.not_le.mpr (k_lneg (by omega) (by omega)))) (fun c_52 => ?_)
            refine lv_lconst (v := lN 1) hx hb dX8_takeSizes_89 (by decide +kernel) ?_
            refine lv_goto (tgt := 94) hx hb dX8_takeSizes_90 (by decide) ?_
            refine lv_lstore (lv' := [(5, .long (lN 1)), (8, .long (lN (18446744073709551616 + fx9 i - 0 - bo))), (0, .ref (ad (2 * t))), (1, .ref (ad (2 * x))), (2, .ref (ad (2 * y))), (3, .int (nI sx9)), (4, .int (nI sy9)), (7, .int (nI i))]) hx hb dX8_takeSizes_94 hl (by decide) rfl (fun ls hl => ?_)
            refine lv_iinc (v := nI (i + 1)) (lv' := [(7, .int (nI (i + 1))), (5, .long (lN 1)), (8, .long (lN (18446744073709551616 + fx9 i - 0 - bo))), (0, .ref (ad (2 * t))), (1, .ref (ad (2 * x))), (2, .ref (ad (2 * y))), (3, .int (nI sx9)), (4, .int (nI sy9))]) hx hb dX8_takeSizes_96 hl (k := 7) rfl (nI_add i 1) (by decide) rfl (fun ls hl => ?_)
            refine lv_goto (tgt := 25) hx hb dX8_takeSizes_99 (by decide) ?_
            exact ih_5 (i + 1) (va_up q i ((18446744073709551616 + fx9 i - 0 - bo) % 4294967296)) 1 g_48 (fun (k : Nat) (hk : k ≠ 2 * t + 1) => (fr_50 k (by omega)).trans ((fr_7 k (by omega)).trans (rfl))) (by omega) (by omega) b_51 (fun j hj => by by_cases hji : j = i; subst hji; rw [va_up_self, dgt_sub hle, ← hdx, hdy, ← hbo, if_pos hlt]; omega; rw [va_up_ne _ _ hji]; exact hqd j (by omega)) (by rw [bw_s, ← hdx, hdy, ← hbo, if_pos hlt]) (by decide) f_49 _ _ _ hP hS (lv_sub (l' := [(0, .ref (ad (2 * t))), (1, .ref (ad (2 * x))), (2, .ref (ad (2 * y))), (3, .int (nI sx9)), (4, .int (nI sy9)), (5, .long (lN 1)), (7, .int (nI (i + 1)))]) hl [3, 4, 5, 6, 7, 1, 0] rfl)
          · skip
            obtain rfl : y_43 = lN (fx9 i - 0 - bo) := e_44.trans (by rw [lN_sub (by omega), lN_sub (by omega)])
            refine lv_lstore (lv' := [(8, .long (lN (fx9 i - 0 - bo))), (0, .ref (ad (2 * t))), (1, .ref (ad (2 * x))), (2, .ref (ad (2 * y))), (3, .int (nI sx9)), (4, .int (nI sy9)), (5, .long (lN bo)), (7, .int (nI i))]) hx hb dX8_takeSizes_70 hl (by decide) rfl (fun ls hl => ?_)
            refine lv_aload_n hx hb dX8_takeSizes_72 rfl (lv_at hl 1 rfl) ?_
            have f_55 : g_6 (2 * t) = .inr (11, [.ref (ad (2 * t + 1)), .int (nI st9), .int (nI nt9)]) := (fr_7 (2 * t) (by omega)).trans at9
            refine m_get (D := (dC, dI)) (v := .ref (ad (2 * t + 1))) (C := RX8) (T := TX8) (N := 3) hx hb hts bk0 hown hK hP (2 * t) (ns_w (by omega)) f_55 rfl 0 (by decide) (hts (.fieldLink RX8 9 "GradientDesk$Whole" "words" "[I") (List.mem_of_getElem? (i := 1) rfl)) (fun _ h9 => h9) rfl dX8_takeSizes_73 ?_
            refine lv_iload hx hb dX8_takeSizes_76 (lv_at hl 7 rfl) ?_
            refine lv_lload hx hb dX8_takeSizes_78 (lv_at hl 0 rfl) ?_
            refine lv_l2i hx hb dX8_takeSizes_80 rfl ?_
            refine lv_topi (fun x_56 e_57 => ?_)
            obtain rfl : x_56 = nI (fx9 i - 0 - bo) := e_57.trans (lN_i (fx9 i - 0 - bo))
            rw [show nI (fx9 i - 0 - bo) = nI ((fx9 i - 0 - bo) % 4294967296) from nI_md _]
            refine m_iast hx hb hK hP hD hS (2 * t + 1) (ns_w (by omega)) (tyc_w (by omega)) f_8 (i := i) (x := nI ((fx9 i - 0 - bo) % 4294967296)) (by omega) (by omega) dX8_takeSizes_81 (fun H locs g_58 f_59 fr_60 hP hS => ?_)
            rw [k_updI] at f_59
            have b_61 : ∀ j, (va_up q i ((fx9 i - 0 - bo) % 4294967296)) j < 4294967296 := k_up_lt hqb (by omega)
            have f_59 : g_58 (2 * t + 1) = .inl (cA (2 * t + 1), rmc t, .inl (fun j => nI ((va_up q i ((fx9 i - 0 - bo) % 4294967296)) j))) := f_59
            refine lv_lload hx hb dX8_takeSizes_82 (lv_at hl 0 rfl) ?_
            refine lv_lconst (v := lN 0) hx hb dX8_takeSizes_84 (by decide +kernel) ?_
            refine W.lcmp hx hb dX8_takeSizes_85 ?_
            refine lv_if_ge (tgt := 93) hx hb dX8_takeSizes_86 (by decide) (fun c_62 => ?_) (fun c_62 => absurd (mt (pk_lLE (a := 0) (b := (fx9 i - 0 - bo)) (by decide) (by omega)).mpr (mt (k_cmp_ge (lN (fx9 i - 0 - bo)) (lN 0)).mpr c_62)) (by omega))
            refine lv_lconst (v := lN 0) hx hb dX8_takeSizes_93 (by decide +kernel) ?_
            refine lv_lstore (lv' := [(5, .long (lN 0)), (8, .long (lN (fx9 i - 0 - bo))), (0, .ref (ad (2 * t))), (1, .ref (ad (2 * x))), (2, .ref (ad (2 * y))), (3, .int (nI sx9)), (4, .int (nI sy9)), (7, .int (nI i))]) hx hb dX8_takeSizes_94 hl (by decide) rfl (fun ls hl => ?_)
            refine lv_iinc (v := nI (i + 1)) (lv' := [(7, .int (nI (i + 1))), (5, .long (lN 0)), (8, .long (lN (fx9 i - 0 - bo))), (0, .ref (ad (2 * t))), (1, .ref (ad (2 * x))), (2, .ref (ad (2 * y))), (3, .int (nI sx9)), (4, .int (nI sy9))]) hx hb dX8_takeSizes_96 hl (k := 7) rfl (nI_add i 1) (by decide) rfl (fun ls hl => ?_)
            refine lv_goto (tgt := 25) hx hb dX8_takeSizes_99 (by decide) ?_
            exact ih_5 (i + 1) (va_up q i ((fx9 i - 0 - bo) % 4294967296)) 0 g_58 (fun (k : Nat) (hk : k ≠ 2 * t + 1) => (fr_60 k (by omega)).trans ((fr_7 k (by omega)).trans (rfl))) (by omega) (by omega) b_61 (fun j hj => by by_cases hji : j = i; subst hji; rw [va_up_self, dgt_sub hle, ← hdx, hdy, ← hbo, if_neg hlt]; omega; rw [va_up_ne _ _ hji]; exact hqd j (by omega)) (by rw [bw_s, ← hdx, hdy, ← hbo, if_neg hlt]) (by decide) f_59 _ _ _ hP hS (lv_sub (l' := [(0, .ref (ad (2 * t))), (1, .ref (ad (2 * x))), (2, .ref (ad (2 * y))), (3, .int (nI sx9)), (4, .int (nI sy9)), (5, .long (lN 0)), (7, .int (nI (i + 1)))]) hl [3, 4, 5, 6, 7, 1, 0] rfl)
        · have c_40 := mt (nI_leI (a := sy9) (b := i) (by omega) (by omega)).mpr c_40
          refine lv_aload_n hx hb dX8_takeSizes_50 rfl (lv_at hl 2 rfl) ?_
          have f_65 : g_6 (2 * y) = .inr (11, [.ref (ad (2 * y + 1)), .int (nI sy9), .int (nI ny9)]) := (fr_7 (2 * y) (by omega)).trans ay9
          refine m_get (D := (dC, dI)) (v := .ref (ad (2 * y + 1))) (C := RX8) (T := TX8) (N := 3) hx hb hts bk0 hown hK hP (2 * y) (ns_w (by omega)) f_65 rfl 0 (by decide) (hts (.fieldLink RX8 9 "GradientDesk$Whole" "words" "[I") (List.mem_of_getElem? (i := 1) rfl)) (fun _ h9 => h9) rfl dX8_takeSizes_51 ?_
          refine lv_iload hx hb dX8_takeSizes_54 (lv_at hl 6 rfl) ?_
          have f_66 : g_6 (2 * y + 1) = .inl (cA (2 * y + 1), rmc y, .inl (fun j => nI (fy9 j))) := (fr_7 (2 * y + 1) (by omega)).trans by9
          refine m_iald hx hb hK hP (2 * y + 1) (ns_w (by omega)) (tyc_w (by omega)) f_66 (i := i) (by omega) (by omega) dX8_takeSizes_56 ?_
          have b_67 := uy9 i
          refine lv_i2l hx hb dX8_takeSizes_57 rfl ?_
          refine lv_topl (fun y_68 e_69 => ?_)
          subst e_69
          refine lv_ldc2 (v := 4294967295) hx hb hown (hts (.constantLong RX8 48 (4294967295)) (List.mem_of_getElem? (i := 7) rfl)) dX8_takeSizes_58 ?_
          refine lv_topl (fun y_70 e_71 => ?_)
          obtain rfl : y_70 = lN 4294967295 := e_71
          refine lv_land hx hb dX8_takeSizes_61 ?_
          refine lv_topl (fun y_72 e_73 => ?_)
          obtain rfl : y_72 = lN (fy9 i) := e_73.trans (k_word b_67)
          refine lv_goto (tgt := 66) hx hb dX8_takeSizes_62 (by decide) ?_
          have hdx : fx9 i = dgt v.natAbs i := rx9.dg (by omega)
          have hdy : dgt w1.natAbs i = fy9 i := (ry9.dg (by omega)).symm
          have hbx : fx9 i < 4294967296 := ux9 i
          have hby : fy9 i < 4294967296 := uy9 i
          refine lv_lsub hx hb dX8_takeSizes_66 ?_
          refine lv_topl (fun y_74 e_75 => ?_)
          refine lv_lload hx hb dX8_takeSizes_67 (lv_at hl 5 rfl) ?_
          refine lv_lsub hx hb dX8_takeSizes_69 ?_
          refine lv_topl (fun y_76 e_77 => ?_)
          rw [e_75] at e_77
          by_cases hlt : fx9 i < fy9 i + bo
          · skip
            obtain rfl : y_76 = lN (18446744073709551616 + fx9 i - fy9 i - bo) := e_77.trans (k_subn (by omega) (by omega) (by omega) hlt)
            refine lv_lstore (lv' := [(8, .long (lN (18446744073709551616 + fx9 i - fy9 i - bo))), (0, .ref (ad (2 * t))), (1, .ref (ad (2 * x))), (2, .ref (ad (2 * y))), (3, .int (nI sx9)), (4, .int (nI sy9)), (5, .long (lN bo)), (7, .int (nI i))]) hx hb dX8_takeSizes_70 hl (by decide) rfl (fun ls hl => ?_)
            refine lv_aload_n hx hb dX8_takeSizes_72 rfl (lv_at hl 1 rfl) ?_
            have f_78 : g_6 (2 * t) = .inr (11, [.ref (ad (2 * t + 1)), .int (nI st9), .int (nI nt9)]) := (fr_7 (2 * t) (by omega)).trans at9
            refine m_get (D := (dC, dI)) (v := .ref (ad (2 * t + 1))) (C := RX8) (T := TX8) (N := 3) hx hb hts bk0 hown hK hP (2 * t) (ns_w (by omega)) f_78 rfl 0 (by decide) (hts (.fieldLink RX8 9 "GradientDesk$Whole" "words" "[I") (List.mem_of_getElem? (i := 1) rfl)) (fun _ h9 => h9) rfl dX8_takeSizes_73 ?_
            refine lv_iload hx hb dX8_takeSizes_76 (lv_at hl 7 rfl) ?_
            refine lv_lload hx hb dX8_takeSizes_78 (lv_at hl 0 rfl) ?_
            refine lv_l2i hx hb dX8_takeSizes_80 rfl ?_
            refine lv_topi (fun x_79 e_80 => ?_)
            obtain rfl : x_79 = nI (18446744073709551616 + fx9 i - fy9 i - bo) := e_80.trans (lN_i (18446744073709551616 + fx9 i - fy9 i - bo))
            rw [show nI (18446744073709551616 + fx9 i - fy9 i - bo) = nI ((18446744073709551616 + fx9 i - fy9 i - bo) % 4294967296) from nI_md _]
            refine m_iast hx hb hK hP hD hS (2 * t + 1) (ns_w (by omega)) (tyc_w (by omega)) f_8 (i := i) (x := nI ((18446744073709551616 + fx9 i - fy9 i - bo) % 4294967296)) (by omega) (by omega) dX8_takeSizes_81 (fun H locs g_81 f_82 fr_83 hP hS => ?_)
            rw [k_updI] at f_82
            have b_84 : ∀ j, (va_up q i ((18446744073709551616 + fx9 i - fy9 i - bo) % 4294967296)) j < 4294967296 := k_up_lt hqb (by omega)
            have f_82 : g_81 (2 * t + 1) = .inl (cA (2 * t + 1), rmc t, .inl (fun j => nI ((va_up q i ((18446744073709551616 + fx9 i - fy9 i - bo) % 4294967296)) j))) := f_82
            refine lv_lload hx hb dX8_takeSizes_82 (lv_at hl 0 rfl) ?_
            refine lv_lconst (v := lN 0) hx hb dX8_takeSizes_84 (by decide +kernel) ?_
            refine W.lcmp hx hb dX8_takeSizes_85 ?_
            refine lv_if_ge (tgt := 93) hx hb dX8_takeSizes_86 (by decide) (fun c_85 => absurd ((k_cmp_ge _ _).mp c_85) (Int64.not_le.mpr (k_lneg (by omega) (by omega)))) (fun c_85 => ?_)
            refine lv_lconst (v := lN 1) hx hb dX8_takeSizes_89 (by decide +kernel) ?_
            refine lv_goto (tgt := 94) hx hb dX8_takeSizes_90 (by decide) ?_
            refine lv_lstore (lv' := [(5, .long (lN 1)), (8, .long (lN (18446744073709551616 + fx9 i - fy9 i - bo))), (0, .ref (ad (2 * t))), (1, .ref (ad (2 * x))), (2, .ref (ad (2 * y))), (3, .int (nI sx9)), (4, .int (nI sy9)), (7, .int (nI i))]) hx hb dX8_takeSizes_94 hl (by decide) rfl (fun ls hl => ?_)
            refine lv_iinc (v := nI (i + 1)) (lv' := [(7, .int (nI (i + 1))), (5, .long (lN 1)), (8, .long (lN (18446744073709551616 + fx9 i - fy9 i - bo))), (0, .ref (ad (2 * t))), (1, .ref (ad (2 * x))), (2, .ref (ad (2 * y))), (3, .int (nI sx9)), (4, .int (nI sy9))]) hx hb dX8_takeSizes_96 hl (k := 7) rfl (nI_add i 1) (by decide) rfl (fun ls hl => ?_)
            refine lv_goto (tgt := 25) hx hb dX8_takeSizes_99 (by decide) ?_
            exact ih_5 (i + 1) (va_up q i ((18446744073709551616 + fx9 i - fy9 i - bo) % 4294967296)) 1 g_81 (fun (k : Nat) (hk : k ≠ 2 * t + 1) => (fr_83 k (by omega)).trans ((fr_7 k (by omega)).trans (rfl))) (by omega) (by omega) b_84 (fun j hj => by by_cases hji : j = i; subst hji; rw [va_up_self, dgt_sub hle, ← hdx, hdy, ← hbo, if_pos hlt]; omega; rw [va_up_ne _ _ hji]; exact hqd j (by omega)) (by rw [bw_s, ← hdx, hdy, ← hbo, if_pos hlt]) (by decide) f_82 _ _ _ hP hS (lv_sub (l' := [(0, .ref (ad (2 * t))), (1, .ref (ad (2 * x))), (2, .ref (ad (2 * y))), (3, .int (nI sx9)), (4, .int (nI sy9)), (5, .long (lN 1)), (7, .int (nI (i + 1)))]) hl [3, 4, 5, 6, 7, 1, 0] rfl)
          · skip
            obtain rfl : y_76 = lN (fx9 i - fy9 i - bo) := e_77.trans (by rw [lN_sub (by omega), lN_sub (by omega)])
            refine lv_lstore (lv' := [(8, .long (lN (fx9 i - fy9 i - bo))), (0, .ref (ad (2 * t))), (1, .ref (ad (2 * x))), (2, .ref (ad (2 * y))), (3, .int (nI sx9)), (4, .int (nI sy9)), (5, .long (lN bo)), (7, .int (nI i))]) hx hb dX8_takeSizes_70 hl (by decide) rfl (fun ls hl => ?_)
            refine lv_aload_n hx hb dX8_takeSizes_72 rfl (lv_at hl 1 rfl) ?_
            have f_88 : g_6 (2 * t) = .inr (11, [.ref (ad (2 * t + 1)), .int (nI st9), .int (nI nt9)]) := (fr_7 (2 * t) (by omega)).trans at9
            refine m_get (D := (dC, dI)) (v := .ref (ad (2 * t + 1))) (C := RX8) (T := TX8) (N := 3) hx hb hts bk0 hown hK hP (2 * t) (ns_w (by omega)) f_88 rfl 0 (by decide) (hts (.fieldLink RX8 9 "GradientDesk$Whole" "words" "[I") (List.mem_of_getElem? (i := 1) rfl)) (fun _ h9 => h9) rfl dX8_takeSizes_73 ?_
            refine lv_iload hx hb dX8_takeSizes_76 (lv_at hl 7 rfl) ?_
            refine lv_lload hx hb dX8_takeSizes_78 (lv_at hl 0 rfl) ?_
            refine lv_l2i hx hb dX8_takeSizes_80 rfl ?_
            refine lv_topi (fun x_89 e_90 => ?_)
            obtain rfl : x_89 = nI (fx9 i - fy9 i - bo) := e_90.trans (lN_i (fx9 i - fy9 i - bo))
            rw [show nI (fx9 i - fy9 i - bo) = nI ((fx9 i - fy9 i - bo) % 4294967296) from nI_md _]
            refine m_iast hx hb hK hP hD hS (2 * t + 1) (ns_w (by omega)) (tyc_w (by omega)) f_8 (i := i) (x := nI ((fx9 i - fy9 i - bo) % 4294967296)) (by omega) (by omega) dX8_takeSizes_81 (fun H locs g_91 f_92 fr_93 hP hS => ?_)
            rw [k_updI] at f_92
            have b_94 : ∀ j, (va_up q i ((fx9 i - fy9 i - bo) % 4294967296)) j < 4294967296 := k_up_lt hqb (by omega)
            have f_92 : g_91 (2 * t + 1) = .inl (cA (2 * t + 1), rmc t, .inl (fun j => nI ((va_up q i ((fx9 i - fy9 i - bo) % 4294967296)) j))) := f_92
            refine lv_lload hx hb dX8_takeSizes_82 (lv_at hl 0 rfl) ?_
            refine lv_lconst (v := lN 0) hx hb dX8_takeSizes_84 (by decide +kernel) ?_
            refine W.lcmp hx hb dX8_takeSizes_85 ?_
            refine lv_if_ge (tgt := 93) hx hb dX8_takeSizes_86 (by decide) (fun c_95 => ?_) (fun c_95 => absurd (mt (pk_lLE (a := 0) (b := (fx9 i - fy9 i - bo)) (by decide) (by omega)).mpr (mt (k_cmp_ge (lN (fx9 i - fy9 i - bo)) (lN 0)).mpr c_95)) (by omega))
            refine lv_lconst (v := lN 0) hx hb dX8_takeSizes_93 (by decide +kernel) ?_
            refine lv_lstore (lv' := [(5, .long (lN 0)), (8, .long (lN (fx9 i - fy9 i - bo))), (0, .ref (ad (2 * t))), (1, .ref (ad (2 * x))), (2, .ref (ad (2 * y))), (3, .int (nI sx9)), (4, .int (nI sy9)), (7, .int (nI i))]) hx hb dX8_takeSizes_94 hl (by decide) rfl (fun ls hl => ?_)
            refine lv_iinc (v := nI (i + 1)) (lv' := [(7, .int (nI (i + 1))), (5, .long (lN 0)), (8, .long (lN (fx9 i - fy9 i - bo))), (0, .ref (ad (2 * t))), (1, .ref (ad (2 * x))), (2, .ref (ad (2 * y))), (3, .int (nI sx9)), (4, .int (nI sy9))]) hx hb dX8_takeSizes_96 hl (k := 7) rfl (nI_add i 1) (by decide) rfl (fun ls hl => ?_)
            refine lv_goto (tgt := 25) hx hb dX8_takeSizes_99 (by decide) ?_
            exact ih_5 (i + 1) (va_up q i ((fx9 i - fy9 i - bo) % 4294967296)) 0 g_91 (fun (k : Nat) (hk : k ≠ 2 * t + 1) => (fr_93 k (by omega)).trans ((fr_7 k (by omega)).trans (rfl))) (by omega) (by omega) b_94 (fun j hj => by by_cases hji : j = i; subst hji; rw [va_up_self, dgt_sub hle, ← hdx, hdy, ← hbo, if_neg hlt]; omega; rw [va_up_ne _ _ hji]; exact hqd j (by omega)) (by rw [bw_s, ← hdx, hdy, ← hbo, if_neg hlt]) (by decide) f_92 _ _ _ hP hS (lv_sub (l' := [(0, .ref (ad (2 * t))), (1, .ref (ad (2 * x))), (2, .ref (ad (2 * y))), (3, .int (nI sx9)), (4, .int (nI sy9)), (5, .long (lN 0)), (7, .int (nI (i + 1)))]) hl [3, 4, 5, 6, 7, 1, 0] rfl)
  exact loop_4 _ 0 ft9 0 g (fun (k : Nat) (hk : k ≠ 2 * t + 1) => rfl) (Nat.lt_succ_self _) (by omega) ut9 (fun j h => absurd h (by omega)) ((bw_0 _ _).symm) (by decide) bt9 _ _ _ hP hS (lv_sub (l' := [(0, .ref (ad (2 * t))), (1, .ref (ad (2 * x))), (2, .ref (ad (2 * y))), (3, .int (nI sx9)), (4, .int (nI sy9)), (5, .long (lN 0)), (7, .int (nI 0))]) hl [4, 5, 6, 3, 2, 1, 0] rfl)
def wd_V8_take2 : List Cond := .code yX8_takeSizes cX8_takeSizes 10 none :: (([.fieldLink RX8 9 "GradientDesk$Whole" "words" "[I", .fieldLink RX8 15 "GradientDesk$Whole" "size" "I", .methodLink RX8 29 Lib.Math.min.name, .static Lib.Math.min.name, .initialized "java/lang/Math", .code Lib.Math.min.name Lib.Math.min.code 2 (some .int), .constantLong RX8 48 (4294967295)] : List Cond) ++ (u_ws RX8 TX8 3 ++ ([])))
theorem gw_V8_take2 : wd_V8_take2.all goodWord = true := k_allc rfl (k_all (by decide +kernel) (k_all (gu_X8) (rfl)))
set_option maxHeartbeats 4000000 in
set_option maxRecDepth 100000 in
theorem c_V8_take2 (l : Launch) (dC : Nat → ClassId) (dI : Nat → Nat → Nat) (A : Nat → Prop) (ad : Nat → Nat) (cA : Nat → ClassId) (g : Nat → va_E) (t : Nat) (y : Nat) (v : Int) (w1 : Int) (st9 : Nat) (nt9 : Nat) (ft9 : Nat → Nat) (it : t < 1038) (iy : y < 1038) (hT : WN ad cA g t st9 nt9 ft9) (rt9 : Rp ft9 st9 v.natAbs) (vy : WV ad cA g y w1) (hty : t ≠ y) (hle : w1.natAbs ≤ v.natAbs) : Met l yX8_takeSizes wd_V8_take2 ({ frames := 10, cells := 0, slots := 0, locals := 200 }) (va_Pc [.ref (ad (2 * t)), .ref (ad (2 * t)), .ref (ad (2 * y))] (PR NSc tyc dC dI A ad cA g)) (va_Qv (fun (u : (Nat → va_E) × Nat × (Nat → Nat)) => match u with | (g2, s2, f2) => (∀ k, k ≠ 2 * t ∧ k ≠ 2 * t + 1 → g2 k = g k) ∧ WN ad cA g2 t s2 nt9 f2 ∧ Rp f2 s2 (v.natAbs - w1.natAbs)) (fun (u : (Nat → va_E) × Nat × (Nat → Nat)) (t : State) => va_P (dC, dI) vwCl (wo ad NSc u.1) t.heap) A) (0) (0) A := by
  refine Met.ofW (cc := cX8_takeSizes) (maxL := 10) (ret := none) (by decide) rfl ?_
  intro p e s m args below meth c s₁ B hml hv
  obtain ⟨rfl, hA, hP, hL⟩ := hv
  have hx := B.exec
  have hb := B.bytes
  have hr := B.returns
  have hts := atoms_spec (ws := wd_V8_take2) B.pre
  have hown : s.vm.findClass RX8 = some m.cls := findClass_of_methodNamed B.named
  have hlocks := B.notSynchronized
  have hK := hL.1
  have hD : ∀ g, va_D A (wo ad NSc g) := fun g => wo_D hL.2.1 hL.2.2 g
  have hS : va_S A s.heap s.heap [] := va_S.rf
  have bk0 : ∀ w ∈ u_ws RX8 TX8 3, w ∈ wd_V8_take2 := fun _ h => List.mem_cons_of_mem _ (List.mem_append_right _ (List.mem_append_left _ h))
  have hl := lv_entry ([.ref (ad (2 * t)), .ref (ad (2 * t)), .ref (ad (2 * y))]) (n := 10) (Nat.le_of_ble_eq_true rfl)
  rw [lg_entry_eq]
  generalize (lg_sl ([.ref (ad (2 * t)), .ref (ad (2 * t)), .ref (ad (2 * y))]) ++ List.replicate (10 - (lg_sl ([.ref (ad (2 * t)), .ref (ad (2 * t)), .ref (ad (2 * y))])).length) Slot.unset).toArray = ls at hl ⊢
  have hl : lv_has ls 10 [(0, .ref (ad (2 * t))), (1, .ref (ad (2 * t))), (2, .ref (ad (2 * y)))] := hl
  obtain ⟨at9, bt9, ut9, ct9, et9⟩ := hT
  have qt9 := rmc_le t
  obtain ⟨sy9, ny9, fy9, ⟨ay9, by9, uy9, cy9, ey9⟩, ry9, gy9⟩ := vy
  have qy9 := rmc_le y
  refine lv_aload_n hx hb dX8_takeSizes_0 rfl (lv_at hl 0 rfl) ?_
  refine m_get (D := (dC, dI)) (v := .ref (ad (2 * t + 1))) (C := RX8) (T := TX8) (N := 3) hx hb hts bk0 hown hK hP (2 * t) (ns_w (by omega)) at9 rfl 0 (by decide) (hts (.fieldLink RX8 9 "GradientDesk$Whole" "words" "[I") (List.mem_of_getElem? (i := 1) rfl)) (fun _ h9 => h9) rfl dX8_takeSizes_1 ?_
  refine m_alen hx hb hK hP (2 * t + 1) (ns_w (by omega)) bt9 dX8_takeSizes_4 ?_
  refine lv_aload_n hx hb dX8_takeSizes_5 rfl (lv_at hl 1 rfl) ?_
  refine m_get (D := (dC, dI)) (v := .int (nI st9)) (C := RX8) (T := TX8) (N := 3) hx hb hts bk0 hown hK hP (2 * t) (ns_w (by omega)) at9 rfl 1 (by decide) (hts (.fieldLink RX8 15 "GradientDesk$Whole" "size" "I") (List.mem_of_getElem? (i := 2) rfl)) (fun _ h9 => h9) rfl dX8_takeSizes_6 ?_
  refine va_mmin hx hb (by rw [hml]; exact hl.1.symm) hown (hts (.methodLink RX8 29 Lib.Math.min.name) (List.mem_of_getElem? (i := 3) rfl)) (hts (.static Lib.Math.min.name) (List.mem_of_getElem? (i := 4) rfl)) (hts (.initialized "java/lang/Math") (List.mem_of_getElem? (i := 5) rfl)) (hts (.code Lib.Math.min.name Lib.Math.min.code 2 (some .int)) (List.mem_of_getElem? (i := 6) rfl)) (Nat.le_of_ble_eq_true rfl) (Nat.le_of_ble_eq_true rfl) (Nat.le_of_ble_eq_true rfl) (Nat.le_of_ble_eq_true rfl) dX8_takeSizes_9 ?_
  refine lv_topi (fun x_2 e_3 => ?_)
  obtain ⟨q_1, hq_1, eq_1⟩ : ∃ z : Nat, z = min (rmc t) st9 ∧ x_2 = nI z := ⟨_, rfl, by rw [e_3]; exact k_min (by omega) (by omega)⟩
  subst eq_1
  refine lv_istore_n (lv' := [(3, .int (nI q_1)), (0, .ref (ad (2 * t))), (1, .ref (ad (2 * t))), (2, .ref (ad (2 * y)))]) hx hb dX8_takeSizes_12 rfl hl (by decide) rfl (fun ls hl => ?_)
  refine lv_aload_n hx hb dX8_takeSizes_13 rfl (lv_at hl 3 rfl) ?_
  refine m_get (D := (dC, dI)) (v := .int (nI sy9)) (C := RX8) (T := TX8) (N := 3) hx hb hts bk0 hown hK hP (2 * y) (ns_w (by omega)) ay9 rfl 1 (by decide) (hts (.fieldLink RX8 15 "GradientDesk$Whole" "size" "I") (List.mem_of_getElem? (i := 2) rfl)) (fun _ h9 => h9) rfl dX8_takeSizes_14 ?_
  refine lv_istore (lv' := [(4, .int (nI sy9)), (3, .int (nI q_1)), (0, .ref (ad (2 * t))), (1, .ref (ad (2 * t))), (2, .ref (ad (2 * y)))]) hx hb dX8_takeSizes_17 hl (by decide) rfl (fun ls hl => ?_)
  have hrm : q_1 = st9 := by omega
  rw [hrm] at hl
  refine lv_lconst (v := lN 0) hx hb dX8_takeSizes_19 (by decide +kernel) ?_
  refine lv_lstore (lv' := [(5, .long (lN 0)), (4, .int (nI sy9)), (3, .int (nI st9)), (0, .ref (ad (2 * t))), (1, .ref (ad (2 * t))), (2, .ref (ad (2 * y)))]) hx hb dX8_takeSizes_20 hl (by decide) rfl (fun ls hl => ?_)
  refine lv_iconst (v := nI 0) hx hb dX8_takeSizes_22 (by decide +kernel) ?_
  refine lv_istore (lv' := [(7, .int (nI 0)), (5, .long (lN 0)), (4, .int (nI sy9)), (3, .int (nI st9)), (0, .ref (ad (2 * t))), (1, .ref (ad (2 * t))), (2, .ref (ad (2 * y)))]) hx hb dX8_takeSizes_23 hl (by decide) rfl (fun ls hl => ?_)
  have loop_4 : ∀ (k9 : Nat) (i : Nat) (q : Nat → Nat) (bo : Nat) (g_6 : Nat → va_E) (fr_7 : ∀ k, (k ≠ 2 * t + 1) → g_6 k = g k), 5000 - i < k9 → (i ≤ st9) → (∀ j, q j < 4294967296) → (∀ j, j < i → q j = dgt (v.natAbs - w1.natAbs) j) → (bo = bw v.natAbs w1.natAbs i) → (bo ≤ 1) → (∀ j, i ≤ j → q j = ft9 j) → (g_6 (2 * t + 1) = .inl (cA (2 * t + 1), rmc t, .inl (fun j => nI (q j)))) → ∀ (H : Heap) (locs : List Loc) (ls : Array Slot), va_P (dC, dI) vwCl (wo ad NSc g_6) H → va_S A s.heap H locs → lv_has ls 10 [(0, .ref (ad (2 * t))), (1, .ref (ad (2 * t))), (2, .ref (ad (2 * y))), (3, .int (nI st9)), (4, .int (nI sy9)), (5, .long (lN bo)), (7, .int (nI i))] → W p l e (headSpec wd_V8_take2 ({ frames := 10, cells := 0, slots := 0, locals := 200 })).room s m ([.ref (ad (2 * t)), .ref (ad (2 * t)), .ref (ad (2 * y))] : List Value).toArray below meth c H locs (0) (0) (MQ below (va_Qv (fun (u : (Nat → va_E) × Nat × (Nat → Nat)) => match u with | (g2, s2, f2) => (∀ k, k ≠ 2 * t ∧ k ≠ 2 * t + 1 → g2 k = g k) ∧ WN ad cA g2 t s2 nt9 f2 ∧ Rp f2 s2 (v.natAbs - w1.natAbs)) (fun (u : (Nat → va_E) × Nat × (Nat → Nat)) (t : State) => va_P (dC, dI) vwCl (wo ad NSc u.1) t.heap) A) ([.ref (ad (2 * t)), .ref (ad (2 * t)), .ref (ad (2 * y))] : List Value).toArray s (0) (0) A) (F0 m 25 ls []) := by
    intro k9
    induction k9 with
    | zero => intro i q bo g_6 fr_7 h9; exact absurd h9 (Nat.not_lt_zero _)
    | succ k9 ih_5 =>
      intro i q bo g_6 fr_7 h9 hi hqb hqd hbo hc1 hkp f_8 H locs ls hP hS hl
      refine lv_iload hx hb dX8_takeSizes_25 (lv_at hl 6 rfl) ?_
      refine lv_iload_n hx hb dX8_takeSizes_27 rfl (lv_at hl 3 rfl) ?_
      refine lv_icmp_ge (tgt := 102) hx hb dX8_takeSizes_28 (by decide) (fun c_9 => ?_) (fun c_9 => ?_)
      · have c_9 := (nI_leI (a := st9) (b := i) (by omega) (by omega)).mp c_9
        have hir : i = st9 := by omega
        rw [hir] at hqd
        refine lv_aload_n hx hb dX8_takeSizes_102 rfl (lv_at hl 0 rfl) ?_
        refine lv_iload_n hx hb dX8_takeSizes_103 rfl (lv_at hl 3 rfl) ?_
        have f_10 : g_6 (2 * t) = .inr (11, [.ref (ad (2 * t + 1)), .int (nI st9), .int (nI nt9)]) := (fr_7 (2 * t) (by omega)).trans at9
        refine m_put (D := (dC, dI)) (v := .int (nI st9)) (tv := .int) (C := RX8) (T := TX8) (N := 3) hx hb hts bk0 tyX8 tyX8_ok nmX8 hown hK hP hD hS (2 * t) (ns_w (by omega)) f_10 rfl 1 (by decide) (hts (.fieldLink RX8 15 "GradientDesk$Whole" "size" "I") (List.mem_of_getElem? (i := 2) rfl)) (fun _ h9 => h9) rfl (by decide +kernel) rfl rfl (Nat.le_of_ble_eq_true rfl) dX8_takeSizes_104 (fun H locs g_11 f_12 fr_13 hP hS => ?_)
        have f_12 : g_11 (2 * t) = .inr (11, [.ref (ad (2 * t + 1)), .int (nI st9), .int (nI nt9)]) := f_12
        have loop_14 : ∀ (k9 : Nat) (z : Nat) (g_16 : Nat → va_E) (fr_17 : ∀ k, (k ≠ 2 * t) → g_16 k = g_11 k), z < k9 → (z ≤ st9) → (∀ j, z ≤ j → j < st9 → q j = 0) → (g_16 (2 * t) = .inr (11, [.ref (ad (2 * t + 1)), .int (nI z), .int (nI nt9)])) → ∀ (H : Heap) (locs : List Loc) (ls : Array Slot), va_P (dC, dI) vwCl (wo ad NSc g_16) H → va_S A s.heap H locs → lv_has ls 10 [(0, .ref (ad (2 * t)))] → W p l e (headSpec wd_V8_take2 ({ frames := 10, cells := 0, slots := 0, locals := 200 })).room s m ([.ref (ad (2 * t)), .ref (ad (2 * t)), .ref (ad (2 * y))] : List Value).toArray below meth c H locs (0) (0) (MQ below (va_Qv (fun (u : (Nat → va_E) × Nat × (Nat → Nat)) => match u with | (g2, s2, f2) => (∀ k, k ≠ 2 * t ∧ k ≠ 2 * t + 1 → g2 k = g k) ∧ WN ad cA g2 t s2 nt9 f2 ∧ Rp f2 s2 (v.natAbs - w1.natAbs)) (fun (u : (Nat → va_E) × Nat × (Nat → Nat)) (t : State) => va_P (dC, dI) vwCl (wo ad NSc u.1) t.heap) A) ([.ref (ad (2 * t)), .ref (ad (2 * t)), .ref (ad (2 * y))] : List Value).toArray s (0) (0) A) (F0 m 107 ls []) := by
          intro k9
          induction k9 with
          | zero => intro z g_16 fr_17 h9; exact absurd h9 (Nat.not_lt_zero _)
          | succ k9 ih_15 =>
            intro z g_16 fr_17 h9 hz hzz f_18 H locs ls hP hS hl
            refine lv_aload_n hx hb dX8_takeSizes_107 rfl (lv_at hl 0 rfl) ?_
            refine m_get (D := (dC, dI)) (v := .int (nI z)) (C := RX8) (T := TX8) (N := 3) hx hb hts bk0 hown hK hP (2 * t) (ns_w (by omega)) f_18 rfl 1 (by decide) (hts (.fieldLink RX8 15 "GradientDesk$Whole" "size" "I") (List.mem_of_getElem? (i := 2) rfl)) (fun _ h9 => h9) rfl dX8_takeSizes_108 ?_
            refine lv_if_le (tgt := 141) hx hb dX8_takeSizes_111 (by decide) (fun c_19 => ?_) (fun c_19 => ?_)
            · have c_19 := (nI_leI (a := z) (b := 0) (by omega) (by decide)).mp c_19
              have f_20 : g_16 (2 * t + 1) = .inl (cA (2 * t + 1), rmc t, .inl (fun j => nI (q j))) := (fr_17 (2 * t + 1) (by omega)).trans ((fr_13 (2 * t + 1) (by omega)).trans f_8)
              refine W.widen (k := 0) (n := 0) (by omega) (by omega) ?_
              exact W.vret hx hb hr (fun t9 ht9 hW9 => ⟨⟨(g_16, z, (q)), rfl, ⟨(fun (k : Nat) (hk : k ≠ 2 * t ∧ k ≠ 2 * t + 1) => (fr_17 k (by omega)).trans ((fr_13 k (by omega)).trans ((fr_7 k (by omega)).trans (rfl)))), ⟨f_18, f_20, hqb, by omega, by omega⟩, Rp.fin (n := st9) hqd (Nat.lt_of_le_of_lt (Nat.sub_le _ _) rt9.lt) hz hzz (Or.inl (by omega))⟩, by show va_P (dC, dI) vwCl _ t9.heap; rw [ht9]; exact hP⟩, hS.F ht9⟩) hS.2.2 dX8_takeSizes_141
            · have c_19 := mt (nI_leI (a := z) (b := 0) (by omega) (by decide)).mpr c_19
              refine lv_aload_n hx hb dX8_takeSizes_114 rfl (lv_at hl 0 rfl) ?_
              refine m_get (D := (dC, dI)) (v := .ref (ad (2 * t + 1))) (C := RX8) (T := TX8) (N := 3) hx hb hts bk0 hown hK hP (2 * t) (ns_w (by omega)) f_18 rfl 0 (by decide) (hts (.fieldLink RX8 9 "GradientDesk$Whole" "words" "[I") (List.mem_of_getElem? (i := 1) rfl)) (fun _ h9 => h9) rfl dX8_takeSizes_115 ?_
              refine lv_aload_n hx hb dX8_takeSizes_118 rfl (lv_at hl 0 rfl) ?_
              refine m_get (D := (dC, dI)) (v := .int (nI z)) (C := RX8) (T := TX8) (N := 3) hx hb hts bk0 hown hK hP (2 * t) (ns_w (by omega)) f_18 rfl 1 (by decide) (hts (.fieldLink RX8 15 "GradientDesk$Whole" "size" "I") (List.mem_of_getElem? (i := 2) rfl)) (fun _ h9 => h9) rfl dX8_takeSizes_119 ?_
              refine lv_iconst (v := nI 1) hx hb dX8_takeSizes_122 (by decide +kernel) ?_
              refine lv_isub hx hb dX8_takeSizes_123 ?_
              refine lv_topi (fun x_21 e_22 => ?_)
              obtain rfl : x_21 = nI (z - 1) := e_22.trans (pk_sub (show 1 ≤ z by omega))
              have f_23 : g_16 (2 * t + 1) = .inl (cA (2 * t + 1), rmc t, .inl (fun j => nI (q j))) := (fr_17 (2 * t + 1) (by omega)).trans ((fr_13 (2 * t + 1) (by omega)).trans f_8)
              refine m_iald hx hb hK hP (2 * t + 1) (ns_w (by omega)) (tyc_w (by omega)) f_23 (i := z - 1) (by omega) (by omega) dX8_takeSizes_124 ?_
              have b_24 := hqb (z - 1)
              refine lv_if_ne (tgt := 141) hx hb dX8_takeSizes_125 (by decide) (fun c_25 => ?_) (fun c_25 => ?_)
              · have c_25 := mt (k_weq (a := (q (z - 1))) (b := 0) (by omega) (by decide)).mpr c_25
                refine W.widen (k := 0) (n := 0) (by omega) (by omega) ?_
                exact W.vret hx hb hr (fun t9 ht9 hW9 => ⟨⟨(g_16, z, (q)), rfl, ⟨(fun (k : Nat) (hk : k ≠ 2 * t ∧ k ≠ 2 * t + 1) => (fr_17 k (by omega)).trans ((fr_13 k (by omega)).trans ((fr_7 k (by omega)).trans (rfl)))), ⟨f_18, f_23, hqb, by omega, by omega⟩, Rp.fin (n := st9) hqd (Nat.lt_of_le_of_lt (Nat.sub_le _ _) rt9.lt) hz hzz (Or.inr c_25)⟩, by show va_P (dC, dI) vwCl _ t9.heap; rw [ht9]; exact hP⟩, hS.F ht9⟩) hS.2.2 dX8_takeSizes_141
              · have c_25 := (k_weq (a := (q (z - 1))) (b := 0) (by omega) (by decide)).mp c_25
                refine lv_aload_n hx hb dX8_takeSizes_128 rfl (lv_at hl 0 rfl) ?_
                refine lv_dup hx hb dX8_takeSizes_129 rfl ?_
                refine m_get (D := (dC, dI)) (v := .int (nI z)) (C := RX8) (T := TX8) (N := 3) hx hb hts bk0 hown hK hP (2 * t) (ns_w (by omega)) f_18 rfl 1 (by decide) (hts (.fieldLink RX8 15 "GradientDesk$Whole" "size" "I") (List.mem_of_getElem? (i := 2) rfl)) (fun _ h9 => h9) rfl dX8_takeSizes_130 ?_
                refine lv_iconst (v := nI 1) hx hb dX8_takeSizes_133 (by decide +kernel) ?_
                refine lv_isub hx hb dX8_takeSizes_134 ?_
                refine lv_topi (fun x_26 e_27 => ?_)
                obtain rfl : x_26 = nI (z - 1) := e_27.trans (pk_sub (show 1 ≤ z by omega))
                refine m_put (D := (dC, dI)) (v := .int (nI (z - 1))) (tv := .int) (C := RX8) (T := TX8) (N := 3) hx hb hts bk0 tyX8 tyX8_ok nmX8 hown hK hP hD hS (2 * t) (ns_w (by omega)) f_18 rfl 1 (by decide) (hts (.fieldLink RX8 15 "GradientDesk$Whole" "size" "I") (List.mem_of_getElem? (i := 2) rfl)) (fun _ h9 => h9) rfl (by decide +kernel) rfl rfl (Nat.le_of_ble_eq_true rfl) dX8_takeSizes_135 (fun H locs g_28 f_29 fr_30 hP hS => ?_)
                have f_29 : g_28 (2 * t) = .inr (11, [.ref (ad (2 * t + 1)), .int (nI (z - 1)), .int (nI nt9)]) := f_29
                refine lv_goto (tgt := 107) hx hb dX8_takeSizes_138 (by decide) ?_
                exact ih_15 (z - 1) g_28 (fun (k : Nat) (hk : k ≠ 2 * t) => (fr_30 k (by omega)).trans ((fr_17 k (by omega)).trans (rfl))) (by omega) (by omega) (fun j h1 h2 => by by_cases h9 : j = z - 1; subst h9; exact c_25; exact hzz j (by omega) h2) f_29 _ _ _ hP hS (lv_sub (l' := [(0, .ref (ad (2 * t)))]) hl [0] rfl)
        exact loop_14 _ st9 g_11 (fun (k : Nat) (hk : k ≠ 2 * t) => rfl) (Nat.lt_succ_self _) (by omega) (fun j h1 h2 => absurd h1 (by omega)) f_12 _ _ _ hP hS (lv_sub (l' := [(0, .ref (ad (2 * t)))]) hl [0] rfl)
      · have c_9 := mt (nI_leI (a := st9) (b := i) (by omega) (by omega)).mpr c_9
        refine lv_aload_n hx hb dX8_takeSizes_31 rfl (lv_at hl 1 rfl) ?_
        have f_31 : g_6 (2 * t) = .inr (11, [.ref (ad (2 * t + 1)), .int (nI st9), .int (nI nt9)]) := (fr_7 (2 * t) (by omega)).trans at9
        refine m_get (D := (dC, dI)) (v := .ref (ad (2 * t + 1))) (C := RX8) (T := TX8) (N := 3) hx hb hts bk0 hown hK hP (2 * t) (ns_w (by omega)) f_31 rfl 0 (by decide) (hts (.fieldLink RX8 9 "GradientDesk$Whole" "words" "[I") (List.mem_of_getElem? (i := 1) rfl)) (fun _ h9 => h9) rfl dX8_takeSizes_32 ?_
        refine lv_iload hx hb dX8_takeSizes_35 (lv_at hl 6 rfl) ?_
        refine m_iald hx hb hK hP (2 * t + 1) (ns_w (by omega)) (tyc_w (by omega)) f_8 (i := i) (by omega) (by omega) dX8_takeSizes_37 ?_
        have b_32 := hqb i
        refine lv_i2l hx hb dX8_takeSizes_38 rfl ?_
        refine lv_topl (fun y_33 e_34 => ?_)
        subst e_34
        refine lv_ldc2 (v := 4294967295) hx hb hown (hts (.constantLong RX8 48 (4294967295)) (List.mem_of_getElem? (i := 7) rfl)) dX8_takeSizes_39 ?_
        refine lv_topl (fun y_35 e_36 => ?_)
        obtain rfl : y_35 = lN 4294967295 := e_36
        refine lv_land hx hb dX8_takeSizes_42 ?_
        refine lv_topl (fun y_37 e_38 => ?_)
        obtain rfl : y_37 = lN (q i) := e_38.trans (k_word b_32)
        refine lv_iload hx hb dX8_takeSizes_43 (lv_at hl 6 rfl) ?_
        refine lv_iload hx hb dX8_takeSizes_45 (lv_at hl 4 rfl) ?_
        refine lv_icmp_ge (tgt := 65) hx hb dX8_takeSizes_47 (by decide) (fun c_39 => ?_) (fun c_39 => ?_)
        · have c_39 := (nI_leI (a := sy9) (b := i) (by omega) (by omega)).mp c_39
          refine lv_lconst (v := lN 0) hx hb dX8_takeSizes_65 (by decide +kernel) ?_
          have hdx : q i = dgt v.natAbs i := by rw [hkp i (Nat.le_refl _)]; exact rt9.dg (by omega)
          have hdy : dgt w1.natAbs i = 0 := ry9.dg0 (by omega)
          have hbx : q i < 4294967296 := hqb i
          have hby : 0 < 4294967296 := by decide
          refine lv_lsub hx hb dX8_takeSizes_66 ?_
          refine lv_topl (fun y_40 e_41 => ?_)
          refine lv_lload hx hb dX8_takeSizes_67 (lv_at hl 5 rfl) ?_
          refine lv_lsub hx hb dX8_takeSizes_69 ?_
          refine lv_topl (fun y_42 e_43 => ?_)
          rw [e_41] at e_43
          by_cases hlt : q i < 0 + bo
          · skip
            obtain rfl : y_42 = lN (18446744073709551616 + q i - 0 - bo) := e_43.trans (k_subn (by omega) (by omega) (by omega) hlt)
            refine lv_lstore (lv' := [(8, .long (lN (18446744073709551616 + q i - 0 - bo))), (0, .ref (ad (2 * t))), (1, .ref (ad (2 * t))), (2, .ref (ad (2 * y))), (3, .int (nI st9)), (4, .int (nI sy9)), (5, .long (lN bo)), (7, .int (nI i))]) hx hb dX8_takeSizes_70 hl (by decide) rfl (fun ls hl => ?_)
            refine lv_aload_n hx hb dX8_takeSizes_72 rfl (lv_at hl 1 rfl) ?_
            refine m_get (D := (dC, dI)) (v := .ref (ad (2 * t + 1))) (C := RX8) (T := TX8) (N := 3) hx hb hts bk0 hown hK hP (2 * t) (ns_w (by omega)) f_31 rfl 0 (by decide) (hts (.fieldLink RX8 9 "GradientDesk$Whole" "words" "[I") (List.mem_of_getElem? (i := 1) rfl)) (fun _ h9 => h9) rfl dX8_takeSizes_73 ?_
            refine lv_iload hx hb dX8_takeSizes_76 (lv_at hl 7 rfl) ?_
            refine lv_lload hx hb dX8_takeSizes_78 (lv_at hl 0 rfl) ?_
            refine lv_l2i hx hb dX8_takeSizes_80 rfl ?_
            refine lv_topi (fun x_44 e_45 => ?_)
            obtain rfl : x_44 = nI (18446744073709551616 + q i - 0 - bo) := e_45.trans (lN_i (18446744073709551616 + q i - 0 - bo))
            rw [show nI (18446744073709551616 + q i - 0 - bo) = nI ((18446744073709551616 + q i - 0 - bo) % 4294967296) from nI_md _]
            refine m_iast hx hb hK hP hD hS (2 * t + 1) (ns_w (by omega)) (tyc_w (by omega)) f_8 (i := i) (x := nI ((18446744073709551616 + q i - 0 - bo) % 4294967296)) (by omega) (by omega) dX8_takeSizes_81 (fun H locs g_46 f_47 fr_48 hP hS => ?_)
            rw [k_updI] at f_47
            have b_49 : ∀ j, (va_up q i ((18446744073709551616 + q i - 0 - bo) % 4294967296)) j < 4294967296 := k_up_lt hqb (by omega)
            have f_47 : g_46 (2 * t + 1) = .inl (cA (2 * t + 1), rmc t, .inl (fun j => nI ((va_up q i ((18446744073709551616 + q i - 0 - bo) % 4294967296)) j))) := f_47
            refine lv_lload hx hb dX8_takeSizes_82 (lv_at hl 0 rfl) ?_
            refine lv_lconst (v := lN 0) hx hb dX8_takeSizes_84 (by decide +kernel) ?_
            refine W.lcmp hx hb dX8_takeSizes_85 ?_
            refine lv_if_ge (tgt := 93) hx hb dX8_takeSizes_86 (by decide) (fun c_50 => absurd ((k_cmp_ge _ _).mp c_50) (Int64.not_le.mpr (k_lneg (by omega) (by omega)))) (fun c_50 => ?_)
            refine lv_lconst (v := lN 1) hx hb dX8_takeSizes_89 (by decide +kernel) ?_
            refine lv_goto (tgt := 94) hx hb dX8_takeSizes_90 (by decide) ?_
            refine lv_lstore (lv' := [(5, .long (lN 1)), (8, .long (lN (18446744073709551616 + q i - 0 - bo))), (0, .ref (ad (2 * t))), (1, .ref (ad (2 * t))), (2, .ref (ad (2 * y))), (3, .int (nI st9)), (4, .int (nI sy9)), (7, .int (nI i))]) hx hb dX8_takeSizes_94 hl (by decide) rfl (fun ls hl => ?_)
            refine lv_iinc (v := nI (i + 1)) (lv' := [(7, .int (nI (i + 1))), (5, .long (lN 1)), (8, .long (lN (18446744073709551616 + q i - 0 - bo))), (0, .ref (ad (2 * t))), (1, .ref (ad (2 * t))), (2, .ref (ad (2 * y))), (3, .int (nI st9)), (4, .int (nI sy9))]) hx hb dX8_takeSizes_96 hl (k := 7) rfl (nI_add i 1) (by decide) rfl (fun ls hl => ?_)
            refine lv_goto (tgt := 25) hx hb dX8_takeSizes_99 (by decide) ?_
            exact ih_5 (i + 1) (va_up q i ((18446744073709551616 + q i - 0 - bo) % 4294967296)) 1 g_46 (fun (k : Nat) (hk : k ≠ 2 * t + 1) => (fr_48 k (by omega)).trans ((fr_7 k (by omega)).trans (rfl))) (by omega) (by omega) b_49 (fun j hj => by by_cases hji : j = i; subst hji; rw [va_up_self, dgt_sub hle, ← hdx, hdy, ← hbo, if_pos hlt]; omega; rw [va_up_ne _ _ hji]; exact hqd j (by omega)) (by rw [bw_s, ← hdx, hdy, ← hbo, if_pos hlt]) (by decide) (fun j hj => (va_up_ne _ _ (by omega)).trans (hkp j (by omega))) f_47 _ _ _ hP hS (lv_sub (l' := [(0, .ref (ad (2 * t))), (1, .ref (ad (2 * t))), (2, .ref (ad (2 * y))), (3, .int (nI st9)), (4, .int (nI sy9)), (5, .long (lN 1)), (7, .int (nI (i + 1)))]) hl [3, 4, 5, 6, 7, 1, 0] rfl)
          · skip
            obtain rfl : y_42 = lN (q i - 0 - bo) := e_43.trans (by rw [lN_sub (by omega), lN_sub (by omega)])
            refine lv_lstore (lv' := [(8, .long (lN (q i - 0 - bo))), (0, .ref (ad (2 * t))), (1, .ref (ad (2 * t))), (2, .ref (ad (2 * y))), (3, .int (nI st9)), (4, .int (nI sy9)), (5, .long (lN bo)), (7, .int (nI i))]) hx hb dX8_takeSizes_70 hl (by decide) rfl (fun ls hl => ?_)
            refine lv_aload_n hx hb dX8_takeSizes_72 rfl (lv_at hl 1 rfl) ?_
            refine m_get (D := (dC, dI)) (v := .ref (ad (2 * t + 1))) (C := RX8) (T := TX8) (N := 3) hx hb hts bk0 hown hK hP (2 * t) (ns_w (by omega)) f_31 rfl 0 (by decide) (hts (.fieldLink RX8 9 "GradientDesk$Whole" "words" "[I") (List.mem_of_getElem? (i := 1) rfl)) (fun _ h9 => h9) rfl dX8_takeSizes_73 ?_
            refine lv_iload hx hb dX8_takeSizes_76 (lv_at hl 7 rfl) ?_
            refine lv_lload hx hb dX8_takeSizes_78 (lv_at hl 0 rfl) ?_
            refine lv_l2i hx hb dX8_takeSizes_80 rfl ?_
            refine lv_topi (fun x_53 e_54 => ?_)
            obtain rfl : x_53 = nI (q i - 0 - bo) := e_54.trans (lN_i (q i - 0 - bo))
            rw [show nI (q i - 0 - bo) = nI ((q i - 0 - bo) % 4294967296) from nI_md _]
            refine m_iast hx hb hK hP hD hS (2 * t + 1) (ns_w (by omega)) (tyc_w (by omega)) f_8 (i := i) (x := nI ((q i - 0 - bo) % 4294967296)) (by omega) (by omega) dX8_takeSizes_81 (fun H locs g_55 f_56 fr_57 hP hS => ?_)
            rw [k_updI] at f_56
            have b_58 : ∀ j, (va_up q i ((q i - 0 - bo) % 4294967296)) j < 4294967296 := k_up_lt hqb (by omega)
            have f_56 : g_55 (2 * t + 1) = .inl (cA (2 * t + 1), rmc t, .inl (fun j => nI ((va_up q i ((q i - 0 - bo) % 4294967296)) j))) := f_56
            refine lv_lload hx hb dX8_takeSizes_82 (lv_at hl 0 rfl) ?_
            refine lv_lconst (v := lN 0) hx hb dX8_takeSizes_84 (by decide +kernel) ?_
            refine W.lcmp hx hb dX8_takeSizes_85 ?_
            refine lv_if_ge (tgt := 93) hx hb dX8_takeSizes_86 (by decide) (fun c_59 => ?_) (fun c_59 => absurd (mt (pk_lLE (a := 0) (b := (q i - 0 - bo)) (by decide) (by omega)).mpr (mt (k_cmp_ge (lN (q i - 0 - bo)) (lN 0)).mpr c_59)) (by omega))
            refine lv_lconst (v := lN 0) hx hb dX8_takeSizes_93 (by decide +kernel) ?_
            refine lv_lstore (lv' := [(5, .long (lN 0)), (8, .long (lN (q i - 0 - bo))), (0, .ref (ad (2 * t))), (1, .ref (ad (2 * t))), (2, .ref (ad (2 * y))), (3, .int (nI st9)), (4, .int (nI sy9)), (7, .int (nI i))]) hx hb dX8_takeSizes_94 hl (by decide) rfl (fun ls hl => ?_)
            refine lv_iinc (v := nI (i + 1)) (lv' := [(7, .int (nI (i + 1))), (5, .long (lN 0)), (8, .long (lN (q i - 0 - bo))), (0, .ref (ad (2 * t))), (1, .ref (ad (2 * t))), (2, .ref (ad (2 * y))), (3, .int (nI st9)), (4, .int (nI sy9))]) hx hb dX8_takeSizes_96 hl (k := 7) rfl (nI_add i 1) (by decide) rfl (fun ls hl => ?_)
            refine lv_goto (tgt := 25) hx hb dX8_takeSizes_99 (by decide) ?_
            exact ih_5 (i + 1) (va_up q i ((q i - 0 - bo) % 4294967296)) 0 g_55 (fun (k : Nat) (hk : k ≠ 2 * t + 1) => (fr_57 k (by omega)).trans ((fr_7 k (by omega)).trans (rfl))) (by omega) (by omega) b_58 (fun j hj => by by_cases hji : j = i; subst hji; rw [va_up_self, dgt_sub hle, ← hdx, hdy, ← hbo, if_neg hlt]; omega; rw [va_up_ne _ _ hji]; exact hqd j (by omega)) (by rw [bw_s, ← hdx, hdy, ← hbo, if_neg hlt]) (by decide) (fun j hj => (va_up_ne _ _ (by omega)).trans (hkp j (by omega))) f_56 _ _ _ hP hS (lv_sub (l' := [(0, .ref (ad (2 * t))), (1, .ref (ad (2 * t))), (2, .ref (ad (2 * y))), (3, .int (nI st9)), (4, .int (nI sy9)), (5, .long (lN 0)), (7, .int (nI (i + 1)))]) hl [3, 4, 5, 6, 7, 1, 0] rfl)
        · have c_39 := mt (nI_leI (a := sy9) (b := i) (by omega) (by omega)).mpr c_39
          refine lv_aload_n hx hb dX8_takeSizes_50 rfl (lv_at hl 2 rfl) ?_
          have f_62 : g_6 (2 * y) = .inr (11, [.ref (ad (2 * y + 1)), .int (nI sy9), .int (nI ny9)]) := (fr_7 (2 * y) (by omega)).trans ay9
          refine m_get (D := (dC, dI)) (v := .ref (ad (2 * y + 1))) (C := RX8) (T := TX8) (N := 3) hx hb hts bk0 hown hK hP (2 * y) (ns_w (by omega)) f_62 rfl 0 (by decide) (hts (.fieldLink RX8 9 "GradientDesk$Whole" "words" "[I") (List.mem_of_getElem? (i := 1) rfl)) (fun _ h9 => h9) rfl dX8_takeSizes_51 ?_
          refine lv_iload hx hb dX8_takeSizes_54 (lv_at hl 6 rfl) ?_
          have f_63 : g_6 (2 * y + 1) = .inl (cA (2 * y + 1), rmc y, .inl (fun j => nI (fy9 j))) := (fr_7 (2 * y + 1) (by omega)).trans by9
          refine m_iald hx hb hK hP (2 * y + 1) (ns_w (by omega)) (tyc_w (by omega)) f_63 (i := i) (by omega) (by omega) dX8_takeSizes_56 ?_
          have b_64 := uy9 i
          refine lv_i2l hx hb dX8_takeSizes_57 rfl ?_
          refine lv_topl (fun y_65 e_66 => ?_)
          subst e_66
          refine lv_ldc2 (v := 4294967295) hx hb hown (hts (.constantLong RX8 48 (4294967295)) (List.mem_of_getElem? (i := 7) rfl)) dX8_takeSizes_58 ?_
          refine lv_topl (fun y_67 e_68 => ?_)
          obtain rfl : y_67 = lN 4294967295 := e_68
          refine lv_land hx hb dX8_takeSizes_61 ?_
          refine lv_topl (fun y_69 e_70 => ?_)
          obtain rfl : y_69 = lN (fy9 i) := e_70.trans (k_word b_64)
          refine lv_goto (tgt := 66) hx hb dX8_takeSizes_62 (by decide) ?_
          have hdx : q i = dgt v.natAbs i := by rw [hkp i (Nat.le_refl _)]; exact rt9.dg (by omega)
          have hdy : dgt w1.natAbs i = fy9 i := (ry9.dg (by omega)).symm
          have hbx : q i < 4294967296 := hqb i
          have hby : fy9 i < 4294967296 := uy9 i
          refine lv_lsub hx hb dX8_takeSizes_66 ?_
          refine lv_topl (fun y_71 e_72 => ?_)
          refine lv_lload hx hb dX8_takeSizes_67 (lv_at hl 5 rfl) ?_
          refine lv_lsub hx hb dX8_takeSizes_69 ?_
          refine lv_topl (fun y_73 e_74 => ?_)
          rw [e_72] at e_74
          by_cases hlt : q i < fy9 i + bo
          · skip
            obtain rfl : y_73 = lN (18446744073709551616 + q i - fy9 i - bo) := e_74.trans (k_subn (by omega) (by omega) (by omega) hlt)
            refine lv_lstore (lv' := [(8, .long (lN (18446744073709551616 + q i - fy9 i - bo))), (0, .ref (ad (2 * t))), (1, .ref (ad (2 * t))), (2, .ref (ad (2 * y))), (3, .int (nI st9)), (4, .int (nI sy9)), (5, .long (lN bo)), (7, .int (nI i))]) hx hb dX8_takeSizes_70 hl (by decide) rfl (fun ls hl => ?_)
            refine lv_aload_n hx hb dX8_takeSizes_72 rfl (lv_at hl 1 rfl) ?_
            refine m_get (D := (dC, dI)) (v := .ref (ad (2 * t + 1))) (C := RX8) (T := TX8) (N := 3) hx hb hts bk0 hown hK hP (2 * t) (ns_w (by omega)) f_31 rfl 0 (by decide) (hts (.fieldLink RX8 9 "GradientDesk$Whole" "words" "[I") (List.mem_of_getElem? (i := 1) rfl)) (fun _ h9 => h9) rfl dX8_takeSizes_73 ?_
            refine lv_iload hx hb dX8_takeSizes_76 (lv_at hl 7 rfl) ?_
            refine lv_lload hx hb dX8_takeSizes_78 (lv_at hl 0 rfl) ?_
            refine lv_l2i hx hb dX8_takeSizes_80 rfl ?_
            refine lv_topi (fun x_75 e_76 => ?_)
            obtain rfl : x_75 = nI (18446744073709551616 + q i - fy9 i - bo) := e_76.trans (lN_i (18446744073709551616 + q i - fy9 i - bo))
            rw [show nI (18446744073709551616 + q i - fy9 i - bo) = nI ((18446744073709551616 + q i - fy9 i - bo) % 4294967296) from nI_md _]
            refine m_iast hx hb hK hP hD hS (2 * t + 1) (ns_w (by omega)) (tyc_w (by omega)) f_8 (i := i) (x := nI ((18446744073709551616 + q i - fy9 i - bo) % 4294967296)) (by omega) (by omega) dX8_takeSizes_81 (fun H locs g_77 f_78 fr_79 hP hS => ?_)
            rw [k_updI] at f_78
            have b_80 : ∀ j, (va_up q i ((18446744073709551616 + q i - fy9 i - bo) % 4294967296)) j < 4294967296 := k_up_lt hqb (by omega)
            have f_78 : g_77 (2 * t + 1) = .inl (cA (2 * t + 1), rmc t, .inl (fun j => nI ((va_up q i ((18446744073709551616 + q i - fy9 i - bo) % 4294967296)) j))) := f_78
            refine lv_lload hx hb dX8_takeSizes_82 (lv_at hl 0 rfl) ?_
            refine lv_lconst (v := lN 0) hx hb dX8_takeSizes_84 (by decide +kernel) ?_
            refine W.lcmp hx hb dX8_takeSizes_85 ?_
            refine lv_if_ge (tgt := 93) hx hb dX8_takeSizes_86 (by decide) (fun c_81 => absurd ((k_cmp_ge _ _).mp c_81) (Int64.not_le.mpr (k_lneg (by omega) (by omega)))) (fun c_81 => ?_)
            refine lv_lconst (v := lN 1) hx hb dX8_takeSizes_89 (by decide +kernel) ?_
            refine lv_goto (tgt := 94) hx hb dX8_takeSizes_90 (by decide) ?_
            refine lv_lstore (lv' := [(5, .long (lN 1)), (8, .long (lN (18446744073709551616 + q i - fy9 i - bo))), (0, .ref (ad (2 * t))), (1, .ref (ad (2 * t))), (2, .ref (ad (2 * y))), (3, .int (nI st9)), (4, .int (nI sy9)), (7, .int (nI i))]) hx hb dX8_takeSizes_94 hl (by decide) rfl (fun ls hl => ?_)
            refine lv_iinc (v := nI (i + 1)) (lv' := [(7, .int (nI (i + 1))), (5, .long (lN 1)), (8, .long (lN (18446744073709551616 + q i - fy9 i - bo))), (0, .ref (ad (2 * t))), (1, .ref (ad (2 * t))), (2, .ref (ad (2 * y))), (3, .int (nI st9)), (4, .int (nI sy9))]) hx hb dX8_takeSizes_96 hl (k := 7) rfl (nI_add i 1) (by decide) rfl (fun ls hl => ?_)
            refine lv_goto (tgt := 25) hx hb dX8_takeSizes_99 (by decide) ?_
            exact ih_5 (i + 1) (va_up q i ((18446744073709551616 + q i - fy9 i - bo) % 4294967296)) 1 g_77 (fun (k : Nat) (hk : k ≠ 2 * t + 1) => (fr_79 k (by omega)).trans ((fr_7 k (by omega)).trans (rfl))) (by omega) (by omega) b_80 (fun j hj => by by_cases hji : j = i; subst hji; rw [va_up_self, dgt_sub hle, ← hdx, hdy, ← hbo, if_pos hlt]; omega; rw [va_up_ne _ _ hji]; exact hqd j (by omega)) (by rw [bw_s, ← hdx, hdy, ← hbo, if_pos hlt]) (by decide) (fun j hj => (va_up_ne _ _ (by omega)).trans (hkp j (by omega))) f_78 _ _ _ hP hS (lv_sub (l' := [(0, .ref (ad (2 * t))), (1, .ref (ad (2 * t))), (2, .ref (ad (2 * y))), (3, .int (nI st9)), (4, .int (nI sy9)), (5, .long (lN 1)), (7, .int (nI (i + 1)))]) hl [3, 4, 5, 6, 7, 1, 0] rfl)
          · skip
            obtain rfl : y_73 = lN (q i - fy9 i - bo) := e_74.trans (by rw [lN_sub (by omega), lN_sub (by omega)])
            refine lv_lstore (lv' := [(8, .long (lN (q i - fy9 i - bo))), (0, .ref (ad (2 * t))), (1, .ref (ad (2 * t))), (2, .ref (ad (2 * y))), (3, .int (nI st9)), (4, .int (nI sy9)), (5, .long (lN bo)), (7, .int (nI i))]) hx hb dX8_takeSizes_70 hl (by decide) rfl (fun ls hl => ?_)
            refine lv_aload_n hx hb dX8_takeSizes_72 rfl (lv_at hl 1 rfl) ?_
            refine m_get (D := (dC, dI)) (v := .ref (ad (2 * t + 1))) (C := RX8) (T := TX8) (N := 3) hx hb hts bk0 hown hK hP (2 * t) (ns_w (by omega)) f_31 rfl 0 (by decide) (hts (.fieldLink RX8 9 "GradientDesk$Whole" "words" "[I") (List.mem_of_getElem? (i := 1) rfl)) (fun _ h9 => h9) rfl dX8_takeSizes_73 ?_
            refine lv_iload hx hb dX8_takeSizes_76 (lv_at hl 7 rfl) ?_
            refine lv_lload hx hb dX8_takeSizes_78 (lv_at hl 0 rfl) ?_
            refine lv_l2i hx hb dX8_takeSizes_80 rfl ?_
            refine lv_topi (fun x_84 e_85 => ?_)
            obtain rfl : x_84 = nI (q i - fy9 i - bo) := e_85.trans (lN_i (q i - fy9 i - bo))
            rw [show nI (q i - fy9 i - bo) = nI ((q i - fy9 i - bo) % 4294967296) from nI_md _]
            refine m_iast hx hb hK hP hD hS (2 * t + 1) (ns_w (by omega)) (tyc_w (by omega)) f_8 (i := i) (x := nI ((q i - fy9 i - bo) % 4294967296)) (by omega) (by omega) dX8_takeSizes_81 (fun H locs g_86 f_87 fr_88 hP hS => ?_)
            rw [k_updI] at f_87
            have b_89 : ∀ j, (va_up q i ((q i - fy9 i - bo) % 4294967296)) j < 4294967296 := k_up_lt hqb (by omega)
            have f_87 : g_86 (2 * t + 1) = .inl (cA (2 * t + 1), rmc t, .inl (fun j => nI ((va_up q i ((q i - fy9 i - bo) % 4294967296)) j))) := f_87
            refine lv_lload hx hb dX8_takeSizes_82 (lv_at hl 0 rfl) ?_
            refine lv_lconst (v := lN 0) hx hb dX8_takeSizes_84 (by decide +kernel) ?_
            refine W.lcmp hx hb dX8_takeSizes_85 ?_
            refine lv_if_ge (tgt := 93) hx hb dX8_takeSizes_86 (by decide) (fun c_90 => ?_) (fun c_90 => absurd (mt (pk_lLE (a := 0) (b := (q i - fy9 i - bo)) (by decide) (by omega)).mpr (mt (k_cmp_ge (lN (q i - fy9 i - bo)) (lN 0)).mpr c_90)) (by omega))
            refine lv_lconst (v := lN 0) hx hb dX8_takeSizes_93 (by decide +kernel) ?_
            refine lv_lstore (lv' := [(5, .long (lN 0)), (8, .long (lN (q i - fy9 i - bo))), (0, .ref (ad (2 * t))), (1, .ref (ad (2 * t))), (2, .ref (ad (2 * y))), (3, .int (nI st9)), (4, .int (nI sy9)), (7, .int (nI i))]) hx hb dX8_takeSizes_94 hl (by decide) rfl (fun ls hl => ?_)
            refine lv_iinc (v := nI (i + 1)) (lv' := [(7, .int (nI (i + 1))), (5, .long (lN 0)), (8, .long (lN (q i - fy9 i - bo))), (0, .ref (ad (2 * t))), (1, .ref (ad (2 * t))), (2, .ref (ad (2 * y))), (3, .int (nI st9)), (4, .int (nI sy9))]) hx hb dX8_takeSizes_96 hl (k := 7) rfl (nI_add i 1) (by decide) rfl (fun ls hl => ?_)
            refine lv_goto (tgt := 25) hx hb dX8_takeSizes_99 (by decide) ?_
            exact ih_5 (i + 1) (va_up q i ((q i - fy9 i - bo) % 4294967296)) 0 g_86 (fun (k : Nat) (hk : k ≠ 2 * t + 1) => (fr_88 k (by omega)).trans ((fr_7 k (by omega)).trans (rfl))) (by omega) (by omega) b_89 (fun j hj => by by_cases hji : j = i; subst hji; rw [va_up_self, dgt_sub hle, ← hdx, hdy, ← hbo, if_neg hlt]; omega; rw [va_up_ne _ _ hji]; exact hqd j (by omega)) (by rw [bw_s, ← hdx, hdy, ← hbo, if_neg hlt]) (by decide) (fun j hj => (va_up_ne _ _ (by omega)).trans (hkp j (by omega))) f_87 _ _ _ hP hS (lv_sub (l' := [(0, .ref (ad (2 * t))), (1, .ref (ad (2 * t))), (2, .ref (ad (2 * y))), (3, .int (nI st9)), (4, .int (nI sy9)), (5, .long (lN 0)), (7, .int (nI (i + 1)))]) hl [3, 4, 5, 6, 7, 1, 0] rfl)
  exact loop_4 _ 0 ft9 0 g (fun (k : Nat) (hk : k ≠ 2 * t + 1) => rfl) (Nat.lt_succ_self _) (by omega) ut9 (fun j h => absurd h (by omega)) ((bw_0 _ _).symm) (by decide) (fun _ _ => rfl) bt9 _ _ _ hP hS (lv_sub (l' := [(0, .ref (ad (2 * t))), (1, .ref (ad (2 * t))), (2, .ref (ad (2 * y))), (3, .int (nI st9)), (4, .int (nI sy9)), (5, .long (lN 0)), (7, .int (nI 0))]) hl [4, 5, 6, 3, 2, 1, 0] rfl)
end
section
def wd_V8_add : List Cond := .code yX8_add cX8_add 5 none :: (([.fieldLink RX8 19 "GradientDesk$Whole" "below" "Z", .methodLink RX8 54 yX8_orderOfSizes, .instanceMethod yX8_orderOfSizes, .selects RX8 yX8_orderOfSizes yX8_orderOfSizes, .initialized RX8, .methodLink RX8 68 yX8_takeSizes, .instanceMethod yX8_takeSizes, .selects RX8 yX8_takeSizes yX8_takeSizes, .fieldLink RX8 15 "GradientDesk$Whole" "size" "I", .methodLink RX8 64 yX8_addSizes, .instanceMethod yX8_addSizes, .selects RX8 yX8_addSizes yX8_addSizes] : List Cond) ++ (u_ws RX8 TX8 3 ++ (wd_V8_order ++ (wd_V8_take3 ++ (wd_V8_addSizes ++ ([]))))))
theorem gw_V8_add : wd_V8_add.all goodWord = true := k_allc rfl (k_all (by decide +kernel) (k_all (gu_X8) (k_all (gw_V8_order) (k_all (gw_V8_take3) (k_all (gw_V8_addSizes) (rfl))))))
set_option maxHeartbeats 4000000 in
set_option maxRecDepth 100000 in
theorem c_V8_add (l : Launch) (dC : Nat → ClassId) (dI : Nat → Nat → Nat) (A : Nat → Prop) (ad : Nat → Nat) (cA : Nat → ClassId) (g : Nat → va_E) (t : Nat) (x : Nat) (y : Nat) (v : Int) (w1 : Int) (a9 : Nat) (hAW : AW ad cA g) (it : t < 1038) (ix : x < 1038) (iy : y < 1038) (vx : WV ad cA g x v) (vy : WV ad cA g y w1) (htx : t ≠ x) (hty : t ≠ y) (hfa : v.natAbs < 4294967296 ^ a9) (hfb : w1.natAbs < 4294967296 ^ a9) (hab : a9 + 1 ≤ rmc t) : Met l yX8_add wd_V8_add ({ frames := 20, cells := 0, slots := 0, locals := 400 }) (va_Pc [.ref (ad (2 * t)), .ref (ad (2 * x)), .ref (ad (2 * y))] (PR NSc tyc dC dI A ad cA g)) (va_Qv (fun (u : Nat → va_E) => match u with | g2 => (∀ k, k ≠ 2 * t ∧ k ≠ 2 * t + 1 → g2 k = g k) ∧ AW ad cA g2 ∧ WV ad cA g2 t (v + w1)) (fun (u : Nat → va_E) (t : State) => va_P (dC, dI) vwCl (wo ad NSc u) t.heap) A) (0) (0) A := by
  refine Met.ofW (cc := cX8_add) (maxL := 5) (ret := none) (by decide) rfl ?_
  intro p e s m args below meth c s₁ B hml hv
  obtain ⟨rfl, hA, hP, hL⟩ := hv
  have hx := B.exec
  have hb := B.bytes
  have hr := B.returns
  have hts := atoms_spec (ws := wd_V8_add) B.pre
  have hown : s.vm.findClass RX8 = some m.cls := findClass_of_methodNamed B.named
  have hlocks := B.notSynchronized
  have hK := hL.1
  have hD : ∀ g, va_D A (wo ad NSc g) := fun g => wo_D hL.2.1 hL.2.2 g
  have hS : va_S A s.heap s.heap [] := va_S.rf
  have bk0 : ∀ w ∈ u_ws RX8 TX8 3, w ∈ wd_V8_add := fun _ h => List.mem_cons_of_mem _ (List.mem_append_right _ (List.mem_append_left _ h))
  have bk1 : ∀ w ∈ wd_V8_order, w ∈ wd_V8_add := fun _ h => List.mem_cons_of_mem _ (List.mem_append_right _ (List.mem_append_right _ (List.mem_append_left _ h)))
  have bk2 : ∀ w ∈ wd_V8_take3, w ∈ wd_V8_add := fun _ h => List.mem_cons_of_mem _ (List.mem_append_right _ (List.mem_append_right _ (List.mem_append_right _ (List.mem_append_left _ h))))
  have bk3 : ∀ w ∈ wd_V8_addSizes, w ∈ wd_V8_add := fun _ h => List.mem_cons_of_mem _ (List.mem_append_right _ (List.mem_append_right _ (List.mem_append_right _ (List.mem_append_right _ (List.mem_append_left _ h)))))
  have hl := lv_entry ([.ref (ad (2 * t)), .ref (ad (2 * x)), .ref (ad (2 * y))]) (n := 5) (Nat.le_of_ble_eq_true rfl)
  rw [lg_entry_eq]
  generalize (lg_sl ([.ref (ad (2 * t)), .ref (ad (2 * x)), .ref (ad (2 * y))]) ++ List.replicate (5 - (lg_sl ([.ref (ad (2 * t)), .ref (ad (2 * x)), .ref (ad (2 * y))])).length) Slot.unset).toArray = ls at hl ⊢
  have hl : lv_has ls 5 [(0, .ref (ad (2 * t))), (1, .ref (ad (2 * x))), (2, .ref (ad (2 * y)))] := hl
  have vx0 := vx
  have vy0 := vy
  obtain ⟨st9, nt9, ft9, at9, bt9, ut9, ct9, et9⟩ := AW.wn hAW it
  have qt9 := rmc_le t
  obtain ⟨sx9, nx9, fx9, ⟨ax9, bx9, ux9, cx9, ex9⟩, rx9, gx9⟩ := vx
  have qx9 := rmc_le x
  obtain ⟨sy9, ny9, fy9, ⟨ay9, by9, uy9, cy9, ey9⟩, ry9, gy9⟩ := vy
  have qy9 := rmc_le y
  have hT0 : WN ad cA g t st9 nt9 ft9 := ⟨at9, bt9, ut9, ct9, et9⟩
  have hpw : 4294967296 ^ a9 ≤ 4294967296 ^ rmc t := Nat.pow_le_pow_right (by decide) (by omega)
  refine lv_aload_n hx hb dX8_add_0 rfl (lv_at hl 1 rfl) ?_
  refine m_get (D := (dC, dI)) (v := .int (nI nx9)) (C := RX8) (T := TX8) (N := 3) hx hb hts bk0 hown hK hP (2 * x) (ns_w (by omega)) ax9 rfl 2 (by decide) (hts (.fieldLink RX8 19 "GradientDesk$Whole" "below" "Z") (List.mem_of_getElem? (i := 1) rfl)) (fun _ h9 => h9) rfl dX8_add_1 ?_
  refine lv_istore_n (lv' := [(3, .int (nI nx9)), (0, .ref (ad (2 * t))), (1, .ref (ad (2 * x))), (2, .ref (ad (2 * y)))]) hx hb dX8_add_4 rfl hl (by decide) rfl (fun ls hl => ?_)
  refine lv_aload_n hx hb dX8_add_5 rfl (lv_at hl 3 rfl) ?_
  refine m_get (D := (dC, dI)) (v := .int (nI ny9)) (C := RX8) (T := TX8) (N := 3) hx hb hts bk0 hown hK hP (2 * y) (ns_w (by omega)) ay9 rfl 2 (by decide) (hts (.fieldLink RX8 19 "GradientDesk$Whole" "below" "Z") (List.mem_of_getElem? (i := 1) rfl)) (fun _ h9 => h9) rfl dX8_add_6 ?_
  refine lv_istore (lv' := [(4, .int (nI ny9)), (3, .int (nI nx9)), (0, .ref (ad (2 * t))), (1, .ref (ad (2 * x))), (2, .ref (ad (2 * y)))]) hx hb dX8_add_9 hl (by decide) rfl (fun ls hl => ?_)
  refine lv_iload_n hx hb dX8_add_11 rfl (lv_at hl 1 rfl) ?_
  refine lv_iload hx hb dX8_add_12 (lv_at hl 0 rfl) ?_
  refine lv_icmp_ne (tgt := 31) hx hb dX8_add_14 (by decide) (fun c_1 => ?_) (fun c_1 => ?_)
  · have c_1 := mt (nI_eq (a := nx9) (b := ny9) (by omega) (by omega)).mpr c_1
    refine lv_aload_n hx hb dX8_add_31 rfl (lv_at hl 3 rfl) ?_
    refine lv_aload_n hx hb dX8_add_32 rfl (lv_at hl 4 rfl) ?_
    refine va_calli (va_runV (As := [.ref (ad (2 * y))]) (rest := []) ⟨hx, hb, hml, hown, hts⟩ (c_V8_order l dC dI A ad cA g x y v w1 hAW ix iy vx0 vy0) (cwV 1 hts (goodIn_app (goodIn_r [Cond.methodLink RX8 54 yX8_orderOfSizes, Cond.instanceMethod yX8_orderOfSizes, Cond.selects RX8 yX8_orderOfSizes yX8_orderOfSizes, Cond.initialized RX8] [2, 3, 4, 5] rfl rfl) (goodIn_sub (fun w9 h9 => bk1 w9 h9) gw_V8_order)) rfl rfl rfl (by decide +kernel) ⟨Nat.le_of_ble_eq_true rfl, Nat.le_of_ble_eq_true rfl⟩) ⟨fun a U g mk q => ⟨q.1, q.2.1, q.2.2.1, LY.moved (u := U) (U := U.calling g mk a) (Vm.Alike.refl U.vm) q.2.2.2⟩, va_recv hK hP (ci := 11) (q0 := (2 * x)) rfl (wo_at (ns_w (by omega)) ax9), fun U hU hW => ⟨rfl, by rw [hU]; exact fun q h => hA q (Nat.le_trans hS.1 h), by rw [hU]; exact hP, LY.moved hW.alike hL⟩⟩ rfl rfl hl.1 rfl (lv_room (Nat.le_of_ble_eq_true rfl)) dX8_add_33 ⟨(Nat.le_of_ble_eq_true rfl), (Nat.le_of_ble_eq_true rfl)⟩) hS (fun q _ h => h) (fun q h => h) (fun r_2 u8 t8 H1 locs ht8 hvm8 hw_3 hB hz1 hk1 hS => ?_)
    obtain ⟨⟩ := u8
    try dsimp only at hw_3 hB
    rw [ht8] at hB
    have hP := hB
    generalize H1 = H at hP hS ⊢
    rcases hw_3 with ⟨rfl, ho⟩ | ⟨rfl, ho⟩ | ⟨rfl, ho⟩
    · skip
      refine lv_if_lt (tgt := 68) hx hb dX8_add_36 (by decide) (fun c_4 => ?_) (fun c_4 => absurd c_4 (by decide))
      refine lv_aload_n hx hb dX8_add_68 rfl (lv_at hl 2 rfl) ?_
      refine lv_aload_n hx hb dX8_add_69 rfl (lv_at hl 4 rfl) ?_
      refine lv_aload_n hx hb dX8_add_70 rfl (lv_at hl 3 rfl) ?_
      refine va_callv (va_runV (As := [.ref (ad (2 * y)), .ref (ad (2 * x))]) (rest := []) ⟨hx, hb, hml, hown, hts⟩ (c_V8_take3 l dC dI A ad cA g t y x w1 v st9 nt9 ft9 it iy ix hT0 vy0 hty (Nat.lt_of_lt_of_le hfb hpw) vx0 htx (by omega)) (cwV 2 hts (goodIn_app (goodIn_r [Cond.methodLink RX8 68 yX8_takeSizes, Cond.instanceMethod yX8_takeSizes, Cond.selects RX8 yX8_takeSizes yX8_takeSizes, Cond.initialized RX8] [6, 7, 8, 5] rfl rfl) (goodIn_sub (fun w9 h9 => bk2 w9 h9) gw_V8_take3)) rfl rfl rfl (by decide +kernel) ⟨Nat.le_of_ble_eq_true rfl, Nat.le_of_ble_eq_true rfl⟩) ⟨fun a U g mk q => ⟨q.1, q.2.1, q.2.2.1, LY.moved (u := U) (U := U.calling g mk a) (Vm.Alike.refl U.vm) q.2.2.2⟩, va_recv hK hP (ci := 11) (q0 := (2 * t)) rfl (wo_at (ns_w (by omega)) at9), fun U hU hW => ⟨rfl, by rw [hU]; exact fun q h => hA q (Nat.le_trans hS.1 h), by rw [hU]; exact hP, LY.moved hW.alike hL⟩⟩ rfl rfl hl.1 rfl (lv_room (Nat.le_of_ble_eq_true rfl)) dX8_add_71 ⟨(Nat.le_of_ble_eq_true rfl), (Nat.le_of_ble_eq_true rfl)⟩) hS (fun q _ h => h) (fun q h => h) (fun u8 t8 H1 locs ht8 hvm8 hw_5 hB hz1 hk1 hS => ?_)
      obtain ⟨g_6, s2_7, f2_8⟩ := u8
      try dsimp only at hw_5 hB
      rw [ht8] at hB
      have hP := hB
      generalize H1 = H at hP hS ⊢
      obtain ⟨fr_9, hw2, rp2⟩ := hw_5
      obtain ⟨ak_10, bk_10, uk_10, ck_10, ek_10⟩ := hw2
      have hz2 := rp2.zero
      refine lv_aload_n hx hb dX8_add_74 rfl (lv_at hl 2 rfl) ?_
      refine lv_iload hx hb dX8_add_75 (lv_at hl 0 rfl) ?_
      refine m_put (D := (dC, dI)) (v := .int (nI ny9)) (tv := .boolean) (C := RX8) (T := TX8) (N := 3) hx hb hts bk0 tyX8 tyX8_ok nmX8 hown hK hP hD hS (2 * t) (ns_w (by omega)) ak_10 rfl 2 (by decide) (hts (.fieldLink RX8 19 "GradientDesk$Whole" "below" "Z") (List.mem_of_getElem? (i := 1) rfl)) (fun _ h9 => h9) rfl (by decide +kernel) (k_narZ2 (by omega)) (k_fitZ2 (by omega)) (Nat.le_of_ble_eq_true rfl) dX8_add_77 (fun H locs g_11 f_12 fr_13 hP hS => ?_)
      have f_12 : g_11 (2 * t) = .inr (11, [.ref (ad (2 * t + 1)), .int (nI s2_7), .int (nI ny9)]) := f_12
      have f_14 : g_11 (2 * t + 1) = .inl (cA (2 * t + 1), rmc t, .inl (fun j => nI (f2_8 j))) := (fr_13 (2 * t + 1) (by omega)).trans bk_10
      have hWN : WN ad cA g_11 t s2_7 ny9 (f2_8) := ⟨f_12, f_14, uk_10, by omega, by omega⟩
      refine W.widen (k := 0) (n := 0) (by omega) (by omega) ?_
      exact W.vret hx hb hr (fun t9 ht9 hW9 => ⟨⟨g_11, rfl, ⟨(fun (k : Nat) (hk : k ≠ 2 * t ∧ k ≠ 2 * t + 1) => (fr_13 k (by omega)).trans ((fr_9 k (by omega)).trans (rfl))), hWN.aw hAW (fun (k : Nat) (hk : k ≠ 2 * t ∧ k ≠ 2 * t + 1) => (fr_13 k (by omega)).trans ((fr_9 k (by omega)).trans (rfl))), _, _, _, hWN, by rw [show (v + w1).natAbs = w1.natAbs - v.natAbs by omega]; exact rp2, by omega⟩, by show va_P (dC, dI) vwCl _ t9.heap; rw [ht9]; exact hP⟩, hS.F ht9⟩) hS.2.2 dX8_add_80
    · skip
      refine lv_if_lt (tgt := 68) hx hb dX8_add_36 (by decide) (fun c_15 => absurd c_15 (by decide)) (fun c_15 => ?_)
      refine lv_aload_n hx hb dX8_add_39 rfl (lv_at hl 2 rfl) ?_
      refine lv_aload_n hx hb dX8_add_40 rfl (lv_at hl 3 rfl) ?_
      refine lv_aload_n hx hb dX8_add_41 rfl (lv_at hl 4 rfl) ?_
      refine va_callv (va_runV (As := [.ref (ad (2 * x)), .ref (ad (2 * y))]) (rest := []) ⟨hx, hb, hml, hown, hts⟩ (c_V8_take3 l dC dI A ad cA g t x y v w1 st9 nt9 ft9 it ix iy hT0 vx0 htx (Nat.lt_of_lt_of_le hfa hpw) vy0 hty (by omega)) (cwV 2 hts (goodIn_app (goodIn_r [Cond.methodLink RX8 68 yX8_takeSizes, Cond.instanceMethod yX8_takeSizes, Cond.selects RX8 yX8_takeSizes yX8_takeSizes, Cond.initialized RX8] [6, 7, 8, 5] rfl rfl) (goodIn_sub (fun w9 h9 => bk2 w9 h9) gw_V8_take3)) rfl rfl rfl (by decide +kernel) ⟨Nat.le_of_ble_eq_true rfl, Nat.le_of_ble_eq_true rfl⟩) ⟨fun a U g mk q => ⟨q.1, q.2.1, q.2.2.1, LY.moved (u := U) (U := U.calling g mk a) (Vm.Alike.refl U.vm) q.2.2.2⟩, va_recv hK hP (ci := 11) (q0 := (2 * t)) rfl (wo_at (ns_w (by omega)) at9), fun U hU hW => ⟨rfl, by rw [hU]; exact fun q h => hA q (Nat.le_trans hS.1 h), by rw [hU]; exact hP, LY.moved hW.alike hL⟩⟩ rfl rfl hl.1 rfl (lv_room (Nat.le_of_ble_eq_true rfl)) dX8_add_42 ⟨(Nat.le_of_ble_eq_true rfl), (Nat.le_of_ble_eq_true rfl)⟩) hS (fun q _ h => h) (fun q h => h) (fun u8 t8 H1 locs ht8 hvm8 hw_16 hB hz1 hk1 hS => ?_)
      obtain ⟨g_17, s2_18, f2_19⟩ := u8
      try dsimp only at hw_16 hB
      rw [ht8] at hB
      have hP := hB
      generalize H1 = H at hP hS ⊢
      obtain ⟨fr_20, hw2, rp2⟩ := hw_16
      obtain ⟨ak_21, bk_21, uk_21, ck_21, ek_21⟩ := hw2
      have hz2 := rp2.zero
      refine lv_aload_n hx hb dX8_add_45 rfl (lv_at hl 2 rfl) ?_
      refine lv_aload_n hx hb dX8_add_46 rfl (lv_at hl 2 rfl) ?_
      refine m_get (D := (dC, dI)) (v := .int (nI s2_18)) (C := RX8) (T := TX8) (N := 3) hx hb hts bk0 hown hK hP (2 * t) (ns_w (by omega)) ak_21 rfl 1 (by decide) (hts (.fieldLink RX8 15 "GradientDesk$Whole" "size" "I") (List.mem_of_getElem? (i := 9) rfl)) (fun _ h9 => h9) rfl dX8_add_47 ?_
      refine lv_if_le (tgt := 61) hx hb dX8_add_50 (by decide) (fun c_22 => ?_) (fun c_22 => ?_)
      · have c_22 := (nI_leI (a := s2_18) (b := 0) (by omega) (by decide)).mp c_22
        refine lv_iconst (v := nI 0) hx hb dX8_add_61 (by decide +kernel) ?_
        refine m_put (D := (dC, dI)) (v := .int (nI 0)) (tv := .boolean) (C := RX8) (T := TX8) (N := 3) hx hb hts bk0 tyX8 tyX8_ok nmX8 hown hK hP hD hS (2 * t) (ns_w (by omega)) ak_21 rfl 2 (by decide) (hts (.fieldLink RX8 19 "GradientDesk$Whole" "below" "Z") (List.mem_of_getElem? (i := 1) rfl)) (fun _ h9 => h9) rfl (by decide +kernel) (by decide +kernel) (by decide +kernel) (Nat.le_of_ble_eq_true rfl) dX8_add_62 (fun H locs g_23 f_24 fr_25 hP hS => ?_)
        have f_24 : g_23 (2 * t) = .inr (11, [.ref (ad (2 * t + 1)), .int (nI s2_18), .int (nI 0)]) := f_24
        refine lv_goto (tgt := 80) hx hb dX8_add_65 (by decide) ?_
        have f_26 : g_23 (2 * t + 1) = .inl (cA (2 * t + 1), rmc t, .inl (fun j => nI (f2_19 j))) := (fr_25 (2 * t + 1) (by omega)).trans bk_21
        have hWN : WN ad cA g_23 t s2_18 0 (f2_19) := ⟨f_24, f_26, uk_21, by omega, by omega⟩
        refine W.widen (k := 0) (n := 0) (by omega) (by omega) ?_
        exact W.vret hx hb hr (fun t9 ht9 hW9 => ⟨⟨g_23, rfl, ⟨(fun (k : Nat) (hk : k ≠ 2 * t ∧ k ≠ 2 * t + 1) => (fr_25 k (by omega)).trans ((fr_20 k (by omega)).trans (rfl))), hWN.aw hAW (fun (k : Nat) (hk : k ≠ 2 * t ∧ k ≠ 2 * t + 1) => (fr_25 k (by omega)).trans ((fr_20 k (by omega)).trans (rfl))), _, _, _, hWN, by rw [show (v + w1).natAbs = v.natAbs - w1.natAbs by omega]; exact rp2, by omega⟩, by show va_P (dC, dI) vwCl _ t9.heap; rw [ht9]; exact hP⟩, hS.F ht9⟩) hS.2.2 dX8_add_80
      · have c_22 := mt (nI_leI (a := s2_18) (b := 0) (by omega) (by decide)).mpr c_22
        refine lv_iload_n hx hb dX8_add_53 rfl (lv_at hl 1 rfl) ?_
        refine lv_if_eq (tgt := 61) hx hb dX8_add_54 (by decide) (fun c_27 => ?_) (fun c_27 => ?_)
        · have c_27 := (nI_eq (a := nx9) (b := 0) (by omega) (by decide)).mp c_27
          refine lv_iconst (v := nI 0) hx hb dX8_add_61 (by decide +kernel) ?_
          refine m_put (D := (dC, dI)) (v := .int (nI 0)) (tv := .boolean) (C := RX8) (T := TX8) (N := 3) hx hb hts bk0 tyX8 tyX8_ok nmX8 hown hK hP hD hS (2 * t) (ns_w (by omega)) ak_21 rfl 2 (by decide) (hts (.fieldLink RX8 19 "GradientDesk$Whole" "below" "Z") (List.mem_of_getElem? (i := 1) rfl)) (fun _ h9 => h9) rfl (by decide +kernel) (by decide +kernel) (by decide +kernel) (Nat.le_of_ble_eq_true rfl) dX8_add_62 (fun H locs g_28 f_29 fr_30 hP hS => ?_)
          have f_29 : g_28 (2 * t) = .inr (11, [.ref (ad (2 * t + 1)), .int (nI s2_18), .int (nI 0)]) := f_29
          refine lv_goto (tgt := 80) hx hb dX8_add_65 (by decide) ?_
          have f_31 : g_28 (2 * t + 1) = .inl (cA (2 * t + 1), rmc t, .inl (fun j => nI (f2_19 j))) := (fr_30 (2 * t + 1) (by omega)).trans bk_21
          have hWN : WN ad cA g_28 t s2_18 0 (f2_19) := ⟨f_29, f_31, uk_21, by omega, by omega⟩
          refine W.widen (k := 0) (n := 0) (by omega) (by omega) ?_
          exact W.vret hx hb hr (fun t9 ht9 hW9 => ⟨⟨g_28, rfl, ⟨(fun (k : Nat) (hk : k ≠ 2 * t ∧ k ≠ 2 * t + 1) => (fr_30 k (by omega)).trans ((fr_20 k (by omega)).trans (rfl))), hWN.aw hAW (fun (k : Nat) (hk : k ≠ 2 * t ∧ k ≠ 2 * t + 1) => (fr_30 k (by omega)).trans ((fr_20 k (by omega)).trans (rfl))), _, _, _, hWN, by rw [show (v + w1).natAbs = v.natAbs - w1.natAbs by omega]; exact rp2, by omega⟩, by show va_P (dC, dI) vwCl _ t9.heap; rw [ht9]; exact hP⟩, hS.F ht9⟩) hS.2.2 dX8_add_80
        · have c_27 := mt (nI_eq (a := nx9) (b := 0) (by omega) (by decide)).mpr c_27
          refine lv_iconst (v := nI 1) hx hb dX8_add_57 (by decide +kernel) ?_
          refine lv_goto (tgt := 62) hx hb dX8_add_58 (by decide) ?_
          refine m_put (D := (dC, dI)) (v := .int (nI 1)) (tv := .boolean) (C := RX8) (T := TX8) (N := 3) hx hb hts bk0 tyX8 tyX8_ok nmX8 hown hK hP hD hS (2 * t) (ns_w (by omega)) ak_21 rfl 2 (by decide) (hts (.fieldLink RX8 19 "GradientDesk$Whole" "below" "Z") (List.mem_of_getElem? (i := 1) rfl)) (fun _ h9 => h9) rfl (by decide +kernel) (by decide +kernel) (by decide +kernel) (Nat.le_of_ble_eq_true rfl) dX8_add_62 (fun H locs g_32 f_33 fr_34 hP hS => ?_)
          have f_33 : g_32 (2 * t) = .inr (11, [.ref (ad (2 * t + 1)), .int (nI s2_18), .int (nI 1)]) := f_33
          refine lv_goto (tgt := 80) hx hb dX8_add_65 (by decide) ?_
          have f_35 : g_32 (2 * t + 1) = .inl (cA (2 * t + 1), rmc t, .inl (fun j => nI (f2_19 j))) := (fr_34 (2 * t + 1) (by omega)).trans bk_21
          have hWN : WN ad cA g_32 t s2_18 1 (f2_19) := ⟨f_33, f_35, uk_21, by omega, by omega⟩
          refine W.widen (k := 0) (n := 0) (by omega) (by omega) ?_
          exact W.vret hx hb hr (fun t9 ht9 hW9 => ⟨⟨g_32, rfl, ⟨(fun (k : Nat) (hk : k ≠ 2 * t ∧ k ≠ 2 * t + 1) => (fr_34 k (by omega)).trans ((fr_20 k (by omega)).trans (rfl))), hWN.aw hAW (fun (k : Nat) (hk : k ≠ 2 * t ∧ k ≠ 2 * t + 1) => (fr_34 k (by omega)).trans ((fr_20 k (by omega)).trans (rfl))), _, _, _, hWN, by rw [show (v + w1).natAbs = v.natAbs - w1.natAbs by omega]; exact rp2, by omega⟩, by show va_P (dC, dI) vwCl _ t9.heap; rw [ht9]; exact hP⟩, hS.F ht9⟩) hS.2.2 dX8_add_80
    · skip
      refine lv_if_lt (tgt := 68) hx hb dX8_add_36 (by decide) (fun c_36 => absurd c_36 (by decide)) (fun c_36 => ?_)
      refine lv_aload_n hx hb dX8_add_39 rfl (lv_at hl 2 rfl) ?_
      refine lv_aload_n hx hb dX8_add_40 rfl (lv_at hl 3 rfl) ?_
      refine lv_aload_n hx hb dX8_add_41 rfl (lv_at hl 4 rfl) ?_
      refine va_callv (va_runV (As := [.ref (ad (2 * x)), .ref (ad (2 * y))]) (rest := []) ⟨hx, hb, hml, hown, hts⟩ (c_V8_take3 l dC dI A ad cA g t x y v w1 st9 nt9 ft9 it ix iy hT0 vx0 htx (Nat.lt_of_lt_of_le hfa hpw) vy0 hty (by omega)) (cwV 2 hts (goodIn_app (goodIn_r [Cond.methodLink RX8 68 yX8_takeSizes, Cond.instanceMethod yX8_takeSizes, Cond.selects RX8 yX8_takeSizes yX8_takeSizes, Cond.initialized RX8] [6, 7, 8, 5] rfl rfl) (goodIn_sub (fun w9 h9 => bk2 w9 h9) gw_V8_take3)) rfl rfl rfl (by decide +kernel) ⟨Nat.le_of_ble_eq_true rfl, Nat.le_of_ble_eq_true rfl⟩) ⟨fun a U g mk q => ⟨q.1, q.2.1, q.2.2.1, LY.moved (u := U) (U := U.calling g mk a) (Vm.Alike.refl U.vm) q.2.2.2⟩, va_recv hK hP (ci := 11) (q0 := (2 * t)) rfl (wo_at (ns_w (by omega)) at9), fun U hU hW => ⟨rfl, by rw [hU]; exact fun q h => hA q (Nat.le_trans hS.1 h), by rw [hU]; exact hP, LY.moved hW.alike hL⟩⟩ rfl rfl hl.1 rfl (lv_room (Nat.le_of_ble_eq_true rfl)) dX8_add_42 ⟨(Nat.le_of_ble_eq_true rfl), (Nat.le_of_ble_eq_true rfl)⟩) hS (fun q _ h => h) (fun q h => h) (fun u8 t8 H1 locs ht8 hvm8 hw_37 hB hz1 hk1 hS => ?_)
      obtain ⟨g_38, s2_39, f2_40⟩ := u8
      try dsimp only at hw_37 hB
      rw [ht8] at hB
      have hP := hB
      generalize H1 = H at hP hS ⊢
      obtain ⟨fr_41, hw2, rp2⟩ := hw_37
      obtain ⟨ak_42, bk_42, uk_42, ck_42, ek_42⟩ := hw2
      have hz2 := rp2.zero
      refine lv_aload_n hx hb dX8_add_45 rfl (lv_at hl 2 rfl) ?_
      refine lv_aload_n hx hb dX8_add_46 rfl (lv_at hl 2 rfl) ?_
      refine m_get (D := (dC, dI)) (v := .int (nI s2_39)) (C := RX8) (T := TX8) (N := 3) hx hb hts bk0 hown hK hP (2 * t) (ns_w (by omega)) ak_42 rfl 1 (by decide) (hts (.fieldLink RX8 15 "GradientDesk$Whole" "size" "I") (List.mem_of_getElem? (i := 9) rfl)) (fun _ h9 => h9) rfl dX8_add_47 ?_
      refine lv_if_le (tgt := 61) hx hb dX8_add_50 (by decide) (fun c_43 => ?_) (fun c_43 => ?_)
      · have c_43 := (nI_leI (a := s2_39) (b := 0) (by omega) (by decide)).mp c_43
        refine lv_iconst (v := nI 0) hx hb dX8_add_61 (by decide +kernel) ?_
        refine m_put (D := (dC, dI)) (v := .int (nI 0)) (tv := .boolean) (C := RX8) (T := TX8) (N := 3) hx hb hts bk0 tyX8 tyX8_ok nmX8 hown hK hP hD hS (2 * t) (ns_w (by omega)) ak_42 rfl 2 (by decide) (hts (.fieldLink RX8 19 "GradientDesk$Whole" "below" "Z") (List.mem_of_getElem? (i := 1) rfl)) (fun _ h9 => h9) rfl (by decide +kernel) (by decide +kernel) (by decide +kernel) (Nat.le_of_ble_eq_true rfl) dX8_add_62 (fun H locs g_44 f_45 fr_46 hP hS => ?_)
        have f_45 : g_44 (2 * t) = .inr (11, [.ref (ad (2 * t + 1)), .int (nI s2_39), .int (nI 0)]) := f_45
        refine lv_goto (tgt := 80) hx hb dX8_add_65 (by decide) ?_
        have f_47 : g_44 (2 * t + 1) = .inl (cA (2 * t + 1), rmc t, .inl (fun j => nI (f2_40 j))) := (fr_46 (2 * t + 1) (by omega)).trans bk_42
        have hWN : WN ad cA g_44 t s2_39 0 (f2_40) := ⟨f_45, f_47, uk_42, by omega, by omega⟩
        refine W.widen (k := 0) (n := 0) (by omega) (by omega) ?_
        exact W.vret hx hb hr (fun t9 ht9 hW9 => ⟨⟨g_44, rfl, ⟨(fun (k : Nat) (hk : k ≠ 2 * t ∧ k ≠ 2 * t + 1) => (fr_46 k (by omega)).trans ((fr_41 k (by omega)).trans (rfl))), hWN.aw hAW (fun (k : Nat) (hk : k ≠ 2 * t ∧ k ≠ 2 * t + 1) => (fr_46 k (by omega)).trans ((fr_41 k (by omega)).trans (rfl))), _, _, _, hWN, by rw [show (v + w1).natAbs = v.natAbs - w1.natAbs by omega]; exact rp2, by omega⟩, by show va_P (dC, dI) vwCl _ t9.heap; rw [ht9]; exact hP⟩, hS.F ht9⟩) hS.2.2 dX8_add_80
      · have c_43 := mt (nI_leI (a := s2_39) (b := 0) (by omega) (by decide)).mpr c_43
        refine lv_iload_n hx hb dX8_add_53 rfl (lv_at hl 1 rfl) ?_
        refine lv_if_eq (tgt := 61) hx hb dX8_add_54 (by decide) (fun c_48 => ?_) (fun c_48 => ?_)
        · have c_48 := (nI_eq (a := nx9) (b := 0) (by omega) (by decide)).mp c_48
          refine lv_iconst (v := nI 0) hx hb dX8_add_61 (by decide +kernel) ?_
          refine m_put (D := (dC, dI)) (v := .int (nI 0)) (tv := .boolean) (C := RX8) (T := TX8) (N := 3) hx hb hts bk0 tyX8 tyX8_ok nmX8 hown hK hP hD hS (2 * t) (ns_w (by omega)) ak_42 rfl 2 (by decide) (hts (.fieldLink RX8 19 "GradientDesk$Whole" "below" "Z") (List.mem_of_getElem? (i := 1) rfl)) (fun _ h9 => h9) rfl (by decide +kernel) (by decide +kernel) (by decide +kernel) (Nat.le_of_ble_eq_true rfl) dX8_add_62 (fun H locs g_49 f_50 fr_51 hP hS => ?_)
          have f_50 : g_49 (2 * t) = .inr (11, [.ref (ad (2 * t + 1)), .int (nI s2_39), .int (nI 0)]) := f_50
          refine lv_goto (tgt := 80) hx hb dX8_add_65 (by decide) ?_
          have f_52 : g_49 (2 * t + 1) = .inl (cA (2 * t + 1), rmc t, .inl (fun j => nI (f2_40 j))) := (fr_51 (2 * t + 1) (by omega)).trans bk_42
          have hWN : WN ad cA g_49 t s2_39 0 (f2_40) := ⟨f_50, f_52, uk_42, by omega, by omega⟩
          refine W.widen (k := 0) (n := 0) (by omega) (by omega) ?_
          exact W.vret hx hb hr (fun t9 ht9 hW9 => ⟨⟨g_49, rfl, ⟨(fun (k : Nat) (hk : k ≠ 2 * t ∧ k ≠ 2 * t + 1) => (fr_51 k (by omega)).trans ((fr_41 k (by omega)).trans (rfl))), hWN.aw hAW (fun (k : Nat) (hk : k ≠ 2 * t ∧ k ≠ 2 * t + 1) => (fr_51 k (by omega)).trans ((fr_41 k (by omega)).trans (rfl))), _, _, _, hWN, by rw [show (v + w1).natAbs = v.natAbs - w1.natAbs by omega]; exact rp2, by omega⟩, by show va_P (dC, dI) vwCl _ t9.heap; rw [ht9]; exact hP⟩, hS.F ht9⟩) hS.2.2 dX8_add_80
        · have c_48 := mt (nI_eq (a := nx9) (b := 0) (by omega) (by decide)).mpr c_48
          refine lv_iconst (v := nI 1) hx hb dX8_add_57 (by decide +kernel) ?_
          refine lv_goto (tgt := 62) hx hb dX8_add_58 (by decide) ?_
          refine m_put (D := (dC, dI)) (v := .int (nI 1)) (tv := .boolean) (C := RX8) (T := TX8) (N := 3) hx hb hts bk0 tyX8 tyX8_ok nmX8 hown hK hP hD hS (2 * t) (ns_w (by omega)) ak_42 rfl 2 (by decide) (hts (.fieldLink RX8 19 "GradientDesk$Whole" "below" "Z") (List.mem_of_getElem? (i := 1) rfl)) (fun _ h9 => h9) rfl (by decide +kernel) (by decide +kernel) (by decide +kernel) (Nat.le_of_ble_eq_true rfl) dX8_add_62 (fun H locs g_53 f_54 fr_55 hP hS => ?_)
          have f_54 : g_53 (2 * t) = .inr (11, [.ref (ad (2 * t + 1)), .int (nI s2_39), .int (nI 1)]) := f_54
          refine lv_goto (tgt := 80) hx hb dX8_add_65 (by decide) ?_
          have f_56 : g_53 (2 * t + 1) = .inl (cA (2 * t + 1), rmc t, .inl (fun j => nI (f2_40 j))) := (fr_55 (2 * t + 1) (by omega)).trans bk_42
          have hWN : WN ad cA g_53 t s2_39 1 (f2_40) := ⟨f_54, f_56, uk_42, by omega, by omega⟩
          refine W.widen (k := 0) (n := 0) (by omega) (by omega) ?_
          exact W.vret hx hb hr (fun t9 ht9 hW9 => ⟨⟨g_53, rfl, ⟨(fun (k : Nat) (hk : k ≠ 2 * t ∧ k ≠ 2 * t + 1) => (fr_55 k (by omega)).trans ((fr_41 k (by omega)).trans (rfl))), hWN.aw hAW (fun (k : Nat) (hk : k ≠ 2 * t ∧ k ≠ 2 * t + 1) => (fr_55 k (by omega)).trans ((fr_41 k (by omega)).trans (rfl))), _, _, _, hWN, by rw [show (v + w1).natAbs = v.natAbs - w1.natAbs by omega]; exact rp2, by omega⟩, by show va_P (dC, dI) vwCl _ t9.heap; rw [ht9]; exact hP⟩, hS.F ht9⟩) hS.2.2 dX8_add_80
  · have c_1 := (nI_eq (a := nx9) (b := ny9) (by omega) (by omega)).mp c_1
    refine lv_aload_n hx hb dX8_add_17 rfl (lv_at hl 2 rfl) ?_
    refine lv_aload_n hx hb dX8_add_18 rfl (lv_at hl 3 rfl) ?_
    refine lv_aload_n hx hb dX8_add_19 rfl (lv_at hl 4 rfl) ?_
    refine va_callv (va_runV (As := [.ref (ad (2 * x)), .ref (ad (2 * y))]) (rest := []) ⟨hx, hb, hml, hown, hts⟩ (c_V8_addSizes l dC dI A ad cA g t x y v w1 st9 nt9 ft9 a9 it ix iy hT0 vx0 vy0 htx hty hfa hfb hab) (cwV 2 hts (goodIn_app (goodIn_r [Cond.methodLink RX8 64 yX8_addSizes, Cond.instanceMethod yX8_addSizes, Cond.selects RX8 yX8_addSizes yX8_addSizes, Cond.initialized RX8] [10, 11, 12, 5] rfl rfl) (goodIn_sub (fun w9 h9 => bk3 w9 h9) gw_V8_addSizes)) rfl rfl rfl (by decide +kernel) ⟨Nat.le_of_ble_eq_true rfl, Nat.le_of_ble_eq_true rfl⟩) ⟨fun a U g mk q => ⟨q.1, q.2.1, q.2.2.1, LY.moved (u := U) (U := U.calling g mk a) (Vm.Alike.refl U.vm) q.2.2.2⟩, va_recv hK hP (ci := 11) (q0 := (2 * t)) rfl (wo_at (ns_w (by omega)) at9), fun U hU hW => ⟨rfl, by rw [hU]; exact fun q h => hA q (Nat.le_trans hS.1 h), by rw [hU]; exact hP, LY.moved hW.alike hL⟩⟩ rfl rfl hl.1 rfl (lv_room (Nat.le_of_ble_eq_true rfl)) dX8_add_20 ⟨(Nat.le_of_ble_eq_true rfl), (Nat.le_of_ble_eq_true rfl)⟩) hS (fun q _ h => h) (fun q h => h) (fun u8 t8 H1 locs ht8 hvm8 hw_57 hB hz1 hk1 hS => ?_)
    obtain ⟨g_58, s2_59, f2_60⟩ := u8
    try dsimp only at hw_57 hB
    rw [ht8] at hB
    have hP := hB
    generalize H1 = H at hP hS ⊢
    obtain ⟨fr_61, hw2, rp2⟩ := hw_57
    obtain ⟨ak_62, bk_62, uk_62, ck_62, ek_62⟩ := hw2
    refine lv_aload_n hx hb dX8_add_23 rfl (lv_at hl 2 rfl) ?_
    refine lv_iload_n hx hb dX8_add_24 rfl (lv_at hl 1 rfl) ?_
    refine m_put (D := (dC, dI)) (v := .int (nI nx9)) (tv := .boolean) (C := RX8) (T := TX8) (N := 3) hx hb hts bk0 tyX8 tyX8_ok nmX8 hown hK hP hD hS (2 * t) (ns_w (by omega)) ak_62 rfl 2 (by decide) (hts (.fieldLink RX8 19 "GradientDesk$Whole" "below" "Z") (List.mem_of_getElem? (i := 1) rfl)) (fun _ h9 => h9) rfl (by decide +kernel) (k_narZ2 (by omega)) (k_fitZ2 (by omega)) (Nat.le_of_ble_eq_true rfl) dX8_add_25 (fun H locs g_63 f_64 fr_65 hP hS => ?_)
    have f_64 : g_63 (2 * t) = .inr (11, [.ref (ad (2 * t + 1)), .int (nI s2_59), .int (nI nx9)]) := f_64
    refine lv_goto (tgt := 80) hx hb dX8_add_28 (by decide) ?_
    have f_66 : g_63 (2 * t + 1) = .inl (cA (2 * t + 1), rmc t, .inl (fun j => nI (f2_60 j))) := (fr_65 (2 * t + 1) (by omega)).trans bk_62
    have hWN : WN ad cA g_63 t s2_59 nx9 (f2_60) := ⟨f_64, f_66, uk_62, by omega, by omega⟩
    refine W.widen (k := 0) (n := 0) (by omega) (by omega) ?_
    exact W.vret hx hb hr (fun t9 ht9 hW9 => ⟨⟨g_63, rfl, ⟨(fun (k : Nat) (hk : k ≠ 2 * t ∧ k ≠ 2 * t + 1) => (fr_65 k (by omega)).trans ((fr_61 k (by omega)).trans (rfl))), hWN.aw hAW (fun (k : Nat) (hk : k ≠ 2 * t ∧ k ≠ 2 * t + 1) => (fr_65 k (by omega)).trans ((fr_61 k (by omega)).trans (rfl))), _, _, _, hWN, by rw [show (v + w1).natAbs = v.natAbs + w1.natAbs by omega]; exact rp2, by omega⟩, by show va_P (dC, dI) vwCl _ t9.heap; rw [ht9]; exact hP⟩, hS.F ht9⟩) hS.2.2 dX8_add_80
end
section
/-! trailing zeros -/
theorem od_ex : ∀ w : Nat, 0 < w → ∃ k u, w = 2 ^ k * (2 * u + 1) := by
  intro w
  induction w using Nat.strongRecOn with
  | ind w ih =>
    intro h
    by_cases h2 : w % 2 = 0
    · obtain ⟨k, u, e⟩ := ih (w / 2) (by omega) (by omega)
      refine ⟨k + 1, u, ?_⟩
      rw [Nat.pow_succ, Nat.mul_comm (2 ^ k) 2, Nat.mul_assoc, ← e]; omega
    · exact ⟨0, w / 2, by rw [Nat.pow_zero, Nat.one_mul]; omega⟩
theorem od_mask {k u w : Nat} (hw : w = 2 ^ k * (2 * u + 1)) (h : w < 4294967296) : (w ^^^ 4294967295) &&& (w - 1) = 2 ^ k - 1 := by
  have hp : 0 < 2 ^ k := Nat.pow_pos (by decide)
  have e1 : w = 2 ^ (k + 1) * u + 2 ^ k := by rw [hw, Nat.mul_add, Nat.mul_one, Nat.pow_succ, Nat.mul_assoc]
  have e2 : w - 1 = 2 ^ (k + 1) * u + (2 ^ k - 1) := by omega
  have l1 : 2 ^ k < 2 ^ (k + 1) := Nat.pow_lt_pow_right (by decide) (by omega)
  apply Nat.eq_of_testBit_eq
  intro i
  rw [Nat.testBit_and, Nat.testBit_xor, show (4294967295 : Nat) = 2 ^ 32 - 1 from rfl, Nat.testBit_two_pow_sub_one, Nat.testBit_two_pow_sub_one, e2, e1, Nat.testBit_two_pow_mul_add _ l1, Nat.testBit_two_pow_mul_add _ (show 2 ^ k - 1 < 2 ^ (k + 1) by omega)]
  by_cases hi : i < k + 1
  · rw [if_pos hi, if_pos hi, Nat.testBit_two_pow_sub_one, Nat.testBit_two_pow]
    have hk : k < 32 := by
      rcases Nat.lt_or_ge k 32 with h9 | h9
      · exact h9
      · have : 2 ^ 32 ≤ 2 ^ k := Nat.pow_le_pow_right (by decide) h9
        omega
    by_cases hik : i < k
    · rw [show decide (k = i) = false from decide_eq_false (by omega), show decide (i < 32) = true from decide_eq_true (by omega), show decide (i < k) = true from decide_eq_true hik]; rfl
    · rw [show decide (i < k) = false from decide_eq_false hik, Bool.and_false]
  · rw [if_neg hi, if_neg hi, show decide (i < k) = false from decide_eq_false (by omega)]
    by_cases h32 : i < 32
    · rw [show decide (i < 32) = true from decide_eq_true h32]
      cases u.testBit (i - (k + 1)) <;> rfl
    · have h9 : u.testBit (i - (k + 1)) = false := by
        have h8 : w.testBit i = false := Nat.testBit_lt_two_pow (Nat.lt_of_lt_of_le h (show 4294967296 ≤ 2 ^ i from (Nat.pow_le_pow_right (by decide) (show 32 ≤ i by omega) : 2 ^ 32 ≤ 2 ^ i)))
        rw [e1, Nat.testBit_two_pow_mul_add _ l1, if_neg hi] at h8
        exact h8
      rw [h9, Bool.and_false]
theorem od_32 {k u w : Nat} (hw : w = 2 ^ k * (2 * u + 1)) (h : w < 4294967296) : k < 32 := by
  rcases Nat.lt_or_ge k 32 with h9 | h9
  · exact h9
  · have h1 : 2 ^ 32 ≤ 2 ^ k := Nat.pow_le_pow_right (by decide) h9
    have h2 : 2 ^ k * 1 ≤ 2 ^ k * (2 * u + 1) := Nat.mul_le_mul_left _ (by omega)
    omega
/-- z is the number of trailing zeros of V -/
def isTZ (V z : Nat) : Prop := ∃ u, V = 2 ^ z * (2 * u + 1)
theorem tz_uq {V a b : Nat} (ha : isTZ V a) (hb : isTZ V b) : a = b := by
  obtain ⟨u, eu⟩ := ha
  obtain ⟨x, ex⟩ := hb
  have key : ∀ a b u x, 2 ^ a * (2 * u + 1) = 2 ^ b * (2 * x + 1) → ¬ a < b := by
    intro a b u x e hl
    obtain ⟨d, rfl⟩ : ∃ d, b = a + (d + 1) := ⟨b - a - 1, by omega⟩
    rw [Nat.pow_add, Nat.mul_assoc] at e
    have e2 := Nat.eq_of_mul_eq_mul_left (Nat.pow_pos (by decide)) e
    rw [Nat.pow_succ, Nat.mul_comm (2 ^ d) 2, Nat.mul_assoc] at e2
    omega
  have k1 := key a b u x (by rw [← eu, ← ex])
  have k2 := key b a x u (by rw [← eu, ← ex])
  omega
/-- the first word that isn't 0 -/
theorem tz_wd {V i k u : Nat} (hz : ∀ j, j < i → dgt V j = 0) (hw : dgt V i = 2 ^ k * (2 * u + 1)) (hk : k < 32) : isTZ V (32 * i + k) := by
  have h1 : V % 4294967296 ^ i = 0 := by
    have : ∀ n, n ≤ i → V % 4294967296 ^ n = 0 := by
      intro n
      induction n with
      | zero => intro _; rw [Nat.pow_zero, Nat.mod_one]
      | succ n ih => intro hn; rw [mod_s, ih (by omega), hz n (by omega)]; omega
    exact this i (Nat.le_refl _)
  have h2 : V = 4294967296 ^ i * (V / 4294967296 ^ i) := by
    have := Nat.div_add_mod V (4294967296 ^ i); omega
  have h3 : V / 4294967296 ^ i = 4294967296 * (V / 4294967296 ^ i / 4294967296) + dgt V i := by
    unfold dgt; have := Nat.div_add_mod (V / 4294967296 ^ i) 4294967296; omega
  have h4 : 4294967296 = 2 ^ k * (2 * 2 ^ (31 - k)) := by
    rw [← Nat.pow_succ', ← Nat.pow_add, show k + (31 - k).succ = 32 by omega]
  generalize V / 4294967296 ^ i / 4294967296 = X at h3
  have key : V / 4294967296 ^ i = 2 ^ k * (2 * (2 ^ (31 - k) * X + u) + 1) := by
    rw [h3, hw]
    conv => lhs; rw [h4]
    rw [Nat.mul_assoc, ← Nat.mul_add]
    congr 1
    rw [Nat.mul_assoc]
    omega
  refine ⟨2 ^ (31 - k) * X + u, ?_⟩
  calc V = 4294967296 ^ i * (V / 4294967296 ^ i) := h2
    _ = 4294967296 ^ i * (2 ^ k * (2 * (2 ^ (31 - k) * X + u) + 1)) := by rw [key]
    _ = 2 ^ (32 * i + k) * (2 * (2 ^ (31 - k) * X + u) + 1) := by rw [pw_two, Nat.pow_add, Nat.mul_assoc]
theorem ush_k : ∀ r, r < 32 → (((nI r).toUInt32 &&& Int32.toUInt32 31).toBitVec % 32).toNat = r := by decide +kernel
/-! a shift down, word by word -/
theorem dgt_shr {V q k a b r i : Nat} (hr : q = 32 * k + r) (hr2 : r < 32) (ha : a = dgt V (i + k)) (hb : b = dgt V (i + k + 1)) : dgt (V / 2 ^ q) i = a / 2 ^ r + b % 2 ^ r * 2 ^ (32 - r) := by
  subst ha; subst hb
  have e1 : V / 2 ^ q / 4294967296 ^ i = V / 4294967296 ^ (i + k) / 2 ^ r := by
    rw [Nat.div_div_eq_div_mul, Nat.div_div_eq_div_mul, pw_two, pw_two, ← Nat.pow_add, ← Nat.pow_add, hr, show 32 * k + r + 32 * i = 32 * (i + k) + r by omega]
  unfold dgt
  rw [e1, show V / 4294967296 ^ (i + k + 1) = V / 4294967296 ^ (i + k) / 4294967296 by rw [Nat.pow_succ, Nat.div_div_eq_div_mul]]
  generalize V / 4294967296 ^ (i + k) = X
  have hp : 4294967296 = 2 ^ r * 2 ^ (32 - r) := by rw [← Nat.pow_add, show r + (32 - r) = 32 by omega]
  have p1 : 0 < 2 ^ r := Nat.pow_pos (by decide)
  have p2 : 0 < 2 ^ (32 - r) := Nat.pow_pos (by decide)
  -- X = X % B + B * (X / B)
  have d1 : X = X % 4294967296 + 2 ^ r * (2 ^ (32 - r) * (X / 4294967296)) := by
    have := Nat.mod_add_div X 4294967296
    rw [← Nat.mul_assoc, ← hp]; omega
  have d2 : X / 2 ^ r = X % 4294967296 / 2 ^ r + 2 ^ (32 - r) * (X / 4294967296) := by
    conv => lhs; rw [d1]
    rw [Nat.add_mul_div_left _ _ p1]
  have d3 : X % 4294967296 / 2 ^ r < 2 ^ (32 - r) := by
    apply Nat.div_lt_of_lt_mul
    rw [← hp]; exact Nat.mod_lt _ (by decide)
  have d4 : X / 4294967296 = X / 4294967296 % 2 ^ r + 2 ^ r * (X / 4294967296 / 2 ^ r) := (Nat.mod_add_div _ _).symm
  have d5 : 2 ^ (32 - r) * (X / 4294967296) = X / 4294967296 % 2 ^ r * 2 ^ (32 - r) + 4294967296 * (X / 4294967296 / 2 ^ r) := by
    conv => lhs; rw [d4]
    rw [Nat.mul_add, ← Nat.mul_assoc (2 ^ (32 - r)), Nat.mul_comm (2 ^ (32 - r)) (2 ^ r), ← hp, Nat.mul_comm]
  have d6 : X / 4294967296 % 2 ^ r < 2 ^ r := Nat.mod_lt _ p1
  have d7 : X % 4294967296 / 2 ^ r + X / 4294967296 % 2 ^ r * 2 ^ (32 - r) < 4294967296 := by
    have h9 : (X / 4294967296 % 2 ^ r + 1) * 2 ^ (32 - r) ≤ 2 ^ r * 2 ^ (32 - r) := Nat.mul_le_mul_right _ (by omega)
    rw [← hp, Nat.add_mul, Nat.one_mul] at h9
    omega
  rw [d2, d5, ← Nat.add_assoc, Nat.add_mul_mod_self_left, Nat.mod_eq_of_lt d7]
  congr 1
  rw [Nat.mod_mod_of_dvd]
  exact ⟨2 ^ (32 - r), hp⟩
theorem shl_s : ∀ s, s < 32 → ((nI s &&& 31).toBitVec.smod 32).toNat = s := by decide +kernel
theorem shl_k {b r : Nat} (hb : b < 4294967296) (h1 : 1 ≤ r) (h2 : r < 32) : nI b <<< (nI (32 - r) &&& 31) = nI (b % 2 ^ r * 2 ^ (32 - r)) := by
  have hp : 2 ^ r * 2 ^ (32 - r) = 2 ^ 32 := by rw [← Nat.pow_add, show r + (32 - r) = 32 by omega]
  have hl : b % 2 ^ r * 2 ^ (32 - r) < 2 ^ 32 := by
    rw [← hp]; exact Nat.mul_lt_mul_of_pos_right (Nat.mod_lt _ (Nat.pow_pos (by decide))) (Nat.pow_pos (by decide))
  apply Int32.toBitVec_inj.mp
  apply BitVec.eq_of_toNat_eq
  rw [pk_shl (nI b) _ (32 - r) (shl_s _ (by omega)), pk_tn hb, pk_tn hl, ← hp, Nat.mul_mod_mul_right]
theorem nx_or9 (a b : Nat) : nI a ||| nI b = nI (a ||| b) := by
  apply Int32.toBitVec_inj.1
  show BitVec.ofNat 32 a ||| BitVec.ofNat 32 b = BitVec.ofNat 32 (a ||| b)
  apply BitVec.eq_of_getLsbD_eq
  intro i hi
  simp [hi]
theorem or_add {a b r : Nat} (ha : a < 2 ^ (32 - r)) : a ||| b * 2 ^ (32 - r) = a + b * 2 ^ (32 - r) := by
  have := Nat.shiftLeft_add_eq_or_of_lt ha b
  rw [Nat.shiftLeft_eq] at this
  rw [Nat.or_comm, ← this, Nat.add_comm]
theorem dv_lt {a r : Nat} (ha : a < 4294967296) (hr : r < 32) : a / 2 ^ r < 2 ^ (32 - r) := by
  apply Nat.div_lt_of_lt_mul
  rw [← Nat.pow_add, show r + (32 - r) = 32 by omega]; exact ha
theorem shr_lt {V q k s r : Nat} (hV : V < 4294967296 ^ s) (hq : q = 32 * k + r) (hk : k ≤ s) : V / 2 ^ q < 4294967296 ^ (s - k) := by
  apply Nat.div_lt_of_lt_mul
  refine Nat.lt_of_lt_of_le hV ?_
  rw [pw_two, pw_two, ← Nat.pow_add]
  exact Nat.pow_le_pow_right (by decide) (by omega)
theorem shr_ge {V q k s r n : Nat} (hV : 4294967296 ^ (s - 1) ≤ V) (hq : q = 32 * k + r) (hr : r < 32) (hn : n = s - k) : n ≤ 1 ∨ 4294967296 ^ (n - 2) ≤ V / 2 ^ q := by
  by_cases h : n ≤ 1
  · exact Or.inl h
  · right
    rw [Nat.le_div_iff_mul_le (Nat.pow_pos (by decide))]
    refine Nat.le_trans ?_ hV
    rw [pw_two, pw_two, ← Nat.pow_add]
    exact Nat.pow_le_pow_right (by decide) (by omega)
theorem shr_0 {V q k s r : Nat} (hV : V < 4294967296 ^ s) (hq : q = 32 * k + r) (hk : s ≤ k) : V / 2 ^ q = 0 := by
  apply Nat.div_eq_of_lt
  refine Nat.lt_of_lt_of_le hV ?_
  rw [pw_two]
  exact Nat.pow_le_pow_right (by decide) (by omega)
theorem rp_00 {f : Nat → Nat} : Rp f 0 0 := ⟨fun j h9 => absurd h9 (Nat.not_lt_zero _), Or.inl rfl, rfl⟩
end
