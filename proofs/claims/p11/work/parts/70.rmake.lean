def wd_X10_describe : List Cond := .code yX10_describe cX10_describe 7 (some .int) :: (([.fieldLink RX10 146 "GradientDeskModel" "fault" "I", .fieldLink RX10 29 "GradientDeskModel" "sort" "[I", .fieldLink RX10 149 "GradientDeskModel" "made" "I", .fieldLink RX10 32 "GradientDeskModel" "first" "[I", .fieldLink RX10 35 "GradientDeskModel" "second" "[I", .fieldLink RX10 38 "GradientDeskModel" "degree" "[I", .fieldLink RX10 41 "GradientDeskModel" "sizeN" "[I", .fieldLink RX10 44 "GradientDeskModel" "sizeD" "[I", .methodLink RX10 156 yX10_keep, .instanceMethod yX10_keep, .selects RX10 yX10_keep yX10_keep, .initialized RX10] : List Cond) ++ (u_ws RX10 TX10 29 ++ (wd_X10_keep ++ ([]))))
theorem gw_X10_describe : wd_X10_describe.all goodWord = true := k_allc rfl (k_all (by decide +kernel) (k_all (gu_X10) (k_all (gw_X10_keep) (rfl))))
set_option maxHeartbeats 4000000 in
set_option maxRecDepth 100000 in
theorem c_X10_describe (l : Launch) (dC : Nat → ClassId) (dI : Nat → Nat → Nat) (A : Nat → Prop) (ad : Nat → Nat) (cA : Nat → ClassId) (g : Nat → va_E) (x : Nat → Int32) (pf : Nat → Int) (qf : Nat → Nat) (pt : Nat → Nat → Int) (L : List PD) (ds : PD) (v1 : Int32) (v2 : Int32) (v3 : Int32) (v4 : Int32) (v5 : Int32) (v6 : Int32) (ft : Int) (hF : RF ad cA g x pf qf) (hPt : PTF cA g pt) (hM : MT L pt pf qf) (hmd : x 3 = nI L.length) (hL2 : L.length ≤ 200) (hft : x 4 = iI ft) (hfr : ft = 0 ∨ (ft < 0 ∧ -4 ≤ ft)) (hv1 : v1 = iI (((ds.1 : Nat) : Int))) (hv2 : v2 = iI (ds.2.1)) (hv3 : v3 = iI (ds.2.2.1)) (hv4 : v4 = iI (((ds.2.2.2.1 : Nat) : Int))) (hv5 : v5 = iI (((ds.2.2.2.2.1 : Nat) : Int))) (hv6 : v6 = iI (((ds.2.2.2.2.2.1 : Nat) : Int))) (hdn : ds.1 = 0 → pf 1011 = ds.2.2.2.2.2.2.1 ∧ qf 1011 = ds.2.2.2.2.2.2.2) (hbd : ds.1 ≤ 20000 ∧ -1 ≤ ds.2.1 ∧ ds.2.1 ≤ 20000 ∧ -1 ≤ ds.2.2.1 ∧ ds.2.2.1 ≤ 20000 ∧ ds.2.2.2.1 ≤ 20000 ∧ ds.2.2.2.2.1 ≤ 20000 ∧ ds.2.2.2.2.2.1 ≤ 20000) : Met l yX10_describe wd_X10_describe ({ frames := 60, cells := 0, slots := 0, locals := 1200 }) (va_Pc [.ref (ad 0), .int v1, .int v2, .int v3, .int v4, .int v5, .int v6] (PR NSr tyr dC dI A ad cA g)) (va_Qi (fun (r : Int32) => fun (u : (Nat → va_E) × (Nat → Int32) × (Nat → Nat → Int) × (Nat → Int) × (Nat → Nat)) => match u with | (g2, x2, pt2, pf2, qf2) => (∀ k, k ≠ 0 ∧ k ≠ 1 ∧ k ≠ 2 ∧ k ≠ 3 ∧ k ≠ 5 ∧ k ≠ 6 ∧ k ≠ 7 ∧ k ≠ 8 ∧ k ≠ 9 ∧ k ≠ 10 → g2 k = g k) ∧ MKP ad cA g2 x x2 pf qf (onF ft L (keepL L ds)) r pt2 pf2 qf2) (fun (u : (Nat → va_E) × (Nat → Int32) × (Nat → Nat → Int) × (Nat → Int) × (Nat → Nat)) (t : State) => va_P (dC, dI) vwCl (wo ad NSr u.1) t.heap) A) (0) (0) A := by
  refine Met.ofW (cc := cX10_describe) (maxL := 7) (ret := (some .int)) (by decide) rfl ?_
  intro p e s m args below meth c s₁ B hml hv
  obtain ⟨rfl, hA, hP, hL⟩ := hv
  have hx := B.exec
  have hb := B.bytes
  have hr := B.returns
  have hts := atoms_spec (ws := wd_X10_describe) B.pre
  have hown : s.vm.findClass RX10 = some m.cls := findClass_of_methodNamed B.named
  have hlocks := B.notSynchronized
  have hK := hL.1
  have hD : ∀ g, va_D A (wo ad NSr g) := fun g => wo_D hL.2.1 hL.2.2 g
  have hS : va_S A s.heap s.heap [] := va_S.rf
  have bk0 : ∀ w ∈ u_ws RX10 TX10 29, w ∈ wd_X10_describe := fun _ h => List.mem_cons_of_mem _ (List.mem_append_right _ (List.mem_append_left _ h))
  have bk1 : ∀ w ∈ wd_X10_keep, w ∈ wd_X10_describe := fun _ h => List.mem_cons_of_mem _ (List.mem_append_right _ (List.mem_append_right _ (List.mem_append_left _ h)))
  have hl := lv_entry ([.ref (ad 0), .int v1, .int v2, .int v3, .int v4, .int v5, .int v6]) (n := 7) (Nat.le_of_ble_eq_true rfl)
  rw [lg_entry_eq]
  generalize (lg_sl ([.ref (ad 0), .int v1, .int v2, .int v3, .int v4, .int v5, .int v6]) ++ List.replicate (7 - (lg_sl ([.ref (ad 0), .int v1, .int v2, .int v3, .int v4, .int v5, .int v6])).length) Slot.unset).toArray = ls at hl ⊢
  have hl : lv_has ls 7 [(0, .ref (ad 0)), (1, .int v1), (2, .int v2), (3, .int v3), (4, .int v4), (5, .int v5), (6, .int v6)] := hl
  have hF0 := hF
  obtain ⟨vf, hV, hq⟩ := hF
  have hc_1 := hV
  obtain ⟨pnz_2, lnz_2, bnz_2, hRz_2, hvz_2⟩ := hc_1
  obtain ⟨r_3, r_4, r_5, r_6, r_7, r_8, r_9⟩ := hRz_2
  obtain ⟨p_10, p_11, p_12, p_13, p_14, p_15, hpt_16⟩ := hPt
  have hPt0 : PTF cA g pt := ⟨p_10, p_11, p_12, p_13, p_14, p_15, hpt_16⟩
  refine lv_aload_n hx hb dX10_describe_0 rfl (lv_at hl 0 rfl) ?_
  refine m_get (D := (dC, dI)) (v := .int (iI ft)) (C := RX10) (T := TX10) (N := 29) hx hb hts bk0 hown hK hP 0 (by decide) r_3 rfl 14 (by decide) (hts (.fieldLink RX10 146 "GradientDeskModel" "fault" "I") (List.mem_of_getElem? (i := 1) rfl)) (fun _ h9 => h9) (by show some (Value.int (x 4)) = _; rw [hft]) dX10_describe_1 ?_
  refine lv_if_ge (tgt := 9) hx hb dX10_describe_4 (by decide) (fun c_17 => ?_) (fun c_17 => ?_)
  · have c_17 := (k_iLE (a := 0) (b := ft) (show nI 0 = iI 0 from by decide) rfl (by omega) (by omega)).mp c_17
    obtain rfl : ft = 0 := by omega
    refine lv_aload_n hx hb dX10_describe_9 rfl (lv_at hl 0 rfl) ?_
    refine m_get (D := (dC, dI)) (v := .ref (ad 5)) (C := RX10) (T := TX10) (N := 29) hx hb hts bk0 hown hK hP 0 (by decide) r_3 rfl 7 (by decide) (hts (.fieldLink RX10 29 "GradientDeskModel" "sort" "[I") (List.mem_of_getElem? (i := 2) rfl)) (fun _ h9 => h9) rfl dX10_describe_10 ?_
    refine lv_aload_n hx hb dX10_describe_13 rfl (lv_at hl 0 rfl) ?_
    refine m_get (D := (dC, dI)) (v := .int (nI L.length)) (C := RX10) (T := TX10) (N := 29) hx hb hts bk0 hown hK hP 0 (by decide) r_3 rfl 13 (by decide) (hts (.fieldLink RX10 149 "GradientDeskModel" "made" "I") (List.mem_of_getElem? (i := 3) rfl)) (fun _ h9 => h9) (by show some (Value.int (x 3)) = _; rw [hmd]) dX10_describe_14 ?_
    refine lv_iload_n hx hb dX10_describe_17 rfl (lv_at hl 1 rfl) ?_
    refine m_iast hx hb hK hP hD hS 5 (by decide) rfl p_10 (i := L.length) (x := v1) (by omega) (by decide) dX10_describe_18 (fun H locs g_18 f_19 fr_20 hP hS => ?_)
    rw [hv1, k_updZ] at f_19
    have b_21 : ∀ j, -1 ≤ (va_up (pt 0) L.length ((ds.1 : Nat) : Int)) j ∧ (va_up (pt 0) L.length ((ds.1 : Nat) : Int)) j ≤ 20000 := k_up_in (hpt_16 0) (by omega)
    have f_19 : g_18 5 = .inl (cA 5, 201, .inl (fun j => iI ((va_up (pt 0) L.length ((ds.1 : Nat) : Int)) j))) := f_19
    refine lv_aload_n hx hb dX10_describe_19 rfl (lv_at hl 0 rfl) ?_
    have f_22 : g_18 0 = .inr (13, Rob ad x) := (fr_20 0 (by omega)).trans r_3
    refine m_get (D := (dC, dI)) (v := .ref (ad 6)) (C := RX10) (T := TX10) (N := 29) hx hb hts bk0 hown hK hP 0 (by decide) f_22 rfl 8 (by decide) (hts (.fieldLink RX10 32 "GradientDeskModel" "first" "[I") (List.mem_of_getElem? (i := 4) rfl)) (fun _ h9 => h9) rfl dX10_describe_20 ?_
    refine lv_aload_n hx hb dX10_describe_23 rfl (lv_at hl 0 rfl) ?_
    refine m_get (D := (dC, dI)) (v := .int (nI L.length)) (C := RX10) (T := TX10) (N := 29) hx hb hts bk0 hown hK hP 0 (by decide) f_22 rfl 13 (by decide) (hts (.fieldLink RX10 149 "GradientDeskModel" "made" "I") (List.mem_of_getElem? (i := 3) rfl)) (fun _ h9 => h9) (by show some (Value.int (x 3)) = _; rw [hmd]) dX10_describe_24 ?_
    refine lv_iload_n hx hb dX10_describe_27 rfl (lv_at hl 2 rfl) ?_
    have f_23 : g_18 6 = .inl (cA 6, 201, .inl (fun j => iI ((pt 1) j))) := (fr_20 6 (by omega)).trans p_11
    refine m_iast hx hb hK hP hD hS 6 (by decide) rfl f_23 (i := L.length) (x := v2) (by omega) (by decide) dX10_describe_28 (fun H locs g_24 f_25 fr_26 hP hS => ?_)
    rw [hv2, k_updZ] at f_25
    have b_27 : ∀ j, -1 ≤ (va_up (pt 1) L.length ds.2.1) j ∧ (va_up (pt 1) L.length ds.2.1) j ≤ 20000 := k_up_in (hpt_16 1) (by omega)
    have f_25 : g_24 6 = .inl (cA 6, 201, .inl (fun j => iI ((va_up (pt 1) L.length ds.2.1) j))) := f_25
    refine lv_aload_n hx hb dX10_describe_29 rfl (lv_at hl 0 rfl) ?_
    have f_28 : g_24 0 = .inr (13, Rob ad x) := (fr_26 0 (by omega)).trans f_22
    refine m_get (D := (dC, dI)) (v := .ref (ad 7)) (C := RX10) (T := TX10) (N := 29) hx hb hts bk0 hown hK hP 0 (by decide) f_28 rfl 9 (by decide) (hts (.fieldLink RX10 35 "GradientDeskModel" "second" "[I") (List.mem_of_getElem? (i := 5) rfl)) (fun _ h9 => h9) rfl dX10_describe_30 ?_
    refine lv_aload_n hx hb dX10_describe_33 rfl (lv_at hl 0 rfl) ?_
    refine m_get (D := (dC, dI)) (v := .int (nI L.length)) (C := RX10) (T := TX10) (N := 29) hx hb hts bk0 hown hK hP 0 (by decide) f_28 rfl 13 (by decide) (hts (.fieldLink RX10 149 "GradientDeskModel" "made" "I") (List.mem_of_getElem? (i := 3) rfl)) (fun _ h9 => h9) (by show some (Value.int (x 3)) = _; rw [hmd]) dX10_describe_34 ?_
    refine lv_iload_n hx hb dX10_describe_37 rfl (lv_at hl 3 rfl) ?_
    have f_29 : g_24 7 = .inl (cA 7, 201, .inl (fun j => iI ((pt 2) j))) := (fr_26 7 (by omega)).trans ((fr_20 7 (by omega)).trans p_12)
    refine m_iast hx hb hK hP hD hS 7 (by decide) rfl f_29 (i := L.length) (x := v3) (by omega) (by decide) dX10_describe_38 (fun H locs g_30 f_31 fr_32 hP hS => ?_)
    rw [hv3, k_updZ] at f_31
    have b_33 : ∀ j, -1 ≤ (va_up (pt 2) L.length ds.2.2.1) j ∧ (va_up (pt 2) L.length ds.2.2.1) j ≤ 20000 := k_up_in (hpt_16 2) (by omega)
    have f_31 : g_30 7 = .inl (cA 7, 201, .inl (fun j => iI ((va_up (pt 2) L.length ds.2.2.1) j))) := f_31
    refine lv_aload_n hx hb dX10_describe_39 rfl (lv_at hl 0 rfl) ?_
    have f_34 : g_30 0 = .inr (13, Rob ad x) := (fr_32 0 (by omega)).trans f_28
    refine m_get (D := (dC, dI)) (v := .ref (ad 8)) (C := RX10) (T := TX10) (N := 29) hx hb hts bk0 hown hK hP 0 (by decide) f_34 rfl 10 (by decide) (hts (.fieldLink RX10 38 "GradientDeskModel" "degree" "[I") (List.mem_of_getElem? (i := 6) rfl)) (fun _ h9 => h9) rfl dX10_describe_40 ?_
    refine lv_aload_n hx hb dX10_describe_43 rfl (lv_at hl 0 rfl) ?_
    refine m_get (D := (dC, dI)) (v := .int (nI L.length)) (C := RX10) (T := TX10) (N := 29) hx hb hts bk0 hown hK hP 0 (by decide) f_34 rfl 13 (by decide) (hts (.fieldLink RX10 149 "GradientDeskModel" "made" "I") (List.mem_of_getElem? (i := 3) rfl)) (fun _ h9 => h9) (by show some (Value.int (x 3)) = _; rw [hmd]) dX10_describe_44 ?_
    refine lv_iload hx hb dX10_describe_47 (lv_at hl 4 rfl) ?_
    have f_35 : g_30 8 = .inl (cA 8, 201, .inl (fun j => iI ((pt 3) j))) := (fr_32 8 (by omega)).trans ((fr_26 8 (by omega)).trans ((fr_20 8 (by omega)).trans p_13))
    refine m_iast hx hb hK hP hD hS 8 (by decide) rfl f_35 (i := L.length) (x := v4) (by omega) (by decide) dX10_describe_49 (fun H locs g_36 f_37 fr_38 hP hS => ?_)
    rw [hv4, k_updZ] at f_37
    have b_39 : ∀ j, -1 ≤ (va_up (pt 3) L.length ((ds.2.2.2.1 : Nat) : Int)) j ∧ (va_up (pt 3) L.length ((ds.2.2.2.1 : Nat) : Int)) j ≤ 20000 := k_up_in (hpt_16 3) (by omega)
    have f_37 : g_36 8 = .inl (cA 8, 201, .inl (fun j => iI ((va_up (pt 3) L.length ((ds.2.2.2.1 : Nat) : Int)) j))) := f_37
    refine lv_aload_n hx hb dX10_describe_50 rfl (lv_at hl 0 rfl) ?_
    have f_40 : g_36 0 = .inr (13, Rob ad x) := (fr_38 0 (by omega)).trans f_34
    refine m_get (D := (dC, dI)) (v := .ref (ad 9)) (C := RX10) (T := TX10) (N := 29) hx hb hts bk0 hown hK hP 0 (by decide) f_40 rfl 11 (by decide) (hts (.fieldLink RX10 41 "GradientDeskModel" "sizeN" "[I") (List.mem_of_getElem? (i := 7) rfl)) (fun _ h9 => h9) rfl dX10_describe_51 ?_
    refine lv_aload_n hx hb dX10_describe_54 rfl (lv_at hl 0 rfl) ?_
    refine m_get (D := (dC, dI)) (v := .int (nI L.length)) (C := RX10) (T := TX10) (N := 29) hx hb hts bk0 hown hK hP 0 (by decide) f_40 rfl 13 (by decide) (hts (.fieldLink RX10 149 "GradientDeskModel" "made" "I") (List.mem_of_getElem? (i := 3) rfl)) (fun _ h9 => h9) (by show some (Value.int (x 3)) = _; rw [hmd]) dX10_describe_55 ?_
    refine lv_iload hx hb dX10_describe_58 (lv_at hl 5 rfl) ?_
    have f_41 : g_36 9 = .inl (cA 9, 201, .inl (fun j => iI ((pt 4) j))) := (fr_38 9 (by omega)).trans ((fr_32 9 (by omega)).trans ((fr_26 9 (by omega)).trans ((fr_20 9 (by omega)).trans p_14)))
    refine m_iast hx hb hK hP hD hS 9 (by decide) rfl f_41 (i := L.length) (x := v5) (by omega) (by decide) dX10_describe_60 (fun H locs g_42 f_43 fr_44 hP hS => ?_)
    rw [hv5, k_updZ] at f_43
    have b_45 : ∀ j, -1 ≤ (va_up (pt 4) L.length ((ds.2.2.2.2.1 : Nat) : Int)) j ∧ (va_up (pt 4) L.length ((ds.2.2.2.2.1 : Nat) : Int)) j ≤ 20000 := k_up_in (hpt_16 4) (by omega)
    have f_43 : g_42 9 = .inl (cA 9, 201, .inl (fun j => iI ((va_up (pt 4) L.length ((ds.2.2.2.2.1 : Nat) : Int)) j))) := f_43
    refine lv_aload_n hx hb dX10_describe_61 rfl (lv_at hl 0 rfl) ?_
    have f_46 : g_42 0 = .inr (13, Rob ad x) := (fr_44 0 (by omega)).trans f_40
    refine m_get (D := (dC, dI)) (v := .ref (ad 10)) (C := RX10) (T := TX10) (N := 29) hx hb hts bk0 hown hK hP 0 (by decide) f_46 rfl 12 (by decide) (hts (.fieldLink RX10 44 "GradientDeskModel" "sizeD" "[I") (List.mem_of_getElem? (i := 8) rfl)) (fun _ h9 => h9) rfl dX10_describe_62 ?_
    refine lv_aload_n hx hb dX10_describe_65 rfl (lv_at hl 0 rfl) ?_
    refine m_get (D := (dC, dI)) (v := .int (nI L.length)) (C := RX10) (T := TX10) (N := 29) hx hb hts bk0 hown hK hP 0 (by decide) f_46 rfl 13 (by decide) (hts (.fieldLink RX10 149 "GradientDeskModel" "made" "I") (List.mem_of_getElem? (i := 3) rfl)) (fun _ h9 => h9) (by show some (Value.int (x 3)) = _; rw [hmd]) dX10_describe_66 ?_
    refine lv_iload hx hb dX10_describe_69 (lv_at hl 6 rfl) ?_
    have f_47 : g_42 10 = .inl (cA 10, 201, .inl (fun j => iI ((pt 5) j))) := (fr_44 10 (by omega)).trans ((fr_38 10 (by omega)).trans ((fr_32 10 (by omega)).trans ((fr_26 10 (by omega)).trans ((fr_20 10 (by omega)).trans p_15))))
    refine m_iast hx hb hK hP hD hS 10 (by decide) rfl f_47 (i := L.length) (x := v6) (by omega) (by decide) dX10_describe_71 (fun H locs g_48 f_49 fr_50 hP hS => ?_)
    rw [hv6, k_updZ] at f_49
    have b_51 : ∀ j, -1 ≤ (va_up (pt 5) L.length ((ds.2.2.2.2.2.1 : Nat) : Int)) j ∧ (va_up (pt 5) L.length ((ds.2.2.2.2.2.1 : Nat) : Int)) j ≤ 20000 := k_up_in (hpt_16 5) (by omega)
    have f_49 : g_48 10 = .inl (cA 10, 201, .inl (fun j => iI ((va_up (pt 5) L.length ((ds.2.2.2.2.2.1 : Nat) : Int)) j))) := f_49
    refine lv_aload_n hx hb dX10_describe_72 rfl (lv_at hl 0 rfl) ?_
    have f_52 : g_48 5 = .inl (cA 5, 201, .inl (fun j => iI ((va_up (pt 0) L.length ((ds.1 : Nat) : Int)) j))) := (fr_50 5 (by omega)).trans ((fr_44 5 (by omega)).trans ((fr_38 5 (by omega)).trans ((fr_32 5 (by omega)).trans ((fr_26 5 (by omega)).trans f_19))))
    have f_53 : g_48 6 = .inl (cA 6, 201, .inl (fun j => iI ((va_up (pt 1) L.length ds.2.1) j))) := (fr_50 6 (by omega)).trans ((fr_44 6 (by omega)).trans ((fr_38 6 (by omega)).trans ((fr_32 6 (by omega)).trans f_25)))
    have f_54 : g_48 7 = .inl (cA 7, 201, .inl (fun j => iI ((va_up (pt 2) L.length ds.2.2.1) j))) := (fr_50 7 (by omega)).trans ((fr_44 7 (by omega)).trans ((fr_38 7 (by omega)).trans f_31))
    have f_55 : g_48 8 = .inl (cA 8, 201, .inl (fun j => iI ((va_up (pt 3) L.length ((ds.2.2.2.1 : Nat) : Int)) j))) := (fr_50 8 (by omega)).trans ((fr_44 8 (by omega)).trans f_37)
    have f_56 : g_48 9 = .inl (cA 9, 201, .inl (fun j => iI ((va_up (pt 4) L.length ((ds.2.2.2.2.1 : Nat) : Int)) j))) := (fr_50 9 (by omega)).trans f_43
    obtain ⟨pq, hpq⟩ : ∃ z9 : Nat → Nat → Int, z9 = fun k => if k = 0 then va_up (pt 0) L.length ((ds.1 : Nat) : Int) else if k = 1 then va_up (pt 1) L.length ds.2.1 else if k = 2 then va_up (pt 2) L.length ds.2.2.1 else if k = 3 then va_up (pt 3) L.length ((ds.2.2.2.1 : Nat) : Int) else if k = 4 then va_up (pt 4) L.length ((ds.2.2.2.2.1 : Nat) : Int) else if k = 5 then va_up (pt 5) L.length ((ds.2.2.2.2.2.1 : Nat) : Int) else pt k := ⟨_, rfl⟩
    have q0 : pq 0 = va_up (pt 0) L.length ((ds.1 : Nat) : Int) := by rw [hpq]; rfl
    have q1 : pq 1 = va_up (pt 1) L.length ds.2.1 := by rw [hpq]; rfl
    have q2 : pq 2 = va_up (pt 2) L.length ds.2.2.1 := by rw [hpq]; rfl
    have q3 : pq 3 = va_up (pt 3) L.length ((ds.2.2.2.1 : Nat) : Int) := by rw [hpq]; rfl
    have q4 : pq 4 = va_up (pt 4) L.length ((ds.2.2.2.2.1 : Nat) : Int) := by rw [hpq]; rfl
    have q5 : pq 5 = va_up (pt 5) L.length ((ds.2.2.2.2.2.1 : Nat) : Int) := by rw [hpq]; rfl
    have hPq : PTF cA g_48 pq := ⟨by rw [q0]; exact f_52, by rw [q1]; exact f_53, by rw [q2]; exact f_54, by rw [q3]; exact f_55, by rw [q4]; exact f_56, by rw [q5]; exact f_49, fun k9 j9 => k_ptb hpq (b_21) (b_27) (b_33) (b_39) (b_45) (b_51) hpt_16 k9 j9⟩
    have hMq : MT L pq pf qf := hM.same (fun k9 i9 hi9 => k_pto hpq hi9) (fun _ _ => ⟨rfl, rfl⟩)
    have f_57 : g_48 0 = .inr (13, Rob ad x) := (fr_50 0 (by omega)).trans f_46
    have hFq : RF ad cA g_48 x pf qf := hF0.setx (fun (k : Nat) (hk : k = 1 ∨ k = 2 ∨ k = 3) => (fr_50 k (by omega)).trans ((fr_44 k (by omega)).trans ((fr_38 k (by omega)).trans ((fr_32 k (by omega)).trans ((fr_26 k (by omega)).trans ((fr_20 k (by omega)).trans (rfl))))))) f_57 rfl
    refine va_calli (va_runV (As := []) (rest := []) ⟨hx, hb, hml, hown, hts⟩ (c_X10_keep l dC dI A ad cA g_48 x pf qf pq L ds hFq hPq hMq hmd hL2 hft (by rw [q0]; exact va_up_self _ _ _) (by rw [q1]; exact va_up_self _ _ _) (by rw [q2]; exact va_up_self _ _ _) (by rw [q3]; exact va_up_self _ _ _) (by rw [q4]; exact va_up_self _ _ _) (by rw [q5]; exact va_up_self _ _ _) hdn) (cwV 0 hts (goodIn_app (goodIn_r [Cond.methodLink RX10 156 yX10_keep, Cond.instanceMethod yX10_keep, Cond.selects RX10 yX10_keep yX10_keep, Cond.initialized RX10] [9, 10, 11, 12] rfl rfl) (goodIn_sub (fun w9 h9 => bk1 w9 h9) gw_X10_keep)) rfl rfl rfl (by decide +kernel) ⟨Nat.le_of_ble_eq_true rfl, Nat.le_of_ble_eq_true rfl⟩) ⟨fun a U g mk q => ⟨q.1, q.2.1, q.2.2.1, LY.moved (u := U) (U := U.calling g mk a) (Vm.Alike.refl U.vm) q.2.2.2⟩, va_recv hK hP (ci := 13) (q0 := 0) rfl (wo_at (by decide) f_57), fun U hU hW => ⟨rfl, by rw [hU]; exact fun q h => hA q (Nat.le_trans hS.1 h), by rw [hU]; exact hP, LY.moved hW.alike hL⟩⟩ rfl rfl hl.1 rfl (lv_room (Nat.le_of_ble_eq_true rfl)) dX10_describe_73 ⟨(Nat.le_of_ble_eq_true rfl), (Nat.le_of_ble_eq_true rfl)⟩) hS (fun q _ h => h) (fun q h => h) (fun r_58 u8 t8 H1 locs ht8 hvm8 hw_59 hB hz1 hk1 hS => ?_)
    obtain ⟨g_60, x2_61, pt2_62, pf2_63, qf2_64⟩ := u8
    try dsimp only at hw_59 hB
    rw [ht8] at hB
    have hP := hB
    generalize H1 = H at hP hS ⊢
    obtain ⟨fr_65, hK⟩ := hw_59
    refine W.widen (k := 0) (n := 0) (by omega) (by omega) ?_
    exact W.iret (v := r_58) hx hb hr (fun t9 ht9 hW9 => ⟨⟨r_58, (g_60, x2_61, pt2_62, pf2_63, qf2_64), rfl, ⟨(fun (k : Nat) (hk : k ≠ 0 ∧ k ≠ 1 ∧ k ≠ 2 ∧ k ≠ 3 ∧ k ≠ 5 ∧ k ≠ 6 ∧ k ≠ 7 ∧ k ≠ 8 ∧ k ≠ 9 ∧ k ≠ 10) => (fr_65 k (by omega)).trans ((fr_50 k (by omega)).trans ((fr_44 k (by omega)).trans ((fr_38 k (by omega)).trans ((fr_32 k (by omega)).trans ((fr_26 k (by omega)).trans ((fr_20 k (by omega)).trans (rfl)))))))), by rw [onF_0]; exact hK⟩, by show va_P (dC, dI) vwCl _ t9.heap; rw [ht9]; exact hP⟩, hS.F ht9⟩) hS.2.2 dX10_describe_76
  · have c_17 := mt (k_iLE (a := 0) (b := ft) (show nI 0 = iI 0 from by decide) rfl (by omega) (by omega)).mpr c_17
    refine lv_iconst (v := -1) hx hb dX10_describe_7 (by decide +kernel) ?_
    refine W.widen (k := 0) (n := 0) (by omega) (by omega) ?_
    exact W.iret (v := -1) hx hb hr (fun t9 ht9 hW9 => ⟨⟨-1, (g, x, pt, pf, qf), rfl, ⟨(fun (k : Nat) (hk : k ≠ 0 ∧ k ≠ 1 ∧ k ≠ 2 ∧ k ≠ 3 ∧ k ≠ 5 ∧ k ≠ 6 ∧ k ≠ 7 ∧ k ≠ 8 ∧ k ≠ 9 ∧ k ≠ 10) => rfl), MKP.neg (onF_neg (by omega)) (by omega) hF0 hPt0 hM hL2 hmd hft⟩, by show va_P (dC, dI) vwCl _ t9.heap; rw [ht9]; exact hP⟩, hS.F ht9⟩) hS.2.2 dX10_describe_8
def wd_X10_makeVariable : List Cond := .code yX10_makeVariable cX10_makeVariable 2 (some .int) :: (([.methodLink RX10 160 yX10_describe, .instanceMethod yX10_describe, .selects RX10 yX10_describe yX10_describe, .initialized RX10] : List Cond) ++ (wd_X10_describe ++ ([])))
theorem gw_X10_makeVariable : wd_X10_makeVariable.all goodWord = true := k_allc rfl (k_all (by decide +kernel) (k_all (gw_X10_describe) (rfl)))
set_option maxHeartbeats 4000000 in
set_option maxRecDepth 100000 in
theorem c_X10_makeVariable (l : Launch) (dC : Nat → ClassId) (dI : Nat → Nat → Nat) (A : Nat → Prop) (ad : Nat → Nat) (cA : Nat → ClassId) (g : Nat → va_E) (x : Nat → Int32) (pf : Nat → Int) (qf : Nat → Nat) (pt : Nat → Nat → Int) (L : List PD) (v : Nat) (ft : Int) (hF : RF ad cA g x pf qf) (hPt : PTF cA g pt) (hM : MT L pt pf qf) (hmd : x 3 = nI L.length) (hL2 : L.length ≤ 200) (hft : x 4 = iI ft) (hfr : ft = 0 ∨ (ft < 0 ∧ -4 ≤ ft)) (hv : v ≤ 2) : Met l yX10_makeVariable wd_X10_makeVariable ({ frames := 70, cells := 0, slots := 0, locals := 1400 }) (va_Pc [.ref (ad 0), .int (nI v)] (PR NSr tyr dC dI A ad cA g)) (va_Qi (fun (r : Int32) => fun (u : (Nat → va_E) × (Nat → Int32) × (Nat → Nat → Int) × (Nat → Int) × (Nat → Nat)) => match u with | (g2, x2, pt2, pf2, qf2) => (∀ k, k ≠ 0 ∧ k ≠ 1 ∧ k ≠ 2 ∧ k ≠ 3 ∧ k ≠ 5 ∧ k ≠ 6 ∧ k ≠ 7 ∧ k ≠ 8 ∧ k ≠ 9 ∧ k ≠ 10 → g2 k = g k) ∧ MKP ad cA g2 x x2 pf qf (onF ft L (varL L v)) r pt2 pf2 qf2) (fun (u : (Nat → va_E) × (Nat → Int32) × (Nat → Nat → Int) × (Nat → Int) × (Nat → Nat)) (t : State) => va_P (dC, dI) vwCl (wo ad NSr u.1) t.heap) A) (0) (0) A := by
  refine Met.ofW (cc := cX10_makeVariable) (maxL := 2) (ret := (some .int)) (by decide) rfl ?_
  intro p e s m args below meth c s₁ B hml hv
  obtain ⟨rfl, hA, hP, hL⟩ := hv
  have hx := B.exec
  have hb := B.bytes
  have hr := B.returns
  have hts := atoms_spec (ws := wd_X10_makeVariable) B.pre
  have hown : s.vm.findClass RX10 = some m.cls := findClass_of_methodNamed B.named
  have hlocks := B.notSynchronized
  have hK := hL.1
  have hD : ∀ g, va_D A (wo ad NSr g) := fun g => wo_D hL.2.1 hL.2.2 g
  have hS : va_S A s.heap s.heap [] := va_S.rf
  have bk0 : ∀ w ∈ wd_X10_describe, w ∈ wd_X10_makeVariable := fun _ h => List.mem_cons_of_mem _ (List.mem_append_right _ (List.mem_append_left _ h))
  have hl := lv_entry ([.ref (ad 0), .int (nI v)]) (n := 2) (Nat.le_of_ble_eq_true rfl)
  rw [lg_entry_eq]
  generalize (lg_sl ([.ref (ad 0), .int (nI v)]) ++ List.replicate (2 - (lg_sl ([.ref (ad 0), .int (nI v)])).length) Slot.unset).toArray = ls at hl ⊢
  have hl : lv_has ls 2 [(0, .ref (ad 0)), (1, .int (nI v))] := hl
  have hF0 := hF
  obtain ⟨vf, hV, hq⟩ := hF
  have hc_1 := hV
  obtain ⟨pnz_2, lnz_2, bnz_2, hRz_2, hvz_2⟩ := hc_1
  obtain ⟨r_3, r_4, r_5, r_6, r_7, r_8, r_9⟩ := hRz_2
  obtain ⟨p_10, p_11, p_12, p_13, p_14, p_15, hpt_16⟩ := hPt
  have hPt0 : PTF cA g pt := ⟨p_10, p_11, p_12, p_13, p_14, p_15, hpt_16⟩
  refine lv_aload_n hx hb dX10_makeVariable_0 rfl (lv_at hl 0 rfl) ?_
  refine lv_iconst (v := nI 1) hx hb dX10_makeVariable_1 (by decide +kernel) ?_
  refine lv_iload_n hx hb dX10_makeVariable_2 rfl (lv_at hl 1 rfl) ?_
  refine lv_iconst (v := -1) hx hb dX10_makeVariable_3 (by decide +kernel) ?_
  refine lv_iconst (v := nI 1) hx hb dX10_makeVariable_4 (by decide +kernel) ?_
  refine lv_iconst (v := nI 1) hx hb dX10_makeVariable_5 (by decide +kernel) ?_
  refine lv_iconst (v := nI 0) hx hb dX10_makeVariable_6 (by decide +kernel) ?_
  refine va_calli (va_runV (As := [.int (nI 1), .int (nI v), .int (-1), .int (nI 1), .int (nI 1), .int (nI 0)]) (rest := []) ⟨hx, hb, hml, hown, hts⟩ (c_X10_describe l dC dI A ad cA g x pf qf pt L (1, ((v : Nat) : Int), -1, 1, 1, 0, 0, 1) (nI 1) (nI v) (-1) (nI 1) (nI 1) (nI 0) ft hF0 hPt0 hM hmd hL2 hft hfr ((show nI 1 = iI 1 from by decide).trans (congrArg iI (by rfl))) ((nI_iI v).trans (congrArg iI (by rfl))) ((show (-1 : Int32) = iI (-1) from by decide).trans (congrArg iI (by rfl))) ((show nI 1 = iI 1 from by decide).trans (congrArg iI (by rfl))) ((show nI 1 = iI 1 from by decide).trans (congrArg iI (by rfl))) ((show nI 0 = iI 0 from by decide).trans (congrArg iI (by rfl))) (fun h9 => absurd h9 (by decide)) (by show 1 ≤ 20000 ∧ -1 ≤ ((v : Nat) : Int) ∧ ((v : Nat) : Int) ≤ 20000 ∧ (-1 : Int) ≤ -1 ∧ (-1 : Int) ≤ 20000 ∧ 1 ≤ 20000 ∧ 1 ≤ 20000 ∧ 0 ≤ 20000; omega)) (cwV 6 hts (goodIn_app (goodIn_r [Cond.methodLink RX10 160 yX10_describe, Cond.instanceMethod yX10_describe, Cond.selects RX10 yX10_describe yX10_describe, Cond.initialized RX10] [1, 2, 3, 4] rfl rfl) (goodIn_sub (fun w9 h9 => bk0 w9 h9) gw_X10_describe)) rfl rfl rfl (by decide +kernel) ⟨Nat.le_of_ble_eq_true rfl, Nat.le_of_ble_eq_true rfl⟩) ⟨fun a U g mk q => ⟨q.1, q.2.1, q.2.2.1, LY.moved (u := U) (U := U.calling g mk a) (Vm.Alike.refl U.vm) q.2.2.2⟩, va_recv hK hP (ci := 13) (q0 := 0) rfl (wo_at (by decide) r_3), fun U hU hW => ⟨rfl, by rw [hU]; exact fun q h => hA q (Nat.le_trans hS.1 h), by rw [hU]; exact hP, LY.moved hW.alike hL⟩⟩ rfl rfl hl.1 rfl (lv_room (Nat.le_of_ble_eq_true rfl)) dX10_makeVariable_7 ⟨(Nat.le_of_ble_eq_true rfl), (Nat.le_of_ble_eq_true rfl)⟩) hS (fun q _ h => h) (fun q h => h) (fun r_17 u8 t8 H1 locs ht8 hvm8 hw_18 hB hz1 hk1 hS => ?_)
  obtain ⟨g_19, x2_20, pt2_21, pf2_22, qf2_23⟩ := u8
  try dsimp only at hw_18 hB
  rw [ht8] at hB
  have hP := hB
  generalize H1 = H at hP hS ⊢
  obtain ⟨fr_24, hK⟩ := hw_18
  refine W.widen (k := 0) (n := 0) (by omega) (by omega) ?_
  exact W.iret (v := r_17) hx hb hr (fun t9 ht9 hW9 => ⟨⟨r_17, (g_19, x2_20, pt2_21, pf2_22, qf2_23), rfl, ⟨(fun (k : Nat) (hk : k ≠ 0 ∧ k ≠ 1 ∧ k ≠ 2 ∧ k ≠ 3 ∧ k ≠ 5 ∧ k ≠ 6 ∧ k ≠ 7 ∧ k ≠ 8 ∧ k ≠ 9 ∧ k ≠ 10) => (fr_24 k (by omega)).trans (rfl)), hK⟩, by show va_P (dC, dI) vwCl _ t9.heap; rw [ht9]; exact hP⟩, hS.F ht9⟩) hS.2.2 dX10_makeVariable_10
