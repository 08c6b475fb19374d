section
def wd_X10_describe : List Cond := .code yX10_describe cX10_describe 7 (some .int) :: (([.fieldLink RX10 146 "GradientDeskModel" "fault" "I", .fieldLink RX10 29 "GradientDeskModel" "sort" "[I", .fieldLink RX10 149 "GradientDeskModel" "made" "I", .fieldLink RX10 32 "GradientDeskModel" "first" "[I", .fieldLink RX10 35 "GradientDeskModel" "second" "[I", .fieldLink RX10 38 "GradientDeskModel" "degree" "[I", .fieldLink RX10 41 "GradientDeskModel" "sizeN" "[I", .fieldLink RX10 44 "GradientDeskModel" "sizeD" "[I", .methodLink RX10 156 yX10_keep, .instanceMethod yX10_keep, .selects RX10 yX10_keep yX10_keep, .initialized RX10] : List Cond) ++ (u_ws RX10 TX10 29 ++ (wd_X10_keep ++ ([]))))
theorem gw_X10_describe : wd_X10_describe.all goodWord = true := k_allc rfl (k_all (by decide +kernel) (k_all (gu_X10) (k_all (gw_X10_keep) (rfl))))
set_option maxHeartbeats 4000000 in
set_option maxRecDepth 100000 in
theorem c_X10_describe (l : Launch) (dC : Nat → ClassId) (dI : Nat → Nat → Nat) (A : Nat → Prop) (ad : Nat → Nat) (cA : Nat → ClassId) (g : Nat → va_E) (x : Nat → Int32) (pf : Nat → Int) (qf : Nat → Nat) (pt : Nat → Nat → Int) (L : List PD) (ds : PD) (v1 : Int32) (v2 : Int32) (v3 : Int32) (v4 : Int32) (v5 : Int32) (v6 : Int32) (ft : Int) (hF : RF ad cA g x pf qf) (hPt : PTF cA g pt) (hM : MT L pt pf qf) (hmd : x 3 = nI L.length) (hL2 : L.length ≤ 200) (hft : x 4 = iI ft) (hfr : ft = 0 ∨ (ft < 0 ∧ -4 ≤ ft)) (hv1 : v1 = iI (((ds.1 : Nat) : Int))) (hv2 : v2 = iI (ds.2.1)) (hv3 : v3 = iI (ds.2.2.1)) (hv4 : v4 = iI (((ds.2.2.2.1 : Nat) : Int))) (hv5 : v5 = iI (((ds.2.2.2.2.1 : Nat) : Int))) (hv6 : v6 = iI (((ds.2.2.2.2.2.1 : Nat) : Int))) (hdn : ds.1 = 0 → pf 1011 = ds.2.2.2.2.2.2.1 ∧ qf 1011 = ds.2.2.2.2.2.2.2) (hbd : ds.1 ≤ 20000 ∧ -1 ≤ ds.2.1 ∧ ds.2.1 ≤ 20000 ∧ -1 ≤ ds.2.2.1 ∧ ds.2.2.1 ≤ 20000 ∧ ds.2.2.2.1 ≤ 20000 ∧ ds.2.2.2.2.1 ≤ 20000 ∧ ds.2.2.2.2.2.1 ≤ 20000) : Met l yX10_describe wd_X10_describe ({ frames := 60, cells := 0, slots := 0, locals := 1200 }) (va_Pc [.ref (ad 0), .int v1, .int v2, .int v3, .int v4, .int v5, .int v6] (PR NSr tyr dC dI A ad cA g)) (va_Qi (fun (r : Int32) => fun (u : (Nat → va_E) × (Nat → Int32) × (Nat → Nat → Int) × (Nat → Int) × (Nat → Nat)) => match u with | (g2, x2, pt2, pf2, qf2) => (∀ k, k ≠ 0 ∧ k ≠ 1 ∧ k ≠ 2 ∧ k ≠ 3 ∧ k ≠ 5 ∧ k ≠ 6 ∧ k ≠ 7 ∧ k ≠ 8 ∧ k ≠ 9 ∧ k ≠ 10 → g2 k = g k) ∧ MKP ad cA g2 x x2 pf qf (onF ft L (keepL L ds)) r pt2 pf2 qf2) (fun (u : (Nat → va_E) × (Nat → Int32) × (Nat → Nat → Int) × (Nat → Int) × (Nat → Nat)) (t : State) => va_P (dC, dI) vwCl (wo ad NSr u.1) t.heap) A) (0) (0) A := by
  refine Met.ofW (cc := cX10_describe) (maxL := 7) (ret := (some .int)) (by decide) rfl ?_
  intro p e s m args below meth c s₁ B hml hv
  obtain ⟨rfl, hA, hP, hL⟩ := hv
  have hx := B.exec
  have hb := B.bytes
  have hr := B.returns
  have hts := atoms_spec (ws := wd_X10_describe) B.pre
  have hown : s.vm.findClass RX10 = some m.cls := findClass_of_methodNamed B.named
  have hlocks := B.notSynchronized
  have hK := hL.1
  have hD : ∀ g, va_D A (wo ad NSr g) := fun g => wo_D hL.2.1 hL.2.2 g
  have hS : va_S A s.heap s.heap [] := va_S.rf
  have bk0 : ∀ w ∈ u_ws RX10 TX10 29, w ∈ wd_X10_describe := fun _ h => List.mem_cons_of_mem _ (List.mem_append_right _ (List.mem_append_left _ h))
  have bk1 : ∀ w ∈ wd_X10_keep, w ∈ wd_X10_describe := fun _ h => List.mem_cons_of_mem _ (List.mem_append_right _ (List.mem_append_right _ (List.mem_append_left _ h)))
  have hl := lv_entry ([.ref (ad 0), .int v1, .int v2, .int v3, .int v4, .int v5, .int v6]) (n := 7) (Nat.le_of_ble_eq_true rfl)
  rw [lg_entry_eq]
  generalize (lg_sl ([.ref (ad 0), .int v1, .int v2, .int v3, .int v4, .int v5, .int v6]) ++ List.replicate (7 - (lg_sl ([.ref (ad 0), .int v1, .int v2, .int v3, .int v4, .int v5, .int v6])).length) Slot.unset).toArray = ls at hl ⊢
  have hl : lv_has ls 7 [(0, .ref (ad 0)), (1, .int v1), (2, .int v2), (3, .int v3), (4, .int v4), (5, .int v5), (6, .int v6)] := hl
  have hF0 := hF
  obtain ⟨vf, hV, hq⟩ := hF
  have hc_1 := hV
  obtain ⟨pnz_2, lnz_2, bnz_2, hRz_2, hvz_2⟩ := hc_1
  obtain ⟨r_3, r_4, r_5, r_6, r_7, r_8, r_9⟩ := hRz_2
  obtain ⟨p_10, p_11, p_12, p_13, p_14, p_15, hpt_16⟩ := hPt
  have hPt0 : PTF cA g pt := ⟨p_10, p_11, p_12, p_13, p_14, p_15, hpt_16⟩
  refine lv_aload_n hx hb dX10_describe_0 rfl (lv_at hl 0 rfl) ?_
  refine m_get (D := (dC, dI)) (v := .int (iI ft)) (C := RX10) (T := TX10) (N := 29) hx hb hts bk0 hown hK hP 0 (by decide) r_3 rfl 14 (by decide) (hts (.fieldLink RX10 146 "GradientDeskModel" "fault" "I") (List.mem_of_getElem? (i := 1) rfl)) (fun _ h9 => h9) (congrArg (fun z => some (Value.int z)) hft) dX10_describe_1 ?_
  refine lv_if_ge (tgt := 9) hx hb dX10_describe_4 (by decide) (fun c_17 => ?_) (fun c_17 => ?_)
  · have c_17 := (k_iLE (a := 0) (b := ft) (show nI 0 = iI 0 from by decide) rfl (by omega) (by omega)).mp c_17
    obtain rfl : ft = 0 := by omega
    refine lv_aload_n hx hb dX10_describe_9 rfl (lv_at hl 0 rfl) ?_
    refine m_get (D := (dC, dI)) (v := .ref (ad 5)) (C := RX10) (T := TX10) (N := 29) hx hb hts bk0 hown hK hP 0 (by decide) r_3 rfl 7 (by decide) (hts (.fieldLink RX10 29 "GradientDeskModel" "sort" "[I") (List.mem_of_getElem? (i := 2) rfl)) (fun _ h9 => h9) rfl dX10_describe_10 ?_
    refine lv_aload_n hx hb dX10_describe_13 rfl (lv_at hl 0 rfl) ?_
    refine m_get (D := (dC, dI)) (v := .int (nI L.length)) (C := RX10) (T := TX10) (N := 29) hx hb hts bk0 hown hK hP 0 (by decide) r_3 rfl 13 (by decide) (hts (.fieldLink RX10 149 "GradientDeskModel" "made" "I") (List.mem_of_getElem? (i := 3) rfl)) (fun _ h9 => h9) (congrArg (fun z => some (Value.int z)) hmd) dX10_describe_14 ?_
    refine lv_iload_n hx hb dX10_describe_17 rfl (lv_at hl 1 rfl) ?_
    refine m_iast hx hb hK hP hD hS 5 (by decide) rfl p_10 (i := L.length) (x := v1) (by omega) (by decide) dX10_describe_18 (fun H locs g_18 f_19 fr_20 hP hS => ?_)
    rw [hv1, k_updZ] at f_19
    have b_21 : ∀ j, -1 ≤ (va_up (pt 0) L.length ((ds.1 : Nat) : Int)) j ∧ (va_up (pt 0) L.length ((ds.1 : Nat) : Int)) j ≤ 20000 := k_up_in (hpt_16 0) (by omega)
    have f_19 : g_18 5 = .inl (cA 5, 201, .inl (fun j => iI ((va_up (pt 0) L.length ((ds.1 : Nat) : Int)) j))) := f_19
    refine lv_aload_n hx hb dX10_describe_19 rfl (lv_at hl 0 rfl) ?_
    have f_22 : g_18 0 = .inr (13, Rob ad x) := (fr_20 0 (by omega)).trans r_3
    refine m_get (D := (dC, dI)) (v := .ref (ad 6)) (C := RX10) (T := TX10) (N := 29) hx hb hts bk0 hown hK hP 0 (by decide) f_22 rfl 8 (by decide) (hts (.fieldLink RX10 32 "GradientDeskModel" "first" "[I") (List.mem_of_getElem? (i := 4) rfl)) (fun _ h9 => h9) rfl dX10_describe_20 ?_
    refine lv_aload_n hx hb dX10_describe_23 rfl (lv_at hl 0 rfl) ?_
    refine m_get (D := (dC, dI)) (v := .int (nI L.length)) (C := RX10) (T := TX10) (N := 29) hx hb hts bk0 hown hK hP 0 (by decide) f_22 rfl 13 (by decide) (hts (.fieldLink RX10 149 "GradientDeskModel" "made" "I") (List.mem_of_getElem? (i := 3) rfl)) (fun _ h9 => h9) (congrArg (fun z => some (Value.int z)) hmd) dX10_describe_24 ?_
    refine lv_iload_n hx hb dX10_describe_27 rfl (lv_at hl 2 rfl) ?_
    have f_23 : g_18 6 = .inl (cA 6, 201, .inl (fun j => iI ((pt 1) j))) := (fr_20 6 (by omega)).trans p_11
    refine m_iast hx hb hK hP hD hS 6 (by decide) rfl f_23 (i := L.length) (x := v2) (by omega) (by decide) dX10_describe_28 (fun H locs g_24 f_25 fr_26 hP hS => ?_)
    rw [hv2, k_updZ] at f_25
    have b_27 : ∀ j, -1 ≤ (va_up (pt 1) L.length ds.2.1) j ∧ (va_up (pt 1) L.length ds.2.1) j ≤ 20000 := k_up_in (hpt_16 1) (by omega)
    have f_25 : g_24 6 = .inl (cA 6, 201, .inl (fun j => iI ((va_up (pt 1) L.length ds.2.1) j))) := f_25
    refine lv_aload_n hx hb dX10_describe_29 rfl (lv_at hl 0 rfl) ?_
    have f_28 : g_24 0 = .inr (13, Rob ad x) := (fr_26 0 (by omega)).trans f_22
    refine m_get (D := (dC, dI)) (v := .ref (ad 7)) (C := RX10) (T := TX10) (N := 29) hx hb hts bk0 hown hK hP 0 (by decide) f_28 rfl 9 (by decide) (hts (.fieldLink RX10 35 "GradientDeskModel" "second" "[I") (List.mem_of_getElem? (i := 5) rfl)) (fun _ h9 => h9) rfl dX10_describe_30 ?_
    refine lv_aload_n hx hb dX10_describe_33 rfl (lv_at hl 0 rfl) ?_
    refine m_get (D := (dC, dI)) (v := .int (nI L.length)) (C := RX10) (T := TX10) (N := 29) hx hb hts bk0 hown hK hP 0 (by decide) f_28 rfl 13 (by decide) (hts (.fieldLink RX10 149 "GradientDeskModel" "made" "I") (List.mem_of_getElem? (i := 3) rfl)) (fun _ h9 => h9) (congrArg (fun z => some (Value.int z)) hmd) dX10_describe_34 ?_
    refine lv_iload_n hx hb dX10_describe_37 rfl (lv_at hl 3 rfl) ?_
    have f_29 : g_24 7 = .inl (cA 7, 201, .inl (fun j => iI ((pt 2) j))) := (fr_26 7 (by omega)).trans ((fr_20 7 (by omega)).trans p_12)
    refine m_iast hx hb hK hP hD hS 7 (by decide) rfl f_29 (i := L.length) (x := v3) (by omega) (by decide) dX10_describe_38 (fun H locs g_30 f_31 fr_32 hP hS => ?_)
    rw [hv3, k_updZ] at f_31
    have b_33 : ∀ j, -1 ≤ (va_up (pt 2) L.length ds.2.2.1) j ∧ (va_up (pt 2) L.length ds.2.2.1) j ≤ 20000 := k_up_in (hpt_16 2) (by omega)
    have f_31 : g_30 7 = .inl (cA 7, 201, .inl (fun j => iI ((va_up (pt 2) L.length ds.2.2.1) j))) := f_31
    refine lv_aload_n hx hb dX10_describe_39 rfl (lv_at hl 0 rfl) ?_
    have f_34 : g_30 0 = .inr (13, Rob ad x) := (fr_32 0 (by omega)).trans f_28
    refine m_get (D := (dC, dI)) (v := .ref (ad 8)) (C := RX10) (T := TX10) (N := 29) hx hb hts bk0 hown hK hP 0 (by decide) f_34 rfl 10 (by decide) (hts (.fieldLink RX10 38 "GradientDeskModel" "degree" "[I") (List.mem_of_getElem? (i := 6) rfl)) (fun _ h9 => h9) rfl dX10_describe_40 ?_
    refine lv_aload_n hx hb dX10_describe_43 rfl (lv_at hl 0 rfl) ?_
    refine m_get (D := (dC, dI)) (v := .int (nI L.length)) (C := RX10) (T := TX10) (N := 29) hx hb hts bk0 hown hK hP 0 (by decide) f_34 rfl 13 (by decide) (hts (.fieldLink RX10 149 "GradientDeskModel" "made" "I") (List.mem_of_getElem? (i := 3) rfl)) (fun _ h9 => h9) (congrArg (fun z => some (Value.int z)) hmd) dX10_describe_44 ?_
    refine lv_iload hx hb dX10_describe_47 (lv_at hl 4 rfl) ?_
    have f_35 : g_30 8 = .inl (cA 8, 201, .inl (fun j => iI ((pt 3) j))) := (fr_32 8 (by omega)).trans ((fr_26 8 (by omega)).trans ((fr_20 8 (by omega)).trans p_13))
    refine m_iast hx hb hK hP hD hS 8 (by decide) rfl f_35 (i := L.length) (x := v4) (by omega) (by decide) dX10_describe_49 (fun H locs g_36 f_37 fr_38 hP hS => ?_)
    rw [hv4, k_updZ] at f_37
    have b_39 : ∀ j, -1 ≤ (va_up (pt 3) L.length ((ds.2.2.2.1 : Nat) : Int)) j ∧ (va_up (pt 3) L.length ((ds.2.2.2.1 : Nat) : Int)) j ≤ 20000 := k_up_in (hpt_16 3) (by omega)
    have f_37 : g_36 8 = .inl (cA 8, 201, .inl (fun j => iI ((va_up (pt 3) L.length ((ds.2.2.2.1 : Nat) : Int)) j))) := f_37
    refine lv_aload_n hx hb dX10_describe_50 rfl (lv_at hl 0 rfl) ?_
    have f_40 : g_36 0 = .inr (13, Rob ad x) := (fr_38 0 (by omega)).trans f_34
    refine m_get (D := (dC, dI)) (v := .ref (ad 9)) (C := RX10) (T := TX10) (N := 29) hx hb hts bk0 hown hK hP 0 (by decide) f_40 rfl 11 (by decide) (hts (.fieldLink RX10 41 "GradientDeskModel" "sizeN" "[I") (List.mem_of_getElem? (i := 7) rfl)) (fun _ h9 => h9) rfl dX10_describe_51 ?_
    refine lv_aload_n hx hb dX10_describe_54 rfl (lv_at hl 0 rfl) ?_
    refine m_get (D := (dC, dI)) (v := .int (nI L.length)) (C := RX10) (T := TX10) (N := 29) hx hb hts bk0 hown hK hP 0 (by decide) f_40 rfl 13 (by decide) (hts (.fieldLink RX10 149 "GradientDeskModel" "made" "I") (List.mem_of_getElem? (i := 3) rfl)) (fun _ h9 => h9) (congrArg (fun z => some (Value.int z)) hmd) dX10_describe_55 ?_
    refine lv_iload hx hb dX10_describe_58 (lv_at hl 5 rfl) ?_
    have f_41 : g_36 9 = .inl (cA 9, 201, .inl (fun j => iI ((pt 4) j))) := (fr_38 9 (by omega)).trans ((fr_32 9 (by omega)).trans ((fr_26 9 (by omega)).trans ((fr_20 9 (by omega)).trans p_14)))
    refine m_iast hx hb hK hP hD hS 9 (by decide) rfl f_41 (i := L.length) (x := v5) (by omega) (by decide) dX10_describe_60 (fun H locs g_42 f_43 fr_44 hP hS => ?_)
    rw [hv5, k_updZ] at f_43
    have b_45 : ∀ j, -1 ≤ (va_up (pt 4) L.length ((ds.2.2.2.2.1 : Nat) : Int)) j ∧ (va_up (pt 4) L.length ((ds.2.2.2.2.1 : Nat) : Int)) j ≤ 20000 := k_up_in (hpt_16 4) (by omega)
    have f_43 : g_42 9 = .inl (cA 9, 201, .inl (fun j => iI ((va_up (pt 4) L.length ((ds.2.2.2.2.1 : Nat) : Int)) j))) := f_43
    refine lv_aload_n hx hb dX10_describe_61 rfl (lv_at hl 0 rfl) ?_
    have f_46 : g_42 0 = .inr (13, Rob ad x) := (fr_44 0 (by omega)).trans f_40
    refine m_get (D := (dC, dI)) (v := .ref (ad 10)) (C := RX10) (T := TX10) (N := 29) hx hb hts bk0 hown hK hP 0 (by decide) f_46 rfl 12 (by decide) (hts (.fieldLink RX10 44 "GradientDeskModel" "sizeD" "[I") (List.mem_of_getElem? (i := 8) rfl)) (fun _ h9 => h9) rfl dX10_describe_62 ?_
    refine lv_aload_n hx hb dX10_describe_65 rfl (lv_at hl 0 rfl) ?_
    refine m_get (D := (dC, dI)) (v := .int (nI L.length)) (C := RX10) (T := TX10) (N := 29) hx hb hts bk0 hown hK hP 0 (by decide) f_46 rfl 13 (by decide) (hts (.fieldLink RX10 149 "GradientDeskModel" "made" "I") (List.mem_of_getElem? (i := 3) rfl)) (fun _ h9 => h9) (congrArg (fun z => some (Value.int z)) hmd) dX10_describe_66 ?_
    refine lv_iload hx hb dX10_describe_69 (lv_at hl 6 rfl) ?_
    have f_47 : g_42 10 = .inl (cA 10, 201, .inl (fun j => iI ((pt 5) j))) := (fr_44 10 (by omega)).trans ((fr_38 10 (by omega)).trans ((fr_32 10 (by omega)).trans ((fr_26 10 (by omega)).trans ((fr_20 10 (by omega)).trans p_15))))
    refine m_iast hx hb hK hP hD hS 10 (by decide) rfl f_47 (i := L.length) (x := v6) (by omega) (by decide) dX10_describe_71 (fun H locs g_48 f_49 fr_50 hP hS => ?_)
    rw [hv6, k_updZ] at f_49
    have b_51 : ∀ j, -1 ≤ (va_up (pt 5) L.length ((ds.2.2.2.2.2.1 : Nat) : Int)) j ∧ (va_up (pt 5) L.length ((ds.2.2.2.2.2.1 : Nat) : Int)) j ≤ 20000 := k_up_in (hpt_16 5) (by omega)
    have f_49 : g_48 10 = .inl (cA 10, 201, .inl (fun j => iI ((va_up (pt 5) L.length ((ds.2.2.2.2.2.1 : Nat) : Int)) j))) := f_49
    refine lv_aload_n hx hb dX10_describe_72 rfl (lv_at hl 0 rfl) ?_
    have f_52 : g_48 5 = .inl (cA 5, 201, .inl (fun j => iI ((va_up (pt 0) L.length ((ds.1 : Nat) : Int)) j))) := (fr_50 5 (by omega)).trans ((fr_44 5 (by omega)).trans ((fr_38 5 (by omega)).trans ((fr_32 5 (by omega)).trans ((fr_26 5 (by omega)).trans f_19))))
    have f_53 : g_48 6 = .inl (cA 6, 201, .inl (fun j => iI ((va_up (pt 1) L.length ds.2.1) j))) := (fr_50 6 (by omega)).trans ((fr_44 6 (by omega)).trans ((fr_38 6 (by omega)).trans ((fr_32 6 (by omega)).trans f_25)))
    have f_54 : g_48 7 = .inl (cA 7, 201, .inl (fun j => iI ((va_up (pt 2) L.length ds.2.2.1) j))) := (fr_50 7 (by omega)).trans ((fr_44 7 (by omega)).trans ((fr_38 7 (by omega)).trans f_31))
    have f_55 : g_48 8 = .inl (cA 8, 201, .inl (fun j => iI ((va_up (pt 3) L.length ((ds.2.2.2.1 : Nat) : Int)) j))) := (fr_50 8 (by omega)).trans ((fr_44 8 (by omega)).trans f_37)
    have f_56 : g_48 9 = .inl (cA 9, 201, .inl (fun j => iI ((va_up (pt 4) L.length ((ds.2.2.2.2.1 : Nat) : Int)) j))) := (fr_50 9 (by omega)).trans f_43
    obtain ⟨pq, hpq⟩ : ∃ z9 : Nat → Nat → Int, z9 = fun k => if k = 0 then va_up (pt 0) L.length ((ds.1 : Nat) : Int) else if k = 1 then va_up (pt 1) L.length ds.2.1 else if k = 2 then va_up (pt 2) L.length ds.2.2.1 else if k = 3 then va_up (pt 3) L.length ((ds.2.2.2.1 : Nat) : Int) else if k = 4 then va_up (pt 4) L.length ((ds.2.2.2.2.1 : Nat) : Int) else if k = 5 then va_up (pt 5) L.length ((ds.2.2.2.2.2.1 : Nat) : Int) else pt k := ⟨_, rfl⟩
    have q0 : pq 0 = va_up (pt 0) L.length ((ds.1 : Nat) : Int) := by rw [hpq]; rfl
    have q1 : pq 1 = va_up (pt 1) L.length ds.2.1 := by rw [hpq]; rfl
    have q2 : pq 2 = va_up (pt 2) L.length ds.2.2.1 := by rw [hpq]; rfl
    have q3 : pq 3 = va_up (pt 3) L.length ((ds.2.2.2.1 : Nat) : Int) := by rw [hpq]; rfl
    have q4 : pq 4 = va_up (pt 4) L.length ((ds.2.2.2.2.1 : Nat) : Int) := by rw [hpq]; rfl
    have q5 : pq 5 = va_up (pt 5) L.length ((ds.2.2.2.2.2.1 : Nat) : Int) := by rw [hpq]; rfl
    have hPq : PTF cA g_48 pq := ⟨by rw [q0]; exact f_52, by rw [q1]; exact f_53, by rw [q2]; exact f_54, by rw [q3]; exact f_55, by rw [q4]; exact f_56, by rw [q5]; exact f_49, fun k9 j9 => k_ptb hpq (b_21) (b_27) (b_33) (b_39) (b_45) (b_51) hpt_16 k9 j9⟩
    have hMq : MT L pq pf qf := hM.same (fun k9 i9 hi9 => k_pto hpq hi9) (fun _ _ => ⟨rfl, rfl⟩)
    have f_57 : g_48 0 = .inr (13, Rob ad x) := (fr_50 0 (by omega)).trans f_46
    have hFq : RF ad cA g_48 x pf qf := hF0.setx (fun (k : Nat) (hk : k = 1 ∨ k = 2 ∨ k = 3) => (fr_50 k (by omega)).trans ((fr_44 k (by omega)).trans ((fr_38 k (by omega)).trans ((fr_32 k (by omega)).trans ((fr_26 k (by omega)).trans ((fr_20 k (by omega)).trans (rfl))))))) f_57 rfl
    refine va_calli (va_runV (As := []) (rest := []) ⟨hx, hb, hml, hown, hts⟩ (c_X10_keep l dC dI A ad cA g_48 x pf qf pq L ds hFq hPq hMq hmd hL2 hft (by rw [q0]; exact va_up_self _ _ _) (by rw [q1]; exact va_up_self _ _ _) (by rw [q2]; exact va_up_self _ _ _) (by rw [q3]; exact va_up_self _ _ _) (by rw [q4]; exact va_up_self _ _ _) (by rw [q5]; exact va_up_self _ _ _) hdn) (cwV 0 hts (goodIn_app (goodIn_r [Cond.methodLink RX10 156 yX10_keep, Cond.instanceMethod yX10_keep, Cond.selects RX10 yX10_keep yX10_keep, Cond.initialized RX10] [9, 10, 11, 12] rfl rfl) (goodIn_sub (fun w9 h9 => bk1 w9 h9) gw_X10_keep)) rfl rfl rfl (by decide +kernel) ⟨Nat.le_of_ble_eq_true rfl, Nat.le_of_ble_eq_true rfl⟩) ⟨fun a U g mk q => ⟨q.1, q.2.1, q.2.2.1, LY.moved (u := U) (U := U.calling g mk a) (Vm.Alike.refl U.vm) q.2.2.2⟩, va_recv hK hP (ci := 13) (q0 := 0) rfl (wo_at (by decide) f_57), fun U hU hW => ⟨rfl, by rw [hU]; exact fun q h => hA q (Nat.le_trans hS.1 h), by rw [hU]; exact hP, LY.moved hW.alike hL⟩⟩ rfl rfl hl.1 rfl (lv_room (Nat.le_of_ble_eq_true rfl)) dX10_describe_73 ⟨(Nat.le_of_ble_eq_true rfl), (Nat.le_of_ble_eq_true rfl)⟩) hS (fun q _ h => h) (fun q h => h) (fun r_58 u8 t8 H1 locs ht8 hvm8 hw_59 hB hz1 hk1 hS => ?_)
    obtain ⟨g_60, x2_61, pt2_62, pf2_63, qf2_64⟩ := u8
    try dsimp only at hw_59 hB
    rw [ht8] at hB
    have hP := hB
    generalize H1 = H at hP hS ⊢
    obtain ⟨fr_65, hK⟩ := hw_59
    refine W.widen (k := 0) (n := 0) (by omega) (by omega) ?_
    exact W.iret (v := r_58) hx hb hr (fun t9 ht9 hW9 => ⟨⟨r_58, (g_60, x2_61, pt2_62, pf2_63, qf2_64), rfl, ⟨(fun (k : Nat) (hk : k ≠ 0 ∧ k ≠ 1 ∧ k ≠ 2 ∧ k ≠ 3 ∧ k ≠ 5 ∧ k ≠ 6 ∧ k ≠ 7 ∧ k ≠ 8 ∧ k ≠ 9 ∧ k ≠ 10) => (fr_65 k (by omega)).trans ((fr_50 k (by omega)).trans ((fr_44 k (by omega)).trans ((fr_38 k (by omega)).trans ((fr_32 k (by omega)).trans ((fr_26 k (by omega)).trans ((fr_20 k (by omega)).trans (rfl)))))))), by rw [onF_0]; exact hK⟩, by show va_P (dC, dI) vwCl _ t9.heap; rw [ht9]; exact hP⟩, hS.F ht9⟩) hS.2.2 dX10_describe_76
  · have c_17 := mt (k_iLE (a := 0) (b := ft) (show nI 0 = iI 0 from by decide) rfl (by omega) (by omega)).mpr c_17
    refine lv_iconst (v := -1) hx hb dX10_describe_7 (by decide +kernel) ?_
    refine W.widen (k := 0) (n := 0) (by omega) (by omega) ?_
    exact W.iret (v := -1) hx hb hr (fun t9 ht9 hW9 => ⟨⟨-1, (g, x, pt, pf, qf), rfl, ⟨(fun (k : Nat) (hk : k ≠ 0 ∧ k ≠ 1 ∧ k ≠ 2 ∧ k ≠ 3 ∧ k ≠ 5 ∧ k ≠ 6 ∧ k ≠ 7 ∧ k ≠ 8 ∧ k ≠ 9 ∧ k ≠ 10) => rfl), MKP.neg (onF_neg (by omega)) (by omega) hF0 hPt0 hM hL2 hmd hft⟩, by show va_P (dC, dI) vwCl _ t9.heap; rw [ht9]; exact hP⟩, hS.F ht9⟩) hS.2.2 dX10_describe_8
def wd_X10_makeVariable : List Cond := .code yX10_makeVariable cX10_makeVariable 2 (some .int) :: (([.methodLink RX10 160 yX10_describe, .instanceMethod yX10_describe, .selects RX10 yX10_describe yX10_describe, .initialized RX10] : List Cond) ++ (wd_X10_describe ++ ([])))
theorem gw_X10_makeVariable : wd_X10_makeVariable.all goodWord = true := k_allc rfl (k_all (by decide +kernel) (k_all (gw_X10_describe) (rfl)))
set_option maxHeartbeats 4000000 in
set_option maxRecDepth 100000 in
theorem c_X10_makeVariable (l : Launch) (dC : Nat → ClassId) (dI : Nat → Nat → Nat) (A : Nat → Prop) (ad : Nat → Nat) (cA : Nat → ClassId) (g : Nat → va_E) (x : Nat → Int32) (pf : Nat → Int) (qf : Nat → Nat) (pt : Nat → Nat → Int) (L : List PD) (v : Nat) (ft : Int) (hF : RF ad cA g x pf qf) (hPt : PTF cA g pt) (hM : MT L pt pf qf) (hmd : x 3 = nI L.length) (hL2 : L.length ≤ 200) (hft : x 4 = iI ft) (hfr : ft = 0 ∨ (ft < 0 ∧ -4 ≤ ft)) (hv : v ≤ 2) : Met l yX10_makeVariable wd_X10_makeVariable ({ frames := 70, cells := 0, slots := 0, locals := 1400 }) (va_Pc [.ref (ad 0), .int (nI v)] (PR NSr tyr dC dI A ad cA g)) (va_Qi (fun (r : Int32) => fun (u : (Nat → va_E) × (Nat → Int32) × (Nat → Nat → Int) × (Nat → Int) × (Nat → Nat)) => match u with | (g2, x2, pt2, pf2, qf2) => (∀ k, k ≠ 0 ∧ k ≠ 1 ∧ k ≠ 2 ∧ k ≠ 3 ∧ k ≠ 5 ∧ k ≠ 6 ∧ k ≠ 7 ∧ k ≠ 8 ∧ k ≠ 9 ∧ k ≠ 10 → g2 k = g k) ∧ MKP ad cA g2 x x2 pf qf (onF ft L (varL L v)) r pt2 pf2 qf2) (fun (u : (Nat → va_E) × (Nat → Int32) × (Nat → Nat → Int) × (Nat → Int) × (Nat → Nat)) (t : State) => va_P (dC, dI) vwCl (wo ad NSr u.1) t.heap) A) (0) (0) A := by
  refine Met.ofW (cc := cX10_makeVariable) (maxL := 2) (ret := (some .int)) (by decide) rfl ?_
  intro p e s m args below meth c s₁ B hml hv
  obtain ⟨rfl, hA, hP, hL⟩ := hv
  have hx := B.exec
  have hb := B.bytes
  have hr := B.returns
  have hts := atoms_spec (ws := wd_X10_makeVariable) B.pre
  have hown : s.vm.findClass RX10 = some m.cls := findClass_of_methodNamed B.named
  have hlocks := B.notSynchronized
  have hK := hL.1
  have hD : ∀ g, va_D A (wo ad NSr g) := fun g => wo_D hL.2.1 hL.2.2 g
  have hS : va_S A s.heap s.heap [] := va_S.rf
  have bk0 : ∀ w ∈ wd_X10_describe, w ∈ wd_X10_makeVariable := fun _ h => List.mem_cons_of_mem _ (List.mem_append_right _ (List.mem_append_left _ h))
  have hl := lv_entry ([.ref (ad 0), .int (nI v)]) (n := 2) (Nat.le_of_ble_eq_true rfl)
  rw [lg_entry_eq]
  generalize (lg_sl ([.ref (ad 0), .int (nI v)]) ++ List.replicate (2 - (lg_sl ([.ref (ad 0), .int (nI v)])).length) Slot.unset).toArray = ls at hl ⊢
  have hl : lv_has ls 2 [(0, .ref (ad 0)), (1, .int (nI v))] := hl
  have hF0 := hF
  obtain ⟨vf, hV, hq⟩ := hF
  have hc_1 := hV
  obtain ⟨pnz_2, lnz_2, bnz_2, hRz_2, hvz_2⟩ := hc_1
  obtain ⟨r_3, r_4, r_5, r_6, r_7, r_8, r_9⟩ := hRz_2
  obtain ⟨p_10, p_11, p_12, p_13, p_14, p_15, hpt_16⟩ := hPt
  have hPt0 : PTF cA g pt := ⟨p_10, p_11, p_12, p_13, p_14, p_15, hpt_16⟩
  refine lv_aload_n hx hb dX10_makeVariable_0 rfl (lv_at hl 0 rfl) ?_
  refine lv_iconst (v := nI 1) hx hb dX10_makeVariable_1 (by decide +kernel) ?_
  refine lv_iload_n hx hb dX10_makeVariable_2 rfl (lv_at hl 1 rfl) ?_
  refine lv_iconst (v := -1) hx hb dX10_makeVariable_3 (by decide +kernel) ?_
  refine lv_iconst (v := nI 1) hx hb dX10_makeVariable_4 (by decide +kernel) ?_
  refine lv_iconst (v := nI 1) hx hb dX10_makeVariable_5 (by decide +kernel) ?_
  refine lv_iconst (v := nI 0) hx hb dX10_makeVariable_6 (by decide +kernel) ?_
  refine va_calli (va_runV (As := [.int (nI 1), .int (nI v), .int (-1), .int (nI 1), .int (nI 1), .int (nI 0)]) (rest := []) ⟨hx, hb, hml, hown, hts⟩ (c_X10_describe l dC dI A ad cA g x pf qf pt L (1, ((v : Nat) : Int), -1, 1, 1, 0, 0, 1) (nI 1) (nI v) (-1) (nI 1) (nI 1) (nI 0) ft hF0 hPt0 hM hmd hL2 hft hfr ((show nI 1 = iI 1 from by decide).trans (congrArg iI (by rfl))) ((nI_iI v).trans (congrArg iI (by rfl))) ((show (-1 : Int32) = iI (-1) from by decide).trans (congrArg iI (by rfl))) ((show nI 1 = iI 1 from by decide).trans (congrArg iI (by rfl))) ((show nI 1 = iI 1 from by decide).trans (congrArg iI (by rfl))) ((show nI 0 = iI 0 from by decide).trans (congrArg iI (by rfl))) (fun h9 => absurd (show (1 : Nat) = 0 from h9) (by decide)) (by show 1 ≤ 20000 ∧ -1 ≤ ((v : Nat) : Int) ∧ ((v : Nat) : Int) ≤ 20000 ∧ (-1 : Int) ≤ -1 ∧ (-1 : Int) ≤ 20000 ∧ 1 ≤ 20000 ∧ 1 ≤ 20000 ∧ 0 ≤ 20000; omega)) (cwV 6 hts (goodIn_app (goodIn_r [Cond.methodLink RX10 160 yX10_describe, Cond.instanceMethod yX10_describe, Cond.selects RX10 yX10_describe yX10_describe, Cond.initialized RX10] [1, 2, 3, 4] rfl rfl) (goodIn_sub (fun w9 h9 => bk0 w9 h9) gw_X10_describe)) rfl rfl rfl (by decide +kernel) ⟨Nat.le_of_ble_eq_true rfl, Nat.le_of_ble_eq_true rfl⟩) ⟨fun a U g mk q => ⟨q.1, q.2.1, q.2.2.1, LY.moved (u := U) (U := U.calling g mk a) (Vm.Alike.refl U.vm) q.2.2.2⟩, va_recv hK hP (ci := 13) (q0 := 0) rfl (wo_at (by decide) r_3), fun U hU hW => ⟨rfl, by rw [hU]; exact fun q h => hA q (Nat.le_trans hS.1 h), by rw [hU]; exact hP, LY.moved hW.alike hL⟩⟩ rfl rfl hl.1 rfl (lv_room (Nat.le_of_ble_eq_true rfl)) dX10_makeVariable_7 ⟨(Nat.le_of_ble_eq_true rfl), (Nat.le_of_ble_eq_true rfl)⟩) hS (fun q _ h => h) (fun q h => h) (fun r_17 u8 t8 H1 locs ht8 hvm8 hw_18 hB hz1 hk1 hS => ?_)
  obtain ⟨g_19, x2_20, pt2_21, pf2_22, qf2_23⟩ := u8
  try dsimp only at hw_18 hB
  rw [ht8] at hB
  have hP := hB
  generalize H1 = H at hP hS ⊢
  obtain ⟨fr_24, hK⟩ := hw_18
  refine W.widen (k := 0) (n := 0) (by omega) (by omega) ?_
  exact W.iret (v := r_17) hx hb hr (fun t9 ht9 hW9 => ⟨⟨r_17, (g_19, x2_20, pt2_21, pf2_22, qf2_23), rfl, ⟨(fun (k : Nat) (hk : k ≠ 0 ∧ k ≠ 1 ∧ k ≠ 2 ∧ k ≠ 3 ∧ k ≠ 5 ∧ k ≠ 6 ∧ k ≠ 7 ∧ k ≠ 8 ∧ k ≠ 9 ∧ k ≠ 10) => (fr_24 k (by omega)).trans (rfl)), hK⟩, by show va_P (dC, dI) vwCl _ t9.heap; rw [ht9]; exact hP⟩, hS.F ht9⟩) hS.2.2 dX10_makeVariable_10
def wd_X10_makeNumber : List Cond := .code yX10_makeNumber cX10_makeNumber 3 (some .int) :: (([.methodLink RX10 117 yX10_bitsOf, .instanceMethod yX10_bitsOf, .selects RX10 yX10_bitsOf yX10_bitsOf, .initialized RX10, .methodLink RX10 160 yX10_describe, .instanceMethod yX10_describe, .selects RX10 yX10_describe yX10_describe] : List Cond) ++ (wd_X10_bitsOf ++ (wd_X10_describe ++ ([]))))
theorem gw_X10_makeNumber : wd_X10_makeNumber.all goodWord = true := k_allc rfl (k_all (by decide +kernel) (k_all (gw_X10_bitsOf) (k_all (gw_X10_describe) (rfl))))
set_option maxHeartbeats 4000000 in
set_option maxRecDepth 100000 in
theorem c_X10_makeNumber (l : Launch) (dC : Nat → ClassId) (dI : Nat → Nat → Nat) (A : Nat → Prop) (ad : Nat → Nat) (cA : Nat → ClassId) (g : Nat → va_E) (x : Nat → Int32) (pf : Nat → Int) (qf : Nat → Nat) (pt : Nat → Nat → Int) (L : List PD) (ft : Int) (hF : RF ad cA g x pf qf) (hPt : PTF cA g pt) (hM : MT L pt pf qf) (hmd : x 3 = nI L.length) (hL2 : L.length ≤ 200) (hft : x 4 = iI ft) (hfr : ft = 0 ∨ (ft < 0 ∧ -4 ≤ ft)) : Met l yX10_makeNumber wd_X10_makeNumber ({ frames := 70, cells := 0, slots := 0, locals := 1400 }) (va_Pc [.ref (ad 0)] (PR NSr tyr dC dI A ad cA g)) (va_Qi (fun (r : Int32) => fun (u : (Nat → va_E) × (Nat → Int32) × (Nat → Nat → Int) × (Nat → Int) × (Nat → Nat)) => match u with | (g2, x2, pt2, pf2, qf2) => (∀ k, k ≠ 0 ∧ k ≠ 1 ∧ k ≠ 2 ∧ k ≠ 3 ∧ k ≠ 5 ∧ k ≠ 6 ∧ k ≠ 7 ∧ k ≠ 8 ∧ k ≠ 9 ∧ k ≠ 10 → g2 k = g k) ∧ MKP ad cA g2 x x2 pf qf (onF ft L (numL L (pf 1011) (qf 1011))) r pt2 pf2 qf2) (fun (u : (Nat → va_E) × (Nat → Int32) × (Nat → Nat → Int) × (Nat → Int) × (Nat → Nat)) (t : State) => va_P (dC, dI) vwCl (wo ad NSr u.1) t.heap) A) (0) (0) A := by
  refine Met.ofW (cc := cX10_makeNumber) (maxL := 3) (ret := (some .int)) (by decide) rfl ?_
  intro p e s m args below meth c s₁ B hml hv
  obtain ⟨rfl, hA, hP, hL⟩ := hv
  have hx := B.exec
  have hb := B.bytes
  have hr := B.returns
  have hts := atoms_spec (ws := wd_X10_makeNumber) B.pre
  have hown : s.vm.findClass RX10 = some m.cls := findClass_of_methodNamed B.named
  have hlocks := B.notSynchronized
  have hK := hL.1
  have hD : ∀ g, va_D A (wo ad NSr g) := fun g => wo_D hL.2.1 hL.2.2 g
  have hS : va_S A s.heap s.heap [] := va_S.rf
  have bk0 : ∀ w ∈ wd_X10_bitsOf, w ∈ wd_X10_makeNumber := fun _ h => List.mem_cons_of_mem _ (List.mem_append_right _ (List.mem_append_left _ h))
  have bk1 : ∀ w ∈ wd_X10_describe, w ∈ wd_X10_makeNumber := fun _ h => List.mem_cons_of_mem _ (List.mem_append_right _ (List.mem_append_right _ (List.mem_append_left _ h)))
  have hl := lv_entry ([.ref (ad 0)]) (n := 3) (Nat.le_of_ble_eq_true rfl)
  rw [lg_entry_eq]
  generalize (lg_sl ([.ref (ad 0)]) ++ List.replicate (3 - (lg_sl ([.ref (ad 0)])).length) Slot.unset).toArray = ls at hl ⊢
  have hl : lv_has ls 3 [(0, .ref (ad 0))] := hl
  have hF0 := hF
  obtain ⟨vf, hV, hq⟩ := hF
  have hc_1 := hV
  obtain ⟨pnz_2, lnz_2, bnz_2, hRz_2, hvz_2⟩ := hc_1
  obtain ⟨r_3, r_4, r_5, r_6, r_7, r_8, r_9⟩ := hRz_2
  obtain ⟨p_10, p_11, p_12, p_13, p_14, p_15, hpt_16⟩ := hPt
  have hPt0 : PTF cA g pt := ⟨p_10, p_11, p_12, p_13, p_14, p_15, hpt_16⟩
  obtain ⟨z1, z2, z3⟩ := hq 1011 (by decide)
  have hn9 : (vf 2022).natAbs = (pf 1011).natAbs := congrArg Int.natAbs z1
  have hd9 : (vf 2023).natAbs = qf 1011 := by have : vf 2023 = (qf 1011 : Int) := z2; omega
  refine lv_aload_n hx hb dX10_makeNumber_0 rfl (lv_at hl 0 rfl) ?_
  refine lv_sipush (v := nI 2022) hx hb dX10_makeNumber_1 (by decide +kernel) ?_
  refine va_calli (va_runV (As := [.int (nI 2022)]) (rest := []) ⟨hx, hb, hml, hown, hts⟩ (c_X10_bitsOf l dC dI A ad cA g x vf 2022 hV (by decide)) (cwV 1 hts (goodIn_app (goodIn_r [Cond.methodLink RX10 117 yX10_bitsOf, Cond.instanceMethod yX10_bitsOf, Cond.selects RX10 yX10_bitsOf yX10_bitsOf, Cond.initialized RX10] [1, 2, 3, 4] rfl rfl) (goodIn_sub (fun w9 h9 => bk0 w9 h9) gw_X10_bitsOf)) rfl rfl rfl (by decide +kernel) ⟨Nat.le_of_ble_eq_true rfl, Nat.le_of_ble_eq_true rfl⟩) ⟨fun a U g mk q => ⟨q.1, q.2.1, q.2.2.1, LY.moved (u := U) (U := U.calling g mk a) (Vm.Alike.refl U.vm) q.2.2.2⟩, va_recv hK hP (ci := 13) (q0 := 0) rfl (wo_at (by decide) r_3), fun U hU hW => ⟨rfl, by rw [hU]; exact fun q h => hA q (Nat.le_trans hS.1 h), by rw [hU]; exact hP, LY.moved hW.alike hL⟩⟩ rfl rfl hl.1 rfl (lv_room (Nat.le_of_ble_eq_true rfl)) dX10_makeNumber_4 ⟨(Nat.le_of_ble_eq_true rfl), (Nat.le_of_ble_eq_true rfl)⟩) hS (fun q _ h => h) (fun q h => h) (fun r_17 u8 t8 H1 locs ht8 hvm8 hw_18 hB hz1 hk1 hS => ?_)
  obtain ⟨⟩ := u8
  try dsimp only at hw_18 hB
  rw [ht8] at hB
  have hP := hB
  generalize H1 = H at hP hS ⊢
  obtain rfl := hw_18
  rw [hn9]
  obtain ⟨bp, hbp⟩ : ∃ z9, z9 = bl (pf 1011).natAbs := ⟨_, rfl⟩
  rw [← hbp]
  have bbp : bp ≤ 2560 := by rw [hbp]; exact bl_le.mpr (by have h8 := (hvz_2 2022 (by decide)).lt80; rw [hn9, pw_two] at h8; exact h8)
  refine lv_istore_n (lv' := [(1, .int (nI bp)), (0, .ref (ad 0))]) hx hb dX10_makeNumber_7 rfl hl (by decide) rfl (fun ls hl => ?_)
  refine lv_aload_n hx hb dX10_makeNumber_8 rfl (lv_at hl 1 rfl) ?_
  refine lv_sipush (v := nI 2023) hx hb dX10_makeNumber_9 (by decide +kernel) ?_
  refine va_calli (va_runV (As := [.int (nI 2023)]) (rest := []) ⟨hx, hb, hml, hown, hts⟩ (c_X10_bitsOf l dC dI A ad cA g x vf 2023 hV (by decide)) (cwV 1 hts (goodIn_app (goodIn_r [Cond.methodLink RX10 117 yX10_bitsOf, Cond.instanceMethod yX10_bitsOf, Cond.selects RX10 yX10_bitsOf yX10_bitsOf, Cond.initialized RX10] [1, 2, 3, 4] rfl rfl) (goodIn_sub (fun w9 h9 => bk0 w9 h9) gw_X10_bitsOf)) rfl rfl rfl (by decide +kernel) ⟨Nat.le_of_ble_eq_true rfl, Nat.le_of_ble_eq_true rfl⟩) ⟨fun a U g mk q => ⟨q.1, q.2.1, q.2.2.1, LY.moved (u := U) (U := U.calling g mk a) (Vm.Alike.refl U.vm) q.2.2.2⟩, va_recv hK hP (ci := 13) (q0 := 0) rfl (wo_at (by decide) r_3), fun U hU hW => ⟨rfl, by rw [hU]; exact fun q h => hA q (Nat.le_trans hS.1 h), by rw [hU]; exact hP, LY.moved hW.alike hL⟩⟩ rfl rfl hl.1 rfl (lv_room (Nat.le_of_ble_eq_true rfl)) dX10_makeNumber_12 ⟨(Nat.le_of_ble_eq_true rfl), (Nat.le_of_ble_eq_true rfl)⟩) hS (fun q _ h => h) (fun q h => h) (fun r_19 u8 t8 H1 locs ht8 hvm8 hw_20 hB hz1 hk1 hS => ?_)
  obtain ⟨⟩ := u8
  try dsimp only at hw_20 hB
  rw [ht8] at hB
  have hP := hB
  generalize H1 = H at hP hS ⊢
  obtain rfl := hw_20
  rw [hd9]
  obtain ⟨bq, hbq⟩ : ∃ z9, z9 = bl (qf 1011) := ⟨_, rfl⟩
  rw [← hbq]
  have bbq : bq ≤ 2560 := by rw [hbq]; exact bl_le.mpr (by have h8 := (hvz_2 2023 (by decide)).lt80; rw [hd9, pw_two] at h8; exact h8)
  refine lv_istore_n (lv' := [(2, .int (nI bq)), (1, .int (nI bp)), (0, .ref (ad 0))]) hx hb dX10_makeNumber_15 rfl hl (by decide) rfl (fun ls hl => ?_)
  refine lv_aload_n hx hb dX10_makeNumber_16 rfl (lv_at hl 2 rfl) ?_
  refine lv_iconst (v := nI 0) hx hb dX10_makeNumber_17 (by decide +kernel) ?_
  refine lv_iconst (v := -1) hx hb dX10_makeNumber_18 (by decide +kernel) ?_
  refine lv_iconst (v := -1) hx hb dX10_makeNumber_19 (by decide +kernel) ?_
  refine lv_iconst (v := nI 0) hx hb dX10_makeNumber_20 (by decide +kernel) ?_
  refine lv_iload_n hx hb dX10_makeNumber_21 rfl (lv_at hl 1 rfl) ?_
  refine lv_if_ne (tgt := 29) hx hb dX10_makeNumber_22 (by decide) (fun c_21 => ?_) (fun c_21 => ?_)
  · have c_21 := mt (nI_eq (a := bp) (b := 0) (by omega) (by decide)).mpr c_21
    refine lv_iload_n hx hb dX10_makeNumber_29 rfl (lv_at hl 1 rfl) ?_
    refine lv_iload_n hx hb dX10_makeNumber_30 rfl (lv_at hl 0 rfl) ?_
    refine lv_iconst (v := nI 1) hx hb dX10_makeNumber_31 (by decide +kernel) ?_
    refine lv_icmp_ne (tgt := 39) hx hb dX10_makeNumber_32 (by decide) (fun c_22 => ?_) (fun c_22 => ?_)
    · have c_22 := mt (nI_eq (a := bq) (b := 1) (by omega) (by decide)).mpr c_22
      refine lv_iload_n hx hb dX10_makeNumber_39 rfl (lv_at hl 0 rfl) ?_
      have hi1 : (if bl (pf 1011).natAbs = 0 then 1 else bl (pf 1011).natAbs) ≤ 2560 := by split <;> omega
      have hi2 : (if bl (qf 1011) = 1 then 0 else bl (qf 1011)) ≤ 2560 := by split <;> omega
      refine va_calli (va_runV (As := [.int (nI 0), .int (-1), .int (-1), .int (nI 0), .int (nI bp), .int (nI bq)]) (rest := []) ⟨hx, hb, hml, hown, hts⟩ (c_X10_describe l dC dI A ad cA g x pf qf pt L (0, -1, -1, 0, if bl (pf 1011).natAbs = 0 then 1 else bl (pf 1011).natAbs, if bl (qf 1011) = 1 then 0 else bl (qf 1011), pf 1011, qf 1011) (nI 0) (-1) (-1) (nI 0) (nI bp) (nI bq) ft hF0 hPt0 hM hmd hL2 hft hfr ((show nI 0 = iI 0 from by decide).trans (congrArg iI (by rfl))) ((show (-1 : Int32) = iI (-1) from by decide).trans (congrArg iI (by rfl))) ((show (-1 : Int32) = iI (-1) from by decide).trans (congrArg iI (by rfl))) ((show nI 0 = iI 0 from by decide).trans (congrArg iI (by rfl))) ((nI_iI bp).trans (congrArg iI (by rw [if_neg (show ¬ bl (pf 1011).natAbs = 0 from by omega), hbp]))) ((nI_iI bq).trans (congrArg iI (by rw [if_neg (show ¬ bl (qf 1011) = 1 from by omega), hbq]))) (fun _ => ⟨rfl, rfl⟩) (by show 0 ≤ 20000 ∧ (-1 : Int) ≤ -1 ∧ (-1 : Int) ≤ 20000 ∧ (-1 : Int) ≤ -1 ∧ (-1 : Int) ≤ 20000 ∧ 0 ≤ 20000 ∧ (if bl (pf 1011).natAbs = 0 then 1 else bl (pf 1011).natAbs) ≤ 20000 ∧ (if bl (qf 1011) = 1 then 0 else bl (qf 1011)) ≤ 20000; omega)) (cwV 6 hts (goodIn_app (goodIn_r [Cond.methodLink RX10 160 yX10_describe, Cond.instanceMethod yX10_describe, Cond.selects RX10 yX10_describe yX10_describe, Cond.initialized RX10] [5, 6, 7, 4] rfl rfl) (goodIn_sub (fun w9 h9 => bk1 w9 h9) gw_X10_describe)) rfl rfl rfl (by decide +kernel) ⟨Nat.le_of_ble_eq_true rfl, Nat.le_of_ble_eq_true rfl⟩) ⟨fun a U g mk q => ⟨q.1, q.2.1, q.2.2.1, LY.moved (u := U) (U := U.calling g mk a) (Vm.Alike.refl U.vm) q.2.2.2⟩, va_recv hK hP (ci := 13) (q0 := 0) rfl (wo_at (by decide) r_3), fun U hU hW => ⟨rfl, by rw [hU]; exact fun q h => hA q (Nat.le_trans hS.1 h), by rw [hU]; exact hP, LY.moved hW.alike hL⟩⟩ rfl rfl hl.1 rfl (lv_room (Nat.le_of_ble_eq_true rfl)) dX10_makeNumber_40 ⟨(Nat.le_of_ble_eq_true rfl), (Nat.le_of_ble_eq_true rfl)⟩) hS (fun q _ h => h) (fun q h => h) (fun r_23 u8 t8 H1 locs ht8 hvm8 hw_24 hB hz1 hk1 hS => ?_)
      obtain ⟨g_25, x2_26, pt2_27, pf2_28, qf2_29⟩ := u8
      try dsimp only at hw_24 hB
      rw [ht8] at hB
      have hP := hB
      generalize H1 = H at hP hS ⊢
      obtain ⟨fr_30, hK⟩ := hw_24
      refine W.widen (k := 0) (n := 0) (by omega) (by omega) ?_
      exact W.iret (v := r_23) hx hb hr (fun t9 ht9 hW9 => ⟨⟨r_23, (g_25, x2_26, pt2_27, pf2_28, qf2_29), rfl, ⟨(fun (k : Nat) (hk : k ≠ 0 ∧ k ≠ 1 ∧ k ≠ 2 ∧ k ≠ 3 ∧ k ≠ 5 ∧ k ≠ 6 ∧ k ≠ 7 ∧ k ≠ 8 ∧ k ≠ 9 ∧ k ≠ 10) => (fr_30 k (by omega)).trans (rfl)), hK⟩, by show va_P (dC, dI) vwCl _ t9.heap; rw [ht9]; exact hP⟩, hS.F ht9⟩) hS.2.2 dX10_makeNumber_43
    · have c_22 := (nI_eq (a := bq) (b := 1) (by omega) (by decide)).mp c_22
      refine lv_iconst (v := nI 0) hx hb dX10_makeNumber_35 (by decide +kernel) ?_
      refine lv_goto (tgt := 40) hx hb dX10_makeNumber_36 (by decide) ?_
      have hi1 : (if bl (pf 1011).natAbs = 0 then 1 else bl (pf 1011).natAbs) ≤ 2560 := by split <;> omega
      have hi2 : (if bl (qf 1011) = 1 then 0 else bl (qf 1011)) ≤ 2560 := by split <;> omega
      refine va_calli (va_runV (As := [.int (nI 0), .int (-1), .int (-1), .int (nI 0), .int (nI bp), .int (nI 0)]) (rest := []) ⟨hx, hb, hml, hown, hts⟩ (c_X10_describe l dC dI A ad cA g x pf qf pt L (0, -1, -1, 0, if bl (pf 1011).natAbs = 0 then 1 else bl (pf 1011).natAbs, if bl (qf 1011) = 1 then 0 else bl (qf 1011), pf 1011, qf 1011) (nI 0) (-1) (-1) (nI 0) (nI bp) (nI 0) ft hF0 hPt0 hM hmd hL2 hft hfr ((show nI 0 = iI 0 from by decide).trans (congrArg iI (by rfl))) ((show (-1 : Int32) = iI (-1) from by decide).trans (congrArg iI (by rfl))) ((show (-1 : Int32) = iI (-1) from by decide).trans (congrArg iI (by rfl))) ((show nI 0 = iI 0 from by decide).trans (congrArg iI (by rfl))) ((nI_iI bp).trans (congrArg iI (by rw [if_neg (show ¬ bl (pf 1011).natAbs = 0 from by omega), hbp]))) ((show nI 0 = iI 0 from by decide).trans (congrArg iI (by rw [if_pos (show bl (qf 1011) = 1 from by omega)]; rfl))) (fun _ => ⟨rfl, rfl⟩) (by show 0 ≤ 20000 ∧ (-1 : Int) ≤ -1 ∧ (-1 : Int) ≤ 20000 ∧ (-1 : Int) ≤ -1 ∧ (-1 : Int) ≤ 20000 ∧ 0 ≤ 20000 ∧ (if bl (pf 1011).natAbs = 0 then 1 else bl (pf 1011).natAbs) ≤ 20000 ∧ (if bl (qf 1011) = 1 then 0 else bl (qf 1011)) ≤ 20000; omega)) (cwV 6 hts (goodIn_app (goodIn_r [Cond.methodLink RX10 160 yX10_describe, Cond.instanceMethod yX10_describe, Cond.selects RX10 yX10_describe yX10_describe, Cond.initialized RX10] [5, 6, 7, 4] rfl rfl) (goodIn_sub (fun w9 h9 => bk1 w9 h9) gw_X10_describe)) rfl rfl rfl (by decide +kernel) ⟨Nat.le_of_ble_eq_true rfl, Nat.le_of_ble_eq_true rfl⟩) ⟨fun a U g mk q => ⟨q.1, q.2.1, q.2.2.1, LY.moved (u := U) (U := U.calling g mk a) (Vm.Alike.refl U.vm) q.2.2.2⟩, va_recv hK hP (ci := 13) (q0 := 0) rfl (wo_at (by decide) r_3), fun U hU hW => ⟨rfl, by rw [hU]; exact fun q h => hA q (Nat.le_trans hS.1 h), by rw [hU]; exact hP, LY.moved hW.alike hL⟩⟩ rfl rfl hl.1 rfl (lv_room (Nat.le_of_ble_eq_true rfl)) dX10_makeNumber_40 ⟨(Nat.le_of_ble_eq_true rfl), (Nat.le_of_ble_eq_true rfl)⟩) hS (fun q _ h => h) (fun q h => h) (fun r_31 u8 t8 H1 locs ht8 hvm8 hw_32 hB hz1 hk1 hS => ?_)
      obtain ⟨g_33, x2_34, pt2_35, pf2_36, qf2_37⟩ := u8
      try dsimp only at hw_32 hB
      rw [ht8] at hB
      have hP := hB
      generalize H1 = H at hP hS ⊢
      obtain ⟨fr_38, hK⟩ := hw_32
      refine W.widen (k := 0) (n := 0) (by omega) (by omega) ?_
      exact W.iret (v := r_31) hx hb hr (fun t9 ht9 hW9 => ⟨⟨r_31, (g_33, x2_34, pt2_35, pf2_36, qf2_37), rfl, ⟨(fun (k : Nat) (hk : k ≠ 0 ∧ k ≠ 1 ∧ k ≠ 2 ∧ k ≠ 3 ∧ k ≠ 5 ∧ k ≠ 6 ∧ k ≠ 7 ∧ k ≠ 8 ∧ k ≠ 9 ∧ k ≠ 10) => (fr_38 k (by omega)).trans (rfl)), hK⟩, by show va_P (dC, dI) vwCl _ t9.heap; rw [ht9]; exact hP⟩, hS.F ht9⟩) hS.2.2 dX10_makeNumber_43
  · have c_21 := (nI_eq (a := bp) (b := 0) (by omega) (by decide)).mp c_21
    refine lv_iconst (v := nI 1) hx hb dX10_makeNumber_25 (by decide +kernel) ?_
    refine lv_goto (tgt := 30) hx hb dX10_makeNumber_26 (by decide) ?_
    refine lv_iload_n hx hb dX10_makeNumber_30 rfl (lv_at hl 0 rfl) ?_
    refine lv_iconst (v := nI 1) hx hb dX10_makeNumber_31 (by decide +kernel) ?_
    refine lv_icmp_ne (tgt := 39) hx hb dX10_makeNumber_32 (by decide) (fun c_39 => ?_) (fun c_39 => ?_)
    · have c_39 := mt (nI_eq (a := bq) (b := 1) (by omega) (by decide)).mpr c_39
      refine lv_iload_n hx hb dX10_makeNumber_39 rfl (lv_at hl 0 rfl) ?_
      have hi1 : (if bl (pf 1011).natAbs = 0 then 1 else bl (pf 1011).natAbs) ≤ 2560 := by split <;> omega
      have hi2 : (if bl (qf 1011) = 1 then 0 else bl (qf 1011)) ≤ 2560 := by split <;> omega
      refine va_calli (va_runV (As := [.int (nI 0), .int (-1), .int (-1), .int (nI 0), .int (nI 1), .int (nI bq)]) (rest := []) ⟨hx, hb, hml, hown, hts⟩ (c_X10_describe l dC dI A ad cA g x pf qf pt L (0, -1, -1, 0, if bl (pf 1011).natAbs = 0 then 1 else bl (pf 1011).natAbs, if bl (qf 1011) = 1 then 0 else bl (qf 1011), pf 1011, qf 1011) (nI 0) (-1) (-1) (nI 0) (nI 1) (nI bq) ft hF0 hPt0 hM hmd hL2 hft hfr ((show nI 0 = iI 0 from by decide).trans (congrArg iI (by rfl))) ((show (-1 : Int32) = iI (-1) from by decide).trans (congrArg iI (by rfl))) ((show (-1 : Int32) = iI (-1) from by decide).trans (congrArg iI (by rfl))) ((show nI 0 = iI 0 from by decide).trans (congrArg iI (by rfl))) ((show nI 1 = iI 1 from by decide).trans (congrArg iI (by rw [if_pos (show bl (pf 1011).natAbs = 0 from by omega)]; rfl))) ((nI_iI bq).trans (congrArg iI (by rw [if_neg (show ¬ bl (qf 1011) = 1 from by omega), hbq]))) (fun _ => ⟨rfl, rfl⟩) (by show 0 ≤ 20000 ∧ (-1 : Int) ≤ -1 ∧ (-1 : Int) ≤ 20000 ∧ (-1 : Int) ≤ -1 ∧ (-1 : Int) ≤ 20000 ∧ 0 ≤ 20000 ∧ (if bl (pf 1011).natAbs = 0 then 1 else bl (pf 1011).natAbs) ≤ 20000 ∧ (if bl (qf 1011) = 1 then 0 else bl (qf 1011)) ≤ 20000; omega)) (cwV 6 hts (goodIn_app (goodIn_r [Cond.methodLink RX10 160 yX10_describe, Cond.instanceMethod yX10_describe, Cond.selects RX10 yX10_describe yX10_describe, Cond.initialized RX10] [5, 6, 7, 4] rfl rfl) (goodIn_sub (fun w9 h9 => bk1 w9 h9) gw_X10_describe)) rfl rfl rfl (by decide +kernel) ⟨Nat.le_of_ble_eq_true rfl, Nat.le_of_ble_eq_true rfl⟩) ⟨fun a U g mk q => ⟨q.1, q.2.1, q.2.2.1, LY.moved (u := U) (U := U.calling g mk a) (Vm.Alike.refl U.vm) q.2.2.2⟩, va_recv hK hP (ci := 13) (q0 := 0) rfl (wo_at (by decide) r_3), fun U hU hW => ⟨rfl, by rw [hU]; exact fun q h => hA q (Nat.le_trans hS.1 h), by rw [hU]; exact hP, LY.moved hW.alike hL⟩⟩ rfl rfl hl.1 rfl (lv_room (Nat.le_of_ble_eq_true rfl)) dX10_makeNumber_40 ⟨(Nat.le_of_ble_eq_true rfl), (Nat.le_of_ble_eq_true rfl)⟩) hS (fun q _ h => h) (fun q h => h) (fun r_40 u8 t8 H1 locs ht8 hvm8 hw_41 hB hz1 hk1 hS => ?_)
      obtain ⟨g_42, x2_43, pt2_44, pf2_45, qf2_46⟩ := u8
      try dsimp only at hw_41 hB
      rw [ht8] at hB
      have hP := hB
      generalize H1 = H at hP hS ⊢
      obtain ⟨fr_47, hK⟩ := hw_41
      refine W.widen (k := 0) (n := 0) (by omega) (by omega) ?_
      exact W.iret (v := r_40) hx hb hr (fun t9 ht9 hW9 => ⟨⟨r_40, (g_42, x2_43, pt2_44, pf2_45, qf2_46), rfl, ⟨(fun (k : Nat) (hk : k ≠ 0 ∧ k ≠ 1 ∧ k ≠ 2 ∧ k ≠ 3 ∧ k ≠ 5 ∧ k ≠ 6 ∧ k ≠ 7 ∧ k ≠ 8 ∧ k ≠ 9 ∧ k ≠ 10) => (fr_47 k (by omega)).trans (rfl)), hK⟩, by show va_P (dC, dI) vwCl _ t9.heap; rw [ht9]; exact hP⟩, hS.F ht9⟩) hS.2.2 dX10_makeNumber_43
    · have c_39 := (nI_eq (a := bq) (b := 1) (by omega) (by decide)).mp c_39
      refine lv_iconst (v := nI 0) hx hb dX10_makeNumber_35 (by decide +kernel) ?_
      refine lv_goto (tgt := 40) hx hb dX10_makeNumber_36 (by decide) ?_
      have hi1 : (if bl (pf 1011).natAbs = 0 then 1 else bl (pf 1011).natAbs) ≤ 2560 := by split <;> omega
      have hi2 : (if bl (qf 1011) = 1 then 0 else bl (qf 1011)) ≤ 2560 := by split <;> omega
      refine va_calli (va_runV (As := [.int (nI 0), .int (-1), .int (-1), .int (nI 0), .int (nI 1), .int (nI 0)]) (rest := []) ⟨hx, hb, hml, hown, hts⟩ (c_X10_describe l dC dI A ad cA g x pf qf pt L (0, -1, -1, 0, if bl (pf 1011).natAbs = 0 then 1 else bl (pf 1011).natAbs, if bl (qf 1011) = 1 then 0 else bl (qf 1011), pf 1011, qf 1011) (nI 0) (-1) (-1) (nI 0) (nI 1) (nI 0) ft hF0 hPt0 hM hmd hL2 hft hfr ((show nI 0 = iI 0 from by decide).trans (congrArg iI (by rfl))) ((show (-1 : Int32) = iI (-1) from by decide).trans (congrArg iI (by rfl))) ((show (-1 : Int32) = iI (-1) from by decide).trans (congrArg iI (by rfl))) ((show nI 0 = iI 0 from by decide).trans (congrArg iI (by rfl))) ((show nI 1 = iI 1 from by decide).trans (congrArg iI (by rw [if_pos (show bl (pf 1011).natAbs = 0 from by omega)]; rfl))) ((show nI 0 = iI 0 from by decide).trans (congrArg iI (by rw [if_pos (show bl (qf 1011) = 1 from by omega)]; rfl))) (fun _ => ⟨rfl, rfl⟩) (by show 0 ≤ 20000 ∧ (-1 : Int) ≤ -1 ∧ (-1 : Int) ≤ 20000 ∧ (-1 : Int) ≤ -1 ∧ (-1 : Int) ≤ 20000 ∧ 0 ≤ 20000 ∧ (if bl (pf 1011).natAbs = 0 then 1 else bl (pf 1011).natAbs) ≤ 20000 ∧ (if bl (qf 1011) = 1 then 0 else bl (qf 1011)) ≤ 20000; omega)) (cwV 6 hts (goodIn_app (goodIn_r [Cond.methodLink RX10 160 yX10_describe, Cond.instanceMethod yX10_describe, Cond.selects RX10 yX10_describe yX10_describe, Cond.initialized RX10] [5, 6, 7, 4] rfl rfl) (goodIn_sub (fun w9 h9 => bk1 w9 h9) gw_X10_describe)) rfl rfl rfl (by decide +kernel) ⟨Nat.le_of_ble_eq_true rfl, Nat.le_of_ble_eq_true rfl⟩) ⟨fun a U g mk q => ⟨q.1, q.2.1, q.2.2.1, LY.moved (u := U) (U := U.calling g mk a) (Vm.Alike.refl U.vm) q.2.2.2⟩, va_recv hK hP (ci := 13) (q0 := 0) rfl (wo_at (by decide) r_3), fun U hU hW => ⟨rfl, by rw [hU]; exact fun q h => hA q (Nat.le_trans hS.1 h), by rw [hU]; exact hP, LY.moved hW.alike hL⟩⟩ rfl rfl hl.1 rfl (lv_room (Nat.le_of_ble_eq_true rfl)) dX10_makeNumber_40 ⟨(Nat.le_of_ble_eq_true rfl), (Nat.le_of_ble_eq_true rfl)⟩) hS (fun q _ h => h) (fun q h => h) (fun r_48 u8 t8 H1 locs ht8 hvm8 hw_49 hB hz1 hk1 hS => ?_)
      obtain ⟨g_50, x2_51, pt2_52, pf2_53, qf2_54⟩ := u8
      try dsimp only at hw_49 hB
      rw [ht8] at hB
      have hP := hB
      generalize H1 = H at hP hS ⊢
      obtain ⟨fr_55, hK⟩ := hw_49
      refine W.widen (k := 0) (n := 0) (by omega) (by omega) ?_
      exact W.iret (v := r_48) hx hb hr (fun t9 ht9 hW9 => ⟨⟨r_48, (g_50, x2_51, pt2_52, pf2_53, qf2_54), rfl, ⟨(fun (k : Nat) (hk : k ≠ 0 ∧ k ≠ 1 ∧ k ≠ 2 ∧ k ≠ 3 ∧ k ≠ 5 ∧ k ≠ 6 ∧ k ≠ 7 ∧ k ≠ 8 ∧ k ≠ 9 ∧ k ≠ 10) => (fr_55 k (by omega)).trans (rfl)), hK⟩, by show va_P (dC, dI) vwCl _ t9.heap; rw [ht9]; exact hP⟩, hS.F ht9⟩) hS.2.2 dX10_makeNumber_43
def wd_X10_makeFraction : List Cond := .code yX10_makeFraction cX10_makeFraction 5 (some .int) :: (([.methodLink RX10 139 yX10_setFraction, .instanceMethod yX10_setFraction, .selects RX10 yX10_setFraction yX10_setFraction, .initialized RX10, .methodLink RX10 164 yX10_makeNumber, .instanceMethod yX10_makeNumber, .selects RX10 yX10_makeNumber yX10_makeNumber] : List Cond) ++ (wd_X10_setFraction ++ (wd_X10_makeNumber ++ ([]))))
theorem gw_X10_makeFraction : wd_X10_makeFraction.all goodWord = true := k_allc rfl (k_all (by decide +kernel) (k_all (gw_X10_setFraction) (k_all (gw_X10_makeNumber) (rfl))))
set_option maxHeartbeats 4000000 in
set_option maxRecDepth 100000 in
theorem c_X10_makeFraction (l : Launch) (dC : Nat → ClassId) (dI : Nat → Nat → Nat) (A : Nat → Prop) (ad : Nat → Nat) (cA : Nat → ClassId) (g : Nat → va_E) (x : Nat → Int32) (pf : Nat → Int) (qf : Nat → Nat) (pt : Nat → Nat → Int) (L : List PD) (v : Int64) (u : Int64) (z : Int) (n : Nat) (ft : Int) (hF : RF ad cA g x pf qf) (hPt : PTF cA g pt) (hM : MT L pt pf qf) (hmd : x 3 = nI L.length) (hL2 : L.length ≤ 200) (hft : x 4 = iI ft) (hfr : ft = 0 ∨ (ft < 0 ∧ -4 ≤ ft)) (hz : v.toInt = z) (hz2 : z.natAbs < 2 ^ 62) (hn : u.toInt = (n : Int)) (hn0 : 0 < n) (hn2 : n < 2 ^ 62) : Met l yX10_makeFraction wd_X10_makeFraction ({ frames := 80, cells := 0, slots := 0, locals := 1600 }) (va_Pc [.ref (ad 0), .long v, .long u] (PR NSr tyr dC dI A ad cA g)) (va_Qi (fun (r : Int32) => fun (u : (Nat → va_E) × (Nat → Int32) × (Nat → Nat → Int) × (Nat → Int) × (Nat → Nat)) => match u with | (g2, x2, pt2, pf2, qf2) => (∀ k, k ≠ 0 ∧ k ≠ 1 ∧ k ≠ 2 ∧ k ≠ 3 ∧ k ≠ 5 ∧ k ≠ 6 ∧ k ≠ 7 ∧ k ≠ 8 ∧ k ≠ 9 ∧ k ≠ 10 → g2 k = g k) ∧ MKP ad cA g2 x x2 pf qf (onF ft L (numL L (rdp z n) (rdq z n))) r pt2 pf2 qf2) (fun (u : (Nat → va_E) × (Nat → Int32) × (Nat → Nat → Int) × (Nat → Int) × (Nat → Nat)) (t : State) => va_P (dC, dI) vwCl (wo ad NSr u.1) t.heap) A) (0) (0) A := by
  refine Met.ofW (cc := cX10_makeFraction) (maxL := 5) (ret := (some .int)) (by decide) rfl ?_
  intro p e s m args below meth c s₁ B hml hv
  obtain ⟨rfl, hA, hP, hL⟩ := hv
  have hx := B.exec
  have hb := B.bytes
  have hr := B.returns
  have hts := atoms_spec (ws := wd_X10_makeFraction) B.pre
  have hown : s.vm.findClass RX10 = some m.cls := findClass_of_methodNamed B.named
  have hlocks := B.notSynchronized
  have hK := hL.1
  have hD : ∀ g, va_D A (wo ad NSr g) := fun g => wo_D hL.2.1 hL.2.2 g
  have hS : va_S A s.heap s.heap [] := va_S.rf
  have bk0 : ∀ w ∈ wd_X10_setFraction, w ∈ wd_X10_makeFraction := fun _ h => List.mem_cons_of_mem _ (List.mem_append_right _ (List.mem_append_left _ h))
  have bk1 : ∀ w ∈ wd_X10_makeNumber, w ∈ wd_X10_makeFraction := fun _ h => List.mem_cons_of_mem _ (List.mem_append_right _ (List.mem_append_right _ (List.mem_append_left _ h)))
  have hl := lv_entry ([.ref (ad 0), .long v, .long u]) (n := 5) (Nat.le_of_ble_eq_true rfl)
  rw [lg_entry_eq]
  generalize (lg_sl ([.ref (ad 0), .long v, .long u]) ++ List.replicate (5 - (lg_sl ([.ref (ad 0), .long v, .long u])).length) Slot.unset).toArray = ls at hl ⊢
  have hl : lv_has ls 5 [(0, .ref (ad 0)), (1, .long v), (3, .long u)] := hl
  have hF0 := hF
  obtain ⟨vf, hV, hq⟩ := hF
  have hc_1 := hV
  obtain ⟨pnz_2, lnz_2, bnz_2, hRz_2, hvz_2⟩ := hc_1
  obtain ⟨r_3, r_4, r_5, r_6, r_7, r_8, r_9⟩ := hRz_2
  obtain ⟨p_10, p_11, p_12, p_13, p_14, p_15, hpt_16⟩ := hPt
  have hPt0 : PTF cA g pt := ⟨p_10, p_11, p_12, p_13, p_14, p_15, hpt_16⟩
  refine lv_aload_n hx hb dX10_makeFraction_0 rfl (lv_at hl 0 rfl) ?_
  refine lv_sipush (v := nI 1011) hx hb dX10_makeFraction_1 (by decide +kernel) ?_
  refine lv_lload_n hx hb dX10_makeFraction_4 rfl (lv_at hl 1 rfl) ?_
  refine lv_lload_n hx hb dX10_makeFraction_5 rfl (lv_at hl 2 rfl) ?_
  refine va_callv (va_runV (As := [.int (nI 1011), .long v, .long u]) (rest := []) ⟨hx, hb, hml, hown, hts⟩ (c_X10_setFraction l dC dI A ad cA g x pf qf 1011 v u z n hF0 (by decide) hz hz2 hn hn0 hn2) (cwV 3 hts (goodIn_app (goodIn_r [Cond.methodLink RX10 139 yX10_setFraction, Cond.instanceMethod yX10_setFraction, Cond.selects RX10 yX10_setFraction yX10_setFraction, Cond.initialized RX10] [1, 2, 3, 4] rfl rfl) (goodIn_sub (fun w9 h9 => bk0 w9 h9) gw_X10_setFraction)) rfl rfl rfl (by decide +kernel) ⟨Nat.le_of_ble_eq_true rfl, Nat.le_of_ble_eq_true rfl⟩) ⟨fun a U g mk q => ⟨q.1, q.2.1, q.2.2.1, LY.moved (u := U) (U := U.calling g mk a) (Vm.Alike.refl U.vm) q.2.2.2⟩, va_recv hK hP (ci := 13) (q0 := 0) rfl (wo_at (by decide) r_3), fun U hU hW => ⟨rfl, by rw [hU]; exact fun q h => hA q (Nat.le_trans hS.1 h), by rw [hU]; exact hP, LY.moved hW.alike hL⟩⟩ rfl rfl hl.1 rfl (lv_room (Nat.le_of_ble_eq_true rfl)) dX10_makeFraction_6 ⟨(Nat.le_of_ble_eq_true rfl), (Nat.le_of_ble_eq_true rfl)⟩) hS (fun q _ h => h) (fun q h => h) (fun u8 t8 H1 locs ht8 hvm8 hw_17 hB hz1 hk1 hS => ?_)
  obtain ⟨g_18, rfl⟩ : ∃ z, z = u8 := ⟨_, rfl⟩
  try dsimp only at hw_17 hB
  rw [ht8] at hB
  have hP := hB
  generalize H1 = H at hP hS ⊢
  obtain ⟨fr_19, hF1⟩ := hw_17
  have f_20 : g_18 5 = .inl (cA 5, 201, .inl (fun j => iI ((pt 0) j))) := (fr_19 5 (by omega)).trans p_10
  have f_21 : g_18 6 = .inl (cA 6, 201, .inl (fun j => iI ((pt 1) j))) := (fr_19 6 (by omega)).trans p_11
  have f_22 : g_18 7 = .inl (cA 7, 201, .inl (fun j => iI ((pt 2) j))) := (fr_19 7 (by omega)).trans p_12
  have f_23 : g_18 8 = .inl (cA 8, 201, .inl (fun j => iI ((pt 3) j))) := (fr_19 8 (by omega)).trans p_13
  have f_24 : g_18 9 = .inl (cA 9, 201, .inl (fun j => iI ((pt 4) j))) := (fr_19 9 (by omega)).trans p_14
  have f_25 : g_18 10 = .inl (cA 10, 201, .inl (fun j => iI ((pt 5) j))) := (fr_19 10 (by omega)).trans p_15
  refine lv_aload_n hx hb dX10_makeFraction_9 rfl (lv_at hl 0 rfl) ?_
  have f_26 : g_18 0 = .inr (13, Rob ad x) := (fr_19 0 (by omega)).trans r_3
  refine va_calli (va_runV (As := []) (rest := []) ⟨hx, hb, hml, hown, hts⟩ (c_X10_makeNumber l dC dI A ad cA g_18 x (va_up pf 1011 (rdp z n)) (va_up qf 1011 (rdq z n)) pt L ft hF1 (⟨f_20, f_21, f_22, f_23, f_24, f_25, hpt_16⟩) (hM.same (fun _ _ _ => rfl) (fun i9 hi9 => ⟨va_up_ne _ _ (by omega), va_up_ne _ _ (by omega)⟩)) hmd hL2 hft hfr) (cwV 0 hts (goodIn_app (goodIn_r [Cond.methodLink RX10 164 yX10_makeNumber, Cond.instanceMethod yX10_makeNumber, Cond.selects RX10 yX10_makeNumber yX10_makeNumber, Cond.initialized RX10] [5, 6, 7, 4] rfl rfl) (goodIn_sub (fun w9 h9 => bk1 w9 h9) gw_X10_makeNumber)) rfl rfl rfl (by decide +kernel) ⟨Nat.le_of_ble_eq_true rfl, Nat.le_of_ble_eq_true rfl⟩) ⟨fun a U g mk q => ⟨q.1, q.2.1, q.2.2.1, LY.moved (u := U) (U := U.calling g mk a) (Vm.Alike.refl U.vm) q.2.2.2⟩, va_recv hK hP (ci := 13) (q0 := 0) rfl (wo_at (by decide) f_26), fun U hU hW => ⟨rfl, by rw [hU]; exact fun q h => hA q (Nat.le_trans hS.1 h), by rw [hU]; exact hP, LY.moved hW.alike hL⟩⟩ rfl rfl hl.1 rfl (lv_room (Nat.le_of_ble_eq_true rfl)) dX10_makeFraction_10 ⟨(Nat.le_of_ble_eq_true rfl), (Nat.le_of_ble_eq_true rfl)⟩) hS (fun q _ h => h) (fun q h => h) (fun r_27 u8 t8 H1 locs ht8 hvm8 hw_28 hB hz1 hk1 hS => ?_)
  obtain ⟨g_29, x2_30, pt2_31, pf2_32, qf2_33⟩ := u8
  try dsimp only at hw_28 hB
  rw [ht8] at hB
  have hP := hB
  generalize H1 = H at hP hS ⊢
  obtain ⟨fr_34, hK⟩ := hw_28
  rw [va_up_self, va_up_self] at hK
  refine W.widen (k := 0) (n := 0) (by omega) (by omega) ?_
  exact W.iret (v := r_27) hx hb hr (fun t9 ht9 hW9 => ⟨⟨r_27, (g_29, x2_30, pt2_31, pf2_32, qf2_33), rfl, ⟨(fun (k : Nat) (hk : k ≠ 0 ∧ k ≠ 1 ∧ k ≠ 2 ∧ k ≠ 3 ∧ k ≠ 5 ∧ k ≠ 6 ∧ k ≠ 7 ∧ k ≠ 8 ∧ k ≠ 9 ∧ k ≠ 10) => (fr_34 k (by omega)).trans ((fr_19 k (by omega)).trans (rfl))), hK.base (fun _ _ _ => rfl) (fun f9 h1 h2 => ⟨va_up_ne _ _ (by omega), va_up_ne _ _ (by omega)⟩)⟩, by show va_P (dC, dI) vwCl _ t9.heap; rw [ht9]; exact hP⟩, hS.F ht9⟩) hS.2.2 dX10_makeFraction_13
def wd_X10_isNumber : List Cond := .code yX10_isNumber cX10_isNumber 4 (some .boolean) :: (([.fieldLink RX10 29 "GradientDeskModel" "sort" "[I", .methodLink RX10 167 yX10_is, .instanceMethod yX10_is, .selects RX10 yX10_is yX10_is, .initialized RX10] : List Cond) ++ (u_ws RX10 TX10 29 ++ (wd_X10_is ++ ([]))))
theorem gw_X10_isNumber : wd_X10_isNumber.all goodWord = true := k_allc rfl (k_all (by decide +kernel) (k_all (gu_X10) (k_all (gw_X10_is) (rfl))))
set_option maxHeartbeats 4000000 in
set_option maxRecDepth 100000 in
theorem c_X10_isNumber (l : Launch) (dC : Nat → ClassId) (dI : Nat → Nat → Nat) (A : Nat → Prop) (ad : Nat → Nat) (cA : Nat → ClassId) (g : Nat → va_E) (x : Nat → Int32) (pf : Nat → Int) (qf : Nat → Nat) (pt : Nat → Nat → Int) (L : List PD) (a : Nat) (v9 : Nat) (hF : RF ad cA g x pf qf) (hPt : PTF cA g pt) (hM : MT L pt pf qf) (hL2 : L.length ≤ 200) (ia : a < L.length) (hv9 : v9 ≤ 1) : Met l yX10_isNumber wd_X10_isNumber ({ frames := 40, cells := 0, slots := 0, locals := 800 }) (va_Pc [.ref (ad 0), .int (nI a), .long (lN v9)] (PR NSr tyr dC dI A ad cA g)) (va_Qi (fun (r : Int32) => fun (u : Unit) => match u with | () => (r = nI 1 ∧ isN (gd L a) (v9 : Int) = true) ∨ (r = nI 0 ∧ isN (gd L a) (v9 : Int) = false)) (fun (u : Unit) (t : State) => va_P (dC, dI) vwCl (wo ad NSr g) t.heap) A) (0) (0) A := by
  refine Met.ofW (cc := cX10_isNumber) (maxL := 4) (ret := (some .boolean)) (by decide) rfl ?_
  intro p e s m args below meth c s₁ B hml hv
  obtain ⟨rfl, hA, hP, hL⟩ := hv
  have hx := B.exec
  have hb := B.bytes
  have hr := B.returns
  have hts := atoms_spec (ws := wd_X10_isNumber) B.pre
  have hown : s.vm.findClass RX10 = some m.cls := findClass_of_methodNamed B.named
  have hlocks := B.notSynchronized
  have hK := hL.1
  have hD : ∀ g, va_D A (wo ad NSr g) := fun g => wo_D hL.2.1 hL.2.2 g
  have hS : va_S A s.heap s.heap [] := va_S.rf
  have bk0 : ∀ w ∈ u_ws RX10 TX10 29, w ∈ wd_X10_isNumber := fun _ h => List.mem_cons_of_mem _ (List.mem_append_right _ (List.mem_append_left _ h))
  have bk1 : ∀ w ∈ wd_X10_is, w ∈ wd_X10_isNumber := fun _ h => List.mem_cons_of_mem _ (List.mem_append_right _ (List.mem_append_right _ (List.mem_append_left _ h)))
  have hl := lv_entry ([.ref (ad 0), .int (nI a), .long (lN v9)]) (n := 4) (Nat.le_of_ble_eq_true rfl)
  rw [lg_entry_eq]
  generalize (lg_sl ([.ref (ad 0), .int (nI a), .long (lN v9)]) ++ List.replicate (4 - (lg_sl ([.ref (ad 0), .int (nI a), .long (lN v9)])).length) Slot.unset).toArray = ls at hl ⊢
  have hl : lv_has ls 4 [(0, .ref (ad 0)), (1, .int (nI a)), (2, .long (lN v9))] := hl
  have hF0 := hF
  obtain ⟨vf, hV, hq⟩ := hF
  have hc_1 := hV
  obtain ⟨pnz_2, lnz_2, bnz_2, hRz_2, hvz_2⟩ := hc_1
  obtain ⟨r_3, r_4, r_5, r_6, r_7, r_8, r_9⟩ := hRz_2
  obtain ⟨p_10, p_11, p_12, p_13, p_14, p_15, hpt_16⟩ := hPt
  obtain ⟨m0, m1, m2, m3, m4, m5, m6⟩ := hM a ia
  refine lv_aload_n hx hb dX10_isNumber_0 rfl (lv_at hl 0 rfl) ?_
  refine m_get (D := (dC, dI)) (v := .ref (ad 5)) (C := RX10) (T := TX10) (N := 29) hx hb hts bk0 hown hK hP 0 (by decide) r_3 rfl 7 (by decide) (hts (.fieldLink RX10 29 "GradientDeskModel" "sort" "[I") (List.mem_of_getElem? (i := 1) rfl)) (fun _ h9 => h9) rfl dX10_isNumber_1 ?_
  refine lv_iload_n hx hb dX10_isNumber_4 rfl (lv_at hl 1 rfl) ?_
  refine m_iald hx hb hK hP 5 (by decide) rfl p_10 (i := a) (by omega) (by decide) dX10_isNumber_5 ?_
  have b_17 := (hpt_16 0) a
  refine lv_if_ne (tgt := 22) hx hb dX10_isNumber_6 (by decide) (fun c_18 => ?_) (fun c_18 => ?_)
  · have c_18 := mt (k_iEQ (a := (pt 0) a) (b := 0) rfl (show nI 0 = iI 0 from by decide) (by omega) (by omega)).mpr c_18
    refine lv_iconst (v := nI 0) hx hb dX10_isNumber_22 (by decide +kernel) ?_
    have hs0 : (gd L a).1 ≠ 0 := by omega
    refine W.widen (k := 0) (n := 0) (by omega) (by omega) ?_
    exact W.zret (v := nI 0) hx hb hr (by decide +kernel) (fun t9 ht9 hW9 => ⟨⟨nI 0, (), rfl, Or.inr ⟨rfl, by unfold isN; simp [hs0]⟩, by show va_P (dC, dI) vwCl _ t9.heap; rw [ht9]; exact hP⟩, hS.F ht9⟩) hS.2.2 dX10_isNumber_23
  · have c_18 := (k_iEQ (a := (pt 0) a) (b := 0) rfl (show nI 0 = iI 0 from by decide) (by omega) (by omega)).mp c_18
    refine lv_aload_n hx hb dX10_isNumber_9 rfl (lv_at hl 0 rfl) ?_
    refine lv_iload_n hx hb dX10_isNumber_10 rfl (lv_at hl 1 rfl) ?_
    refine lv_lload_n hx hb dX10_isNumber_11 rfl (lv_at hl 2 rfl) ?_
    refine va_calli (va_runV (As := [.int (nI a), .long (lN v9)]) (rest := []) ⟨hx, hb, hml, hown, hts⟩ (c_X10_is l dC dI A ad cA g x pf qf a v9 hF0 (by omega) hv9) (cwV 2 hts (goodIn_app (goodIn_r [Cond.methodLink RX10 167 yX10_is, Cond.instanceMethod yX10_is, Cond.selects RX10 yX10_is yX10_is, Cond.initialized RX10] [2, 3, 4, 5] rfl rfl) (goodIn_sub (fun w9 h9 => bk1 w9 h9) gw_X10_is)) rfl rfl rfl (by decide +kernel) ⟨Nat.le_of_ble_eq_true rfl, Nat.le_of_ble_eq_true rfl⟩) ⟨fun a U g mk q => ⟨q.1, q.2.1, q.2.2.1, LY.moved (u := U) (U := U.calling g mk a) (Vm.Alike.refl U.vm) q.2.2.2⟩, va_recv hK hP (ci := 13) (q0 := 0) rfl (wo_at (by decide) r_3), fun U hU hW => ⟨rfl, by rw [hU]; exact fun q h => hA q (Nat.le_trans hS.1 h), by rw [hU]; exact hP, LY.moved hW.alike hL⟩⟩ rfl rfl hl.1 rfl (lv_room (Nat.le_of_ble_eq_true rfl)) dX10_isNumber_12 ⟨(Nat.le_of_ble_eq_true rfl), (Nat.le_of_ble_eq_true rfl)⟩) hS (fun q _ h => h) (fun q h => h) (fun r_19 u8 t8 H1 locs ht8 hvm8 hw_20 hB hz1 hk1 hS => ?_)
    obtain ⟨⟩ := u8
    try dsimp only at hw_20 hB
    rw [ht8] at hB
    have hP := hB
    generalize H1 = H at hP hS ⊢
    rcases hw_20 with ⟨rfl, his⟩ | ⟨rfl, his⟩
    · skip
      refine lv_if_eq (tgt := 22) hx hb dX10_isNumber_15 (by decide) (fun c_21 => absurd c_21 (by decide)) (fun c_21 => ?_)
      refine lv_iconst (v := nI 1) hx hb dX10_isNumber_18 (by decide +kernel) ?_
      refine lv_goto (tgt := 23) hx hb dX10_isNumber_19 (by decide) ?_
      have hs0 : (gd L a).1 = 0 := by omega
      rw [(m6 hs0).1, (m6 hs0).2] at his
      refine W.widen (k := 0) (n := 0) (by omega) (by omega) ?_
      exact W.zret (v := nI 1) hx hb hr (by decide +kernel) (fun t9 ht9 hW9 => ⟨⟨nI 1, (), rfl, Or.inl ⟨rfl, by unfold isN; simp [hs0, his.1, his.2]⟩, by show va_P (dC, dI) vwCl _ t9.heap; rw [ht9]; exact hP⟩, hS.F ht9⟩) hS.2.2 dX10_isNumber_23
    · skip
      refine lv_if_eq (tgt := 22) hx hb dX10_isNumber_15 (by decide) (fun c_22 => ?_) (fun c_22 => absurd c_22 (by decide))
      refine lv_iconst (v := nI 0) hx hb dX10_isNumber_22 (by decide +kernel) ?_
      have hs0 : (gd L a).1 = 0 := by omega
      rw [(m6 hs0).1, (m6 hs0).2] at his
      refine W.widen (k := 0) (n := 0) (by omega) (by omega) ?_
      exact W.zret (v := nI 0) hx hb hr (by decide +kernel) (fun t9 ht9 hW9 => ⟨⟨nI 0, (), rfl, Or.inr ⟨rfl, by unfold isN; rw [hs0]; exact k_isf his⟩, by show va_P (dC, dI) vwCl _ t9.heap; rw [ht9]; exact hP⟩, hS.F ht9⟩) hS.2.2 dX10_isNumber_23
end
section
theorem k_fb {p u : Int} {q w sn sd : Nat} (h1 : p = u) (h2 : q = w) (hb : bl u.natAbs ≤ sn) (hq : w = 1 ∨ bl w = sd) (h3 : sn ≤ 400) (h4 : sd ≤ 400) : p.natAbs < 2 ^ 1200 ∧ q < 2 ^ 1200 := by
  subst h1; subst h2
  refine ⟨bl_le.mp (by omega), ?_⟩
  rcases hq with h | h
  · rw [h]; exact Nat.one_lt_two_pow (by decide)
  · exact bl_le.mp (by omega)
end
