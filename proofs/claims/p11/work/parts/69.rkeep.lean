def wd_X10_keep : List Cond := .code yX10_keep cX10_keep 4 (some .int) :: (([.fieldLink RX10 146 "GradientDeskModel" "fault" "I", .fieldLink RX10 149 "GradientDeskModel" "made" "I", .fieldLink RX10 38 "GradientDeskModel" "degree" "[I", .fieldLink RX10 41 "GradientDeskModel" "sizeN" "[I", .fieldLink RX10 44 "GradientDeskModel" "sizeD" "[I", .fieldLink RX10 29 "GradientDeskModel" "sort" "[I", .methodLink RX10 136 yX10_copyFraction, .instanceMethod yX10_copyFraction, .selects RX10 yX10_copyFraction yX10_copyFraction, .initialized RX10, .fieldLink RX10 32 "GradientDeskModel" "first" "[I", .fieldLink RX10 35 "GradientDeskModel" "second" "[I", .methodLink RX10 152 yX10_areSame, .instanceMethod yX10_areSame, .selects RX10 yX10_areSame yX10_areSame] : List Cond) ++ (u_ws RX10 TX10 29 ++ (wd_X10_copyFraction ++ (wd_X10_areSame ++ ([])))))
theorem gw_X10_keep : wd_X10_keep.all goodWord = true := k_allc rfl (k_all (by decide +kernel) (k_all (gu_X10) (k_all (gw_X10_copyFraction) (k_all (gw_X10_areSame) (rfl)))))
set_option maxHeartbeats 4000000 in
set_option maxRecDepth 100000 in
theorem c_X10_keep (l : Launch) (dC : Nat → ClassId) (dI : Nat → Nat → Nat) (A : Nat → Prop) (ad : Nat → Nat) (cA : Nat → ClassId) (g : Nat → va_E) (x : Nat → Int32) (pf : Nat → Int) (qf : Nat → Nat) (pt : Nat → Nat → Int) (L : List PD) (ds : PD) (hF : RF ad cA g x pf qf) (hPt : PTF cA g pt) (hM : MT L pt pf qf) (hmd : x 3 = nI L.length) (hL2 : L.length ≤ 200) (hft : x 4 = iI 0) (hd0 : pt 0 L.length = (ds.1 : Nat)) (hd1 : pt 1 L.length = ds.2.1) (hd2 : pt 2 L.length = ds.2.2.1) (hd3 : pt 3 L.length = (ds.2.2.2.1 : Nat)) (hd4 : pt 4 L.length = (ds.2.2.2.2.1 : Nat)) (hd5 : pt 5 L.length = (ds.2.2.2.2.2.1 : Nat)) (hdn : ds.1 = 0 → pf 1011 = ds.2.2.2.2.2.2.1 ∧ qf 1011 = ds.2.2.2.2.2.2.2) : Met l yX10_keep wd_X10_keep ({ frames := 50, cells := 0, slots := 0, locals := 1000 }) (va_Pc [.ref (ad 0)] (PR NSr tyr dC dI A ad cA g)) (va_Qi (fun (r : Int32) => fun (u : (Nat → va_E) × (Nat → Int32) × (Nat → Nat → Int) × (Nat → Int) × (Nat → Nat)) => match u with | (g2, x2, pt2, pf2, qf2) => (∀ k, k ≠ 0 ∧ k ≠ 1 ∧ k ≠ 2 ∧ k ≠ 3 ∧ k ≠ 5 ∧ k ≠ 6 ∧ k ≠ 7 ∧ k ≠ 8 ∧ k ≠ 9 ∧ k ≠ 10 → g2 k = g k) ∧ MKP ad cA g2 x x2 pf qf (keepL L ds) r pt2 pf2 qf2) (fun (u : (Nat → va_E) × (Nat → Int32) × (Nat → Nat → Int) × (Nat → Int) × (Nat → Nat)) (t : State) => va_P (dC, dI) vwCl (wo ad NSr u.1) t.heap) A) (0) (0) A := by
  refine Met.ofW (cc := cX10_keep) (maxL := 4) (ret := (some .int)) (by decide) rfl ?_
  intro p e s m args below meth c s₁ B hml hv
  obtain ⟨rfl, hA, hP, hL⟩ := hv
  have hx := B.exec
  have hb := B.bytes
  have hr := B.returns
  have hts := atoms_spec (ws := wd_X10_keep) B.pre
  have hown : s.vm.findClass RX10 = some m.cls := findClass_of_methodNamed B.named
  have hlocks := B.notSynchronized
  have hK := hL.1
  have hD : ∀ g, va_D A (wo ad NSr g) := fun g => wo_D hL.2.1 hL.2.2 g
  have hS : va_S A s.heap s.heap [] := va_S.rf
  have bk0 : ∀ w ∈ u_ws RX10 TX10 29, w ∈ wd_X10_keep := fun _ h => List.mem_cons_of_mem _ (List.mem_append_right _ (List.mem_append_left _ h))
  have bk1 : ∀ w ∈ wd_X10_copyFraction, w ∈ wd_X10_keep := fun _ h => List.mem_cons_of_mem _ (List.mem_append_right _ (List.mem_append_right _ (List.mem_append_left _ h)))
  have bk2 : ∀ w ∈ wd_X10_areSame, w ∈ wd_X10_keep := fun _ h => List.mem_cons_of_mem _ (List.mem_append_right _ (List.mem_append_right _ (List.mem_append_right _ (List.mem_append_left _ h))))
  have hl := lv_entry ([.ref (ad 0)]) (n := 4) (Nat.le_of_ble_eq_true rfl)
  rw [lg_entry_eq]
  generalize (lg_sl ([.ref (ad 0)]) ++ List.replicate (4 - (lg_sl ([.ref (ad 0)])).length) Slot.unset).toArray = ls at hl ⊢
  have hl : lv_has ls 4 [(0, .ref (ad 0))] := hl
  have hF0 := hF
  obtain ⟨vf, hV, hq⟩ := hF
  have hc_1 := hV
  obtain ⟨pnz_2, lnz_2, bnz_2, hRz_2, hvz_2⟩ := hc_1
  obtain ⟨r_3, r_4, r_5, r_6, r_7, r_8, r_9⟩ := hRz_2
  obtain ⟨p_10, p_11, p_12, p_13, p_14, p_15, hpt_16⟩ := hPt
  have hb3 := hpt_16 3 L.length
  have hb4 := hpt_16 4 L.length
  have hb5 := hpt_16 5 L.length
  refine lv_aload_n hx hb dX10_keep_0 rfl (lv_at hl 0 rfl) ?_
  refine m_get (D := (dC, dI)) (v := .int (iI 0)) (C := RX10) (T := TX10) (N := 29) hx hb hts bk0 hown hK hP 0 (by decide) r_3 rfl 14 (by decide) (hts (.fieldLink RX10 146 "GradientDeskModel" "fault" "I") (List.mem_of_getElem? (i := 1) rfl)) (fun _ h9 => h9) (congrArg (fun z => some (Value.int z)) hft) dX10_keep_1 ?_
  refine lv_if_ge (tgt := 9) hx hb dX10_keep_4 (by decide) (fun c_17 => ?_) (fun c_17 => absurd (mt (k_iLE (a := 0) (b := 0) (show nI 0 = iI 0 from by decide) rfl (by omega) (by omega)).mpr c_17) (by omega))
  refine lv_aload_n hx hb dX10_keep_9 rfl (lv_at hl 0 rfl) ?_
  refine m_get (D := (dC, dI)) (v := .int (nI L.length)) (C := RX10) (T := TX10) (N := 29) hx hb hts bk0 hown hK hP 0 (by decide) r_3 rfl 13 (by decide) (hts (.fieldLink RX10 149 "GradientDeskModel" "made" "I") (List.mem_of_getElem? (i := 2) rfl)) (fun _ h9 => h9) (congrArg (fun z => some (Value.int z)) hmd) dX10_keep_10 ?_
  refine lv_istore_n (lv' := [(1, .int (nI L.length)), (0, .ref (ad 0))]) hx hb dX10_keep_13 rfl hl (by decide) rfl (fun ls hl => ?_)
  refine lv_aload_n hx hb dX10_keep_14 rfl (lv_at hl 1 rfl) ?_
  refine m_get (D := (dC, dI)) (v := .ref (ad 8)) (C := RX10) (T := TX10) (N := 29) hx hb hts bk0 hown hK hP 0 (by decide) r_3 rfl 10 (by decide) (hts (.fieldLink RX10 38 "GradientDeskModel" "degree" "[I") (List.mem_of_getElem? (i := 3) rfl)) (fun _ h9 => h9) rfl dX10_keep_15 ?_
  refine lv_iload_n hx hb dX10_keep_18 rfl (lv_at hl 0 rfl) ?_
  refine m_iald hx hb hK hP 8 (by decide) rfl p_13 (i := L.length) (by omega) (by decide) dX10_keep_19 ?_
  have b_18 := (hpt_16 3) L.length
  refine lv_bipush (v := nI 8) hx hb dX10_keep_20 (by decide +kernel) ?_
  refine lv_icmp_gt (tgt := 49) hx hb dX10_keep_22 (by decide) (fun c_19 => ?_) (fun c_19 => ?_)
  · have c_19 := (k_iLT (a := 8) (b := (pt 3) L.length) (show nI 8 = iI 8 from by decide) rfl (by omega) (by omega)).mp c_19
    refine lv_aload_n hx hb dX10_keep_49 rfl (lv_at hl 1 rfl) ?_
    refine lv_bipush (v := -3) hx hb dX10_keep_50 (by decide +kernel) ?_
    refine m_put (D := (dC, dI)) (v := .int (-3)) (tv := .int) (C := RX10) (T := TX10) (N := 29) hx hb hts bk0 tyX10 tyX10_ok nmX10 hown hK hP hD hS 0 (by decide) r_3 rfl 14 (by decide) (hts (.fieldLink RX10 146 "GradientDeskModel" "fault" "I") (List.mem_of_getElem? (i := 1) rfl)) (fun _ h9 => h9) rfl (by decide +kernel) rfl rfl (Nat.le_of_ble_eq_true rfl) dX10_keep_52 (fun H locs g_20 f_21 fr_22 hP hS => ?_)
    have f_21 : g_20 0 = .inr (13, Rob ad (va_up x 4 (-3))) := f_21
    refine lv_iconst (v := -1) hx hb dX10_keep_55 (by decide +kernel) ?_
    have f_23 : g_20 5 = .inl (cA 5, 201, .inl (fun j => iI ((pt 0) j))) := (fr_22 5 (by omega)).trans p_10
    have f_24 : g_20 6 = .inl (cA 6, 201, .inl (fun j => iI ((pt 1) j))) := (fr_22 6 (by omega)).trans p_11
    have f_25 : g_20 7 = .inl (cA 7, 201, .inl (fun j => iI ((pt 2) j))) := (fr_22 7 (by omega)).trans p_12
    have f_26 : g_20 8 = .inl (cA 8, 201, .inl (fun j => iI ((pt 3) j))) := (fr_22 8 (by omega)).trans p_13
    have f_27 : g_20 9 = .inl (cA 9, 201, .inl (fun j => iI ((pt 4) j))) := (fr_22 9 (by omega)).trans p_14
    have f_28 : g_20 10 = .inl (cA 10, 201, .inl (fun j => iI ((pt 5) j))) := (fr_22 10 (by omega)).trans p_15
    refine W.widen (k := 0) (n := 0) (by omega) (by omega) ?_
    exact W.iret (v := -1) hx hb hr (fun t9 ht9 hW9 => ⟨⟨-1, (g_20, va_up x 4 (-3), pt, pf, qf), rfl, ⟨(fun (k : Nat) (hk : k ≠ 0 ∧ k ≠ 1 ∧ k ≠ 2 ∧ k ≠ 3 ∧ k ≠ 5 ∧ k ≠ 6 ∧ k ≠ 7 ∧ k ≠ 8 ∧ k ≠ 9 ∧ k ≠ 10) => (fr_22 k (by omega)).trans (rfl)), MKP.bad (keepL_big (by omega)) (Or.inl rfl) (hF0.setx (fun (k : Nat) (hk : k = 1 ∨ k = 2 ∨ k = 3) => (fr_22 k (by omega)).trans (rfl)) f_21 rfl) ⟨f_23, f_24, f_25, f_26, f_27, f_28, hpt_16⟩ hM hL2 (by rw [va_up_ne _ _ (by decide)]; exact hmd) (fun j h3 h4 => va_up_ne _ _ h4) (by rw [va_up_self]; decide)⟩, by show va_P (dC, dI) vwCl _ t9.heap; rw [ht9]; exact hP⟩, hS.F ht9⟩) hS.2.2 dX10_keep_56
  · have c_19 := mt (k_iLT (a := 8) (b := (pt 3) L.length) (show nI 8 = iI 8 from by decide) rfl (by omega) (by omega)).mpr c_19
    refine lv_aload_n hx hb dX10_keep_25 rfl (lv_at hl 1 rfl) ?_
    refine m_get (D := (dC, dI)) (v := .ref (ad 9)) (C := RX10) (T := TX10) (N := 29) hx hb hts bk0 hown hK hP 0 (by decide) r_3 rfl 11 (by decide) (hts (.fieldLink RX10 41 "GradientDeskModel" "sizeN" "[I") (List.mem_of_getElem? (i := 4) rfl)) (fun _ h9 => h9) rfl dX10_keep_26 ?_
    refine lv_iload_n hx hb dX10_keep_29 rfl (lv_at hl 0 rfl) ?_
    refine m_iald hx hb hK hP 9 (by decide) rfl p_14 (i := L.length) (by omega) (by decide) dX10_keep_30 ?_
    have b_29 := (hpt_16 4) L.length
    refine lv_sipush (v := nI 400) hx hb dX10_keep_31 (by decide +kernel) ?_
    refine lv_icmp_gt (tgt := 49) hx hb dX10_keep_34 (by decide) (fun c_30 => ?_) (fun c_30 => ?_)
    · have c_30 := (k_iLT (a := 400) (b := (pt 4) L.length) (show nI 400 = iI 400 from by decide) rfl (by omega) (by omega)).mp c_30
      refine lv_aload_n hx hb dX10_keep_49 rfl (lv_at hl 1 rfl) ?_
      refine lv_bipush (v := -3) hx hb dX10_keep_50 (by decide +kernel) ?_
      refine m_put (D := (dC, dI)) (v := .int (-3)) (tv := .int) (C := RX10) (T := TX10) (N := 29) hx hb hts bk0 tyX10 tyX10_ok nmX10 hown hK hP hD hS 0 (by decide) r_3 rfl 14 (by decide) (hts (.fieldLink RX10 146 "GradientDeskModel" "fault" "I") (List.mem_of_getElem? (i := 1) rfl)) (fun _ h9 => h9) rfl (by decide +kernel) rfl rfl (Nat.le_of_ble_eq_true rfl) dX10_keep_52 (fun H locs g_31 f_32 fr_33 hP hS => ?_)
      have f_32 : g_31 0 = .inr (13, Rob ad (va_up x 4 (-3))) := f_32
      refine lv_iconst (v := -1) hx hb dX10_keep_55 (by decide +kernel) ?_
      have f_34 : g_31 5 = .inl (cA 5, 201, .inl (fun j => iI ((pt 0) j))) := (fr_33 5 (by omega)).trans p_10
      have f_35 : g_31 6 = .inl (cA 6, 201, .inl (fun j => iI ((pt 1) j))) := (fr_33 6 (by omega)).trans p_11
      have f_36 : g_31 7 = .inl (cA 7, 201, .inl (fun j => iI ((pt 2) j))) := (fr_33 7 (by omega)).trans p_12
      have f_37 : g_31 8 = .inl (cA 8, 201, .inl (fun j => iI ((pt 3) j))) := (fr_33 8 (by omega)).trans p_13
      have f_38 : g_31 9 = .inl (cA 9, 201, .inl (fun j => iI ((pt 4) j))) := (fr_33 9 (by omega)).trans p_14
      have f_39 : g_31 10 = .inl (cA 10, 201, .inl (fun j => iI ((pt 5) j))) := (fr_33 10 (by omega)).trans p_15
      refine W.widen (k := 0) (n := 0) (by omega) (by omega) ?_
      exact W.iret (v := -1) hx hb hr (fun t9 ht9 hW9 => ⟨⟨-1, (g_31, va_up x 4 (-3), pt, pf, qf), rfl, ⟨(fun (k : Nat) (hk : k ≠ 0 ∧ k ≠ 1 ∧ k ≠ 2 ∧ k ≠ 3 ∧ k ≠ 5 ∧ k ≠ 6 ∧ k ≠ 7 ∧ k ≠ 8 ∧ k ≠ 9 ∧ k ≠ 10) => (fr_33 k (by omega)).trans (rfl)), MKP.bad (keepL_big (by omega)) (Or.inl rfl) (hF0.setx (fun (k : Nat) (hk : k = 1 ∨ k = 2 ∨ k = 3) => (fr_33 k (by omega)).trans (rfl)) f_32 rfl) ⟨f_34, f_35, f_36, f_37, f_38, f_39, hpt_16⟩ hM hL2 (by rw [va_up_ne _ _ (by decide)]; exact hmd) (fun j h3 h4 => va_up_ne _ _ h4) (by rw [va_up_self]; decide)⟩, by show va_P (dC, dI) vwCl _ t9.heap; rw [ht9]; exact hP⟩, hS.F ht9⟩) hS.2.2 dX10_keep_56
    · have c_30 := mt (k_iLT (a := 400) (b := (pt 4) L.length) (show nI 400 = iI 400 from by decide) rfl (by omega) (by omega)).mpr c_30
      refine lv_aload_n hx hb dX10_keep_37 rfl (lv_at hl 1 rfl) ?_
      refine m_get (D := (dC, dI)) (v := .ref (ad 10)) (C := RX10) (T := TX10) (N := 29) hx hb hts bk0 hown hK hP 0 (by decide) r_3 rfl 12 (by decide) (hts (.fieldLink RX10 44 "GradientDeskModel" "sizeD" "[I") (List.mem_of_getElem? (i := 5) rfl)) (fun _ h9 => h9) rfl dX10_keep_38 ?_
      refine lv_iload_n hx hb dX10_keep_41 rfl (lv_at hl 0 rfl) ?_
      refine m_iald hx hb hK hP 10 (by decide) rfl p_15 (i := L.length) (by omega) (by decide) dX10_keep_42 ?_
      have b_40 := (hpt_16 5) L.length
      refine lv_sipush (v := nI 400) hx hb dX10_keep_43 (by decide +kernel) ?_
      refine lv_icmp_le (tgt := 57) hx hb dX10_keep_46 (by decide) (fun c_41 => ?_) (fun c_41 => ?_)
      · have c_41 := (k_iLE (a := (pt 5) L.length) (b := 400) rfl (show nI 400 = iI 400 from by decide) (by omega) (by omega)).mp c_41
        refine lv_iconst (v := nI 0) hx hb dX10_keep_57 (by decide +kernel) ?_
        refine lv_istore_n (lv' := [(2, .int (nI 0)), (1, .int (nI L.length)), (0, .ref (ad 0))]) hx hb dX10_keep_58 rfl hl (by decide) rfl (fun ls hl => ?_)
        have loop_42 : ∀ (k9 : Nat) (i : Nat), 300 - i < k9 → (i ≤ L.length) → (∀ j, j < i → pky (gd L j) ds = false) → ∀ (H : Heap) (locs : List Loc) (ls : Array Slot), va_P (dC, dI) vwCl (wo ad NSr g) H → va_S A s.heap H locs → lv_has ls 4 [(0, .ref (ad 0)), (1, .int (nI L.length)), (2, .int (nI i))] → W p l e (headSpec wd_X10_keep ({ frames := 50, cells := 0, slots := 0, locals := 1000 })).room s m ([.ref (ad 0)] : List Value).toArray below meth c H locs (0) (0) (MQ below (va_Qi (fun (r : Int32) => fun (u : (Nat → va_E) × (Nat → Int32) × (Nat → Nat → Int) × (Nat → Int) × (Nat → Nat)) => match u with | (g2, x2, pt2, pf2, qf2) => (∀ k, k ≠ 0 ∧ k ≠ 1 ∧ k ≠ 2 ∧ k ≠ 3 ∧ k ≠ 5 ∧ k ≠ 6 ∧ k ≠ 7 ∧ k ≠ 8 ∧ k ≠ 9 ∧ k ≠ 10 → g2 k = g k) ∧ MKP ad cA g2 x x2 pf qf (keepL L ds) r pt2 pf2 qf2) (fun (u : (Nat → va_E) × (Nat → Int32) × (Nat → Nat → Int) × (Nat → Int) × (Nat → Nat)) (t : State) => va_P (dC, dI) vwCl (wo ad NSr u.1) t.heap) A) ([.ref (ad 0)] : List Value).toArray s (0) (0) A) (F0 m 59 ls []) := by
          intro k9
          induction k9 with
          | zero => intro i h9; exact absurd h9 (Nat.not_lt_zero _)
          | succ k9 ih_43 =>
            intro i h9 hi hno H locs ls hP hS hl
            refine lv_iload_n hx hb dX10_keep_59 rfl (lv_at hl 2 rfl) ?_
            refine lv_aload_n hx hb dX10_keep_60 rfl (lv_at hl 0 rfl) ?_
            refine m_get (D := (dC, dI)) (v := .int (nI L.length)) (C := RX10) (T := TX10) (N := 29) hx hb hts bk0 hown hK hP 0 (by decide) r_3 rfl 13 (by decide) (hts (.fieldLink RX10 149 "GradientDeskModel" "made" "I") (List.mem_of_getElem? (i := 2) rfl)) (fun _ h9 => h9) (congrArg (fun z => some (Value.int z)) hmd) dX10_keep_61 ?_
            refine lv_icmp_ge (tgt := 150) hx hb dX10_keep_64 (by decide) (fun c_46 => ?_) (fun c_46 => ?_)
            · have c_46 := (nI_leI (a := L.length) (b := i) (by omega) (by omega)).mp c_46
              refine lv_aload_n hx hb dX10_keep_150 rfl (lv_at hl 0 rfl) ?_
              refine m_get (D := (dC, dI)) (v := .int (nI L.length)) (C := RX10) (T := TX10) (N := 29) hx hb hts bk0 hown hK hP 0 (by decide) r_3 rfl 13 (by decide) (hts (.fieldLink RX10 149 "GradientDeskModel" "made" "I") (List.mem_of_getElem? (i := 2) rfl)) (fun _ h9 => h9) (congrArg (fun z => some (Value.int z)) hmd) dX10_keep_151 ?_
              refine lv_sipush (v := nI 200) hx hb dX10_keep_154 (by decide +kernel) ?_
              refine lv_icmp_ne (tgt := 168) hx hb dX10_keep_157 (by decide) (fun c_47 => ?_) (fun c_47 => ?_)
              · have c_47 := mt (nI_eq (a := L.length) (b := 200) (by omega) (by decide)).mpr c_47
                refine lv_aload_n hx hb dX10_keep_168 rfl (lv_at hl 0 rfl) ?_
                refine m_get (D := (dC, dI)) (v := .ref (ad 5)) (C := RX10) (T := TX10) (N := 29) hx hb hts bk0 hown hK hP 0 (by decide) r_3 rfl 7 (by decide) (hts (.fieldLink RX10 29 "GradientDeskModel" "sort" "[I") (List.mem_of_getElem? (i := 6) rfl)) (fun _ h9 => h9) rfl dX10_keep_169 ?_
                refine lv_iload_n hx hb dX10_keep_172 rfl (lv_at hl 1 rfl) ?_
                refine m_iald hx hb hK hP 5 (by decide) rfl p_10 (i := L.length) (by omega) (by decide) dX10_keep_173 ?_
                have b_48 := (hpt_16 0) L.length
                refine lv_if_ne (tgt := 185) hx hb dX10_keep_174 (by decide) (fun c_49 => ?_) (fun c_49 => ?_)
                · have c_49 := mt (k_iEQ (a := (pt 0) L.length) (b := 0) rfl (show nI 0 = iI 0 from by decide) (by omega) (by omega)).mpr c_49
                  refine lv_aload_n hx hb dX10_keep_185 rfl (lv_at hl 0 rfl) ?_
                  refine lv_dup hx hb dX10_keep_186 rfl ?_
                  refine m_get (D := (dC, dI)) (v := .int (nI L.length)) (C := RX10) (T := TX10) (N := 29) hx hb hts bk0 hown hK hP 0 (by decide) r_3 rfl 13 (by decide) (hts (.fieldLink RX10 149 "GradientDeskModel" "made" "I") (List.mem_of_getElem? (i := 2) rfl)) (fun _ h9 => h9) (congrArg (fun z => some (Value.int z)) hmd) dX10_keep_187 ?_
                  refine lv_iconst (v := nI 1) hx hb dX10_keep_190 (by decide +kernel) ?_
                  refine lv_iadd hx hb dX10_keep_191 ?_
                  refine lv_topi (fun x_50 e_51 => ?_)
                  obtain rfl : x_50 = nI (L.length + 1) := e_51.trans (nI_add L.length 1)
                  refine m_put (D := (dC, dI)) (v := .int (nI (L.length + 1))) (tv := .int) (C := RX10) (T := TX10) (N := 29) hx hb hts bk0 tyX10 tyX10_ok nmX10 hown hK hP hD hS 0 (by decide) r_3 rfl 13 (by decide) (hts (.fieldLink RX10 149 "GradientDeskModel" "made" "I") (List.mem_of_getElem? (i := 2) rfl)) (fun _ h9 => h9) rfl (by decide +kernel) rfl rfl (Nat.le_of_ble_eq_true rfl) dX10_keep_192 (fun H locs g_52 f_53 fr_54 hP hS => ?_)
                  have f_53 : g_52 0 = .inr (13, Rob ad (va_up x 3 (nI (L.length + 1)))) := f_53
                  refine lv_iload_n hx hb dX10_keep_195 rfl (lv_at hl 1 rfl) ?_
                  have f_55 : g_52 5 = .inl (cA 5, 201, .inl (fun j => iI ((pt 0) j))) := (fr_54 5 (by omega)).trans p_10
                  have f_56 : g_52 6 = .inl (cA 6, 201, .inl (fun j => iI ((pt 1) j))) := (fr_54 6 (by omega)).trans p_11
                  have f_57 : g_52 7 = .inl (cA 7, 201, .inl (fun j => iI ((pt 2) j))) := (fr_54 7 (by omega)).trans p_12
                  have f_58 : g_52 8 = .inl (cA 8, 201, .inl (fun j => iI ((pt 3) j))) := (fr_54 8 (by omega)).trans p_13
                  have f_59 : g_52 9 = .inl (cA 9, 201, .inl (fun j => iI ((pt 4) j))) := (fr_54 9 (by omega)).trans p_14
                  have f_60 : g_52 10 = .inl (cA 10, 201, .inl (fun j => iI ((pt 5) j))) := (fr_54 10 (by omega)).trans p_15
                  have hMn : MT (L ++ [ds]) pt (pf) (qf) := MT.app hM hd0 hd1 hd2 hd3 hd4 hd5 (fun h9 => absurd h9 (by omega)) (fun _ _ => ⟨rfl, rfl⟩)
                  refine W.widen (k := 0) (n := 0) (by omega) (by omega) ?_
                  exact W.iret (v := nI L.length) hx hb hr (fun t9 ht9 hW9 => ⟨⟨nI L.length, (g_52, va_up x 3 (nI (L.length + 1)), pt, pf, qf), rfl, ⟨(fun (k : Nat) (hk : k ≠ 0 ∧ k ≠ 1 ∧ k ≠ 2 ∧ k ≠ 3 ∧ k ≠ 5 ∧ k ≠ 6 ∧ k ≠ 7 ∧ k ≠ 8 ∧ k ≠ 9 ∧ k ≠ 10) => (fr_54 k (by omega)).trans (rfl)), MKP.new (keepL_new (by omega) (by omega) (fun j hj => hno j (by omega))) (by omega) (hF0.setx (fun (k : Nat) (hk : k = 1 ∨ k = 2 ∨ k = 3) => (fr_54 k (by omega)).trans (rfl)) f_53 rfl) ⟨f_55, f_56, f_57, f_58, f_59, f_60, hpt_16⟩ hMn (by rw [va_up_self]) (fun j h3 h4 => va_up_ne _ _ h3) (fun _ _ => ⟨rfl, rfl⟩) (by rw [va_up_ne _ _ (by decide)]; exact hft)⟩, by show va_P (dC, dI) vwCl _ t9.heap; rw [ht9]; exact hP⟩, hS.F ht9⟩) hS.2.2 dX10_keep_196
                · have c_49 := (k_iEQ (a := (pt 0) L.length) (b := 0) rfl (show nI 0 = iI 0 from by decide) (by omega) (by omega)).mp c_49
                  refine lv_aload_n hx hb dX10_keep_177 rfl (lv_at hl 0 rfl) ?_
                  refine lv_iload_n hx hb dX10_keep_178 rfl (lv_at hl 1 rfl) ?_
                  refine lv_sipush (v := nI 1011) hx hb dX10_keep_179 (by decide +kernel) ?_
                  refine va_callv (va_runV (As := [.int (nI L.length), .int (nI 1011)]) (rest := []) ⟨hx, hb, hml, hown, hts⟩ (c_X10_copyFraction l dC dI A ad cA g x pf qf L.length 1011 hF0 (by omega) (by decide)) (cwV 2 hts (goodIn_app (goodIn_r [Cond.methodLink RX10 136 yX10_copyFraction, Cond.instanceMethod yX10_copyFraction, Cond.selects RX10 yX10_copyFraction yX10_copyFraction, Cond.initialized RX10] [7, 8, 9, 10] rfl rfl) (goodIn_sub (fun w9 h9 => bk1 w9 h9) gw_X10_copyFraction)) rfl rfl rfl (by decide +kernel) ⟨Nat.le_of_ble_eq_true rfl, Nat.le_of_ble_eq_true rfl⟩) ⟨fun a U g mk q => ⟨q.1, q.2.1, q.2.2.1, LY.moved (u := U) (U := U.calling g mk a) (Vm.Alike.refl U.vm) q.2.2.2⟩, va_recv hK hP (ci := 13) (q0 := 0) rfl (wo_at (by decide) r_3), fun U hU hW => ⟨rfl, by rw [hU]; exact fun q h => hA q (Nat.le_trans hS.1 h), by rw [hU]; exact hP, LY.moved hW.alike hL⟩⟩ rfl rfl hl.1 rfl (lv_room (Nat.le_of_ble_eq_true rfl)) dX10_keep_182 ⟨(Nat.le_of_ble_eq_true rfl), (Nat.le_of_ble_eq_true rfl)⟩) hS (fun q _ h => h) (fun q h => h) (fun u8 t8 H1 locs ht8 hvm8 hw_61 hB hz1 hk1 hS => ?_)
                  obtain ⟨g_62, rfl⟩ : ∃ z, z = u8 := ⟨_, rfl⟩
                  try dsimp only at hw_61 hB
                  rw [ht8] at hB
                  have hP := hB
                  generalize H1 = H at hP hS ⊢
                  obtain ⟨fr_63, hF2⟩ := hw_61
                  have hF3 := hF2
                  refine lv_aload_n hx hb dX10_keep_185 rfl (lv_at hl 0 rfl) ?_
                  refine lv_dup hx hb dX10_keep_186 rfl ?_
                  have f_64 : g_62 0 = .inr (13, Rob ad x) := (fr_63 0 (by omega)).trans r_3
                  refine m_get (D := (dC, dI)) (v := .int (nI L.length)) (C := RX10) (T := TX10) (N := 29) hx hb hts bk0 hown hK hP 0 (by decide) f_64 rfl 13 (by decide) (hts (.fieldLink RX10 149 "GradientDeskModel" "made" "I") (List.mem_of_getElem? (i := 2) rfl)) (fun _ h9 => h9) (congrArg (fun z => some (Value.int z)) hmd) dX10_keep_187 ?_
                  refine lv_iconst (v := nI 1) hx hb dX10_keep_190 (by decide +kernel) ?_
                  refine lv_iadd hx hb dX10_keep_191 ?_
                  refine lv_topi (fun x_65 e_66 => ?_)
                  obtain rfl : x_65 = nI (L.length + 1) := e_66.trans (nI_add L.length 1)
                  refine m_put (D := (dC, dI)) (v := .int (nI (L.length + 1))) (tv := .int) (C := RX10) (T := TX10) (N := 29) hx hb hts bk0 tyX10 tyX10_ok nmX10 hown hK hP hD hS 0 (by decide) f_64 rfl 13 (by decide) (hts (.fieldLink RX10 149 "GradientDeskModel" "made" "I") (List.mem_of_getElem? (i := 2) rfl)) (fun _ h9 => h9) rfl (by decide +kernel) rfl rfl (Nat.le_of_ble_eq_true rfl) dX10_keep_192 (fun H locs g_67 f_68 fr_69 hP hS => ?_)
                  have f_68 : g_67 0 = .inr (13, Rob ad (va_up x 3 (nI (L.length + 1)))) := f_68
                  refine lv_iload_n hx hb dX10_keep_195 rfl (lv_at hl 1 rfl) ?_
                  have f_70 : g_67 5 = .inl (cA 5, 201, .inl (fun j => iI ((pt 0) j))) := (fr_69 5 (by omega)).trans ((fr_63 5 (by omega)).trans p_10)
                  have f_71 : g_67 6 = .inl (cA 6, 201, .inl (fun j => iI ((pt 1) j))) := (fr_69 6 (by omega)).trans ((fr_63 6 (by omega)).trans p_11)
                  have f_72 : g_67 7 = .inl (cA 7, 201, .inl (fun j => iI ((pt 2) j))) := (fr_69 7 (by omega)).trans ((fr_63 7 (by omega)).trans p_12)
                  have f_73 : g_67 8 = .inl (cA 8, 201, .inl (fun j => iI ((pt 3) j))) := (fr_69 8 (by omega)).trans ((fr_63 8 (by omega)).trans p_13)
                  have f_74 : g_67 9 = .inl (cA 9, 201, .inl (fun j => iI ((pt 4) j))) := (fr_69 9 (by omega)).trans ((fr_63 9 (by omega)).trans p_14)
                  have f_75 : g_67 10 = .inl (cA 10, 201, .inl (fun j => iI ((pt 5) j))) := (fr_69 10 (by omega)).trans ((fr_63 10 (by omega)).trans p_15)
                  have hMn : MT (L ++ [ds]) pt (va_up pf L.length (pf 1011)) (va_up qf L.length (qf 1011)) := MT.app hM hd0 hd1 hd2 hd3 hd4 hd5 (fun h9 => ⟨by rw [va_up_self]; exact (hdn h9).1, by rw [va_up_self]; exact (hdn h9).2⟩) (fun j hj => ⟨va_up_ne _ _ hj, va_up_ne _ _ hj⟩)
                  refine W.widen (k := 0) (n := 0) (by omega) (by omega) ?_
                  exact W.iret (v := nI L.length) hx hb hr (fun t9 ht9 hW9 => ⟨⟨nI L.length, (g_67, va_up x 3 (nI (L.length + 1)), pt, va_up pf L.length (pf 1011), va_up qf L.length (qf 1011)), rfl, ⟨(fun (k : Nat) (hk : k ≠ 0 ∧ k ≠ 1 ∧ k ≠ 2 ∧ k ≠ 3 ∧ k ≠ 5 ∧ k ≠ 6 ∧ k ≠ 7 ∧ k ≠ 8 ∧ k ≠ 9 ∧ k ≠ 10) => (fr_69 k (by omega)).trans ((fr_63 k (by omega)).trans (rfl))), MKP.new (keepL_new (by omega) (by omega) (fun j hj => hno j (by omega))) (by omega) (hF3.setx (fun (k : Nat) (hk : k = 1 ∨ k = 2 ∨ k = 3) => (fr_69 k (by omega)).trans (rfl)) f_68 rfl) ⟨f_70, f_71, f_72, f_73, f_74, f_75, hpt_16⟩ hMn (by rw [va_up_self]) (fun j h3 h4 => va_up_ne _ _ h3) (fun j hj => ⟨va_up_ne _ _ hj, va_up_ne _ _ hj⟩) (by rw [va_up_ne _ _ (by decide)]; exact hft)⟩, by show va_P (dC, dI) vwCl _ t9.heap; rw [ht9]; exact hP⟩, hS.F ht9⟩) hS.2.2 dX10_keep_196
              · have c_47 := (nI_eq (a := L.length) (b := 200) (by omega) (by decide)).mp c_47
                refine lv_aload_n hx hb dX10_keep_160 rfl (lv_at hl 0 rfl) ?_
                refine lv_bipush (v := -4) hx hb dX10_keep_161 (by decide +kernel) ?_
                refine m_put (D := (dC, dI)) (v := .int (-4)) (tv := .int) (C := RX10) (T := TX10) (N := 29) hx hb hts bk0 tyX10 tyX10_ok nmX10 hown hK hP hD hS 0 (by decide) r_3 rfl 14 (by decide) (hts (.fieldLink RX10 146 "GradientDeskModel" "fault" "I") (List.mem_of_getElem? (i := 1) rfl)) (fun _ h9 => h9) rfl (by decide +kernel) rfl rfl (Nat.le_of_ble_eq_true rfl) dX10_keep_163 (fun H locs g_76 f_77 fr_78 hP hS => ?_)
                have f_77 : g_76 0 = .inr (13, Rob ad (va_up x 4 (-4))) := f_77
                refine lv_iconst (v := -1) hx hb dX10_keep_166 (by decide +kernel) ?_
                have f_79 : g_76 5 = .inl (cA 5, 201, .inl (fun j => iI ((pt 0) j))) := (fr_78 5 (by omega)).trans p_10
                have f_80 : g_76 6 = .inl (cA 6, 201, .inl (fun j => iI ((pt 1) j))) := (fr_78 6 (by omega)).trans p_11
                have f_81 : g_76 7 = .inl (cA 7, 201, .inl (fun j => iI ((pt 2) j))) := (fr_78 7 (by omega)).trans p_12
                have f_82 : g_76 8 = .inl (cA 8, 201, .inl (fun j => iI ((pt 3) j))) := (fr_78 8 (by omega)).trans p_13
                have f_83 : g_76 9 = .inl (cA 9, 201, .inl (fun j => iI ((pt 4) j))) := (fr_78 9 (by omega)).trans p_14
                have f_84 : g_76 10 = .inl (cA 10, 201, .inl (fun j => iI ((pt 5) j))) := (fr_78 10 (by omega)).trans p_15
                refine W.widen (k := 0) (n := 0) (by omega) (by omega) ?_
                exact W.iret (v := -1) hx hb hr (fun t9 ht9 hW9 => ⟨⟨-1, (g_76, va_up x 4 (-4), pt, pf, qf), rfl, ⟨(fun (k : Nat) (hk : k ≠ 0 ∧ k ≠ 1 ∧ k ≠ 2 ∧ k ≠ 3 ∧ k ≠ 5 ∧ k ≠ 6 ∧ k ≠ 7 ∧ k ≠ 8 ∧ k ≠ 9 ∧ k ≠ 10) => (fr_78 k (by omega)).trans (rfl)), MKP.bad (keepL_full (by omega) (by omega) (fun j hj => hno j (by omega))) (Or.inr rfl) (hF0.setx (fun (k : Nat) (hk : k = 1 ∨ k = 2 ∨ k = 3) => (fr_78 k (by omega)).trans (rfl)) f_77 rfl) ⟨f_79, f_80, f_81, f_82, f_83, f_84, hpt_16⟩ hM hL2 (by rw [va_up_ne _ _ (by decide)]; exact hmd) (fun j h3 h4 => va_up_ne _ _ h4) (by rw [va_up_self]; decide)⟩, by show va_P (dC, dI) vwCl _ t9.heap; rw [ht9]; exact hP⟩, hS.F ht9⟩) hS.2.2 dX10_keep_167
            · have c_46 := mt (nI_leI (a := L.length) (b := i) (by omega) (by omega)).mpr c_46
              obtain ⟨m0, m1, m2, m3, m4, m5, m6⟩ := hM i (by omega)
              refine lv_aload_n hx hb dX10_keep_67 rfl (lv_at hl 0 rfl) ?_
              refine m_get (D := (dC, dI)) (v := .ref (ad 5)) (C := RX10) (T := TX10) (N := 29) hx hb hts bk0 hown hK hP 0 (by decide) r_3 rfl 7 (by decide) (hts (.fieldLink RX10 29 "GradientDeskModel" "sort" "[I") (List.mem_of_getElem? (i := 6) rfl)) (fun _ h9 => h9) rfl dX10_keep_68 ?_
              refine lv_iload_n hx hb dX10_keep_71 rfl (lv_at hl 2 rfl) ?_
              refine m_iald hx hb hK hP 5 (by decide) rfl p_10 (i := i) (by omega) (by decide) dX10_keep_72 ?_
              have b_85 := (hpt_16 0) i
              refine lv_aload_n hx hb dX10_keep_73 rfl (lv_at hl 0 rfl) ?_
              refine m_get (D := (dC, dI)) (v := .ref (ad 5)) (C := RX10) (T := TX10) (N := 29) hx hb hts bk0 hown hK hP 0 (by decide) r_3 rfl 7 (by decide) (hts (.fieldLink RX10 29 "GradientDeskModel" "sort" "[I") (List.mem_of_getElem? (i := 6) rfl)) (fun _ h9 => h9) rfl dX10_keep_74 ?_
              refine lv_iload_n hx hb dX10_keep_77 rfl (lv_at hl 1 rfl) ?_
              refine m_iald hx hb hK hP 5 (by decide) rfl p_10 (i := L.length) (by omega) (by decide) dX10_keep_78 ?_
              have b_86 := (hpt_16 0) L.length
              refine lv_icmp_ne (tgt := 116) hx hb dX10_keep_79 (by decide) (fun c_87 => ?_) (fun c_87 => ?_)
              · have c_87 := mt (k_iEQ (a := (pt 0) i) (b := (pt 0) L.length) rfl rfl (by omega) (by omega)).mpr c_87
                refine lv_iconst (v := nI 0) hx hb dX10_keep_116 (by decide +kernel) ?_
                refine lv_istore_n (lv' := [(3, .int (nI 0)), (0, .ref (ad 0)), (1, .int (nI L.length)), (2, .int (nI i))]) hx hb dX10_keep_117 rfl hl (by decide) rfl (fun ls hl => ?_)
                refine lv_iload_n hx hb dX10_keep_118 rfl (lv_at hl 0 rfl) ?_
                refine lv_if_eq (tgt := 144) hx hb dX10_keep_119 (by decide) (fun c_88 => ?_) (fun c_88 => absurd c_88 (by decide))
                refine lv_iinc (v := nI (i + 1)) (lv' := [(2, .int (nI (i + 1))), (3, .int (nI 0)), (0, .ref (ad 0)), (1, .int (nI L.length))]) hx hb dX10_keep_144 hl (k := 3) rfl (nI_add i 1) (by decide) rfl (fun ls hl => ?_)
                refine lv_goto (tgt := 59) hx hb dX10_keep_147 (by decide) ?_
                exact ih_43 (i + 1) (by omega) (by omega) (fun j hj => by by_cases h9 : j = i; subst h9; exact (k_nky m0 m1 m2 hd0 hd1 hd2 (fun h0 h1 h2 => (by omega : False).elim)); exact hno j (by omega)) _ _ _ hP hS (lv_sub (l' := [(0, .ref (ad 0)), (1, .int (nI L.length)), (2, .int (nI (i + 1)))]) hl [2, 3, 0] rfl)
              · have c_87 := (k_iEQ (a := (pt 0) i) (b := (pt 0) L.length) rfl rfl (by omega) (by omega)).mp c_87
                refine lv_aload_n hx hb dX10_keep_82 rfl (lv_at hl 0 rfl) ?_
                refine m_get (D := (dC, dI)) (v := .ref (ad 6)) (C := RX10) (T := TX10) (N := 29) hx hb hts bk0 hown hK hP 0 (by decide) r_3 rfl 8 (by decide) (hts (.fieldLink RX10 32 "GradientDeskModel" "first" "[I") (List.mem_of_getElem? (i := 11) rfl)) (fun _ h9 => h9) rfl dX10_keep_83 ?_
                refine lv_iload_n hx hb dX10_keep_86 rfl (lv_at hl 2 rfl) ?_
                refine m_iald hx hb hK hP 6 (by decide) rfl p_11 (i := i) (by omega) (by decide) dX10_keep_87 ?_
                have b_91 := (hpt_16 1) i
                refine lv_aload_n hx hb dX10_keep_88 rfl (lv_at hl 0 rfl) ?_
                refine m_get (D := (dC, dI)) (v := .ref (ad 6)) (C := RX10) (T := TX10) (N := 29) hx hb hts bk0 hown hK hP 0 (by decide) r_3 rfl 8 (by decide) (hts (.fieldLink RX10 32 "GradientDeskModel" "first" "[I") (List.mem_of_getElem? (i := 11) rfl)) (fun _ h9 => h9) rfl dX10_keep_89 ?_
                refine lv_iload_n hx hb dX10_keep_92 rfl (lv_at hl 1 rfl) ?_
                refine m_iald hx hb hK hP 6 (by decide) rfl p_11 (i := L.length) (by omega) (by decide) dX10_keep_93 ?_
                have b_92 := (hpt_16 1) L.length
                refine lv_icmp_ne (tgt := 116) hx hb dX10_keep_94 (by decide) (fun c_93 => ?_) (fun c_93 => ?_)
                · have c_93 := mt (k_iEQ (a := (pt 1) i) (b := (pt 1) L.length) rfl rfl (by omega) (by omega)).mpr c_93
                  refine lv_iconst (v := nI 0) hx hb dX10_keep_116 (by decide +kernel) ?_
                  refine lv_istore_n (lv' := [(3, .int (nI 0)), (0, .ref (ad 0)), (1, .int (nI L.length)), (2, .int (nI i))]) hx hb dX10_keep_117 rfl hl (by decide) rfl (fun ls hl => ?_)
                  refine lv_iload_n hx hb dX10_keep_118 rfl (lv_at hl 0 rfl) ?_
                  refine lv_if_eq (tgt := 144) hx hb dX10_keep_119 (by decide) (fun c_94 => ?_) (fun c_94 => absurd c_94 (by decide))
                  refine lv_iinc (v := nI (i + 1)) (lv' := [(2, .int (nI (i + 1))), (3, .int (nI 0)), (0, .ref (ad 0)), (1, .int (nI L.length))]) hx hb dX10_keep_144 hl (k := 3) rfl (nI_add i 1) (by decide) rfl (fun ls hl => ?_)
                  refine lv_goto (tgt := 59) hx hb dX10_keep_147 (by decide) ?_
                  exact ih_43 (i + 1) (by omega) (by omega) (fun j hj => by by_cases h9 : j = i; subst h9; exact (k_nky m0 m1 m2 hd0 hd1 hd2 (fun h0 h1 h2 => (by omega : False).elim)); exact hno j (by omega)) _ _ _ hP hS (lv_sub (l' := [(0, .ref (ad 0)), (1, .int (nI L.length)), (2, .int (nI (i + 1)))]) hl [2, 3, 0] rfl)
                · have c_93 := (k_iEQ (a := (pt 1) i) (b := (pt 1) L.length) rfl rfl (by omega) (by omega)).mp c_93
                  refine lv_aload_n hx hb dX10_keep_97 rfl (lv_at hl 0 rfl) ?_
                  refine m_get (D := (dC, dI)) (v := .ref (ad 7)) (C := RX10) (T := TX10) (N := 29) hx hb hts bk0 hown hK hP 0 (by decide) r_3 rfl 9 (by decide) (hts (.fieldLink RX10 35 "GradientDeskModel" "second" "[I") (List.mem_of_getElem? (i := 12) rfl)) (fun _ h9 => h9) rfl dX10_keep_98 ?_
                  refine lv_iload_n hx hb dX10_keep_101 rfl (lv_at hl 2 rfl) ?_
                  refine m_iald hx hb hK hP 7 (by decide) rfl p_12 (i := i) (by omega) (by decide) dX10_keep_102 ?_
                  have b_97 := (hpt_16 2) i
                  refine lv_aload_n hx hb dX10_keep_103 rfl (lv_at hl 0 rfl) ?_
                  refine m_get (D := (dC, dI)) (v := .ref (ad 7)) (C := RX10) (T := TX10) (N := 29) hx hb hts bk0 hown hK hP 0 (by decide) r_3 rfl 9 (by decide) (hts (.fieldLink RX10 35 "GradientDeskModel" "second" "[I") (List.mem_of_getElem? (i := 12) rfl)) (fun _ h9 => h9) rfl dX10_keep_104 ?_
                  refine lv_iload_n hx hb dX10_keep_107 rfl (lv_at hl 1 rfl) ?_
                  refine m_iald hx hb hK hP 7 (by decide) rfl p_12 (i := L.length) (by omega) (by decide) dX10_keep_108 ?_
                  have b_98 := (hpt_16 2) L.length
                  refine lv_icmp_ne (tgt := 116) hx hb dX10_keep_109 (by decide) (fun c_99 => ?_) (fun c_99 => ?_)
                  · have c_99 := mt (k_iEQ (a := (pt 2) i) (b := (pt 2) L.length) rfl rfl (by omega) (by omega)).mpr c_99
                    refine lv_iconst (v := nI 0) hx hb dX10_keep_116 (by decide +kernel) ?_
                    refine lv_istore_n (lv' := [(3, .int (nI 0)), (0, .ref (ad 0)), (1, .int (nI L.length)), (2, .int (nI i))]) hx hb dX10_keep_117 rfl hl (by decide) rfl (fun ls hl => ?_)
                    refine lv_iload_n hx hb dX10_keep_118 rfl (lv_at hl 0 rfl) ?_
                    refine lv_if_eq (tgt := 144) hx hb dX10_keep_119 (by decide) (fun c_100 => ?_) (fun c_100 => absurd c_100 (by decide))
                    refine lv_iinc (v := nI (i + 1)) (lv' := [(2, .int (nI (i + 1))), (3, .int (nI 0)), (0, .ref (ad 0)), (1, .int (nI L.length))]) hx hb dX10_keep_144 hl (k := 3) rfl (nI_add i 1) (by decide) rfl (fun ls hl => ?_)
                    refine lv_goto (tgt := 59) hx hb dX10_keep_147 (by decide) ?_
                    exact ih_43 (i + 1) (by omega) (by omega) (fun j hj => by by_cases h9 : j = i; subst h9; exact (k_nky m0 m1 m2 hd0 hd1 hd2 (fun h0 h1 h2 => (by omega : False).elim)); exact hno j (by omega)) _ _ _ hP hS (lv_sub (l' := [(0, .ref (ad 0)), (1, .int (nI L.length)), (2, .int (nI (i + 1)))]) hl [2, 3, 0] rfl)
                  · have c_99 := (k_iEQ (a := (pt 2) i) (b := (pt 2) L.length) rfl rfl (by omega) (by omega)).mp c_99
                    refine lv_iconst (v := nI 1) hx hb dX10_keep_112 (by decide +kernel) ?_
                    refine lv_goto (tgt := 117) hx hb dX10_keep_113 (by decide) ?_
                    refine lv_istore_n (lv' := [(3, .int (nI 1)), (0, .ref (ad 0)), (1, .int (nI L.length)), (2, .int (nI i))]) hx hb dX10_keep_117 rfl hl (by decide) rfl (fun ls hl => ?_)
                    refine lv_iload_n hx hb dX10_keep_118 rfl (lv_at hl 0 rfl) ?_
                    refine lv_if_eq (tgt := 144) hx hb dX10_keep_119 (by decide) (fun c_103 => absurd c_103 (by decide)) (fun c_103 => ?_)
                    refine lv_aload_n hx hb dX10_keep_122 rfl (lv_at hl 1 rfl) ?_
                    refine m_get (D := (dC, dI)) (v := .ref (ad 5)) (C := RX10) (T := TX10) (N := 29) hx hb hts bk0 hown hK hP 0 (by decide) r_3 rfl 7 (by decide) (hts (.fieldLink RX10 29 "GradientDeskModel" "sort" "[I") (List.mem_of_getElem? (i := 6) rfl)) (fun _ h9 => h9) rfl dX10_keep_123 ?_
                    refine lv_iload_n hx hb dX10_keep_126 rfl (lv_at hl 3 rfl) ?_
                    refine m_iald hx hb hK hP 5 (by decide) rfl p_10 (i := i) (by omega) (by decide) dX10_keep_127 ?_
                    have b_104 := (hpt_16 0) i
                    refine lv_if_ne (tgt := 142) hx hb dX10_keep_128 (by decide) (fun c_105 => ?_) (fun c_105 => ?_)
                    · have c_105 := mt (k_iEQ (a := (pt 0) i) (b := 0) rfl (show nI 0 = iI 0 from by decide) (by omega) (by omega)).mpr c_105
                      refine lv_iload_n hx hb dX10_keep_142 rfl (lv_at hl 3 rfl) ?_
                      refine W.widen (k := 0) (n := 0) (by omega) (by omega) ?_
                      exact W.iret (v := nI i) hx hb hr (fun t9 ht9 hW9 => ⟨⟨nI i, (g, x, pt, pf, qf), rfl, ⟨(fun (k : Nat) (hk : k ≠ 0 ∧ k ≠ 1 ∧ k ≠ 2 ∧ k ≠ 3 ∧ k ≠ 5 ∧ k ≠ 6 ∧ k ≠ 7 ∧ k ≠ 8 ∧ k ≠ 9 ∧ k ≠ 10) => rfl), MKP.old (keepL_old (by omega) (by omega) (k_ky m0 m1 m2 hd0 hd1 hd2 (by omega) (by omega) (by omega) (fun h9 => absurd h9 (by omega))) hno) (by omega) hF0 ⟨p_10, p_11, p_12, p_13, p_14, p_15, hpt_16⟩ hM hL2 hmd hft⟩, by show va_P (dC, dI) vwCl _ t9.heap; rw [ht9]; exact hP⟩, hS.F ht9⟩) hS.2.2 dX10_keep_143
                    · have c_105 := (k_iEQ (a := (pt 0) i) (b := 0) rfl (show nI 0 = iI 0 from by decide) (by omega) (by omega)).mp c_105
                      refine lv_aload_n hx hb dX10_keep_131 rfl (lv_at hl 1 rfl) ?_
                      refine lv_iload_n hx hb dX10_keep_132 rfl (lv_at hl 3 rfl) ?_
                      refine lv_sipush (v := nI 1011) hx hb dX10_keep_133 (by decide +kernel) ?_
                      refine va_calli (va_runV (As := [.int (nI i), .int (nI 1011)]) (rest := []) ⟨hx, hb, hml, hown, hts⟩ (c_X10_areSame l dC dI A ad cA g x pf qf i 1011 hF0 (by omega) (by decide)) (cwV 2 hts (goodIn_app (goodIn_r [Cond.methodLink RX10 152 yX10_areSame, Cond.instanceMethod yX10_areSame, Cond.selects RX10 yX10_areSame yX10_areSame, Cond.initialized RX10] [13, 14, 15, 10] rfl rfl) (goodIn_sub (fun w9 h9 => bk2 w9 h9) gw_X10_areSame)) rfl rfl rfl (by decide +kernel) ⟨Nat.le_of_ble_eq_true rfl, Nat.le_of_ble_eq_true rfl⟩) ⟨fun a U g mk q => ⟨q.1, q.2.1, q.2.2.1, LY.moved (u := U) (U := U.calling g mk a) (Vm.Alike.refl U.vm) q.2.2.2⟩, va_recv hK hP (ci := 13) (q0 := 0) rfl (wo_at (by decide) r_3), fun U hU hW => ⟨rfl, by rw [hU]; exact fun q h => hA q (Nat.le_trans hS.1 h), by rw [hU]; exact hP, LY.moved hW.alike hL⟩⟩ rfl rfl hl.1 rfl (lv_room (Nat.le_of_ble_eq_true rfl)) dX10_keep_136 ⟨(Nat.le_of_ble_eq_true rfl), (Nat.le_of_ble_eq_true rfl)⟩) hS (fun q _ h => h) (fun q h => h) (fun r_106 u8 t8 H1 locs ht8 hvm8 hw_107 hB hz1 hk1 hS => ?_)
                      obtain ⟨⟩ := u8
                      try dsimp only at hw_107 hB
                      rw [ht8] at hB
                      have hP := hB
                      generalize H1 = H at hP hS ⊢
                      rcases hw_107 with ⟨rfl, hsm⟩ | ⟨rfl, hsm⟩
                      · skip
                        refine lv_if_eq (tgt := 144) hx hb dX10_keep_139 (by decide) (fun c_108 => absurd c_108 (by decide)) (fun c_108 => ?_)
                        refine lv_iload_n hx hb dX10_keep_142 rfl (lv_at hl 3 rfl) ?_
                        refine W.widen (k := 0) (n := 0) (by omega) (by omega) ?_
                        exact W.iret (v := nI i) hx hb hr (fun t9 ht9 hW9 => ⟨⟨nI i, (g, x, pt, pf, qf), rfl, ⟨(fun (k : Nat) (hk : k ≠ 0 ∧ k ≠ 1 ∧ k ≠ 2 ∧ k ≠ 3 ∧ k ≠ 5 ∧ k ≠ 6 ∧ k ≠ 7 ∧ k ≠ 8 ∧ k ≠ 9 ∧ k ≠ 10) => rfl), MKP.old (keepL_old (by omega) (by omega) (k_ky m0 m1 m2 hd0 hd1 hd2 (by omega) (by omega) (by omega) (fun h9 => ⟨by rw [← (m6 (by omega)).1, ← (hdn h9).1]; exact hsm.1, by rw [← (m6 (by omega)).2, ← (hdn h9).2]; exact hsm.2⟩)) hno) (by omega) hF0 ⟨p_10, p_11, p_12, p_13, p_14, p_15, hpt_16⟩ hM hL2 hmd hft⟩, by show va_P (dC, dI) vwCl _ t9.heap; rw [ht9]; exact hP⟩, hS.F ht9⟩) hS.2.2 dX10_keep_143
                      · skip
                        refine lv_if_eq (tgt := 144) hx hb dX10_keep_139 (by decide) (fun c_109 => ?_) (fun c_109 => absurd c_109 (by decide))
                        refine lv_iinc (v := nI (i + 1)) (lv' := [(2, .int (nI (i + 1))), (3, .int (nI 1)), (0, .ref (ad 0)), (1, .int (nI L.length))]) hx hb dX10_keep_144 hl (k := 3) rfl (nI_add i 1) (by decide) rfl (fun ls hl => ?_)
                        refine lv_goto (tgt := 59) hx hb dX10_keep_147 (by decide) ?_
                        exact ih_43 (i + 1) (by omega) (by omega) (fun j hj => by by_cases h9 : j = i; subst h9; exact (k_nky m0 m1 m2 hd0 hd1 hd2 (fun h0 h1 h2 => ⟨by omega, fun hp hq => hsm ⟨by rw [(m6 (by omega)).1, (hdn (by omega)).1]; exact hp, by rw [(m6 (by omega)).2, (hdn (by omega)).2]; exact hq⟩⟩)); exact hno j (by omega)) _ _ _ hP hS (lv_sub (l' := [(0, .ref (ad 0)), (1, .int (nI L.length)), (2, .int (nI (i + 1)))]) hl [2, 3, 0] rfl)
        exact loop_42 _ 0 (Nat.lt_succ_self _) (Nat.zero_le _) (fun j h => absurd h (by omega)) _ _ _ hP hS (lv_sub (l' := [(0, .ref (ad 0)), (1, .int (nI L.length)), (2, .int (nI 0))]) hl [2, 1, 0] rfl)
      · have c_41 := mt (k_iLE (a := (pt 5) L.length) (b := 400) rfl (show nI 400 = iI 400 from by decide) (by omega) (by omega)).mpr c_41
        refine lv_aload_n hx hb dX10_keep_49 rfl (lv_at hl 1 rfl) ?_
        refine lv_bipush (v := -3) hx hb dX10_keep_50 (by decide +kernel) ?_
        refine m_put (D := (dC, dI)) (v := .int (-3)) (tv := .int) (C := RX10) (T := TX10) (N := 29) hx hb hts bk0 tyX10 tyX10_ok nmX10 hown hK hP hD hS 0 (by decide) r_3 rfl 14 (by decide) (hts (.fieldLink RX10 146 "GradientDeskModel" "fault" "I") (List.mem_of_getElem? (i := 1) rfl)) (fun _ h9 => h9) rfl (by decide +kernel) rfl rfl (Nat.le_of_ble_eq_true rfl) dX10_keep_52 (fun H locs g_112 f_113 fr_114 hP hS => ?_)
        have f_113 : g_112 0 = .inr (13, Rob ad (va_up x 4 (-3))) := f_113
        refine lv_iconst (v := -1) hx hb dX10_keep_55 (by decide +kernel) ?_
        have f_115 : g_112 5 = .inl (cA 5, 201, .inl (fun j => iI ((pt 0) j))) := (fr_114 5 (by omega)).trans p_10
        have f_116 : g_112 6 = .inl (cA 6, 201, .inl (fun j => iI ((pt 1) j))) := (fr_114 6 (by omega)).trans p_11
        have f_117 : g_112 7 = .inl (cA 7, 201, .inl (fun j => iI ((pt 2) j))) := (fr_114 7 (by omega)).trans p_12
        have f_118 : g_112 8 = .inl (cA 8, 201, .inl (fun j => iI ((pt 3) j))) := (fr_114 8 (by omega)).trans p_13
        have f_119 : g_112 9 = .inl (cA 9, 201, .inl (fun j => iI ((pt 4) j))) := (fr_114 9 (by omega)).trans p_14
        have f_120 : g_112 10 = .inl (cA 10, 201, .inl (fun j => iI ((pt 5) j))) := (fr_114 10 (by omega)).trans p_15
        refine W.widen (k := 0) (n := 0) (by omega) (by omega) ?_
        exact W.iret (v := -1) hx hb hr (fun t9 ht9 hW9 => ⟨⟨-1, (g_112, va_up x 4 (-3), pt, pf, qf), rfl, ⟨(fun (k : Nat) (hk : k ≠ 0 ∧ k ≠ 1 ∧ k ≠ 2 ∧ k ≠ 3 ∧ k ≠ 5 ∧ k ≠ 6 ∧ k ≠ 7 ∧ k ≠ 8 ∧ k ≠ 9 ∧ k ≠ 10) => (fr_114 k (by omega)).trans (rfl)), MKP.bad (keepL_big (by omega)) (Or.inl rfl) (hF0.setx (fun (k : Nat) (hk : k = 1 ∨ k = 2 ∨ k = 3) => (fr_114 k (by omega)).trans (rfl)) f_113 rfl) ⟨f_115, f_116, f_117, f_118, f_119, f_120, hpt_16⟩ hM hL2 (by rw [va_up_ne _ _ (by decide)]; exact hmd) (fun j h3 h4 => va_up_ne _ _ h4) (by rw [va_up_self]; decide)⟩, by show va_P (dC, dI) vwCl _ t9.heap; rw [ht9]; exact hP⟩, hS.F ht9⟩) hS.2.2 dX10_keep_56
