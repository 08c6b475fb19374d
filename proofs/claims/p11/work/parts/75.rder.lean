def wd_X10_derivativeOf : List Cond := .code yX10_derivativeOf cX10_derivativeOf 8 (some .int) :: (([.fieldLink RX10 32 "GradientDeskModel" "first" "[I", .fieldLink RX10 35 "GradientDeskModel" "second" "[I", .fieldLink RX10 29 "GradientDeskModel" "sort" "[I", .methodLink RX10 177 yX10_makeFraction, .instanceMethod yX10_makeFraction, .selects RX10 yX10_makeFraction yX10_makeFraction, .initialized RX10, .methodLink RX10 218 yX10_makePower, .instanceMethod yX10_makePower, .selects RX10 yX10_makePower yX10_makePower, .methodLink RX10 215 yX10_makeProduct, .instanceMethod yX10_makeProduct, .selects RX10 yX10_makeProduct yX10_makeProduct, .fieldLink RX10 53 "GradientDeskModel" "derived" "[I", .fieldLink RX10 146 "GradientDeskModel" "fault" "I", .methodLink RX10 230 yX10_makeSum, .instanceMethod yX10_makeSum, .selects RX10 yX10_makeSum yX10_makeSum] : List Cond) ++ (u_ws RX10 TX10 29 ++ (wd_X10_makeFraction ++ (wd_X10_makePower ++ (wd_X10_makeProduct ++ (wd_X10_makeProductF ++ (wd_X10_makePowerF ++ (wd_X10_makeSum ++ (wd_X10_makeSumF ++ ([]))))))))))
theorem gw_X10_derivativeOf : wd_X10_derivativeOf.all goodWord = true := k_allc rfl (k_all (by decide +kernel) (k_all (gu_X10) (k_all (gw_X10_makeFraction) (k_all (gw_X10_makePower) (k_all (gw_X10_makeProduct) (k_all (gw_X10_makeProductF) (k_all (gw_X10_makePowerF) (k_all (gw_X10_makeSum) (k_all (gw_X10_makeSumF) (rfl))))))))))
set_option maxHeartbeats 4000000 in
set_option maxRecDepth 100000 in
theorem c_X10_derivativeOf (l : Launch) (dC : Nat → ClassId) (dI : Nat → Nat → Nat) (A : Nat → Prop) (ad : Nat → Nat) (cA : Nat → ClassId) (g : Nat → va_E) (x : Nat → Int32) (pf : Nat → Int) (qf : Nat → Nat) (pt : Nat → Nat → Int) (L : List PD) (k1 : Nat) (v : Nat) (dz : Nat → Int) (dvn : Nat → Nat) (hF : RF ad cA g x pf qf) (hPt : PTF cA g pt) (hM : MT L pt pf qf) (hmd : x 3 = nI L.length) (hL2 : L.length ≤ 200) (hft : x 4 = iI 0) (hW : WFL L) (ik : k1 < L.length) (hv : v ≤ 2) (h13 : g 13 = .inl (cA 13, 200, .inl (fun j => iI (dz j)))) (hd1 : 1 < (gd L k1).1 → dz (gd L k1).2.1.toNat = (dvn (gd L k1).2.1.toNat : Int) ∧ dvn (gd L k1).2.1.toNat < L.length) (hd2 : (gd L k1).1 = 2 ∨ (gd L k1).1 = 3 → dz (gd L k1).2.2.1.toNat = (dvn (gd L k1).2.2.1.toNat : Int) ∧ dvn (gd L k1).2.2.1.toNat < L.length) : Met l yX10_derivativeOf wd_X10_derivativeOf ({ frames := 100, cells := 0, slots := 0, locals := 2000 }) (va_Pc [.ref (ad 0), .int (nI k1), .int (nI v)] (PR NSr tyr dC dI A ad cA g)) (va_Qi (fun (r : Int32) => fun (u : (Nat → va_E) × (Nat → Int32) × (Nat → Nat → Int) × (Nat → Int) × (Nat → Nat)) => match u with | (g2, x2, pt2, pf2, qf2) => (∀ k, k ≠ 0 ∧ k ≠ 1 ∧ k ≠ 2 ∧ k ≠ 3 ∧ k ≠ 5 ∧ k ≠ 6 ∧ k ≠ 7 ∧ k ≠ 8 ∧ k ≠ 9 ∧ k ≠ 10 → g2 k = g k) ∧ MKP ad cA g2 x x2 pf qf (derL L k1 v dvn) r pt2 pf2 qf2) (fun (u : (Nat → va_E) × (Nat → Int32) × (Nat → Nat → Int) × (Nat → Int) × (Nat → Nat)) (t : State) => va_P (dC, dI) vwCl (wo ad NSr u.1) t.heap) A) (0) (0) A := by
  refine Met.ofW (cc := cX10_derivativeOf) (maxL := 8) (ret := (some .int)) (by decide) rfl ?_
  intro p e s m args below meth c s₁ B hml hv
  obtain ⟨rfl, hA, hP, hL⟩ := hv
  have hx := B.exec
  have hb := B.bytes
  have hr := B.returns
  have hts := atoms_spec (ws := wd_X10_derivativeOf) B.pre
  have hown : s.vm.findClass RX10 = some m.cls := findClass_of_methodNamed B.named
  have hlocks := B.notSynchronized
  have hK := hL.1
  have hD : ∀ g, va_D A (wo ad NSr g) := fun g => wo_D hL.2.1 hL.2.2 g
  have hS : va_S A s.heap s.heap [] := va_S.rf
  have bk0 : ∀ w ∈ u_ws RX10 TX10 29, w ∈ wd_X10_derivativeOf := fun _ h => List.mem_cons_of_mem _ (List.mem_append_right _ (List.mem_append_left _ h))
  have bk1 : ∀ w ∈ wd_X10_makeFraction, w ∈ wd_X10_derivativeOf := fun _ h => List.mem_cons_of_mem _ (List.mem_append_right _ (List.mem_append_right _ (List.mem_append_left _ h)))
  have bk2 : ∀ w ∈ wd_X10_makePower, w ∈ wd_X10_derivativeOf := fun _ h => List.mem_cons_of_mem _ (List.mem_append_right _ (List.mem_append_right _ (List.mem_append_right _ (List.mem_append_left _ h))))
  have bk3 : ∀ w ∈ wd_X10_makeProduct, w ∈ wd_X10_derivativeOf := fun _ h => List.mem_cons_of_mem _ (List.mem_append_right _ (List.mem_append_right _ (List.mem_append_right _ (List.mem_append_right _ (List.mem_append_left _ h)))))
  have bk4 : ∀ w ∈ wd_X10_makeProductF, w ∈ wd_X10_derivativeOf := fun _ h => List.mem_cons_of_mem _ (List.mem_append_right _ (List.mem_append_right _ (List.mem_append_right _ (List.mem_append_right _ (List.mem_append_right _ (List.mem_append_left _ h))))))
  have bk5 : ∀ w ∈ wd_X10_makePowerF, w ∈ wd_X10_derivativeOf := fun _ h => List.mem_cons_of_mem _ (List.mem_append_right _ (List.mem_append_right _ (List.mem_append_right _ (List.mem_append_right _ (List.mem_append_right _ (List.mem_append_right _ (List.mem_append_left _ h)))))))
  have bk6 : ∀ w ∈ wd_X10_makeSum, w ∈ wd_X10_derivativeOf := fun _ h => List.mem_cons_of_mem _ (List.mem_append_right _ (List.mem_append_right _ (List.mem_append_right _ (List.mem_append_right _ (List.mem_append_right _ (List.mem_append_right _ (List.mem_append_right _ (List.mem_append_left _ h))))))))
  have bk7 : ∀ w ∈ wd_X10_makeSumF, w ∈ wd_X10_derivativeOf := fun _ h => List.mem_cons_of_mem _ (List.mem_append_right _ (List.mem_append_right _ (List.mem_append_right _ (List.mem_append_right _ (List.mem_append_right _ (List.mem_append_right _ (List.mem_append_right _ (List.mem_append_right _ (List.mem_append_left _ h)))))))))
  have hl := lv_entry ([.ref (ad 0), .int (nI k1), .int (nI v)]) (n := 8) (Nat.le_of_ble_eq_true rfl)
  rw [lg_entry_eq]
  generalize (lg_sl ([.ref (ad 0), .int (nI k1), .int (nI v)]) ++ List.replicate (8 - (lg_sl ([.ref (ad 0), .int (nI k1), .int (nI v)])).length) Slot.unset).toArray = ls at hl ⊢
  have hl : lv_has ls 8 [(0, .ref (ad 0)), (1, .int (nI k1)), (2, .int (nI v))] := hl
  have hF0 := hF
  obtain ⟨vf, hV, hq⟩ := hF
  have hc_1 := hV
  obtain ⟨pnz_2, lnz_2, bnz_2, hRz_2, hvz_2⟩ := hc_1
  obtain ⟨r_3, r_4, r_5, r_6, r_7, r_8, r_9⟩ := hRz_2
  obtain ⟨p_10, p_11, p_12, p_13, p_14, p_15, hpt_16⟩ := hPt
  have hPt0 : PTF cA g pt := ⟨p_10, p_11, p_12, p_13, p_14, p_15, hpt_16⟩
  obtain ⟨m0, m1, m2, -⟩ := hM k1 ik
  have w1 := (hW k1 ik).1
  have bx0 : ∀ j, j ≠ 3 → j ≠ 4 → x j = x j := fun _ _ _ => rfl
  have bp0 : ∀ f, 200 ≤ f → f < 1011 → pf f = pf f ∧ qf f = qf f := fun _ _ _ => ⟨rfl, rfl⟩
  refine lv_aload_n hx hb dX10_derivativeOf_0 rfl (lv_at hl 0 rfl) ?_
  refine m_get (D := (dC, dI)) (v := .ref (ad 6)) (C := RX10) (T := TX10) (N := 29) hx hb hts bk0 hown hK hP 0 (by decide) r_3 rfl 8 (by decide) (hts (.fieldLink RX10 32 "GradientDeskModel" "first" "[I") (List.mem_of_getElem? (i := 1) rfl)) (fun _ h9 => h9) rfl dX10_derivativeOf_1 ?_
  refine lv_iload_n hx hb dX10_derivativeOf_4 rfl (lv_at hl 1 rfl) ?_
  refine m_iald hx hb hK hP 6 (by decide) rfl p_11 (i := k1) (by omega) (by decide) dX10_derivativeOf_5 ?_
  have b_17 := (hpt_16 1) k1
  refine lv_istore_n (lv' := [(3, .int (iI ((pt 1) k1))), (0, .ref (ad 0)), (1, .int (nI k1)), (2, .int (nI v))]) hx hb dX10_derivativeOf_6 rfl hl (by decide) rfl (fun ls hl => ?_)
  refine lv_aload_n hx hb dX10_derivativeOf_7 rfl (lv_at hl 1 rfl) ?_
  refine m_get (D := (dC, dI)) (v := .ref (ad 7)) (C := RX10) (T := TX10) (N := 29) hx hb hts bk0 hown hK hP 0 (by decide) r_3 rfl 9 (by decide) (hts (.fieldLink RX10 35 "GradientDeskModel" "second" "[I") (List.mem_of_getElem? (i := 2) rfl)) (fun _ h9 => h9) rfl dX10_derivativeOf_8 ?_
  refine lv_iload_n hx hb dX10_derivativeOf_11 rfl (lv_at hl 2 rfl) ?_
  refine m_iald hx hb hK hP 7 (by decide) rfl p_12 (i := k1) (by omega) (by decide) dX10_derivativeOf_12 ?_
  have b_18 := (hpt_16 2) k1
  refine lv_istore (lv' := [(4, .int (iI ((pt 2) k1))), (3, .int (iI ((pt 1) k1))), (0, .ref (ad 0)), (1, .int (nI k1)), (2, .int (nI v))]) hx hb dX10_derivativeOf_13 hl (by decide) rfl (fun ls hl => ?_)
  refine lv_aload_n hx hb dX10_derivativeOf_15 rfl (lv_at hl 2 rfl) ?_
  refine m_get (D := (dC, dI)) (v := .ref (ad 5)) (C := RX10) (T := TX10) (N := 29) hx hb hts bk0 hown hK hP 0 (by decide) r_3 rfl 7 (by decide) (hts (.fieldLink RX10 29 "GradientDeskModel" "sort" "[I") (List.mem_of_getElem? (i := 3) rfl)) (fun _ h9 => h9) rfl dX10_derivativeOf_16 ?_
  refine lv_iload_n hx hb dX10_derivativeOf_19 rfl (lv_at hl 3 rfl) ?_
  refine m_iald hx hb hK hP 5 (by decide) rfl p_10 (i := k1) (by omega) (by decide) dX10_derivativeOf_20 ?_
  have b_19 := (hpt_16 0) k1
  refine lv_if_ne (tgt := 31) hx hb dX10_derivativeOf_21 (by decide) (fun c_20 => ?_) (fun c_20 => ?_)
  · have c_20 := mt (k_iEQ (a := (pt 0) k1) (b := 0) rfl (show nI 0 = iI 0 from by decide) (by omega) (by omega)).mpr c_20
    refine lv_aload_n hx hb dX10_derivativeOf_31 rfl (lv_at hl 2 rfl) ?_
    refine m_get (D := (dC, dI)) (v := .ref (ad 5)) (C := RX10) (T := TX10) (N := 29) hx hb hts bk0 hown hK hP 0 (by decide) r_3 rfl 7 (by decide) (hts (.fieldLink RX10 29 "GradientDeskModel" "sort" "[I") (List.mem_of_getElem? (i := 3) rfl)) (fun _ h9 => h9) rfl dX10_derivativeOf_32 ?_
    refine lv_iload_n hx hb dX10_derivativeOf_35 rfl (lv_at hl 3 rfl) ?_
    refine m_iald hx hb hK hP 5 (by decide) rfl p_10 (i := k1) (by omega) (by decide) dX10_derivativeOf_36 ?_
    have b_21 := (hpt_16 0) k1
    refine lv_iconst (v := nI 1) hx hb dX10_derivativeOf_37 (by decide +kernel) ?_
    refine lv_icmp_ne (tgt := 57) hx hb dX10_derivativeOf_38 (by decide) (fun c_22 => ?_) (fun c_22 => ?_)
    · have c_22 := mt (k_iEQ (a := (pt 0) k1) (b := 1) rfl (show nI 1 = iI 1 from by decide) (by omega) (by omega)).mpr c_22
      refine lv_aload_n hx hb dX10_derivativeOf_57 rfl (lv_at hl 2 rfl) ?_
      refine m_get (D := (dC, dI)) (v := .ref (ad 5)) (C := RX10) (T := TX10) (N := 29) hx hb hts bk0 hown hK hP 0 (by decide) r_3 rfl 7 (by decide) (hts (.fieldLink RX10 29 "GradientDeskModel" "sort" "[I") (List.mem_of_getElem? (i := 3) rfl)) (fun _ h9 => h9) rfl dX10_derivativeOf_58 ?_
      refine lv_iload_n hx hb dX10_derivativeOf_61 rfl (lv_at hl 3 rfl) ?_
      refine m_iald hx hb hK hP 5 (by decide) rfl p_10 (i := k1) (by omega) (by decide) dX10_derivativeOf_62 ?_
      have b_23 := (hpt_16 0) k1
      refine lv_iconst (v := nI 2) hx hb dX10_derivativeOf_63 (by decide +kernel) ?_
      refine lv_icmp_ne (tgt := 85) hx hb dX10_derivativeOf_64 (by decide) (fun c_24 => ?_) (fun c_24 => ?_)
      · have c_24 := mt (k_iEQ (a := (pt 0) k1) (b := 2) rfl (show nI 2 = iI 2 from by decide) (by omega) (by omega)).mpr c_24
        refine lv_aload_n hx hb dX10_derivativeOf_85 rfl (lv_at hl 2 rfl) ?_
        refine m_get (D := (dC, dI)) (v := .ref (ad 5)) (C := RX10) (T := TX10) (N := 29) hx hb hts bk0 hown hK hP 0 (by decide) r_3 rfl 7 (by decide) (hts (.fieldLink RX10 29 "GradientDeskModel" "sort" "[I") (List.mem_of_getElem? (i := 3) rfl)) (fun _ h9 => h9) rfl dX10_derivativeOf_86 ?_
        refine lv_iload_n hx hb dX10_derivativeOf_89 rfl (lv_at hl 3 rfl) ?_
        refine m_iald hx hb hK hP 5 (by decide) rfl p_10 (i := k1) (by omega) (by decide) dX10_derivativeOf_90 ?_
        have b_25 := (hpt_16 0) k1
        refine lv_iconst (v := nI 3) hx hb dX10_derivativeOf_91 (by decide +kernel) ?_
        refine lv_icmp_ne (tgt := 143) hx hb dX10_derivativeOf_92 (by decide) (fun c_26 => ?_) (fun c_26 => ?_)
        · have c_26 := mt (k_iEQ (a := (pt 0) k1) (b := 3) rfl (show nI 3 = iI 3 from by decide) (by omega) (by omega)).mpr c_26
          obtain ⟨oa, en, hoa, he2, he9, eoa, een, -⟩ := (hW k1 ik).2.2.2.2.2.2.2.2.2.2 (by omega)
          have ea : pt 1 k1 = ((oa : Nat) : Int) := m1.trans eoa
          have eb : pt 2 k1 = ((en : Nat) : Int) := m2.trans een
          have ta : (gd L k1).2.1.toNat = oa := by rw [eoa, Int.toNat_natCast]
          have tb : (gd L k1).2.2.1.toNat = en := by rw [een, Int.toNat_natCast]
          obtain ⟨da, la⟩ := hd1 (by omega)
          rw [ta] at da la
          rw [ea, eb, ← nI_iI, ← nI_iI] at hl
          refine lv_aload_n hx hb dX10_derivativeOf_143 rfl (lv_at hl 2 rfl) ?_
          refine lv_iload hx hb dX10_derivativeOf_144 (lv_at hl 0 rfl) ?_
          refine lv_i2l hx hb dX10_derivativeOf_146 rfl ?_
          refine lv_topl (fun y_27 e_28 => ?_)
          obtain rfl : y_27 = lN en := e_28.trans (nI_l (by omega))
          refine lv_lconst (v := lN 1) hx hb dX10_derivativeOf_147 (by decide +kernel) ?_
          refine va_calli (va_runV (As := [.long (lN en), .long (lN 1)]) (rest := []) ⟨hx, hb, hml, hown, hts⟩ (c_X10_makeFraction l dC dI A ad cA g x pf qf pt L (lN en) (lN 1) ((en : Nat) : Int) 1 0 hF0 hPt0 hM hmd hL2 hft (Or.inl rfl) (lN_toInt (by omega)) (by omega) (by decide) (by decide) (by decide)) (cwV 2 hts (goodIn_app (goodIn_r [Cond.methodLink RX10 177 yX10_makeFraction, Cond.instanceMethod yX10_makeFraction, Cond.selects RX10 yX10_makeFraction yX10_makeFraction, Cond.initialized RX10] [4, 5, 6, 7] rfl rfl) (goodIn_sub (fun w9 h9 => bk1 w9 h9) gw_X10_makeFraction)) rfl rfl rfl (by decide +kernel) ⟨Nat.le_of_ble_eq_true rfl, Nat.le_of_ble_eq_true rfl⟩) ⟨fun a U g mk q => ⟨q.1, q.2.1, q.2.2.1, LY.moved (u := U) (U := U.calling g mk a) (Vm.Alike.refl U.vm) q.2.2.2⟩, va_recv hK hP (ci := 13) (q0 := 0) rfl (wo_at (by decide) r_3), fun U hU hW => ⟨rfl, by rw [hU]; exact fun q h => hA q (Nat.le_trans hS.1 h), by rw [hU]; exact hP, LY.moved hW.alike hL⟩⟩ rfl rfl hl.1 rfl (lv_room (Nat.le_of_ble_eq_true rfl)) dX10_derivativeOf_148 ⟨(Nat.le_of_ble_eq_true rfl), (Nat.le_of_ble_eq_true rfl)⟩) hS (fun q _ h => h) (fun q h => h) (fun r_29 u8 t8 H1 locs ht8 hvm8 hw_30 hB hz1 hk1 hS => ?_)
          obtain ⟨g_31, x2_32, pt2_33, pf2_34, qf2_35⟩ := u8
          try dsimp only at hw_30 hB
          rw [ht8] at hB
          have hP := hB
          generalize H1 = H at hP hS ⊢
          obtain ⟨fr_36, hK9⟩ := hw_30
          obtain ⟨K_37, eK_37⟩ : ∃ z9, z9 = numL L ((en : Nat) : Int) 1 := ⟨_, rfl⟩
          rw [show (onF 0 (L) (numL L (rdp ((en : Nat) : Int) 1) (rdq ((en : Nat) : Int) 1))) = K_37 from by rw [eK_37]; rw [onF_0, (rdp_1 _).1, (rdp_1 _).2]] at hK9
          obtain ⟨hFK_37, hPtK_37, hMK_37, hlK_37, hmdK_37, hxK_37, hoK_37, hRK_37⟩ := hK9
          have hLEK_37 : LE L K_37.2 := LE.tr LE.rf (by rw [eK_37]; exact numL_le _ _ _)
          have hWK_37 : WFL K_37.2 := by rw [eK_37]; exact numL_wf hW ⟨by decide, Nat.gcd_one_right _⟩
          have hleK_37 := hLEK_37.1
          have hzK_37 : (L).length ≤ K_37.2.length := by rw [eK_37]; exact (numL_le _ _ _).1
          have bxK_37 : ∀ j, j ≠ 3 → j ≠ 4 → x2_32 j = x j := fun j h3 h4 => (hxK_37 j h3 h4).trans (bx0 j h3 h4)
          have bpK_37 : ∀ f, 200 ≤ f → f < 1011 → pf2_34 f = pf f ∧ qf2_35 f = qf f := fun f h1 h2 => ⟨(hoK_37 f h1 h2).1.trans (bp0 f h1 h2).1, (hoK_37 f h1 h2).2.trans (bp0 f h1 h2).2⟩
          rcases hRK_37 with ⟨hnK_37, hmK_37, rfl, hfK_37⟩ | ⟨hnK_37, hmK_37, rfl, hfK_37⟩
          · skip
            obtain ⟨iK_37, hiK_37⟩ : ∃ z9 : Nat, K_37.1 = (z9 : Int) := ⟨K_37.1.toNat, by omega⟩
            have hjK_37 : iK_37 < K_37.2.length := by omega
            rw [hiK_37, ← nI_iI]
            have hc_38 := hPtK_37
            obtain ⟨p_39, p_40, p_41, p_42, p_43, p_44, hpt_45⟩ := hc_38
            have hc_46 := hFK_37
            obtain ⟨vfz_47, hVz_47, hqz_47⟩ := hc_46
            have hc_48 := hVz_47
            obtain ⟨pnz_49, lnz_49, bnz_49, hRz_49, hvz_49⟩ := hc_48
            obtain ⟨r_50, r_51, r_52, r_53, r_54, r_55, r_56⟩ := hRz_49
            refine lv_istore (lv' := [(5, .int (nI iK_37)), (4, .int (nI en)), (3, .int (nI oa)), (0, .ref (ad 0)), (1, .int (nI k1)), (2, .int (nI v))]) hx hb dX10_derivativeOf_151 hl (by decide) rfl (fun ls hl => ?_)
            refine lv_aload_n hx hb dX10_derivativeOf_153 rfl (lv_at hl 3 rfl) ?_
            refine lv_iload_n hx hb dX10_derivativeOf_154 rfl (lv_at hl 2 rfl) ?_
            refine lv_iload hx hb dX10_derivativeOf_155 (lv_at hl 1 rfl) ?_
            refine lv_iconst (v := nI 1) hx hb dX10_derivativeOf_157 (by decide +kernel) ?_
            refine lv_isub hx hb dX10_derivativeOf_158 ?_
            refine lv_topi (fun x_57 e_58 => ?_)
            obtain rfl : x_57 = nI (en - 1) := e_58.trans (pk_sub (show 1 ≤ en by omega))
            refine va_calli (va_runV (As := [.int (nI oa), .int (nI (en - 1))]) (rest := []) ⟨hx, hb, hml, hown, hts⟩ (c_X10_makePower l dC dI A ad cA g_31 x2_32 pf2_34 qf2_35 pt2_33 K_37.2 oa (en - 1) 0 hFK_37 hPtK_37 hMK_37 hmdK_37 hlK_37 hfK_37 (Or.inl rfl) hWK_37 (by omega) (by omega)) (cwV 2 hts (goodIn_app (goodIn_r [Cond.methodLink RX10 218 yX10_makePower, Cond.instanceMethod yX10_makePower, Cond.selects RX10 yX10_makePower yX10_makePower, Cond.initialized RX10] [8, 9, 10, 7] rfl rfl) (goodIn_sub (fun w9 h9 => bk2 w9 h9) gw_X10_makePower)) rfl rfl rfl (by decide +kernel) ⟨Nat.le_of_ble_eq_true rfl, Nat.le_of_ble_eq_true rfl⟩) ⟨fun a U g mk q => ⟨q.1, q.2.1, q.2.2.1, LY.moved (u := U) (U := U.calling g mk a) (Vm.Alike.refl U.vm) q.2.2.2⟩, va_recv hK hP (ci := 13) (q0 := 0) rfl (wo_at (by decide) r_50), fun U hU hW => ⟨rfl, by rw [hU]; exact fun q h => hA q (Nat.le_trans hS.1 h), by rw [hU]; exact hP, LY.moved hW.alike hL⟩⟩ rfl rfl hl.1 rfl (lv_room (Nat.le_of_ble_eq_true rfl)) dX10_derivativeOf_159 ⟨(Nat.le_of_ble_eq_true rfl), (Nat.le_of_ble_eq_true rfl)⟩) hS (fun q _ h => h) (fun q h => h) (fun r_59 u8 t8 H1 locs ht8 hvm8 hw_60 hB hz1 hk1 hS => ?_)
            obtain ⟨g_61, x2_62, pt2_63, pf2_64, qf2_65⟩ := u8
            try dsimp only at hw_60 hB
            rw [ht8] at hB
            have hP := hB
            generalize H1 = H at hP hS ⊢
            obtain ⟨fr_66, hK9⟩ := hw_60
            obtain ⟨K_67, eK_67⟩ : ∃ z9, z9 = powL K_37.2 oa (en - 1) := ⟨_, rfl⟩
            rw [show (onF 0 (K_37.2) (powL K_37.2 oa (en - 1))) = K_67 from by rw [eK_67]; rw [onF_0]] at hK9
            obtain ⟨hFK_67, hPtK_67, hMK_67, hlK_67, hmdK_67, hxK_67, hoK_67, hRK_67⟩ := hK9
            have hLEK_67 : LE L K_67.2 := LE.tr hLEK_37 (by rw [eK_67]; exact powL_le _ _ _)
            have hWK_67 : WFL K_67.2 := by rw [eK_67]; exact powL_wf hWK_37 (by omega) (by omega)
            have hleK_67 := hLEK_67.1
            have hzK_67 : (K_37.2).length ≤ K_67.2.length := by rw [eK_67]; exact (powL_le _ _ _).1
            have bxK_67 : ∀ j, j ≠ 3 → j ≠ 4 → x2_62 j = x j := fun j h3 h4 => (hxK_67 j h3 h4).trans (bxK_37 j h3 h4)
            have bpK_67 : ∀ f, 200 ≤ f → f < 1011 → pf2_64 f = pf f ∧ qf2_65 f = qf f := fun f h1 h2 => ⟨(hoK_67 f h1 h2).1.trans (bpK_37 f h1 h2).1, (hoK_67 f h1 h2).2.trans (bpK_37 f h1 h2).2⟩
            rcases hRK_67 with ⟨hnK_67, hmK_67, rfl, hfK_67⟩ | ⟨hnK_67, hmK_67, rfl, hfK_67⟩
            · skip
              obtain ⟨iK_67, hiK_67⟩ : ∃ z9 : Nat, K_67.1 = (z9 : Int) := ⟨K_67.1.toNat, by omega⟩
              have hjK_67 : iK_67 < K_67.2.length := by omega
              rw [hiK_67, ← nI_iI]
              have hc_68 := hPtK_67
              obtain ⟨p_69, p_70, p_71, p_72, p_73, p_74, hpt_75⟩ := hc_68
              have hc_76 := hFK_67
              obtain ⟨vfz_77, hVz_77, hqz_77⟩ := hc_76
              have hc_78 := hVz_77
              obtain ⟨pnz_79, lnz_79, bnz_79, hRz_79, hvz_79⟩ := hc_78
              obtain ⟨r_80, r_81, r_82, r_83, r_84, r_85, r_86⟩ := hRz_79
              refine lv_istore (lv' := [(6, .int (nI iK_67)), (5, .int (nI iK_37)), (4, .int (nI en)), (3, .int (nI oa)), (0, .ref (ad 0)), (1, .int (nI k1)), (2, .int (nI v))]) hx hb dX10_derivativeOf_162 hl (by decide) rfl (fun ls hl => ?_)
              refine lv_aload_n hx hb dX10_derivativeOf_164 rfl (lv_at hl 4 rfl) ?_
              refine lv_iload hx hb dX10_derivativeOf_165 (lv_at hl 1 rfl) ?_
              refine lv_iload hx hb dX10_derivativeOf_167 (lv_at hl 0 rfl) ?_
              refine va_calli (va_runV (As := [.int (nI iK_37), .int (nI iK_67)]) (rest := []) ⟨hx, hb, hml, hown, hts⟩ (c_X10_makeProduct l dC dI A ad cA g_61 x2_62 pf2_64 qf2_65 pt2_63 K_67.2 iK_37 iK_67 0 hFK_67 hPtK_67 hMK_67 hmdK_67 hlK_67 hfK_67 (Or.inl rfl) hWK_67 (by omega) (by omega)) (cwV 2 hts (goodIn_app (goodIn_r [Cond.methodLink RX10 215 yX10_makeProduct, Cond.instanceMethod yX10_makeProduct, Cond.selects RX10 yX10_makeProduct yX10_makeProduct, Cond.initialized RX10] [11, 12, 13, 7] rfl rfl) (goodIn_sub (fun w9 h9 => bk3 w9 h9) gw_X10_makeProduct)) rfl rfl rfl (by decide +kernel) ⟨Nat.le_of_ble_eq_true rfl, Nat.le_of_ble_eq_true rfl⟩) ⟨fun a U g mk q => ⟨q.1, q.2.1, q.2.2.1, LY.moved (u := U) (U := U.calling g mk a) (Vm.Alike.refl U.vm) q.2.2.2⟩, va_recv hK hP (ci := 13) (q0 := 0) rfl (wo_at (by decide) r_80), fun U hU hW => ⟨rfl, by rw [hU]; exact fun q h => hA q (Nat.le_trans hS.1 h), by rw [hU]; exact hP, LY.moved hW.alike hL⟩⟩ rfl rfl hl.1 rfl (lv_room (Nat.le_of_ble_eq_true rfl)) dX10_derivativeOf_169 ⟨(Nat.le_of_ble_eq_true rfl), (Nat.le_of_ble_eq_true rfl)⟩) hS (fun q _ h => h) (fun q h => h) (fun r_87 u8 t8 H1 locs ht8 hvm8 hw_88 hB hz1 hk1 hS => ?_)
              obtain ⟨g_89, x2_90, pt2_91, pf2_92, qf2_93⟩ := u8
              try dsimp only at hw_88 hB
              rw [ht8] at hB
              have hP := hB
              generalize H1 = H at hP hS ⊢
              obtain ⟨fr_94, hK9⟩ := hw_88
              obtain ⟨K_95, eK_95⟩ : ∃ z9, z9 = prdL K_67.2 iK_37 iK_67 := ⟨_, rfl⟩
              rw [show (onF 0 (K_67.2) (prdL K_67.2 iK_37 iK_67)) = K_95 from by rw [eK_95]; rw [onF_0]] at hK9
              obtain ⟨hFK_95, hPtK_95, hMK_95, hlK_95, hmdK_95, hxK_95, hoK_95, hRK_95⟩ := hK9
              have hLEK_95 : LE L K_95.2 := LE.tr hLEK_67 (by rw [eK_95]; exact prdL_le _ _ _)
              have hWK_95 : WFL K_95.2 := by rw [eK_95]; exact prdL_wf hWK_67 (by omega) (by omega)
              have hleK_95 := hLEK_95.1
              have hzK_95 : (K_67.2).length ≤ K_95.2.length := by rw [eK_95]; exact (prdL_le _ _ _).1
              have bxK_95 : ∀ j, j ≠ 3 → j ≠ 4 → x2_90 j = x j := fun j h3 h4 => (hxK_95 j h3 h4).trans (bxK_67 j h3 h4)
              have bpK_95 : ∀ f, 200 ≤ f → f < 1011 → pf2_92 f = pf f ∧ qf2_93 f = qf f := fun f h1 h2 => ⟨(hoK_95 f h1 h2).1.trans (bpK_67 f h1 h2).1, (hoK_95 f h1 h2).2.trans (bpK_67 f h1 h2).2⟩
              rcases hRK_95 with ⟨hnK_95, hmK_95, rfl, hfK_95⟩ | ⟨hnK_95, hmK_95, rfl, hfK_95⟩
              · skip
                obtain ⟨iK_95, hiK_95⟩ : ∃ z9 : Nat, K_95.1 = (z9 : Int) := ⟨K_95.1.toNat, by omega⟩
                have hjK_95 : iK_95 < K_95.2.length := by omega
                rw [hiK_95, ← nI_iI]
                have hc_96 := hPtK_95
                obtain ⟨p_97, p_98, p_99, p_100, p_101, p_102, hpt_103⟩ := hc_96
                have hc_104 := hFK_95
                obtain ⟨vfz_105, hVz_105, hqz_105⟩ := hc_104
                have hc_106 := hVz_105
                obtain ⟨pnz_107, lnz_107, bnz_107, hRz_107, hvz_107⟩ := hc_106
                obtain ⟨r_108, r_109, r_110, r_111, r_112, r_113, r_114⟩ := hRz_107
                refine lv_istore (lv' := [(7, .int (nI iK_95)), (6, .int (nI iK_67)), (5, .int (nI iK_37)), (4, .int (nI en)), (3, .int (nI oa)), (0, .ref (ad 0)), (1, .int (nI k1)), (2, .int (nI v))]) hx hb dX10_derivativeOf_172 hl (by decide) rfl (fun ls hl => ?_)
                refine lv_aload_n hx hb dX10_derivativeOf_174 rfl (lv_at hl 5 rfl) ?_
                refine lv_iload hx hb dX10_derivativeOf_175 (lv_at hl 0 rfl) ?_
                refine lv_aload_n hx hb dX10_derivativeOf_177 rfl (lv_at hl 5 rfl) ?_
                refine m_get (D := (dC, dI)) (v := .ref (ad 13)) (C := RX10) (T := TX10) (N := 29) hx hb hts bk0 hown hK hP 0 (by decide) r_108 rfl 17 (by decide) (hts (.fieldLink RX10 53 "GradientDeskModel" "derived" "[I") (List.mem_of_getElem? (i := 14) rfl)) (fun _ h9 => h9) rfl dX10_derivativeOf_178 ?_
                refine lv_iload_n hx hb dX10_derivativeOf_181 rfl (lv_at hl 4 rfl) ?_
                have f_115 : g_89 13 = .inl (cA 13, 200, .inl (fun j => iI (dz j))) := (fr_94 13 (by omega)).trans ((fr_66 13 (by omega)).trans ((fr_36 13 (by omega)).trans h13))
                refine m_iald hx hb hK hP 13 (by decide) rfl f_115 (i := oa) (by omega) (by decide) dX10_derivativeOf_182 ?_
                rw [da, ← nI_iI]
                refine va_calli (va_runV (As := [.int (nI iK_95), .int (nI (dvn oa))]) (rest := []) ⟨hx, hb, hml, hown, hts⟩ (c_X10_makeProduct l dC dI A ad cA g_89 x2_90 pf2_92 qf2_93 pt2_91 K_95.2 iK_95 (dvn oa) 0 hFK_95 hPtK_95 hMK_95 hmdK_95 hlK_95 hfK_95 (Or.inl rfl) hWK_95 (by omega) (by omega)) (cwV 2 hts (goodIn_app (goodIn_r [Cond.methodLink RX10 215 yX10_makeProduct, Cond.instanceMethod yX10_makeProduct, Cond.selects RX10 yX10_makeProduct yX10_makeProduct, Cond.initialized RX10] [11, 12, 13, 7] rfl rfl) (goodIn_sub (fun w9 h9 => bk3 w9 h9) gw_X10_makeProduct)) rfl rfl rfl (by decide +kernel) ⟨Nat.le_of_ble_eq_true rfl, Nat.le_of_ble_eq_true rfl⟩) ⟨fun a U g mk q => ⟨q.1, q.2.1, q.2.2.1, LY.moved (u := U) (U := U.calling g mk a) (Vm.Alike.refl U.vm) q.2.2.2⟩, va_recv hK hP (ci := 13) (q0 := 0) rfl (wo_at (by decide) r_108), fun U hU hW => ⟨rfl, by rw [hU]; exact fun q h => hA q (Nat.le_trans hS.1 h), by rw [hU]; exact hP, LY.moved hW.alike hL⟩⟩ rfl rfl hl.1 rfl (lv_room (Nat.le_of_ble_eq_true rfl)) dX10_derivativeOf_183 ⟨(Nat.le_of_ble_eq_true rfl), (Nat.le_of_ble_eq_true rfl)⟩) hS (fun q _ h => h) (fun q h => h) (fun r_116 u8 t8 H1 locs ht8 hvm8 hw_117 hB hz1 hk1 hS => ?_)
                obtain ⟨g_118, x2_119, pt2_120, pf2_121, qf2_122⟩ := u8
                try dsimp only at hw_117 hB
                rw [ht8] at hB
                have hP := hB
                generalize H1 = H at hP hS ⊢
                obtain ⟨fr_123, hK⟩ := hw_117
                rw [onF_0] at hK
                refine W.widen (k := 0) (n := 0) (by omega) (by omega) ?_
                exact W.iret (v := r_116) hx hb hr (fun t9 ht9 hW9 => ⟨⟨r_116, (g_118, x2_119, pt2_120, pf2_121, qf2_122), rfl, ⟨(fun (k : Nat) (hk : k ≠ 0 ∧ k ≠ 1 ∧ k ≠ 2 ∧ k ≠ 3 ∧ k ≠ 5 ∧ k ≠ 6 ∧ k ≠ 7 ∧ k ≠ 8 ∧ k ≠ 9 ∧ k ≠ 10) => (fr_123 k (by omega)).trans ((fr_94 k (by omega)).trans ((fr_66 k (by omega)).trans ((fr_36 k (by omega)).trans (rfl))))), by subst eK_95; subst eK_67; subst eK_37; unfold derL; rw [if_neg (by omega), if_neg (by omega), if_neg (by omega), if_neg (by omega), ta, tb, een]; have hh := hK.base bxK_95 bpK_95; rw [show seqL _ _ = _ from (seq_pos hiK_37).trans ((seq_pos hiK_67).trans ((seq_pos hiK_95).trans (rfl)))]; exact hh⟩, by show va_P (dC, dI) vwCl _ t9.heap; rw [ht9]; exact hP⟩, hS.F ht9⟩) hS.2.2 dX10_derivativeOf_186
              · skip
                have hc_124 := hPtK_95
                obtain ⟨p_125, p_126, p_127, p_128, p_129, p_130, hpt_131⟩ := hc_124
                have hc_132 := hFK_95
                obtain ⟨vfz_133, hVz_133, hqz_133⟩ := hc_132
                have hc_134 := hVz_133
                obtain ⟨pnz_135, lnz_135, bnz_135, hRz_135, hvz_135⟩ := hc_134
                obtain ⟨r_136, r_137, r_138, r_139, r_140, r_141, r_142⟩ := hRz_135
                refine lv_istore (lv' := [(7, .int (-1)), (6, .int (nI iK_67)), (5, .int (nI iK_37)), (4, .int (nI en)), (3, .int (nI oa)), (0, .ref (ad 0)), (1, .int (nI k1)), (2, .int (nI v))]) hx hb dX10_derivativeOf_172 hl (by decide) rfl (fun ls hl => ?_)
                refine lv_aload_n hx hb dX10_derivativeOf_174 rfl (lv_at hl 5 rfl) ?_
                refine lv_iload hx hb dX10_derivativeOf_175 (lv_at hl 0 rfl) ?_
                refine lv_aload_n hx hb dX10_derivativeOf_177 rfl (lv_at hl 5 rfl) ?_
                refine m_get (D := (dC, dI)) (v := .ref (ad 13)) (C := RX10) (T := TX10) (N := 29) hx hb hts bk0 hown hK hP 0 (by decide) r_136 rfl 17 (by decide) (hts (.fieldLink RX10 53 "GradientDeskModel" "derived" "[I") (List.mem_of_getElem? (i := 14) rfl)) (fun _ h9 => h9) rfl dX10_derivativeOf_178 ?_
                refine lv_iload_n hx hb dX10_derivativeOf_181 rfl (lv_at hl 4 rfl) ?_
                have f_143 : g_89 13 = .inl (cA 13, 200, .inl (fun j => iI (dz j))) := (fr_94 13 (by omega)).trans ((fr_66 13 (by omega)).trans ((fr_36 13 (by omega)).trans h13))
                refine m_iald hx hb hK hP 13 (by decide) rfl f_143 (i := oa) (by omega) (by decide) dX10_derivativeOf_182 ?_
                rw [da, ← nI_iI]
                refine va_calli (va_runV (As := [.int (-1), .int (nI (dvn oa))]) (rest := []) ⟨hx, hb, hml, hown, hts⟩ (c_X10_makeProductF l dC dI A ad cA g_89 x2_90 pf2_92 qf2_93 pt2_91 K_95.2 (-1) (nI (dvn oa)) K_95.1 hFK_95 hPtK_95 hMK_95 hmdK_95 hlK_95 hfK_95 (Or.inr ⟨hnK_95, hmK_95⟩) hnK_95) (cwV 2 hts (goodIn_app (goodIn_r [Cond.methodLink RX10 215 yX10_makeProduct, Cond.instanceMethod yX10_makeProduct, Cond.selects RX10 yX10_makeProduct yX10_makeProduct, Cond.initialized RX10] [11, 12, 13, 7] rfl rfl) (goodIn_sub (fun w9 h9 => bk4 w9 h9) gw_X10_makeProductF)) rfl rfl rfl (by decide +kernel) ⟨Nat.le_of_ble_eq_true rfl, Nat.le_of_ble_eq_true rfl⟩) ⟨fun a U g mk q => ⟨q.1, q.2.1, q.2.2.1, LY.moved (u := U) (U := U.calling g mk a) (Vm.Alike.refl U.vm) q.2.2.2⟩, va_recv hK hP (ci := 13) (q0 := 0) rfl (wo_at (by decide) r_136), fun U hU hW => ⟨rfl, by rw [hU]; exact fun q h => hA q (Nat.le_trans hS.1 h), by rw [hU]; exact hP, LY.moved hW.alike hL⟩⟩ rfl rfl hl.1 rfl (lv_room (Nat.le_of_ble_eq_true rfl)) dX10_derivativeOf_183 ⟨(Nat.le_of_ble_eq_true rfl), (Nat.le_of_ble_eq_true rfl)⟩) hS (fun q _ h => h) (fun q h => h) (fun r_144 u8 t8 H1 locs ht8 hvm8 hw_145 hB hz1 hk1 hS => ?_)
                obtain ⟨g_146, x2_147, pt2_148, pf2_149, qf2_150⟩ := u8
                try dsimp only at hw_145 hB
                rw [ht8] at hB
                have hP := hB
                generalize H1 = H at hP hS ⊢
                obtain ⟨fr_151, hK⟩ := hw_145
                refine W.widen (k := 0) (n := 0) (by omega) (by omega) ?_
                exact W.iret (v := r_144) hx hb hr (fun t9 ht9 hW9 => ⟨⟨r_144, (g_146, x2_147, pt2_148, pf2_149, qf2_150), rfl, ⟨(fun (k : Nat) (hk : k ≠ 0 ∧ k ≠ 1 ∧ k ≠ 2 ∧ k ≠ 3 ∧ k ≠ 5 ∧ k ≠ 6 ∧ k ≠ 7 ∧ k ≠ 8 ∧ k ≠ 9 ∧ k ≠ 10) => (fr_151 k (by omega)).trans ((fr_94 k (by omega)).trans ((fr_66 k (by omega)).trans ((fr_36 k (by omega)).trans (rfl))))), by subst eK_95; subst eK_67; subst eK_37; unfold derL; rw [if_neg (by omega), if_neg (by omega), if_neg (by omega), if_neg (by omega), ta, tb, een]; have hh := hK.base bxK_95 bpK_95; rw [show seqL _ _ = _ from (seq_pos hiK_37).trans ((seq_pos hiK_67).trans ((seq_neg hnK_95)))]; exact hh⟩, by show va_P (dC, dI) vwCl _ t9.heap; rw [ht9]; exact hP⟩, hS.F ht9⟩) hS.2.2 dX10_derivativeOf_186
            · skip
              have hc_152 := hPtK_67
              obtain ⟨p_153, p_154, p_155, p_156, p_157, p_158, hpt_159⟩ := hc_152
              have hc_160 := hFK_67
              obtain ⟨vfz_161, hVz_161, hqz_161⟩ := hc_160
              have hc_162 := hVz_161
              obtain ⟨pnz_163, lnz_163, bnz_163, hRz_163, hvz_163⟩ := hc_162
              obtain ⟨r_164, r_165, r_166, r_167, r_168, r_169, r_170⟩ := hRz_163
              refine lv_istore (lv' := [(6, .int (-1)), (5, .int (nI iK_37)), (4, .int (nI en)), (3, .int (nI oa)), (0, .ref (ad 0)), (1, .int (nI k1)), (2, .int (nI v))]) hx hb dX10_derivativeOf_162 hl (by decide) rfl (fun ls hl => ?_)
              refine lv_aload_n hx hb dX10_derivativeOf_164 rfl (lv_at hl 4 rfl) ?_
              refine lv_iload hx hb dX10_derivativeOf_165 (lv_at hl 1 rfl) ?_
              refine lv_iload hx hb dX10_derivativeOf_167 (lv_at hl 0 rfl) ?_
              refine va_calli (va_runV (As := [.int (nI iK_37), .int (-1)]) (rest := []) ⟨hx, hb, hml, hown, hts⟩ (c_X10_makeProductF l dC dI A ad cA g_61 x2_62 pf2_64 qf2_65 pt2_63 K_67.2 (nI iK_37) (-1) K_67.1 hFK_67 hPtK_67 hMK_67 hmdK_67 hlK_67 hfK_67 (Or.inr ⟨hnK_67, hmK_67⟩) hnK_67) (cwV 2 hts (goodIn_app (goodIn_r [Cond.methodLink RX10 215 yX10_makeProduct, Cond.instanceMethod yX10_makeProduct, Cond.selects RX10 yX10_makeProduct yX10_makeProduct, Cond.initialized RX10] [11, 12, 13, 7] rfl rfl) (goodIn_sub (fun w9 h9 => bk4 w9 h9) gw_X10_makeProductF)) rfl rfl rfl (by decide +kernel) ⟨Nat.le_of_ble_eq_true rfl, Nat.le_of_ble_eq_true rfl⟩) ⟨fun a U g mk q => ⟨q.1, q.2.1, q.2.2.1, LY.moved (u := U) (U := U.calling g mk a) (Vm.Alike.refl U.vm) q.2.2.2⟩, va_recv hK hP (ci := 13) (q0 := 0) rfl (wo_at (by decide) r_164), fun U hU hW => ⟨rfl, by rw [hU]; exact fun q h => hA q (Nat.le_trans hS.1 h), by rw [hU]; exact hP, LY.moved hW.alike hL⟩⟩ rfl rfl hl.1 rfl (lv_room (Nat.le_of_ble_eq_true rfl)) dX10_derivativeOf_169 ⟨(Nat.le_of_ble_eq_true rfl), (Nat.le_of_ble_eq_true rfl)⟩) hS (fun q _ h => h) (fun q h => h) (fun r_171 u8 t8 H1 locs ht8 hvm8 hw_172 hB hz1 hk1 hS => ?_)
              obtain ⟨g_173, x2_174, pt2_175, pf2_176, qf2_177⟩ := u8
              try dsimp only at hw_172 hB
              rw [ht8] at hB
              have hP := hB
              generalize H1 = H at hP hS ⊢
              obtain ⟨fr_178, hK⟩ := hw_172
              obtain ⟨hFQ_179, hPtQ_179, hMQ_179, hlQ_179, hmdQ_179, hxQ_179, hoQ_179, hRQ_179⟩ := hK
              obtain ⟨-, -, rfl, hfQ_179⟩ := hRQ_179.resolve_left (fun h9 => absurd h9.1 (by have h8 := hnK_67; omega))
              have bxQ_179 : ∀ j, j ≠ 3 → j ≠ 4 → x2_174 j = x j := fun j h3 h4 => (hxQ_179 j h3 h4).trans (bxK_67 j h3 h4)
              have bpQ_179 : ∀ f, 200 ≤ f → f < 1011 → pf2_176 f = pf f ∧ qf2_177 f = qf f := fun f h1 h2 => ⟨(hoQ_179 f h1 h2).1.trans (bpK_67 f h1 h2).1, (hoQ_179 f h1 h2).2.trans (bpK_67 f h1 h2).2⟩
              have hc_180 := hPtQ_179
              obtain ⟨p_181, p_182, p_183, p_184, p_185, p_186, hpt_187⟩ := hc_180
              have hc_188 := hFQ_179
              obtain ⟨vfz_189, hVz_189, hqz_189⟩ := hc_188
              have hc_190 := hVz_189
              obtain ⟨pnz_191, lnz_191, bnz_191, hRz_191, hvz_191⟩ := hc_190
              obtain ⟨r_192, r_193, r_194, r_195, r_196, r_197, r_198⟩ := hRz_191
              refine lv_istore (lv' := [(7, .int (-1)), (6, .int (-1)), (5, .int (nI iK_37)), (4, .int (nI en)), (3, .int (nI oa)), (0, .ref (ad 0)), (1, .int (nI k1)), (2, .int (nI v))]) hx hb dX10_derivativeOf_172 hl (by decide) rfl (fun ls hl => ?_)
              refine lv_aload_n hx hb dX10_derivativeOf_174 rfl (lv_at hl 5 rfl) ?_
              refine lv_iload hx hb dX10_derivativeOf_175 (lv_at hl 0 rfl) ?_
              refine lv_aload_n hx hb dX10_derivativeOf_177 rfl (lv_at hl 5 rfl) ?_
              refine m_get (D := (dC, dI)) (v := .ref (ad 13)) (C := RX10) (T := TX10) (N := 29) hx hb hts bk0 hown hK hP 0 (by decide) r_192 rfl 17 (by decide) (hts (.fieldLink RX10 53 "GradientDeskModel" "derived" "[I") (List.mem_of_getElem? (i := 14) rfl)) (fun _ h9 => h9) rfl dX10_derivativeOf_178 ?_
              refine lv_iload_n hx hb dX10_derivativeOf_181 rfl (lv_at hl 4 rfl) ?_
              have f_199 : g_173 13 = .inl (cA 13, 200, .inl (fun j => iI (dz j))) := (fr_178 13 (by omega)).trans ((fr_66 13 (by omega)).trans ((fr_36 13 (by omega)).trans h13))
              refine m_iald hx hb hK hP 13 (by decide) rfl f_199 (i := oa) (by omega) (by decide) dX10_derivativeOf_182 ?_
              rw [da, ← nI_iI]
              refine va_calli (va_runV (As := [.int (-1), .int (nI (dvn oa))]) (rest := []) ⟨hx, hb, hml, hown, hts⟩ (c_X10_makeProductF l dC dI A ad cA g_173 x2_174 pf2_176 qf2_177 pt2_175 K_67.2 (-1) (nI (dvn oa)) K_67.1 hFQ_179 hPtQ_179 hMQ_179 hmdQ_179 hlQ_179 hfQ_179 (Or.inr ⟨hnK_67, hmK_67⟩) hnK_67) (cwV 2 hts (goodIn_app (goodIn_r [Cond.methodLink RX10 215 yX10_makeProduct, Cond.instanceMethod yX10_makeProduct, Cond.selects RX10 yX10_makeProduct yX10_makeProduct, Cond.initialized RX10] [11, 12, 13, 7] rfl rfl) (goodIn_sub (fun w9 h9 => bk4 w9 h9) gw_X10_makeProductF)) rfl rfl rfl (by decide +kernel) ⟨Nat.le_of_ble_eq_true rfl, Nat.le_of_ble_eq_true rfl⟩) ⟨fun a U g mk q => ⟨q.1, q.2.1, q.2.2.1, LY.moved (u := U) (U := U.calling g mk a) (Vm.Alike.refl U.vm) q.2.2.2⟩, va_recv hK hP (ci := 13) (q0 := 0) rfl (wo_at (by decide) r_192), fun U hU hW => ⟨rfl, by rw [hU]; exact fun q h => hA q (Nat.le_trans hS.1 h), by rw [hU]; exact hP, LY.moved hW.alike hL⟩⟩ rfl rfl hl.1 rfl (lv_room (Nat.le_of_ble_eq_true rfl)) dX10_derivativeOf_183 ⟨(Nat.le_of_ble_eq_true rfl), (Nat.le_of_ble_eq_true rfl)⟩) hS (fun q _ h => h) (fun q h => h) (fun r_200 u8 t8 H1 locs ht8 hvm8 hw_201 hB hz1 hk1 hS => ?_)
              obtain ⟨g_202, x2_203, pt2_204, pf2_205, qf2_206⟩ := u8
              try dsimp only at hw_201 hB
              rw [ht8] at hB
              have hP := hB
              generalize H1 = H at hP hS ⊢
              obtain ⟨fr_207, hK⟩ := hw_201
              refine W.widen (k := 0) (n := 0) (by omega) (by omega) ?_
              exact W.iret (v := r_200) hx hb hr (fun t9 ht9 hW9 => ⟨⟨r_200, (g_202, x2_203, pt2_204, pf2_205, qf2_206), rfl, ⟨(fun (k : Nat) (hk : k ≠ 0 ∧ k ≠ 1 ∧ k ≠ 2 ∧ k ≠ 3 ∧ k ≠ 5 ∧ k ≠ 6 ∧ k ≠ 7 ∧ k ≠ 8 ∧ k ≠ 9 ∧ k ≠ 10) => (fr_207 k (by omega)).trans ((fr_178 k (by omega)).trans ((fr_66 k (by omega)).trans ((fr_36 k (by omega)).trans (rfl))))), by subst eK_67; subst eK_37; unfold derL; rw [if_neg (by omega), if_neg (by omega), if_neg (by omega), if_neg (by omega), ta, tb, een]; have hh := hK.base bxQ_179 bpQ_179; rw [show seqL _ _ = _ from (seq_pos hiK_37).trans ((seq_neg hnK_67))]; exact hh⟩, by show va_P (dC, dI) vwCl _ t9.heap; rw [ht9]; exact hP⟩, hS.F ht9⟩) hS.2.2 dX10_derivativeOf_186
          · skip
            have hc_208 := hPtK_37
            obtain ⟨p_209, p_210, p_211, p_212, p_213, p_214, hpt_215⟩ := hc_208
            have hc_216 := hFK_37
            obtain ⟨vfz_217, hVz_217, hqz_217⟩ := hc_216
            have hc_218 := hVz_217
            obtain ⟨pnz_219, lnz_219, bnz_219, hRz_219, hvz_219⟩ := hc_218
            obtain ⟨r_220, r_221, r_222, r_223, r_224, r_225, r_226⟩ := hRz_219
            refine lv_istore (lv' := [(5, .int (-1)), (4, .int (nI en)), (3, .int (nI oa)), (0, .ref (ad 0)), (1, .int (nI k1)), (2, .int (nI v))]) hx hb dX10_derivativeOf_151 hl (by decide) rfl (fun ls hl => ?_)
            refine lv_aload_n hx hb dX10_derivativeOf_153 rfl (lv_at hl 3 rfl) ?_
            refine lv_iload_n hx hb dX10_derivativeOf_154 rfl (lv_at hl 2 rfl) ?_
            refine lv_iload hx hb dX10_derivativeOf_155 (lv_at hl 1 rfl) ?_
            refine lv_iconst (v := nI 1) hx hb dX10_derivativeOf_157 (by decide +kernel) ?_
            refine lv_isub hx hb dX10_derivativeOf_158 ?_
            refine lv_topi (fun x_227 e_228 => ?_)
            obtain rfl : x_227 = nI (en - 1) := e_228.trans (pk_sub (show 1 ≤ en by omega))
            refine va_calli (va_runV (As := [.int (nI oa), .int (nI (en - 1))]) (rest := []) ⟨hx, hb, hml, hown, hts⟩ (c_X10_makePowerF l dC dI A ad cA g_31 x2_32 pf2_34 qf2_35 pt2_33 K_37.2 (nI oa) (nI (en - 1)) K_37.1 hFK_37 hPtK_37 hMK_37 hmdK_37 hlK_37 hfK_37 (Or.inr ⟨hnK_37, hmK_37⟩) hnK_37) (cwV 2 hts (goodIn_app (goodIn_r [Cond.methodLink RX10 218 yX10_makePower, Cond.instanceMethod yX10_makePower, Cond.selects RX10 yX10_makePower yX10_makePower, Cond.initialized RX10] [8, 9, 10, 7] rfl rfl) (goodIn_sub (fun w9 h9 => bk5 w9 h9) gw_X10_makePowerF)) rfl rfl rfl (by decide +kernel) ⟨Nat.le_of_ble_eq_true rfl, Nat.le_of_ble_eq_true rfl⟩) ⟨fun a U g mk q => ⟨q.1, q.2.1, q.2.2.1, LY.moved (u := U) (U := U.calling g mk a) (Vm.Alike.refl U.vm) q.2.2.2⟩, va_recv hK hP (ci := 13) (q0 := 0) rfl (wo_at (by decide) r_220), fun U hU hW => ⟨rfl, by rw [hU]; exact fun q h => hA q (Nat.le_trans hS.1 h), by rw [hU]; exact hP, LY.moved hW.alike hL⟩⟩ rfl rfl hl.1 rfl (lv_room (Nat.le_of_ble_eq_true rfl)) dX10_derivativeOf_159 ⟨(Nat.le_of_ble_eq_true rfl), (Nat.le_of_ble_eq_true rfl)⟩) hS (fun q _ h => h) (fun q h => h) (fun r_229 u8 t8 H1 locs ht8 hvm8 hw_230 hB hz1 hk1 hS => ?_)
            obtain ⟨g_231, x2_232, pt2_233, pf2_234, qf2_235⟩ := u8
            try dsimp only at hw_230 hB
            rw [ht8] at hB
            have hP := hB
            generalize H1 = H at hP hS ⊢
            obtain ⟨fr_236, hK⟩ := hw_230
            obtain ⟨hFQ_237, hPtQ_237, hMQ_237, hlQ_237, hmdQ_237, hxQ_237, hoQ_237, hRQ_237⟩ := hK
            obtain ⟨-, -, rfl, hfQ_237⟩ := hRQ_237.resolve_left (fun h9 => absurd h9.1 (by have h8 := hnK_37; omega))
            have bxQ_237 : ∀ j, j ≠ 3 → j ≠ 4 → x2_232 j = x j := fun j h3 h4 => (hxQ_237 j h3 h4).trans (bxK_37 j h3 h4)
            have bpQ_237 : ∀ f, 200 ≤ f → f < 1011 → pf2_234 f = pf f ∧ qf2_235 f = qf f := fun f h1 h2 => ⟨(hoQ_237 f h1 h2).1.trans (bpK_37 f h1 h2).1, (hoQ_237 f h1 h2).2.trans (bpK_37 f h1 h2).2⟩
            have hc_238 := hPtQ_237
            obtain ⟨p_239, p_240, p_241, p_242, p_243, p_244, hpt_245⟩ := hc_238
            have hc_246 := hFQ_237
            obtain ⟨vfz_247, hVz_247, hqz_247⟩ := hc_246
            have hc_248 := hVz_247
            obtain ⟨pnz_249, lnz_249, bnz_249, hRz_249, hvz_249⟩ := hc_248
            obtain ⟨r_250, r_251, r_252, r_253, r_254, r_255, r_256⟩ := hRz_249
            refine lv_istore (lv' := [(6, .int (-1)), (5, .int (-1)), (4, .int (nI en)), (3, .int (nI oa)), (0, .ref (ad 0)), (1, .int (nI k1)), (2, .int (nI v))]) hx hb dX10_derivativeOf_162 hl (by decide) rfl (fun ls hl => ?_)
            refine lv_aload_n hx hb dX10_derivativeOf_164 rfl (lv_at hl 4 rfl) ?_
            refine lv_iload hx hb dX10_derivativeOf_165 (lv_at hl 1 rfl) ?_
            refine lv_iload hx hb dX10_derivativeOf_167 (lv_at hl 0 rfl) ?_
            refine va_calli (va_runV (As := [.int (-1), .int (-1)]) (rest := []) ⟨hx, hb, hml, hown, hts⟩ (c_X10_makeProductF l dC dI A ad cA g_231 x2_232 pf2_234 qf2_235 pt2_233 K_37.2 (-1) (-1) K_37.1 hFQ_237 hPtQ_237 hMQ_237 hmdQ_237 hlQ_237 hfQ_237 (Or.inr ⟨hnK_37, hmK_37⟩) hnK_37) (cwV 2 hts (goodIn_app (goodIn_r [Cond.methodLink RX10 215 yX10_makeProduct, Cond.instanceMethod yX10_makeProduct, Cond.selects RX10 yX10_makeProduct yX10_makeProduct, Cond.initialized RX10] [11, 12, 13, 7] rfl rfl) (goodIn_sub (fun w9 h9 => bk4 w9 h9) gw_X10_makeProductF)) rfl rfl rfl (by decide +kernel) ⟨Nat.le_of_ble_eq_true rfl, Nat.le_of_ble_eq_true rfl⟩) ⟨fun a U g mk q => ⟨q.1, q.2.1, q.2.2.1, LY.moved (u := U) (U := U.calling g mk a) (Vm.Alike.refl U.vm) q.2.2.2⟩, va_recv hK hP (ci := 13) (q0 := 0) rfl (wo_at (by decide) r_250), fun U hU hW => ⟨rfl, by rw [hU]; exact fun q h => hA q (Nat.le_trans hS.1 h), by rw [hU]; exact hP, LY.moved hW.alike hL⟩⟩ rfl rfl hl.1 rfl (lv_room (Nat.le_of_ble_eq_true rfl)) dX10_derivativeOf_169 ⟨(Nat.le_of_ble_eq_true rfl), (Nat.le_of_ble_eq_true rfl)⟩) hS (fun q _ h => h) (fun q h => h) (fun r_257 u8 t8 H1 locs ht8 hvm8 hw_258 hB hz1 hk1 hS => ?_)
            obtain ⟨g_259, x2_260, pt2_261, pf2_262, qf2_263⟩ := u8
            try dsimp only at hw_258 hB
            rw [ht8] at hB
            have hP := hB
            generalize H1 = H at hP hS ⊢
            obtain ⟨fr_264, hK⟩ := hw_258
            obtain ⟨hFQ_265, hPtQ_265, hMQ_265, hlQ_265, hmdQ_265, hxQ_265, hoQ_265, hRQ_265⟩ := hK
            obtain ⟨-, -, rfl, hfQ_265⟩ := hRQ_265.resolve_left (fun h9 => absurd h9.1 (by have h8 := hnK_37; omega))
            have bxQ_265 : ∀ j, j ≠ 3 → j ≠ 4 → x2_260 j = x j := fun j h3 h4 => (hxQ_265 j h3 h4).trans (bxQ_237 j h3 h4)
            have bpQ_265 : ∀ f, 200 ≤ f → f < 1011 → pf2_262 f = pf f ∧ qf2_263 f = qf f := fun f h1 h2 => ⟨(hoQ_265 f h1 h2).1.trans (bpQ_237 f h1 h2).1, (hoQ_265 f h1 h2).2.trans (bpQ_237 f h1 h2).2⟩
            have hc_266 := hPtQ_265
            obtain ⟨p_267, p_268, p_269, p_270, p_271, p_272, hpt_273⟩ := hc_266
            have hc_274 := hFQ_265
            obtain ⟨vfz_275, hVz_275, hqz_275⟩ := hc_274
            have hc_276 := hVz_275
            obtain ⟨pnz_277, lnz_277, bnz_277, hRz_277, hvz_277⟩ := hc_276
            obtain ⟨r_278, r_279, r_280, r_281, r_282, r_283, r_284⟩ := hRz_277
            refine lv_istore (lv' := [(7, .int (-1)), (6, .int (-1)), (5, .int (-1)), (4, .int (nI en)), (3, .int (nI oa)), (0, .ref (ad 0)), (1, .int (nI k1)), (2, .int (nI v))]) hx hb dX10_derivativeOf_172 hl (by decide) rfl (fun ls hl => ?_)
            refine lv_aload_n hx hb dX10_derivativeOf_174 rfl (lv_at hl 5 rfl) ?_
            refine lv_iload hx hb dX10_derivativeOf_175 (lv_at hl 0 rfl) ?_
            refine lv_aload_n hx hb dX10_derivativeOf_177 rfl (lv_at hl 5 rfl) ?_
            refine m_get (D := (dC, dI)) (v := .ref (ad 13)) (C := RX10) (T := TX10) (N := 29) hx hb hts bk0 hown hK hP 0 (by decide) r_278 rfl 17 (by decide) (hts (.fieldLink RX10 53 "GradientDeskModel" "derived" "[I") (List.mem_of_getElem? (i := 14) rfl)) (fun _ h9 => h9) rfl dX10_derivativeOf_178 ?_
            refine lv_iload_n hx hb dX10_derivativeOf_181 rfl (lv_at hl 4 rfl) ?_
            have f_285 : g_259 13 = .inl (cA 13, 200, .inl (fun j => iI (dz j))) := (fr_264 13 (by omega)).trans ((fr_236 13 (by omega)).trans ((fr_36 13 (by omega)).trans h13))
            refine m_iald hx hb hK hP 13 (by decide) rfl f_285 (i := oa) (by omega) (by decide) dX10_derivativeOf_182 ?_
            rw [da, ← nI_iI]
            refine va_calli (va_runV (As := [.int (-1), .int (nI (dvn oa))]) (rest := []) ⟨hx, hb, hml, hown, hts⟩ (c_X10_makeProductF l dC dI A ad cA g_259 x2_260 pf2_262 qf2_263 pt2_261 K_37.2 (-1) (nI (dvn oa)) K_37.1 hFQ_265 hPtQ_265 hMQ_265 hmdQ_265 hlQ_265 hfQ_265 (Or.inr ⟨hnK_37, hmK_37⟩) hnK_37) (cwV 2 hts (goodIn_app (goodIn_r [Cond.methodLink RX10 215 yX10_makeProduct, Cond.instanceMethod yX10_makeProduct, Cond.selects RX10 yX10_makeProduct yX10_makeProduct, Cond.initialized RX10] [11, 12, 13, 7] rfl rfl) (goodIn_sub (fun w9 h9 => bk4 w9 h9) gw_X10_makeProductF)) rfl rfl rfl (by decide +kernel) ⟨Nat.le_of_ble_eq_true rfl, Nat.le_of_ble_eq_true rfl⟩) ⟨fun a U g mk q => ⟨q.1, q.2.1, q.2.2.1, LY.moved (u := U) (U := U.calling g mk a) (Vm.Alike.refl U.vm) q.2.2.2⟩, va_recv hK hP (ci := 13) (q0 := 0) rfl (wo_at (by decide) r_278), fun U hU hW => ⟨rfl, by rw [hU]; exact fun q h => hA q (Nat.le_trans hS.1 h), by rw [hU]; exact hP, LY.moved hW.alike hL⟩⟩ rfl rfl hl.1 rfl (lv_room (Nat.le_of_ble_eq_true rfl)) dX10_derivativeOf_183 ⟨(Nat.le_of_ble_eq_true rfl), (Nat.le_of_ble_eq_true rfl)⟩) hS (fun q _ h => h) (fun q h => h) (fun r_286 u8 t8 H1 locs ht8 hvm8 hw_287 hB hz1 hk1 hS => ?_)
            obtain ⟨g_288, x2_289, pt2_290, pf2_291, qf2_292⟩ := u8
            try dsimp only at hw_287 hB
            rw [ht8] at hB
            have hP := hB
            generalize H1 = H at hP hS ⊢
            obtain ⟨fr_293, hK⟩ := hw_287
            refine W.widen (k := 0) (n := 0) (by omega) (by omega) ?_
            exact W.iret (v := r_286) hx hb hr (fun t9 ht9 hW9 => ⟨⟨r_286, (g_288, x2_289, pt2_290, pf2_291, qf2_292), rfl, ⟨(fun (k : Nat) (hk : k ≠ 0 ∧ k ≠ 1 ∧ k ≠ 2 ∧ k ≠ 3 ∧ k ≠ 5 ∧ k ≠ 6 ∧ k ≠ 7 ∧ k ≠ 8 ∧ k ≠ 9 ∧ k ≠ 10) => (fr_293 k (by omega)).trans ((fr_264 k (by omega)).trans ((fr_236 k (by omega)).trans ((fr_36 k (by omega)).trans (rfl))))), by subst eK_37; unfold derL; rw [if_neg (by omega), if_neg (by omega), if_neg (by omega), if_neg (by omega), ta, tb, een]; have hh := hK.base bxQ_265 bpQ_265; rw [show seqL _ _ = _ from (seq_neg hnK_37)]; exact hh⟩, by show va_P (dC, dI) vwCl _ t9.heap; rw [ht9]; exact hP⟩, hS.F ht9⟩) hS.2.2 dX10_derivativeOf_186
        · have c_26 := (k_iEQ (a := (pt 0) k1) (b := 3) rfl (show nI 3 = iI 3 from by decide) (by omega) (by omega)).mp c_26
          obtain ⟨oa, hoa, eoa⟩ := hW.op1 ik (by omega)
          have ea : pt 1 k1 = ((oa : Nat) : Int) := m1.trans eoa
          have ta : (gd L k1).2.1.toNat = oa := by rw [eoa, Int.toNat_natCast]
          obtain ⟨da, la⟩ := hd1 (by omega)
          rw [ta] at da la
          obtain ⟨ob, hob, eob⟩ := hW.op2 ik (by omega)
          have eb : pt 2 k1 = ((ob : Nat) : Int) := m2.trans eob
          have tb : (gd L k1).2.2.1.toNat = ob := by rw [eob, Int.toNat_natCast]
          obtain ⟨db, lb⟩ := hd2 (by omega)
          rw [tb] at db lb
          rw [ea, eb, ← nI_iI, ← nI_iI] at hl
          refine lv_aload_n hx hb dX10_derivativeOf_95 rfl (lv_at hl 2 rfl) ?_
          refine lv_aload_n hx hb dX10_derivativeOf_96 rfl (lv_at hl 2 rfl) ?_
          refine m_get (D := (dC, dI)) (v := .ref (ad 13)) (C := RX10) (T := TX10) (N := 29) hx hb hts bk0 hown hK hP 0 (by decide) r_3 rfl 17 (by decide) (hts (.fieldLink RX10 53 "GradientDeskModel" "derived" "[I") (List.mem_of_getElem? (i := 14) rfl)) (fun _ h9 => h9) rfl dX10_derivativeOf_97 ?_
          refine lv_iload_n hx hb dX10_derivativeOf_100 rfl (lv_at hl 1 rfl) ?_
          refine m_iald hx hb hK hP 13 (by decide) rfl h13 (i := oa) (by omega) (by decide) dX10_derivativeOf_101 ?_
          rw [da, ← nI_iI]
          refine lv_iload hx hb dX10_derivativeOf_102 (lv_at hl 0 rfl) ?_
          refine va_calli (va_runV (As := [.int (nI (dvn oa)), .int (nI ob)]) (rest := []) ⟨hx, hb, hml, hown, hts⟩ (c_X10_makeProduct l dC dI A ad cA g x pf qf pt L (dvn oa) ob 0 hF0 hPt0 hM hmd hL2 hft (Or.inl rfl) hW la (by omega)) (cwV 2 hts (goodIn_app (goodIn_r [Cond.methodLink RX10 215 yX10_makeProduct, Cond.instanceMethod yX10_makeProduct, Cond.selects RX10 yX10_makeProduct yX10_makeProduct, Cond.initialized RX10] [11, 12, 13, 7] rfl rfl) (goodIn_sub (fun w9 h9 => bk3 w9 h9) gw_X10_makeProduct)) rfl rfl rfl (by decide +kernel) ⟨Nat.le_of_ble_eq_true rfl, Nat.le_of_ble_eq_true rfl⟩) ⟨fun a U g mk q => ⟨q.1, q.2.1, q.2.2.1, LY.moved (u := U) (U := U.calling g mk a) (Vm.Alike.refl U.vm) q.2.2.2⟩, va_recv hK hP (ci := 13) (q0 := 0) rfl (wo_at (by decide) r_3), fun U hU hW => ⟨rfl, by rw [hU]; exact fun q h => hA q (Nat.le_trans hS.1 h), by rw [hU]; exact hP, LY.moved hW.alike hL⟩⟩ rfl rfl hl.1 rfl (lv_room (Nat.le_of_ble_eq_true rfl)) dX10_derivativeOf_104 ⟨(Nat.le_of_ble_eq_true rfl), (Nat.le_of_ble_eq_true rfl)⟩) hS (fun q _ h => h) (fun q h => h) (fun r_294 u8 t8 H1 locs ht8 hvm8 hw_295 hB hz1 hk1 hS => ?_)
          obtain ⟨g_296, x2_297, pt2_298, pf2_299, qf2_300⟩ := u8
          try dsimp only at hw_295 hB
          rw [ht8] at hB
          have hP := hB
          generalize H1 = H at hP hS ⊢
          obtain ⟨fr_301, hK9⟩ := hw_295
          obtain ⟨K_302, eK_302⟩ : ∃ z9, z9 = prdL L (dvn oa) ob := ⟨_, rfl⟩
          rw [show (onF 0 (L) (prdL L (dvn oa) ob)) = K_302 from by rw [eK_302]; rw [onF_0]] at hK9
          obtain ⟨hFK_302, hPtK_302, hMK_302, hlK_302, hmdK_302, hxK_302, hoK_302, hRK_302⟩ := hK9
          have hLEK_302 : LE L K_302.2 := LE.tr LE.rf (by rw [eK_302]; exact prdL_le _ _ _)
          have hWK_302 : WFL K_302.2 := by rw [eK_302]; exact prdL_wf hW la (by omega)
          have hleK_302 := hLEK_302.1
          have hzK_302 : (L).length ≤ K_302.2.length := by rw [eK_302]; exact (prdL_le _ _ _).1
          have bxK_302 : ∀ j, j ≠ 3 → j ≠ 4 → x2_297 j = x j := fun j h3 h4 => (hxK_302 j h3 h4).trans (bx0 j h3 h4)
          have bpK_302 : ∀ f, 200 ≤ f → f < 1011 → pf2_299 f = pf f ∧ qf2_300 f = qf f := fun f h1 h2 => ⟨(hoK_302 f h1 h2).1.trans (bp0 f h1 h2).1, (hoK_302 f h1 h2).2.trans (bp0 f h1 h2).2⟩
          rcases hRK_302 with ⟨hnK_302, hmK_302, rfl, hfK_302⟩ | ⟨hnK_302, hmK_302, rfl, hfK_302⟩
          · skip
            obtain ⟨iK_302, hiK_302⟩ : ∃ z9 : Nat, K_302.1 = (z9 : Int) := ⟨K_302.1.toNat, by omega⟩
            have hjK_302 : iK_302 < K_302.2.length := by omega
            rw [hiK_302, ← nI_iI]
            have hc_303 := hPtK_302
            obtain ⟨p_304, p_305, p_306, p_307, p_308, p_309, hpt_310⟩ := hc_303
            have hc_311 := hFK_302
            obtain ⟨vfz_312, hVz_312, hqz_312⟩ := hc_311
            have hc_313 := hVz_312
            obtain ⟨pnz_314, lnz_314, bnz_314, hRz_314, hvz_314⟩ := hc_313
            obtain ⟨r_315, r_316, r_317, r_318, r_319, r_320, r_321⟩ := hRz_314
            refine lv_istore (lv' := [(5, .int (nI iK_302)), (4, .int (nI ob)), (3, .int (nI oa)), (0, .ref (ad 0)), (1, .int (nI k1)), (2, .int (nI v))]) hx hb dX10_derivativeOf_107 hl (by decide) rfl (fun ls hl => ?_)
            refine lv_aload_n hx hb dX10_derivativeOf_109 rfl (lv_at hl 3 rfl) ?_
            refine m_get (D := (dC, dI)) (v := .int (iI 0)) (C := RX10) (T := TX10) (N := 29) hx hb hts bk0 hown hK hP 0 (by decide) r_315 rfl 14 (by decide) (hts (.fieldLink RX10 146 "GradientDeskModel" "fault" "I") (List.mem_of_getElem? (i := 15) rfl)) (fun _ h9 => h9) (congrArg (fun z => some (Value.int z)) hfK_302) dX10_derivativeOf_110 ?_
            refine lv_if_ge (tgt := 120) hx hb dX10_derivativeOf_113 (by decide) (fun c_322 => ?_) (fun c_322 => absurd (mt (k_iLE (a := 0) (b := 0) (show nI 0 = iI 0 from by decide) rfl (by omega) (by omega)).mpr c_322) (by omega))
            refine lv_aload_n hx hb dX10_derivativeOf_120 rfl (lv_at hl 3 rfl) ?_
            refine lv_iload_n hx hb dX10_derivativeOf_121 rfl (lv_at hl 2 rfl) ?_
            refine lv_aload_n hx hb dX10_derivativeOf_122 rfl (lv_at hl 3 rfl) ?_
            refine m_get (D := (dC, dI)) (v := .ref (ad 13)) (C := RX10) (T := TX10) (N := 29) hx hb hts bk0 hown hK hP 0 (by decide) r_315 rfl 17 (by decide) (hts (.fieldLink RX10 53 "GradientDeskModel" "derived" "[I") (List.mem_of_getElem? (i := 14) rfl)) (fun _ h9 => h9) rfl dX10_derivativeOf_123 ?_
            refine lv_iload hx hb dX10_derivativeOf_126 (lv_at hl 1 rfl) ?_
            have f_323 : g_296 13 = .inl (cA 13, 200, .inl (fun j => iI (dz j))) := (fr_301 13 (by omega)).trans h13
            refine m_iald hx hb hK hP 13 (by decide) rfl f_323 (i := ob) (by omega) (by decide) dX10_derivativeOf_128 ?_
            rw [db, ← nI_iI]
            refine va_calli (va_runV (As := [.int (nI oa), .int (nI (dvn ob))]) (rest := []) ⟨hx, hb, hml, hown, hts⟩ (c_X10_makeProduct l dC dI A ad cA g_296 x2_297 pf2_299 qf2_300 pt2_298 K_302.2 oa (dvn ob) 0 hFK_302 hPtK_302 hMK_302 hmdK_302 hlK_302 hfK_302 (Or.inl rfl) hWK_302 (by omega) (by omega)) (cwV 2 hts (goodIn_app (goodIn_r [Cond.methodLink RX10 215 yX10_makeProduct, Cond.instanceMethod yX10_makeProduct, Cond.selects RX10 yX10_makeProduct yX10_makeProduct, Cond.initialized RX10] [11, 12, 13, 7] rfl rfl) (goodIn_sub (fun w9 h9 => bk3 w9 h9) gw_X10_makeProduct)) rfl rfl rfl (by decide +kernel) ⟨Nat.le_of_ble_eq_true rfl, Nat.le_of_ble_eq_true rfl⟩) ⟨fun a U g mk q => ⟨q.1, q.2.1, q.2.2.1, LY.moved (u := U) (U := U.calling g mk a) (Vm.Alike.refl U.vm) q.2.2.2⟩, va_recv hK hP (ci := 13) (q0 := 0) rfl (wo_at (by decide) r_315), fun U hU hW => ⟨rfl, by rw [hU]; exact fun q h => hA q (Nat.le_trans hS.1 h), by rw [hU]; exact hP, LY.moved hW.alike hL⟩⟩ rfl rfl hl.1 rfl (lv_room (Nat.le_of_ble_eq_true rfl)) dX10_derivativeOf_129 ⟨(Nat.le_of_ble_eq_true rfl), (Nat.le_of_ble_eq_true rfl)⟩) hS (fun q _ h => h) (fun q h => h) (fun r_324 u8 t8 H1 locs ht8 hvm8 hw_325 hB hz1 hk1 hS => ?_)
            obtain ⟨g_326, x2_327, pt2_328, pf2_329, qf2_330⟩ := u8
            try dsimp only at hw_325 hB
            rw [ht8] at hB
            have hP := hB
            generalize H1 = H at hP hS ⊢
            obtain ⟨fr_331, hK9⟩ := hw_325
            obtain ⟨K_332, eK_332⟩ : ∃ z9, z9 = prdL K_302.2 oa (dvn ob) := ⟨_, rfl⟩
            rw [show (onF 0 (K_302.2) (prdL K_302.2 oa (dvn ob))) = K_332 from by rw [eK_332]; rw [onF_0]] at hK9
            obtain ⟨hFK_332, hPtK_332, hMK_332, hlK_332, hmdK_332, hxK_332, hoK_332, hRK_332⟩ := hK9
            have hLEK_332 : LE L K_332.2 := LE.tr hLEK_302 (by rw [eK_332]; exact prdL_le _ _ _)
            have hWK_332 : WFL K_332.2 := by rw [eK_332]; exact prdL_wf hWK_302 (by omega) (by omega)
            have hleK_332 := hLEK_332.1
            have hzK_332 : (K_302.2).length ≤ K_332.2.length := by rw [eK_332]; exact (prdL_le _ _ _).1
            have bxK_332 : ∀ j, j ≠ 3 → j ≠ 4 → x2_327 j = x j := fun j h3 h4 => (hxK_332 j h3 h4).trans (bxK_302 j h3 h4)
            have bpK_332 : ∀ f, 200 ≤ f → f < 1011 → pf2_329 f = pf f ∧ qf2_330 f = qf f := fun f h1 h2 => ⟨(hoK_332 f h1 h2).1.trans (bpK_302 f h1 h2).1, (hoK_332 f h1 h2).2.trans (bpK_302 f h1 h2).2⟩
            rcases hRK_332 with ⟨hnK_332, hmK_332, rfl, hfK_332⟩ | ⟨hnK_332, hmK_332, rfl, hfK_332⟩
            · skip
              obtain ⟨iK_332, hiK_332⟩ : ∃ z9 : Nat, K_332.1 = (z9 : Int) := ⟨K_332.1.toNat, by omega⟩
              have hjK_332 : iK_332 < K_332.2.length := by omega
              rw [hiK_332, ← nI_iI]
              have hc_333 := hPtK_332
              obtain ⟨p_334, p_335, p_336, p_337, p_338, p_339, hpt_340⟩ := hc_333
              have hc_341 := hFK_332
              obtain ⟨vfz_342, hVz_342, hqz_342⟩ := hc_341
              have hc_343 := hVz_342
              obtain ⟨pnz_344, lnz_344, bnz_344, hRz_344, hvz_344⟩ := hc_343
              obtain ⟨r_345, r_346, r_347, r_348, r_349, r_350, r_351⟩ := hRz_344
              refine lv_istore (lv' := [(6, .int (nI iK_332)), (5, .int (nI iK_302)), (4, .int (nI ob)), (3, .int (nI oa)), (0, .ref (ad 0)), (1, .int (nI k1)), (2, .int (nI v))]) hx hb dX10_derivativeOf_132 hl (by decide) rfl (fun ls hl => ?_)
              refine lv_aload_n hx hb dX10_derivativeOf_134 rfl (lv_at hl 4 rfl) ?_
              refine lv_iload hx hb dX10_derivativeOf_135 (lv_at hl 1 rfl) ?_
              refine lv_iload hx hb dX10_derivativeOf_137 (lv_at hl 0 rfl) ?_
              refine va_calli (va_runV (As := [.int (nI iK_302), .int (nI iK_332)]) (rest := []) ⟨hx, hb, hml, hown, hts⟩ (c_X10_makeSum l dC dI A ad cA g_326 x2_327 pf2_329 qf2_330 pt2_328 K_332.2 iK_302 iK_332 0 hFK_332 hPtK_332 hMK_332 hmdK_332 hlK_332 hfK_332 (Or.inl rfl) hWK_332 (by omega) (by omega)) (cwV 2 hts (goodIn_app (goodIn_r [Cond.methodLink RX10 230 yX10_makeSum, Cond.instanceMethod yX10_makeSum, Cond.selects RX10 yX10_makeSum yX10_makeSum, Cond.initialized RX10] [16, 17, 18, 7] rfl rfl) (goodIn_sub (fun w9 h9 => bk6 w9 h9) gw_X10_makeSum)) rfl rfl rfl (by decide +kernel) ⟨Nat.le_of_ble_eq_true rfl, Nat.le_of_ble_eq_true rfl⟩) ⟨fun a U g mk q => ⟨q.1, q.2.1, q.2.2.1, LY.moved (u := U) (U := U.calling g mk a) (Vm.Alike.refl U.vm) q.2.2.2⟩, va_recv hK hP (ci := 13) (q0 := 0) rfl (wo_at (by decide) r_345), fun U hU hW => ⟨rfl, by rw [hU]; exact fun q h => hA q (Nat.le_trans hS.1 h), by rw [hU]; exact hP, LY.moved hW.alike hL⟩⟩ rfl rfl hl.1 rfl (lv_room (Nat.le_of_ble_eq_true rfl)) dX10_derivativeOf_139 ⟨(Nat.le_of_ble_eq_true rfl), (Nat.le_of_ble_eq_true rfl)⟩) hS (fun q _ h => h) (fun q h => h) (fun r_352 u8 t8 H1 locs ht8 hvm8 hw_353 hB hz1 hk1 hS => ?_)
              obtain ⟨g_354, x2_355, pt2_356, pf2_357, qf2_358⟩ := u8
              try dsimp only at hw_353 hB
              rw [ht8] at hB
              have hP := hB
              generalize H1 = H at hP hS ⊢
              obtain ⟨fr_359, hK⟩ := hw_353
              rw [onF_0] at hK
              refine W.widen (k := 0) (n := 0) (by omega) (by omega) ?_
              exact W.iret (v := r_352) hx hb hr (fun t9 ht9 hW9 => ⟨⟨r_352, (g_354, x2_355, pt2_356, pf2_357, qf2_358), rfl, ⟨(fun (k : Nat) (hk : k ≠ 0 ∧ k ≠ 1 ∧ k ≠ 2 ∧ k ≠ 3 ∧ k ≠ 5 ∧ k ≠ 6 ∧ k ≠ 7 ∧ k ≠ 8 ∧ k ≠ 9 ∧ k ≠ 10) => (fr_359 k (by omega)).trans ((fr_331 k (by omega)).trans ((fr_301 k (by omega)).trans (rfl)))), by subst eK_332; subst eK_302; unfold derL; rw [if_neg (by omega), if_neg (by omega), if_neg (by omega), if_pos (by omega), ta, tb]; have hh := hK.base bxK_332 bpK_332; rw [show seqL _ _ = _ from (seq_pos hiK_302).trans ((seq_pos hiK_332).trans (rfl))]; exact hh⟩, by show va_P (dC, dI) vwCl _ t9.heap; rw [ht9]; exact hP⟩, hS.F ht9⟩) hS.2.2 dX10_derivativeOf_142
            · skip
              have hc_360 := hPtK_332
              obtain ⟨p_361, p_362, p_363, p_364, p_365, p_366, hpt_367⟩ := hc_360
              have hc_368 := hFK_332
              obtain ⟨vfz_369, hVz_369, hqz_369⟩ := hc_368
              have hc_370 := hVz_369
              obtain ⟨pnz_371, lnz_371, bnz_371, hRz_371, hvz_371⟩ := hc_370
              obtain ⟨r_372, r_373, r_374, r_375, r_376, r_377, r_378⟩ := hRz_371
              refine lv_istore (lv' := [(6, .int (-1)), (5, .int (nI iK_302)), (4, .int (nI ob)), (3, .int (nI oa)), (0, .ref (ad 0)), (1, .int (nI k1)), (2, .int (nI v))]) hx hb dX10_derivativeOf_132 hl (by decide) rfl (fun ls hl => ?_)
              refine lv_aload_n hx hb dX10_derivativeOf_134 rfl (lv_at hl 4 rfl) ?_
              refine lv_iload hx hb dX10_derivativeOf_135 (lv_at hl 1 rfl) ?_
              refine lv_iload hx hb dX10_derivativeOf_137 (lv_at hl 0 rfl) ?_
              refine va_calli (va_runV (As := [.int (nI iK_302), .int (-1)]) (rest := []) ⟨hx, hb, hml, hown, hts⟩ (c_X10_makeSumF l dC dI A ad cA g_326 x2_327 pf2_329 qf2_330 pt2_328 K_332.2 (nI iK_302) (-1) K_332.1 hFK_332 hPtK_332 hMK_332 hmdK_332 hlK_332 hfK_332 (Or.inr ⟨hnK_332, hmK_332⟩) hnK_332) (cwV 2 hts (goodIn_app (goodIn_r [Cond.methodLink RX10 230 yX10_makeSum, Cond.instanceMethod yX10_makeSum, Cond.selects RX10 yX10_makeSum yX10_makeSum, Cond.initialized RX10] [16, 17, 18, 7] rfl rfl) (goodIn_sub (fun w9 h9 => bk7 w9 h9) gw_X10_makeSumF)) rfl rfl rfl (by decide +kernel) ⟨Nat.le_of_ble_eq_true rfl, Nat.le_of_ble_eq_true rfl⟩) ⟨fun a U g mk q => ⟨q.1, q.2.1, q.2.2.1, LY.moved (u := U) (U := U.calling g mk a) (Vm.Alike.refl U.vm) q.2.2.2⟩, va_recv hK hP (ci := 13) (q0 := 0) rfl (wo_at (by decide) r_372), fun U hU hW => ⟨rfl, by rw [hU]; exact fun q h => hA q (Nat.le_trans hS.1 h), by rw [hU]; exact hP, LY.moved hW.alike hL⟩⟩ rfl rfl hl.1 rfl (lv_room (Nat.le_of_ble_eq_true rfl)) dX10_derivativeOf_139 ⟨(Nat.le_of_ble_eq_true rfl), (Nat.le_of_ble_eq_true rfl)⟩) hS (fun q _ h => h) (fun q h => h) (fun r_379 u8 t8 H1 locs ht8 hvm8 hw_380 hB hz1 hk1 hS => ?_)
              obtain ⟨g_381, x2_382, pt2_383, pf2_384, qf2_385⟩ := u8
              try dsimp only at hw_380 hB
              rw [ht8] at hB
              have hP := hB
              generalize H1 = H at hP hS ⊢
              obtain ⟨fr_386, hK⟩ := hw_380
              refine W.widen (k := 0) (n := 0) (by omega) (by omega) ?_
              exact W.iret (v := r_379) hx hb hr (fun t9 ht9 hW9 => ⟨⟨r_379, (g_381, x2_382, pt2_383, pf2_384, qf2_385), rfl, ⟨(fun (k : Nat) (hk : k ≠ 0 ∧ k ≠ 1 ∧ k ≠ 2 ∧ k ≠ 3 ∧ k ≠ 5 ∧ k ≠ 6 ∧ k ≠ 7 ∧ k ≠ 8 ∧ k ≠ 9 ∧ k ≠ 10) => (fr_386 k (by omega)).trans ((fr_331 k (by omega)).trans ((fr_301 k (by omega)).trans (rfl)))), by subst eK_332; subst eK_302; unfold derL; rw [if_neg (by omega), if_neg (by omega), if_neg (by omega), if_pos (by omega), ta, tb]; have hh := hK.base bxK_332 bpK_332; rw [show seqL _ _ = _ from (seq_pos hiK_302).trans ((seq_neg hnK_332))]; exact hh⟩, by show va_P (dC, dI) vwCl _ t9.heap; rw [ht9]; exact hP⟩, hS.F ht9⟩) hS.2.2 dX10_derivativeOf_142
          · skip
            have hc_387 := hPtK_302
            obtain ⟨p_388, p_389, p_390, p_391, p_392, p_393, hpt_394⟩ := hc_387
            have hc_395 := hFK_302
            obtain ⟨vfz_396, hVz_396, hqz_396⟩ := hc_395
            have hc_397 := hVz_396
            obtain ⟨pnz_398, lnz_398, bnz_398, hRz_398, hvz_398⟩ := hc_397
            obtain ⟨r_399, r_400, r_401, r_402, r_403, r_404, r_405⟩ := hRz_398
            refine lv_istore (lv' := [(5, .int (-1)), (4, .int (nI ob)), (3, .int (nI oa)), (0, .ref (ad 0)), (1, .int (nI k1)), (2, .int (nI v))]) hx hb dX10_derivativeOf_107 hl (by decide) rfl (fun ls hl => ?_)
            refine lv_aload_n hx hb dX10_derivativeOf_109 rfl (lv_at hl 3 rfl) ?_
            refine m_get (D := (dC, dI)) (v := .int (iI K_302.1)) (C := RX10) (T := TX10) (N := 29) hx hb hts bk0 hown hK hP 0 (by decide) r_399 rfl 14 (by decide) (hts (.fieldLink RX10 146 "GradientDeskModel" "fault" "I") (List.mem_of_getElem? (i := 15) rfl)) (fun _ h9 => h9) (congrArg (fun z => some (Value.int z)) hfK_302) dX10_derivativeOf_110 ?_
            refine lv_if_ge (tgt := 120) hx hb dX10_derivativeOf_113 (by decide) (fun c_406 => absurd ((k_iLE (a := 0) (b := K_302.1) (show nI 0 = iI 0 from by decide) rfl (by omega) (by omega)).mp c_406) (by omega)) (fun c_406 => ?_)
            refine lv_iconst (v := -1) hx hb dX10_derivativeOf_116 (by decide +kernel) ?_
            refine lv_goto (tgt := 132) hx hb dX10_derivativeOf_117 (by decide) ?_
            refine lv_istore (lv' := [(6, .int (-1)), (5, .int (-1)), (4, .int (nI ob)), (3, .int (nI oa)), (0, .ref (ad 0)), (1, .int (nI k1)), (2, .int (nI v))]) hx hb dX10_derivativeOf_132 hl (by decide) rfl (fun ls hl => ?_)
            refine lv_aload_n hx hb dX10_derivativeOf_134 rfl (lv_at hl 4 rfl) ?_
            refine lv_iload hx hb dX10_derivativeOf_135 (lv_at hl 1 rfl) ?_
            refine lv_iload hx hb dX10_derivativeOf_137 (lv_at hl 0 rfl) ?_
            refine va_calli (va_runV (As := [.int (-1), .int (-1)]) (rest := []) ⟨hx, hb, hml, hown, hts⟩ (c_X10_makeSumF l dC dI A ad cA g_296 x2_297 pf2_299 qf2_300 pt2_298 K_302.2 (-1) (-1) K_302.1 hFK_302 hPtK_302 hMK_302 hmdK_302 hlK_302 hfK_302 (Or.inr ⟨hnK_302, hmK_302⟩) hnK_302) (cwV 2 hts (goodIn_app (goodIn_r [Cond.methodLink RX10 230 yX10_makeSum, Cond.instanceMethod yX10_makeSum, Cond.selects RX10 yX10_makeSum yX10_makeSum, Cond.initialized RX10] [16, 17, 18, 7] rfl rfl) (goodIn_sub (fun w9 h9 => bk7 w9 h9) gw_X10_makeSumF)) rfl rfl rfl (by decide +kernel) ⟨Nat.le_of_ble_eq_true rfl, Nat.le_of_ble_eq_true rfl⟩) ⟨fun a U g mk q => ⟨q.1, q.2.1, q.2.2.1, LY.moved (u := U) (U := U.calling g mk a) (Vm.Alike.refl U.vm) q.2.2.2⟩, va_recv hK hP (ci := 13) (q0 := 0) rfl (wo_at (by decide) r_399), fun U hU hW => ⟨rfl, by rw [hU]; exact fun q h => hA q (Nat.le_trans hS.1 h), by rw [hU]; exact hP, LY.moved hW.alike hL⟩⟩ rfl rfl hl.1 rfl (lv_room (Nat.le_of_ble_eq_true rfl)) dX10_derivativeOf_139 ⟨(Nat.le_of_ble_eq_true rfl), (Nat.le_of_ble_eq_true rfl)⟩) hS (fun q _ h => h) (fun q h => h) (fun r_407 u8 t8 H1 locs ht8 hvm8 hw_408 hB hz1 hk1 hS => ?_)
            obtain ⟨g_409, x2_410, pt2_411, pf2_412, qf2_413⟩ := u8
            try dsimp only at hw_408 hB
            rw [ht8] at hB
            have hP := hB
            generalize H1 = H at hP hS ⊢
            obtain ⟨fr_414, hK⟩ := hw_408
            refine W.widen (k := 0) (n := 0) (by omega) (by omega) ?_
            exact W.iret (v := r_407) hx hb hr (fun t9 ht9 hW9 => ⟨⟨r_407, (g_409, x2_410, pt2_411, pf2_412, qf2_413), rfl, ⟨(fun (k : Nat) (hk : k ≠ 0 ∧ k ≠ 1 ∧ k ≠ 2 ∧ k ≠ 3 ∧ k ≠ 5 ∧ k ≠ 6 ∧ k ≠ 7 ∧ k ≠ 8 ∧ k ≠ 9 ∧ k ≠ 10) => (fr_414 k (by omega)).trans ((fr_301 k (by omega)).trans (rfl))), by subst eK_302; unfold derL; rw [if_neg (by omega), if_neg (by omega), if_neg (by omega), if_pos (by omega), ta, tb]; have hh := hK.base bxK_302 bpK_302; rw [show seqL _ _ = _ from (seq_neg hnK_302)]; exact hh⟩, by show va_P (dC, dI) vwCl _ t9.heap; rw [ht9]; exact hP⟩, hS.F ht9⟩) hS.2.2 dX10_derivativeOf_142
      · have c_24 := (k_iEQ (a := (pt 0) k1) (b := 2) rfl (show nI 2 = iI 2 from by decide) (by omega) (by omega)).mp c_24
        obtain ⟨oa, hoa, eoa⟩ := hW.op1 ik (by omega)
        have ea : pt 1 k1 = ((oa : Nat) : Int) := m1.trans eoa
        have ta : (gd L k1).2.1.toNat = oa := by rw [eoa, Int.toNat_natCast]
        obtain ⟨da, la⟩ := hd1 (by omega)
        rw [ta] at da la
        obtain ⟨ob, hob, eob⟩ := hW.op2 ik (by omega)
        have eb : pt 2 k1 = ((ob : Nat) : Int) := m2.trans eob
        have tb : (gd L k1).2.2.1.toNat = ob := by rw [eob, Int.toNat_natCast]
        obtain ⟨db, lb⟩ := hd2 (by omega)
        rw [tb] at db lb
        rw [ea, eb, ← nI_iI, ← nI_iI] at hl
        refine lv_aload_n hx hb dX10_derivativeOf_67 rfl (lv_at hl 2 rfl) ?_
        refine lv_aload_n hx hb dX10_derivativeOf_68 rfl (lv_at hl 2 rfl) ?_
        refine m_get (D := (dC, dI)) (v := .ref (ad 13)) (C := RX10) (T := TX10) (N := 29) hx hb hts bk0 hown hK hP 0 (by decide) r_3 rfl 17 (by decide) (hts (.fieldLink RX10 53 "GradientDeskModel" "derived" "[I") (List.mem_of_getElem? (i := 14) rfl)) (fun _ h9 => h9) rfl dX10_derivativeOf_69 ?_
        refine lv_iload_n hx hb dX10_derivativeOf_72 rfl (lv_at hl 1 rfl) ?_
        refine m_iald hx hb hK hP 13 (by decide) rfl h13 (i := oa) (by omega) (by decide) dX10_derivativeOf_73 ?_
        rw [da, ← nI_iI]
        refine lv_aload_n hx hb dX10_derivativeOf_74 rfl (lv_at hl 2 rfl) ?_
        refine m_get (D := (dC, dI)) (v := .ref (ad 13)) (C := RX10) (T := TX10) (N := 29) hx hb hts bk0 hown hK hP 0 (by decide) r_3 rfl 17 (by decide) (hts (.fieldLink RX10 53 "GradientDeskModel" "derived" "[I") (List.mem_of_getElem? (i := 14) rfl)) (fun _ h9 => h9) rfl dX10_derivativeOf_75 ?_
        refine lv_iload hx hb dX10_derivativeOf_78 (lv_at hl 0 rfl) ?_
        refine m_iald hx hb hK hP 13 (by decide) rfl h13 (i := ob) (by omega) (by decide) dX10_derivativeOf_80 ?_
        rw [db, ← nI_iI]
        refine va_calli (va_runV (As := [.int (nI (dvn oa)), .int (nI (dvn ob))]) (rest := []) ⟨hx, hb, hml, hown, hts⟩ (c_X10_makeSum l dC dI A ad cA g x pf qf pt L (dvn oa) (dvn ob) 0 hF0 hPt0 hM hmd hL2 hft (Or.inl rfl) hW la lb) (cwV 2 hts (goodIn_app (goodIn_r [Cond.methodLink RX10 230 yX10_makeSum, Cond.instanceMethod yX10_makeSum, Cond.selects RX10 yX10_makeSum yX10_makeSum, Cond.initialized RX10] [16, 17, 18, 7] rfl rfl) (goodIn_sub (fun w9 h9 => bk6 w9 h9) gw_X10_makeSum)) rfl rfl rfl (by decide +kernel) ⟨Nat.le_of_ble_eq_true rfl, Nat.le_of_ble_eq_true rfl⟩) ⟨fun a U g mk q => ⟨q.1, q.2.1, q.2.2.1, LY.moved (u := U) (U := U.calling g mk a) (Vm.Alike.refl U.vm) q.2.2.2⟩, va_recv hK hP (ci := 13) (q0 := 0) rfl (wo_at (by decide) r_3), fun U hU hW => ⟨rfl, by rw [hU]; exact fun q h => hA q (Nat.le_trans hS.1 h), by rw [hU]; exact hP, LY.moved hW.alike hL⟩⟩ rfl rfl hl.1 rfl (lv_room (Nat.le_of_ble_eq_true rfl)) dX10_derivativeOf_81 ⟨(Nat.le_of_ble_eq_true rfl), (Nat.le_of_ble_eq_true rfl)⟩) hS (fun q _ h => h) (fun q h => h) (fun r_415 u8 t8 H1 locs ht8 hvm8 hw_416 hB hz1 hk1 hS => ?_)
        obtain ⟨g_417, x2_418, pt2_419, pf2_420, qf2_421⟩ := u8
        try dsimp only at hw_416 hB
        rw [ht8] at hB
        have hP := hB
        generalize H1 = H at hP hS ⊢
        obtain ⟨fr_422, hK⟩ := hw_416
        rw [onF_0] at hK
        refine W.widen (k := 0) (n := 0) (by omega) (by omega) ?_
        exact W.iret (v := r_415) hx hb hr (fun t9 ht9 hW9 => ⟨⟨r_415, (g_417, x2_418, pt2_419, pf2_420, qf2_421), rfl, ⟨(fun (k : Nat) (hk : k ≠ 0 ∧ k ≠ 1 ∧ k ≠ 2 ∧ k ≠ 3 ∧ k ≠ 5 ∧ k ≠ 6 ∧ k ≠ 7 ∧ k ≠ 8 ∧ k ≠ 9 ∧ k ≠ 10) => (fr_422 k (by omega)).trans (rfl)), by unfold derL; rw [if_neg (by omega), if_neg (by omega), if_pos (by omega), ta, tb]; exact hK.base bx0 bp0⟩, by show va_P (dC, dI) vwCl _ t9.heap; rw [ht9]; exact hP⟩, hS.F ht9⟩) hS.2.2 dX10_derivativeOf_84
    · have c_22 := (k_iEQ (a := (pt 0) k1) (b := 1) rfl (show nI 1 = iI 1 from by decide) (by omega) (by omega)).mp c_22
      refine lv_aload_n hx hb dX10_derivativeOf_41 rfl (lv_at hl 2 rfl) ?_
      refine lv_iload_n hx hb dX10_derivativeOf_42 rfl (lv_at hl 1 rfl) ?_
      refine lv_iload_n hx hb dX10_derivativeOf_43 rfl (lv_at hl 4 rfl) ?_
      refine lv_icmp_ne (tgt := 51) hx hb dX10_derivativeOf_44 (by decide) (fun c_423 => ?_) (fun c_423 => ?_)
      · have c_423 := mt (k_iEQ (a := (pt 1) k1) (b := ((v : Nat) : Int)) rfl (nI_iI v) (by omega) (by omega)).mpr c_423
        refine lv_lconst (v := lN 0) hx hb dX10_derivativeOf_51 (by decide +kernel) ?_
        refine lv_lconst (v := lN 1) hx hb dX10_derivativeOf_52 (by decide +kernel) ?_
        refine va_calli (va_runV (As := [.long (lN 0), .long (lN 1)]) (rest := []) ⟨hx, hb, hml, hown, hts⟩ (c_X10_makeFraction l dC dI A ad cA g x pf qf pt L (lN 0) (lN 1) 0 1 0 hF0 hPt0 hM hmd hL2 hft (Or.inl rfl) (by decide) (by decide) (by decide) (by decide) (by decide)) (cwV 2 hts (goodIn_app (goodIn_r [Cond.methodLink RX10 177 yX10_makeFraction, Cond.instanceMethod yX10_makeFraction, Cond.selects RX10 yX10_makeFraction yX10_makeFraction, Cond.initialized RX10] [4, 5, 6, 7] rfl rfl) (goodIn_sub (fun w9 h9 => bk1 w9 h9) gw_X10_makeFraction)) rfl rfl rfl (by decide +kernel) ⟨Nat.le_of_ble_eq_true rfl, Nat.le_of_ble_eq_true rfl⟩) ⟨fun a U g mk q => ⟨q.1, q.2.1, q.2.2.1, LY.moved (u := U) (U := U.calling g mk a) (Vm.Alike.refl U.vm) q.2.2.2⟩, va_recv hK hP (ci := 13) (q0 := 0) rfl (wo_at (by decide) r_3), fun U hU hW => ⟨rfl, by rw [hU]; exact fun q h => hA q (Nat.le_trans hS.1 h), by rw [hU]; exact hP, LY.moved hW.alike hL⟩⟩ rfl rfl hl.1 rfl (lv_room (Nat.le_of_ble_eq_true rfl)) dX10_derivativeOf_53 ⟨(Nat.le_of_ble_eq_true rfl), (Nat.le_of_ble_eq_true rfl)⟩) hS (fun q _ h => h) (fun q h => h) (fun r_424 u8 t8 H1 locs ht8 hvm8 hw_425 hB hz1 hk1 hS => ?_)
        obtain ⟨g_426, x2_427, pt2_428, pf2_429, qf2_430⟩ := u8
        try dsimp only at hw_425 hB
        rw [ht8] at hB
        have hP := hB
        generalize H1 = H at hP hS ⊢
        obtain ⟨fr_431, hK⟩ := hw_425
        rw [onF_0, (rdp_1 0).1, (rdp_1 0).2] at hK
        refine W.widen (k := 0) (n := 0) (by omega) (by omega) ?_
        exact W.iret (v := r_424) hx hb hr (fun t9 ht9 hW9 => ⟨⟨r_424, (g_426, x2_427, pt2_428, pf2_429, qf2_430), rfl, ⟨(fun (k : Nat) (hk : k ≠ 0 ∧ k ≠ 1 ∧ k ≠ 2 ∧ k ≠ 3 ∧ k ≠ 5 ∧ k ≠ 6 ∧ k ≠ 7 ∧ k ≠ 8 ∧ k ≠ 9 ∧ k ≠ 10) => (fr_431 k (by omega)).trans (rfl)), by unfold derL; rw [if_neg (by omega), if_pos (by omega), if_neg (by omega)]; exact hK⟩, by show va_P (dC, dI) vwCl _ t9.heap; rw [ht9]; exact hP⟩, hS.F ht9⟩) hS.2.2 dX10_derivativeOf_56
      · have c_423 := (k_iEQ (a := (pt 1) k1) (b := ((v : Nat) : Int)) rfl (nI_iI v) (by omega) (by omega)).mp c_423
        refine lv_lconst (v := lN 1) hx hb dX10_derivativeOf_47 (by decide +kernel) ?_
        refine lv_goto (tgt := 52) hx hb dX10_derivativeOf_48 (by decide) ?_
        refine lv_lconst (v := lN 1) hx hb dX10_derivativeOf_52 (by decide +kernel) ?_
        refine va_calli (va_runV (As := [.long (lN 1), .long (lN 1)]) (rest := []) ⟨hx, hb, hml, hown, hts⟩ (c_X10_makeFraction l dC dI A ad cA g x pf qf pt L (lN 1) (lN 1) 1 1 0 hF0 hPt0 hM hmd hL2 hft (Or.inl rfl) (by decide) (by decide) (by decide) (by decide) (by decide)) (cwV 2 hts (goodIn_app (goodIn_r [Cond.methodLink RX10 177 yX10_makeFraction, Cond.instanceMethod yX10_makeFraction, Cond.selects RX10 yX10_makeFraction yX10_makeFraction, Cond.initialized RX10] [4, 5, 6, 7] rfl rfl) (goodIn_sub (fun w9 h9 => bk1 w9 h9) gw_X10_makeFraction)) rfl rfl rfl (by decide +kernel) ⟨Nat.le_of_ble_eq_true rfl, Nat.le_of_ble_eq_true rfl⟩) ⟨fun a U g mk q => ⟨q.1, q.2.1, q.2.2.1, LY.moved (u := U) (U := U.calling g mk a) (Vm.Alike.refl U.vm) q.2.2.2⟩, va_recv hK hP (ci := 13) (q0 := 0) rfl (wo_at (by decide) r_3), fun U hU hW => ⟨rfl, by rw [hU]; exact fun q h => hA q (Nat.le_trans hS.1 h), by rw [hU]; exact hP, LY.moved hW.alike hL⟩⟩ rfl rfl hl.1 rfl (lv_room (Nat.le_of_ble_eq_true rfl)) dX10_derivativeOf_53 ⟨(Nat.le_of_ble_eq_true rfl), (Nat.le_of_ble_eq_true rfl)⟩) hS (fun q _ h => h) (fun q h => h) (fun r_432 u8 t8 H1 locs ht8 hvm8 hw_433 hB hz1 hk1 hS => ?_)
        obtain ⟨g_434, x2_435, pt2_436, pf2_437, qf2_438⟩ := u8
        try dsimp only at hw_433 hB
        rw [ht8] at hB
        have hP := hB
        generalize H1 = H at hP hS ⊢
        obtain ⟨fr_439, hK⟩ := hw_433
        rw [onF_0, (rdp_1 1).1, (rdp_1 1).2] at hK
        refine W.widen (k := 0) (n := 0) (by omega) (by omega) ?_
        exact W.iret (v := r_432) hx hb hr (fun t9 ht9 hW9 => ⟨⟨r_432, (g_434, x2_435, pt2_436, pf2_437, qf2_438), rfl, ⟨(fun (k : Nat) (hk : k ≠ 0 ∧ k ≠ 1 ∧ k ≠ 2 ∧ k ≠ 3 ∧ k ≠ 5 ∧ k ≠ 6 ∧ k ≠ 7 ∧ k ≠ 8 ∧ k ≠ 9 ∧ k ≠ 10) => (fr_439 k (by omega)).trans (rfl)), by unfold derL; rw [if_neg (by omega), if_pos (by omega), if_pos (by omega)]; exact hK⟩, by show va_P (dC, dI) vwCl _ t9.heap; rw [ht9]; exact hP⟩, hS.F ht9⟩) hS.2.2 dX10_derivativeOf_56
  · have c_20 := (k_iEQ (a := (pt 0) k1) (b := 0) rfl (show nI 0 = iI 0 from by decide) (by omega) (by omega)).mp c_20
    refine lv_aload_n hx hb dX10_derivativeOf_24 rfl (lv_at hl 2 rfl) ?_
    refine lv_lconst (v := lN 0) hx hb dX10_derivativeOf_25 (by decide +kernel) ?_
    refine lv_lconst (v := lN 1) hx hb dX10_derivativeOf_26 (by decide +kernel) ?_
    refine va_calli (va_runV (As := [.long (lN 0), .long (lN 1)]) (rest := []) ⟨hx, hb, hml, hown, hts⟩ (c_X10_makeFraction l dC dI A ad cA g x pf qf pt L (lN 0) (lN 1) 0 1 0 hF0 hPt0 hM hmd hL2 hft (Or.inl rfl) (by decide) (by decide) (by decide) (by decide) (by decide)) (cwV 2 hts (goodIn_app (goodIn_r [Cond.methodLink RX10 177 yX10_makeFraction, Cond.instanceMethod yX10_makeFraction, Cond.selects RX10 yX10_makeFraction yX10_makeFraction, Cond.initialized RX10] [4, 5, 6, 7] rfl rfl) (goodIn_sub (fun w9 h9 => bk1 w9 h9) gw_X10_makeFraction)) rfl rfl rfl (by decide +kernel) ⟨Nat.le_of_ble_eq_true rfl, Nat.le_of_ble_eq_true rfl⟩) ⟨fun a U g mk q => ⟨q.1, q.2.1, q.2.2.1, LY.moved (u := U) (U := U.calling g mk a) (Vm.Alike.refl U.vm) q.2.2.2⟩, va_recv hK hP (ci := 13) (q0 := 0) rfl (wo_at (by decide) r_3), fun U hU hW => ⟨rfl, by rw [hU]; exact fun q h => hA q (Nat.le_trans hS.1 h), by rw [hU]; exact hP, LY.moved hW.alike hL⟩⟩ rfl rfl hl.1 rfl (lv_room (Nat.le_of_ble_eq_true rfl)) dX10_derivativeOf_27 ⟨(Nat.le_of_ble_eq_true rfl), (Nat.le_of_ble_eq_true rfl)⟩) hS (fun q _ h => h) (fun q h => h) (fun r_440 u8 t8 H1 locs ht8 hvm8 hw_441 hB hz1 hk1 hS => ?_)
    obtain ⟨g_442, x2_443, pt2_444, pf2_445, qf2_446⟩ := u8
    try dsimp only at hw_441 hB
    rw [ht8] at hB
    have hP := hB
    generalize H1 = H at hP hS ⊢
    obtain ⟨fr_447, hK⟩ := hw_441
    rw [onF_0, (rdp_1 0).1, (rdp_1 0).2] at hK
    refine W.widen (k := 0) (n := 0) (by omega) (by omega) ?_
    exact W.iret (v := r_440) hx hb hr (fun t9 ht9 hW9 => ⟨⟨r_440, (g_442, x2_443, pt2_444, pf2_445, qf2_446), rfl, ⟨(fun (k : Nat) (hk : k ≠ 0 ∧ k ≠ 1 ∧ k ≠ 2 ∧ k ≠ 3 ∧ k ≠ 5 ∧ k ≠ 6 ∧ k ≠ 7 ∧ k ≠ 8 ∧ k ≠ 9 ∧ k ≠ 10) => (fr_447 k (by omega)).trans (rfl)), by unfold derL; rw [if_pos (by omega)]; exact hK⟩, by show va_P (dC, dI) vwCl _ t9.heap; rw [ht9]; exact hP⟩, hS.F ht9⟩) hS.2.2 dX10_derivativeOf_30
