section
def wd_X10_derivativeCell : List Cond := .code yX10_derivativeCell cX10_derivativeCell 2 (some .int) :: (([] : List Cond) ++ ([]))
theorem gw_X10_derivativeCell : wd_X10_derivativeCell.all goodWord = true := k_allc rfl (k_all (by decide +kernel) (rfl))
set_option maxHeartbeats 4000000 in
set_option maxRecDepth 100000 in
theorem c_X10_derivativeCell (l : Launch) (dC : Nat → ClassId) (dI : Nat → Nat → Nat) (A : Nat → Prop) (ad : Nat → Nat) (cA : Nat → ClassId) (g : Nat → va_E) (k9 : Nat) (v9 : Nat) : Met l yX10_derivativeCell wd_X10_derivativeCell ({ frames := 10, cells := 0, slots := 0, locals := 200 }) (va_Pc [.int (nI k9), .int (nI v9)] (PR NSr tyr dC dI A ad cA g)) (va_Qi (fun (r : Int32) => fun (u : Unit) => match u with | () => r = nI (400 + 200 * v9 + k9)) (fun (u : Unit) (t : State) => va_P (dC, dI) vwCl (wo ad NSr g) t.heap) A) (0) (0) A := by
  refine Met.ofW (cc := cX10_derivativeCell) (maxL := 2) (ret := (some .int)) (by decide) rfl ?_
  intro p e s m args below meth c s₁ B hml hv
  obtain ⟨rfl, hA, hP, hL⟩ := hv
  have hx := B.exec
  have hb := B.bytes
  have hr := B.returns
  have hts := atoms_spec (ws := wd_X10_derivativeCell) B.pre
  have hown : s.vm.findClass RX10 = some m.cls := findClass_of_methodNamed B.named
  have hlocks := B.notSynchronized
  have hK := hL.1
  have hD : ∀ g, va_D A (wo ad NSr g) := fun g => wo_D hL.2.1 hL.2.2 g
  have hS : va_S A s.heap s.heap [] := va_S.rf
  have hl := lv_entry ([.int (nI k9), .int (nI v9)]) (n := 2) (Nat.le_of_ble_eq_true rfl)
  rw [lg_entry_eq]
  generalize (lg_sl ([.int (nI k9), .int (nI v9)]) ++ List.replicate (2 - (lg_sl ([.int (nI k9), .int (nI v9)])).length) Slot.unset).toArray = ls at hl ⊢
  have hl : lv_has ls 2 [(0, .int (nI k9)), (1, .int (nI v9))] := hl
  refine lv_sipush (v := nI 400) hx hb dX10_derivativeCell_0 (by decide +kernel) ?_
  refine lv_sipush (v := nI 200) hx hb dX10_derivativeCell_3 (by decide +kernel) ?_
  refine lv_iload_n hx hb dX10_derivativeCell_6 rfl (lv_at hl 1 rfl) ?_
  refine lv_imul hx hb dX10_derivativeCell_7 ?_
  refine lv_topi (fun x_1 e_2 => ?_)
  obtain rfl : x_1 = nI (200 * v9) := e_2.trans (pk_mul 200 v9)
  refine lv_iadd hx hb dX10_derivativeCell_8 ?_
  refine lv_topi (fun x_3 e_4 => ?_)
  obtain rfl : x_3 = nI (400 + (200 * v9)) := e_4.trans (nI_add 400 (200 * v9))
  refine lv_iload_n hx hb dX10_derivativeCell_9 rfl (lv_at hl 0 rfl) ?_
  refine lv_iadd hx hb dX10_derivativeCell_10 ?_
  refine lv_topi (fun x_5 e_6 => ?_)
  obtain rfl : x_5 = nI (400 + (200 * v9) + k9) := e_6.trans (nI_add (400 + (200 * v9)) k9)
  refine W.widen (k := 0) (n := 0) (by omega) (by omega) ?_
  exact W.iret (v := nI (400 + (200 * v9) + k9)) hx hb hr (fun t9 ht9 hW9 => ⟨⟨nI (400 + (200 * v9) + k9), (), rfl, rfl, by show va_P (dC, dI) vwCl _ t9.heap; rw [ht9]; exact hP⟩, hS.F ht9⟩) hS.2.2 dX10_derivativeCell_11
def wd_X10_reckonPart : List Cond := .code yX10_reckonPart cX10_reckonPart 6 none :: (([.fieldLink RX10 32 "GradientDeskModel" "first" "[I", .fieldLink RX10 35 "GradientDeskModel" "second" "[I", .fieldLink RX10 29 "GradientDeskModel" "sort" "[I", .methodLink RX10 181 yX10_power, .instanceMethod yX10_power, .selects RX10 yX10_power yX10_power, .initialized RX10, .methodLink RX10 269 yX10_derivativeCell, .static yX10_derivativeCell, .methodLink RX10 139 yX10_setFraction, .instanceMethod yX10_setFraction, .selects RX10 yX10_setFraction yX10_setFraction, .methodLink RX10 143 yX10_timesFractions, .instanceMethod yX10_timesFractions, .selects RX10 yX10_timesFractions yX10_timesFractions, .methodLink RX10 171 yX10_addFractions, .instanceMethod yX10_addFractions, .selects RX10 yX10_addFractions yX10_addFractions, .methodLink RX10 136 yX10_copyFraction, .instanceMethod yX10_copyFraction, .selects RX10 yX10_copyFraction yX10_copyFraction] : List Cond) ++ (u_ws RX10 TX10 29 ++ (wd_X10_power ++ (wd_X10_derivativeCell ++ (wd_X10_setFraction ++ (wd_X10_timesFractions ++ (wd_X10_addFractions ++ (wd_X10_copyFraction ++ ([])))))))))
theorem gw_X10_reckonPart : wd_X10_reckonPart.all goodWord = true := k_allc rfl (k_all (by decide +kernel) (k_all (gu_X10) (k_all (gw_X10_power) (k_all (gw_X10_derivativeCell) (k_all (gw_X10_setFraction) (k_all (gw_X10_timesFractions) (k_all (gw_X10_addFractions) (k_all (gw_X10_copyFraction) (rfl)))))))))
set_option maxHeartbeats 4000000 in
set_option maxRecDepth 100000 in
theorem c_X10_reckonPart (l : Launch) (dC : Nat → ClassId) (dI : Nat → Nat → Nat) (A : Nat → Prop) (ad : Nat → Nat) (cA : Nat → ClassId) (g : Nat → va_E) (x : Nat → Int32) (pf : Nat → Int) (qf : Nat → Nat) (pt : Nat → Nat → Int) (L : List PD) (k1 : Nat) (Q : Nat) (hF : RF ad cA g x pf qf) (hPt : PTF cA g pt) (hM : MT L pt pf qf) (hL2 : L.length ≤ 200) (hW : WFL L) (ik : k1 < L.length) (hQ : Q = qf 1008 * qf 1009 * qf 1010) (hP8 : ∀ v, v < 3 → (pf (1008 + v)).natAbs ≤ 9999 ∧ 0 < qf (1008 + v) ∧ qf (1008 + v) ≤ 9999) (hT1 : 1 < (gd L k1).1 → TV L Q (gd L k1).2.1.toNat pf qf) (hT2 : (gd L k1).1 = 2 ∨ (gd L k1).1 = 3 → TV L Q (gd L k1).2.2.1.toNat pf qf) : Met l yX10_reckonPart wd_X10_reckonPart ({ frames := 90, cells := 0, slots := 0, locals := 1800 }) (va_Pc [.ref (ad 0), .int (nI k1)] (PR NSr tyr dC dI A ad cA g)) (va_Qv (fun (u : (Nat → va_E) × (Nat → Int) × (Nat → Nat)) => match u with | (g2, pf2, qf2) => (∀ k, k ≠ 1 ∧ k ≠ 2 ∧ k ≠ 3 → g2 k = g k) ∧ RF ad cA g2 x pf2 qf2 ∧ TV L Q k1 pf2 qf2 ∧ (∀ f, f ≠ 200 + k1 → f ≠ 400 + k1 → f ≠ 600 + k1 → f ≠ 800 + k1 → f ≠ 1012 → f ≠ 1013 → f ≠ 1014 → f ≠ 1016 → pf2 f = pf f ∧ qf2 f = qf f)) (fun (u : (Nat → va_E) × (Nat → Int) × (Nat → Nat)) (t : State) => va_P (dC, dI) vwCl (wo ad NSr u.1) t.heap) A) (0) (0) A := by
  refine Met.ofW (cc := cX10_reckonPart) (maxL := 6) (ret := none) (by decide) rfl ?_
  intro p e s m args below meth c s₁ B hml hv
  obtain ⟨rfl, hA, hP, hL⟩ := hv
  have hx := B.exec
  have hb := B.bytes
  have hr := B.returns
  have hts := atoms_spec (ws := wd_X10_reckonPart) B.pre
  have hown : s.vm.findClass RX10 = some m.cls := findClass_of_methodNamed B.named
  have hlocks := B.notSynchronized
  have hK := hL.1
  have hD : ∀ g, va_D A (wo ad NSr g) := fun g => wo_D hL.2.1 hL.2.2 g
  have hS : va_S A s.heap s.heap [] := va_S.rf
  have bk0 : ∀ w ∈ u_ws RX10 TX10 29, w ∈ wd_X10_reckonPart := fun _ h => List.mem_cons_of_mem _ (List.mem_append_right _ (List.mem_append_left _ h))
  have bk1 : ∀ w ∈ wd_X10_power, w ∈ wd_X10_reckonPart := fun _ h => List.mem_cons_of_mem _ (List.mem_append_right _ (List.mem_append_right _ (List.mem_append_left _ h)))
  have bk2 : ∀ w ∈ wd_X10_derivativeCell, w ∈ wd_X10_reckonPart := fun _ h => List.mem_cons_of_mem _ (List.mem_append_right _ (List.mem_append_right _ (List.mem_append_right _ (List.mem_append_left _ h))))
  have bk3 : ∀ w ∈ wd_X10_setFraction, w ∈ wd_X10_reckonPart := fun _ h => List.mem_cons_of_mem _ (List.mem_append_right _ (List.mem_append_right _ (List.mem_append_right _ (List.mem_append_right _ (List.mem_append_left _ h)))))
  have bk4 : ∀ w ∈ wd_X10_timesFractions, w ∈ wd_X10_reckonPart := fun _ h => List.mem_cons_of_mem _ (List.mem_append_right _ (List.mem_append_right _ (List.mem_append_right _ (List.mem_append_right _ (List.mem_append_right _ (List.mem_append_left _ h))))))
  have bk5 : ∀ w ∈ wd_X10_addFractions, w ∈ wd_X10_reckonPart := fun _ h => List.mem_cons_of_mem _ (List.mem_append_right _ (List.mem_append_right _ (List.mem_append_right _ (List.mem_append_right _ (List.mem_append_right _ (List.mem_append_right _ (List.mem_append_left _ h)))))))
  have bk6 : ∀ w ∈ wd_X10_copyFraction, w ∈ wd_X10_reckonPart := fun _ h => List.mem_cons_of_mem _ (List.mem_append_right _ (List.mem_append_right _ (List.mem_append_right _ (List.mem_append_right _ (List.mem_append_right _ (List.mem_append_right _ (List.mem_append_right _ (List.mem_append_left _ h))))))))
  have hl := lv_entry ([.ref (ad 0), .int (nI k1)]) (n := 6) (Nat.le_of_ble_eq_true rfl)
  rw [lg_entry_eq]
  generalize (lg_sl ([.ref (ad 0), .int (nI k1)]) ++ List.replicate (6 - (lg_sl ([.ref (ad 0), .int (nI k1)])).length) Slot.unset).toArray = ls at hl ⊢
  have hl : lv_has ls 6 [(0, .ref (ad 0)), (1, .int (nI k1))] := hl
  have hF0 := hF
  obtain ⟨vf, hV, hq⟩ := hF
  have hc_1 := hV
  obtain ⟨pnz_2, lnz_2, bnz_2, hRz_2, hvz_2⟩ := hc_1
  obtain ⟨r_3, r_4, r_5, r_6, r_7, r_8, r_9⟩ := hRz_2
  obtain ⟨p_10, p_11, p_12, p_13, p_14, p_15, hpt_16⟩ := hPt
  obtain ⟨m0, m1, m2, -, -, -, m6⟩ := hM k1 ik
  obtain ⟨w1, w2, w3, w4, w5, w6, w7, w8, w9, w10, w11⟩ := hW k1 ik
  have hQb : 0 < Q ∧ Q ≤ 1099511627776 := by obtain ⟨-, u1, u2⟩ := hP8 0 (by decide); obtain ⟨-, u3, u4⟩ := hP8 1 (by decide); obtain ⟨-, u5, u6⟩ := hP8 2 (by decide); exact ⟨by rw [hQ]; exact Nat.mul_pos (Nat.mul_pos u1 u3) u5, by rw [hQ]; exact Nat.le_trans (Nat.mul_le_mul (Nat.mul_le_mul u2 u4) u6) (by decide)⟩
  refine lv_aload_n hx hb dX10_reckonPart_0 rfl (lv_at hl 0 rfl) ?_
  refine m_get (D := (dC, dI)) (v := .ref (ad 6)) (C := RX10) (T := TX10) (N := 29) hx hb hts bk0 hown hK hP 0 (by decide) r_3 rfl 8 (by decide) (hts (.fieldLink RX10 32 "GradientDeskModel" "first" "[I") (List.mem_of_getElem? (i := 1) rfl)) (fun _ h9 => h9) rfl dX10_reckonPart_1 ?_
  refine lv_iload_n hx hb dX10_reckonPart_4 rfl (lv_at hl 1 rfl) ?_
  refine m_iald hx hb hK hP 6 (by decide) rfl p_11 (i := k1) (by omega) (by decide) dX10_reckonPart_5 ?_
  have b_17 := (hpt_16 1) k1
  refine lv_istore_n (lv' := [(2, .int (iI ((pt 1) k1))), (0, .ref (ad 0)), (1, .int (nI k1))]) hx hb dX10_reckonPart_6 rfl hl (by decide) rfl (fun ls hl => ?_)
  refine lv_aload_n hx hb dX10_reckonPart_7 rfl (lv_at hl 1 rfl) ?_
  refine m_get (D := (dC, dI)) (v := .ref (ad 7)) (C := RX10) (T := TX10) (N := 29) hx hb hts bk0 hown hK hP 0 (by decide) r_3 rfl 9 (by decide) (hts (.fieldLink RX10 35 "GradientDeskModel" "second" "[I") (List.mem_of_getElem? (i := 2) rfl)) (fun _ h9 => h9) rfl dX10_reckonPart_8 ?_
  refine lv_iload_n hx hb dX10_reckonPart_11 rfl (lv_at hl 2 rfl) ?_
  refine m_iald hx hb hK hP 7 (by decide) rfl p_12 (i := k1) (by omega) (by decide) dX10_reckonPart_12 ?_
  have b_18 := (hpt_16 2) k1
  refine lv_istore_n (lv' := [(3, .int (iI ((pt 2) k1))), (2, .int (iI ((pt 1) k1))), (0, .ref (ad 0)), (1, .int (nI k1))]) hx hb dX10_reckonPart_13 rfl hl (by decide) rfl (fun ls hl => ?_)
  refine lv_aload_n hx hb dX10_reckonPart_14 rfl (lv_at hl 2 rfl) ?_
  refine m_get (D := (dC, dI)) (v := .ref (ad 5)) (C := RX10) (T := TX10) (N := 29) hx hb hts bk0 hown hK hP 0 (by decide) r_3 rfl 7 (by decide) (hts (.fieldLink RX10 29 "GradientDeskModel" "sort" "[I") (List.mem_of_getElem? (i := 3) rfl)) (fun _ h9 => h9) rfl dX10_reckonPart_15 ?_
  refine lv_iload_n hx hb dX10_reckonPart_18 rfl (lv_at hl 3 rfl) ?_
  refine m_iald hx hb hK hP 5 (by decide) rfl p_10 (i := k1) (by omega) (by decide) dX10_reckonPart_19 ?_
  have b_19 := (hpt_16 0) k1
  refine lv_if_ne (tgt := 36) hx hb dX10_reckonPart_20 (by decide) (fun c_20 => ?_) (fun c_20 => ?_)
  · have c_20 := mt (k_iEQ (a := (pt 0) k1) (b := 0) rfl (show nI 0 = iI 0 from by decide) (by omega) (by omega)).mpr c_20
    refine lv_aload_n hx hb dX10_reckonPart_36 rfl (lv_at hl 2 rfl) ?_
    refine m_get (D := (dC, dI)) (v := .ref (ad 5)) (C := RX10) (T := TX10) (N := 29) hx hb hts bk0 hown hK hP 0 (by decide) r_3 rfl 7 (by decide) (hts (.fieldLink RX10 29 "GradientDeskModel" "sort" "[I") (List.mem_of_getElem? (i := 3) rfl)) (fun _ h9 => h9) rfl dX10_reckonPart_37 ?_
    refine lv_iload_n hx hb dX10_reckonPart_40 rfl (lv_at hl 3 rfl) ?_
    refine m_iald hx hb hK hP 5 (by decide) rfl p_10 (i := k1) (by omega) (by decide) dX10_reckonPart_41 ?_
    have b_21 := (hpt_16 0) k1
    refine lv_iconst (v := nI 1) hx hb dX10_reckonPart_42 (by decide +kernel) ?_
    refine lv_icmp_ne (tgt := 63) hx hb dX10_reckonPart_43 (by decide) (fun c_22 => ?_) (fun c_22 => ?_)
    · have c_22 := mt (k_iEQ (a := (pt 0) k1) (b := 1) rfl (show nI 1 = iI 1 from by decide) (by omega) (by omega)).mpr c_22
      refine lv_aload_n hx hb dX10_reckonPart_63 rfl (lv_at hl 2 rfl) ?_
      refine m_get (D := (dC, dI)) (v := .ref (ad 5)) (C := RX10) (T := TX10) (N := 29) hx hb hts bk0 hown hK hP 0 (by decide) r_3 rfl 7 (by decide) (hts (.fieldLink RX10 29 "GradientDeskModel" "sort" "[I") (List.mem_of_getElem? (i := 3) rfl)) (fun _ h9 => h9) rfl dX10_reckonPart_64 ?_
      refine lv_iload_n hx hb dX10_reckonPart_67 rfl (lv_at hl 3 rfl) ?_
      refine m_iald hx hb hK hP 5 (by decide) rfl p_10 (i := k1) (by omega) (by decide) dX10_reckonPart_68 ?_
      have b_23 := (hpt_16 0) k1
      refine lv_iconst (v := nI 2) hx hb dX10_reckonPart_69 (by decide +kernel) ?_
      refine lv_icmp_ne (tgt := 95) hx hb dX10_reckonPart_70 (by decide) (fun c_24 => ?_) (fun c_24 => ?_)
      · have c_24 := mt (k_iEQ (a := (pt 0) k1) (b := 2) rfl (show nI 2 = iI 2 from by decide) (by omega) (by omega)).mpr c_24
        refine lv_aload_n hx hb dX10_reckonPart_95 rfl (lv_at hl 2 rfl) ?_
        refine m_get (D := (dC, dI)) (v := .ref (ad 5)) (C := RX10) (T := TX10) (N := 29) hx hb hts bk0 hown hK hP 0 (by decide) r_3 rfl 7 (by decide) (hts (.fieldLink RX10 29 "GradientDeskModel" "sort" "[I") (List.mem_of_getElem? (i := 3) rfl)) (fun _ h9 => h9) rfl dX10_reckonPart_96 ?_
        refine lv_iload_n hx hb dX10_reckonPart_99 rfl (lv_at hl 3 rfl) ?_
        refine m_iald hx hb hK hP 5 (by decide) rfl p_10 (i := k1) (by omega) (by decide) dX10_reckonPart_100 ?_
        have b_25 := (hpt_16 0) k1
        refine lv_iconst (v := nI 3) hx hb dX10_reckonPart_101 (by decide +kernel) ?_
        refine lv_icmp_ne (tgt := 127) hx hb dX10_reckonPart_102 (by decide) (fun c_26 => ?_) (fun c_26 => ?_)
        · have c_26 := mt (k_iEQ (a := (pt 0) k1) (b := 3) rfl (show nI 3 = iI 3 from by decide) (by omega) (by omega)).mpr c_26
          obtain ⟨oa, en, hoa, he2, he9, eoa, een, -, e1, e2, e3⟩ := w11 (by omega)
          have eb : pt 2 k1 = ((en : Nat) : Int) := m2.trans een
          have ea : pt 1 k1 = ((oa : Nat) : Int) := m1.trans eoa
          have hTa := hT1 (by omega)
          rw [eoa, Int.toNat_natCast] at hTa
          have fa := hTa.fb hQb hW (by omega) hL2 (fun f hf => hF0.red hf)
          obtain ⟨Na, ba, Da, ta1, ta2, ta3⟩ := hTa
          obtain ⟨-, wa2, -, wa4, wa5, -⟩ := hW oa (by omega)
          have Ma := k_M hQb ⟨ta1.1, ta1.2.1⟩ wa5 wa2
          rw [ea, eb, ← nI_iI, ← nI_iI] at hl
          refine lv_aload_n hx hb dX10_reckonPart_127 rfl (lv_at hl 2 rfl) ?_
          refine lv_sipush (v := nI 200) hx hb dX10_reckonPart_128 (by decide +kernel) ?_
          refine lv_iload_n hx hb dX10_reckonPart_131 rfl (lv_at hl 3 rfl) ?_
          refine lv_iadd hx hb dX10_reckonPart_132 ?_
          refine lv_topi (fun x_27 e_28 => ?_)
          obtain rfl : x_27 = nI (200 + k1) := e_28.trans (nI_add 200 k1)
          refine lv_sipush (v := nI 200) hx hb dX10_reckonPart_133 (by decide +kernel) ?_
          refine lv_iload_n hx hb dX10_reckonPart_136 rfl (lv_at hl 1 rfl) ?_
          refine lv_iadd hx hb dX10_reckonPart_137 ?_
          refine lv_topi (fun x_29 e_30 => ?_)
          obtain rfl : x_29 = nI (200 + oa) := e_30.trans (nI_add 200 oa)
          refine lv_iload_n hx hb dX10_reckonPart_138 rfl (lv_at hl 0 rfl) ?_
          have hTp : TVn L Q k1 (Na ^ en) (ba ^ en) := TVn.pow ta1 e1 e2 e3
          have Mp := k_M hQb ⟨hTp.1, hTp.2.1⟩ w5 w2
          rw [e1, ← pow_M] at Mp
          have pb := k_pown (n := en) ta2 (hF0.red (by omega)) Ma.1 (Nat.le_trans (hTp.le w4 w2) p724.1) Mp.2
          refine va_callv (va_runV (As := [.int (nI (200 + k1)), .int (nI (200 + oa)), .int (nI en)]) (rest := []) ⟨hx, hb, hml, hown, hts⟩ (c_X10_power l dC dI A ad cA g x pf qf (200 + k1) (200 + oa) en hF0 (by omega) (by omega) he9 pb.1 pb.2) (cwV 3 hts (goodIn_app (goodIn_r [Cond.methodLink RX10 181 yX10_power, Cond.instanceMethod yX10_power, Cond.selects RX10 yX10_power yX10_power, Cond.initialized RX10] [4, 5, 6, 7] rfl rfl) (goodIn_sub (fun w9 h9 => bk1 w9 h9) gw_X10_power)) rfl rfl rfl (by decide +kernel) ⟨Nat.le_of_ble_eq_true rfl, Nat.le_of_ble_eq_true rfl⟩) ⟨fun a U g mk q => ⟨q.1, q.2.1, q.2.2.1, LY.moved (u := U) (U := U.calling g mk a) (Vm.Alike.refl U.vm) q.2.2.2⟩, va_recv hK hP (ci := 13) (q0 := 0) rfl (wo_at (by decide) r_3), fun U hU hW => ⟨rfl, by rw [hU]; exact fun q h => hA q (Nat.le_trans hS.1 h), by rw [hU]; exact hP, LY.moved hW.alike hL⟩⟩ rfl rfl hl.1 rfl (lv_room (Nat.le_of_ble_eq_true rfl)) dX10_reckonPart_139 ⟨(Nat.le_of_ble_eq_true rfl), (Nat.le_of_ble_eq_true rfl)⟩) hS (fun q _ h => h) (fun q h => h) (fun u8 t8 H1 locs ht8 hvm8 hw_31 hB hz1 hk1 hS => ?_)
          obtain ⟨g_32, pf2_33, qf2_34⟩ := u8
          try dsimp only at hw_31 hB
          rw [ht8] at hB
          have hP := hB
          generalize H1 = H at hP hS ⊢
          obtain ⟨fr_35, hF1, hp1, hq1, ho1⟩ := hw_31
          obtain ⟨N9, hN9⟩ : ∃ z9, z9 = Na ^ en := ⟨_, rfl⟩
          obtain ⟨b9, hb9⟩ : ∃ z9, z9 = ba ^ en := ⟨_, rfl⟩
          have hTn : TVn L Q k1 N9 b9 := by rw [hN9, hb9]; exact hTp
          have hTe : Eqv (pf2_33 (200 + k1)) (qf2_34 (200 + k1)) N9 (b9 * Q ^ (gd L k1).2.2.2.1) := by rw [hN9, hb9]; rw [e1, ← pow_M, hp1, hq1]; exact ta2.pow en
          have M9 := k_M hQb ⟨hTn.1, hTn.2.1⟩ w5 w2
          have hfr : ∀ f, f ≠ 200 + k1 → f ≠ 400 + k1 → f ≠ 600 + k1 → f ≠ 800 + k1 → f ≠ 1012 → f ≠ 1013 → f ≠ 1014 → f ≠ 1016 → pf2_33 f = pf f ∧ qf2_34 f = qf f := fun f h1 h2 h3 h4 h5 h6 h7 h8 => ho1 f h1 h7 h8
          refine lv_iconst (v := nI 0) hx hb dX10_reckonPart_142 (by decide +kernel) ?_
          refine lv_istore (lv' := [(4, .int (nI 0)), (3, .int (nI en)), (2, .int (nI oa)), (0, .ref (ad 0)), (1, .int (nI k1))]) hx hb dX10_reckonPart_143 hl (by decide) rfl (fun ls hl => ?_)
          have loop_36 : ∀ (k9 : Nat) (vv : Nat) (p1 : Nat → Int) (q1 : Nat → Nat) (g_38 : Nat → va_E) (fr_39 : ∀ k, (k ≠ 1 ∧ k ≠ 2 ∧ k ≠ 3) → g_38 k = g_32 k), 3 - vv < k9 → (vv ≤ 3) → (∀ f, f ≠ 200 + k1 → f ≠ 400 + k1 → f ≠ 600 + k1 → f ≠ 800 + k1 → f ≠ 1012 → f ≠ 1013 → f ≠ 1014 → f ≠ 1016 → p1 f = pf f ∧ q1 f = qf f) → (Eqv (p1 (200 + k1)) (q1 (200 + k1)) N9 (b9 * Q ^ (gd L k1).2.2.2.1)) → (∀ u, u < vv → ∃ D : Int, TVd L k1 D ∧ Eqv (p1 (400 + 200 * u + k1)) (q1 (400 + 200 * u + k1)) D (b9 * Q ^ (gd L k1).2.2.2.1)) → (RF ad cA g_38 x p1 q1) → ∀ (H : Heap) (locs : List Loc) (ls : Array Slot), va_P (dC, dI) vwCl (wo ad NSr g_38) H → va_S A s.heap H locs → lv_has ls 6 [(3, .int (nI en)), (2, .int (nI oa)), (0, .ref (ad 0)), (1, .int (nI k1)), (4, .int (nI vv))] → W p l e (headSpec wd_X10_reckonPart ({ frames := 90, cells := 0, slots := 0, locals := 1800 })).room s m ([.ref (ad 0), .int (nI k1)] : List Value).toArray below meth c H locs (0) (0) (MQ below (va_Qv (fun (u : (Nat → va_E) × (Nat → Int) × (Nat → Nat)) => match u with | (g2, pf2, qf2) => (∀ k, k ≠ 1 ∧ k ≠ 2 ∧ k ≠ 3 → g2 k = g k) ∧ RF ad cA g2 x pf2 qf2 ∧ TV L Q k1 pf2 qf2 ∧ (∀ f, f ≠ 200 + k1 → f ≠ 400 + k1 → f ≠ 600 + k1 → f ≠ 800 + k1 → f ≠ 1012 → f ≠ 1013 → f ≠ 1014 → f ≠ 1016 → pf2 f = pf f ∧ qf2 f = qf f)) (fun (u : (Nat → va_E) × (Nat → Int) × (Nat → Nat)) (t : State) => va_P (dC, dI) vwCl (wo ad NSr u.1) t.heap) A) ([.ref (ad 0), .int (nI k1)] : List Value).toArray s (0) (0) A) (F0 m 145 ls []) := by
            intro k9
            induction k9 with
            | zero => intro vv p1 q1 g_38 fr_39 h9; exact absurd h9 (Nat.not_lt_zero _)
            | succ k9 ih_37 =>
              intro vv p1 q1 g_38 fr_39 h9 hv3 hO hVe hDe hFL H locs ls hP hS hl
              refine lv_iload hx hb dX10_reckonPart_145 (lv_at hl 4 rfl) ?_
              refine lv_iconst (v := nI 3) hx hb dX10_reckonPart_147 (by decide +kernel) ?_
              refine lv_icmp_ge (tgt := 351) hx hb dX10_reckonPart_148 (by decide) (fun c_40 => ?_) (fun c_40 => ?_)
              · have c_40 := (nI_leI (a := 3) (b := vv) (by decide) (by omega)).mp c_40
                refine W.widen (k := 0) (n := 0) (by omega) (by omega) ?_
                exact W.vret hx hb hr (fun t9 ht9 hW9 => ⟨⟨(g_38, p1, q1), rfl, ⟨(fun (k : Nat) (hk : k ≠ 1 ∧ k ≠ 2 ∧ k ≠ 3) => (fr_39 k (by omega)).trans ((fr_35 k (by omega)).trans (rfl))), hFL, TV.of hTn hVe (fun v9 h9 => hDe v9 (by omega)), hO⟩, by show va_P (dC, dI) vwCl _ t9.heap; rw [ht9]; exact hP⟩, hS.F ht9⟩) hS.2.2 dX10_reckonPart_351
              · have c_40 := mt (nI_leI (a := 3) (b := vv) (by decide) (by omega)).mpr c_40
                refine lv_iload_n hx hb dX10_reckonPart_151 rfl (lv_at hl 3 rfl) ?_
                refine lv_iload hx hb dX10_reckonPart_152 (lv_at hl 4 rfl) ?_
                refine va_calli (va_runS (As := [.int (nI k1), .int (nI vv)]) (rest := []) ⟨hx, hb, hml, hown, hts⟩ (c_X10_derivativeCell l dC dI A ad cA g_38 k1 vv ) (va_cwS 2 hts (goodIn_app (goodIn_r [Cond.methodLink RX10 269 yX10_derivativeCell, Cond.static yX10_derivativeCell, Cond.initialized RX10] [8, 9, 7] rfl rfl) (goodIn_sub (fun w9 h9 => bk2 w9 h9) gw_X10_derivativeCell)) rfl rfl rfl (by decide +kernel) ⟨Nat.le_of_ble_eq_true rfl, Nat.le_of_ble_eq_true rfl⟩) ⟨fun a U g mk q => ⟨q.1, q.2.1, q.2.2.1, LY.moved (u := U) (U := U.calling g mk a) (Vm.Alike.refl U.vm) q.2.2.2⟩, fun U hU hW => ⟨rfl, by rw [hU]; exact fun q h => hA q (Nat.le_trans hS.1 h), by rw [hU]; exact hP, LY.moved hW.alike hL⟩⟩ rfl rfl hl.1 rfl (lv_room (Nat.le_of_ble_eq_true rfl)) dX10_reckonPart_154 ⟨(Nat.le_of_ble_eq_true rfl), (Nat.le_of_ble_eq_true rfl)⟩) hS (fun q _ h => h) (fun q h => h) (fun r_41 u8 t8 H1 locs ht8 hvm8 hw_42 hB hz1 hk1 hS => ?_)
                obtain ⟨⟩ := u8
                try dsimp only at hw_42 hB
                rw [ht8] at hB
                have hP := hB
                generalize H1 = H at hP hS ⊢
                obtain rfl := hw_42
                refine lv_istore (lv' := [(5, .int (nI (400 + 200 * vv + k1))), (3, .int (nI en)), (2, .int (nI oa)), (0, .ref (ad 0)), (1, .int (nI k1)), (4, .int (nI vv))]) hx hb dX10_reckonPart_157 hl (by decide) rfl (fun ls hl => ?_)
                refine lv_aload_n hx hb dX10_reckonPart_159 rfl (lv_at hl 3 rfl) ?_
                have f_43 : g_38 0 = .inr (13, Rob ad x) := (fr_39 0 (by omega)).trans ((fr_35 0 (by omega)).trans r_3)
                refine m_get (D := (dC, dI)) (v := .ref (ad 5)) (C := RX10) (T := TX10) (N := 29) hx hb hts bk0 hown hK hP 0 (by decide) f_43 rfl 7 (by decide) (hts (.fieldLink RX10 29 "GradientDeskModel" "sort" "[I") (List.mem_of_getElem? (i := 3) rfl)) (fun _ h9 => h9) rfl dX10_reckonPart_160 ?_
                refine lv_iload_n hx hb dX10_reckonPart_163 rfl (lv_at hl 4 rfl) ?_
                have f_44 : g_38 5 = .inl (cA 5, 201, .inl (fun j => iI ((pt 0) j))) := (fr_39 5 (by omega)).trans ((fr_35 5 (by omega)).trans p_10)
                refine m_iald hx hb hK hP 5 (by decide) rfl f_44 (i := k1) (by omega) (by decide) dX10_reckonPart_164 ?_
                have b_45 := (hpt_16 0) k1
                refine lv_iconst (v := nI 2) hx hb dX10_reckonPart_165 (by decide +kernel) ?_
                refine lv_icmp_ge (tgt := 200) hx hb dX10_reckonPart_166 (by decide) (fun c_46 => ?_) (fun c_46 => absurd (mt (k_iLE (a := 2) (b := (pt 0) k1) (show nI 2 = iI 2 from by decide) rfl (by omega) (by omega)).mpr c_46) (by omega))
                refine lv_aload_n hx hb dX10_reckonPart_200 rfl (lv_at hl 3 rfl) ?_
                refine m_get (D := (dC, dI)) (v := .ref (ad 5)) (C := RX10) (T := TX10) (N := 29) hx hb hts bk0 hown hK hP 0 (by decide) f_43 rfl 7 (by decide) (hts (.fieldLink RX10 29 "GradientDeskModel" "sort" "[I") (List.mem_of_getElem? (i := 3) rfl)) (fun _ h9 => h9) rfl dX10_reckonPart_201 ?_
                refine lv_iload_n hx hb dX10_reckonPart_204 rfl (lv_at hl 4 rfl) ?_
                refine m_iald hx hb hK hP 5 (by decide) rfl f_44 (i := k1) (by omega) (by decide) dX10_reckonPart_205 ?_
                have b_47 := (hpt_16 0) k1
                refine lv_iconst (v := nI 2) hx hb dX10_reckonPart_206 (by decide +kernel) ?_
                refine lv_icmp_ne (tgt := 231) hx hb dX10_reckonPart_207 (by decide) (fun c_48 => ?_) (fun c_48 => absurd ((k_iEQ (a := (pt 0) k1) (b := 2) rfl (show nI 2 = iI 2 from by decide) (by omega) (by omega)).mp c_48) (by omega))
                refine lv_aload_n hx hb dX10_reckonPart_231 rfl (lv_at hl 3 rfl) ?_
                refine m_get (D := (dC, dI)) (v := .ref (ad 5)) (C := RX10) (T := TX10) (N := 29) hx hb hts bk0 hown hK hP 0 (by decide) f_43 rfl 7 (by decide) (hts (.fieldLink RX10 29 "GradientDeskModel" "sort" "[I") (List.mem_of_getElem? (i := 3) rfl)) (fun _ h9 => h9) rfl dX10_reckonPart_232 ?_
                refine lv_iload_n hx hb dX10_reckonPart_235 rfl (lv_at hl 4 rfl) ?_
                refine m_iald hx hb hK hP 5 (by decide) rfl f_44 (i := k1) (by omega) (by decide) dX10_reckonPart_236 ?_
                have b_49 := (hpt_16 0) k1
                refine lv_iconst (v := nI 3) hx hb dX10_reckonPart_237 (by decide +kernel) ?_
                refine lv_icmp_ne (tgt := 292) hx hb dX10_reckonPart_238 (by decide) (fun c_50 => ?_) (fun c_50 => absurd ((k_iEQ (a := (pt 0) k1) (b := 3) rfl (show nI 3 = iI 3 from by decide) (by omega) (by omega)).mp c_50) (by omega))
                refine lv_aload_n hx hb dX10_reckonPart_292 rfl (lv_at hl 3 rfl) ?_
                refine lv_sipush (v := nI 1012) hx hb dX10_reckonPart_293 (by decide +kernel) ?_
                refine lv_sipush (v := nI 200) hx hb dX10_reckonPart_296 (by decide +kernel) ?_
                refine lv_iload_n hx hb dX10_reckonPart_299 rfl (lv_at hl 2 rfl) ?_
                refine lv_iadd hx hb dX10_reckonPart_300 ?_
                refine lv_topi (fun x_51 e_52 => ?_)
                obtain rfl : x_51 = nI (200 + oa) := e_52.trans (nI_add 200 oa)
                refine lv_iload_n hx hb dX10_reckonPart_301 rfl (lv_at hl 1 rfl) ?_
                refine lv_iconst (v := nI 1) hx hb dX10_reckonPart_302 (by decide +kernel) ?_
                refine lv_isub hx hb dX10_reckonPart_303 ?_
                refine lv_topi (fun x_53 e_54 => ?_)
                obtain rfl : x_53 = nI (en - 1) := e_54.trans (pk_sub (show 1 ≤ en by omega))
                have tpw := TVd.pow (Q := Q) he2 ta1 (ta3 vv (by omega)).1 e1 e2
                have s1 := (hO (200 + oa) (by omega) (by omega) (by omega) (by omega) (by omega) (by omega) (by omega) (by omega))
                refine va_callv (va_runV (As := [.int (nI 1012), .int (nI (200 + oa)), .int (nI (en - 1))]) (rest := []) ⟨hx, hb, hml, hown, hts⟩ (c_X10_power l dC dI A ad cA g_38 x p1 q1 1012 (200 + oa) (en - 1) hFL (by decide) (by omega) (by omega) (by rw [s1.1]; exact k_pwle (by omega) pb.1) (by rw [s1.2]; exact k_pwle (by omega) pb.2)) (cwV 3 hts (goodIn_app (goodIn_r [Cond.methodLink RX10 181 yX10_power, Cond.instanceMethod yX10_power, Cond.selects RX10 yX10_power yX10_power, Cond.initialized RX10] [4, 5, 6, 7] rfl rfl) (goodIn_sub (fun w9 h9 => bk1 w9 h9) gw_X10_power)) rfl rfl rfl (by decide +kernel) ⟨Nat.le_of_ble_eq_true rfl, Nat.le_of_ble_eq_true rfl⟩) ⟨fun a U g mk q => ⟨q.1, q.2.1, q.2.2.1, LY.moved (u := U) (U := U.calling g mk a) (Vm.Alike.refl U.vm) q.2.2.2⟩, va_recv hK hP (ci := 13) (q0 := 0) rfl (wo_at (by decide) f_43), fun U hU hW => ⟨rfl, by rw [hU]; exact fun q h => hA q (Nat.le_trans hS.1 h), by rw [hU]; exact hP, LY.moved hW.alike hL⟩⟩ rfl rfl hl.1 rfl (lv_room (Nat.le_of_ble_eq_true rfl)) dX10_reckonPart_304 ⟨(Nat.le_of_ble_eq_true rfl), (Nat.le_of_ble_eq_true rfl)⟩) hS (fun q _ h => h) (fun q h => h) (fun u8 t8 H1 locs ht8 hvm8 hw_56 hB hz1 hk1 hS => ?_)
                obtain ⟨g_57, pf2_58, qf2_59⟩ := u8
                try dsimp only at hw_56 hB
                rw [ht8] at hB
                have hP := hB
                generalize H1 = H at hP hS ⊢
                obtain ⟨fr_60, hFn_55, hpn_55, hqn_55, hon_55⟩ := hw_56
                have q1e : Eqv (pf2_58 1012) (qf2_59 1012) (Na ^ (en - 1)) ((ba * Q ^ (gd L oa).2.2.2.1) ^ (en - 1)) := by rw [hpn_55, hqn_55, s1.1, s1.2]; exact ta2.pow _
                have mle : (ba * Q ^ (gd L oa).2.2.2.1) ^ (en - 1) ≤ 2 ^ 724 := Nat.le_trans (Nat.pow_le_pow_right Ma.1 (by omega)) Mp.2
                have nle : (Na ^ (en - 1)).natAbs ≤ 2 ^ 724 := by have h9 := tpw.2; rw [Int.natAbs_mul, Int.natAbs_natCast] at h9; exact Nat.le_trans (Nat.le_mul_of_pos_right _ (by omega)) (Nat.le_trans h9 (k_8 (k_2R w4 w2) he9))
                have q1b := k_fbN q1e (hFn_55.red (by decide)) (Nat.pow_pos Ma.1) nle mle
                refine lv_aload_n hx hb dX10_reckonPart_307 rfl (lv_at hl 3 rfl) ?_
                refine lv_sipush (v := nI 1013) hx hb dX10_reckonPart_308 (by decide +kernel) ?_
                refine lv_iload_n hx hb dX10_reckonPart_311 rfl (lv_at hl 1 rfl) ?_
                refine lv_i2l hx hb dX10_reckonPart_312 rfl ?_
                refine lv_topl (fun y_61 e_62 => ?_)
                obtain rfl : y_61 = lN en := e_62.trans (nI_l (by omega))
                refine lv_lconst (v := lN 1) hx hb dX10_reckonPart_313 (by decide +kernel) ?_
                have f_63 : g_57 0 = .inr (13, Rob ad x) := (fr_60 0 (by omega)).trans f_43
                refine va_callv (va_runV (As := [.int (nI 1013), .long (lN en), .long (lN 1)]) (rest := []) ⟨hx, hb, hml, hown, hts⟩ (c_X10_setFraction l dC dI A ad cA g_57 x pf2_58 qf2_59 1013 (lN en) (lN 1) ((en : Nat) : Int) 1 hFn_55 (by decide) (lN_toInt (by omega)) (by omega) (by decide) (by decide) (by decide)) (cwV 3 hts (goodIn_app (goodIn_r [Cond.methodLink RX10 139 yX10_setFraction, Cond.instanceMethod yX10_setFraction, Cond.selects RX10 yX10_setFraction yX10_setFraction, Cond.initialized RX10] [10, 11, 12, 7] rfl rfl) (goodIn_sub (fun w9 h9 => bk3 w9 h9) gw_X10_setFraction)) rfl rfl rfl (by decide +kernel) ⟨Nat.le_of_ble_eq_true rfl, Nat.le_of_ble_eq_true rfl⟩) ⟨fun a U g mk q => ⟨q.1, q.2.1, q.2.2.1, LY.moved (u := U) (U := U.calling g mk a) (Vm.Alike.refl U.vm) q.2.2.2⟩, va_recv hK hP (ci := 13) (q0 := 0) rfl (wo_at (by decide) f_63), fun U hU hW => ⟨rfl, by rw [hU]; exact fun q h => hA q (Nat.le_trans hS.1 h), by rw [hU]; exact hP, LY.moved hW.alike hL⟩⟩ rfl rfl hl.1 rfl (lv_room (Nat.le_of_ble_eq_true rfl)) dX10_reckonPart_314 ⟨(Nat.le_of_ble_eq_true rfl), (Nat.le_of_ble_eq_true rfl)⟩) hS (fun q _ h => h) (fun q h => h) (fun u8 t8 H1 locs ht8 hvm8 hw_64 hB hz1 hk1 hS => ?_)
                obtain ⟨g_65, rfl⟩ : ∃ z, z = u8 := ⟨_, rfl⟩
                try dsimp only at hw_64 hB
                rw [ht8] at hB
                have hP := hB
                generalize H1 = H at hP hS ⊢
                obtain ⟨fr_66, hFs⟩ := hw_64
                rw [(rdp_1 _).1, (rdp_1 _).2] at hFs
                refine lv_aload_n hx hb dX10_reckonPart_317 rfl (lv_at hl 3 rfl) ?_
                refine lv_sipush (v := nI 1012) hx hb dX10_reckonPart_318 (by decide +kernel) ?_
                refine lv_sipush (v := nI 1012) hx hb dX10_reckonPart_321 (by decide +kernel) ?_
                refine lv_sipush (v := nI 1013) hx hb dX10_reckonPart_324 (by decide +kernel) ?_
                have s2 : (va_up pf2_58 1013 ((en : Nat) : Int)) 1012 = pf2_58 1012 ∧ (va_up qf2_59 1013 1) 1012 = qf2_59 1012 := ⟨va_up_ne _ _ (by decide), va_up_ne _ _ (by decide)⟩
                have s3 : (va_up pf2_58 1013 ((en : Nat) : Int)) 1013 = ((en : Nat) : Int) ∧ (va_up qf2_59 1013 1) 1013 = 1 := ⟨va_up_self _ _ _, va_up_self _ _ _⟩
                have f_68 : g_65 0 = .inr (13, Rob ad x) := (fr_66 0 (by omega)).trans f_63
                refine va_callv (va_runV (As := [.int (nI 1012), .int (nI 1012), .int (nI 1013)]) (rest := []) ⟨hx, hb, hml, hown, hts⟩ (c_X10_timesFractions l dC dI A ad cA g_65 x (va_up pf2_58 1013 ((en : Nat) : Int)) (va_up qf2_59 1013 1) 1012 1012 1013 hFs (by omega) (by omega) (by omega) (⟨by rw [s2.1]; exact (k_1012 q1b).1, by rw [s2.2]; exact (k_1012 q1b).2⟩) (⟨by rw [s3.1, Int.natAbs_natCast]; exact Nat.lt_of_le_of_lt he9 (Nat.lt_of_lt_of_le (show 9 < 2 ^ 4 by decide) (Nat.pow_le_pow_right (by decide) (by decide))), by rw [s3.2]; exact Nat.one_lt_two_pow (by decide)⟩)) (cwV 3 hts (goodIn_app (goodIn_r [Cond.methodLink RX10 143 yX10_timesFractions, Cond.instanceMethod yX10_timesFractions, Cond.selects RX10 yX10_timesFractions yX10_timesFractions, Cond.initialized RX10] [13, 14, 15, 7] rfl rfl) (goodIn_sub (fun w9 h9 => bk4 w9 h9) gw_X10_timesFractions)) rfl rfl rfl (by decide +kernel) ⟨Nat.le_of_ble_eq_true rfl, Nat.le_of_ble_eq_true rfl⟩) ⟨fun a U g mk q => ⟨q.1, q.2.1, q.2.2.1, LY.moved (u := U) (U := U.calling g mk a) (Vm.Alike.refl U.vm) q.2.2.2⟩, va_recv hK hP (ci := 13) (q0 := 0) rfl (wo_at (by decide) f_68), fun U hU hW => ⟨rfl, by rw [hU]; exact fun q h => hA q (Nat.le_trans hS.1 h), by rw [hU]; exact hP, LY.moved hW.alike hL⟩⟩ rfl rfl hl.1 rfl (lv_room (Nat.le_of_ble_eq_true rfl)) dX10_reckonPart_327 ⟨(Nat.le_of_ble_eq_true rfl), (Nat.le_of_ble_eq_true rfl)⟩) hS (fun q _ h => h) (fun q h => h) (fun u8 t8 H1 locs ht8 hvm8 hw_69 hB hz1 hk1 hS => ?_)
                obtain ⟨g_70, pf2_71, qf2_72⟩ := u8
                try dsimp only at hw_69 hB
                rw [ht8] at hB
                have hP := hB
                generalize H1 = H at hP hS ⊢
                obtain ⟨fr_73, hFn_67, hpn_67, hqn_67, hon_67⟩ := hw_69
                have q2e : Eqv (pf2_71 1012) (qf2_72 1012) (Na ^ (en - 1) * ((en : Nat) : Int)) ((ba * Q ^ (gd L oa).2.2.2.1) ^ (en - 1) * 1) := Eqv.times hpn_67 hqn_67 (by rw [s2.1, s2.2]; exact q1e) (by rw [s3.1, s3.2]; rfl) (hFs.red (by decide)).1 (hFs.red (by decide)).1
                have q2b := k_fbN q2e (hFn_67.red (by decide)) (Nat.mul_pos (Nat.pow_pos Ma.1) (by decide)) (Nat.le_trans tpw.2 (k_8 (k_2R w4 w2) he9)) (by rw [Nat.mul_one]; exact mle)
                have fY : ∀ f, f ≠ 1012 → f ≠ 1013 → f ≠ 1014 → f ≠ 1016 → pf2_71 f = p1 f ∧ qf2_72 f = q1 f := fun f h1 h2 h3 h4 => ⟨(hon_67 f h1 h4).1.trans ((va_up_ne _ _ h2).trans (hon_55 f h1 h3 h4).1), (hon_67 f h1 h4).2.trans ((va_up_ne _ _ h2).trans (hon_55 f h1 h3 h4).2)⟩
                have s4 : pf2_71 (400 + 200 * vv + oa) = pf (400 + 200 * vv + oa) ∧ qf2_72 (400 + 200 * vv + oa) = qf (400 + 200 * vv + oa) := ⟨(fY _ (by omega) (by omega) (by omega) (by omega)).1.trans (hO (400 + 200 * vv + oa) (by omega) (by omega) (by omega) (by omega) (by omega) (by omega) (by omega) (by omega)).1, (fY _ (by omega) (by omega) (by omega) (by omega)).2.trans (hO (400 + 200 * vv + oa) (by omega) (by omega) (by omega) (by omega) (by omega) (by omega) (by omega) (by omega)).2⟩
                refine lv_aload_n hx hb dX10_reckonPart_330 rfl (lv_at hl 3 rfl) ?_
                refine lv_iload hx hb dX10_reckonPart_331 (lv_at hl 0 rfl) ?_
                refine lv_sipush (v := nI 1012) hx hb dX10_reckonPart_333 (by decide +kernel) ?_
                refine lv_iload_n hx hb dX10_reckonPart_336 rfl (lv_at hl 2 rfl) ?_
                refine lv_iload hx hb dX10_reckonPart_337 (lv_at hl 5 rfl) ?_
                refine va_calli (va_runS (As := [.int (nI oa), .int (nI vv)]) (rest := [.int (nI 1012), .int (nI (400 + 200 * vv + k1)), .ref (ad 0)]) ⟨hx, hb, hml, hown, hts⟩ (c_X10_derivativeCell l dC dI A ad cA g_70 oa vv ) (va_cwS 2 hts (goodIn_app (goodIn_r [Cond.methodLink RX10 269 yX10_derivativeCell, Cond.static yX10_derivativeCell, Cond.initialized RX10] [8, 9, 7] rfl rfl) (goodIn_sub (fun w9 h9 => bk2 w9 h9) gw_X10_derivativeCell)) rfl rfl rfl (by decide +kernel) ⟨Nat.le_of_ble_eq_true rfl, Nat.le_of_ble_eq_true rfl⟩) ⟨fun a U g mk q => ⟨q.1, q.2.1, q.2.2.1, LY.moved (u := U) (U := U.calling g mk a) (Vm.Alike.refl U.vm) q.2.2.2⟩, fun U hU hW => ⟨rfl, by rw [hU]; exact fun q h => hA q (Nat.le_trans hS.1 h), by rw [hU]; exact hP, LY.moved hW.alike hL⟩⟩ rfl rfl hl.1 rfl (lv_room (Nat.le_of_ble_eq_true rfl)) dX10_reckonPart_339 ⟨(Nat.le_of_ble_eq_true rfl), (Nat.le_of_ble_eq_true rfl)⟩) hS (fun q _ h => h) (fun q h => h) (fun r_74 u8 t8 H1 locs ht8 hvm8 hw_75 hB hz1 hk1 hS => ?_)
                obtain ⟨⟩ := u8
                try dsimp only at hw_75 hB
                rw [ht8] at hB
                have hP := hB
                generalize H1 = H at hP hS ⊢
                obtain rfl := hw_75
                have f_77 : g_70 0 = .inr (13, Rob ad x) := (fr_73 0 (by omega)).trans f_68
                refine va_callv (va_runV (As := [.int (nI (400 + 200 * vv + k1)), .int (nI 1012), .int (nI (400 + 200 * vv + oa))]) (rest := []) ⟨hx, hb, hml, hown, hts⟩ (c_X10_timesFractions l dC dI A ad cA g_70 x pf2_71 qf2_72 (400 + 200 * vv + k1) 1012 (400 + 200 * vv + oa) hFn_67 (by omega) (by omega) (by omega) (k_1012 q2b) (⟨by rw [s4.1]; exact (k_1012 (fa.2 vv (by omega))).1, by rw [s4.2]; exact (k_1012 (fa.2 vv (by omega))).2⟩)) (cwV 3 hts (goodIn_app (goodIn_r [Cond.methodLink RX10 143 yX10_timesFractions, Cond.instanceMethod yX10_timesFractions, Cond.selects RX10 yX10_timesFractions yX10_timesFractions, Cond.initialized RX10] [13, 14, 15, 7] rfl rfl) (goodIn_sub (fun w9 h9 => bk4 w9 h9) gw_X10_timesFractions)) rfl rfl rfl (by decide +kernel) ⟨Nat.le_of_ble_eq_true rfl, Nat.le_of_ble_eq_true rfl⟩) ⟨fun a U g mk q => ⟨q.1, q.2.1, q.2.2.1, LY.moved (u := U) (U := U.calling g mk a) (Vm.Alike.refl U.vm) q.2.2.2⟩, va_recv hK hP (ci := 13) (q0 := 0) rfl (wo_at (by decide) f_77), fun U hU hW => ⟨rfl, by rw [hU]; exact fun q h => hA q (Nat.le_trans hS.1 h), by rw [hU]; exact hP, LY.moved hW.alike hL⟩⟩ rfl rfl hl.1 rfl (lv_room (Nat.le_of_ble_eq_true rfl)) dX10_reckonPart_342 ⟨(Nat.le_of_ble_eq_true rfl), (Nat.le_of_ble_eq_true rfl)⟩) hS (fun q _ h => h) (fun q h => h) (fun u8 t8 H1 locs ht8 hvm8 hw_78 hB hz1 hk1 hS => ?_)
                obtain ⟨g_79, pf2_80, qf2_81⟩ := u8
                try dsimp only at hw_78 hB
                rw [ht8] at hB
                have hP := hB
                generalize H1 = H at hP hS ⊢
                obtain ⟨fr_82, hFn_76, hpn_76, hqn_76, hon_76⟩ := hw_78
                have fX : ∀ f, f ≠ 400 + 200 * vv + k1 → f ≠ 1012 → f ≠ 1013 → f ≠ 1014 → f ≠ 1016 → pf2_80 f = p1 f ∧ qf2_81 f = q1 f := fun f h1 h2 h3 h4 h5 => ⟨(hon_76 f h1 h5).1.trans (fY f h2 h3 h4 h5).1, (hon_76 f h1 h5).2.trans (fY f h2 h3 h4 h5).2⟩
                have q3e : Eqv (pf2_80 (400 + 200 * vv + k1)) (qf2_81 (400 + 200 * vv + k1)) (Na ^ (en - 1) * ((en : Nat) : Int) * Da vv) (b9 * Q ^ (gd L k1).2.2.2.1) := by have h9 := Eqv.times hpn_76 hqn_76 q2e (by rw [s4.1, s4.2]; exact (ta3 vv (by omega)).2) (hFn_67.red (by decide)).1 (hFn_67.red (by omega)).1; rw [Nat.mul_one, ← Nat.pow_succ, show (en - 1).succ = en by omega, pow_M, ← hb9, ← e1] at h9; exact h9
                have fD : ∀ u, u < vv + 1 → ∃ D : Int, TVd L k1 D ∧ Eqv (pf2_80 (400 + 200 * u + k1)) (qf2_81 (400 + 200 * u + k1)) D (b9 * Q ^ (gd L k1).2.2.2.1) := fun u hu => by by_cases h9 : u = vv; subst h9; exact ⟨(Na ^ (en - 1) * ((en : Nat) : Int) * Da u), tpw.1, q3e⟩; obtain ⟨D8, d81, d82⟩ := hDe u (by omega); exact ⟨D8, d81, by rw [(fX _ (by omega) (by omega) (by omega) (by omega) (by omega)).1, (fX _ (by omega) (by omega) (by omega) (by omega) (by omega)).2]; exact d82⟩
                have fV : Eqv (pf2_80 (200 + k1)) (qf2_81 (200 + k1)) N9 (b9 * Q ^ (gd L k1).2.2.2.1) := by rw [(fX _ (by omega) (by omega) (by omega) (by omega) (by omega)).1, (fX _ (by omega) (by omega) (by omega) (by omega) (by omega)).2]; exact hVe
                have fO : ∀ f, f ≠ 200 + k1 → f ≠ 400 + k1 → f ≠ 600 + k1 → f ≠ 800 + k1 → f ≠ 1012 → f ≠ 1013 → f ≠ 1014 → f ≠ 1016 → pf2_80 f = pf f ∧ qf2_81 f = qf f := fun f h1 h2 h3 h4 h5 h6 h7 h8 => ⟨(fX f (by omega) h5 h6 h7 h8).1.trans (hO f h1 h2 h3 h4 h5 h6 h7 h8).1, (fX f (by omega) h5 h6 h7 h8).2.trans (hO f h1 h2 h3 h4 h5 h6 h7 h8).2⟩
                refine lv_iinc (v := nI (vv + 1)) (lv' := [(4, .int (nI (vv + 1))), (5, .int (nI (400 + 200 * vv + k1))), (3, .int (nI en)), (2, .int (nI oa)), (0, .ref (ad 0)), (1, .int (nI k1))]) hx hb dX10_reckonPart_345 hl (k := 5) rfl (nI_add vv 1) (by decide) rfl (fun ls hl => ?_)
                refine lv_goto (tgt := 145) hx hb dX10_reckonPart_348 (by decide) ?_
                exact ih_37 (vv + 1) pf2_80 qf2_81 g_79 (fun (k : Nat) (hk : k ≠ 1 ∧ k ≠ 2 ∧ k ≠ 3) => (fr_82 k (by omega)).trans ((fr_73 k (by omega)).trans ((fr_66 k (by omega)).trans ((fr_60 k (by omega)).trans ((fr_39 k (by omega)).trans (rfl)))))) (by omega) (by omega) fO fV fD hFn_76 _ _ _ hP hS (lv_sub (l' := [(3, .int (nI en)), (2, .int (nI oa)), (0, .ref (ad 0)), (1, .int (nI k1)), (4, .int (nI (vv + 1)))]) hl [2, 3, 4, 5, 0] rfl)
          exact loop_36 _ 0 pf2_33 qf2_34 g_32 (fun (k : Nat) (hk : k ≠ 1 ∧ k ≠ 2 ∧ k ≠ 3) => rfl) (Nat.lt_succ_self _) (by decide) hfr hTe (fun u hu => absurd hu (by omega)) hF1 _ _ _ hP hS (lv_sub (l' := [(3, .int (nI en)), (2, .int (nI oa)), (0, .ref (ad 0)), (1, .int (nI k1)), (4, .int (nI 0))]) hl [1, 2, 3, 4, 0] rfl)
        · have c_26 := (k_iEQ (a := (pt 0) k1) (b := 3) rfl (show nI 3 = iI 3 from by decide) (by omega) (by omega)).mp c_26
          obtain ⟨oa, ob, hoa, hob, eoa, eob, e1, e2, e3⟩ := w10 (by omega)
          have eb : pt 2 k1 = ((ob : Nat) : Int) := m2.trans eob
          have ea : pt 1 k1 = ((oa : Nat) : Int) := m1.trans eoa
          have hTa := hT1 (by omega)
          rw [eoa, Int.toNat_natCast] at hTa
          have fa := hTa.fb hQb hW (by omega) hL2 (fun f hf => hF0.red hf)
          obtain ⟨Na, ba, Da, ta1, ta2, ta3⟩ := hTa
          obtain ⟨-, wa2, -, wa4, wa5, -⟩ := hW oa (by omega)
          have Ma := k_M hQb ⟨ta1.1, ta1.2.1⟩ wa5 wa2
          have hTb := hT2 (by omega)
          rw [eob, Int.toNat_natCast] at hTb
          have fb := hTb.fb hQb hW (by omega) hL2 (fun f hf => hF0.red hf)
          obtain ⟨Nb, bb, Db, tb1, tb2, tb3⟩ := hTb
          obtain ⟨-, wb2, -, wb4, wb5, -⟩ := hW ob (by omega)
          have Mb := k_M hQb ⟨tb1.1, tb1.2.1⟩ wb5 wb2
          rw [ea, eb, ← nI_iI, ← nI_iI] at hl
          refine lv_aload_n hx hb dX10_reckonPart_105 rfl (lv_at hl 2 rfl) ?_
          refine lv_sipush (v := nI 200) hx hb dX10_reckonPart_106 (by decide +kernel) ?_
          refine lv_iload_n hx hb dX10_reckonPart_109 rfl (lv_at hl 3 rfl) ?_
          refine lv_iadd hx hb dX10_reckonPart_110 ?_
          refine lv_topi (fun x_85 e_86 => ?_)
          obtain rfl : x_85 = nI (200 + k1) := e_86.trans (nI_add 200 k1)
          refine lv_sipush (v := nI 200) hx hb dX10_reckonPart_111 (by decide +kernel) ?_
          refine lv_iload_n hx hb dX10_reckonPart_114 rfl (lv_at hl 1 rfl) ?_
          refine lv_iadd hx hb dX10_reckonPart_115 ?_
          refine lv_topi (fun x_87 e_88 => ?_)
          obtain rfl : x_87 = nI (200 + oa) := e_88.trans (nI_add 200 oa)
          refine lv_sipush (v := nI 200) hx hb dX10_reckonPart_116 (by decide +kernel) ?_
          refine lv_iload_n hx hb dX10_reckonPart_119 rfl (lv_at hl 0 rfl) ?_
          refine lv_iadd hx hb dX10_reckonPart_120 ?_
          refine lv_topi (fun x_89 e_90 => ?_)
          obtain rfl : x_89 = nI (200 + ob) := e_90.trans (nI_add 200 ob)
          refine va_callv (va_runV (As := [.int (nI (200 + k1)), .int (nI (200 + oa)), .int (nI (200 + ob))]) (rest := []) ⟨hx, hb, hml, hown, hts⟩ (c_X10_timesFractions l dC dI A ad cA g x pf qf (200 + k1) (200 + oa) (200 + ob) hF0 (by omega) (by omega) (by omega) (k_1012 fa.1) (k_1012 fb.1)) (cwV 3 hts (goodIn_app (goodIn_r [Cond.methodLink RX10 143 yX10_timesFractions, Cond.instanceMethod yX10_timesFractions, Cond.selects RX10 yX10_timesFractions yX10_timesFractions, Cond.initialized RX10] [13, 14, 15, 7] rfl rfl) (goodIn_sub (fun w9 h9 => bk4 w9 h9) gw_X10_timesFractions)) rfl rfl rfl (by decide +kernel) ⟨Nat.le_of_ble_eq_true rfl, Nat.le_of_ble_eq_true rfl⟩) ⟨fun a U g mk q => ⟨q.1, q.2.1, q.2.2.1, LY.moved (u := U) (U := U.calling g mk a) (Vm.Alike.refl U.vm) q.2.2.2⟩, va_recv hK hP (ci := 13) (q0 := 0) rfl (wo_at (by decide) r_3), fun U hU hW => ⟨rfl, by rw [hU]; exact fun q h => hA q (Nat.le_trans hS.1 h), by rw [hU]; exact hP, LY.moved hW.alike hL⟩⟩ rfl rfl hl.1 rfl (lv_room (Nat.le_of_ble_eq_true rfl)) dX10_reckonPart_121 ⟨(Nat.le_of_ble_eq_true rfl), (Nat.le_of_ble_eq_true rfl)⟩) hS (fun q _ h => h) (fun q h => h) (fun u8 t8 H1 locs ht8 hvm8 hw_92 hB hz1 hk1 hS => ?_)
          obtain ⟨g_93, pf2_94, qf2_95⟩ := u8
          try dsimp only at hw_92 hB
          rw [ht8] at hB
          have hP := hB
          generalize H1 = H at hP hS ⊢
          obtain ⟨fr_96, hFn_91, hpn_91, hqn_91, hon_91⟩ := hw_92
          obtain ⟨N9, hN9⟩ : ∃ z9, z9 = Na * Nb := ⟨_, rfl⟩
          obtain ⟨b9, hb9⟩ : ∃ z9, z9 = ba * bb := ⟨_, rfl⟩
          have hTn : TVn L Q k1 N9 b9 := by rw [hN9, hb9]; exact TVn.prd ta1 tb1 e1 e2 e3
          have hTe : Eqv (pf2_94 (200 + k1)) (qf2_95 (200 + k1)) N9 (b9 * Q ^ (gd L k1).2.2.2.1) := by rw [hN9, hb9]; rw [e1, Nat.pow_add, ← Nat.mul_mul_mul_comm]; exact Eqv.times hpn_91 hqn_91 ta2 tb2 (hF0.red (by omega)).1 (hF0.red (by omega)).1
          have M9 := k_M hQb ⟨hTn.1, hTn.2.1⟩ w5 w2
          have hfr : ∀ f, f ≠ 200 + k1 → f ≠ 400 + k1 → f ≠ 600 + k1 → f ≠ 800 + k1 → f ≠ 1012 → f ≠ 1013 → f ≠ 1014 → f ≠ 1016 → pf2_94 f = pf f ∧ qf2_95 f = qf f := fun f h1 h2 h3 h4 h5 h6 h7 h8 => hon_91 f h1 h8
          refine lv_goto (tgt := 142) hx hb dX10_reckonPart_124 (by decide) ?_
          refine lv_iconst (v := nI 0) hx hb dX10_reckonPart_142 (by decide +kernel) ?_
          refine lv_istore (lv' := [(4, .int (nI 0)), (3, .int (nI ob)), (2, .int (nI oa)), (0, .ref (ad 0)), (1, .int (nI k1))]) hx hb dX10_reckonPart_143 hl (by decide) rfl (fun ls hl => ?_)
          have loop_97 : ∀ (k9 : Nat) (vv : Nat) (p1 : Nat → Int) (q1 : Nat → Nat) (g_99 : Nat → va_E) (fr_100 : ∀ k, (k ≠ 1 ∧ k ≠ 2 ∧ k ≠ 3) → g_99 k = g_93 k), 3 - vv < k9 → (vv ≤ 3) → (∀ f, f ≠ 200 + k1 → f ≠ 400 + k1 → f ≠ 600 + k1 → f ≠ 800 + k1 → f ≠ 1012 → f ≠ 1013 → f ≠ 1014 → f ≠ 1016 → p1 f = pf f ∧ q1 f = qf f) → (Eqv (p1 (200 + k1)) (q1 (200 + k1)) N9 (b9 * Q ^ (gd L k1).2.2.2.1)) → (∀ u, u < vv → ∃ D : Int, TVd L k1 D ∧ Eqv (p1 (400 + 200 * u + k1)) (q1 (400 + 200 * u + k1)) D (b9 * Q ^ (gd L k1).2.2.2.1)) → (RF ad cA g_99 x p1 q1) → ∀ (H : Heap) (locs : List Loc) (ls : Array Slot), va_P (dC, dI) vwCl (wo ad NSr g_99) H → va_S A s.heap H locs → lv_has ls 6 [(3, .int (nI ob)), (2, .int (nI oa)), (0, .ref (ad 0)), (1, .int (nI k1)), (4, .int (nI vv))] → W p l e (headSpec wd_X10_reckonPart ({ frames := 90, cells := 0, slots := 0, locals := 1800 })).room s m ([.ref (ad 0), .int (nI k1)] : List Value).toArray below meth c H locs (0) (0) (MQ below (va_Qv (fun (u : (Nat → va_E) × (Nat → Int) × (Nat → Nat)) => match u with | (g2, pf2, qf2) => (∀ k, k ≠ 1 ∧ k ≠ 2 ∧ k ≠ 3 → g2 k = g k) ∧ RF ad cA g2 x pf2 qf2 ∧ TV L Q k1 pf2 qf2 ∧ (∀ f, f ≠ 200 + k1 → f ≠ 400 + k1 → f ≠ 600 + k1 → f ≠ 800 + k1 → f ≠ 1012 → f ≠ 1013 → f ≠ 1014 → f ≠ 1016 → pf2 f = pf f ∧ qf2 f = qf f)) (fun (u : (Nat → va_E) × (Nat → Int) × (Nat → Nat)) (t : State) => va_P (dC, dI) vwCl (wo ad NSr u.1) t.heap) A) ([.ref (ad 0), .int (nI k1)] : List Value).toArray s (0) (0) A) (F0 m 145 ls []) := by
            intro k9
            induction k9 with
            | zero => intro vv p1 q1 g_99 fr_100 h9; exact absurd h9 (Nat.not_lt_zero _)
            | succ k9 ih_98 =>
              intro vv p1 q1 g_99 fr_100 h9 hv3 hO hVe hDe hFL H locs ls hP hS hl
              refine lv_iload hx hb dX10_reckonPart_145 (lv_at hl 4 rfl) ?_
              refine lv_iconst (v := nI 3) hx hb dX10_reckonPart_147 (by decide +kernel) ?_
              refine lv_icmp_ge (tgt := 351) hx hb dX10_reckonPart_148 (by decide) (fun c_101 => ?_) (fun c_101 => ?_)
              · have c_101 := (nI_leI (a := 3) (b := vv) (by decide) (by omega)).mp c_101
                refine W.widen (k := 0) (n := 0) (by omega) (by omega) ?_
                exact W.vret hx hb hr (fun t9 ht9 hW9 => ⟨⟨(g_99, p1, q1), rfl, ⟨(fun (k : Nat) (hk : k ≠ 1 ∧ k ≠ 2 ∧ k ≠ 3) => (fr_100 k (by omega)).trans ((fr_96 k (by omega)).trans (rfl))), hFL, TV.of hTn hVe (fun v9 h9 => hDe v9 (by omega)), hO⟩, by show va_P (dC, dI) vwCl _ t9.heap; rw [ht9]; exact hP⟩, hS.F ht9⟩) hS.2.2 dX10_reckonPart_351
              · have c_101 := mt (nI_leI (a := 3) (b := vv) (by decide) (by omega)).mpr c_101
                refine lv_iload_n hx hb dX10_reckonPart_151 rfl (lv_at hl 3 rfl) ?_
                refine lv_iload hx hb dX10_reckonPart_152 (lv_at hl 4 rfl) ?_
                refine va_calli (va_runS (As := [.int (nI k1), .int (nI vv)]) (rest := []) ⟨hx, hb, hml, hown, hts⟩ (c_X10_derivativeCell l dC dI A ad cA g_99 k1 vv ) (va_cwS 2 hts (goodIn_app (goodIn_r [Cond.methodLink RX10 269 yX10_derivativeCell, Cond.static yX10_derivativeCell, Cond.initialized RX10] [8, 9, 7] rfl rfl) (goodIn_sub (fun w9 h9 => bk2 w9 h9) gw_X10_derivativeCell)) rfl rfl rfl (by decide +kernel) ⟨Nat.le_of_ble_eq_true rfl, Nat.le_of_ble_eq_true rfl⟩) ⟨fun a U g mk q => ⟨q.1, q.2.1, q.2.2.1, LY.moved (u := U) (U := U.calling g mk a) (Vm.Alike.refl U.vm) q.2.2.2⟩, fun U hU hW => ⟨rfl, by rw [hU]; exact fun q h => hA q (Nat.le_trans hS.1 h), by rw [hU]; exact hP, LY.moved hW.alike hL⟩⟩ rfl rfl hl.1 rfl (lv_room (Nat.le_of_ble_eq_true rfl)) dX10_reckonPart_154 ⟨(Nat.le_of_ble_eq_true rfl), (Nat.le_of_ble_eq_true rfl)⟩) hS (fun q _ h => h) (fun q h => h) (fun r_102 u8 t8 H1 locs ht8 hvm8 hw_103 hB hz1 hk1 hS => ?_)
                obtain ⟨⟩ := u8
                try dsimp only at hw_103 hB
                rw [ht8] at hB
                have hP := hB
                generalize H1 = H at hP hS ⊢
                obtain rfl := hw_103
                refine lv_istore (lv' := [(5, .int (nI (400 + 200 * vv + k1))), (3, .int (nI ob)), (2, .int (nI oa)), (0, .ref (ad 0)), (1, .int (nI k1)), (4, .int (nI vv))]) hx hb dX10_reckonPart_157 hl (by decide) rfl (fun ls hl => ?_)
                refine lv_aload_n hx hb dX10_reckonPart_159 rfl (lv_at hl 3 rfl) ?_
                have f_104 : g_99 0 = .inr (13, Rob ad x) := (fr_100 0 (by omega)).trans ((fr_96 0 (by omega)).trans r_3)
                refine m_get (D := (dC, dI)) (v := .ref (ad 5)) (C := RX10) (T := TX10) (N := 29) hx hb hts bk0 hown hK hP 0 (by decide) f_104 rfl 7 (by decide) (hts (.fieldLink RX10 29 "GradientDeskModel" "sort" "[I") (List.mem_of_getElem? (i := 3) rfl)) (fun _ h9 => h9) rfl dX10_reckonPart_160 ?_
                refine lv_iload_n hx hb dX10_reckonPart_163 rfl (lv_at hl 4 rfl) ?_
                have f_105 : g_99 5 = .inl (cA 5, 201, .inl (fun j => iI ((pt 0) j))) := (fr_100 5 (by omega)).trans ((fr_96 5 (by omega)).trans p_10)
                refine m_iald hx hb hK hP 5 (by decide) rfl f_105 (i := k1) (by omega) (by decide) dX10_reckonPart_164 ?_
                have b_106 := (hpt_16 0) k1
                refine lv_iconst (v := nI 2) hx hb dX10_reckonPart_165 (by decide +kernel) ?_
                refine lv_icmp_ge (tgt := 200) hx hb dX10_reckonPart_166 (by decide) (fun c_107 => ?_) (fun c_107 => absurd (mt (k_iLE (a := 2) (b := (pt 0) k1) (show nI 2 = iI 2 from by decide) rfl (by omega) (by omega)).mpr c_107) (by omega))
                refine lv_aload_n hx hb dX10_reckonPart_200 rfl (lv_at hl 3 rfl) ?_
                refine m_get (D := (dC, dI)) (v := .ref (ad 5)) (C := RX10) (T := TX10) (N := 29) hx hb hts bk0 hown hK hP 0 (by decide) f_104 rfl 7 (by decide) (hts (.fieldLink RX10 29 "GradientDeskModel" "sort" "[I") (List.mem_of_getElem? (i := 3) rfl)) (fun _ h9 => h9) rfl dX10_reckonPart_201 ?_
                refine lv_iload_n hx hb dX10_reckonPart_204 rfl (lv_at hl 4 rfl) ?_
                refine m_iald hx hb hK hP 5 (by decide) rfl f_105 (i := k1) (by omega) (by decide) dX10_reckonPart_205 ?_
                have b_108 := (hpt_16 0) k1
                refine lv_iconst (v := nI 2) hx hb dX10_reckonPart_206 (by decide +kernel) ?_
                refine lv_icmp_ne (tgt := 231) hx hb dX10_reckonPart_207 (by decide) (fun c_109 => ?_) (fun c_109 => absurd ((k_iEQ (a := (pt 0) k1) (b := 2) rfl (show nI 2 = iI 2 from by decide) (by omega) (by omega)).mp c_109) (by omega))
                refine lv_aload_n hx hb dX10_reckonPart_231 rfl (lv_at hl 3 rfl) ?_
                refine m_get (D := (dC, dI)) (v := .ref (ad 5)) (C := RX10) (T := TX10) (N := 29) hx hb hts bk0 hown hK hP 0 (by decide) f_104 rfl 7 (by decide) (hts (.fieldLink RX10 29 "GradientDeskModel" "sort" "[I") (List.mem_of_getElem? (i := 3) rfl)) (fun _ h9 => h9) rfl dX10_reckonPart_232 ?_
                refine lv_iload_n hx hb dX10_reckonPart_235 rfl (lv_at hl 4 rfl) ?_
                refine m_iald hx hb hK hP 5 (by decide) rfl f_105 (i := k1) (by omega) (by decide) dX10_reckonPart_236 ?_
                have b_110 := (hpt_16 0) k1
                refine lv_iconst (v := nI 3) hx hb dX10_reckonPart_237 (by decide +kernel) ?_
                refine lv_icmp_ne (tgt := 292) hx hb dX10_reckonPart_238 (by decide) (fun c_111 => absurd (mt (k_iEQ (a := (pt 0) k1) (b := 3) rfl (show nI 3 = iI 3 from by decide) (by omega) (by omega)).mpr c_111) (by omega)) (fun c_111 => ?_)
                refine lv_aload_n hx hb dX10_reckonPart_241 rfl (lv_at hl 3 rfl) ?_
                refine lv_sipush (v := nI 1012) hx hb dX10_reckonPart_242 (by decide +kernel) ?_
                refine lv_iload_n hx hb dX10_reckonPart_245 rfl (lv_at hl 2 rfl) ?_
                refine lv_iload hx hb dX10_reckonPart_246 (lv_at hl 5 rfl) ?_
                refine va_calli (va_runS (As := [.int (nI oa), .int (nI vv)]) (rest := [.int (nI 1012), .ref (ad 0)]) ⟨hx, hb, hml, hown, hts⟩ (c_X10_derivativeCell l dC dI A ad cA g_99 oa vv ) (va_cwS 2 hts (goodIn_app (goodIn_r [Cond.methodLink RX10 269 yX10_derivativeCell, Cond.static yX10_derivativeCell, Cond.initialized RX10] [8, 9, 7] rfl rfl) (goodIn_sub (fun w9 h9 => bk2 w9 h9) gw_X10_derivativeCell)) rfl rfl rfl (by decide +kernel) ⟨Nat.le_of_ble_eq_true rfl, Nat.le_of_ble_eq_true rfl⟩) ⟨fun a U g mk q => ⟨q.1, q.2.1, q.2.2.1, LY.moved (u := U) (U := U.calling g mk a) (Vm.Alike.refl U.vm) q.2.2.2⟩, fun U hU hW => ⟨rfl, by rw [hU]; exact fun q h => hA q (Nat.le_trans hS.1 h), by rw [hU]; exact hP, LY.moved hW.alike hL⟩⟩ rfl rfl hl.1 rfl (lv_room (Nat.le_of_ble_eq_true rfl)) dX10_reckonPart_248 ⟨(Nat.le_of_ble_eq_true rfl), (Nat.le_of_ble_eq_true rfl)⟩) hS (fun q _ h => h) (fun q h => h) (fun r_112 u8 t8 H1 locs ht8 hvm8 hw_113 hB hz1 hk1 hS => ?_)
                obtain ⟨⟩ := u8
                try dsimp only at hw_113 hB
                rw [ht8] at hB
                have hP := hB
                generalize H1 = H at hP hS ⊢
                obtain rfl := hw_113
                refine lv_sipush (v := nI 200) hx hb dX10_reckonPart_251 (by decide +kernel) ?_
                refine lv_iload_n hx hb dX10_reckonPart_254 rfl (lv_at hl 1 rfl) ?_
                refine lv_iadd hx hb dX10_reckonPart_255 ?_
                refine lv_topi (fun x_114 e_115 => ?_)
                obtain rfl : x_114 = nI (200 + ob) := e_115.trans (nI_add 200 ob)
                have tpd := TVd.prd ta1 tb1 (ta3 vv (by omega)).1 (tb3 vv (by omega)).1 e1 e2
                have hMM : ba * Q ^ (gd L oa).2.2.2.1 * (bb * Q ^ (gd L ob).2.2.2.1) = b9 * Q ^ (gd L k1).2.2.2.1 := by rw [hb9, e1, Nat.pow_add, Nat.mul_mul_mul_comm]
                refine va_callv (va_runV (As := [.int (nI 1012), .int (nI (400 + 200 * vv + oa)), .int (nI (200 + ob))]) (rest := []) ⟨hx, hb, hml, hown, hts⟩ (c_X10_timesFractions l dC dI A ad cA g_99 x p1 q1 1012 (400 + 200 * vv + oa) (200 + ob) hFL (by omega) (by omega) (by omega) (⟨by rw [(hO (400 + 200 * vv + oa) (by omega) (by omega) (by omega) (by omega) (by omega) (by omega) (by omega) (by omega)).1]; exact (k_1012 (fa.2 vv (by omega))).1, by rw [(hO (400 + 200 * vv + oa) (by omega) (by omega) (by omega) (by omega) (by omega) (by omega) (by omega) (by omega)).2]; exact (k_1012 (fa.2 vv (by omega))).2⟩) (⟨by rw [(hO (200 + ob) (by omega) (by omega) (by omega) (by omega) (by omega) (by omega) (by omega) (by omega)).1]; exact (k_1012 fb.1).1, by rw [(hO (200 + ob) (by omega) (by omega) (by omega) (by omega) (by omega) (by omega) (by omega) (by omega)).2]; exact (k_1012 fb.1).2⟩)) (cwV 3 hts (goodIn_app (goodIn_r [Cond.methodLink RX10 143 yX10_timesFractions, Cond.instanceMethod yX10_timesFractions, Cond.selects RX10 yX10_timesFractions yX10_timesFractions, Cond.initialized RX10] [13, 14, 15, 7] rfl rfl) (goodIn_sub (fun w9 h9 => bk4 w9 h9) gw_X10_timesFractions)) rfl rfl rfl (by decide +kernel) ⟨Nat.le_of_ble_eq_true rfl, Nat.le_of_ble_eq_true rfl⟩) ⟨fun a U g mk q => ⟨q.1, q.2.1, q.2.2.1, LY.moved (u := U) (U := U.calling g mk a) (Vm.Alike.refl U.vm) q.2.2.2⟩, va_recv hK hP (ci := 13) (q0 := 0) rfl (wo_at (by decide) f_104), fun U hU hW => ⟨rfl, by rw [hU]; exact fun q h => hA q (Nat.le_trans hS.1 h), by rw [hU]; exact hP, LY.moved hW.alike hL⟩⟩ rfl rfl hl.1 rfl (lv_room (Nat.le_of_ble_eq_true rfl)) dX10_reckonPart_256 ⟨(Nat.le_of_ble_eq_true rfl), (Nat.le_of_ble_eq_true rfl)⟩) hS (fun q _ h => h) (fun q h => h) (fun u8 t8 H1 locs ht8 hvm8 hw_117 hB hz1 hk1 hS => ?_)
                obtain ⟨g_118, pf2_119, qf2_120⟩ := u8
                try dsimp only at hw_117 hB
                rw [ht8] at hB
                have hP := hB
                generalize H1 = H at hP hS ⊢
                obtain ⟨fr_121, hFn_116, hpn_116, hqn_116, hon_116⟩ := hw_117
                have q1e : Eqv (pf2_119 1012) (qf2_120 1012) (Da vv * Nb) (b9 * Q ^ (gd L k1).2.2.2.1) := by rw [← hMM]; exact Eqv.times hpn_116 hqn_116 (by rw [(hO (400 + 200 * vv + oa) (by omega) (by omega) (by omega) (by omega) (by omega) (by omega) (by omega) (by omega)).1, (hO (400 + 200 * vv + oa) (by omega) (by omega) (by omega) (by omega) (by omega) (by omega) (by omega) (by omega)).2]; exact (ta3 vv (by omega)).2) (by rw [(hO (200 + ob) (by omega) (by omega) (by omega) (by omega) (by omega) (by omega) (by omega) (by omega)).1, (hO (200 + ob) (by omega) (by omega) (by omega) (by omega) (by omega) (by omega) (by omega) (by omega)).2]; exact tb2) (hFL.red (by omega)).1 (hFL.red (by omega)).1
                have q1b := k_fbN q1e (hFn_116.red (by decide)) M9.1 (Nat.le_trans tpd.1 (Nat.le_trans (k_8 (k_2R w4 w2) (by omega)) (Nat.le_refl _))) M9.2
                refine lv_aload_n hx hb dX10_reckonPart_259 rfl (lv_at hl 3 rfl) ?_
                refine lv_sipush (v := nI 1013) hx hb dX10_reckonPart_260 (by decide +kernel) ?_
                refine lv_sipush (v := nI 200) hx hb dX10_reckonPart_263 (by decide +kernel) ?_
                refine lv_iload_n hx hb dX10_reckonPart_266 rfl (lv_at hl 2 rfl) ?_
                refine lv_iadd hx hb dX10_reckonPart_267 ?_
                refine lv_topi (fun x_122 e_123 => ?_)
                obtain rfl : x_122 = nI (200 + oa) := e_123.trans (nI_add 200 oa)
                refine lv_iload_n hx hb dX10_reckonPart_268 rfl (lv_at hl 1 rfl) ?_
                refine lv_iload hx hb dX10_reckonPart_269 (lv_at hl 5 rfl) ?_
                refine va_calli (va_runS (As := [.int (nI ob), .int (nI vv)]) (rest := [.int (nI (200 + oa)), .int (nI 1013), .ref (ad 0)]) ⟨hx, hb, hml, hown, hts⟩ (c_X10_derivativeCell l dC dI A ad cA g_118 ob vv ) (va_cwS 2 hts (goodIn_app (goodIn_r [Cond.methodLink RX10 269 yX10_derivativeCell, Cond.static yX10_derivativeCell, Cond.initialized RX10] [8, 9, 7] rfl rfl) (goodIn_sub (fun w9 h9 => bk2 w9 h9) gw_X10_derivativeCell)) rfl rfl rfl (by decide +kernel) ⟨Nat.le_of_ble_eq_true rfl, Nat.le_of_ble_eq_true rfl⟩) ⟨fun a U g mk q => ⟨q.1, q.2.1, q.2.2.1, LY.moved (u := U) (U := U.calling g mk a) (Vm.Alike.refl U.vm) q.2.2.2⟩, fun U hU hW => ⟨rfl, by rw [hU]; exact fun q h => hA q (Nat.le_trans hS.1 h), by rw [hU]; exact hP, LY.moved hW.alike hL⟩⟩ rfl rfl hl.1 rfl (lv_room (Nat.le_of_ble_eq_true rfl)) dX10_reckonPart_271 ⟨(Nat.le_of_ble_eq_true rfl), (Nat.le_of_ble_eq_true rfl)⟩) hS (fun q _ h => h) (fun q h => h) (fun r_124 u8 t8 H1 locs ht8 hvm8 hw_125 hB hz1 hk1 hS => ?_)
                obtain ⟨⟩ := u8
                try dsimp only at hw_125 hB
                rw [ht8] at hB
                have hP := hB
                generalize H1 = H at hP hS ⊢
                obtain rfl := hw_125
                have r1 : pf2_119 (200 + oa) = pf (200 + oa) ∧ qf2_120 (200 + oa) = qf (200 + oa) := ⟨(hon_116 _ (by omega) (by omega)).1.trans (hO (200 + oa) (by omega) (by omega) (by omega) (by omega) (by omega) (by omega) (by omega) (by omega)).1, (hon_116 _ (by omega) (by omega)).2.trans (hO (200 + oa) (by omega) (by omega) (by omega) (by omega) (by omega) (by omega) (by omega) (by omega)).2⟩
                have r2 : pf2_119 (400 + 200 * vv + ob) = pf (400 + 200 * vv + ob) ∧ qf2_120 (400 + 200 * vv + ob) = qf (400 + 200 * vv + ob) := ⟨(hon_116 _ (by omega) (by omega)).1.trans (hO (400 + 200 * vv + ob) (by omega) (by omega) (by omega) (by omega) (by omega) (by omega) (by omega) (by omega)).1, (hon_116 _ (by omega) (by omega)).2.trans (hO (400 + 200 * vv + ob) (by omega) (by omega) (by omega) (by omega) (by omega) (by omega) (by omega) (by omega)).2⟩
                have f_127 : g_118 0 = .inr (13, Rob ad x) := (fr_121 0 (by omega)).trans f_104
                refine va_callv (va_runV (As := [.int (nI 1013), .int (nI (200 + oa)), .int (nI (400 + 200 * vv + ob))]) (rest := []) ⟨hx, hb, hml, hown, hts⟩ (c_X10_timesFractions l dC dI A ad cA g_118 x pf2_119 qf2_120 1013 (200 + oa) (400 + 200 * vv + ob) hFn_116 (by omega) (by omega) (by omega) (⟨by rw [r1.1]; exact (k_1012 fa.1).1, by rw [r1.2]; exact (k_1012 fa.1).2⟩) (⟨by rw [r2.1]; exact (k_1012 (fb.2 vv (by omega))).1, by rw [r2.2]; exact (k_1012 (fb.2 vv (by omega))).2⟩)) (cwV 3 hts (goodIn_app (goodIn_r [Cond.methodLink RX10 143 yX10_timesFractions, Cond.instanceMethod yX10_timesFractions, Cond.selects RX10 yX10_timesFractions yX10_timesFractions, Cond.initialized RX10] [13, 14, 15, 7] rfl rfl) (goodIn_sub (fun w9 h9 => bk4 w9 h9) gw_X10_timesFractions)) rfl rfl rfl (by decide +kernel) ⟨Nat.le_of_ble_eq_true rfl, Nat.le_of_ble_eq_true rfl⟩) ⟨fun a U g mk q => ⟨q.1, q.2.1, q.2.2.1, LY.moved (u := U) (U := U.calling g mk a) (Vm.Alike.refl U.vm) q.2.2.2⟩, va_recv hK hP (ci := 13) (q0 := 0) rfl (wo_at (by decide) f_127), fun U hU hW => ⟨rfl, by rw [hU]; exact fun q h => hA q (Nat.le_trans hS.1 h), by rw [hU]; exact hP, LY.moved hW.alike hL⟩⟩ rfl rfl hl.1 rfl (lv_room (Nat.le_of_ble_eq_true rfl)) dX10_reckonPart_274 ⟨(Nat.le_of_ble_eq_true rfl), (Nat.le_of_ble_eq_true rfl)⟩) hS (fun q _ h => h) (fun q h => h) (fun u8 t8 H1 locs ht8 hvm8 hw_128 hB hz1 hk1 hS => ?_)
                obtain ⟨g_129, pf2_130, qf2_131⟩ := u8
                try dsimp only at hw_128 hB
                rw [ht8] at hB
                have hP := hB
                generalize H1 = H at hP hS ⊢
                obtain ⟨fr_132, hFn_126, hpn_126, hqn_126, hon_126⟩ := hw_128
                have q2e : Eqv (pf2_130 1013) (qf2_131 1013) (Na * Db vv) (b9 * Q ^ (gd L k1).2.2.2.1) := by rw [← hMM]; exact Eqv.times hpn_126 hqn_126 (by rw [r1.1, r1.2]; exact ta2) (by rw [r2.1, r2.2]; exact (tb3 vv (by omega)).2) (hFn_116.red (by omega)).1 (hFn_116.red (by omega)).1
                have q2b := k_fbN q2e (hFn_126.red (by decide)) M9.1 (Nat.le_trans tpd.2.1 (Nat.le_trans (k_8 (k_2R w4 w2) (by omega)) (Nat.le_refl _))) M9.2
                have r3 := hon_126 1012 (by decide) (by decide)
                refine lv_aload_n hx hb dX10_reckonPart_277 rfl (lv_at hl 3 rfl) ?_
                refine lv_iload hx hb dX10_reckonPart_278 (lv_at hl 0 rfl) ?_
                refine lv_sipush (v := nI 1012) hx hb dX10_reckonPart_280 (by decide +kernel) ?_
                refine lv_sipush (v := nI 1013) hx hb dX10_reckonPart_283 (by decide +kernel) ?_
                have f_134 : g_129 0 = .inr (13, Rob ad x) := (fr_132 0 (by omega)).trans f_127
                refine va_callv (va_runV (As := [.int (nI (400 + 200 * vv + k1)), .int (nI 1012), .int (nI 1013)]) (rest := []) ⟨hx, hb, hml, hown, hts⟩ (c_X10_addFractions l dC dI A ad cA g_129 x pf2_130 qf2_131 (400 + 200 * vv + k1) 1012 1013 hFn_126 (by omega) (by omega) (by omega) (⟨by rw [r3.1]; exact (k_1012 q1b).1, by rw [r3.2]; exact (k_1012 q1b).2⟩) (k_1012 q2b)) (cwV 3 hts (goodIn_app (goodIn_r [Cond.methodLink RX10 171 yX10_addFractions, Cond.instanceMethod yX10_addFractions, Cond.selects RX10 yX10_addFractions yX10_addFractions, Cond.initialized RX10] [16, 17, 18, 7] rfl rfl) (goodIn_sub (fun w9 h9 => bk5 w9 h9) gw_X10_addFractions)) rfl rfl rfl (by decide +kernel) ⟨Nat.le_of_ble_eq_true rfl, Nat.le_of_ble_eq_true rfl⟩) ⟨fun a U g mk q => ⟨q.1, q.2.1, q.2.2.1, LY.moved (u := U) (U := U.calling g mk a) (Vm.Alike.refl U.vm) q.2.2.2⟩, va_recv hK hP (ci := 13) (q0 := 0) rfl (wo_at (by decide) f_134), fun U hU hW => ⟨rfl, by rw [hU]; exact fun q h => hA q (Nat.le_trans hS.1 h), by rw [hU]; exact hP, LY.moved hW.alike hL⟩⟩ rfl rfl hl.1 rfl (lv_room (Nat.le_of_ble_eq_true rfl)) dX10_reckonPart_286 ⟨(Nat.le_of_ble_eq_true rfl), (Nat.le_of_ble_eq_true rfl)⟩) hS (fun q _ h => h) (fun q h => h) (fun u8 t8 H1 locs ht8 hvm8 hw_135 hB hz1 hk1 hS => ?_)
                obtain ⟨g_136, pf2_137, qf2_138⟩ := u8
                try dsimp only at hw_135 hB
                rw [ht8] at hB
                have hP := hB
                generalize H1 = H at hP hS ⊢
                obtain ⟨fr_139, hFn_133, hpn_133, hqn_133, hon_133⟩ := hw_135
                have fX : ∀ f, f ≠ 400 + 200 * vv + k1 → f ≠ 1012 → f ≠ 1013 → f ≠ 1014 → f ≠ 1016 → pf2_137 f = p1 f ∧ qf2_138 f = q1 f := fun f h1 h2 h3 h4 h5 => ⟨(hon_133 f h1 h5).1.trans ((hon_126 f h3 h5).1.trans (hon_116 f h2 h5).1), (hon_133 f h1 h5).2.trans ((hon_126 f h3 h5).2.trans (hon_116 f h2 h5).2)⟩
                have q3e : Eqv (pf2_137 (400 + 200 * vv + k1)) (qf2_138 (400 + 200 * vv + k1)) (Da vv * Nb * ((1 : Nat) : Int) + Na * Db vv * ((1 : Nat) : Int)) (b9 * Q ^ (gd L k1).2.2.2.1) := by have h9 := Eqv.plus (c1 := 1) (c2 := 1) hpn_133 hqn_133 (by rw [r3.1, r3.2]; exact q1e) q2e (hFn_126.red (by decide)).1 (hFn_126.red (by decide)).1 M9.1 M9.1 rfl; rw [Nat.mul_one] at h9; exact h9
                have fD : ∀ u, u < vv + 1 → ∃ D : Int, TVd L k1 D ∧ Eqv (pf2_137 (400 + 200 * u + k1)) (qf2_138 (400 + 200 * u + k1)) D (b9 * Q ^ (gd L k1).2.2.2.1) := fun u hu => by by_cases h9 : u = vv; subst h9; exact ⟨(Da u * Nb * ((1 : Nat) : Int) + Na * Db u * ((1 : Nat) : Int)), tpd.2.2, q3e⟩; obtain ⟨D8, d81, d82⟩ := hDe u (by omega); exact ⟨D8, d81, by rw [(fX _ (by omega) (by omega) (by omega) (by omega) (by omega)).1, (fX _ (by omega) (by omega) (by omega) (by omega) (by omega)).2]; exact d82⟩
                have fV : Eqv (pf2_137 (200 + k1)) (qf2_138 (200 + k1)) N9 (b9 * Q ^ (gd L k1).2.2.2.1) := by rw [(fX _ (by omega) (by omega) (by omega) (by omega) (by omega)).1, (fX _ (by omega) (by omega) (by omega) (by omega) (by omega)).2]; exact hVe
                have fO : ∀ f, f ≠ 200 + k1 → f ≠ 400 + k1 → f ≠ 600 + k1 → f ≠ 800 + k1 → f ≠ 1012 → f ≠ 1013 → f ≠ 1014 → f ≠ 1016 → pf2_137 f = pf f ∧ qf2_138 f = qf f := fun f h1 h2 h3 h4 h5 h6 h7 h8 => ⟨(fX f (by omega) h5 h6 h7 h8).1.trans (hO f h1 h2 h3 h4 h5 h6 h7 h8).1, (fX f (by omega) h5 h6 h7 h8).2.trans (hO f h1 h2 h3 h4 h5 h6 h7 h8).2⟩
                refine lv_goto (tgt := 345) hx hb dX10_reckonPart_289 (by decide) ?_
                refine lv_iinc (v := nI (vv + 1)) (lv' := [(4, .int (nI (vv + 1))), (5, .int (nI (400 + 200 * vv + k1))), (3, .int (nI ob)), (2, .int (nI oa)), (0, .ref (ad 0)), (1, .int (nI k1))]) hx hb dX10_reckonPart_345 hl (k := 5) rfl (nI_add vv 1) (by decide) rfl (fun ls hl => ?_)
                refine lv_goto (tgt := 145) hx hb dX10_reckonPart_348 (by decide) ?_
                exact ih_98 (vv + 1) pf2_137 qf2_138 g_136 (fun (k : Nat) (hk : k ≠ 1 ∧ k ≠ 2 ∧ k ≠ 3) => (fr_139 k (by omega)).trans ((fr_132 k (by omega)).trans ((fr_121 k (by omega)).trans ((fr_100 k (by omega)).trans (rfl))))) (by omega) (by omega) fO fV fD hFn_133 _ _ _ hP hS (lv_sub (l' := [(3, .int (nI ob)), (2, .int (nI oa)), (0, .ref (ad 0)), (1, .int (nI k1)), (4, .int (nI (vv + 1)))]) hl [2, 3, 4, 5, 0] rfl)
          exact loop_97 _ 0 pf2_94 qf2_95 g_93 (fun (k : Nat) (hk : k ≠ 1 ∧ k ≠ 2 ∧ k ≠ 3) => rfl) (Nat.lt_succ_self _) (by decide) hfr hTe (fun u hu => absurd hu (by omega)) hFn_91 _ _ _ hP hS (lv_sub (l' := [(3, .int (nI ob)), (2, .int (nI oa)), (0, .ref (ad 0)), (1, .int (nI k1)), (4, .int (nI 0))]) hl [1, 2, 3, 4, 0] rfl)
      · have c_24 := (k_iEQ (a := (pt 0) k1) (b := 2) rfl (show nI 2 = iI 2 from by decide) (by omega) (by omega)).mp c_24
        obtain ⟨oa, ob, hoa, hob, eoa, eob, e1, e2, e3⟩ := w9 (by omega)
        have eb : pt 2 k1 = ((ob : Nat) : Int) := m2.trans eob
        have ea : pt 1 k1 = ((oa : Nat) : Int) := m1.trans eoa
        have hTa := hT1 (by omega)
        rw [eoa, Int.toNat_natCast] at hTa
        have fa := hTa.fb hQb hW (by omega) hL2 (fun f hf => hF0.red hf)
        obtain ⟨Na, ba, Da, ta1, ta2, ta3⟩ := hTa
        obtain ⟨-, wa2, -, wa4, wa5, -⟩ := hW oa (by omega)
        have Ma := k_M hQb ⟨ta1.1, ta1.2.1⟩ wa5 wa2
        have hTb := hT2 (by omega)
        rw [eob, Int.toNat_natCast] at hTb
        have fb := hTb.fb hQb hW (by omega) hL2 (fun f hf => hF0.red hf)
        obtain ⟨Nb, bb, Db, tb1, tb2, tb3⟩ := hTb
        obtain ⟨-, wb2, -, wb4, wb5, -⟩ := hW ob (by omega)
        have Mb := k_M hQb ⟨tb1.1, tb1.2.1⟩ wb5 wb2
        rw [ea, eb, ← nI_iI, ← nI_iI] at hl
        refine lv_aload_n hx hb dX10_reckonPart_73 rfl (lv_at hl 2 rfl) ?_
        refine lv_sipush (v := nI 200) hx hb dX10_reckonPart_74 (by decide +kernel) ?_
        refine lv_iload_n hx hb dX10_reckonPart_77 rfl (lv_at hl 3 rfl) ?_
        refine lv_iadd hx hb dX10_reckonPart_78 ?_
        refine lv_topi (fun x_142 e_143 => ?_)
        obtain rfl : x_142 = nI (200 + k1) := e_143.trans (nI_add 200 k1)
        refine lv_sipush (v := nI 200) hx hb dX10_reckonPart_79 (by decide +kernel) ?_
        refine lv_iload_n hx hb dX10_reckonPart_82 rfl (lv_at hl 1 rfl) ?_
        refine lv_iadd hx hb dX10_reckonPart_83 ?_
        refine lv_topi (fun x_144 e_145 => ?_)
        obtain rfl : x_144 = nI (200 + oa) := e_145.trans (nI_add 200 oa)
        refine lv_sipush (v := nI 200) hx hb dX10_reckonPart_84 (by decide +kernel) ?_
        refine lv_iload_n hx hb dX10_reckonPart_87 rfl (lv_at hl 0 rfl) ?_
        refine lv_iadd hx hb dX10_reckonPart_88 ?_
        refine lv_topi (fun x_146 e_147 => ?_)
        obtain rfl : x_146 = nI (200 + ob) := e_147.trans (nI_add 200 ob)
        refine va_callv (va_runV (As := [.int (nI (200 + k1)), .int (nI (200 + oa)), .int (nI (200 + ob))]) (rest := []) ⟨hx, hb, hml, hown, hts⟩ (c_X10_addFractions l dC dI A ad cA g x pf qf (200 + k1) (200 + oa) (200 + ob) hF0 (by omega) (by omega) (by omega) (k_1012 fa.1) (k_1012 fb.1)) (cwV 3 hts (goodIn_app (goodIn_r [Cond.methodLink RX10 171 yX10_addFractions, Cond.instanceMethod yX10_addFractions, Cond.selects RX10 yX10_addFractions yX10_addFractions, Cond.initialized RX10] [16, 17, 18, 7] rfl rfl) (goodIn_sub (fun w9 h9 => bk5 w9 h9) gw_X10_addFractions)) rfl rfl rfl (by decide +kernel) ⟨Nat.le_of_ble_eq_true rfl, Nat.le_of_ble_eq_true rfl⟩) ⟨fun a U g mk q => ⟨q.1, q.2.1, q.2.2.1, LY.moved (u := U) (U := U.calling g mk a) (Vm.Alike.refl U.vm) q.2.2.2⟩, va_recv hK hP (ci := 13) (q0 := 0) rfl (wo_at (by decide) r_3), fun U hU hW => ⟨rfl, by rw [hU]; exact fun q h => hA q (Nat.le_trans hS.1 h), by rw [hU]; exact hP, LY.moved hW.alike hL⟩⟩ rfl rfl hl.1 rfl (lv_room (Nat.le_of_ble_eq_true rfl)) dX10_reckonPart_89 ⟨(Nat.le_of_ble_eq_true rfl), (Nat.le_of_ble_eq_true rfl)⟩) hS (fun q _ h => h) (fun q h => h) (fun u8 t8 H1 locs ht8 hvm8 hw_149 hB hz1 hk1 hS => ?_)
        obtain ⟨g_150, pf2_151, qf2_152⟩ := u8
        try dsimp only at hw_149 hB
        rw [ht8] at hB
        have hP := hB
        generalize H1 = H at hP hS ⊢
        obtain ⟨fr_153, hFn_148, hpn_148, hqn_148, hon_148⟩ := hw_149
        obtain ⟨N9, hN9⟩ : ∃ z9, z9 = Na * (((bb * Q ^ ((gd L k1).2.2.2.1 - (gd L oa).2.2.2.1)) : Nat) : Int) + Nb * (((ba * Q ^ ((gd L k1).2.2.2.1 - (gd L ob).2.2.2.1)) : Nat) : Int) := ⟨_, rfl⟩
        obtain ⟨b9, hb9⟩ : ∃ z9, z9 = ba * bb := ⟨_, rfl⟩
        have hTn : TVn L Q k1 N9 b9 := by rw [hN9, hb9]; exact TVn.sum hQb ta1 tb1 e1 e2 e3
        have hTe : Eqv (pf2_151 (200 + k1)) (qf2_152 (200 + k1)) N9 (b9 * Q ^ (gd L k1).2.2.2.1) := by rw [hN9, hb9]; rw [← (sum_c (Q := Q) (ba := ba) (bb := bb) (show (gd L oa).2.2.2.1 ≤ (gd L k1).2.2.2.1 by omega) (show (gd L ob).2.2.2.1 ≤ (gd L k1).2.2.2.1 by omega)).2]; exact Eqv.plus hpn_148 hqn_148 ta2 tb2 (hF0.red (by omega)).1 (hF0.red (by omega)).1 Ma.1 Mb.1 (sum_c (Q := Q) (ba := ba) (bb := bb) (show (gd L oa).2.2.2.1 ≤ (gd L k1).2.2.2.1 by omega) (show (gd L ob).2.2.2.1 ≤ (gd L k1).2.2.2.1 by omega)).1
        have M9 := k_M hQb ⟨hTn.1, hTn.2.1⟩ w5 w2
        have hfr : ∀ f, f ≠ 200 + k1 → f ≠ 400 + k1 → f ≠ 600 + k1 → f ≠ 800 + k1 → f ≠ 1012 → f ≠ 1013 → f ≠ 1014 → f ≠ 1016 → pf2_151 f = pf f ∧ qf2_152 f = qf f := fun f h1 h2 h3 h4 h5 h6 h7 h8 => hon_148 f h1 h8
        refine lv_goto (tgt := 142) hx hb dX10_reckonPart_92 (by decide) ?_
        refine lv_iconst (v := nI 0) hx hb dX10_reckonPart_142 (by decide +kernel) ?_
        refine lv_istore (lv' := [(4, .int (nI 0)), (3, .int (nI ob)), (2, .int (nI oa)), (0, .ref (ad 0)), (1, .int (nI k1))]) hx hb dX10_reckonPart_143 hl (by decide) rfl (fun ls hl => ?_)
        have loop_154 : ∀ (k9 : Nat) (vv : Nat) (p1 : Nat → Int) (q1 : Nat → Nat) (g_156 : Nat → va_E) (fr_157 : ∀ k, (k ≠ 1 ∧ k ≠ 2 ∧ k ≠ 3) → g_156 k = g_150 k), 3 - vv < k9 → (vv ≤ 3) → (∀ f, f ≠ 200 + k1 → f ≠ 400 + k1 → f ≠ 600 + k1 → f ≠ 800 + k1 → f ≠ 1012 → f ≠ 1013 → f ≠ 1014 → f ≠ 1016 → p1 f = pf f ∧ q1 f = qf f) → (Eqv (p1 (200 + k1)) (q1 (200 + k1)) N9 (b9 * Q ^ (gd L k1).2.2.2.1)) → (∀ u, u < vv → ∃ D : Int, TVd L k1 D ∧ Eqv (p1 (400 + 200 * u + k1)) (q1 (400 + 200 * u + k1)) D (b9 * Q ^ (gd L k1).2.2.2.1)) → (RF ad cA g_156 x p1 q1) → ∀ (H : Heap) (locs : List Loc) (ls : Array Slot), va_P (dC, dI) vwCl (wo ad NSr g_156) H → va_S A s.heap H locs → lv_has ls 6 [(3, .int (nI ob)), (2, .int (nI oa)), (0, .ref (ad 0)), (1, .int (nI k1)), (4, .int (nI vv))] → W p l e (headSpec wd_X10_reckonPart ({ frames := 90, cells := 0, slots := 0, locals := 1800 })).room s m ([.ref (ad 0), .int (nI k1)] : List Value).toArray below meth c H locs (0) (0) (MQ below (va_Qv (fun (u : (Nat → va_E) × (Nat → Int) × (Nat → Nat)) => match u with | (g2, pf2, qf2) => (∀ k, k ≠ 1 ∧ k ≠ 2 ∧ k ≠ 3 → g2 k = g k) ∧ RF ad cA g2 x pf2 qf2 ∧ TV L Q k1 pf2 qf2 ∧ (∀ f, f ≠ 200 + k1 → f ≠ 400 + k1 → f ≠ 600 + k1 → f ≠ 800 + k1 → f ≠ 1012 → f ≠ 1013 → f ≠ 1014 → f ≠ 1016 → pf2 f = pf f ∧ qf2 f = qf f)) (fun (u : (Nat → va_E) × (Nat → Int) × (Nat → Nat)) (t : State) => va_P (dC, dI) vwCl (wo ad NSr u.1) t.heap) A) ([.ref (ad 0), .int (nI k1)] : List Value).toArray s (0) (0) A) (F0 m 145 ls []) := by
          intro k9
          induction k9 with
          | zero => intro vv p1 q1 g_156 fr_157 h9; exact absurd h9 (Nat.not_lt_zero _)
          | succ k9 ih_155 =>
            intro vv p1 q1 g_156 fr_157 h9 hv3 hO hVe hDe hFL H locs ls hP hS hl
            refine lv_iload hx hb dX10_reckonPart_145 (lv_at hl 4 rfl) ?_
            refine lv_iconst (v := nI 3) hx hb dX10_reckonPart_147 (by decide +kernel) ?_
            refine lv_icmp_ge (tgt := 351) hx hb dX10_reckonPart_148 (by decide) (fun c_158 => ?_) (fun c_158 => ?_)
            · have c_158 := (nI_leI (a := 3) (b := vv) (by decide) (by omega)).mp c_158
              refine W.widen (k := 0) (n := 0) (by omega) (by omega) ?_
              exact W.vret hx hb hr (fun t9 ht9 hW9 => ⟨⟨(g_156, p1, q1), rfl, ⟨(fun (k : Nat) (hk : k ≠ 1 ∧ k ≠ 2 ∧ k ≠ 3) => (fr_157 k (by omega)).trans ((fr_153 k (by omega)).trans (rfl))), hFL, TV.of hTn hVe (fun v9 h9 => hDe v9 (by omega)), hO⟩, by show va_P (dC, dI) vwCl _ t9.heap; rw [ht9]; exact hP⟩, hS.F ht9⟩) hS.2.2 dX10_reckonPart_351
            · have c_158 := mt (nI_leI (a := 3) (b := vv) (by decide) (by omega)).mpr c_158
              refine lv_iload_n hx hb dX10_reckonPart_151 rfl (lv_at hl 3 rfl) ?_
              refine lv_iload hx hb dX10_reckonPart_152 (lv_at hl 4 rfl) ?_
              refine va_calli (va_runS (As := [.int (nI k1), .int (nI vv)]) (rest := []) ⟨hx, hb, hml, hown, hts⟩ (c_X10_derivativeCell l dC dI A ad cA g_156 k1 vv ) (va_cwS 2 hts (goodIn_app (goodIn_r [Cond.methodLink RX10 269 yX10_derivativeCell, Cond.static yX10_derivativeCell, Cond.initialized RX10] [8, 9, 7] rfl rfl) (goodIn_sub (fun w9 h9 => bk2 w9 h9) gw_X10_derivativeCell)) rfl rfl rfl (by decide +kernel) ⟨Nat.le_of_ble_eq_true rfl, Nat.le_of_ble_eq_true rfl⟩) ⟨fun a U g mk q => ⟨q.1, q.2.1, q.2.2.1, LY.moved (u := U) (U := U.calling g mk a) (Vm.Alike.refl U.vm) q.2.2.2⟩, fun U hU hW => ⟨rfl, by rw [hU]; exact fun q h => hA q (Nat.le_trans hS.1 h), by rw [hU]; exact hP, LY.moved hW.alike hL⟩⟩ rfl rfl hl.1 rfl (lv_room (Nat.le_of_ble_eq_true rfl)) dX10_reckonPart_154 ⟨(Nat.le_of_ble_eq_true rfl), (Nat.le_of_ble_eq_true rfl)⟩) hS (fun q _ h => h) (fun q h => h) (fun r_159 u8 t8 H1 locs ht8 hvm8 hw_160 hB hz1 hk1 hS => ?_)
              obtain ⟨⟩ := u8
              try dsimp only at hw_160 hB
              rw [ht8] at hB
              have hP := hB
              generalize H1 = H at hP hS ⊢
              obtain rfl := hw_160
              refine lv_istore (lv' := [(5, .int (nI (400 + 200 * vv + k1))), (3, .int (nI ob)), (2, .int (nI oa)), (0, .ref (ad 0)), (1, .int (nI k1)), (4, .int (nI vv))]) hx hb dX10_reckonPart_157 hl (by decide) rfl (fun ls hl => ?_)
              refine lv_aload_n hx hb dX10_reckonPart_159 rfl (lv_at hl 3 rfl) ?_
              have f_161 : g_156 0 = .inr (13, Rob ad x) := (fr_157 0 (by omega)).trans ((fr_153 0 (by omega)).trans r_3)
              refine m_get (D := (dC, dI)) (v := .ref (ad 5)) (C := RX10) (T := TX10) (N := 29) hx hb hts bk0 hown hK hP 0 (by decide) f_161 rfl 7 (by decide) (hts (.fieldLink RX10 29 "GradientDeskModel" "sort" "[I") (List.mem_of_getElem? (i := 3) rfl)) (fun _ h9 => h9) rfl dX10_reckonPart_160 ?_
              refine lv_iload_n hx hb dX10_reckonPart_163 rfl (lv_at hl 4 rfl) ?_
              have f_162 : g_156 5 = .inl (cA 5, 201, .inl (fun j => iI ((pt 0) j))) := (fr_157 5 (by omega)).trans ((fr_153 5 (by omega)).trans p_10)
              refine m_iald hx hb hK hP 5 (by decide) rfl f_162 (i := k1) (by omega) (by decide) dX10_reckonPart_164 ?_
              have b_163 := (hpt_16 0) k1
              refine lv_iconst (v := nI 2) hx hb dX10_reckonPart_165 (by decide +kernel) ?_
              refine lv_icmp_ge (tgt := 200) hx hb dX10_reckonPart_166 (by decide) (fun c_164 => ?_) (fun c_164 => absurd (mt (k_iLE (a := 2) (b := (pt 0) k1) (show nI 2 = iI 2 from by decide) rfl (by omega) (by omega)).mpr c_164) (by omega))
              refine lv_aload_n hx hb dX10_reckonPart_200 rfl (lv_at hl 3 rfl) ?_
              refine m_get (D := (dC, dI)) (v := .ref (ad 5)) (C := RX10) (T := TX10) (N := 29) hx hb hts bk0 hown hK hP 0 (by decide) f_161 rfl 7 (by decide) (hts (.fieldLink RX10 29 "GradientDeskModel" "sort" "[I") (List.mem_of_getElem? (i := 3) rfl)) (fun _ h9 => h9) rfl dX10_reckonPart_201 ?_
              refine lv_iload_n hx hb dX10_reckonPart_204 rfl (lv_at hl 4 rfl) ?_
              refine m_iald hx hb hK hP 5 (by decide) rfl f_162 (i := k1) (by omega) (by decide) dX10_reckonPart_205 ?_
              have b_165 := (hpt_16 0) k1
              refine lv_iconst (v := nI 2) hx hb dX10_reckonPart_206 (by decide +kernel) ?_
              refine lv_icmp_ne (tgt := 231) hx hb dX10_reckonPart_207 (by decide) (fun c_166 => absurd (mt (k_iEQ (a := (pt 0) k1) (b := 2) rfl (show nI 2 = iI 2 from by decide) (by omega) (by omega)).mpr c_166) (by omega)) (fun c_166 => ?_)
              refine lv_aload_n hx hb dX10_reckonPart_210 rfl (lv_at hl 3 rfl) ?_
              refine lv_iload hx hb dX10_reckonPart_211 (lv_at hl 0 rfl) ?_
              refine lv_iload_n hx hb dX10_reckonPart_213 rfl (lv_at hl 2 rfl) ?_
              refine lv_iload hx hb dX10_reckonPart_214 (lv_at hl 5 rfl) ?_
              refine va_calli (va_runS (As := [.int (nI oa), .int (nI vv)]) (rest := [.int (nI (400 + 200 * vv + k1)), .ref (ad 0)]) ⟨hx, hb, hml, hown, hts⟩ (c_X10_derivativeCell l dC dI A ad cA g_156 oa vv ) (va_cwS 2 hts (goodIn_app (goodIn_r [Cond.methodLink RX10 269 yX10_derivativeCell, Cond.static yX10_derivativeCell, Cond.initialized RX10] [8, 9, 7] rfl rfl) (goodIn_sub (fun w9 h9 => bk2 w9 h9) gw_X10_derivativeCell)) rfl rfl rfl (by decide +kernel) ⟨Nat.le_of_ble_eq_true rfl, Nat.le_of_ble_eq_true rfl⟩) ⟨fun a U g mk q => ⟨q.1, q.2.1, q.2.2.1, LY.moved (u := U) (U := U.calling g mk a) (Vm.Alike.refl U.vm) q.2.2.2⟩, fun U hU hW => ⟨rfl, by rw [hU]; exact fun q h => hA q (Nat.le_trans hS.1 h), by rw [hU]; exact hP, LY.moved hW.alike hL⟩⟩ rfl rfl hl.1 rfl (lv_room (Nat.le_of_ble_eq_true rfl)) dX10_reckonPart_216 ⟨(Nat.le_of_ble_eq_true rfl), (Nat.le_of_ble_eq_true rfl)⟩) hS (fun q _ h => h) (fun q h => h) (fun r_167 u8 t8 H1 locs ht8 hvm8 hw_168 hB hz1 hk1 hS => ?_)
              obtain ⟨⟩ := u8
              try dsimp only at hw_168 hB
              rw [ht8] at hB
              have hP := hB
              generalize H1 = H at hP hS ⊢
              obtain rfl := hw_168
              refine lv_iload_n hx hb dX10_reckonPart_219 rfl (lv_at hl 1 rfl) ?_
              refine lv_iload hx hb dX10_reckonPart_220 (lv_at hl 5 rfl) ?_
              refine va_calli (va_runS (As := [.int (nI ob), .int (nI vv)]) (rest := [.int (nI (400 + 200 * vv + oa)), .int (nI (400 + 200 * vv + k1)), .ref (ad 0)]) ⟨hx, hb, hml, hown, hts⟩ (c_X10_derivativeCell l dC dI A ad cA g_156 ob vv ) (va_cwS 2 hts (goodIn_app (goodIn_r [Cond.methodLink RX10 269 yX10_derivativeCell, Cond.static yX10_derivativeCell, Cond.initialized RX10] [8, 9, 7] rfl rfl) (goodIn_sub (fun w9 h9 => bk2 w9 h9) gw_X10_derivativeCell)) rfl rfl rfl (by decide +kernel) ⟨Nat.le_of_ble_eq_true rfl, Nat.le_of_ble_eq_true rfl⟩) ⟨fun a U g mk q => ⟨q.1, q.2.1, q.2.2.1, LY.moved (u := U) (U := U.calling g mk a) (Vm.Alike.refl U.vm) q.2.2.2⟩, fun U hU hW => ⟨rfl, by rw [hU]; exact fun q h => hA q (Nat.le_trans hS.1 h), by rw [hU]; exact hP, LY.moved hW.alike hL⟩⟩ rfl rfl hl.1 rfl (lv_room (Nat.le_of_ble_eq_true rfl)) dX10_reckonPart_222 ⟨(Nat.le_of_ble_eq_true rfl), (Nat.le_of_ble_eq_true rfl)⟩) hS (fun q _ h => h) (fun q h => h) (fun r_169 u8 t8 H1 locs ht8 hvm8 hw_170 hB hz1 hk1 hS => ?_)
              obtain ⟨⟩ := u8
              try dsimp only at hw_170 hB
              rw [ht8] at hB
              have hP := hB
              generalize H1 = H at hP hS ⊢
              obtain rfl := hw_170
              refine va_callv (va_runV (As := [.int (nI (400 + 200 * vv + k1)), .int (nI (400 + 200 * vv + oa)), .int (nI (400 + 200 * vv + ob))]) (rest := []) ⟨hx, hb, hml, hown, hts⟩ (c_X10_addFractions l dC dI A ad cA g_156 x p1 q1 (400 + 200 * vv + k1) (400 + 200 * vv + oa) (400 + 200 * vv + ob) hFL (by omega) (by omega) (by omega) (⟨by rw [(hO (400 + 200 * vv + oa) (by omega) (by omega) (by omega) (by omega) (by omega) (by omega) (by omega) (by omega)).1]; exact (k_1012 (fa.2 vv (by omega))).1, by rw [(hO (400 + 200 * vv + oa) (by omega) (by omega) (by omega) (by omega) (by omega) (by omega) (by omega) (by omega)).2]; exact (k_1012 (fa.2 vv (by omega))).2⟩) (⟨by rw [(hO (400 + 200 * vv + ob) (by omega) (by omega) (by omega) (by omega) (by omega) (by omega) (by omega) (by omega)).1]; exact (k_1012 (fb.2 vv (by omega))).1, by rw [(hO (400 + 200 * vv + ob) (by omega) (by omega) (by omega) (by omega) (by omega) (by omega) (by omega) (by omega)).2]; exact (k_1012 (fb.2 vv (by omega))).2⟩)) (cwV 3 hts (goodIn_app (goodIn_r [Cond.methodLink RX10 171 yX10_addFractions, Cond.instanceMethod yX10_addFractions, Cond.selects RX10 yX10_addFractions yX10_addFractions, Cond.initialized RX10] [16, 17, 18, 7] rfl rfl) (goodIn_sub (fun w9 h9 => bk5 w9 h9) gw_X10_addFractions)) rfl rfl rfl (by decide +kernel) ⟨Nat.le_of_ble_eq_true rfl, Nat.le_of_ble_eq_true rfl⟩) ⟨fun a U g mk q => ⟨q.1, q.2.1, q.2.2.1, LY.moved (u := U) (U := U.calling g mk a) (Vm.Alike.refl U.vm) q.2.2.2⟩, va_recv hK hP (ci := 13) (q0 := 0) rfl (wo_at (by decide) f_161), fun U hU hW => ⟨rfl, by rw [hU]; exact fun q h => hA q (Nat.le_trans hS.1 h), by rw [hU]; exact hP, LY.moved hW.alike hL⟩⟩ rfl rfl hl.1 rfl (lv_room (Nat.le_of_ble_eq_true rfl)) dX10_reckonPart_225 ⟨(Nat.le_of_ble_eq_true rfl), (Nat.le_of_ble_eq_true rfl)⟩) hS (fun q _ h => h) (fun q h => h) (fun u8 t8 H1 locs ht8 hvm8 hw_172 hB hz1 hk1 hS => ?_)
              obtain ⟨g_173, pf2_174, qf2_175⟩ := u8
              try dsimp only at hw_172 hB
              rw [ht8] at hB
              have hP := hB
              generalize H1 = H at hP hS ⊢
              obtain ⟨fr_176, hFn_171, hpn_171, hqn_171, hon_171⟩ := hw_172
              have fX : ∀ f, f ≠ 400 + 200 * vv + k1 → f ≠ 1012 → f ≠ 1013 → f ≠ 1014 → f ≠ 1016 → pf2_174 f = p1 f ∧ qf2_175 f = q1 f := fun f h1 _ _ _ h5 => hon_171 f h1 h5
              have fD : ∀ u, u < vv + 1 → ∃ D : Int, TVd L k1 D ∧ Eqv (pf2_174 (400 + 200 * u + k1)) (qf2_175 (400 + 200 * u + k1)) D (b9 * Q ^ (gd L k1).2.2.2.1) := fun u hu => by by_cases h9 : u = vv; subst h9; exact ⟨(Da u * (((bb * Q ^ ((gd L k1).2.2.2.1 - (gd L oa).2.2.2.1)) : Nat) : Int) + Db u * (((ba * Q ^ ((gd L k1).2.2.2.1 - (gd L ob).2.2.2.1)) : Nat) : Int)), TVd.sum hQb ta1 tb1 (ta3 u (by omega)).1 (tb3 u (by omega)).1 e1 e2, by rw [hb9, ← (sum_c (Q := Q) (ba := ba) (bb := bb) (show (gd L oa).2.2.2.1 ≤ (gd L k1).2.2.2.1 by omega) (show (gd L ob).2.2.2.1 ≤ (gd L k1).2.2.2.1 by omega)).2]; exact Eqv.plus hpn_171 hqn_171 (by rw [(hO (400 + 200 * u + oa) (by omega) (by omega) (by omega) (by omega) (by omega) (by omega) (by omega) (by omega)).1, (hO (400 + 200 * u + oa) (by omega) (by omega) (by omega) (by omega) (by omega) (by omega) (by omega) (by omega)).2]; exact (ta3 u (by omega)).2) (by rw [(hO (400 + 200 * u + ob) (by omega) (by omega) (by omega) (by omega) (by omega) (by omega) (by omega) (by omega)).1, (hO (400 + 200 * u + ob) (by omega) (by omega) (by omega) (by omega) (by omega) (by omega) (by omega) (by omega)).2]; exact (tb3 u (by omega)).2) (hFL.red (by omega)).1 (hFL.red (by omega)).1 Ma.1 Mb.1 (sum_c (Q := Q) (ba := ba) (bb := bb) (show (gd L oa).2.2.2.1 ≤ (gd L k1).2.2.2.1 by omega) (show (gd L ob).2.2.2.1 ≤ (gd L k1).2.2.2.1 by omega)).1⟩; obtain ⟨D8, d81, d82⟩ := hDe u (by omega); exact ⟨D8, d81, by rw [(fX _ (by omega) (by omega) (by omega) (by omega) (by omega)).1, (fX _ (by omega) (by omega) (by omega) (by omega) (by omega)).2]; exact d82⟩
              have fV : Eqv (pf2_174 (200 + k1)) (qf2_175 (200 + k1)) N9 (b9 * Q ^ (gd L k1).2.2.2.1) := by rw [(fX _ (by omega) (by omega) (by omega) (by omega) (by omega)).1, (fX _ (by omega) (by omega) (by omega) (by omega) (by omega)).2]; exact hVe
              have fO : ∀ f, f ≠ 200 + k1 → f ≠ 400 + k1 → f ≠ 600 + k1 → f ≠ 800 + k1 → f ≠ 1012 → f ≠ 1013 → f ≠ 1014 → f ≠ 1016 → pf2_174 f = pf f ∧ qf2_175 f = qf f := fun f h1 h2 h3 h4 h5 h6 h7 h8 => ⟨(fX f (by omega) h5 h6 h7 h8).1.trans (hO f h1 h2 h3 h4 h5 h6 h7 h8).1, (fX f (by omega) h5 h6 h7 h8).2.trans (hO f h1 h2 h3 h4 h5 h6 h7 h8).2⟩
              refine lv_goto (tgt := 345) hx hb dX10_reckonPart_228 (by decide) ?_
              refine lv_iinc (v := nI (vv + 1)) (lv' := [(4, .int (nI (vv + 1))), (5, .int (nI (400 + 200 * vv + k1))), (3, .int (nI ob)), (2, .int (nI oa)), (0, .ref (ad 0)), (1, .int (nI k1))]) hx hb dX10_reckonPart_345 hl (k := 5) rfl (nI_add vv 1) (by decide) rfl (fun ls hl => ?_)
              refine lv_goto (tgt := 145) hx hb dX10_reckonPart_348 (by decide) ?_
              exact ih_155 (vv + 1) pf2_174 qf2_175 g_173 (fun (k : Nat) (hk : k ≠ 1 ∧ k ≠ 2 ∧ k ≠ 3) => (fr_176 k (by omega)).trans ((fr_157 k (by omega)).trans (rfl))) (by omega) (by omega) fO fV fD hFn_171 _ _ _ hP hS (lv_sub (l' := [(3, .int (nI ob)), (2, .int (nI oa)), (0, .ref (ad 0)), (1, .int (nI k1)), (4, .int (nI (vv + 1)))]) hl [2, 3, 4, 5, 0] rfl)
        exact loop_154 _ 0 pf2_151 qf2_152 g_150 (fun (k : Nat) (hk : k ≠ 1 ∧ k ≠ 2 ∧ k ≠ 3) => rfl) (Nat.lt_succ_self _) (by decide) hfr hTe (fun u hu => absurd hu (by omega)) hFn_148 _ _ _ hP hS (lv_sub (l' := [(3, .int (nI ob)), (2, .int (nI oa)), (0, .ref (ad 0)), (1, .int (nI k1)), (4, .int (nI 0))]) hl [1, 2, 3, 4, 0] rfl)
    · have c_22 := (k_iEQ (a := (pt 0) k1) (b := 1) rfl (show nI 1 = iI 1 from by decide) (by omega) (by omega)).mp c_22
      obtain ⟨v1, hv1, ev1, d1⟩ := w8 (by omega)
      have ea : pt 1 k1 = ((v1 : Nat) : Int) := m1.trans ev1
      rw [ea, ← nI_iI] at hl
      refine lv_aload_n hx hb dX10_reckonPart_46 rfl (lv_at hl 2 rfl) ?_
      refine lv_sipush (v := nI 200) hx hb dX10_reckonPart_47 (by decide +kernel) ?_
      refine lv_iload_n hx hb dX10_reckonPart_50 rfl (lv_at hl 3 rfl) ?_
      refine lv_iadd hx hb dX10_reckonPart_51 ?_
      refine lv_topi (fun x_179 e_180 => ?_)
      obtain rfl : x_179 = nI (200 + k1) := e_180.trans (nI_add 200 k1)
      refine lv_sipush (v := nI 1008) hx hb dX10_reckonPart_52 (by decide +kernel) ?_
      refine lv_iload_n hx hb dX10_reckonPart_55 rfl (lv_at hl 1 rfl) ?_
      refine lv_iadd hx hb dX10_reckonPart_56 ?_
      refine lv_topi (fun x_181 e_182 => ?_)
      obtain rfl : x_181 = nI (1008 + v1) := e_182.trans (nI_add 1008 v1)
      refine va_callv (va_runV (As := [.int (nI (200 + k1)), .int (nI (1008 + v1))]) (rest := []) ⟨hx, hb, hml, hown, hts⟩ (c_X10_copyFraction l dC dI A ad cA g x pf qf (200 + k1) (1008 + v1) hF0 (by omega) (by omega)) (cwV 2 hts (goodIn_app (goodIn_r [Cond.methodLink RX10 136 yX10_copyFraction, Cond.instanceMethod yX10_copyFraction, Cond.selects RX10 yX10_copyFraction yX10_copyFraction, Cond.initialized RX10] [19, 20, 21, 7] rfl rfl) (goodIn_sub (fun w9 h9 => bk6 w9 h9) gw_X10_copyFraction)) rfl rfl rfl (by decide +kernel) ⟨Nat.le_of_ble_eq_true rfl, Nat.le_of_ble_eq_true rfl⟩) ⟨fun a U g mk q => ⟨q.1, q.2.1, q.2.2.1, LY.moved (u := U) (U := U.calling g mk a) (Vm.Alike.refl U.vm) q.2.2.2⟩, va_recv hK hP (ci := 13) (q0 := 0) rfl (wo_at (by decide) r_3), fun U hU hW => ⟨rfl, by rw [hU]; exact fun q h => hA q (Nat.le_trans hS.1 h), by rw [hU]; exact hP, LY.moved hW.alike hL⟩⟩ rfl rfl hl.1 rfl (lv_room (Nat.le_of_ble_eq_true rfl)) dX10_reckonPart_57 ⟨(Nat.le_of_ble_eq_true rfl), (Nat.le_of_ble_eq_true rfl)⟩) hS (fun q _ h => h) (fun q h => h) (fun u8 t8 H1 locs ht8 hvm8 hw_183 hB hz1 hk1 hS => ?_)
      obtain ⟨g_184, rfl⟩ : ∃ z, z = u8 := ⟨_, rfl⟩
      try dsimp only at hw_183 hB
      rw [ht8] at hB
      have hP := hB
      generalize H1 = H at hP hS ⊢
      obtain ⟨fr_185, hF1⟩ := hw_183
      have hvr := TVn.var (L := L) (k := k1) (v := 0) (p := pf (1008 + v1)) (q := qf (1008 + v1)) hQ (hP8 0 (by decide)).2 (hP8 1 (by decide)).2 (hP8 2 (by decide)).2 (by rcases (show v1 = 0 ∨ v1 = 1 ∨ v1 = 2 by omega) with rfl | rfl | rfl; exact Or.inl rfl; exact Or.inr (Or.inl rfl); exact Or.inr (Or.inr rfl)) (hP8 v1 (by omega)).1 d1
      obtain ⟨N9, hN9⟩ : ∃ z9, z9 = pf (1008 + v1) * ((Q / qf (1008 + v1) : Nat) : Int) := ⟨_, rfl⟩
      obtain ⟨b9, hb9⟩ : ∃ z9, z9 = (1 : Nat) := ⟨_, rfl⟩
      have hTn : TVn L Q k1 N9 b9 := by rw [hN9, hb9]; exact hvr.1
      have hTe : Eqv ((va_up pf (200 + k1) (pf (1008 + v1))) (200 + k1)) ((va_up qf (200 + k1) (qf (1008 + v1))) (200 + k1)) N9 (b9 * Q ^ (gd L k1).2.2.2.1) := by rw [hN9, hb9]; rw [d1, va_up_self, va_up_self]; exact Eqv.var hvr.2
      have M9 := k_M hQb ⟨hTn.1, hTn.2.1⟩ w5 w2
      have hfr : ∀ f, f ≠ 200 + k1 → f ≠ 400 + k1 → f ≠ 600 + k1 → f ≠ 800 + k1 → f ≠ 1012 → f ≠ 1013 → f ≠ 1014 → f ≠ 1016 → (va_up pf (200 + k1) (pf (1008 + v1))) f = pf f ∧ (va_up qf (200 + k1) (qf (1008 + v1))) f = qf f := fun f h1 _ _ _ _ _ _ _ => ⟨va_up_ne _ _ h1, va_up_ne _ _ h1⟩
      refine lv_goto (tgt := 142) hx hb dX10_reckonPart_60 (by decide) ?_
      refine lv_iconst (v := nI 0) hx hb dX10_reckonPart_142 (by decide +kernel) ?_
      refine lv_istore (lv' := [(4, .int (nI 0)), (3, .int (iI ((pt 2) k1))), (2, .int (nI v1)), (0, .ref (ad 0)), (1, .int (nI k1))]) hx hb dX10_reckonPart_143 hl (by decide) rfl (fun ls hl => ?_)
      have loop_186 : ∀ (k9 : Nat) (vv : Nat) (p1 : Nat → Int) (q1 : Nat → Nat) (g_188 : Nat → va_E) (fr_189 : ∀ k, (k ≠ 1 ∧ k ≠ 2 ∧ k ≠ 3) → g_188 k = g_184 k), 3 - vv < k9 → (vv ≤ 3) → (∀ f, f ≠ 200 + k1 → f ≠ 400 + k1 → f ≠ 600 + k1 → f ≠ 800 + k1 → f ≠ 1012 → f ≠ 1013 → f ≠ 1014 → f ≠ 1016 → p1 f = pf f ∧ q1 f = qf f) → (Eqv (p1 (200 + k1)) (q1 (200 + k1)) N9 (b9 * Q ^ (gd L k1).2.2.2.1)) → (∀ u, u < vv → ∃ D : Int, TVd L k1 D ∧ Eqv (p1 (400 + 200 * u + k1)) (q1 (400 + 200 * u + k1)) D (b9 * Q ^ (gd L k1).2.2.2.1)) → (RF ad cA g_188 x p1 q1) → ∀ (H : Heap) (locs : List Loc) (ls : Array Slot), va_P (dC, dI) vwCl (wo ad NSr g_188) H → va_S A s.heap H locs → lv_has ls 6 [(3, .int (iI ((pt 2) k1))), (2, .int (nI v1)), (0, .ref (ad 0)), (1, .int (nI k1)), (4, .int (nI vv))] → W p l e (headSpec wd_X10_reckonPart ({ frames := 90, cells := 0, slots := 0, locals := 1800 })).room s m ([.ref (ad 0), .int (nI k1)] : List Value).toArray below meth c H locs (0) (0) (MQ below (va_Qv (fun (u : (Nat → va_E) × (Nat → Int) × (Nat → Nat)) => match u with | (g2, pf2, qf2) => (∀ k, k ≠ 1 ∧ k ≠ 2 ∧ k ≠ 3 → g2 k = g k) ∧ RF ad cA g2 x pf2 qf2 ∧ TV L Q k1 pf2 qf2 ∧ (∀ f, f ≠ 200 + k1 → f ≠ 400 + k1 → f ≠ 600 + k1 → f ≠ 800 + k1 → f ≠ 1012 → f ≠ 1013 → f ≠ 1014 → f ≠ 1016 → pf2 f = pf f ∧ qf2 f = qf f)) (fun (u : (Nat → va_E) × (Nat → Int) × (Nat → Nat)) (t : State) => va_P (dC, dI) vwCl (wo ad NSr u.1) t.heap) A) ([.ref (ad 0), .int (nI k1)] : List Value).toArray s (0) (0) A) (F0 m 145 ls []) := by
        intro k9
        induction k9 with
        | zero => intro vv p1 q1 g_188 fr_189 h9; exact absurd h9 (Nat.not_lt_zero _)
        | succ k9 ih_187 =>
          intro vv p1 q1 g_188 fr_189 h9 hv3 hO hVe hDe hFL H locs ls hP hS hl
          refine lv_iload hx hb dX10_reckonPart_145 (lv_at hl 4 rfl) ?_
          refine lv_iconst (v := nI 3) hx hb dX10_reckonPart_147 (by decide +kernel) ?_
          refine lv_icmp_ge (tgt := 351) hx hb dX10_reckonPart_148 (by decide) (fun c_190 => ?_) (fun c_190 => ?_)
          · have c_190 := (nI_leI (a := 3) (b := vv) (by decide) (by omega)).mp c_190
            refine W.widen (k := 0) (n := 0) (by omega) (by omega) ?_
            exact W.vret hx hb hr (fun t9 ht9 hW9 => ⟨⟨(g_188, p1, q1), rfl, ⟨(fun (k : Nat) (hk : k ≠ 1 ∧ k ≠ 2 ∧ k ≠ 3) => (fr_189 k (by omega)).trans ((fr_185 k (by omega)).trans (rfl))), hFL, TV.of hTn hVe (fun v9 h9 => hDe v9 (by omega)), hO⟩, by show va_P (dC, dI) vwCl _ t9.heap; rw [ht9]; exact hP⟩, hS.F ht9⟩) hS.2.2 dX10_reckonPart_351
          · have c_190 := mt (nI_leI (a := 3) (b := vv) (by decide) (by omega)).mpr c_190
            refine lv_iload_n hx hb dX10_reckonPart_151 rfl (lv_at hl 3 rfl) ?_
            refine lv_iload hx hb dX10_reckonPart_152 (lv_at hl 4 rfl) ?_
            refine va_calli (va_runS (As := [.int (nI k1), .int (nI vv)]) (rest := []) ⟨hx, hb, hml, hown, hts⟩ (c_X10_derivativeCell l dC dI A ad cA g_188 k1 vv ) (va_cwS 2 hts (goodIn_app (goodIn_r [Cond.methodLink RX10 269 yX10_derivativeCell, Cond.static yX10_derivativeCell, Cond.initialized RX10] [8, 9, 7] rfl rfl) (goodIn_sub (fun w9 h9 => bk2 w9 h9) gw_X10_derivativeCell)) rfl rfl rfl (by decide +kernel) ⟨Nat.le_of_ble_eq_true rfl, Nat.le_of_ble_eq_true rfl⟩) ⟨fun a U g mk q => ⟨q.1, q.2.1, q.2.2.1, LY.moved (u := U) (U := U.calling g mk a) (Vm.Alike.refl U.vm) q.2.2.2⟩, fun U hU hW => ⟨rfl, by rw [hU]; exact fun q h => hA q (Nat.le_trans hS.1 h), by rw [hU]; exact hP, LY.moved hW.alike hL⟩⟩ rfl rfl hl.1 rfl (lv_room (Nat.le_of_ble_eq_true rfl)) dX10_reckonPart_154 ⟨(Nat.le_of_ble_eq_true rfl), (Nat.le_of_ble_eq_true rfl)⟩) hS (fun q _ h => h) (fun q h => h) (fun r_191 u8 t8 H1 locs ht8 hvm8 hw_192 hB hz1 hk1 hS => ?_)
            obtain ⟨⟩ := u8
            try dsimp only at hw_192 hB
            rw [ht8] at hB
            have hP := hB
            generalize H1 = H at hP hS ⊢
            obtain rfl := hw_192
            refine lv_istore (lv' := [(5, .int (nI (400 + 200 * vv + k1))), (3, .int (iI ((pt 2) k1))), (2, .int (nI v1)), (0, .ref (ad 0)), (1, .int (nI k1)), (4, .int (nI vv))]) hx hb dX10_reckonPart_157 hl (by decide) rfl (fun ls hl => ?_)
            refine lv_aload_n hx hb dX10_reckonPart_159 rfl (lv_at hl 3 rfl) ?_
            have f_193 : g_188 0 = .inr (13, Rob ad x) := (fr_189 0 (by omega)).trans ((fr_185 0 (by omega)).trans r_3)
            refine m_get (D := (dC, dI)) (v := .ref (ad 5)) (C := RX10) (T := TX10) (N := 29) hx hb hts bk0 hown hK hP 0 (by decide) f_193 rfl 7 (by decide) (hts (.fieldLink RX10 29 "GradientDeskModel" "sort" "[I") (List.mem_of_getElem? (i := 3) rfl)) (fun _ h9 => h9) rfl dX10_reckonPart_160 ?_
            refine lv_iload_n hx hb dX10_reckonPart_163 rfl (lv_at hl 4 rfl) ?_
            have f_194 : g_188 5 = .inl (cA 5, 201, .inl (fun j => iI ((pt 0) j))) := (fr_189 5 (by omega)).trans ((fr_185 5 (by omega)).trans p_10)
            refine m_iald hx hb hK hP 5 (by decide) rfl f_194 (i := k1) (by omega) (by decide) dX10_reckonPart_164 ?_
            have b_195 := (hpt_16 0) k1
            refine lv_iconst (v := nI 2) hx hb dX10_reckonPart_165 (by decide +kernel) ?_
            refine lv_icmp_ge (tgt := 200) hx hb dX10_reckonPart_166 (by decide) (fun c_196 => absurd ((k_iLE (a := 2) (b := (pt 0) k1) (show nI 2 = iI 2 from by decide) rfl (by omega) (by omega)).mp c_196) (by omega)) (fun c_196 => ?_)
            refine lv_aload_n hx hb dX10_reckonPart_169 rfl (lv_at hl 3 rfl) ?_
            refine lv_iload hx hb dX10_reckonPart_170 (lv_at hl 0 rfl) ?_
            refine lv_aload_n hx hb dX10_reckonPart_172 rfl (lv_at hl 3 rfl) ?_
            refine m_get (D := (dC, dI)) (v := .ref (ad 5)) (C := RX10) (T := TX10) (N := 29) hx hb hts bk0 hown hK hP 0 (by decide) f_193 rfl 7 (by decide) (hts (.fieldLink RX10 29 "GradientDeskModel" "sort" "[I") (List.mem_of_getElem? (i := 3) rfl)) (fun _ h9 => h9) rfl dX10_reckonPart_173 ?_
            refine lv_iload_n hx hb dX10_reckonPart_176 rfl (lv_at hl 4 rfl) ?_
            refine m_iald hx hb hK hP 5 (by decide) rfl f_194 (i := k1) (by omega) (by decide) dX10_reckonPart_177 ?_
            have b_197 := (hpt_16 0) k1
            refine lv_iconst (v := nI 1) hx hb dX10_reckonPart_178 (by decide +kernel) ?_
            refine lv_icmp_ne (tgt := 192) hx hb dX10_reckonPart_179 (by decide) (fun c_198 => absurd (mt (k_iEQ (a := (pt 0) k1) (b := 1) rfl (show nI 1 = iI 1 from by decide) (by omega) (by omega)).mpr c_198) (by omega)) (fun c_198 => ?_)
            refine lv_iload_n hx hb dX10_reckonPart_182 rfl (lv_at hl 2 rfl) ?_
            refine lv_iload hx hb dX10_reckonPart_183 (lv_at hl 5 rfl) ?_
            refine lv_icmp_ne (tgt := 192) hx hb dX10_reckonPart_185 (by decide) (fun c_199 => ?_) (fun c_199 => ?_)
            · have c_199 := mt (nI_eq (a := v1) (b := vv) (by omega) (by omega)).mpr c_199
              refine lv_lconst (v := lN 0) hx hb dX10_reckonPart_192 (by decide +kernel) ?_
              refine lv_lconst (v := lN 1) hx hb dX10_reckonPart_193 (by decide +kernel) ?_
              refine va_callv (va_runV (As := [.int (nI (400 + 200 * vv + k1)), .long (lN 0), .long (lN 1)]) (rest := []) ⟨hx, hb, hml, hown, hts⟩ (c_X10_setFraction l dC dI A ad cA g_188 x p1 q1 (400 + 200 * vv + k1) (lN 0) (lN 1) 0 1 hFL (by omega) (by decide) (by decide) (by decide) (by decide) (by decide)) (cwV 3 hts (goodIn_app (goodIn_r [Cond.methodLink RX10 139 yX10_setFraction, Cond.instanceMethod yX10_setFraction, Cond.selects RX10 yX10_setFraction yX10_setFraction, Cond.initialized RX10] [10, 11, 12, 7] rfl rfl) (goodIn_sub (fun w9 h9 => bk3 w9 h9) gw_X10_setFraction)) rfl rfl rfl (by decide +kernel) ⟨Nat.le_of_ble_eq_true rfl, Nat.le_of_ble_eq_true rfl⟩) ⟨fun a U g mk q => ⟨q.1, q.2.1, q.2.2.1, LY.moved (u := U) (U := U.calling g mk a) (Vm.Alike.refl U.vm) q.2.2.2⟩, va_recv hK hP (ci := 13) (q0 := 0) rfl (wo_at (by decide) f_193), fun U hU hW => ⟨rfl, by rw [hU]; exact fun q h => hA q (Nat.le_trans hS.1 h), by rw [hU]; exact hP, LY.moved hW.alike hL⟩⟩ rfl rfl hl.1 rfl (lv_room (Nat.le_of_ble_eq_true rfl)) dX10_reckonPart_194 ⟨(Nat.le_of_ble_eq_true rfl), (Nat.le_of_ble_eq_true rfl)⟩) hS (fun q _ h => h) (fun q h => h) (fun u8 t8 H1 locs ht8 hvm8 hw_200 hB hz1 hk1 hS => ?_)
              obtain ⟨g_201, rfl⟩ : ∃ z, z = u8 := ⟨_, rfl⟩
              try dsimp only at hw_200 hB
              rw [ht8] at hB
              have hP := hB
              generalize H1 = H at hP hS ⊢
              obtain ⟨fr_202, hFs⟩ := hw_200
              rw [(rdp_1 0).1, (rdp_1 0).2] at hFs
              have fX : ∀ f, f ≠ 400 + 200 * vv + k1 → f ≠ 1012 → f ≠ 1013 → f ≠ 1014 → f ≠ 1016 → (va_up p1 (400 + 200 * vv + k1) 0) f = p1 f ∧ (va_up q1 (400 + 200 * vv + k1) 1) f = q1 f := fun f h1 _ _ _ _ => ⟨va_up_ne _ _ h1, va_up_ne _ _ h1⟩
              have fD : ∀ u, u < vv + 1 → ∃ D : Int, TVd L k1 D ∧ Eqv ((va_up p1 (400 + 200 * vv + k1) 0) (400 + 200 * u + k1)) ((va_up q1 (400 + 200 * vv + k1) 1) (400 + 200 * u + k1)) D (b9 * Q ^ (gd L k1).2.2.2.1) := fun u hu => by by_cases h9 : u = vv; subst h9; exact ⟨0, TVd.zero, by rw [va_up_self, va_up_self]; exact Eqv.zero⟩; obtain ⟨D8, d81, d82⟩ := hDe u (by omega); exact ⟨D8, d81, by rw [(fX _ (by omega) (by omega) (by omega) (by omega) (by omega)).1, (fX _ (by omega) (by omega) (by omega) (by omega) (by omega)).2]; exact d82⟩
              have fV : Eqv ((va_up p1 (400 + 200 * vv + k1) 0) (200 + k1)) ((va_up q1 (400 + 200 * vv + k1) 1) (200 + k1)) N9 (b9 * Q ^ (gd L k1).2.2.2.1) := by rw [(fX _ (by omega) (by omega) (by omega) (by omega) (by omega)).1, (fX _ (by omega) (by omega) (by omega) (by omega) (by omega)).2]; exact hVe
              have fO : ∀ f, f ≠ 200 + k1 → f ≠ 400 + k1 → f ≠ 600 + k1 → f ≠ 800 + k1 → f ≠ 1012 → f ≠ 1013 → f ≠ 1014 → f ≠ 1016 → (va_up p1 (400 + 200 * vv + k1) 0) f = pf f ∧ (va_up q1 (400 + 200 * vv + k1) 1) f = qf f := fun f h1 h2 h3 h4 h5 h6 h7 h8 => ⟨(fX f (by omega) h5 h6 h7 h8).1.trans (hO f h1 h2 h3 h4 h5 h6 h7 h8).1, (fX f (by omega) h5 h6 h7 h8).2.trans (hO f h1 h2 h3 h4 h5 h6 h7 h8).2⟩
              refine lv_goto (tgt := 345) hx hb dX10_reckonPart_197 (by decide) ?_
              refine lv_iinc (v := nI (vv + 1)) (lv' := [(4, .int (nI (vv + 1))), (5, .int (nI (400 + 200 * vv + k1))), (3, .int (iI ((pt 2) k1))), (2, .int (nI v1)), (0, .ref (ad 0)), (1, .int (nI k1))]) hx hb dX10_reckonPart_345 hl (k := 5) rfl (nI_add vv 1) (by decide) rfl (fun ls hl => ?_)
              refine lv_goto (tgt := 145) hx hb dX10_reckonPart_348 (by decide) ?_
              exact ih_187 (vv + 1) (va_up p1 (400 + 200 * vv + k1) 0) (va_up q1 (400 + 200 * vv + k1) 1) g_201 (fun (k : Nat) (hk : k ≠ 1 ∧ k ≠ 2 ∧ k ≠ 3) => (fr_202 k (by omega)).trans ((fr_189 k (by omega)).trans (rfl))) (by omega) (by omega) fO fV fD hFs _ _ _ hP hS (lv_sub (l' := [(3, .int (iI ((pt 2) k1))), (2, .int (nI v1)), (0, .ref (ad 0)), (1, .int (nI k1)), (4, .int (nI (vv + 1)))]) hl [2, 3, 4, 5, 0] rfl)
            · have c_199 := (nI_eq (a := v1) (b := vv) (by omega) (by omega)).mp c_199
              refine lv_lconst (v := lN 1) hx hb dX10_reckonPart_188 (by decide +kernel) ?_
              refine lv_goto (tgt := 193) hx hb dX10_reckonPart_189 (by decide) ?_
              refine lv_lconst (v := lN 1) hx hb dX10_reckonPart_193 (by decide +kernel) ?_
              refine va_callv (va_runV (As := [.int (nI (400 + 200 * vv + k1)), .long (lN 1), .long (lN 1)]) (rest := []) ⟨hx, hb, hml, hown, hts⟩ (c_X10_setFraction l dC dI A ad cA g_188 x p1 q1 (400 + 200 * vv + k1) (lN 1) (lN 1) 1 1 hFL (by omega) (by decide) (by decide) (by decide) (by decide) (by decide)) (cwV 3 hts (goodIn_app (goodIn_r [Cond.methodLink RX10 139 yX10_setFraction, Cond.instanceMethod yX10_setFraction, Cond.selects RX10 yX10_setFraction yX10_setFraction, Cond.initialized RX10] [10, 11, 12, 7] rfl rfl) (goodIn_sub (fun w9 h9 => bk3 w9 h9) gw_X10_setFraction)) rfl rfl rfl (by decide +kernel) ⟨Nat.le_of_ble_eq_true rfl, Nat.le_of_ble_eq_true rfl⟩) ⟨fun a U g mk q => ⟨q.1, q.2.1, q.2.2.1, LY.moved (u := U) (U := U.calling g mk a) (Vm.Alike.refl U.vm) q.2.2.2⟩, va_recv hK hP (ci := 13) (q0 := 0) rfl (wo_at (by decide) f_193), fun U hU hW => ⟨rfl, by rw [hU]; exact fun q h => hA q (Nat.le_trans hS.1 h), by rw [hU]; exact hP, LY.moved hW.alike hL⟩⟩ rfl rfl hl.1 rfl (lv_room (Nat.le_of_ble_eq_true rfl)) dX10_reckonPart_194 ⟨(Nat.le_of_ble_eq_true rfl), (Nat.le_of_ble_eq_true rfl)⟩) hS (fun q _ h => h) (fun q h => h) (fun u8 t8 H1 locs ht8 hvm8 hw_205 hB hz1 hk1 hS => ?_)
              obtain ⟨g_206, rfl⟩ : ∃ z, z = u8 := ⟨_, rfl⟩
              try dsimp only at hw_205 hB
              rw [ht8] at hB
              have hP := hB
              generalize H1 = H at hP hS ⊢
              obtain ⟨fr_207, hFs⟩ := hw_205
              rw [(rdp_1 1).1, (rdp_1 1).2] at hFs
              have fX : ∀ f, f ≠ 400 + 200 * vv + k1 → f ≠ 1012 → f ≠ 1013 → f ≠ 1014 → f ≠ 1016 → (va_up p1 (400 + 200 * vv + k1) 1) f = p1 f ∧ (va_up q1 (400 + 200 * vv + k1) 1) f = q1 f := fun f h1 _ _ _ _ => ⟨va_up_ne _ _ h1, va_up_ne _ _ h1⟩
              have fD : ∀ u, u < vv + 1 → ∃ D : Int, TVd L k1 D ∧ Eqv ((va_up p1 (400 + 200 * vv + k1) 1) (400 + 200 * u + k1)) ((va_up q1 (400 + 200 * vv + k1) 1) (400 + 200 * u + k1)) D (b9 * Q ^ (gd L k1).2.2.2.1) := fun u hu => by by_cases h9 : u = vv; subst h9; exact ⟨(Q : Int), TVd.one hQb.2 d1, by rw [va_up_self, va_up_self, d1, hb9]; exact Eqv.one⟩; obtain ⟨D8, d81, d82⟩ := hDe u (by omega); exact ⟨D8, d81, by rw [(fX _ (by omega) (by omega) (by omega) (by omega) (by omega)).1, (fX _ (by omega) (by omega) (by omega) (by omega) (by omega)).2]; exact d82⟩
              have fV : Eqv ((va_up p1 (400 + 200 * vv + k1) 1) (200 + k1)) ((va_up q1 (400 + 200 * vv + k1) 1) (200 + k1)) N9 (b9 * Q ^ (gd L k1).2.2.2.1) := by rw [(fX _ (by omega) (by omega) (by omega) (by omega) (by omega)).1, (fX _ (by omega) (by omega) (by omega) (by omega) (by omega)).2]; exact hVe
              have fO : ∀ f, f ≠ 200 + k1 → f ≠ 400 + k1 → f ≠ 600 + k1 → f ≠ 800 + k1 → f ≠ 1012 → f ≠ 1013 → f ≠ 1014 → f ≠ 1016 → (va_up p1 (400 + 200 * vv + k1) 1) f = pf f ∧ (va_up q1 (400 + 200 * vv + k1) 1) f = qf f := fun f h1 h2 h3 h4 h5 h6 h7 h8 => ⟨(fX f (by omega) h5 h6 h7 h8).1.trans (hO f h1 h2 h3 h4 h5 h6 h7 h8).1, (fX f (by omega) h5 h6 h7 h8).2.trans (hO f h1 h2 h3 h4 h5 h6 h7 h8).2⟩
              refine lv_goto (tgt := 345) hx hb dX10_reckonPart_197 (by decide) ?_
              refine lv_iinc (v := nI (vv + 1)) (lv' := [(4, .int (nI (vv + 1))), (5, .int (nI (400 + 200 * vv + k1))), (3, .int (iI ((pt 2) k1))), (2, .int (nI v1)), (0, .ref (ad 0)), (1, .int (nI k1))]) hx hb dX10_reckonPart_345 hl (k := 5) rfl (nI_add vv 1) (by decide) rfl (fun ls hl => ?_)
              refine lv_goto (tgt := 145) hx hb dX10_reckonPart_348 (by decide) ?_
              exact ih_187 (vv + 1) (va_up p1 (400 + 200 * vv + k1) 1) (va_up q1 (400 + 200 * vv + k1) 1) g_206 (fun (k : Nat) (hk : k ≠ 1 ∧ k ≠ 2 ∧ k ≠ 3) => (fr_207 k (by omega)).trans ((fr_189 k (by omega)).trans (rfl))) (by omega) (by omega) fO fV fD hFs _ _ _ hP hS (lv_sub (l' := [(3, .int (iI ((pt 2) k1))), (2, .int (nI v1)), (0, .ref (ad 0)), (1, .int (nI k1)), (4, .int (nI (vv + 1)))]) hl [2, 3, 4, 5, 0] rfl)
      exact loop_186 _ 0 (va_up pf (200 + k1) (pf (1008 + v1))) (va_up qf (200 + k1) (qf (1008 + v1))) g_184 (fun (k : Nat) (hk : k ≠ 1 ∧ k ≠ 2 ∧ k ≠ 3) => rfl) (Nat.lt_succ_self _) (by decide) hfr hTe (fun u hu => absurd hu (by omega)) hF1 _ _ _ hP hS (lv_sub (l' := [(3, .int (iI ((pt 2) k1))), (2, .int (nI v1)), (0, .ref (ad 0)), (1, .int (nI k1)), (4, .int (nI 0))]) hl [1, 2, 3, 4, 0] rfl)
  · have c_20 := (k_iEQ (a := (pt 0) k1) (b := 0) rfl (show nI 0 = iI 0 from by decide) (by omega) (by omega)).mp c_20
    refine lv_aload_n hx hb dX10_reckonPart_23 rfl (lv_at hl 2 rfl) ?_
    refine lv_sipush (v := nI 200) hx hb dX10_reckonPart_24 (by decide +kernel) ?_
    refine lv_iload_n hx hb dX10_reckonPart_27 rfl (lv_at hl 3 rfl) ?_
    refine lv_iadd hx hb dX10_reckonPart_28 ?_
    refine lv_topi (fun x_210 e_211 => ?_)
    obtain rfl : x_210 = nI (200 + k1) := e_211.trans (nI_add 200 k1)
    refine lv_iload_n hx hb dX10_reckonPart_29 rfl (lv_at hl 3 rfl) ?_
    have s0 : (gd L k1).1 = 0 := by omega
    obtain ⟨n1, n2⟩ := m6 s0
    obtain ⟨d0, -⟩ := w7 s0
    refine va_callv (va_runV (As := [.int (nI (200 + k1)), .int (nI k1)]) (rest := []) ⟨hx, hb, hml, hown, hts⟩ (c_X10_copyFraction l dC dI A ad cA g x pf qf (200 + k1) k1 hF0 (by omega) (by omega)) (cwV 2 hts (goodIn_app (goodIn_r [Cond.methodLink RX10 136 yX10_copyFraction, Cond.instanceMethod yX10_copyFraction, Cond.selects RX10 yX10_copyFraction yX10_copyFraction, Cond.initialized RX10] [19, 20, 21, 7] rfl rfl) (goodIn_sub (fun w9 h9 => bk6 w9 h9) gw_X10_copyFraction)) rfl rfl rfl (by decide +kernel) ⟨Nat.le_of_ble_eq_true rfl, Nat.le_of_ble_eq_true rfl⟩) ⟨fun a U g mk q => ⟨q.1, q.2.1, q.2.2.1, LY.moved (u := U) (U := U.calling g mk a) (Vm.Alike.refl U.vm) q.2.2.2⟩, va_recv hK hP (ci := 13) (q0 := 0) rfl (wo_at (by decide) r_3), fun U hU hW => ⟨rfl, by rw [hU]; exact fun q h => hA q (Nat.le_trans hS.1 h), by rw [hU]; exact hP, LY.moved hW.alike hL⟩⟩ rfl rfl hl.1 rfl (lv_room (Nat.le_of_ble_eq_true rfl)) dX10_reckonPart_30 ⟨(Nat.le_of_ble_eq_true rfl), (Nat.le_of_ble_eq_true rfl)⟩) hS (fun q _ h => h) (fun q h => h) (fun u8 t8 H1 locs ht8 hvm8 hw_212 hB hz1 hk1 hS => ?_)
    obtain ⟨g_213, rfl⟩ : ∃ z, z = u8 := ⟨_, rfl⟩
    try dsimp only at hw_212 hB
    rw [ht8] at hB
    have hP := hB
    generalize H1 = H at hP hS ⊢
    obtain ⟨fr_214, hF1⟩ := hw_212
    obtain ⟨N9, hN9⟩ : ∃ z9, z9 = (gd L k1).2.2.2.2.2.2.1 := ⟨_, rfl⟩
    obtain ⟨b9, hb9⟩ : ∃ z9, z9 = (gd L k1).2.2.2.2.2.2.2 := ⟨_, rfl⟩
    have hTn : TVn L Q k1 N9 b9 := by rw [hN9, hb9]; exact TVn.num hW ik s0
    have hTe : Eqv ((va_up pf (200 + k1) (pf k1)) (200 + k1)) ((va_up qf (200 + k1) (qf k1)) (200 + k1)) N9 (b9 * Q ^ (gd L k1).2.2.2.1) := by rw [hN9, hb9]; rw [d0, va_up_self, va_up_self]; exact Eqv.num n1 n2 rfl
    have M9 := k_M hQb ⟨hTn.1, hTn.2.1⟩ w5 w2
    have hfr : ∀ f, f ≠ 200 + k1 → f ≠ 400 + k1 → f ≠ 600 + k1 → f ≠ 800 + k1 → f ≠ 1012 → f ≠ 1013 → f ≠ 1014 → f ≠ 1016 → (va_up pf (200 + k1) (pf k1)) f = pf f ∧ (va_up qf (200 + k1) (qf k1)) f = qf f := fun f h1 _ _ _ _ _ _ _ => ⟨va_up_ne _ _ h1, va_up_ne _ _ h1⟩
    refine lv_goto (tgt := 142) hx hb dX10_reckonPart_33 (by decide) ?_
    refine lv_iconst (v := nI 0) hx hb dX10_reckonPart_142 (by decide +kernel) ?_
    refine lv_istore (lv' := [(4, .int (nI 0)), (3, .int (iI ((pt 2) k1))), (2, .int (iI ((pt 1) k1))), (0, .ref (ad 0)), (1, .int (nI k1))]) hx hb dX10_reckonPart_143 hl (by decide) rfl (fun ls hl => ?_)
    have loop_215 : ∀ (k9 : Nat) (vv : Nat) (p1 : Nat → Int) (q1 : Nat → Nat) (g_217 : Nat → va_E) (fr_218 : ∀ k, (k ≠ 1 ∧ k ≠ 2 ∧ k ≠ 3) → g_217 k = g_213 k), 3 - vv < k9 → (vv ≤ 3) → (∀ f, f ≠ 200 + k1 → f ≠ 400 + k1 → f ≠ 600 + k1 → f ≠ 800 + k1 → f ≠ 1012 → f ≠ 1013 → f ≠ 1014 → f ≠ 1016 → p1 f = pf f ∧ q1 f = qf f) → (Eqv (p1 (200 + k1)) (q1 (200 + k1)) N9 (b9 * Q ^ (gd L k1).2.2.2.1)) → (∀ u, u < vv → ∃ D : Int, TVd L k1 D ∧ Eqv (p1 (400 + 200 * u + k1)) (q1 (400 + 200 * u + k1)) D (b9 * Q ^ (gd L k1).2.2.2.1)) → (RF ad cA g_217 x p1 q1) → ∀ (H : Heap) (locs : List Loc) (ls : Array Slot), va_P (dC, dI) vwCl (wo ad NSr g_217) H → va_S A s.heap H locs → lv_has ls 6 [(3, .int (iI ((pt 2) k1))), (2, .int (iI ((pt 1) k1))), (0, .ref (ad 0)), (1, .int (nI k1)), (4, .int (nI vv))] → W p l e (headSpec wd_X10_reckonPart ({ frames := 90, cells := 0, slots := 0, locals := 1800 })).room s m ([.ref (ad 0), .int (nI k1)] : List Value).toArray below meth c H locs (0) (0) (MQ below (va_Qv (fun (u : (Nat → va_E) × (Nat → Int) × (Nat → Nat)) => match u with | (g2, pf2, qf2) => (∀ k, k ≠ 1 ∧ k ≠ 2 ∧ k ≠ 3 → g2 k = g k) ∧ RF ad cA g2 x pf2 qf2 ∧ TV L Q k1 pf2 qf2 ∧ (∀ f, f ≠ 200 + k1 → f ≠ 400 + k1 → f ≠ 600 + k1 → f ≠ 800 + k1 → f ≠ 1012 → f ≠ 1013 → f ≠ 1014 → f ≠ 1016 → pf2 f = pf f ∧ qf2 f = qf f)) (fun (u : (Nat → va_E) × (Nat → Int) × (Nat → Nat)) (t : State) => va_P (dC, dI) vwCl (wo ad NSr u.1) t.heap) A) ([.ref (ad 0), .int (nI k1)] : List Value).toArray s (0) (0) A) (F0 m 145 ls []) := by
      intro k9
      induction k9 with
      | zero => intro vv p1 q1 g_217 fr_218 h9; exact absurd h9 (Nat.not_lt_zero _)
      | succ k9 ih_216 =>
        intro vv p1 q1 g_217 fr_218 h9 hv3 hO hVe hDe hFL H locs ls hP hS hl
        refine lv_iload hx hb dX10_reckonPart_145 (lv_at hl 4 rfl) ?_
        refine lv_iconst (v := nI 3) hx hb dX10_reckonPart_147 (by decide +kernel) ?_
        refine lv_icmp_ge (tgt := 351) hx hb dX10_reckonPart_148 (by decide) (fun c_219 => ?_) (fun c_219 => ?_)
        · have c_219 := (nI_leI (a := 3) (b := vv) (by decide) (by omega)).mp c_219
          refine W.widen (k := 0) (n := 0) (by omega) (by omega) ?_
          exact W.vret hx hb hr (fun t9 ht9 hW9 => ⟨⟨(g_217, p1, q1), rfl, ⟨(fun (k : Nat) (hk : k ≠ 1 ∧ k ≠ 2 ∧ k ≠ 3) => (fr_218 k (by omega)).trans ((fr_214 k (by omega)).trans (rfl))), hFL, TV.of hTn hVe (fun v9 h9 => hDe v9 (by omega)), hO⟩, by show va_P (dC, dI) vwCl _ t9.heap; rw [ht9]; exact hP⟩, hS.F ht9⟩) hS.2.2 dX10_reckonPart_351
        · have c_219 := mt (nI_leI (a := 3) (b := vv) (by decide) (by omega)).mpr c_219
          refine lv_iload_n hx hb dX10_reckonPart_151 rfl (lv_at hl 3 rfl) ?_
          refine lv_iload hx hb dX10_reckonPart_152 (lv_at hl 4 rfl) ?_
          refine va_calli (va_runS (As := [.int (nI k1), .int (nI vv)]) (rest := []) ⟨hx, hb, hml, hown, hts⟩ (c_X10_derivativeCell l dC dI A ad cA g_217 k1 vv ) (va_cwS 2 hts (goodIn_app (goodIn_r [Cond.methodLink RX10 269 yX10_derivativeCell, Cond.static yX10_derivativeCell, Cond.initialized RX10] [8, 9, 7] rfl rfl) (goodIn_sub (fun w9 h9 => bk2 w9 h9) gw_X10_derivativeCell)) rfl rfl rfl (by decide +kernel) ⟨Nat.le_of_ble_eq_true rfl, Nat.le_of_ble_eq_true rfl⟩) ⟨fun a U g mk q => ⟨q.1, q.2.1, q.2.2.1, LY.moved (u := U) (U := U.calling g mk a) (Vm.Alike.refl U.vm) q.2.2.2⟩, fun U hU hW => ⟨rfl, by rw [hU]; exact fun q h => hA q (Nat.le_trans hS.1 h), by rw [hU]; exact hP, LY.moved hW.alike hL⟩⟩ rfl rfl hl.1 rfl (lv_room (Nat.le_of_ble_eq_true rfl)) dX10_reckonPart_154 ⟨(Nat.le_of_ble_eq_true rfl), (Nat.le_of_ble_eq_true rfl)⟩) hS (fun q _ h => h) (fun q h => h) (fun r_220 u8 t8 H1 locs ht8 hvm8 hw_221 hB hz1 hk1 hS => ?_)
          obtain ⟨⟩ := u8
          try dsimp only at hw_221 hB
          rw [ht8] at hB
          have hP := hB
          generalize H1 = H at hP hS ⊢
          obtain rfl := hw_221
          refine lv_istore (lv' := [(5, .int (nI (400 + 200 * vv + k1))), (3, .int (iI ((pt 2) k1))), (2, .int (iI ((pt 1) k1))), (0, .ref (ad 0)), (1, .int (nI k1)), (4, .int (nI vv))]) hx hb dX10_reckonPart_157 hl (by decide) rfl (fun ls hl => ?_)
          refine lv_aload_n hx hb dX10_reckonPart_159 rfl (lv_at hl 3 rfl) ?_
          have f_222 : g_217 0 = .inr (13, Rob ad x) := (fr_218 0 (by omega)).trans ((fr_214 0 (by omega)).trans r_3)
          refine m_get (D := (dC, dI)) (v := .ref (ad 5)) (C := RX10) (T := TX10) (N := 29) hx hb hts bk0 hown hK hP 0 (by decide) f_222 rfl 7 (by decide) (hts (.fieldLink RX10 29 "GradientDeskModel" "sort" "[I") (List.mem_of_getElem? (i := 3) rfl)) (fun _ h9 => h9) rfl dX10_reckonPart_160 ?_
          refine lv_iload_n hx hb dX10_reckonPart_163 rfl (lv_at hl 4 rfl) ?_
          have f_223 : g_217 5 = .inl (cA 5, 201, .inl (fun j => iI ((pt 0) j))) := (fr_218 5 (by omega)).trans ((fr_214 5 (by omega)).trans p_10)
          refine m_iald hx hb hK hP 5 (by decide) rfl f_223 (i := k1) (by omega) (by decide) dX10_reckonPart_164 ?_
          have b_224 := (hpt_16 0) k1
          refine lv_iconst (v := nI 2) hx hb dX10_reckonPart_165 (by decide +kernel) ?_
          refine lv_icmp_ge (tgt := 200) hx hb dX10_reckonPart_166 (by decide) (fun c_225 => absurd ((k_iLE (a := 2) (b := (pt 0) k1) (show nI 2 = iI 2 from by decide) rfl (by omega) (by omega)).mp c_225) (by omega)) (fun c_225 => ?_)
          refine lv_aload_n hx hb dX10_reckonPart_169 rfl (lv_at hl 3 rfl) ?_
          refine lv_iload hx hb dX10_reckonPart_170 (lv_at hl 0 rfl) ?_
          refine lv_aload_n hx hb dX10_reckonPart_172 rfl (lv_at hl 3 rfl) ?_
          refine m_get (D := (dC, dI)) (v := .ref (ad 5)) (C := RX10) (T := TX10) (N := 29) hx hb hts bk0 hown hK hP 0 (by decide) f_222 rfl 7 (by decide) (hts (.fieldLink RX10 29 "GradientDeskModel" "sort" "[I") (List.mem_of_getElem? (i := 3) rfl)) (fun _ h9 => h9) rfl dX10_reckonPart_173 ?_
          refine lv_iload_n hx hb dX10_reckonPart_176 rfl (lv_at hl 4 rfl) ?_
          refine m_iald hx hb hK hP 5 (by decide) rfl f_223 (i := k1) (by omega) (by decide) dX10_reckonPart_177 ?_
          have b_226 := (hpt_16 0) k1
          refine lv_iconst (v := nI 1) hx hb dX10_reckonPart_178 (by decide +kernel) ?_
          refine lv_icmp_ne (tgt := 192) hx hb dX10_reckonPart_179 (by decide) (fun c_227 => ?_) (fun c_227 => absurd ((k_iEQ (a := (pt 0) k1) (b := 1) rfl (show nI 1 = iI 1 from by decide) (by omega) (by omega)).mp c_227) (by omega))
          refine lv_lconst (v := lN 0) hx hb dX10_reckonPart_192 (by decide +kernel) ?_
          refine lv_lconst (v := lN 1) hx hb dX10_reckonPart_193 (by decide +kernel) ?_
          refine va_callv (va_runV (As := [.int (nI (400 + 200 * vv + k1)), .long (lN 0), .long (lN 1)]) (rest := []) ⟨hx, hb, hml, hown, hts⟩ (c_X10_setFraction l dC dI A ad cA g_217 x p1 q1 (400 + 200 * vv + k1) (lN 0) (lN 1) 0 1 hFL (by omega) (by decide) (by decide) (by decide) (by decide) (by decide)) (cwV 3 hts (goodIn_app (goodIn_r [Cond.methodLink RX10 139 yX10_setFraction, Cond.instanceMethod yX10_setFraction, Cond.selects RX10 yX10_setFraction yX10_setFraction, Cond.initialized RX10] [10, 11, 12, 7] rfl rfl) (goodIn_sub (fun w9 h9 => bk3 w9 h9) gw_X10_setFraction)) rfl rfl rfl (by decide +kernel) ⟨Nat.le_of_ble_eq_true rfl, Nat.le_of_ble_eq_true rfl⟩) ⟨fun a U g mk q => ⟨q.1, q.2.1, q.2.2.1, LY.moved (u := U) (U := U.calling g mk a) (Vm.Alike.refl U.vm) q.2.2.2⟩, va_recv hK hP (ci := 13) (q0 := 0) rfl (wo_at (by decide) f_222), fun U hU hW => ⟨rfl, by rw [hU]; exact fun q h => hA q (Nat.le_trans hS.1 h), by rw [hU]; exact hP, LY.moved hW.alike hL⟩⟩ rfl rfl hl.1 rfl (lv_room (Nat.le_of_ble_eq_true rfl)) dX10_reckonPart_194 ⟨(Nat.le_of_ble_eq_true rfl), (Nat.le_of_ble_eq_true rfl)⟩) hS (fun q _ h => h) (fun q h => h) (fun u8 t8 H1 locs ht8 hvm8 hw_228 hB hz1 hk1 hS => ?_)
          obtain ⟨g_229, rfl⟩ : ∃ z, z = u8 := ⟨_, rfl⟩
          try dsimp only at hw_228 hB
          rw [ht8] at hB
          have hP := hB
          generalize H1 = H at hP hS ⊢
          obtain ⟨fr_230, hFs⟩ := hw_228
          rw [(rdp_1 0).1, (rdp_1 0).2] at hFs
          have fX : ∀ f, f ≠ 400 + 200 * vv + k1 → f ≠ 1012 → f ≠ 1013 → f ≠ 1014 → f ≠ 1016 → (va_up p1 (400 + 200 * vv + k1) 0) f = p1 f ∧ (va_up q1 (400 + 200 * vv + k1) 1) f = q1 f := fun f h1 _ _ _ _ => ⟨va_up_ne _ _ h1, va_up_ne _ _ h1⟩
          have fD : ∀ u, u < vv + 1 → ∃ D : Int, TVd L k1 D ∧ Eqv ((va_up p1 (400 + 200 * vv + k1) 0) (400 + 200 * u + k1)) ((va_up q1 (400 + 200 * vv + k1) 1) (400 + 200 * u + k1)) D (b9 * Q ^ (gd L k1).2.2.2.1) := fun u hu => by by_cases h9 : u = vv; subst h9; exact ⟨0, TVd.zero, by rw [va_up_self, va_up_self]; exact Eqv.zero⟩; obtain ⟨D8, d81, d82⟩ := hDe u (by omega); exact ⟨D8, d81, by rw [(fX _ (by omega) (by omega) (by omega) (by omega) (by omega)).1, (fX _ (by omega) (by omega) (by omega) (by omega) (by omega)).2]; exact d82⟩
          have fV : Eqv ((va_up p1 (400 + 200 * vv + k1) 0) (200 + k1)) ((va_up q1 (400 + 200 * vv + k1) 1) (200 + k1)) N9 (b9 * Q ^ (gd L k1).2.2.2.1) := by rw [(fX _ (by omega) (by omega) (by omega) (by omega) (by omega)).1, (fX _ (by omega) (by omega) (by omega) (by omega) (by omega)).2]; exact hVe
          have fO : ∀ f, f ≠ 200 + k1 → f ≠ 400 + k1 → f ≠ 600 + k1 → f ≠ 800 + k1 → f ≠ 1012 → f ≠ 1013 → f ≠ 1014 → f ≠ 1016 → (va_up p1 (400 + 200 * vv + k1) 0) f = pf f ∧ (va_up q1 (400 + 200 * vv + k1) 1) f = qf f := fun f h1 h2 h3 h4 h5 h6 h7 h8 => ⟨(fX f (by omega) h5 h6 h7 h8).1.trans (hO f h1 h2 h3 h4 h5 h6 h7 h8).1, (fX f (by omega) h5 h6 h7 h8).2.trans (hO f h1 h2 h3 h4 h5 h6 h7 h8).2⟩
          refine lv_goto (tgt := 345) hx hb dX10_reckonPart_197 (by decide) ?_
          refine lv_iinc (v := nI (vv + 1)) (lv' := [(4, .int (nI (vv + 1))), (5, .int (nI (400 + 200 * vv + k1))), (3, .int (iI ((pt 2) k1))), (2, .int (iI ((pt 1) k1))), (0, .ref (ad 0)), (1, .int (nI k1))]) hx hb dX10_reckonPart_345 hl (k := 5) rfl (nI_add vv 1) (by decide) rfl (fun ls hl => ?_)
          refine lv_goto (tgt := 145) hx hb dX10_reckonPart_348 (by decide) ?_
          exact ih_216 (vv + 1) (va_up p1 (400 + 200 * vv + k1) 0) (va_up q1 (400 + 200 * vv + k1) 1) g_229 (fun (k : Nat) (hk : k ≠ 1 ∧ k ≠ 2 ∧ k ≠ 3) => (fr_230 k (by omega)).trans ((fr_218 k (by omega)).trans (rfl))) (by omega) (by omega) fO fV fD hFs _ _ _ hP hS (lv_sub (l' := [(3, .int (iI ((pt 2) k1))), (2, .int (iI ((pt 1) k1))), (0, .ref (ad 0)), (1, .int (nI k1)), (4, .int (nI (vv + 1)))]) hl [2, 3, 4, 5, 0] rfl)
    exact loop_215 _ 0 (va_up pf (200 + k1) (pf k1)) (va_up qf (200 + k1) (qf k1)) g_213 (fun (k : Nat) (hk : k ≠ 1 ∧ k ≠ 2 ∧ k ≠ 3) => rfl) (Nat.lt_succ_self _) (by decide) hfr hTe (fun u hu => absurd hu (by omega)) hF1 _ _ _ hP hS (lv_sub (l' := [(3, .int (iI ((pt 2) k1))), (2, .int (iI ((pt 1) k1))), (0, .ref (ad 0)), (1, .int (nI k1)), (4, .int (nI 0))]) hl [1, 2, 3, 4, 0] rfl)
end
section
/-! the whole of the reference between calls -/
def VO (cA : Nat → ClassId) (g : Nat → va_E) : Prop := (∃ rc : Nat → Nat, g 12 = .inl (cA 12, 200, .inl (fun j => nI (rc j))) ∧ ∀ j, rc j < 2) ∧ (∃ f : Nat → Int, g 13 = .inl (cA 13, 200, .inl (fun j => iI (f j)))) ∧ (∃ f : Nat → Int, g 14 = .inl (cA 14, 80, .inl (fun j => iI (f j)))) ∧ (∃ f : Nat → Int, g 15 = .inl (cA 15, 160, .inl (fun j => iI (f j)))) ∧ (∃ f : Nat → Int, g 16 = .inl (cA 16, 256, .inl (fun j => iI (f j)))) ∧ (∃ f : Nat → Int, g 17 = .inl (cA 17, 256, .inl (fun j => iI (f j)))) ∧ (∃ f : Nat → Int, g 18 = .inl (cA 18, 200, .inl (fun j => iI (f j)))) ∧ (∃ f : Nat → Int, g 19 = .inl (cA 19, 1200, .inl (fun j => iI (f j))))
theorem VO.same {cA : Nat → ClassId} {g g2 : Nat → va_E} (h : VO cA g) (hf : ∀ k, 12 ≤ k ∧ k ≤ 19 → g2 k = g k) : VO cA g2 := by
  obtain ⟨⟨f0, a0, b0⟩, ⟨f1, a1⟩, ⟨f2, a2⟩, ⟨f3, a3⟩, ⟨f4, a4⟩, ⟨f5, a5⟩, ⟨f6, a6⟩, ⟨f7, a7⟩⟩ := h
  exact ⟨⟨f0, (hf _ (by decide)).trans a0, b0⟩, ⟨f1, (hf _ (by decide)).trans a1⟩, ⟨f2, (hf _ (by decide)).trans a2⟩, ⟨f3, (hf _ (by decide)).trans a3⟩, ⟨f4, (hf _ (by decide)).trans a4⟩, ⟨f5, (hf _ (by decide)).trans a5⟩, ⟨f6, (hf _ (by decide)).trans a6⟩, ⟨f7, (hf _ (by decide)).trans a7⟩⟩
def RBd (pf : Nat → Int) (qf : Nat → Nat) : Prop := (∀ r, r < 8 → (pf (1000 + r)).natAbs < 2 ^ 1000 ∧ qf (1000 + r) < 2 ^ 1000) ∧ ∀ v, v < 3 → (pf (1008 + v)).natAbs ≤ 9999 ∧ 0 < qf (1008 + v) ∧ qf (1008 + v) ≤ 9999
def TXF (cA : Nat → ClassId) (g : Nat → va_E) (tx : Nat → Nat) (L : List PD) (nm : Nat → Int) : Prop := g 4 = .inl (cA 4, 64, .inl (fun j => nI (tx j))) ∧ (∀ j, tx j < 127) ∧ g 11 = .inl (cA 11, 8, .inl (fun j => iI (nm j))) ∧ (∀ j, -1 ≤ nm j ∧ nm j ≤ 200) ∧ ∀ j, j < 8 → nm j < L.length
def OUT (cA : Nat → ClassId) (g : Nat → va_E) (wr : List Int) : Prop := ∃ f : Nat → Int, g 16 = .inl (cA 16, 256, .inl (fun j => iI (f j))) ∧ ∀ k, k < wr.length → f k = wr.getD k 0
theorem OUT.same {cA : Nat → ClassId} {g g2 : Nat → va_E} {wr : List Int} (h : OUT cA g wr) (h16 : g2 16 = g 16) : OUT cA g2 wr := by
  obtain ⟨f, a, b⟩ := h
  exact ⟨f, h16.trans a, b⟩
def RI (ad : Nat → Nat) (cA : Nat → ClassId) (g : Nat → va_E) (x : Nat → Int32) (L : List PD) (nm : Nat → Int) (tx : Nat → Nat) (ty : Nat) (wr : List Int) (pf : Nat → Int) (qf : Nat → Nat) (pt : Nat → Nat → Int) : Prop :=
  RF ad cA g x pf qf ∧ PTF cA g pt ∧ MT L pt pf qf ∧ WFL L ∧ L.length ≤ 200 ∧ x 3 = nI L.length ∧ TXF cA g tx L nm ∧ x 1 = nI ty ∧ ty ≤ 64 ∧ x 8 = nI wr.length ∧ (wr.length ≤ 250 ∧ OUT cA g wr) ∧ VO cA g ∧ RBd pf qf
def RIE (ad : Nat → Nat) (cA : Nat → ClassId) (g : Nat → va_E) (x : Nat → Int32) (L : List PD) (nm : Nat → Int) (tx : Nat → Nat) (ty : Nat) (wr : List Int) : Prop := ∃ pf qf pt, RI ad cA g x L nm tx ty wr pf qf pt
theorem PTF.same {cA : Nat → ClassId} {g g2 : Nat → va_E} {pt : Nat → Nat → Int} (h : PTF cA g pt) (hf : ∀ k, 5 ≤ k ∧ k ≤ 10 → g2 k = g k) : PTF cA g2 pt := by
  obtain ⟨a0, a1, a2, a3, a4, a5, a6⟩ := h
  exact ⟨(hf _ (by decide)).trans a0, (hf _ (by decide)).trans a1, (hf _ (by decide)).trans a2, (hf _ (by decide)).trans a3, (hf _ (by decide)).trans a4, (hf _ (by decide)).trans a5, a6⟩
theorem TXF.same {cA : Nat → ClassId} {g g2 : Nat → va_E} {tx : Nat → Nat} {L : List PD} {nm : Nat → Int} (h : TXF cA g tx L nm) (h4 : g2 4 = g 4) (h11 : g2 11 = g 11) : TXF cA g2 tx L nm := ⟨h4.trans h.1, h.2.1, h11.trans h.2.2.1, h.2.2.2⟩
/-- numbers and int fields have changed, the parts and what lies above have not -/
theorem RI.num {ad : Nat → Nat} {cA : Nat → ClassId} {g g2 : Nat → va_E} {x x2 : Nat → Int32} {L : List PD} {nm : Nat → Int} {tx : Nat → Nat} {ty : Nat} {wr : List Int} {pf pf2 : Nat → Int} {qf qf2 : Nat → Nat} {pt : Nat → Nat → Int} (h : RI ad cA g x L nm tx ty wr pf qf pt) (hF : RF ad cA g2 x2 pf2 qf2) (hf : ∀ k, (4 ≤ k ∧ k ≤ 11) ∨ k = 16 → g2 k = g k) (hV : VO cA g2) (h1 : x2 1 = x 1) (h3 : x2 3 = x 3) (h8 : x2 8 = x 8) (hp : ∀ f, f < 200 → pf2 f = pf f ∧ qf2 f = qf f) (hb : RBd pf2 qf2) : RIE ad cA g2 x2 L nm tx ty wr := by
  obtain ⟨-, a2, a3, a4, a5, a6, a7, a8, a9, a10, a11, a12, a13⟩ := h
  exact ⟨pf2, qf2, pt, hF, a2.same (fun k hk => hf k (by omega)), a3.same (fun _ _ _ => rfl) (fun i hi => hp i (by omega)), a4, a5, h3.trans a6, a7.same (hf 4 (by decide)) (hf 11 (by decide)), h1.trans a8, a9, h8.trans a10, ⟨a11.1, a11.2.same (hf 16 (by decide))⟩, hV, hb⟩
theorem RBd.res {pf pf2 : Nat → Int} {qf qf2 : Nat → Nat} (h : RBd pf qf) (hr : ∀ r, r < 8 → (pf2 (1000 + r) = pf (1000 + r) ∧ qf2 (1000 + r) = qf (1000 + r)) ∨ ((pf2 (1000 + r)).natAbs < 2 ^ 1000 ∧ qf2 (1000 + r) < 2 ^ 1000)) (hv : ∀ v, v < 3 → (pf2 (1008 + v) = pf (1008 + v) ∧ qf2 (1008 + v) = qf (1008 + v)) ∨ ((pf2 (1008 + v)).natAbs ≤ 9999 ∧ 0 < qf2 (1008 + v) ∧ qf2 (1008 + v) ≤ 9999)) : RBd pf2 qf2 := by
  refine ⟨fun r h9 => ?_, fun v h9 => ?_⟩
  · rcases hr r h9 with h8 | h8
    · rw [h8.1, h8.2]; exact h.1 r h9
    · exact h8
  · rcases hv v h9 with h8 | h8
    · rw [h8.1, h8.2]; exact h.2 v h9
    · exact h8
theorem wf_num {L : List PD} (hW : WFL L) {i : Nat} (hi : i < L.length) (h0 : (gd L i).1 = 0) {p : Int} {q : Nat} (h1 : p = (gd L i).2.2.2.2.2.2.1) (h2 : q = (gd L i).2.2.2.2.2.2.2) : p.natAbs < 2 ^ 1000 ∧ q < 2 ^ 1000 := by
  obtain ⟨-, -, -, w4, w5, -, w7, -⟩ := hW i hi
  obtain ⟨-, e1, e2, e3⟩ := w7 h0
  refine ⟨bl_le.mp (by rw [h1]; omega), ?_⟩
  rw [h2]
  rcases e2 with h | h
  · rw [h]; exact Nat.one_lt_two_pow (by decide)
  · exact bl_le.mp (by omega)
def fld (d : PD) (f : Nat) : Int := if f = 0 then (d.1 : Nat) else if f = 1 then d.2.1 else if f = 2 then d.2.2.1 else if f = 3 then (d.2.2.2.1 : Nat) else if f = 4 then (d.2.2.2.2.1 : Nat) else (d.2.2.2.2.2.1 : Nat)
theorem MT.nil {pt : Nat → Nat → Int} {pf : Nat → Int} {qf : Nat → Nat} : MT [] pt pf qf := fun i h => absurd h (Nat.not_lt_zero i)
theorem WFL.nil : WFL [] := fun i h => absurd h (Nat.not_lt_zero i)
end
section
def wd_X10_thrown : List Cond := .code yX10_thrown cX10_thrown 1 (some .int) :: (([.fieldLink RX10 78 "GradientDeskModel" "thrown" "I"] : List Cond) ++ (u_ws RX10 TX10 29 ++ ([])))
theorem gw_X10_thrown : wd_X10_thrown.all goodWord = true := k_allc rfl (k_all (by decide +kernel) (k_all (gu_X10) (rfl)))
set_option maxHeartbeats 4000000 in
set_option maxRecDepth 100000 in
theorem c_X10_thrown (l : Launch) (dC : Nat → ClassId) (dI : Nat → Nat → Nat) (A : Nat → Prop) (ad : Nat → Nat) (cA : Nat → ClassId) (g : Nat → va_E) (x : Nat → Int32) (h0 : g 0 = .inr (13, Rob ad x)) : Met l yX10_thrown wd_X10_thrown ({ frames := 10, cells := 0, slots := 0, locals := 200 }) (va_Pc [.ref (ad 0)] (PR NSr tyr dC dI A ad cA g)) (va_Qi (fun (r : Int32) => fun (u : Unit) => match u with | () => r = x 0) (fun (u : Unit) (t : State) => va_P (dC, dI) vwCl (wo ad NSr g) t.heap) A) (0) (0) A := by
  refine Met.ofW (cc := cX10_thrown) (maxL := 1) (ret := (some .int)) (by decide) rfl ?_
  intro p e s m args below meth c s₁ B hml hv
  obtain ⟨rfl, hA, hP, hL⟩ := hv
  have hx := B.exec
  have hb := B.bytes
  have hr := B.returns
  have hts := atoms_spec (ws := wd_X10_thrown) B.pre
  have hown : s.vm.findClass RX10 = some m.cls := findClass_of_methodNamed B.named
  have hlocks := B.notSynchronized
  have hK := hL.1
  have hD : ∀ g, va_D A (wo ad NSr g) := fun g => wo_D hL.2.1 hL.2.2 g
  have hS : va_S A s.heap s.heap [] := va_S.rf
  have bk0 : ∀ w ∈ u_ws RX10 TX10 29, w ∈ wd_X10_thrown := fun _ h => List.mem_cons_of_mem _ (List.mem_append_right _ (List.mem_append_left _ h))
  have hl := lv_entry ([.ref (ad 0)]) (n := 1) (Nat.le_of_ble_eq_true rfl)
  rw [lg_entry_eq]
  generalize (lg_sl ([.ref (ad 0)]) ++ List.replicate (1 - (lg_sl ([.ref (ad 0)])).length) Slot.unset).toArray = ls at hl ⊢
  have hl : lv_has ls 1 [(0, .ref (ad 0))] := hl
  refine lv_aload_n hx hb dX10_thrown_0 rfl (lv_at hl 0 rfl) ?_
  refine m_get (D := (dC, dI)) (v := .int (x 0)) (C := RX10) (T := TX10) (N := 29) hx hb hts bk0 hown hK hP 0 (by decide) h0 rfl 0 (by decide) (hts (.fieldLink RX10 78 "GradientDeskModel" "thrown" "I") (List.mem_of_getElem? (i := 1) rfl)) (fun _ h9 => h9) rfl dX10_thrown_1 ?_
  refine W.widen (k := 0) (n := 0) (by omega) (by omega) ?_
  exact W.iret (v := x 0) hx hb hr (fun t9 ht9 hW9 => ⟨⟨x 0, (), rfl, rfl, by show va_P (dC, dI) vwCl _ t9.heap; rw [ht9]; exact hP⟩, hS.F ht9⟩) hS.2.2 dX10_thrown_4
def wd_X10_made : List Cond := .code yX10_made cX10_made 1 (some .int) :: (([.fieldLink RX10 78 "GradientDeskModel" "thrown" "I", .fieldLink RX10 149 "GradientDeskModel" "made" "I"] : List Cond) ++ (u_ws RX10 TX10 29 ++ ([])))
theorem gw_X10_made : wd_X10_made.all goodWord = true := k_allc rfl (k_all (by decide +kernel) (k_all (gu_X10) (rfl)))
set_option maxHeartbeats 4000000 in
set_option maxRecDepth 100000 in
theorem c_X10_made (l : Launch) (dC : Nat → ClassId) (dI : Nat → Nat → Nat) (A : Nat → Prop) (ad : Nat → Nat) (cA : Nat → ClassId) (g : Nat → va_E) (x : Nat → Int32) (L : List PD) (nm : Nat → Int) (tx : Nat → Nat) (ty : Nat) (wr : List Int) (hI : RIE ad cA g x L nm tx ty wr) : Met l yX10_made wd_X10_made ({ frames := 20, cells := 0, slots := 0, locals := 400 }) (va_Pc [.ref (ad 0)] (PR NSr tyr dC dI A ad cA g)) (va_Qi (fun (r : Int32) => fun (u : (Nat → va_E) × (Nat → Int32)) => match u with | (g2, x2) => RIE ad cA g2 x2 L nm tx ty wr ∧ x2 0 = nI 0 ∧ x2 2 = x 2 ∧ r = nI L.length) (fun (u : (Nat → va_E) × (Nat → Int32)) (t : State) => va_P (dC, dI) vwCl (wo ad NSr u.1) t.heap) A) (0) (0) A := by
  refine Met.ofW (cc := cX10_made) (maxL := 1) (ret := (some .int)) (by decide) rfl ?_
  intro p e s m args below meth c s₁ B hml hv
  obtain ⟨rfl, hA, hP, hL⟩ := hv
  have hx := B.exec
  have hb := B.bytes
  have hr := B.returns
  have hts := atoms_spec (ws := wd_X10_made) B.pre
  have hown : s.vm.findClass RX10 = some m.cls := findClass_of_methodNamed B.named
  have hlocks := B.notSynchronized
  have hK := hL.1
  have hD : ∀ g, va_D A (wo ad NSr g) := fun g => wo_D hL.2.1 hL.2.2 g
  have hS : va_S A s.heap s.heap [] := va_S.rf
  have bk0 : ∀ w ∈ u_ws RX10 TX10 29, w ∈ wd_X10_made := fun _ h => List.mem_cons_of_mem _ (List.mem_append_right _ (List.mem_append_left _ h))
  have hl := lv_entry ([.ref (ad 0)]) (n := 1) (Nat.le_of_ble_eq_true rfl)
  rw [lg_entry_eq]
  generalize (lg_sl ([.ref (ad 0)]) ++ List.replicate (1 - (lg_sl ([.ref (ad 0)])).length) Slot.unset).toArray = ls at hl ⊢
  have hl : lv_has ls 1 [(0, .ref (ad 0))] := hl
  obtain ⟨pf, qf, pt, hI0⟩ := hI
  have hI1 := hI0
  obtain ⟨hF, hPt, hM, hW, hL2, hmd, hTx, hty, hty2, hwr, hwr2, hVO, hBd⟩ := hI1
  have hVO0 := hVO
  have hPt0 := hPt
  have hTx0 := hTx
  have hF0 := hF
  obtain ⟨vf, hV, hq⟩ := hF
  have hc_1 := hV
  obtain ⟨pnz_2, lnz_2, bnz_2, hRz_2, hvz_2⟩ := hc_1
  obtain ⟨r_3, r_4, r_5, r_6, r_7, r_8, r_9⟩ := hRz_2
  obtain ⟨p_10, p_11, p_12, p_13, p_14, p_15, hpt_16⟩ := hPt
  obtain ⟨t4, t4b, t11, t11b, t11c⟩ := hTx
  obtain ⟨⟨rc, v12, v12b⟩, ⟨f13, v13⟩, ⟨f14, v14⟩, ⟨f15, v15⟩, ⟨f16, v16⟩, ⟨f17, v17⟩, ⟨f18, v18⟩, ⟨f19, v19⟩⟩ := hVO
  refine lv_aload_n hx hb dX10_made_0 rfl (lv_at hl 0 rfl) ?_
  refine lv_iconst (v := nI 0) hx hb dX10_made_1 (by decide +kernel) ?_
  refine m_put (D := (dC, dI)) (v := .int (nI 0)) (tv := .int) (C := RX10) (T := TX10) (N := 29) hx hb hts bk0 tyX10 tyX10_ok nmX10 hown hK hP hD hS 0 (by decide) r_3 rfl 0 (by decide) (hts (.fieldLink RX10 78 "GradientDeskModel" "thrown" "I") (List.mem_of_getElem? (i := 1) rfl)) (fun _ h9 => h9) rfl (by decide +kernel) rfl rfl (Nat.le_of_ble_eq_true rfl) dX10_made_2 (fun H locs g_17 f_18 fr_19 hP hS => ?_)
  have f_18 : g_17 0 = .inr (13, Rob ad (va_up x 0 (nI 0))) := f_18
  refine lv_aload_n hx hb dX10_made_5 rfl (lv_at hl 0 rfl) ?_
  refine m_get (D := (dC, dI)) (v := .int (nI L.length)) (C := RX10) (T := TX10) (N := 29) hx hb hts bk0 hown hK hP 0 (by decide) f_18 rfl 13 (by decide) (hts (.fieldLink RX10 149 "GradientDeskModel" "made" "I") (List.mem_of_getElem? (i := 2) rfl)) (fun _ h9 => h9) (congrArg (fun z => some (Value.int z)) (show (va_up x 0 (nI 0)) 3 = (nI L.length) from hmd)) dX10_made_6 ?_
  refine W.widen (k := 0) (n := 0) (by omega) (by omega) ?_
  exact W.iret (v := nI L.length) hx hb hr (fun t9 ht9 hW9 => ⟨⟨nI L.length, (g_17, va_up x 0 (nI 0)), rfl, ⟨RI.num hI0 (hF0.setx (fun (k : Nat) (hk : k = 1 ∨ k = 2 ∨ k = 3) => (fr_19 k (by omega)).trans (rfl)) f_18 rfl) (fun (k : Nat) (hk : (4 ≤ k ∧ k ≤ 11) ∨ k = 16) => (fr_19 k (by omega)).trans (rfl)) (hVO0.same (fun (k : Nat) (hk : 12 ≤ k ∧ k ≤ 19) => (fr_19 k (by omega)).trans (rfl))) (va_up_ne _ _ (by decide)) (va_up_ne _ _ (by decide)) (va_up_ne _ _ (by decide)) (fun _ _ => ⟨rfl, rfl⟩) hBd, va_up_self _ _ _, (va_up_ne _ _ (by decide)), rfl⟩, by show va_P (dC, dI) vwCl _ t9.heap; rw [ht9]; exact hP⟩, hS.F ht9⟩) hS.2.2 dX10_made_9
def wd_X10_place : List Cond := .code yX10_place cX10_place 1 (some .int) :: (([.fieldLink RX10 78 "GradientDeskModel" "thrown" "I", .fieldLink RX10 25 "GradientDeskModel" "place" "I"] : List Cond) ++ (u_ws RX10 TX10 29 ++ ([])))
theorem gw_X10_place : wd_X10_place.all goodWord = true := k_allc rfl (k_all (by decide +kernel) (k_all (gu_X10) (rfl)))
set_option maxHeartbeats 4000000 in
set_option maxRecDepth 100000 in
theorem c_X10_place (l : Launch) (dC : Nat → ClassId) (dI : Nat → Nat → Nat) (A : Nat → Prop) (ad : Nat → Nat) (cA : Nat → ClassId) (g : Nat → va_E) (x : Nat → Int32) (L : List PD) (nm : Nat → Int) (tx : Nat → Nat) (ty : Nat) (wr : List Int) (hI : RIE ad cA g x L nm tx ty wr) : Met l yX10_place wd_X10_place ({ frames := 20, cells := 0, slots := 0, locals := 400 }) (va_Pc [.ref (ad 0)] (PR NSr tyr dC dI A ad cA g)) (va_Qi (fun (r : Int32) => fun (u : (Nat → va_E) × (Nat → Int32)) => match u with | (g2, x2) => RIE ad cA g2 x2 L nm tx ty wr ∧ x2 0 = nI 0 ∧ x2 2 = x 2 ∧ r = x 2) (fun (u : (Nat → va_E) × (Nat → Int32)) (t : State) => va_P (dC, dI) vwCl (wo ad NSr u.1) t.heap) A) (0) (0) A := by
  refine Met.ofW (cc := cX10_place) (maxL := 1) (ret := (some .int)) (by decide) rfl ?_
  intro p e s m args below meth c s₁ B hml hv
  obtain ⟨rfl, hA, hP, hL⟩ := hv
  have hx := B.exec
  have hb := B.bytes
  have hr := B.returns
  have hts := atoms_spec (ws := wd_X10_place) B.pre
  have hown : s.vm.findClass RX10 = some m.cls := findClass_of_methodNamed B.named
  have hlocks := B.notSynchronized
  have hK := hL.1
  have hD : ∀ g, va_D A (wo ad NSr g) := fun g => wo_D hL.2.1 hL.2.2 g
  have hS : va_S A s.heap s.heap [] := va_S.rf
  have bk0 : ∀ w ∈ u_ws RX10 TX10 29, w ∈ wd_X10_place := fun _ h => List.mem_cons_of_mem _ (List.mem_append_right _ (List.mem_append_left _ h))
  have hl := lv_entry ([.ref (ad 0)]) (n := 1) (Nat.le_of_ble_eq_true rfl)
  rw [lg_entry_eq]
  generalize (lg_sl ([.ref (ad 0)]) ++ List.replicate (1 - (lg_sl ([.ref (ad 0)])).length) Slot.unset).toArray = ls at hl ⊢
  have hl : lv_has ls 1 [(0, .ref (ad 0))] := hl
  obtain ⟨pf, qf, pt, hI0⟩ := hI
  have hI1 := hI0
  obtain ⟨hF, hPt, hM, hW, hL2, hmd, hTx, hty, hty2, hwr, hwr2, hVO, hBd⟩ := hI1
  have hVO0 := hVO
  have hPt0 := hPt
  have hTx0 := hTx
  have hF0 := hF
  obtain ⟨vf, hV, hq⟩ := hF
  have hc_1 := hV
  obtain ⟨pnz_2, lnz_2, bnz_2, hRz_2, hvz_2⟩ := hc_1
  obtain ⟨r_3, r_4, r_5, r_6, r_7, r_8, r_9⟩ := hRz_2
  obtain ⟨p_10, p_11, p_12, p_13, p_14, p_15, hpt_16⟩ := hPt
  obtain ⟨t4, t4b, t11, t11b, t11c⟩ := hTx
  obtain ⟨⟨rc, v12, v12b⟩, ⟨f13, v13⟩, ⟨f14, v14⟩, ⟨f15, v15⟩, ⟨f16, v16⟩, ⟨f17, v17⟩, ⟨f18, v18⟩, ⟨f19, v19⟩⟩ := hVO
  refine lv_aload_n hx hb dX10_place_0 rfl (lv_at hl 0 rfl) ?_
  refine lv_iconst (v := nI 0) hx hb dX10_place_1 (by decide +kernel) ?_
  refine m_put (D := (dC, dI)) (v := .int (nI 0)) (tv := .int) (C := RX10) (T := TX10) (N := 29) hx hb hts bk0 tyX10 tyX10_ok nmX10 hown hK hP hD hS 0 (by decide) r_3 rfl 0 (by decide) (hts (.fieldLink RX10 78 "GradientDeskModel" "thrown" "I") (List.mem_of_getElem? (i := 1) rfl)) (fun _ h9 => h9) rfl (by decide +kernel) rfl rfl (Nat.le_of_ble_eq_true rfl) dX10_place_2 (fun H locs g_17 f_18 fr_19 hP hS => ?_)
  have f_18 : g_17 0 = .inr (13, Rob ad (va_up x 0 (nI 0))) := f_18
  refine lv_aload_n hx hb dX10_place_5 rfl (lv_at hl 0 rfl) ?_
  refine m_get (D := (dC, dI)) (v := .int ((va_up x 0 (nI 0)) 2)) (C := RX10) (T := TX10) (N := 29) hx hb hts bk0 hown hK hP 0 (by decide) f_18 rfl 6 (by decide) (hts (.fieldLink RX10 25 "GradientDeskModel" "place" "I") (List.mem_of_getElem? (i := 2) rfl)) (fun _ h9 => h9) rfl dX10_place_6 ?_
  refine W.widen (k := 0) (n := 0) (by omega) (by omega) ?_
  exact W.iret (v := (va_up x 0 (nI 0)) 2) hx hb hr (fun t9 ht9 hW9 => ⟨⟨(va_up x 0 (nI 0)) 2, (g_17, va_up x 0 (nI 0)), rfl, ⟨RI.num hI0 (hF0.setx (fun (k : Nat) (hk : k = 1 ∨ k = 2 ∨ k = 3) => (fr_19 k (by omega)).trans (rfl)) f_18 rfl) (fun (k : Nat) (hk : (4 ≤ k ∧ k ≤ 11) ∨ k = 16) => (fr_19 k (by omega)).trans (rfl)) (hVO0.same (fun (k : Nat) (hk : 12 ≤ k ∧ k ≤ 19) => (fr_19 k (by omega)).trans (rfl))) (va_up_ne _ _ (by decide)) (va_up_ne _ _ (by decide)) (va_up_ne _ _ (by decide)) (fun _ _ => ⟨rfl, rfl⟩) hBd, va_up_self _ _ _, (va_up_ne _ _ (by decide)), rfl⟩, by show va_P (dC, dI) vwCl _ t9.heap; rw [ht9]; exact hP⟩, hS.F ht9⟩) hS.2.2 dX10_place_9
def wd_X10_noResult : List Cond := .code yX10_noResult cX10_noResult 2 (some .boolean) :: (([] : List Cond) ++ ([]))
theorem gw_X10_noResult : wd_X10_noResult.all goodWord = true := k_allc rfl (k_all (by decide +kernel) (rfl))
set_option maxHeartbeats 4000000 in
set_option maxRecDepth 100000 in
theorem c_X10_noResult (l : Launch) (dC : Nat → ClassId) (dI : Nat → Nat → Nat) (A : Nat → Prop) (ad : Nat → Nat) (cA : Nat → ClassId) (g : Nat → va_E) (v : Int32) : Met l yX10_noResult wd_X10_noResult ({ frames := 10, cells := 0, slots := 0, locals := 200 }) (va_Pc [.ref (ad 0), .int v] (PR NSr tyr dC dI A ad cA g)) (va_Qi (fun (r : Int32) => fun (u : Unit) => match u with | () => (r = nI 0 ∧ 0 ≤ v.toInt ∧ v.toInt ≤ 7) ∨ (r = nI 1 ∧ ¬ (0 ≤ v.toInt ∧ v.toInt ≤ 7))) (fun (u : Unit) (t : State) => va_P (dC, dI) vwCl (wo ad NSr g) t.heap) A) (0) (0) A := by
  refine Met.ofW (cc := cX10_noResult) (maxL := 2) (ret := (some .boolean)) (by decide) rfl ?_
  intro p e s m args below meth c s₁ B hml hv
  obtain ⟨rfl, hA, hP, hL⟩ := hv
  have hx := B.exec
  have hb := B.bytes
  have hr := B.returns
  have hts := atoms_spec (ws := wd_X10_noResult) B.pre
  have hown : s.vm.findClass RX10 = some m.cls := findClass_of_methodNamed B.named
  have hlocks := B.notSynchronized
  have hK := hL.1
  have hD : ∀ g, va_D A (wo ad NSr g) := fun g => wo_D hL.2.1 hL.2.2 g
  have hS : va_S A s.heap s.heap [] := va_S.rf
  have hl := lv_entry ([.ref (ad 0), .int v]) (n := 2) (Nat.le_of_ble_eq_true rfl)
  rw [lg_entry_eq]
  generalize (lg_sl ([.ref (ad 0), .int v]) ++ List.replicate (2 - (lg_sl ([.ref (ad 0), .int v])).length) Slot.unset).toArray = ls at hl ⊢
  have hl : lv_has ls 2 [(0, .ref (ad 0)), (1, .int v)] := hl
  refine lv_iload_n hx hb dX10_noResult_0 rfl (lv_at hl 1 rfl) ?_
  refine lv_if_lt (tgt := 10) hx hb dX10_noResult_1 (by decide) (fun c_1 => ?_) (fun c_1 => ?_)
  · have c_1 := (k_lt v (nI 0)).mp c_1
    rw [show (nI 0).toInt = 0 from by decide] at c_1
    refine lv_iconst (v := nI 1) hx hb dX10_noResult_10 (by decide +kernel) ?_
    refine lv_goto (tgt := 15) hx hb dX10_noResult_11 (by decide) ?_
    refine W.widen (k := 0) (n := 0) (by omega) (by omega) ?_
    exact W.zret (v := nI 1) hx hb hr (by decide +kernel) (fun t9 ht9 hW9 => ⟨⟨nI 1, (), rfl, Or.inr ⟨rfl, by omega⟩, by show va_P (dC, dI) vwCl _ t9.heap; rw [ht9]; exact hP⟩, hS.F ht9⟩) hS.2.2 dX10_noResult_15
  · have c_1 := mt (k_lt v (nI 0)).mpr c_1
    rw [show (nI 0).toInt = 0 from by decide] at c_1
    refine lv_iload_n hx hb dX10_noResult_4 rfl (lv_at hl 1 rfl) ?_
    refine lv_bipush (v := nI 7) hx hb dX10_noResult_5 (by decide +kernel) ?_
    refine lv_icmp_le (tgt := 14) hx hb dX10_noResult_7 (by decide) (fun c_2 => ?_) (fun c_2 => ?_)
    · have c_2 := (k_le v (nI 7)).mp c_2
      rw [show (nI 7).toInt = 7 from by decide] at c_2
      refine lv_iconst (v := nI 0) hx hb dX10_noResult_14 (by decide +kernel) ?_
      refine W.widen (k := 0) (n := 0) (by omega) (by omega) ?_
      exact W.zret (v := nI 0) hx hb hr (by decide +kernel) (fun t9 ht9 hW9 => ⟨⟨nI 0, (), rfl, Or.inl ⟨rfl, by omega⟩, by show va_P (dC, dI) vwCl _ t9.heap; rw [ht9]; exact hP⟩, hS.F ht9⟩) hS.2.2 dX10_noResult_15
    · have c_2 := mt (k_le v (nI 7)).mpr c_2
      rw [show (nI 7).toInt = 7 from by decide] at c_2
      refine lv_iconst (v := nI 1) hx hb dX10_noResult_10 (by decide +kernel) ?_
      refine lv_goto (tgt := 15) hx hb dX10_noResult_11 (by decide) ?_
      refine W.widen (k := 0) (n := 0) (by omega) (by omega) ?_
      exact W.zret (v := nI 1) hx hb hr (by decide +kernel) (fun t9 ht9 hW9 => ⟨⟨nI 1, (), rfl, Or.inr ⟨rfl, by omega⟩, by show va_P (dC, dI) vwCl _ t9.heap; rw [ht9]; exact hP⟩, hS.F ht9⟩) hS.2.2 dX10_noResult_15
def wd_X10_set : List Cond := .code yX10_set cX10_set 4 none :: (([.fieldLink RX10 78 "GradientDeskModel" "thrown" "I", .methodLink RX10 139 yX10_setFraction, .instanceMethod yX10_setFraction, .selects RX10 yX10_setFraction yX10_setFraction, .initialized RX10] : List Cond) ++ (u_ws RX10 TX10 29 ++ (wd_X10_setFraction ++ ([]))))
theorem gw_X10_set : wd_X10_set.all goodWord = true := k_allc rfl (k_all (by decide +kernel) (k_all (gu_X10) (k_all (gw_X10_setFraction) (rfl))))
set_option maxHeartbeats 4000000 in
set_option maxRecDepth 100000 in
theorem c_X10_set (l : Launch) (dC : Nat → ClassId) (dI : Nat → Nat → Nat) (A : Nat → Prop) (ad : Nat → Nat) (cA : Nat → ClassId) (g : Nat → va_E) (x : Nat → Int32) (L : List PD) (nm : Nat → Int) (tx : Nat → Nat) (ty : Nat) (wr : List Int) (va : Int32) (vp : Int32) (vq : Int32) (hI : RIE ad cA g x L nm tx ty wr) : Met l yX10_set wd_X10_set ({ frames := 70, cells := 0, slots := 0, locals := 1400 }) (va_Pc [.ref (ad 0), .int va, .int vp, .int vq] (PR NSr tyr dC dI A ad cA g)) (va_Qv (fun (u : (Nat → va_E) × (Nat → Int32)) => match u with | (g2, x2) => RIE ad cA g2 x2 L nm tx ty wr ∧ x2 2 = x 2 ∧ (((0 ≤ va.toInt ∧ va.toInt ≤ 2 ∧ -9999 ≤ vp.toInt ∧ vp.toInt ≤ 9999 ∧ 1 ≤ vq.toInt ∧ vq.toInt ≤ 9999) ∧ x2 0 = nI 0) ∨ (¬ (0 ≤ va.toInt ∧ va.toInt ≤ 2 ∧ -9999 ≤ vp.toInt ∧ vp.toInt ≤ 9999 ∧ 1 ≤ vq.toInt ∧ vq.toInt ≤ 9999) ∧ x2 0 = nI 1))) (fun (u : (Nat → va_E) × (Nat → Int32)) (t : State) => va_P (dC, dI) vwCl (wo ad NSr u.1) t.heap) A) (0) (0) A := by
  refine Met.ofW (cc := cX10_set) (maxL := 4) (ret := none) (by decide) rfl ?_
  intro p e s m args below meth c s₁ B hml hv
  obtain ⟨rfl, hA, hP, hL⟩ := hv
  have hx := B.exec
  have hb := B.bytes
  have hr := B.returns
  have hts := atoms_spec (ws := wd_X10_set) B.pre
  have hown : s.vm.findClass RX10 = some m.cls := findClass_of_methodNamed B.named
  have hlocks := B.notSynchronized
  have hK := hL.1
  have hD : ∀ g, va_D A (wo ad NSr g) := fun g => wo_D hL.2.1 hL.2.2 g
  have hS : va_S A s.heap s.heap [] := va_S.rf
  have bk0 : ∀ w ∈ u_ws RX10 TX10 29, w ∈ wd_X10_set := fun _ h => List.mem_cons_of_mem _ (List.mem_append_right _ (List.mem_append_left _ h))
  have bk1 : ∀ w ∈ wd_X10_setFraction, w ∈ wd_X10_set := fun _ h => List.mem_cons_of_mem _ (List.mem_append_right _ (List.mem_append_right _ (List.mem_append_left _ h)))
  have hl := lv_entry ([.ref (ad 0), .int va, .int vp, .int vq]) (n := 4) (Nat.le_of_ble_eq_true rfl)
  rw [lg_entry_eq]
  generalize (lg_sl ([.ref (ad 0), .int va, .int vp, .int vq]) ++ List.replicate (4 - (lg_sl ([.ref (ad 0), .int va, .int vp, .int vq])).length) Slot.unset).toArray = ls at hl ⊢
  have hl : lv_has ls 4 [(0, .ref (ad 0)), (1, .int va), (2, .int vp), (3, .int vq)] := hl
  obtain ⟨pf, qf, pt, hI0⟩ := hI
  have hI1 := hI0
  obtain ⟨hF, hPt, hM, hW, hL2, hmd, hTx, hty, hty2, hwr, hwr2, hVO, hBd⟩ := hI1
  have hVO0 := hVO
  have hPt0 := hPt
  have hTx0 := hTx
  have hF0 := hF
  obtain ⟨vf, hV, hq⟩ := hF
  have hc_1 := hV
  obtain ⟨pnz_2, lnz_2, bnz_2, hRz_2, hvz_2⟩ := hc_1
  obtain ⟨r_3, r_4, r_5, r_6, r_7, r_8, r_9⟩ := hRz_2
  obtain ⟨p_10, p_11, p_12, p_13, p_14, p_15, hpt_16⟩ := hPt
  obtain ⟨t4, t4b, t11, t11b, t11c⟩ := hTx
  obtain ⟨⟨rc, v12, v12b⟩, ⟨f13, v13⟩, ⟨f14, v14⟩, ⟨f15, v15⟩, ⟨f16, v16⟩, ⟨f17, v17⟩, ⟨f18, v18⟩, ⟨f19, v19⟩⟩ := hVO
  refine lv_aload_n hx hb dX10_set_0 rfl (lv_at hl 0 rfl) ?_
  refine lv_iload_n hx hb dX10_set_1 rfl (lv_at hl 1 rfl) ?_
  refine lv_if_lt (tgt := 36) hx hb dX10_set_2 (by decide) (fun c_17 => ?_) (fun c_17 => ?_)
  · have c_17 := (k_lt va (nI 0)).mp c_17
    rw [show (nI 0).toInt = 0 from by decide] at c_17
    refine lv_iconst (v := nI 1) hx hb dX10_set_36 (by decide +kernel) ?_
    refine lv_goto (tgt := 41) hx hb dX10_set_37 (by decide) ?_
    refine m_put (D := (dC, dI)) (v := .int (nI 1)) (tv := .int) (C := RX10) (T := TX10) (N := 29) hx hb hts bk0 tyX10 tyX10_ok nmX10 hown hK hP hD hS 0 (by decide) r_3 rfl 0 (by decide) (hts (.fieldLink RX10 78 "GradientDeskModel" "thrown" "I") (List.mem_of_getElem? (i := 1) rfl)) (fun _ h9 => h9) rfl (by decide +kernel) rfl rfl (Nat.le_of_ble_eq_true rfl) dX10_set_41 (fun H locs g_18 f_19 fr_20 hP hS => ?_)
    have f_19 : g_18 0 = .inr (13, Rob ad (va_up x 0 (nI 1))) := f_19
    refine lv_aload_n hx hb dX10_set_44 rfl (lv_at hl 0 rfl) ?_
    refine m_get (D := (dC, dI)) (v := .int (nI 1)) (C := RX10) (T := TX10) (N := 29) hx hb hts bk0 hown hK hP 0 (by decide) f_19 rfl 0 (by decide) (hts (.fieldLink RX10 78 "GradientDeskModel" "thrown" "I") (List.mem_of_getElem? (i := 1) rfl)) (fun _ h9 => h9) (congrArg (fun z => some (Value.int z)) (show (va_up x 0 (nI 1)) 0 = (nI 1) from rfl)) dX10_set_45 ?_
    refine lv_if_ne (tgt := 64) hx hb dX10_set_48 (by decide) (fun c_21 => ?_) (fun c_21 => absurd c_21 (by decide))
    refine W.widen (k := 0) (n := 0) (by omega) (by omega) ?_
    exact W.vret hx hb hr (fun t9 ht9 hW9 => ⟨⟨(g_18, va_up x 0 (nI 1)), rfl, ⟨RI.num hI0 (hF0.setx (fun (k : Nat) (hk : k = 1 ∨ k = 2 ∨ k = 3) => (fr_20 k (by omega)).trans (rfl)) f_19 rfl) (fun (k : Nat) (hk : (4 ≤ k ∧ k ≤ 11) ∨ k = 16) => (fr_20 k (by omega)).trans (rfl)) (hVO0.same (fun (k : Nat) (hk : 12 ≤ k ∧ k ≤ 19) => (fr_20 k (by omega)).trans (rfl))) (va_up_ne _ _ (by decide)) (va_up_ne _ _ (by decide)) (va_up_ne _ _ (by decide)) (fun _ _ => ⟨rfl, rfl⟩) hBd, (va_up_ne _ _ (by decide)), Or.inr ⟨by omega, va_up_self _ _ _⟩⟩, by show va_P (dC, dI) vwCl _ t9.heap; rw [ht9]; exact hP⟩, hS.F ht9⟩) hS.2.2 dX10_set_64
  · have c_17 := mt (k_lt va (nI 0)).mpr c_17
    rw [show (nI 0).toInt = 0 from by decide] at c_17
    refine lv_iload_n hx hb dX10_set_5 rfl (lv_at hl 1 rfl) ?_
    refine lv_iconst (v := nI 2) hx hb dX10_set_6 (by decide +kernel) ?_
    refine lv_icmp_gt (tgt := 36) hx hb dX10_set_7 (by decide) (fun c_22 => ?_) (fun c_22 => ?_)
    · have c_22 := (k_lt (nI 2) va).mp c_22
      rw [show (nI 2).toInt = 2 from by decide] at c_22
      refine lv_iconst (v := nI 1) hx hb dX10_set_36 (by decide +kernel) ?_
      refine lv_goto (tgt := 41) hx hb dX10_set_37 (by decide) ?_
      refine m_put (D := (dC, dI)) (v := .int (nI 1)) (tv := .int) (C := RX10) (T := TX10) (N := 29) hx hb hts bk0 tyX10 tyX10_ok nmX10 hown hK hP hD hS 0 (by decide) r_3 rfl 0 (by decide) (hts (.fieldLink RX10 78 "GradientDeskModel" "thrown" "I") (List.mem_of_getElem? (i := 1) rfl)) (fun _ h9 => h9) rfl (by decide +kernel) rfl rfl (Nat.le_of_ble_eq_true rfl) dX10_set_41 (fun H locs g_23 f_24 fr_25 hP hS => ?_)
      have f_24 : g_23 0 = .inr (13, Rob ad (va_up x 0 (nI 1))) := f_24
      refine lv_aload_n hx hb dX10_set_44 rfl (lv_at hl 0 rfl) ?_
      refine m_get (D := (dC, dI)) (v := .int (nI 1)) (C := RX10) (T := TX10) (N := 29) hx hb hts bk0 hown hK hP 0 (by decide) f_24 rfl 0 (by decide) (hts (.fieldLink RX10 78 "GradientDeskModel" "thrown" "I") (List.mem_of_getElem? (i := 1) rfl)) (fun _ h9 => h9) (congrArg (fun z => some (Value.int z)) (show (va_up x 0 (nI 1)) 0 = (nI 1) from rfl)) dX10_set_45 ?_
      refine lv_if_ne (tgt := 64) hx hb dX10_set_48 (by decide) (fun c_26 => ?_) (fun c_26 => absurd c_26 (by decide))
      refine W.widen (k := 0) (n := 0) (by omega) (by omega) ?_
      exact W.vret hx hb hr (fun t9 ht9 hW9 => ⟨⟨(g_23, va_up x 0 (nI 1)), rfl, ⟨RI.num hI0 (hF0.setx (fun (k : Nat) (hk : k = 1 ∨ k = 2 ∨ k = 3) => (fr_25 k (by omega)).trans (rfl)) f_24 rfl) (fun (k : Nat) (hk : (4 ≤ k ∧ k ≤ 11) ∨ k = 16) => (fr_25 k (by omega)).trans (rfl)) (hVO0.same (fun (k : Nat) (hk : 12 ≤ k ∧ k ≤ 19) => (fr_25 k (by omega)).trans (rfl))) (va_up_ne _ _ (by decide)) (va_up_ne _ _ (by decide)) (va_up_ne _ _ (by decide)) (fun _ _ => ⟨rfl, rfl⟩) hBd, (va_up_ne _ _ (by decide)), Or.inr ⟨by omega, va_up_self _ _ _⟩⟩, by show va_P (dC, dI) vwCl _ t9.heap; rw [ht9]; exact hP⟩, hS.F ht9⟩) hS.2.2 dX10_set_64
    · have c_22 := mt (k_lt (nI 2) va).mpr c_22
      rw [show (nI 2).toInt = 2 from by decide] at c_22
      refine lv_iload_n hx hb dX10_set_10 rfl (lv_at hl 2 rfl) ?_
      refine lv_sipush (v := -9999) hx hb dX10_set_11 (by decide +kernel) ?_
      refine lv_icmp_lt (tgt := 36) hx hb dX10_set_14 (by decide) (fun c_27 => ?_) (fun c_27 => ?_)
      · have c_27 := (k_lt vp (-9999)).mp c_27
        rw [show ((-9999 : Int32)).toInt = -9999 from by decide] at c_27
        refine lv_iconst (v := nI 1) hx hb dX10_set_36 (by decide +kernel) ?_
        refine lv_goto (tgt := 41) hx hb dX10_set_37 (by decide) ?_
        refine m_put (D := (dC, dI)) (v := .int (nI 1)) (tv := .int) (C := RX10) (T := TX10) (N := 29) hx hb hts bk0 tyX10 tyX10_ok nmX10 hown hK hP hD hS 0 (by decide) r_3 rfl 0 (by decide) (hts (.fieldLink RX10 78 "GradientDeskModel" "thrown" "I") (List.mem_of_getElem? (i := 1) rfl)) (fun _ h9 => h9) rfl (by decide +kernel) rfl rfl (Nat.le_of_ble_eq_true rfl) dX10_set_41 (fun H locs g_28 f_29 fr_30 hP hS => ?_)
        have f_29 : g_28 0 = .inr (13, Rob ad (va_up x 0 (nI 1))) := f_29
        refine lv_aload_n hx hb dX10_set_44 rfl (lv_at hl 0 rfl) ?_
        refine m_get (D := (dC, dI)) (v := .int (nI 1)) (C := RX10) (T := TX10) (N := 29) hx hb hts bk0 hown hK hP 0 (by decide) f_29 rfl 0 (by decide) (hts (.fieldLink RX10 78 "GradientDeskModel" "thrown" "I") (List.mem_of_getElem? (i := 1) rfl)) (fun _ h9 => h9) (congrArg (fun z => some (Value.int z)) (show (va_up x 0 (nI 1)) 0 = (nI 1) from rfl)) dX10_set_45 ?_
        refine lv_if_ne (tgt := 64) hx hb dX10_set_48 (by decide) (fun c_31 => ?_) (fun c_31 => absurd c_31 (by decide))
        refine W.widen (k := 0) (n := 0) (by omega) (by omega) ?_
        exact W.vret hx hb hr (fun t9 ht9 hW9 => ⟨⟨(g_28, va_up x 0 (nI 1)), rfl, ⟨RI.num hI0 (hF0.setx (fun (k : Nat) (hk : k = 1 ∨ k = 2 ∨ k = 3) => (fr_30 k (by omega)).trans (rfl)) f_29 rfl) (fun (k : Nat) (hk : (4 ≤ k ∧ k ≤ 11) ∨ k = 16) => (fr_30 k (by omega)).trans (rfl)) (hVO0.same (fun (k : Nat) (hk : 12 ≤ k ∧ k ≤ 19) => (fr_30 k (by omega)).trans (rfl))) (va_up_ne _ _ (by decide)) (va_up_ne _ _ (by decide)) (va_up_ne _ _ (by decide)) (fun _ _ => ⟨rfl, rfl⟩) hBd, (va_up_ne _ _ (by decide)), Or.inr ⟨by omega, va_up_self _ _ _⟩⟩, by show va_P (dC, dI) vwCl _ t9.heap; rw [ht9]; exact hP⟩, hS.F ht9⟩) hS.2.2 dX10_set_64
      · have c_27 := mt (k_lt vp (-9999)).mpr c_27
        rw [show ((-9999 : Int32)).toInt = -9999 from by decide] at c_27
        refine lv_iload_n hx hb dX10_set_17 rfl (lv_at hl 2 rfl) ?_
        refine lv_sipush (v := nI 9999) hx hb dX10_set_18 (by decide +kernel) ?_
        refine lv_icmp_gt (tgt := 36) hx hb dX10_set_21 (by decide) (fun c_32 => ?_) (fun c_32 => ?_)
        · have c_32 := (k_lt (nI 9999) vp).mp c_32
          rw [show (nI 9999).toInt = 9999 from by decide] at c_32
          refine lv_iconst (v := nI 1) hx hb dX10_set_36 (by decide +kernel) ?_
          refine lv_goto (tgt := 41) hx hb dX10_set_37 (by decide) ?_
          refine m_put (D := (dC, dI)) (v := .int (nI 1)) (tv := .int) (C := RX10) (T := TX10) (N := 29) hx hb hts bk0 tyX10 tyX10_ok nmX10 hown hK hP hD hS 0 (by decide) r_3 rfl 0 (by decide) (hts (.fieldLink RX10 78 "GradientDeskModel" "thrown" "I") (List.mem_of_getElem? (i := 1) rfl)) (fun _ h9 => h9) rfl (by decide +kernel) rfl rfl (Nat.le_of_ble_eq_true rfl) dX10_set_41 (fun H locs g_33 f_34 fr_35 hP hS => ?_)
          have f_34 : g_33 0 = .inr (13, Rob ad (va_up x 0 (nI 1))) := f_34
          refine lv_aload_n hx hb dX10_set_44 rfl (lv_at hl 0 rfl) ?_
          refine m_get (D := (dC, dI)) (v := .int (nI 1)) (C := RX10) (T := TX10) (N := 29) hx hb hts bk0 hown hK hP 0 (by decide) f_34 rfl 0 (by decide) (hts (.fieldLink RX10 78 "GradientDeskModel" "thrown" "I") (List.mem_of_getElem? (i := 1) rfl)) (fun _ h9 => h9) (congrArg (fun z => some (Value.int z)) (show (va_up x 0 (nI 1)) 0 = (nI 1) from rfl)) dX10_set_45 ?_
          refine lv_if_ne (tgt := 64) hx hb dX10_set_48 (by decide) (fun c_36 => ?_) (fun c_36 => absurd c_36 (by decide))
          refine W.widen (k := 0) (n := 0) (by omega) (by omega) ?_
          exact W.vret hx hb hr (fun t9 ht9 hW9 => ⟨⟨(g_33, va_up x 0 (nI 1)), rfl, ⟨RI.num hI0 (hF0.setx (fun (k : Nat) (hk : k = 1 ∨ k = 2 ∨ k = 3) => (fr_35 k (by omega)).trans (rfl)) f_34 rfl) (fun (k : Nat) (hk : (4 ≤ k ∧ k ≤ 11) ∨ k = 16) => (fr_35 k (by omega)).trans (rfl)) (hVO0.same (fun (k : Nat) (hk : 12 ≤ k ∧ k ≤ 19) => (fr_35 k (by omega)).trans (rfl))) (va_up_ne _ _ (by decide)) (va_up_ne _ _ (by decide)) (va_up_ne _ _ (by decide)) (fun _ _ => ⟨rfl, rfl⟩) hBd, (va_up_ne _ _ (by decide)), Or.inr ⟨by omega, va_up_self _ _ _⟩⟩, by show va_P (dC, dI) vwCl _ t9.heap; rw [ht9]; exact hP⟩, hS.F ht9⟩) hS.2.2 dX10_set_64
        · have c_32 := mt (k_lt (nI 9999) vp).mpr c_32
          rw [show (nI 9999).toInt = 9999 from by decide] at c_32
          refine lv_iload_n hx hb dX10_set_24 rfl (lv_at hl 3 rfl) ?_
          refine lv_iconst (v := nI 1) hx hb dX10_set_25 (by decide +kernel) ?_
          refine lv_icmp_lt (tgt := 36) hx hb dX10_set_26 (by decide) (fun c_37 => ?_) (fun c_37 => ?_)
          · have c_37 := (k_lt vq (nI 1)).mp c_37
            rw [show (nI 1).toInt = 1 from by decide] at c_37
            refine lv_iconst (v := nI 1) hx hb dX10_set_36 (by decide +kernel) ?_
            refine lv_goto (tgt := 41) hx hb dX10_set_37 (by decide) ?_
            refine m_put (D := (dC, dI)) (v := .int (nI 1)) (tv := .int) (C := RX10) (T := TX10) (N := 29) hx hb hts bk0 tyX10 tyX10_ok nmX10 hown hK hP hD hS 0 (by decide) r_3 rfl 0 (by decide) (hts (.fieldLink RX10 78 "GradientDeskModel" "thrown" "I") (List.mem_of_getElem? (i := 1) rfl)) (fun _ h9 => h9) rfl (by decide +kernel) rfl rfl (Nat.le_of_ble_eq_true rfl) dX10_set_41 (fun H locs g_38 f_39 fr_40 hP hS => ?_)
            have f_39 : g_38 0 = .inr (13, Rob ad (va_up x 0 (nI 1))) := f_39
            refine lv_aload_n hx hb dX10_set_44 rfl (lv_at hl 0 rfl) ?_
            refine m_get (D := (dC, dI)) (v := .int (nI 1)) (C := RX10) (T := TX10) (N := 29) hx hb hts bk0 hown hK hP 0 (by decide) f_39 rfl 0 (by decide) (hts (.fieldLink RX10 78 "GradientDeskModel" "thrown" "I") (List.mem_of_getElem? (i := 1) rfl)) (fun _ h9 => h9) (congrArg (fun z => some (Value.int z)) (show (va_up x 0 (nI 1)) 0 = (nI 1) from rfl)) dX10_set_45 ?_
            refine lv_if_ne (tgt := 64) hx hb dX10_set_48 (by decide) (fun c_41 => ?_) (fun c_41 => absurd c_41 (by decide))
            refine W.widen (k := 0) (n := 0) (by omega) (by omega) ?_
            exact W.vret hx hb hr (fun t9 ht9 hW9 => ⟨⟨(g_38, va_up x 0 (nI 1)), rfl, ⟨RI.num hI0 (hF0.setx (fun (k : Nat) (hk : k = 1 ∨ k = 2 ∨ k = 3) => (fr_40 k (by omega)).trans (rfl)) f_39 rfl) (fun (k : Nat) (hk : (4 ≤ k ∧ k ≤ 11) ∨ k = 16) => (fr_40 k (by omega)).trans (rfl)) (hVO0.same (fun (k : Nat) (hk : 12 ≤ k ∧ k ≤ 19) => (fr_40 k (by omega)).trans (rfl))) (va_up_ne _ _ (by decide)) (va_up_ne _ _ (by decide)) (va_up_ne _ _ (by decide)) (fun _ _ => ⟨rfl, rfl⟩) hBd, (va_up_ne _ _ (by decide)), Or.inr ⟨by omega, va_up_self _ _ _⟩⟩, by show va_P (dC, dI) vwCl _ t9.heap; rw [ht9]; exact hP⟩, hS.F ht9⟩) hS.2.2 dX10_set_64
          · have c_37 := mt (k_lt vq (nI 1)).mpr c_37
            rw [show (nI 1).toInt = 1 from by decide] at c_37
            refine lv_iload_n hx hb dX10_set_29 rfl (lv_at hl 3 rfl) ?_
            refine lv_sipush (v := nI 9999) hx hb dX10_set_30 (by decide +kernel) ?_
            refine lv_icmp_le (tgt := 40) hx hb dX10_set_33 (by decide) (fun c_42 => ?_) (fun c_42 => ?_)
            · have c_42 := (k_le vq (nI 9999)).mp c_42
              rw [show (nI 9999).toInt = 9999 from by decide] at c_42
              refine lv_iconst (v := nI 0) hx hb dX10_set_40 (by decide +kernel) ?_
              refine m_put (D := (dC, dI)) (v := .int (nI 0)) (tv := .int) (C := RX10) (T := TX10) (N := 29) hx hb hts bk0 tyX10 tyX10_ok nmX10 hown hK hP hD hS 0 (by decide) r_3 rfl 0 (by decide) (hts (.fieldLink RX10 78 "GradientDeskModel" "thrown" "I") (List.mem_of_getElem? (i := 1) rfl)) (fun _ h9 => h9) rfl (by decide +kernel) rfl rfl (Nat.le_of_ble_eq_true rfl) dX10_set_41 (fun H locs g_43 f_44 fr_45 hP hS => ?_)
              have f_44 : g_43 0 = .inr (13, Rob ad (va_up x 0 (nI 0))) := f_44
              refine lv_aload_n hx hb dX10_set_44 rfl (lv_at hl 0 rfl) ?_
              refine m_get (D := (dC, dI)) (v := .int (nI 0)) (C := RX10) (T := TX10) (N := 29) hx hb hts bk0 hown hK hP 0 (by decide) f_44 rfl 0 (by decide) (hts (.fieldLink RX10 78 "GradientDeskModel" "thrown" "I") (List.mem_of_getElem? (i := 1) rfl)) (fun _ h9 => h9) (congrArg (fun z => some (Value.int z)) (show (va_up x 0 (nI 0)) 0 = (nI 0) from rfl)) dX10_set_45 ?_
              refine lv_if_ne (tgt := 64) hx hb dX10_set_48 (by decide) (fun c_46 => absurd c_46 (by decide)) (fun c_46 => ?_)
              obtain ⟨vn, hvn, evn, -⟩ := k_nat (x := va) (by omega)
              obtain ⟨qn, hqn, eqn, -⟩ := k_nat (x := vq) (by omega)
              subst hvn; subst hqn
              refine lv_aload_n hx hb dX10_set_51 rfl (lv_at hl 0 rfl) ?_
              refine lv_sipush (v := nI 1008) hx hb dX10_set_52 (by decide +kernel) ?_
              refine lv_iload_n hx hb dX10_set_55 rfl (lv_at hl 1 rfl) ?_
              refine lv_iadd hx hb dX10_set_56 ?_
              refine lv_topi (fun x_47 e_48 => ?_)
              obtain rfl : x_47 = nI (1008 + vn) := e_48.trans (nI_add 1008 vn)
              refine lv_iload_n hx hb dX10_set_57 rfl (lv_at hl 2 rfl) ?_
              refine lv_i2l hx hb dX10_set_58 rfl ?_
              refine lv_topl (fun y_49 e_50 => ?_)
              refine lv_iload_n hx hb dX10_set_59 rfl (lv_at hl 3 rfl) ?_
              refine lv_i2l hx hb dX10_set_60 rfl ?_
              refine lv_topl (fun y_51 e_52 => ?_)
              obtain rfl : y_51 = lN qn := e_52.trans (nI_l (by omega))
              have hF1 : RF ad cA g_43 (va_up x 0 (nI 0)) pf qf := hF0.setx (fun (k : Nat) (hk : k = 1 ∨ k = 2 ∨ k = 3) => (fr_45 k (by omega)).trans (rfl)) f_44 rfl
              refine va_callv (va_runV (As := [.int (nI (1008 + vn)), .long y_49, .long (lN qn)]) (rest := []) ⟨hx, hb, hml, hown, hts⟩ (c_X10_setFraction l dC dI A ad cA g_43 (va_up x 0 (nI 0)) pf qf (1008 + vn) y_49 (lN qn) vp.toInt qn hF1 (by omega) (by rw [e_50]; exact Int32.toInt_toInt64 _) (by omega) (lN_toInt (by omega)) (by omega) (by omega)) (cwV 3 hts (goodIn_app (goodIn_r [Cond.methodLink RX10 139 yX10_setFraction, Cond.instanceMethod yX10_setFraction, Cond.selects RX10 yX10_setFraction yX10_setFraction, Cond.initialized RX10] [2, 3, 4, 5] rfl rfl) (goodIn_sub (fun w9 h9 => bk1 w9 h9) gw_X10_setFraction)) rfl rfl rfl (by decide +kernel) ⟨Nat.le_of_ble_eq_true rfl, Nat.le_of_ble_eq_true rfl⟩) ⟨fun a U g mk q => ⟨q.1, q.2.1, q.2.2.1, LY.moved (u := U) (U := U.calling g mk a) (Vm.Alike.refl U.vm) q.2.2.2⟩, va_recv hK hP (ci := 13) (q0 := 0) rfl (wo_at (by decide) f_44), fun U hU hW => ⟨rfl, by rw [hU]; exact fun q h => hA q (Nat.le_trans hS.1 h), by rw [hU]; exact hP, LY.moved hW.alike hL⟩⟩ rfl rfl hl.1 rfl (lv_room (Nat.le_of_ble_eq_true rfl)) dX10_set_61 ⟨(Nat.le_of_ble_eq_true rfl), (Nat.le_of_ble_eq_true rfl)⟩) hS (fun q _ h => h) (fun q h => h) (fun u8 t8 H1 locs ht8 hvm8 hw_53 hB hz1 hk1 hS => ?_)
              obtain ⟨g_54, rfl⟩ : ∃ z, z = u8 := ⟨_, rfl⟩
              try dsimp only at hw_53 hB
              rw [ht8] at hB
              have hP := hB
              generalize H1 = H at hP hS ⊢
              obtain ⟨fr_55, hF2⟩ := hw_53
              have hrl := rd_le vp.toInt (show 0 < qn by omega)
              have hrd := rd_red vp.toInt (show 0 < qn by omega)
              refine W.widen (k := 0) (n := 0) (by omega) (by omega) ?_
              exact W.vret hx hb hr (fun t9 ht9 hW9 => ⟨⟨(g_54, va_up x 0 (nI 0)), rfl, ⟨RI.num hI0 hF2 (fun (k : Nat) (hk : (4 ≤ k ∧ k ≤ 11) ∨ k = 16) => (fr_55 k (by omega)).trans ((fr_45 k (by omega)).trans (rfl))) (hVO0.same (fun (k : Nat) (hk : 12 ≤ k ∧ k ≤ 19) => (fr_55 k (by omega)).trans ((fr_45 k (by omega)).trans (rfl)))) (va_up_ne _ _ (by decide)) (va_up_ne _ _ (by decide)) (va_up_ne _ _ (by decide)) (fun f hf => ⟨va_up_ne _ _ (by omega), va_up_ne _ _ (by omega)⟩) (hBd.res (fun r9 h9 => Or.inl ⟨va_up_ne _ _ (by omega), va_up_ne _ _ (by omega)⟩) (fun v9 h9 => by by_cases h8 : v9 = vn; subst h8; exact Or.inr ⟨by rw [va_up_self]; omega, by rw [va_up_self]; exact hrd.1, by rw [va_up_self]; omega⟩; exact Or.inl ⟨va_up_ne _ _ (by omega), va_up_ne _ _ (by omega)⟩)), (va_up_ne _ _ (by decide)), Or.inl ⟨by omega, va_up_self _ _ _⟩⟩, by show va_P (dC, dI) vwCl _ t9.heap; rw [ht9]; exact hP⟩, hS.F ht9⟩) hS.2.2 dX10_set_64
            · have c_42 := mt (k_le vq (nI 9999)).mpr c_42
              rw [show (nI 9999).toInt = 9999 from by decide] at c_42
              refine lv_iconst (v := nI 1) hx hb dX10_set_36 (by decide +kernel) ?_
              refine lv_goto (tgt := 41) hx hb dX10_set_37 (by decide) ?_
              refine m_put (D := (dC, dI)) (v := .int (nI 1)) (tv := .int) (C := RX10) (T := TX10) (N := 29) hx hb hts bk0 tyX10 tyX10_ok nmX10 hown hK hP hD hS 0 (by decide) r_3 rfl 0 (by decide) (hts (.fieldLink RX10 78 "GradientDeskModel" "thrown" "I") (List.mem_of_getElem? (i := 1) rfl)) (fun _ h9 => h9) rfl (by decide +kernel) rfl rfl (Nat.le_of_ble_eq_true rfl) dX10_set_41 (fun H locs g_56 f_57 fr_58 hP hS => ?_)
              have f_57 : g_56 0 = .inr (13, Rob ad (va_up x 0 (nI 1))) := f_57
              refine lv_aload_n hx hb dX10_set_44 rfl (lv_at hl 0 rfl) ?_
              refine m_get (D := (dC, dI)) (v := .int (nI 1)) (C := RX10) (T := TX10) (N := 29) hx hb hts bk0 hown hK hP 0 (by decide) f_57 rfl 0 (by decide) (hts (.fieldLink RX10 78 "GradientDeskModel" "thrown" "I") (List.mem_of_getElem? (i := 1) rfl)) (fun _ h9 => h9) (congrArg (fun z => some (Value.int z)) (show (va_up x 0 (nI 1)) 0 = (nI 1) from rfl)) dX10_set_45 ?_
              refine lv_if_ne (tgt := 64) hx hb dX10_set_48 (by decide) (fun c_59 => ?_) (fun c_59 => absurd c_59 (by decide))
              refine W.widen (k := 0) (n := 0) (by omega) (by omega) ?_
              exact W.vret hx hb hr (fun t9 ht9 hW9 => ⟨⟨(g_56, va_up x 0 (nI 1)), rfl, ⟨RI.num hI0 (hF0.setx (fun (k : Nat) (hk : k = 1 ∨ k = 2 ∨ k = 3) => (fr_58 k (by omega)).trans (rfl)) f_57 rfl) (fun (k : Nat) (hk : (4 ≤ k ∧ k ≤ 11) ∨ k = 16) => (fr_58 k (by omega)).trans (rfl)) (hVO0.same (fun (k : Nat) (hk : 12 ≤ k ∧ k ≤ 19) => (fr_58 k (by omega)).trans (rfl))) (va_up_ne _ _ (by decide)) (va_up_ne _ _ (by decide)) (va_up_ne _ _ (by decide)) (fun _ _ => ⟨rfl, rfl⟩) hBd, (va_up_ne _ _ (by decide)), Or.inr ⟨by omega, va_up_self _ _ _⟩⟩, by show va_P (dC, dI) vwCl _ t9.heap; rw [ht9]; exact hP⟩, hS.F ht9⟩) hS.2.2 dX10_set_64
end
section
def cntB (rc : Nat → Nat) : Nat → Nat
  | 0 => 0
  | n + 1 => if rc n = 0 then cntB rc n else cntB rc n + 1
theorem VO.reach {cA : Nat → ClassId} {g g2 : Nat → va_E} {rc : Nat → Nat} (h : VO cA g) (h12 : g2 12 = .inl (cA 12, 200, .inl (fun j => nI (rc j)))) (hb : ∀ j, rc j < 2) (hf : ∀ k, 13 ≤ k ∧ k ≤ 19 → g2 k = g k) : VO cA g2 := by
  obtain ⟨-, ⟨f1, a1⟩, ⟨f2, a2⟩, ⟨f3, a3⟩, ⟨f4, a4⟩, ⟨f5, a5⟩, ⟨f6, a6⟩, ⟨f7, a7⟩⟩ := h
  exact ⟨⟨rc, h12, hb⟩, ⟨f1, (hf _ (by decide)).trans a1⟩, ⟨f2, (hf _ (by decide)).trans a2⟩, ⟨f3, (hf _ (by decide)).trans a3⟩, ⟨f4, (hf _ (by decide)).trans a4⟩, ⟨f5, (hf _ (by decide)).trans a5⟩, ⟨f6, (hf _ (by decide)).trans a6⟩, ⟨f7, (hf _ (by decide)).trans a7⟩⟩
theorem cntB_s {rc : Nat → Nat} {n : Nat} : cntB rc (n + 1) = if rc n = 0 then cntB rc n else cntB rc n + 1 := rfl
theorem RF.obj {ad : Nat → Nat} {cA : Nat → ClassId} {g : Nat → va_E} {x : Nat → Int32} {pf : Nat → Int} {qf : Nat → Nat} (h : RF ad cA g x pf qf) : g 0 = .inr (13, Rob ad x) := by
  obtain ⟨vf, ⟨pn, ln, bn, hN, -⟩, -⟩ := h
  exact hN.1
end
