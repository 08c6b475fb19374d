section
def wd_X10_makeSum : List Cond := .code yX10_makeSum cX10_makeSum 5 (some .int) :: (([.fieldLink RX10 146 "GradientDeskModel" "fault" "I", .fieldLink RX10 29 "GradientDeskModel" "sort" "[I", .methodLink RX10 174 yX10_isNumber, .instanceMethod yX10_isNumber, .selects RX10 yX10_isNumber yX10_isNumber, .initialized RX10, .fieldLink RX10 41 "GradientDeskModel" "sizeN" "[I", .fieldLink RX10 44 "GradientDeskModel" "sizeD" "[I", .fieldLink RX10 38 "GradientDeskModel" "degree" "[I", .methodLink RX10 160 yX10_describe, .instanceMethod yX10_describe, .selects RX10 yX10_describe yX10_describe, .methodLink RX10 171 yX10_addFractions, .instanceMethod yX10_addFractions, .selects RX10 yX10_addFractions yX10_addFractions, .methodLink RX10 164 yX10_makeNumber, .instanceMethod yX10_makeNumber, .selects RX10 yX10_makeNumber yX10_makeNumber] : List Cond) ++ (u_ws RX10 TX10 29 ++ (wd_X10_isNumber ++ (wd_X10_describe ++ (wd_X10_addFractions ++ (wd_X10_makeNumber ++ ([])))))))
theorem gw_X10_makeSum : wd_X10_makeSum.all goodWord = true := k_allc rfl (k_all (by decide +kernel) (k_all (gu_X10) (k_all (gw_X10_isNumber) (k_all (gw_X10_describe) (k_all (gw_X10_addFractions) (k_all (gw_X10_makeNumber) (rfl)))))))
set_option maxHeartbeats 4000000 in
set_option maxRecDepth 100000 in
theorem c_X10_makeSum (l : Launch) (dC : Nat → ClassId) (dI : Nat → Nat → Nat) (A : Nat → Prop) (ad : Nat → Nat) (cA : Nat → ClassId) (g : Nat → va_E) (x : Nat → Int32) (pf : Nat → Int) (qf : Nat → Nat) (pt : Nat → Nat → Int) (L : List PD) (x1 : Nat) (y1 : Nat) (ft : Int) (hF : RF ad cA g x pf qf) (hPt : PTF cA g pt) (hM : MT L pt pf qf) (hmd : x 3 = nI L.length) (hL2 : L.length ≤ 200) (hft : x 4 = iI ft) (hfr : ft = 0 ∨ (ft < 0 ∧ -4 ≤ ft)) (hW : WFL L) (ix : x1 < L.length) (iy : y1 < L.length) : Met l yX10_makeSum wd_X10_makeSum ({ frames := 80, cells := 0, slots := 0, locals := 1600 }) (va_Pc [.ref (ad 0), .int (nI x1), .int (nI y1)] (PR NSr tyr dC dI A ad cA g)) (va_Qi (fun (r : Int32) => fun (u : (Nat → va_E) × (Nat → Int32) × (Nat → Nat → Int) × (Nat → Int) × (Nat → Nat)) => match u with | (g2, x2, pt2, pf2, qf2) => (∀ k, k ≠ 0 ∧ k ≠ 1 ∧ k ≠ 2 ∧ k ≠ 3 ∧ k ≠ 5 ∧ k ≠ 6 ∧ k ≠ 7 ∧ k ≠ 8 ∧ k ≠ 9 ∧ k ≠ 10 → g2 k = g k) ∧ MKP ad cA g2 x x2 pf qf (onF ft L (sumL L x1 y1)) r pt2 pf2 qf2) (fun (u : (Nat → va_E) × (Nat → Int32) × (Nat → Nat → Int) × (Nat → Int) × (Nat → Nat)) (t : State) => va_P (dC, dI) vwCl (wo ad NSr u.1) t.heap) A) (0) (0) A := by
  refine Met.ofW (cc := cX10_makeSum) (maxL := 5) (ret := (some .int)) (by decide) rfl ?_
  intro p e s m args below meth c s₁ B hml hv
  obtain ⟨rfl, hA, hP, hL⟩ := hv
  have hx := B.exec
  have hb := B.bytes
  have hr := B.returns
  have hts := atoms_spec (ws := wd_X10_makeSum) B.pre
  have hown : s.vm.findClass RX10 = some m.cls := findClass_of_methodNamed B.named
  have hlocks := B.notSynchronized
  have hK := hL.1
  have hD : ∀ g, va_D A (wo ad NSr g) := fun g => wo_D hL.2.1 hL.2.2 g
  have hS : va_S A s.heap s.heap [] := va_S.rf
  have bk0 : ∀ w ∈ u_ws RX10 TX10 29, w ∈ wd_X10_makeSum := fun _ h => List.mem_cons_of_mem _ (List.mem_append_right _ (List.mem_append_left _ h))
  have bk1 : ∀ w ∈ wd_X10_isNumber, w ∈ wd_X10_makeSum := fun _ h => List.mem_cons_of_mem _ (List.mem_append_right _ (List.mem_append_right _ (List.mem_append_left _ h)))
  have bk2 : ∀ w ∈ wd_X10_describe, w ∈ wd_X10_makeSum := fun _ h => List.mem_cons_of_mem _ (List.mem_append_right _ (List.mem_append_right _ (List.mem_append_right _ (List.mem_append_left _ h))))
  have bk3 : ∀ w ∈ wd_X10_addFractions, w ∈ wd_X10_makeSum := fun _ h => List.mem_cons_of_mem _ (List.mem_append_right _ (List.mem_append_right _ (List.mem_append_right _ (List.mem_append_right _ (List.mem_append_left _ h)))))
  have bk4 : ∀ w ∈ wd_X10_makeNumber, w ∈ wd_X10_makeSum := fun _ h => List.mem_cons_of_mem _ (List.mem_append_right _ (List.mem_append_right _ (List.mem_append_right _ (List.mem_append_right _ (List.mem_append_right _ (List.mem_append_left _ h))))))
  have hl := lv_entry ([.ref (ad 0), .int (nI x1), .int (nI y1)]) (n := 5) (Nat.le_of_ble_eq_true rfl)
  rw [lg_entry_eq]
  generalize (lg_sl ([.ref (ad 0), .int (nI x1), .int (nI y1)]) ++ List.replicate (5 - (lg_sl ([.ref (ad 0), .int (nI x1), .int (nI y1)])).length) Slot.unset).toArray = ls at hl ⊢
  have hl : lv_has ls 5 [(0, .ref (ad 0)), (1, .int (nI x1)), (2, .int (nI y1))] := hl
  have hF0 := hF
  obtain ⟨vf, hV, hq⟩ := hF
  have hc_1 := hV
  obtain ⟨pnz_2, lnz_2, bnz_2, hRz_2, hvz_2⟩ := hc_1
  obtain ⟨r_3, r_4, r_5, r_6, r_7, r_8, r_9⟩ := hRz_2
  obtain ⟨p_10, p_11, p_12, p_13, p_14, p_15, hpt_16⟩ := hPt
  have hPt0 : PTF cA g pt := ⟨p_10, p_11, p_12, p_13, p_14, p_15, hpt_16⟩
  obtain ⟨a0x1, a1x1, a2x1, a3x1, a4x1, a5x1, a6x1⟩ := hM x1 ix
  obtain ⟨w1x1, w2x1, w3x1, w4x1, w5x1, -, w7x1, -⟩ := hW x1 ix
  obtain ⟨a0y1, a1y1, a2y1, a3y1, a4y1, a5y1, a6y1⟩ := hM y1 iy
  obtain ⟨w1y1, w2y1, w3y1, w4y1, w5y1, -, w7y1, -⟩ := hW y1 iy
  refine lv_aload_n hx hb dX10_makeSum_0 rfl (lv_at hl 0 rfl) ?_
  refine m_get (D := (dC, dI)) (v := .int (iI ft)) (C := RX10) (T := TX10) (N := 29) hx hb hts bk0 hown hK hP 0 (by decide) r_3 rfl 14 (by decide) (hts (.fieldLink RX10 146 "GradientDeskModel" "fault" "I") (List.mem_of_getElem? (i := 1) rfl)) (fun _ h9 => h9) (congrArg (fun z => some (Value.int z)) hft) dX10_makeSum_1 ?_
  refine lv_if_ge (tgt := 9) hx hb dX10_makeSum_4 (by decide) (fun c_17 => ?_) (fun c_17 => ?_)
  · have c_17 := (k_iLE (a := 0) (b := ft) (show nI 0 = iI 0 from by decide) rfl (by omega) (by omega)).mp c_17
    obtain rfl : ft = 0 := by omega
    refine lv_aload_n hx hb dX10_makeSum_9 rfl (lv_at hl 0 rfl) ?_
    refine m_get (D := (dC, dI)) (v := .ref (ad 5)) (C := RX10) (T := TX10) (N := 29) hx hb hts bk0 hown hK hP 0 (by decide) r_3 rfl 7 (by decide) (hts (.fieldLink RX10 29 "GradientDeskModel" "sort" "[I") (List.mem_of_getElem? (i := 2) rfl)) (fun _ h9 => h9) rfl dX10_makeSum_10 ?_
    refine lv_iload_n hx hb dX10_makeSum_13 rfl (lv_at hl 1 rfl) ?_
    refine m_iald hx hb hK hP 5 (by decide) rfl p_10 (i := x1) (by omega) (by decide) dX10_makeSum_14 ?_
    have b_18 := (hpt_16 0) x1
    refine lv_if_ne (tgt := 41) hx hb dX10_makeSum_15 (by decide) (fun c_19 => ?_) (fun c_19 => ?_)
    · have c_19 := mt (k_iEQ (a := (pt 0) x1) (b := 0) rfl (show nI 0 = iI 0 from by decide) (by omega) (by omega)).mpr c_19
      refine lv_aload_n hx hb dX10_makeSum_41 rfl (lv_at hl 0 rfl) ?_
      refine lv_iload_n hx hb dX10_makeSum_42 rfl (lv_at hl 1 rfl) ?_
      refine lv_lconst (v := lN 0) hx hb dX10_makeSum_43 (by decide +kernel) ?_
      refine va_calli (va_runV (As := [.int (nI x1), .long (lN 0)]) (rest := []) ⟨hx, hb, hml, hown, hts⟩ (c_X10_isNumber l dC dI A ad cA g x pf qf pt L x1 0 hF0 hPt0 hM hL2 ix (by decide)) (cwV 2 hts (goodIn_app (goodIn_r [Cond.methodLink RX10 174 yX10_isNumber, Cond.instanceMethod yX10_isNumber, Cond.selects RX10 yX10_isNumber yX10_isNumber, Cond.initialized RX10] [3, 4, 5, 6] rfl rfl) (goodIn_sub (fun w9 h9 => bk1 w9 h9) gw_X10_isNumber)) rfl rfl rfl (by decide +kernel) ⟨Nat.le_of_ble_eq_true rfl, Nat.le_of_ble_eq_true rfl⟩) ⟨fun a U g mk q => ⟨q.1, q.2.1, q.2.2.1, LY.moved (u := U) (U := U.calling g mk a) (Vm.Alike.refl U.vm) q.2.2.2⟩, va_recv hK hP (ci := 13) (q0 := 0) rfl (wo_at (by decide) r_3), fun U hU hW => ⟨rfl, by rw [hU]; exact fun q h => hA q (Nat.le_trans hS.1 h), by rw [hU]; exact hP, LY.moved hW.alike hL⟩⟩ rfl rfl hl.1 rfl (lv_room (Nat.le_of_ble_eq_true rfl)) dX10_makeSum_44 ⟨(Nat.le_of_ble_eq_true rfl), (Nat.le_of_ble_eq_true rfl)⟩) hS (fun q _ h => h) (fun q h => h) (fun r_20 u8 t8 H1 locs ht8 hvm8 hw_21 hB hz1 hk1 hS => ?_)
      obtain ⟨⟩ := u8
      try dsimp only at hw_21 hB
      rw [ht8] at hB
      have hP := hB
      generalize H1 = H at hP hS ⊢
      rcases hw_21 with ⟨rfl, hi0⟩ | ⟨rfl, hi0⟩
      · skip
        have hi0 : isN (gd L x1) 0 = true := hi0
        refine lv_if_ne (tgt := 59) hx hb dX10_makeSum_47 (by decide) (fun c_22 => ?_) (fun c_22 => absurd c_22 (by decide))
        refine lv_aload_n hx hb dX10_makeSum_59 rfl (lv_at hl 0 rfl) ?_
        refine lv_iload_n hx hb dX10_makeSum_60 rfl (lv_at hl 1 rfl) ?_
        refine lv_lconst (v := lN 0) hx hb dX10_makeSum_61 (by decide +kernel) ?_
        refine va_calli (va_runV (As := [.int (nI x1), .long (lN 0)]) (rest := []) ⟨hx, hb, hml, hown, hts⟩ (c_X10_isNumber l dC dI A ad cA g x pf qf pt L x1 0 hF0 hPt0 hM hL2 ix (by decide)) (cwV 2 hts (goodIn_app (goodIn_r [Cond.methodLink RX10 174 yX10_isNumber, Cond.instanceMethod yX10_isNumber, Cond.selects RX10 yX10_isNumber yX10_isNumber, Cond.initialized RX10] [3, 4, 5, 6] rfl rfl) (goodIn_sub (fun w9 h9 => bk1 w9 h9) gw_X10_isNumber)) rfl rfl rfl (by decide +kernel) ⟨Nat.le_of_ble_eq_true rfl, Nat.le_of_ble_eq_true rfl⟩) ⟨fun a U g mk q => ⟨q.1, q.2.1, q.2.2.1, LY.moved (u := U) (U := U.calling g mk a) (Vm.Alike.refl U.vm) q.2.2.2⟩, va_recv hK hP (ci := 13) (q0 := 0) rfl (wo_at (by decide) r_3), fun U hU hW => ⟨rfl, by rw [hU]; exact fun q h => hA q (Nat.le_trans hS.1 h), by rw [hU]; exact hP, LY.moved hW.alike hL⟩⟩ rfl rfl hl.1 rfl (lv_room (Nat.le_of_ble_eq_true rfl)) dX10_makeSum_62 ⟨(Nat.le_of_ble_eq_true rfl), (Nat.le_of_ble_eq_true rfl)⟩) hS (fun q _ h => h) (fun q h => h) (fun r_23 u8 t8 H1 locs ht8 hvm8 hw_24 hB hz1 hk1 hS => ?_)
        obtain ⟨⟩ := u8
        try dsimp only at hw_24 hB
        rw [ht8] at hB
        have hP := hB
        generalize H1 = H at hP hS ⊢
        rcases hw_24 with ⟨rfl, hi2⟩ | ⟨rfl, hi2⟩
        · skip
          have hi2 : isN (gd L x1) 0 = true := hi2
          refine lv_if_eq (tgt := 72) hx hb dX10_makeSum_65 (by decide) (fun c_25 => absurd c_25 (by decide)) (fun c_25 => ?_)
          refine lv_iload_n hx hb dX10_makeSum_68 rfl (lv_at hl 2 rfl) ?_
          refine lv_goto (tgt := 73) hx hb dX10_makeSum_69 (by decide) ?_
          refine W.widen (k := 0) (n := 0) (by omega) (by omega) ?_
          exact W.iret (v := nI y1) hx hb hr (fun t9 ht9 hW9 => ⟨⟨nI y1, (g, x, pt, pf, qf), rfl, ⟨(fun (k : Nat) (hk : k ≠ 0 ∧ k ≠ 1 ∧ k ≠ 2 ∧ k ≠ 3 ∧ k ≠ 5 ∧ k ≠ 6 ∧ k ≠ 7 ∧ k ≠ 8 ∧ k ≠ 9 ∧ k ≠ 10) => rfl), MKP.old (i := y1) (by rw [onF_0]; unfold sumL; rw [if_neg (show ¬ ((gd L x1).1 = 0 ∧ (gd L y1).1 = 0) from by omega), if_pos hi0]) iy hF0 hPt0 hM hL2 hmd hft⟩, by show va_P (dC, dI) vwCl _ t9.heap; rw [ht9]; exact hP⟩, hS.F ht9⟩) hS.2.2 dX10_makeSum_73
        · exact absurd (hi0.symm.trans (show isN (gd L x1) 0 = false from hi2)) (by decide)
      · skip
        have hi0 : isN (gd L x1) 0 = false := hi0
        refine lv_if_ne (tgt := 59) hx hb dX10_makeSum_47 (by decide) (fun c_26 => absurd c_26 (by decide)) (fun c_26 => ?_)
        refine lv_aload_n hx hb dX10_makeSum_50 rfl (lv_at hl 0 rfl) ?_
        refine lv_iload_n hx hb dX10_makeSum_51 rfl (lv_at hl 2 rfl) ?_
        refine lv_lconst (v := lN 0) hx hb dX10_makeSum_52 (by decide +kernel) ?_
        refine va_calli (va_runV (As := [.int (nI y1), .long (lN 0)]) (rest := []) ⟨hx, hb, hml, hown, hts⟩ (c_X10_isNumber l dC dI A ad cA g x pf qf pt L y1 0 hF0 hPt0 hM hL2 iy (by decide)) (cwV 2 hts (goodIn_app (goodIn_r [Cond.methodLink RX10 174 yX10_isNumber, Cond.instanceMethod yX10_isNumber, Cond.selects RX10 yX10_isNumber yX10_isNumber, Cond.initialized RX10] [3, 4, 5, 6] rfl rfl) (goodIn_sub (fun w9 h9 => bk1 w9 h9) gw_X10_isNumber)) rfl rfl rfl (by decide +kernel) ⟨Nat.le_of_ble_eq_true rfl, Nat.le_of_ble_eq_true rfl⟩) ⟨fun a U g mk q => ⟨q.1, q.2.1, q.2.2.1, LY.moved (u := U) (U := U.calling g mk a) (Vm.Alike.refl U.vm) q.2.2.2⟩, va_recv hK hP (ci := 13) (q0 := 0) rfl (wo_at (by decide) r_3), fun U hU hW => ⟨rfl, by rw [hU]; exact fun q h => hA q (Nat.le_trans hS.1 h), by rw [hU]; exact hP, LY.moved hW.alike hL⟩⟩ rfl rfl hl.1 rfl (lv_room (Nat.le_of_ble_eq_true rfl)) dX10_makeSum_53 ⟨(Nat.le_of_ble_eq_true rfl), (Nat.le_of_ble_eq_true rfl)⟩) hS (fun q _ h => h) (fun q h => h) (fun r_27 u8 t8 H1 locs ht8 hvm8 hw_28 hB hz1 hk1 hS => ?_)
        obtain ⟨⟩ := u8
        try dsimp only at hw_28 hB
        rw [ht8] at hB
        have hP := hB
        generalize H1 = H at hP hS ⊢
        rcases hw_28 with ⟨rfl, hi1⟩ | ⟨rfl, hi1⟩
        · skip
          have hi1 : isN (gd L y1) 0 = true := hi1
          refine lv_if_eq (tgt := 74) hx hb dX10_makeSum_56 (by decide) (fun c_29 => absurd c_29 (by decide)) (fun c_29 => ?_)
          refine lv_aload_n hx hb dX10_makeSum_59 rfl (lv_at hl 0 rfl) ?_
          refine lv_iload_n hx hb dX10_makeSum_60 rfl (lv_at hl 1 rfl) ?_
          refine lv_lconst (v := lN 0) hx hb dX10_makeSum_61 (by decide +kernel) ?_
          refine va_calli (va_runV (As := [.int (nI x1), .long (lN 0)]) (rest := []) ⟨hx, hb, hml, hown, hts⟩ (c_X10_isNumber l dC dI A ad cA g x pf qf pt L x1 0 hF0 hPt0 hM hL2 ix (by decide)) (cwV 2 hts (goodIn_app (goodIn_r [Cond.methodLink RX10 174 yX10_isNumber, Cond.instanceMethod yX10_isNumber, Cond.selects RX10 yX10_isNumber yX10_isNumber, Cond.initialized RX10] [3, 4, 5, 6] rfl rfl) (goodIn_sub (fun w9 h9 => bk1 w9 h9) gw_X10_isNumber)) rfl rfl rfl (by decide +kernel) ⟨Nat.le_of_ble_eq_true rfl, Nat.le_of_ble_eq_true rfl⟩) ⟨fun a U g mk q => ⟨q.1, q.2.1, q.2.2.1, LY.moved (u := U) (U := U.calling g mk a) (Vm.Alike.refl U.vm) q.2.2.2⟩, va_recv hK hP (ci := 13) (q0 := 0) rfl (wo_at (by decide) r_3), fun U hU hW => ⟨rfl, by rw [hU]; exact fun q h => hA q (Nat.le_trans hS.1 h), by rw [hU]; exact hP, LY.moved hW.alike hL⟩⟩ rfl rfl hl.1 rfl (lv_room (Nat.le_of_ble_eq_true rfl)) dX10_makeSum_62 ⟨(Nat.le_of_ble_eq_true rfl), (Nat.le_of_ble_eq_true rfl)⟩) hS (fun q _ h => h) (fun q h => h) (fun r_30 u8 t8 H1 locs ht8 hvm8 hw_31 hB hz1 hk1 hS => ?_)
          obtain ⟨⟩ := u8
          try dsimp only at hw_31 hB
          rw [ht8] at hB
          have hP := hB
          generalize H1 = H at hP hS ⊢
          rcases hw_31 with ⟨rfl, hi2⟩ | ⟨rfl, hi2⟩
          · exact absurd (hi0.symm.trans (show isN (gd L x1) 0 = true from hi2)) (by decide)
          · skip
            have hi2 : isN (gd L x1) 0 = false := hi2
            refine lv_if_eq (tgt := 72) hx hb dX10_makeSum_65 (by decide) (fun c_32 => ?_) (fun c_32 => absurd c_32 (by decide))
            refine lv_iload_n hx hb dX10_makeSum_72 rfl (lv_at hl 1 rfl) ?_
            refine W.widen (k := 0) (n := 0) (by omega) (by omega) ?_
            exact W.iret (v := nI x1) hx hb hr (fun t9 ht9 hW9 => ⟨⟨nI x1, (g, x, pt, pf, qf), rfl, ⟨(fun (k : Nat) (hk : k ≠ 0 ∧ k ≠ 1 ∧ k ≠ 2 ∧ k ≠ 3 ∧ k ≠ 5 ∧ k ≠ 6 ∧ k ≠ 7 ∧ k ≠ 8 ∧ k ≠ 9 ∧ k ≠ 10) => rfl), MKP.old (i := x1) (by rw [onF_0]; unfold sumL; rw [if_neg (show ¬ ((gd L x1).1 = 0 ∧ (gd L y1).1 = 0) from by omega), if_neg (by rw [hi0]; decide), if_pos hi1]) ix hF0 hPt0 hM hL2 hmd hft⟩, by show va_P (dC, dI) vwCl _ t9.heap; rw [ht9]; exact hP⟩, hS.F ht9⟩) hS.2.2 dX10_makeSum_73
        · skip
          have hi1 : isN (gd L y1) 0 = false := hi1
          refine lv_if_eq (tgt := 74) hx hb dX10_makeSum_56 (by decide) (fun c_33 => ?_) (fun c_33 => absurd c_33 (by decide))
          refine lv_aload_n hx hb dX10_makeSum_74 rfl (lv_at hl 0 rfl) ?_
          refine m_get (D := (dC, dI)) (v := .ref (ad 9)) (C := RX10) (T := TX10) (N := 29) hx hb hts bk0 hown hK hP 0 (by decide) r_3 rfl 11 (by decide) (hts (.fieldLink RX10 41 "GradientDeskModel" "sizeN" "[I") (List.mem_of_getElem? (i := 7) rfl)) (fun _ h9 => h9) rfl dX10_makeSum_75 ?_
          refine lv_iload_n hx hb dX10_makeSum_78 rfl (lv_at hl 1 rfl) ?_
          refine m_iald hx hb hK hP 9 (by decide) rfl p_14 (i := x1) (by omega) (by decide) dX10_makeSum_79 ?_
          have b_34 := (hpt_16 4) x1
          refine lv_aload_n hx hb dX10_makeSum_80 rfl (lv_at hl 0 rfl) ?_
          refine m_get (D := (dC, dI)) (v := .ref (ad 10)) (C := RX10) (T := TX10) (N := 29) hx hb hts bk0 hown hK hP 0 (by decide) r_3 rfl 12 (by decide) (hts (.fieldLink RX10 44 "GradientDeskModel" "sizeD" "[I") (List.mem_of_getElem? (i := 8) rfl)) (fun _ h9 => h9) rfl dX10_makeSum_81 ?_
          refine lv_iload_n hx hb dX10_makeSum_84 rfl (lv_at hl 2 rfl) ?_
          refine m_iald hx hb hK hP 10 (by decide) rfl p_15 (i := y1) (by omega) (by decide) dX10_makeSum_85 ?_
          have b_35 := (hpt_16 5) y1
          refine lv_iadd hx hb dX10_makeSum_86 ?_
          refine lv_topi (fun x_36 e_37 => ?_)
          obtain rfl : x_36 = iI (((pt 4) x1) + ((pt 5) y1)) := e_37.trans (iI_addP rfl rfl)
          refine lv_istore_n (lv' := [(3, .int (iI (((pt 4) x1) + ((pt 5) y1)))), (0, .ref (ad 0)), (1, .int (nI x1)), (2, .int (nI y1))]) hx hb dX10_makeSum_87 rfl hl (by decide) rfl (fun ls hl => ?_)
          refine lv_aload_n hx hb dX10_makeSum_88 rfl (lv_at hl 1 rfl) ?_
          refine m_get (D := (dC, dI)) (v := .ref (ad 9)) (C := RX10) (T := TX10) (N := 29) hx hb hts bk0 hown hK hP 0 (by decide) r_3 rfl 11 (by decide) (hts (.fieldLink RX10 41 "GradientDeskModel" "sizeN" "[I") (List.mem_of_getElem? (i := 7) rfl)) (fun _ h9 => h9) rfl dX10_makeSum_89 ?_
          refine lv_iload_n hx hb dX10_makeSum_92 rfl (lv_at hl 3 rfl) ?_
          refine m_iald hx hb hK hP 9 (by decide) rfl p_14 (i := y1) (by omega) (by decide) dX10_makeSum_93 ?_
          have b_38 := (hpt_16 4) y1
          refine lv_aload_n hx hb dX10_makeSum_94 rfl (lv_at hl 1 rfl) ?_
          refine m_get (D := (dC, dI)) (v := .ref (ad 10)) (C := RX10) (T := TX10) (N := 29) hx hb hts bk0 hown hK hP 0 (by decide) r_3 rfl 12 (by decide) (hts (.fieldLink RX10 44 "GradientDeskModel" "sizeD" "[I") (List.mem_of_getElem? (i := 8) rfl)) (fun _ h9 => h9) rfl dX10_makeSum_95 ?_
          refine lv_iload_n hx hb dX10_makeSum_98 rfl (lv_at hl 2 rfl) ?_
          refine m_iald hx hb hK hP 10 (by decide) rfl p_15 (i := x1) (by omega) (by decide) dX10_makeSum_99 ?_
          have b_39 := (hpt_16 5) x1
          refine lv_iadd hx hb dX10_makeSum_100 ?_
          refine lv_topi (fun x_40 e_41 => ?_)
          obtain rfl : x_40 = iI (((pt 4) y1) + ((pt 5) x1)) := e_41.trans (iI_addP rfl rfl)
          refine lv_istore (lv' := [(4, .int (iI (((pt 4) y1) + ((pt 5) x1)))), (3, .int (iI (((pt 4) x1) + ((pt 5) y1)))), (0, .ref (ad 0)), (1, .int (nI x1)), (2, .int (nI y1))]) hx hb dX10_makeSum_101 hl (by decide) rfl (fun ls hl => ?_)
          refine lv_aload_n hx hb dX10_makeSum_103 rfl (lv_at hl 2 rfl) ?_
          refine lv_iconst (v := nI 2) hx hb dX10_makeSum_104 (by decide +kernel) ?_
          refine lv_iload_n hx hb dX10_makeSum_105 rfl (lv_at hl 3 rfl) ?_
          refine lv_iload_n hx hb dX10_makeSum_106 rfl (lv_at hl 4 rfl) ?_
          refine lv_aload_n hx hb dX10_makeSum_107 rfl (lv_at hl 2 rfl) ?_
          refine m_get (D := (dC, dI)) (v := .ref (ad 8)) (C := RX10) (T := TX10) (N := 29) hx hb hts bk0 hown hK hP 0 (by decide) r_3 rfl 10 (by decide) (hts (.fieldLink RX10 38 "GradientDeskModel" "degree" "[I") (List.mem_of_getElem? (i := 9) rfl)) (fun _ h9 => h9) rfl dX10_makeSum_108 ?_
          refine lv_iload_n hx hb dX10_makeSum_111 rfl (lv_at hl 3 rfl) ?_
          refine m_iald hx hb hK hP 8 (by decide) rfl p_13 (i := x1) (by omega) (by decide) dX10_makeSum_112 ?_
          have b_42 := (hpt_16 3) x1
          refine lv_aload_n hx hb dX10_makeSum_113 rfl (lv_at hl 2 rfl) ?_
          refine m_get (D := (dC, dI)) (v := .ref (ad 8)) (C := RX10) (T := TX10) (N := 29) hx hb hts bk0 hown hK hP 0 (by decide) r_3 rfl 10 (by decide) (hts (.fieldLink RX10 38 "GradientDeskModel" "degree" "[I") (List.mem_of_getElem? (i := 9) rfl)) (fun _ h9 => h9) rfl dX10_makeSum_114 ?_
          refine lv_iload_n hx hb dX10_makeSum_117 rfl (lv_at hl 4 rfl) ?_
          refine m_iald hx hb hK hP 8 (by decide) rfl p_13 (i := y1) (by omega) (by decide) dX10_makeSum_118 ?_
          have b_43 := (hpt_16 3) y1
          refine lv_icmp_le (tgt := 131) hx hb dX10_makeSum_119 (by decide) (fun c_44 => ?_) (fun c_44 => ?_)
          · have c_44 := (k_iLE (a := (pt 3) x1) (b := (pt 3) y1) rfl rfl (by omega) (by omega)).mp c_44
            refine lv_aload_n hx hb dX10_makeSum_131 rfl (lv_at hl 2 rfl) ?_
            refine m_get (D := (dC, dI)) (v := .ref (ad 8)) (C := RX10) (T := TX10) (N := 29) hx hb hts bk0 hown hK hP 0 (by decide) r_3 rfl 10 (by decide) (hts (.fieldLink RX10 38 "GradientDeskModel" "degree" "[I") (List.mem_of_getElem? (i := 9) rfl)) (fun _ h9 => h9) rfl dX10_makeSum_132 ?_
            refine lv_iload_n hx hb dX10_makeSum_135 rfl (lv_at hl 4 rfl) ?_
            refine m_iald hx hb hK hP 8 (by decide) rfl p_13 (i := y1) (by omega) (by decide) dX10_makeSum_136 ?_
            have b_45 := (hpt_16 3) y1
            refine lv_iconst (v := nI 1) hx hb dX10_makeSum_137 (by decide +kernel) ?_
            refine lv_iload_n hx hb dX10_makeSum_138 rfl (lv_at hl 1 rfl) ?_
            refine lv_iload hx hb dX10_makeSum_139 (lv_at hl 0 rfl) ?_
            refine lv_icmp_le (tgt := 148) hx hb dX10_makeSum_141 (by decide) (fun c_46 => ?_) (fun c_46 => ?_)
            · have c_46 := (k_iLE (a := ((pt 4) x1) + ((pt 5) y1)) (b := ((pt 4) y1) + ((pt 5) x1)) rfl rfl (by omega) (by omega)).mp c_46
              refine lv_iload hx hb dX10_makeSum_148 (lv_at hl 0 rfl) ?_
              refine lv_iadd hx hb dX10_makeSum_150 ?_
              refine lv_topi (fun x_47 e_48 => ?_)
              obtain rfl : x_47 = iI (1 + (((pt 4) y1) + ((pt 5) x1))) := e_48.trans (iI_addP (show nI 1 = iI 1 from by decide) rfl)
              refine lv_aload_n hx hb dX10_makeSum_151 rfl (lv_at hl 2 rfl) ?_
              refine m_get (D := (dC, dI)) (v := .ref (ad 10)) (C := RX10) (T := TX10) (N := 29) hx hb hts bk0 hown hK hP 0 (by decide) r_3 rfl 12 (by decide) (hts (.fieldLink RX10 44 "GradientDeskModel" "sizeD" "[I") (List.mem_of_getElem? (i := 8) rfl)) (fun _ h9 => h9) rfl dX10_makeSum_152 ?_
              refine lv_iload_n hx hb dX10_makeSum_155 rfl (lv_at hl 3 rfl) ?_
              refine m_iald hx hb hK hP 10 (by decide) rfl p_15 (i := x1) (by omega) (by decide) dX10_makeSum_156 ?_
              have b_49 := (hpt_16 5) x1
              refine lv_aload_n hx hb dX10_makeSum_157 rfl (lv_at hl 2 rfl) ?_
              refine m_get (D := (dC, dI)) (v := .ref (ad 10)) (C := RX10) (T := TX10) (N := 29) hx hb hts bk0 hown hK hP 0 (by decide) r_3 rfl 12 (by decide) (hts (.fieldLink RX10 44 "GradientDeskModel" "sizeD" "[I") (List.mem_of_getElem? (i := 8) rfl)) (fun _ h9 => h9) rfl dX10_makeSum_158 ?_
              refine lv_iload_n hx hb dX10_makeSum_161 rfl (lv_at hl 4 rfl) ?_
              refine m_iald hx hb hK hP 10 (by decide) rfl p_15 (i := y1) (by omega) (by decide) dX10_makeSum_162 ?_
              have b_50 := (hpt_16 5) y1
              refine lv_iadd hx hb dX10_makeSum_163 ?_
              refine lv_topi (fun x_51 e_52 => ?_)
              obtain rfl : x_51 = iI (((pt 5) x1) + ((pt 5) y1)) := e_52.trans (iI_addP rfl rfl)
              refine va_calli (va_runV (As := [.int (nI 2), .int (nI x1), .int (nI y1), .int (iI ((pt 3) y1)), .int (iI (1 + (((pt 4) y1) + ((pt 5) x1)))), .int (iI (((pt 5) x1) + ((pt 5) y1)))]) (rest := []) ⟨hx, hb, hml, hown, hts⟩ (c_X10_describe l dC dI A ad cA g x pf qf pt L (2, ((x1 : Nat) : Int), ((y1 : Nat) : Int), max (gd L x1).2.2.2.1 (gd L y1).2.2.2.1, 1 + max ((gd L x1).2.2.2.2.1 + (gd L y1).2.2.2.2.2.1) ((gd L y1).2.2.2.2.1 + (gd L x1).2.2.2.2.2.1), (gd L x1).2.2.2.2.2.1 + (gd L y1).2.2.2.2.2.1, 0, 1) (nI 2) (nI x1) (nI y1) (iI ((pt 3) y1)) (iI (1 + (((pt 4) y1) + ((pt 5) x1)))) (iI (((pt 5) x1) + ((pt 5) y1))) 0 hF0 hPt0 hM hmd hL2 hft (Or.inl rfl) ((show nI 2 = iI 2 from by decide).trans (congrArg iI (by rfl))) ((nI_iI x1).trans (congrArg iI (by rfl))) ((nI_iI y1).trans (congrArg iI (by rfl))) ((rfl : iI ((pt 3) y1) = _).trans (congrArg iI (by dsimp only; omega))) ((rfl : iI (1 + (((pt 4) y1) + ((pt 5) x1))) = _).trans (congrArg iI (by dsimp only; omega))) ((rfl : iI (((pt 5) x1) + ((pt 5) y1)) = _).trans (congrArg iI (by dsimp only; omega))) (fun h9 => absurd (show (2 : Nat) = 0 from h9) (by decide)) (by show 2 ≤ 20000 ∧ -1 ≤ ((x1 : Nat) : Int) ∧ ((x1 : Nat) : Int) ≤ 20000 ∧ -1 ≤ ((y1 : Nat) : Int) ∧ ((y1 : Nat) : Int) ≤ 20000 ∧ max (gd L x1).2.2.2.1 (gd L y1).2.2.2.1 ≤ 20000 ∧ 1 + max ((gd L x1).2.2.2.2.1 + (gd L y1).2.2.2.2.2.1) ((gd L y1).2.2.2.2.1 + (gd L x1).2.2.2.2.2.1) ≤ 20000 ∧ (gd L x1).2.2.2.2.2.1 + (gd L y1).2.2.2.2.2.1 ≤ 20000; omega)) (cwV 6 hts (goodIn_app (goodIn_r [Cond.methodLink RX10 160 yX10_describe, Cond.instanceMethod yX10_describe, Cond.selects RX10 yX10_describe yX10_describe, Cond.initialized RX10] [10, 11, 12, 6] rfl rfl) (goodIn_sub (fun w9 h9 => bk2 w9 h9) gw_X10_describe)) rfl rfl rfl (by decide +kernel) ⟨Nat.le_of_ble_eq_true rfl, Nat.le_of_ble_eq_true rfl⟩) ⟨fun a U g mk q => ⟨q.1, q.2.1, q.2.2.1, LY.moved (u := U) (U := U.calling g mk a) (Vm.Alike.refl U.vm) q.2.2.2⟩, va_recv hK hP (ci := 13) (q0 := 0) rfl (wo_at (by decide) r_3), fun U hU hW => ⟨rfl, by rw [hU]; exact fun q h => hA q (Nat.le_trans hS.1 h), by rw [hU]; exact hP, LY.moved hW.alike hL⟩⟩ rfl rfl hl.1 rfl (lv_room (Nat.le_of_ble_eq_true rfl)) dX10_makeSum_164 ⟨(Nat.le_of_ble_eq_true rfl), (Nat.le_of_ble_eq_true rfl)⟩) hS (fun q _ h => h) (fun q h => h) (fun r_53 u8 t8 H1 locs ht8 hvm8 hw_54 hB hz1 hk1 hS => ?_)
              obtain ⟨g_55, x2_56, pt2_57, pf2_58, qf2_59⟩ := u8
              try dsimp only at hw_54 hB
              rw [ht8] at hB
              have hP := hB
              generalize H1 = H at hP hS ⊢
              obtain ⟨fr_60, hK⟩ := hw_54
              refine W.widen (k := 0) (n := 0) (by omega) (by omega) ?_
              exact W.iret (v := r_53) hx hb hr (fun t9 ht9 hW9 => ⟨⟨r_53, (g_55, x2_56, pt2_57, pf2_58, qf2_59), rfl, ⟨(fun (k : Nat) (hk : k ≠ 0 ∧ k ≠ 1 ∧ k ≠ 2 ∧ k ≠ 3 ∧ k ≠ 5 ∧ k ≠ 6 ∧ k ≠ 7 ∧ k ≠ 8 ∧ k ≠ 9 ∧ k ≠ 10) => (fr_60 k (by omega)).trans (rfl)), by rw [onF_0] at hK ⊢; unfold sumL; rw [if_neg (show ¬ ((gd L x1).1 = 0 ∧ (gd L y1).1 = 0) from by omega), if_neg (by rw [hi0]; decide), if_neg (by rw [hi1]; decide)]; exact hK⟩, by show va_P (dC, dI) vwCl _ t9.heap; rw [ht9]; exact hP⟩, hS.F ht9⟩) hS.2.2 dX10_makeSum_167
            · have c_46 := mt (k_iLE (a := ((pt 4) x1) + ((pt 5) y1)) (b := ((pt 4) y1) + ((pt 5) x1)) rfl rfl (by omega) (by omega)).mpr c_46
              refine lv_iload_n hx hb dX10_makeSum_144 rfl (lv_at hl 1 rfl) ?_
              refine lv_goto (tgt := 150) hx hb dX10_makeSum_145 (by decide) ?_
              refine lv_iadd hx hb dX10_makeSum_150 ?_
              refine lv_topi (fun x_61 e_62 => ?_)
              obtain rfl : x_61 = iI (1 + (((pt 4) x1) + ((pt 5) y1))) := e_62.trans (iI_addP (show nI 1 = iI 1 from by decide) rfl)
              refine lv_aload_n hx hb dX10_makeSum_151 rfl (lv_at hl 2 rfl) ?_
              refine m_get (D := (dC, dI)) (v := .ref (ad 10)) (C := RX10) (T := TX10) (N := 29) hx hb hts bk0 hown hK hP 0 (by decide) r_3 rfl 12 (by decide) (hts (.fieldLink RX10 44 "GradientDeskModel" "sizeD" "[I") (List.mem_of_getElem? (i := 8) rfl)) (fun _ h9 => h9) rfl dX10_makeSum_152 ?_
              refine lv_iload_n hx hb dX10_makeSum_155 rfl (lv_at hl 3 rfl) ?_
              refine m_iald hx hb hK hP 10 (by decide) rfl p_15 (i := x1) (by omega) (by decide) dX10_makeSum_156 ?_
              have b_63 := (hpt_16 5) x1
              refine lv_aload_n hx hb dX10_makeSum_157 rfl (lv_at hl 2 rfl) ?_
              refine m_get (D := (dC, dI)) (v := .ref (ad 10)) (C := RX10) (T := TX10) (N := 29) hx hb hts bk0 hown hK hP 0 (by decide) r_3 rfl 12 (by decide) (hts (.fieldLink RX10 44 "GradientDeskModel" "sizeD" "[I") (List.mem_of_getElem? (i := 8) rfl)) (fun _ h9 => h9) rfl dX10_makeSum_158 ?_
              refine lv_iload_n hx hb dX10_makeSum_161 rfl (lv_at hl 4 rfl) ?_
              refine m_iald hx hb hK hP 10 (by decide) rfl p_15 (i := y1) (by omega) (by decide) dX10_makeSum_162 ?_
              have b_64 := (hpt_16 5) y1
              refine lv_iadd hx hb dX10_makeSum_163 ?_
              refine lv_topi (fun x_65 e_66 => ?_)
              obtain rfl : x_65 = iI (((pt 5) x1) + ((pt 5) y1)) := e_66.trans (iI_addP rfl rfl)
              refine va_calli (va_runV (As := [.int (nI 2), .int (nI x1), .int (nI y1), .int (iI ((pt 3) y1)), .int (iI (1 + (((pt 4) x1) + ((pt 5) y1)))), .int (iI (((pt 5) x1) + ((pt 5) y1)))]) (rest := []) ⟨hx, hb, hml, hown, hts⟩ (c_X10_describe l dC dI A ad cA g x pf qf pt L (2, ((x1 : Nat) : Int), ((y1 : Nat) : Int), max (gd L x1).2.2.2.1 (gd L y1).2.2.2.1, 1 + max ((gd L x1).2.2.2.2.1 + (gd L y1).2.2.2.2.2.1) ((gd L y1).2.2.2.2.1 + (gd L x1).2.2.2.2.2.1), (gd L x1).2.2.2.2.2.1 + (gd L y1).2.2.2.2.2.1, 0, 1) (nI 2) (nI x1) (nI y1) (iI ((pt 3) y1)) (iI (1 + (((pt 4) x1) + ((pt 5) y1)))) (iI (((pt 5) x1) + ((pt 5) y1))) 0 hF0 hPt0 hM hmd hL2 hft (Or.inl rfl) ((show nI 2 = iI 2 from by decide).trans (congrArg iI (by rfl))) ((nI_iI x1).trans (congrArg iI (by rfl))) ((nI_iI y1).trans (congrArg iI (by rfl))) ((rfl : iI ((pt 3) y1) = _).trans (congrArg iI (by dsimp only; omega))) ((rfl : iI (1 + (((pt 4) x1) + ((pt 5) y1))) = _).trans (congrArg iI (by dsimp only; omega))) ((rfl : iI (((pt 5) x1) + ((pt 5) y1)) = _).trans (congrArg iI (by dsimp only; omega))) (fun h9 => absurd (show (2 : Nat) = 0 from h9) (by decide)) (by show 2 ≤ 20000 ∧ -1 ≤ ((x1 : Nat) : Int) ∧ ((x1 : Nat) : Int) ≤ 20000 ∧ -1 ≤ ((y1 : Nat) : Int) ∧ ((y1 : Nat) : Int) ≤ 20000 ∧ max (gd L x1).2.2.2.1 (gd L y1).2.2.2.1 ≤ 20000 ∧ 1 + max ((gd L x1).2.2.2.2.1 + (gd L y1).2.2.2.2.2.1) ((gd L y1).2.2.2.2.1 + (gd L x1).2.2.2.2.2.1) ≤ 20000 ∧ (gd L x1).2.2.2.2.2.1 + (gd L y1).2.2.2.2.2.1 ≤ 20000; omega)) (cwV 6 hts (goodIn_app (goodIn_r [Cond.methodLink RX10 160 yX10_describe, Cond.instanceMethod yX10_describe, Cond.selects RX10 yX10_describe yX10_describe, Cond.initialized RX10] [10, 11, 12, 6] rfl rfl) (goodIn_sub (fun w9 h9 => bk2 w9 h9) gw_X10_describe)) rfl rfl rfl (by decide +kernel) ⟨Nat.le_of_ble_eq_true rfl, Nat.le_of_ble_eq_true rfl⟩) ⟨fun a U g mk q => ⟨q.1, q.2.1, q.2.2.1, LY.moved (u := U) (U := U.calling g mk a) (Vm.Alike.refl U.vm) q.2.2.2⟩, va_recv hK hP (ci := 13) (q0 := 0) rfl (wo_at (by decide) r_3), fun U hU hW => ⟨rfl, by rw [hU]; exact fun q h => hA q (Nat.le_trans hS.1 h), by rw [hU]; exact hP, LY.moved hW.alike hL⟩⟩ rfl rfl hl.1 rfl (lv_room (Nat.le_of_ble_eq_true rfl)) dX10_makeSum_164 ⟨(Nat.le_of_ble_eq_true rfl), (Nat.le_of_ble_eq_true rfl)⟩) hS (fun q _ h => h) (fun q h => h) (fun r_67 u8 t8 H1 locs ht8 hvm8 hw_68 hB hz1 hk1 hS => ?_)
              obtain ⟨g_69, x2_70, pt2_71, pf2_72, qf2_73⟩ := u8
              try dsimp only at hw_68 hB
              rw [ht8] at hB
              have hP := hB
              generalize H1 = H at hP hS ⊢
              obtain ⟨fr_74, hK⟩ := hw_68
              refine W.widen (k := 0) (n := 0) (by omega) (by omega) ?_
              exact W.iret (v := r_67) hx hb hr (fun t9 ht9 hW9 => ⟨⟨r_67, (g_69, x2_70, pt2_71, pf2_72, qf2_73), rfl, ⟨(fun (k : Nat) (hk : k ≠ 0 ∧ k ≠ 1 ∧ k ≠ 2 ∧ k ≠ 3 ∧ k ≠ 5 ∧ k ≠ 6 ∧ k ≠ 7 ∧ k ≠ 8 ∧ k ≠ 9 ∧ k ≠ 10) => (fr_74 k (by omega)).trans (rfl)), by rw [onF_0] at hK ⊢; unfold sumL; rw [if_neg (show ¬ ((gd L x1).1 = 0 ∧ (gd L y1).1 = 0) from by omega), if_neg (by rw [hi0]; decide), if_neg (by rw [hi1]; decide)]; exact hK⟩, by show va_P (dC, dI) vwCl _ t9.heap; rw [ht9]; exact hP⟩, hS.F ht9⟩) hS.2.2 dX10_makeSum_167
          · have c_44 := mt (k_iLE (a := (pt 3) x1) (b := (pt 3) y1) rfl rfl (by omega) (by omega)).mpr c_44
            refine lv_aload_n hx hb dX10_makeSum_122 rfl (lv_at hl 2 rfl) ?_
            refine m_get (D := (dC, dI)) (v := .ref (ad 8)) (C := RX10) (T := TX10) (N := 29) hx hb hts bk0 hown hK hP 0 (by decide) r_3 rfl 10 (by decide) (hts (.fieldLink RX10 38 "GradientDeskModel" "degree" "[I") (List.mem_of_getElem? (i := 9) rfl)) (fun _ h9 => h9) rfl dX10_makeSum_123 ?_
            refine lv_iload_n hx hb dX10_makeSum_126 rfl (lv_at hl 3 rfl) ?_
            refine m_iald hx hb hK hP 8 (by decide) rfl p_13 (i := x1) (by omega) (by decide) dX10_makeSum_127 ?_
            have b_75 := (hpt_16 3) x1
            refine lv_goto (tgt := 137) hx hb dX10_makeSum_128 (by decide) ?_
            refine lv_iconst (v := nI 1) hx hb dX10_makeSum_137 (by decide +kernel) ?_
            refine lv_iload_n hx hb dX10_makeSum_138 rfl (lv_at hl 1 rfl) ?_
            refine lv_iload hx hb dX10_makeSum_139 (lv_at hl 0 rfl) ?_
            refine lv_icmp_le (tgt := 148) hx hb dX10_makeSum_141 (by decide) (fun c_76 => ?_) (fun c_76 => ?_)
            · have c_76 := (k_iLE (a := ((pt 4) x1) + ((pt 5) y1)) (b := ((pt 4) y1) + ((pt 5) x1)) rfl rfl (by omega) (by omega)).mp c_76
              refine lv_iload hx hb dX10_makeSum_148 (lv_at hl 0 rfl) ?_
              refine lv_iadd hx hb dX10_makeSum_150 ?_
              refine lv_topi (fun x_77 e_78 => ?_)
              obtain rfl : x_77 = iI (1 + (((pt 4) y1) + ((pt 5) x1))) := e_78.trans (iI_addP (show nI 1 = iI 1 from by decide) rfl)
              refine lv_aload_n hx hb dX10_makeSum_151 rfl (lv_at hl 2 rfl) ?_
              refine m_get (D := (dC, dI)) (v := .ref (ad 10)) (C := RX10) (T := TX10) (N := 29) hx hb hts bk0 hown hK hP 0 (by decide) r_3 rfl 12 (by decide) (hts (.fieldLink RX10 44 "GradientDeskModel" "sizeD" "[I") (List.mem_of_getElem? (i := 8) rfl)) (fun _ h9 => h9) rfl dX10_makeSum_152 ?_
              refine lv_iload_n hx hb dX10_makeSum_155 rfl (lv_at hl 3 rfl) ?_
              refine m_iald hx hb hK hP 10 (by decide) rfl p_15 (i := x1) (by omega) (by decide) dX10_makeSum_156 ?_
              have b_79 := (hpt_16 5) x1
              refine lv_aload_n hx hb dX10_makeSum_157 rfl (lv_at hl 2 rfl) ?_
              refine m_get (D := (dC, dI)) (v := .ref (ad 10)) (C := RX10) (T := TX10) (N := 29) hx hb hts bk0 hown hK hP 0 (by decide) r_3 rfl 12 (by decide) (hts (.fieldLink RX10 44 "GradientDeskModel" "sizeD" "[I") (List.mem_of_getElem? (i := 8) rfl)) (fun _ h9 => h9) rfl dX10_makeSum_158 ?_
              refine lv_iload_n hx hb dX10_makeSum_161 rfl (lv_at hl 4 rfl) ?_
              refine m_iald hx hb hK hP 10 (by decide) rfl p_15 (i := y1) (by omega) (by decide) dX10_makeSum_162 ?_
              have b_80 := (hpt_16 5) y1
              refine lv_iadd hx hb dX10_makeSum_163 ?_
              refine lv_topi (fun x_81 e_82 => ?_)
              obtain rfl : x_81 = iI (((pt 5) x1) + ((pt 5) y1)) := e_82.trans (iI_addP rfl rfl)
              refine va_calli (va_runV (As := [.int (nI 2), .int (nI x1), .int (nI y1), .int (iI ((pt 3) x1)), .int (iI (1 + (((pt 4) y1) + ((pt 5) x1)))), .int (iI (((pt 5) x1) + ((pt 5) y1)))]) (rest := []) ⟨hx, hb, hml, hown, hts⟩ (c_X10_describe l dC dI A ad cA g x pf qf pt L (2, ((x1 : Nat) : Int), ((y1 : Nat) : Int), max (gd L x1).2.2.2.1 (gd L y1).2.2.2.1, 1 + max ((gd L x1).2.2.2.2.1 + (gd L y1).2.2.2.2.2.1) ((gd L y1).2.2.2.2.1 + (gd L x1).2.2.2.2.2.1), (gd L x1).2.2.2.2.2.1 + (gd L y1).2.2.2.2.2.1, 0, 1) (nI 2) (nI x1) (nI y1) (iI ((pt 3) x1)) (iI (1 + (((pt 4) y1) + ((pt 5) x1)))) (iI (((pt 5) x1) + ((pt 5) y1))) 0 hF0 hPt0 hM hmd hL2 hft (Or.inl rfl) ((show nI 2 = iI 2 from by decide).trans (congrArg iI (by rfl))) ((nI_iI x1).trans (congrArg iI (by rfl))) ((nI_iI y1).trans (congrArg iI (by rfl))) ((rfl : iI ((pt 3) x1) = _).trans (congrArg iI (by dsimp only; omega))) ((rfl : iI (1 + (((pt 4) y1) + ((pt 5) x1))) = _).trans (congrArg iI (by dsimp only; omega))) ((rfl : iI (((pt 5) x1) + ((pt 5) y1)) = _).trans (congrArg iI (by dsimp only; omega))) (fun h9 => absurd (show (2 : Nat) = 0 from h9) (by decide)) (by show 2 ≤ 20000 ∧ -1 ≤ ((x1 : Nat) : Int) ∧ ((x1 : Nat) : Int) ≤ 20000 ∧ -1 ≤ ((y1 : Nat) : Int) ∧ ((y1 : Nat) : Int) ≤ 20000 ∧ max (gd L x1).2.2.2.1 (gd L y1).2.2.2.1 ≤ 20000 ∧ 1 + max ((gd L x1).2.2.2.2.1 + (gd L y1).2.2.2.2.2.1) ((gd L y1).2.2.2.2.1 + (gd L x1).2.2.2.2.2.1) ≤ 20000 ∧ (gd L x1).2.2.2.2.2.1 + (gd L y1).2.2.2.2.2.1 ≤ 20000; omega)) (cwV 6 hts (goodIn_app (goodIn_r [Cond.methodLink RX10 160 yX10_describe, Cond.instanceMethod yX10_describe, Cond.selects RX10 yX10_describe yX10_describe, Cond.initialized RX10] [10, 11, 12, 6] rfl rfl) (goodIn_sub (fun w9 h9 => bk2 w9 h9) gw_X10_describe)) rfl rfl rfl (by decide +kernel) ⟨Nat.le_of_ble_eq_true rfl, Nat.le_of_ble_eq_true rfl⟩) ⟨fun a U g mk q => ⟨q.1, q.2.1, q.2.2.1, LY.moved (u := U) (U := U.calling g mk a) (Vm.Alike.refl U.vm) q.2.2.2⟩, va_recv hK hP (ci := 13) (q0 := 0) rfl (wo_at (by decide) r_3), fun U hU hW => ⟨rfl, by rw [hU]; exact fun q h => hA q (Nat.le_trans hS.1 h), by rw [hU]; exact hP, LY.moved hW.alike hL⟩⟩ rfl rfl hl.1 rfl (lv_room (Nat.le_of_ble_eq_true rfl)) dX10_makeSum_164 ⟨(Nat.le_of_ble_eq_true rfl), (Nat.le_of_ble_eq_true rfl)⟩) hS (fun q _ h => h) (fun q h => h) (fun r_83 u8 t8 H1 locs ht8 hvm8 hw_84 hB hz1 hk1 hS => ?_)
              obtain ⟨g_85, x2_86, pt2_87, pf2_88, qf2_89⟩ := u8
              try dsimp only at hw_84 hB
              rw [ht8] at hB
              have hP := hB
              generalize H1 = H at hP hS ⊢
              obtain ⟨fr_90, hK⟩ := hw_84
              refine W.widen (k := 0) (n := 0) (by omega) (by omega) ?_
              exact W.iret (v := r_83) hx hb hr (fun t9 ht9 hW9 => ⟨⟨r_83, (g_85, x2_86, pt2_87, pf2_88, qf2_89), rfl, ⟨(fun (k : Nat) (hk : k ≠ 0 ∧ k ≠ 1 ∧ k ≠ 2 ∧ k ≠ 3 ∧ k ≠ 5 ∧ k ≠ 6 ∧ k ≠ 7 ∧ k ≠ 8 ∧ k ≠ 9 ∧ k ≠ 10) => (fr_90 k (by omega)).trans (rfl)), by rw [onF_0] at hK ⊢; unfold sumL; rw [if_neg (show ¬ ((gd L x1).1 = 0 ∧ (gd L y1).1 = 0) from by omega), if_neg (by rw [hi0]; decide), if_neg (by rw [hi1]; decide)]; exact hK⟩, by show va_P (dC, dI) vwCl _ t9.heap; rw [ht9]; exact hP⟩, hS.F ht9⟩) hS.2.2 dX10_makeSum_167
            · have c_76 := mt (k_iLE (a := ((pt 4) x1) + ((pt 5) y1)) (b := ((pt 4) y1) + ((pt 5) x1)) rfl rfl (by omega) (by omega)).mpr c_76
              refine lv_iload_n hx hb dX10_makeSum_144 rfl (lv_at hl 1 rfl) ?_
              refine lv_goto (tgt := 150) hx hb dX10_makeSum_145 (by decide) ?_
              refine lv_iadd hx hb dX10_makeSum_150 ?_
              refine lv_topi (fun x_91 e_92 => ?_)
              obtain rfl : x_91 = iI (1 + (((pt 4) x1) + ((pt 5) y1))) := e_92.trans (iI_addP (show nI 1 = iI 1 from by decide) rfl)
              refine lv_aload_n hx hb dX10_makeSum_151 rfl (lv_at hl 2 rfl) ?_
              refine m_get (D := (dC, dI)) (v := .ref (ad 10)) (C := RX10) (T := TX10) (N := 29) hx hb hts bk0 hown hK hP 0 (by decide) r_3 rfl 12 (by decide) (hts (.fieldLink RX10 44 "GradientDeskModel" "sizeD" "[I") (List.mem_of_getElem? (i := 8) rfl)) (fun _ h9 => h9) rfl dX10_makeSum_152 ?_
              refine lv_iload_n hx hb dX10_makeSum_155 rfl (lv_at hl 3 rfl) ?_
              refine m_iald hx hb hK hP 10 (by decide) rfl p_15 (i := x1) (by omega) (by decide) dX10_makeSum_156 ?_
              have b_93 := (hpt_16 5) x1
              refine lv_aload_n hx hb dX10_makeSum_157 rfl (lv_at hl 2 rfl) ?_
              refine m_get (D := (dC, dI)) (v := .ref (ad 10)) (C := RX10) (T := TX10) (N := 29) hx hb hts bk0 hown hK hP 0 (by decide) r_3 rfl 12 (by decide) (hts (.fieldLink RX10 44 "GradientDeskModel" "sizeD" "[I") (List.mem_of_getElem? (i := 8) rfl)) (fun _ h9 => h9) rfl dX10_makeSum_158 ?_
              refine lv_iload_n hx hb dX10_makeSum_161 rfl (lv_at hl 4 rfl) ?_
              refine m_iald hx hb hK hP 10 (by decide) rfl p_15 (i := y1) (by omega) (by decide) dX10_makeSum_162 ?_
              have b_94 := (hpt_16 5) y1
              refine lv_iadd hx hb dX10_makeSum_163 ?_
              refine lv_topi (fun x_95 e_96 => ?_)
              obtain rfl : x_95 = iI (((pt 5) x1) + ((pt 5) y1)) := e_96.trans (iI_addP rfl rfl)
              refine va_calli (va_runV (As := [.int (nI 2), .int (nI x1), .int (nI y1), .int (iI ((pt 3) x1)), .int (iI (1 + (((pt 4) x1) + ((pt 5) y1)))), .int (iI (((pt 5) x1) + ((pt 5) y1)))]) (rest := []) ⟨hx, hb, hml, hown, hts⟩ (c_X10_describe l dC dI A ad cA g x pf qf pt L (2, ((x1 : Nat) : Int), ((y1 : Nat) : Int), max (gd L x1).2.2.2.1 (gd L y1).2.2.2.1, 1 + max ((gd L x1).2.2.2.2.1 + (gd L y1).2.2.2.2.2.1) ((gd L y1).2.2.2.2.1 + (gd L x1).2.2.2.2.2.1), (gd L x1).2.2.2.2.2.1 + (gd L y1).2.2.2.2.2.1, 0, 1) (nI 2) (nI x1) (nI y1) (iI ((pt 3) x1)) (iI (1 + (((pt 4) x1) + ((pt 5) y1)))) (iI (((pt 5) x1) + ((pt 5) y1))) 0 hF0 hPt0 hM hmd hL2 hft (Or.inl rfl) ((show nI 2 = iI 2 from by decide).trans (congrArg iI (by rfl))) ((nI_iI x1).trans (congrArg iI (by rfl))) ((nI_iI y1).trans (congrArg iI (by rfl))) ((rfl : iI ((pt 3) x1) = _).trans (congrArg iI (by dsimp only; omega))) ((rfl : iI (1 + (((pt 4) x1) + ((pt 5) y1))) = _).trans (congrArg iI (by dsimp only; omega))) ((rfl : iI (((pt 5) x1) + ((pt 5) y1)) = _).trans (congrArg iI (by dsimp only; omega))) (fun h9 => absurd (show (2 : Nat) = 0 from h9) (by decide)) (by show 2 ≤ 20000 ∧ -1 ≤ ((x1 : Nat) : Int) ∧ ((x1 : Nat) : Int) ≤ 20000 ∧ -1 ≤ ((y1 : Nat) : Int) ∧ ((y1 : Nat) : Int) ≤ 20000 ∧ max (gd L x1).2.2.2.1 (gd L y1).2.2.2.1 ≤ 20000 ∧ 1 + max ((gd L x1).2.2.2.2.1 + (gd L y1).2.2.2.2.2.1) ((gd L y1).2.2.2.2.1 + (gd L x1).2.2.2.2.2.1) ≤ 20000 ∧ (gd L x1).2.2.2.2.2.1 + (gd L y1).2.2.2.2.2.1 ≤ 20000; omega)) (cwV 6 hts (goodIn_app (goodIn_r [Cond.methodLink RX10 160 yX10_describe, Cond.instanceMethod yX10_describe, Cond.selects RX10 yX10_describe yX10_describe, Cond.initialized RX10] [10, 11, 12, 6] rfl rfl) (goodIn_sub (fun w9 h9 => bk2 w9 h9) gw_X10_describe)) rfl rfl rfl (by decide +kernel) ⟨Nat.le_of_ble_eq_true rfl, Nat.le_of_ble_eq_true rfl⟩) ⟨fun a U g mk q => ⟨q.1, q.2.1, q.2.2.1, LY.moved (u := U) (U := U.calling g mk a) (Vm.Alike.refl U.vm) q.2.2.2⟩, va_recv hK hP (ci := 13) (q0 := 0) rfl (wo_at (by decide) r_3), fun U hU hW => ⟨rfl, by rw [hU]; exact fun q h => hA q (Nat.le_trans hS.1 h), by rw [hU]; exact hP, LY.moved hW.alike hL⟩⟩ rfl rfl hl.1 rfl (lv_room (Nat.le_of_ble_eq_true rfl)) dX10_makeSum_164 ⟨(Nat.le_of_ble_eq_true rfl), (Nat.le_of_ble_eq_true rfl)⟩) hS (fun q _ h => h) (fun q h => h) (fun r_97 u8 t8 H1 locs ht8 hvm8 hw_98 hB hz1 hk1 hS => ?_)
              obtain ⟨g_99, x2_100, pt2_101, pf2_102, qf2_103⟩ := u8
              try dsimp only at hw_98 hB
              rw [ht8] at hB
              have hP := hB
              generalize H1 = H at hP hS ⊢
              obtain ⟨fr_104, hK⟩ := hw_98
              refine W.widen (k := 0) (n := 0) (by omega) (by omega) ?_
              exact W.iret (v := r_97) hx hb hr (fun t9 ht9 hW9 => ⟨⟨r_97, (g_99, x2_100, pt2_101, pf2_102, qf2_103), rfl, ⟨(fun (k : Nat) (hk : k ≠ 0 ∧ k ≠ 1 ∧ k ≠ 2 ∧ k ≠ 3 ∧ k ≠ 5 ∧ k ≠ 6 ∧ k ≠ 7 ∧ k ≠ 8 ∧ k ≠ 9 ∧ k ≠ 10) => (fr_104 k (by omega)).trans (rfl)), by rw [onF_0] at hK ⊢; unfold sumL; rw [if_neg (show ¬ ((gd L x1).1 = 0 ∧ (gd L y1).1 = 0) from by omega), if_neg (by rw [hi0]; decide), if_neg (by rw [hi1]; decide)]; exact hK⟩, by show va_P (dC, dI) vwCl _ t9.heap; rw [ht9]; exact hP⟩, hS.F ht9⟩) hS.2.2 dX10_makeSum_167
    · have c_19 := (k_iEQ (a := (pt 0) x1) (b := 0) rfl (show nI 0 = iI 0 from by decide) (by omega) (by omega)).mp c_19
      refine lv_aload_n hx hb dX10_makeSum_18 rfl (lv_at hl 0 rfl) ?_
      refine m_get (D := (dC, dI)) (v := .ref (ad 5)) (C := RX10) (T := TX10) (N := 29) hx hb hts bk0 hown hK hP 0 (by decide) r_3 rfl 7 (by decide) (hts (.fieldLink RX10 29 "GradientDeskModel" "sort" "[I") (List.mem_of_getElem? (i := 2) rfl)) (fun _ h9 => h9) rfl dX10_makeSum_19 ?_
      refine lv_iload_n hx hb dX10_makeSum_22 rfl (lv_at hl 2 rfl) ?_
      refine m_iald hx hb hK hP 5 (by decide) rfl p_10 (i := y1) (by omega) (by decide) dX10_makeSum_23 ?_
      have b_105 := (hpt_16 0) y1
      refine lv_if_ne (tgt := 41) hx hb dX10_makeSum_24 (by decide) (fun c_106 => ?_) (fun c_106 => ?_)
      · have c_106 := mt (k_iEQ (a := (pt 0) y1) (b := 0) rfl (show nI 0 = iI 0 from by decide) (by omega) (by omega)).mpr c_106
        refine lv_aload_n hx hb dX10_makeSum_41 rfl (lv_at hl 0 rfl) ?_
        refine lv_iload_n hx hb dX10_makeSum_42 rfl (lv_at hl 1 rfl) ?_
        refine lv_lconst (v := lN 0) hx hb dX10_makeSum_43 (by decide +kernel) ?_
        refine va_calli (va_runV (As := [.int (nI x1), .long (lN 0)]) (rest := []) ⟨hx, hb, hml, hown, hts⟩ (c_X10_isNumber l dC dI A ad cA g x pf qf pt L x1 0 hF0 hPt0 hM hL2 ix (by decide)) (cwV 2 hts (goodIn_app (goodIn_r [Cond.methodLink RX10 174 yX10_isNumber, Cond.instanceMethod yX10_isNumber, Cond.selects RX10 yX10_isNumber yX10_isNumber, Cond.initialized RX10] [3, 4, 5, 6] rfl rfl) (goodIn_sub (fun w9 h9 => bk1 w9 h9) gw_X10_isNumber)) rfl rfl rfl (by decide +kernel) ⟨Nat.le_of_ble_eq_true rfl, Nat.le_of_ble_eq_true rfl⟩) ⟨fun a U g mk q => ⟨q.1, q.2.1, q.2.2.1, LY.moved (u := U) (U := U.calling g mk a) (Vm.Alike.refl U.vm) q.2.2.2⟩, va_recv hK hP (ci := 13) (q0 := 0) rfl (wo_at (by decide) r_3), fun U hU hW => ⟨rfl, by rw [hU]; exact fun q h => hA q (Nat.le_trans hS.1 h), by rw [hU]; exact hP, LY.moved hW.alike hL⟩⟩ rfl rfl hl.1 rfl (lv_room (Nat.le_of_ble_eq_true rfl)) dX10_makeSum_44 ⟨(Nat.le_of_ble_eq_true rfl), (Nat.le_of_ble_eq_true rfl)⟩) hS (fun q _ h => h) (fun q h => h) (fun r_107 u8 t8 H1 locs ht8 hvm8 hw_108 hB hz1 hk1 hS => ?_)
        obtain ⟨⟩ := u8
        try dsimp only at hw_108 hB
        rw [ht8] at hB
        have hP := hB
        generalize H1 = H at hP hS ⊢
        rcases hw_108 with ⟨rfl, hi0⟩ | ⟨rfl, hi0⟩
        · skip
          have hi0 : isN (gd L x1) 0 = true := hi0
          refine lv_if_ne (tgt := 59) hx hb dX10_makeSum_47 (by decide) (fun c_109 => ?_) (fun c_109 => absurd c_109 (by decide))
          refine lv_aload_n hx hb dX10_makeSum_59 rfl (lv_at hl 0 rfl) ?_
          refine lv_iload_n hx hb dX10_makeSum_60 rfl (lv_at hl 1 rfl) ?_
          refine lv_lconst (v := lN 0) hx hb dX10_makeSum_61 (by decide +kernel) ?_
          refine va_calli (va_runV (As := [.int (nI x1), .long (lN 0)]) (rest := []) ⟨hx, hb, hml, hown, hts⟩ (c_X10_isNumber l dC dI A ad cA g x pf qf pt L x1 0 hF0 hPt0 hM hL2 ix (by decide)) (cwV 2 hts (goodIn_app (goodIn_r [Cond.methodLink RX10 174 yX10_isNumber, Cond.instanceMethod yX10_isNumber, Cond.selects RX10 yX10_isNumber yX10_isNumber, Cond.initialized RX10] [3, 4, 5, 6] rfl rfl) (goodIn_sub (fun w9 h9 => bk1 w9 h9) gw_X10_isNumber)) rfl rfl rfl (by decide +kernel) ⟨Nat.le_of_ble_eq_true rfl, Nat.le_of_ble_eq_true rfl⟩) ⟨fun a U g mk q => ⟨q.1, q.2.1, q.2.2.1, LY.moved (u := U) (U := U.calling g mk a) (Vm.Alike.refl U.vm) q.2.2.2⟩, va_recv hK hP (ci := 13) (q0 := 0) rfl (wo_at (by decide) r_3), fun U hU hW => ⟨rfl, by rw [hU]; exact fun q h => hA q (Nat.le_trans hS.1 h), by rw [hU]; exact hP, LY.moved hW.alike hL⟩⟩ rfl rfl hl.1 rfl (lv_room (Nat.le_of_ble_eq_true rfl)) dX10_makeSum_62 ⟨(Nat.le_of_ble_eq_true rfl), (Nat.le_of_ble_eq_true rfl)⟩) hS (fun q _ h => h) (fun q h => h) (fun r_110 u8 t8 H1 locs ht8 hvm8 hw_111 hB hz1 hk1 hS => ?_)
          obtain ⟨⟩ := u8
          try dsimp only at hw_111 hB
          rw [ht8] at hB
          have hP := hB
          generalize H1 = H at hP hS ⊢
          rcases hw_111 with ⟨rfl, hi2⟩ | ⟨rfl, hi2⟩
          · skip
            have hi2 : isN (gd L x1) 0 = true := hi2
            refine lv_if_eq (tgt := 72) hx hb dX10_makeSum_65 (by decide) (fun c_112 => absurd c_112 (by decide)) (fun c_112 => ?_)
            refine lv_iload_n hx hb dX10_makeSum_68 rfl (lv_at hl 2 rfl) ?_
            refine lv_goto (tgt := 73) hx hb dX10_makeSum_69 (by decide) ?_
            refine W.widen (k := 0) (n := 0) (by omega) (by omega) ?_
            exact W.iret (v := nI y1) hx hb hr (fun t9 ht9 hW9 => ⟨⟨nI y1, (g, x, pt, pf, qf), rfl, ⟨(fun (k : Nat) (hk : k ≠ 0 ∧ k ≠ 1 ∧ k ≠ 2 ∧ k ≠ 3 ∧ k ≠ 5 ∧ k ≠ 6 ∧ k ≠ 7 ∧ k ≠ 8 ∧ k ≠ 9 ∧ k ≠ 10) => rfl), MKP.old (i := y1) (by rw [onF_0]; unfold sumL; rw [if_neg (show ¬ ((gd L x1).1 = 0 ∧ (gd L y1).1 = 0) from by omega), if_pos hi0]) iy hF0 hPt0 hM hL2 hmd hft⟩, by show va_P (dC, dI) vwCl _ t9.heap; rw [ht9]; exact hP⟩, hS.F ht9⟩) hS.2.2 dX10_makeSum_73
          · exact absurd (hi0.symm.trans (show isN (gd L x1) 0 = false from hi2)) (by decide)
        · skip
          have hi0 : isN (gd L x1) 0 = false := hi0
          refine lv_if_ne (tgt := 59) hx hb dX10_makeSum_47 (by decide) (fun c_113 => absurd c_113 (by decide)) (fun c_113 => ?_)
          refine lv_aload_n hx hb dX10_makeSum_50 rfl (lv_at hl 0 rfl) ?_
          refine lv_iload_n hx hb dX10_makeSum_51 rfl (lv_at hl 2 rfl) ?_
          refine lv_lconst (v := lN 0) hx hb dX10_makeSum_52 (by decide +kernel) ?_
          refine va_calli (va_runV (As := [.int (nI y1), .long (lN 0)]) (rest := []) ⟨hx, hb, hml, hown, hts⟩ (c_X10_isNumber l dC dI A ad cA g x pf qf pt L y1 0 hF0 hPt0 hM hL2 iy (by decide)) (cwV 2 hts (goodIn_app (goodIn_r [Cond.methodLink RX10 174 yX10_isNumber, Cond.instanceMethod yX10_isNumber, Cond.selects RX10 yX10_isNumber yX10_isNumber, Cond.initialized RX10] [3, 4, 5, 6] rfl rfl) (goodIn_sub (fun w9 h9 => bk1 w9 h9) gw_X10_isNumber)) rfl rfl rfl (by decide +kernel) ⟨Nat.le_of_ble_eq_true rfl, Nat.le_of_ble_eq_true rfl⟩) ⟨fun a U g mk q => ⟨q.1, q.2.1, q.2.2.1, LY.moved (u := U) (U := U.calling g mk a) (Vm.Alike.refl U.vm) q.2.2.2⟩, va_recv hK hP (ci := 13) (q0 := 0) rfl (wo_at (by decide) r_3), fun U hU hW => ⟨rfl, by rw [hU]; exact fun q h => hA q (Nat.le_trans hS.1 h), by rw [hU]; exact hP, LY.moved hW.alike hL⟩⟩ rfl rfl hl.1 rfl (lv_room (Nat.le_of_ble_eq_true rfl)) dX10_makeSum_53 ⟨(Nat.le_of_ble_eq_true rfl), (Nat.le_of_ble_eq_true rfl)⟩) hS (fun q _ h => h) (fun q h => h) (fun r_114 u8 t8 H1 locs ht8 hvm8 hw_115 hB hz1 hk1 hS => ?_)
          obtain ⟨⟩ := u8
          try dsimp only at hw_115 hB
          rw [ht8] at hB
          have hP := hB
          generalize H1 = H at hP hS ⊢
          rcases hw_115 with ⟨rfl, hi1⟩ | ⟨rfl, hi1⟩
          · skip
            have hi1 : isN (gd L y1) 0 = true := hi1
            refine lv_if_eq (tgt := 74) hx hb dX10_makeSum_56 (by decide) (fun c_116 => absurd c_116 (by decide)) (fun c_116 => ?_)
            refine lv_aload_n hx hb dX10_makeSum_59 rfl (lv_at hl 0 rfl) ?_
            refine lv_iload_n hx hb dX10_makeSum_60 rfl (lv_at hl 1 rfl) ?_
            refine lv_lconst (v := lN 0) hx hb dX10_makeSum_61 (by decide +kernel) ?_
            refine va_calli (va_runV (As := [.int (nI x1), .long (lN 0)]) (rest := []) ⟨hx, hb, hml, hown, hts⟩ (c_X10_isNumber l dC dI A ad cA g x pf qf pt L x1 0 hF0 hPt0 hM hL2 ix (by decide)) (cwV 2 hts (goodIn_app (goodIn_r [Cond.methodLink RX10 174 yX10_isNumber, Cond.instanceMethod yX10_isNumber, Cond.selects RX10 yX10_isNumber yX10_isNumber, Cond.initialized RX10] [3, 4, 5, 6] rfl rfl) (goodIn_sub (fun w9 h9 => bk1 w9 h9) gw_X10_isNumber)) rfl rfl rfl (by decide +kernel) ⟨Nat.le_of_ble_eq_true rfl, Nat.le_of_ble_eq_true rfl⟩) ⟨fun a U g mk q => ⟨q.1, q.2.1, q.2.2.1, LY.moved (u := U) (U := U.calling g mk a) (Vm.Alike.refl U.vm) q.2.2.2⟩, va_recv hK hP (ci := 13) (q0 := 0) rfl (wo_at (by decide) r_3), fun U hU hW => ⟨rfl, by rw [hU]; exact fun q h => hA q (Nat.le_trans hS.1 h), by rw [hU]; exact hP, LY.moved hW.alike hL⟩⟩ rfl rfl hl.1 rfl (lv_room (Nat.le_of_ble_eq_true rfl)) dX10_makeSum_62 ⟨(Nat.le_of_ble_eq_true rfl), (Nat.le_of_ble_eq_true rfl)⟩) hS (fun q _ h => h) (fun q h => h) (fun r_117 u8 t8 H1 locs ht8 hvm8 hw_118 hB hz1 hk1 hS => ?_)
            obtain ⟨⟩ := u8
            try dsimp only at hw_118 hB
            rw [ht8] at hB
            have hP := hB
            generalize H1 = H at hP hS ⊢
            rcases hw_118 with ⟨rfl, hi2⟩ | ⟨rfl, hi2⟩
            · exact absurd (hi0.symm.trans (show isN (gd L x1) 0 = true from hi2)) (by decide)
            · skip
              have hi2 : isN (gd L x1) 0 = false := hi2
              refine lv_if_eq (tgt := 72) hx hb dX10_makeSum_65 (by decide) (fun c_119 => ?_) (fun c_119 => absurd c_119 (by decide))
              refine lv_iload_n hx hb dX10_makeSum_72 rfl (lv_at hl 1 rfl) ?_
              refine W.widen (k := 0) (n := 0) (by omega) (by omega) ?_
              exact W.iret (v := nI x1) hx hb hr (fun t9 ht9 hW9 => ⟨⟨nI x1, (g, x, pt, pf, qf), rfl, ⟨(fun (k : Nat) (hk : k ≠ 0 ∧ k ≠ 1 ∧ k ≠ 2 ∧ k ≠ 3 ∧ k ≠ 5 ∧ k ≠ 6 ∧ k ≠ 7 ∧ k ≠ 8 ∧ k ≠ 9 ∧ k ≠ 10) => rfl), MKP.old (i := x1) (by rw [onF_0]; unfold sumL; rw [if_neg (show ¬ ((gd L x1).1 = 0 ∧ (gd L y1).1 = 0) from by omega), if_neg (by rw [hi0]; decide), if_pos hi1]) ix hF0 hPt0 hM hL2 hmd hft⟩, by show va_P (dC, dI) vwCl _ t9.heap; rw [ht9]; exact hP⟩, hS.F ht9⟩) hS.2.2 dX10_makeSum_73
          · skip
            have hi1 : isN (gd L y1) 0 = false := hi1
            refine lv_if_eq (tgt := 74) hx hb dX10_makeSum_56 (by decide) (fun c_120 => ?_) (fun c_120 => absurd c_120 (by decide))
            refine lv_aload_n hx hb dX10_makeSum_74 rfl (lv_at hl 0 rfl) ?_
            refine m_get (D := (dC, dI)) (v := .ref (ad 9)) (C := RX10) (T := TX10) (N := 29) hx hb hts bk0 hown hK hP 0 (by decide) r_3 rfl 11 (by decide) (hts (.fieldLink RX10 41 "GradientDeskModel" "sizeN" "[I") (List.mem_of_getElem? (i := 7) rfl)) (fun _ h9 => h9) rfl dX10_makeSum_75 ?_
            refine lv_iload_n hx hb dX10_makeSum_78 rfl (lv_at hl 1 rfl) ?_
            refine m_iald hx hb hK hP 9 (by decide) rfl p_14 (i := x1) (by omega) (by decide) dX10_makeSum_79 ?_
            have b_121 := (hpt_16 4) x1
            refine lv_aload_n hx hb dX10_makeSum_80 rfl (lv_at hl 0 rfl) ?_
            refine m_get (D := (dC, dI)) (v := .ref (ad 10)) (C := RX10) (T := TX10) (N := 29) hx hb hts bk0 hown hK hP 0 (by decide) r_3 rfl 12 (by decide) (hts (.fieldLink RX10 44 "GradientDeskModel" "sizeD" "[I") (List.mem_of_getElem? (i := 8) rfl)) (fun _ h9 => h9) rfl dX10_makeSum_81 ?_
            refine lv_iload_n hx hb dX10_makeSum_84 rfl (lv_at hl 2 rfl) ?_
            refine m_iald hx hb hK hP 10 (by decide) rfl p_15 (i := y1) (by omega) (by decide) dX10_makeSum_85 ?_
            have b_122 := (hpt_16 5) y1
            refine lv_iadd hx hb dX10_makeSum_86 ?_
            refine lv_topi (fun x_123 e_124 => ?_)
            obtain rfl : x_123 = iI (((pt 4) x1) + ((pt 5) y1)) := e_124.trans (iI_addP rfl rfl)
            refine lv_istore_n (lv' := [(3, .int (iI (((pt 4) x1) + ((pt 5) y1)))), (0, .ref (ad 0)), (1, .int (nI x1)), (2, .int (nI y1))]) hx hb dX10_makeSum_87 rfl hl (by decide) rfl (fun ls hl => ?_)
            refine lv_aload_n hx hb dX10_makeSum_88 rfl (lv_at hl 1 rfl) ?_
            refine m_get (D := (dC, dI)) (v := .ref (ad 9)) (C := RX10) (T := TX10) (N := 29) hx hb hts bk0 hown hK hP 0 (by decide) r_3 rfl 11 (by decide) (hts (.fieldLink RX10 41 "GradientDeskModel" "sizeN" "[I") (List.mem_of_getElem? (i := 7) rfl)) (fun _ h9 => h9) rfl dX10_makeSum_89 ?_
            refine lv_iload_n hx hb dX10_makeSum_92 rfl (lv_at hl 3 rfl) ?_
            refine m_iald hx hb hK hP 9 (by decide) rfl p_14 (i := y1) (by omega) (by decide) dX10_makeSum_93 ?_
            have b_125 := (hpt_16 4) y1
            refine lv_aload_n hx hb dX10_makeSum_94 rfl (lv_at hl 1 rfl) ?_
            refine m_get (D := (dC, dI)) (v := .ref (ad 10)) (C := RX10) (T := TX10) (N := 29) hx hb hts bk0 hown hK hP 0 (by decide) r_3 rfl 12 (by decide) (hts (.fieldLink RX10 44 "GradientDeskModel" "sizeD" "[I") (List.mem_of_getElem? (i := 8) rfl)) (fun _ h9 => h9) rfl dX10_makeSum_95 ?_
            refine lv_iload_n hx hb dX10_makeSum_98 rfl (lv_at hl 2 rfl) ?_
            refine m_iald hx hb hK hP 10 (by decide) rfl p_15 (i := x1) (by omega) (by decide) dX10_makeSum_99 ?_
            have b_126 := (hpt_16 5) x1
            refine lv_iadd hx hb dX10_makeSum_100 ?_
            refine lv_topi (fun x_127 e_128 => ?_)
            obtain rfl : x_127 = iI (((pt 4) y1) + ((pt 5) x1)) := e_128.trans (iI_addP rfl rfl)
            refine lv_istore (lv' := [(4, .int (iI (((pt 4) y1) + ((pt 5) x1)))), (3, .int (iI (((pt 4) x1) + ((pt 5) y1)))), (0, .ref (ad 0)), (1, .int (nI x1)), (2, .int (nI y1))]) hx hb dX10_makeSum_101 hl (by decide) rfl (fun ls hl => ?_)
            refine lv_aload_n hx hb dX10_makeSum_103 rfl (lv_at hl 2 rfl) ?_
            refine lv_iconst (v := nI 2) hx hb dX10_makeSum_104 (by decide +kernel) ?_
            refine lv_iload_n hx hb dX10_makeSum_105 rfl (lv_at hl 3 rfl) ?_
            refine lv_iload_n hx hb dX10_makeSum_106 rfl (lv_at hl 4 rfl) ?_
            refine lv_aload_n hx hb dX10_makeSum_107 rfl (lv_at hl 2 rfl) ?_
            refine m_get (D := (dC, dI)) (v := .ref (ad 8)) (C := RX10) (T := TX10) (N := 29) hx hb hts bk0 hown hK hP 0 (by decide) r_3 rfl 10 (by decide) (hts (.fieldLink RX10 38 "GradientDeskModel" "degree" "[I") (List.mem_of_getElem? (i := 9) rfl)) (fun _ h9 => h9) rfl dX10_makeSum_108 ?_
            refine lv_iload_n hx hb dX10_makeSum_111 rfl (lv_at hl 3 rfl) ?_
            refine m_iald hx hb hK hP 8 (by decide) rfl p_13 (i := x1) (by omega) (by decide) dX10_makeSum_112 ?_
            have b_129 := (hpt_16 3) x1
            refine lv_aload_n hx hb dX10_makeSum_113 rfl (lv_at hl 2 rfl) ?_
            refine m_get (D := (dC, dI)) (v := .ref (ad 8)) (C := RX10) (T := TX10) (N := 29) hx hb hts bk0 hown hK hP 0 (by decide) r_3 rfl 10 (by decide) (hts (.fieldLink RX10 38 "GradientDeskModel" "degree" "[I") (List.mem_of_getElem? (i := 9) rfl)) (fun _ h9 => h9) rfl dX10_makeSum_114 ?_
            refine lv_iload_n hx hb dX10_makeSum_117 rfl (lv_at hl 4 rfl) ?_
            refine m_iald hx hb hK hP 8 (by decide) rfl p_13 (i := y1) (by omega) (by decide) dX10_makeSum_118 ?_
            have b_130 := (hpt_16 3) y1
            refine lv_icmp_le (tgt := 131) hx hb dX10_makeSum_119 (by decide) (fun c_131 => ?_) (fun c_131 => ?_)
            · have c_131 := (k_iLE (a := (pt 3) x1) (b := (pt 3) y1) rfl rfl (by omega) (by omega)).mp c_131
              refine lv_aload_n hx hb dX10_makeSum_131 rfl (lv_at hl 2 rfl) ?_
              refine m_get (D := (dC, dI)) (v := .ref (ad 8)) (C := RX10) (T := TX10) (N := 29) hx hb hts bk0 hown hK hP 0 (by decide) r_3 rfl 10 (by decide) (hts (.fieldLink RX10 38 "GradientDeskModel" "degree" "[I") (List.mem_of_getElem? (i := 9) rfl)) (fun _ h9 => h9) rfl dX10_makeSum_132 ?_
              refine lv_iload_n hx hb dX10_makeSum_135 rfl (lv_at hl 4 rfl) ?_
              refine m_iald hx hb hK hP 8 (by decide) rfl p_13 (i := y1) (by omega) (by decide) dX10_makeSum_136 ?_
              have b_132 := (hpt_16 3) y1
              refine lv_iconst (v := nI 1) hx hb dX10_makeSum_137 (by decide +kernel) ?_
              refine lv_iload_n hx hb dX10_makeSum_138 rfl (lv_at hl 1 rfl) ?_
              refine lv_iload hx hb dX10_makeSum_139 (lv_at hl 0 rfl) ?_
              refine lv_icmp_le (tgt := 148) hx hb dX10_makeSum_141 (by decide) (fun c_133 => ?_) (fun c_133 => ?_)
              · have c_133 := (k_iLE (a := ((pt 4) x1) + ((pt 5) y1)) (b := ((pt 4) y1) + ((pt 5) x1)) rfl rfl (by omega) (by omega)).mp c_133
                refine lv_iload hx hb dX10_makeSum_148 (lv_at hl 0 rfl) ?_
                refine lv_iadd hx hb dX10_makeSum_150 ?_
                refine lv_topi (fun x_134 e_135 => ?_)
                obtain rfl : x_134 = iI (1 + (((pt 4) y1) + ((pt 5) x1))) := e_135.trans (iI_addP (show nI 1 = iI 1 from by decide) rfl)
                refine lv_aload_n hx hb dX10_makeSum_151 rfl (lv_at hl 2 rfl) ?_
                refine m_get (D := (dC, dI)) (v := .ref (ad 10)) (C := RX10) (T := TX10) (N := 29) hx hb hts bk0 hown hK hP 0 (by decide) r_3 rfl 12 (by decide) (hts (.fieldLink RX10 44 "GradientDeskModel" "sizeD" "[I") (List.mem_of_getElem? (i := 8) rfl)) (fun _ h9 => h9) rfl dX10_makeSum_152 ?_
                refine lv_iload_n hx hb dX10_makeSum_155 rfl (lv_at hl 3 rfl) ?_
                refine m_iald hx hb hK hP 10 (by decide) rfl p_15 (i := x1) (by omega) (by decide) dX10_makeSum_156 ?_
                have b_136 := (hpt_16 5) x1
                refine lv_aload_n hx hb dX10_makeSum_157 rfl (lv_at hl 2 rfl) ?_
                refine m_get (D := (dC, dI)) (v := .ref (ad 10)) (C := RX10) (T := TX10) (N := 29) hx hb hts bk0 hown hK hP 0 (by decide) r_3 rfl 12 (by decide) (hts (.fieldLink RX10 44 "GradientDeskModel" "sizeD" "[I") (List.mem_of_getElem? (i := 8) rfl)) (fun _ h9 => h9) rfl dX10_makeSum_158 ?_
                refine lv_iload_n hx hb dX10_makeSum_161 rfl (lv_at hl 4 rfl) ?_
                refine m_iald hx hb hK hP 10 (by decide) rfl p_15 (i := y1) (by omega) (by decide) dX10_makeSum_162 ?_
                have b_137 := (hpt_16 5) y1
                refine lv_iadd hx hb dX10_makeSum_163 ?_
                refine lv_topi (fun x_138 e_139 => ?_)
                obtain rfl : x_138 = iI (((pt 5) x1) + ((pt 5) y1)) := e_139.trans (iI_addP rfl rfl)
                refine va_calli (va_runV (As := [.int (nI 2), .int (nI x1), .int (nI y1), .int (iI ((pt 3) y1)), .int (iI (1 + (((pt 4) y1) + ((pt 5) x1)))), .int (iI (((pt 5) x1) + ((pt 5) y1)))]) (rest := []) ⟨hx, hb, hml, hown, hts⟩ (c_X10_describe l dC dI A ad cA g x pf qf pt L (2, ((x1 : Nat) : Int), ((y1 : Nat) : Int), max (gd L x1).2.2.2.1 (gd L y1).2.2.2.1, 1 + max ((gd L x1).2.2.2.2.1 + (gd L y1).2.2.2.2.2.1) ((gd L y1).2.2.2.2.1 + (gd L x1).2.2.2.2.2.1), (gd L x1).2.2.2.2.2.1 + (gd L y1).2.2.2.2.2.1, 0, 1) (nI 2) (nI x1) (nI y1) (iI ((pt 3) y1)) (iI (1 + (((pt 4) y1) + ((pt 5) x1)))) (iI (((pt 5) x1) + ((pt 5) y1))) 0 hF0 hPt0 hM hmd hL2 hft (Or.inl rfl) ((show nI 2 = iI 2 from by decide).trans (congrArg iI (by rfl))) ((nI_iI x1).trans (congrArg iI (by rfl))) ((nI_iI y1).trans (congrArg iI (by rfl))) ((rfl : iI ((pt 3) y1) = _).trans (congrArg iI (by dsimp only; omega))) ((rfl : iI (1 + (((pt 4) y1) + ((pt 5) x1))) = _).trans (congrArg iI (by dsimp only; omega))) ((rfl : iI (((pt 5) x1) + ((pt 5) y1)) = _).trans (congrArg iI (by dsimp only; omega))) (fun h9 => absurd (show (2 : Nat) = 0 from h9) (by decide)) (by show 2 ≤ 20000 ∧ -1 ≤ ((x1 : Nat) : Int) ∧ ((x1 : Nat) : Int) ≤ 20000 ∧ -1 ≤ ((y1 : Nat) : Int) ∧ ((y1 : Nat) : Int) ≤ 20000 ∧ max (gd L x1).2.2.2.1 (gd L y1).2.2.2.1 ≤ 20000 ∧ 1 + max ((gd L x1).2.2.2.2.1 + (gd L y1).2.2.2.2.2.1) ((gd L y1).2.2.2.2.1 + (gd L x1).2.2.2.2.2.1) ≤ 20000 ∧ (gd L x1).2.2.2.2.2.1 + (gd L y1).2.2.2.2.2.1 ≤ 20000; omega)) (cwV 6 hts (goodIn_app (goodIn_r [Cond.methodLink RX10 160 yX10_describe, Cond.instanceMethod yX10_describe, Cond.selects RX10 yX10_describe yX10_describe, Cond.initialized RX10] [10, 11, 12, 6] rfl rfl) (goodIn_sub (fun w9 h9 => bk2 w9 h9) gw_X10_describe)) rfl rfl rfl (by decide +kernel) ⟨Nat.le_of_ble_eq_true rfl, Nat.le_of_ble_eq_true rfl⟩) ⟨fun a U g mk q => ⟨q.1, q.2.1, q.2.2.1, LY.moved (u := U) (U := U.calling g mk a) (Vm.Alike.refl U.vm) q.2.2.2⟩, va_recv hK hP (ci := 13) (q0 := 0) rfl (wo_at (by decide) r_3), fun U hU hW => ⟨rfl, by rw [hU]; exact fun q h => hA q (Nat.le_trans hS.1 h), by rw [hU]; exact hP, LY.moved hW.alike hL⟩⟩ rfl rfl hl.1 rfl (lv_room (Nat.le_of_ble_eq_true rfl)) dX10_makeSum_164 ⟨(Nat.le_of_ble_eq_true rfl), (Nat.le_of_ble_eq_true rfl)⟩) hS (fun q _ h => h) (fun q h => h) (fun r_140 u8 t8 H1 locs ht8 hvm8 hw_141 hB hz1 hk1 hS => ?_)
                obtain ⟨g_142, x2_143, pt2_144, pf2_145, qf2_146⟩ := u8
                try dsimp only at hw_141 hB
                rw [ht8] at hB
                have hP := hB
                generalize H1 = H at hP hS ⊢
                obtain ⟨fr_147, hK⟩ := hw_141
                refine W.widen (k := 0) (n := 0) (by omega) (by omega) ?_
                exact W.iret (v := r_140) hx hb hr (fun t9 ht9 hW9 => ⟨⟨r_140, (g_142, x2_143, pt2_144, pf2_145, qf2_146), rfl, ⟨(fun (k : Nat) (hk : k ≠ 0 ∧ k ≠ 1 ∧ k ≠ 2 ∧ k ≠ 3 ∧ k ≠ 5 ∧ k ≠ 6 ∧ k ≠ 7 ∧ k ≠ 8 ∧ k ≠ 9 ∧ k ≠ 10) => (fr_147 k (by omega)).trans (rfl)), by rw [onF_0] at hK ⊢; unfold sumL; rw [if_neg (show ¬ ((gd L x1).1 = 0 ∧ (gd L y1).1 = 0) from by omega), if_neg (by rw [hi0]; decide), if_neg (by rw [hi1]; decide)]; exact hK⟩, by show va_P (dC, dI) vwCl _ t9.heap; rw [ht9]; exact hP⟩, hS.F ht9⟩) hS.2.2 dX10_makeSum_167
              · have c_133 := mt (k_iLE (a := ((pt 4) x1) + ((pt 5) y1)) (b := ((pt 4) y1) + ((pt 5) x1)) rfl rfl (by omega) (by omega)).mpr c_133
                refine lv_iload_n hx hb dX10_makeSum_144 rfl (lv_at hl 1 rfl) ?_
                refine lv_goto (tgt := 150) hx hb dX10_makeSum_145 (by decide) ?_
                refine lv_iadd hx hb dX10_makeSum_150 ?_
                refine lv_topi (fun x_148 e_149 => ?_)
                obtain rfl : x_148 = iI (1 + (((pt 4) x1) + ((pt 5) y1))) := e_149.trans (iI_addP (show nI 1 = iI 1 from by decide) rfl)
                refine lv_aload_n hx hb dX10_makeSum_151 rfl (lv_at hl 2 rfl) ?_
                refine m_get (D := (dC, dI)) (v := .ref (ad 10)) (C := RX10) (T := TX10) (N := 29) hx hb hts bk0 hown hK hP 0 (by decide) r_3 rfl 12 (by decide) (hts (.fieldLink RX10 44 "GradientDeskModel" "sizeD" "[I") (List.mem_of_getElem? (i := 8) rfl)) (fun _ h9 => h9) rfl dX10_makeSum_152 ?_
                refine lv_iload_n hx hb dX10_makeSum_155 rfl (lv_at hl 3 rfl) ?_
                refine m_iald hx hb hK hP 10 (by decide) rfl p_15 (i := x1) (by omega) (by decide) dX10_makeSum_156 ?_
                have b_150 := (hpt_16 5) x1
                refine lv_aload_n hx hb dX10_makeSum_157 rfl (lv_at hl 2 rfl) ?_
                refine m_get (D := (dC, dI)) (v := .ref (ad 10)) (C := RX10) (T := TX10) (N := 29) hx hb hts bk0 hown hK hP 0 (by decide) r_3 rfl 12 (by decide) (hts (.fieldLink RX10 44 "GradientDeskModel" "sizeD" "[I") (List.mem_of_getElem? (i := 8) rfl)) (fun _ h9 => h9) rfl dX10_makeSum_158 ?_
                refine lv_iload_n hx hb dX10_makeSum_161 rfl (lv_at hl 4 rfl) ?_
                refine m_iald hx hb hK hP 10 (by decide) rfl p_15 (i := y1) (by omega) (by decide) dX10_makeSum_162 ?_
                have b_151 := (hpt_16 5) y1
                refine lv_iadd hx hb dX10_makeSum_163 ?_
                refine lv_topi (fun x_152 e_153 => ?_)
                obtain rfl : x_152 = iI (((pt 5) x1) + ((pt 5) y1)) := e_153.trans (iI_addP rfl rfl)
                refine va_calli (va_runV (As := [.int (nI 2), .int (nI x1), .int (nI y1), .int (iI ((pt 3) y1)), .int (iI (1 + (((pt 4) x1) + ((pt 5) y1)))), .int (iI (((pt 5) x1) + ((pt 5) y1)))]) (rest := []) ⟨hx, hb, hml, hown, hts⟩ (c_X10_describe l dC dI A ad cA g x pf qf pt L (2, ((x1 : Nat) : Int), ((y1 : Nat) : Int), max (gd L x1).2.2.2.1 (gd L y1).2.2.2.1, 1 + max ((gd L x1).2.2.2.2.1 + (gd L y1).2.2.2.2.2.1) ((gd L y1).2.2.2.2.1 + (gd L x1).2.2.2.2.2.1), (gd L x1).2.2.2.2.2.1 + (gd L y1).2.2.2.2.2.1, 0, 1) (nI 2) (nI x1) (nI y1) (iI ((pt 3) y1)) (iI (1 + (((pt 4) x1) + ((pt 5) y1)))) (iI (((pt 5) x1) + ((pt 5) y1))) 0 hF0 hPt0 hM hmd hL2 hft (Or.inl rfl) ((show nI 2 = iI 2 from by decide).trans (congrArg iI (by rfl))) ((nI_iI x1).trans (congrArg iI (by rfl))) ((nI_iI y1).trans (congrArg iI (by rfl))) ((rfl : iI ((pt 3) y1) = _).trans (congrArg iI (by dsimp only; omega))) ((rfl : iI (1 + (((pt 4) x1) + ((pt 5) y1))) = _).trans (congrArg iI (by dsimp only; omega))) ((rfl : iI (((pt 5) x1) + ((pt 5) y1)) = _).trans (congrArg iI (by dsimp only; omega))) (fun h9 => absurd (show (2 : Nat) = 0 from h9) (by decide)) (by show 2 ≤ 20000 ∧ -1 ≤ ((x1 : Nat) : Int) ∧ ((x1 : Nat) : Int) ≤ 20000 ∧ -1 ≤ ((y1 : Nat) : Int) ∧ ((y1 : Nat) : Int) ≤ 20000 ∧ max (gd L x1).2.2.2.1 (gd L y1).2.2.2.1 ≤ 20000 ∧ 1 + max ((gd L x1).2.2.2.2.1 + (gd L y1).2.2.2.2.2.1) ((gd L y1).2.2.2.2.1 + (gd L x1).2.2.2.2.2.1) ≤ 20000 ∧ (gd L x1).2.2.2.2.2.1 + (gd L y1).2.2.2.2.2.1 ≤ 20000; omega)) (cwV 6 hts (goodIn_app (goodIn_r [Cond.methodLink RX10 160 yX10_describe, Cond.instanceMethod yX10_describe, Cond.selects RX10 yX10_describe yX10_describe, Cond.initialized RX10] [10, 11, 12, 6] rfl rfl) (goodIn_sub (fun w9 h9 => bk2 w9 h9) gw_X10_describe)) rfl rfl rfl (by decide +kernel) ⟨Nat.le_of_ble_eq_true rfl, Nat.le_of_ble_eq_true rfl⟩) ⟨fun a U g mk q => ⟨q.1, q.2.1, q.2.2.1, LY.moved (u := U) (U := U.calling g mk a) (Vm.Alike.refl U.vm) q.2.2.2⟩, va_recv hK hP (ci := 13) (q0 := 0) rfl (wo_at (by decide) r_3), fun U hU hW => ⟨rfl, by rw [hU]; exact fun q h => hA q (Nat.le_trans hS.1 h), by rw [hU]; exact hP, LY.moved hW.alike hL⟩⟩ rfl rfl hl.1 rfl (lv_room (Nat.le_of_ble_eq_true rfl)) dX10_makeSum_164 ⟨(Nat.le_of_ble_eq_true rfl), (Nat.le_of_ble_eq_true rfl)⟩) hS (fun q _ h => h) (fun q h => h) (fun r_154 u8 t8 H1 locs ht8 hvm8 hw_155 hB hz1 hk1 hS => ?_)
                obtain ⟨g_156, x2_157, pt2_158, pf2_159, qf2_160⟩ := u8
                try dsimp only at hw_155 hB
                rw [ht8] at hB
                have hP := hB
                generalize H1 = H at hP hS ⊢
                obtain ⟨fr_161, hK⟩ := hw_155
                refine W.widen (k := 0) (n := 0) (by omega) (by omega) ?_
                exact W.iret (v := r_154) hx hb hr (fun t9 ht9 hW9 => ⟨⟨r_154, (g_156, x2_157, pt2_158, pf2_159, qf2_160), rfl, ⟨(fun (k : Nat) (hk : k ≠ 0 ∧ k ≠ 1 ∧ k ≠ 2 ∧ k ≠ 3 ∧ k ≠ 5 ∧ k ≠ 6 ∧ k ≠ 7 ∧ k ≠ 8 ∧ k ≠ 9 ∧ k ≠ 10) => (fr_161 k (by omega)).trans (rfl)), by rw [onF_0] at hK ⊢; unfold sumL; rw [if_neg (show ¬ ((gd L x1).1 = 0 ∧ (gd L y1).1 = 0) from by omega), if_neg (by rw [hi0]; decide), if_neg (by rw [hi1]; decide)]; exact hK⟩, by show va_P (dC, dI) vwCl _ t9.heap; rw [ht9]; exact hP⟩, hS.F ht9⟩) hS.2.2 dX10_makeSum_167
            · have c_131 := mt (k_iLE (a := (pt 3) x1) (b := (pt 3) y1) rfl rfl (by omega) (by omega)).mpr c_131
              refine lv_aload_n hx hb dX10_makeSum_122 rfl (lv_at hl 2 rfl) ?_
              refine m_get (D := (dC, dI)) (v := .ref (ad 8)) (C := RX10) (T := TX10) (N := 29) hx hb hts bk0 hown hK hP 0 (by decide) r_3 rfl 10 (by decide) (hts (.fieldLink RX10 38 "GradientDeskModel" "degree" "[I") (List.mem_of_getElem? (i := 9) rfl)) (fun _ h9 => h9) rfl dX10_makeSum_123 ?_
              refine lv_iload_n hx hb dX10_makeSum_126 rfl (lv_at hl 3 rfl) ?_
              refine m_iald hx hb hK hP 8 (by decide) rfl p_13 (i := x1) (by omega) (by decide) dX10_makeSum_127 ?_
              have b_162 := (hpt_16 3) x1
              refine lv_goto (tgt := 137) hx hb dX10_makeSum_128 (by decide) ?_
              refine lv_iconst (v := nI 1) hx hb dX10_makeSum_137 (by decide +kernel) ?_
              refine lv_iload_n hx hb dX10_makeSum_138 rfl (lv_at hl 1 rfl) ?_
              refine lv_iload hx hb dX10_makeSum_139 (lv_at hl 0 rfl) ?_
              refine lv_icmp_le (tgt := 148) hx hb dX10_makeSum_141 (by decide) (fun c_163 => ?_) (fun c_163 => ?_)
              · have c_163 := (k_iLE (a := ((pt 4) x1) + ((pt 5) y1)) (b := ((pt 4) y1) + ((pt 5) x1)) rfl rfl (by omega) (by omega)).mp c_163
                refine lv_iload hx hb dX10_makeSum_148 (lv_at hl 0 rfl) ?_
                refine lv_iadd hx hb dX10_makeSum_150 ?_
                refine lv_topi (fun x_164 e_165 => ?_)
                obtain rfl : x_164 = iI (1 + (((pt 4) y1) + ((pt 5) x1))) := e_165.trans (iI_addP (show nI 1 = iI 1 from by decide) rfl)
                refine lv_aload_n hx hb dX10_makeSum_151 rfl (lv_at hl 2 rfl) ?_
                refine m_get (D := (dC, dI)) (v := .ref (ad 10)) (C := RX10) (T := TX10) (N := 29) hx hb hts bk0 hown hK hP 0 (by decide) r_3 rfl 12 (by decide) (hts (.fieldLink RX10 44 "GradientDeskModel" "sizeD" "[I") (List.mem_of_getElem? (i := 8) rfl)) (fun _ h9 => h9) rfl dX10_makeSum_152 ?_
                refine lv_iload_n hx hb dX10_makeSum_155 rfl (lv_at hl 3 rfl) ?_
                refine m_iald hx hb hK hP 10 (by decide) rfl p_15 (i := x1) (by omega) (by decide) dX10_makeSum_156 ?_
                have b_166 := (hpt_16 5) x1
                refine lv_aload_n hx hb dX10_makeSum_157 rfl (lv_at hl 2 rfl) ?_
                refine m_get (D := (dC, dI)) (v := .ref (ad 10)) (C := RX10) (T := TX10) (N := 29) hx hb hts bk0 hown hK hP 0 (by decide) r_3 rfl 12 (by decide) (hts (.fieldLink RX10 44 "GradientDeskModel" "sizeD" "[I") (List.mem_of_getElem? (i := 8) rfl)) (fun _ h9 => h9) rfl dX10_makeSum_158 ?_
                refine lv_iload_n hx hb dX10_makeSum_161 rfl (lv_at hl 4 rfl) ?_
                refine m_iald hx hb hK hP 10 (by decide) rfl p_15 (i := y1) (by omega) (by decide) dX10_makeSum_162 ?_
                have b_167 := (hpt_16 5) y1
                refine lv_iadd hx hb dX10_makeSum_163 ?_
                refine lv_topi (fun x_168 e_169 => ?_)
                obtain rfl : x_168 = iI (((pt 5) x1) + ((pt 5) y1)) := e_169.trans (iI_addP rfl rfl)
                refine va_calli (va_runV (As := [.int (nI 2), .int (nI x1), .int (nI y1), .int (iI ((pt 3) x1)), .int (iI (1 + (((pt 4) y1) + ((pt 5) x1)))), .int (iI (((pt 5) x1) + ((pt 5) y1)))]) (rest := []) ⟨hx, hb, hml, hown, hts⟩ (c_X10_describe l dC dI A ad cA g x pf qf pt L (2, ((x1 : Nat) : Int), ((y1 : Nat) : Int), max (gd L x1).2.2.2.1 (gd L y1).2.2.2.1, 1 + max ((gd L x1).2.2.2.2.1 + (gd L y1).2.2.2.2.2.1) ((gd L y1).2.2.2.2.1 + (gd L x1).2.2.2.2.2.1), (gd L x1).2.2.2.2.2.1 + (gd L y1).2.2.2.2.2.1, 0, 1) (nI 2) (nI x1) (nI y1) (iI ((pt 3) x1)) (iI (1 + (((pt 4) y1) + ((pt 5) x1)))) (iI (((pt 5) x1) + ((pt 5) y1))) 0 hF0 hPt0 hM hmd hL2 hft (Or.inl rfl) ((show nI 2 = iI 2 from by decide).trans (congrArg iI (by rfl))) ((nI_iI x1).trans (congrArg iI (by rfl))) ((nI_iI y1).trans (congrArg iI (by rfl))) ((rfl : iI ((pt 3) x1) = _).trans (congrArg iI (by dsimp only; omega))) ((rfl : iI (1 + (((pt 4) y1) + ((pt 5) x1))) = _).trans (congrArg iI (by dsimp only; omega))) ((rfl : iI (((pt 5) x1) + ((pt 5) y1)) = _).trans (congrArg iI (by dsimp only; omega))) (fun h9 => absurd (show (2 : Nat) = 0 from h9) (by decide)) (by show 2 ≤ 20000 ∧ -1 ≤ ((x1 : Nat) : Int) ∧ ((x1 : Nat) : Int) ≤ 20000 ∧ -1 ≤ ((y1 : Nat) : Int) ∧ ((y1 : Nat) : Int) ≤ 20000 ∧ max (gd L x1).2.2.2.1 (gd L y1).2.2.2.1 ≤ 20000 ∧ 1 + max ((gd L x1).2.2.2.2.1 + (gd L y1).2.2.2.2.2.1) ((gd L y1).2.2.2.2.1 + (gd L x1).2.2.2.2.2.1) ≤ 20000 ∧ (gd L x1).2.2.2.2.2.1 + (gd L y1).2.2.2.2.2.1 ≤ 20000; omega)) (cwV 6 hts (goodIn_app (goodIn_r [Cond.methodLink RX10 160 yX10_describe, Cond.instanceMethod yX10_describe, Cond.selects RX10 yX10_describe yX10_describe, Cond.initialized RX10] [10, 11, 12, 6] rfl rfl) (goodIn_sub (fun w9 h9 => bk2 w9 h9) gw_X10_describe)) rfl rfl rfl (by decide +kernel) ⟨Nat.le_of_ble_eq_true rfl, Nat.le_of_ble_eq_true rfl⟩) ⟨fun a U g mk q => ⟨q.1, q.2.1, q.2.2.1, LY.moved (u := U) (U := U.calling g mk a) (Vm.Alike.refl U.vm) q.2.2.2⟩, va_recv hK hP (ci := 13) (q0 := 0) rfl (wo_at (by decide) r_3), fun U hU hW => ⟨rfl, by rw [hU]; exact fun q h => hA q (Nat.le_trans hS.1 h), by rw [hU]; exact hP, LY.moved hW.alike hL⟩⟩ rfl rfl hl.1 rfl (lv_room (Nat.le_of_ble_eq_true rfl)) dX10_makeSum_164 ⟨(Nat.le_of_ble_eq_true rfl), (Nat.le_of_ble_eq_true rfl)⟩) hS (fun q _ h => h) (fun q h => h) (fun r_170 u8 t8 H1 locs ht8 hvm8 hw_171 hB hz1 hk1 hS => ?_)
                obtain ⟨g_172, x2_173, pt2_174, pf2_175, qf2_176⟩ := u8
                try dsimp only at hw_171 hB
                rw [ht8] at hB
                have hP := hB
                generalize H1 = H at hP hS ⊢
                obtain ⟨fr_177, hK⟩ := hw_171
                refine W.widen (k := 0) (n := 0) (by omega) (by omega) ?_
                exact W.iret (v := r_170) hx hb hr (fun t9 ht9 hW9 => ⟨⟨r_170, (g_172, x2_173, pt2_174, pf2_175, qf2_176), rfl, ⟨(fun (k : Nat) (hk : k ≠ 0 ∧ k ≠ 1 ∧ k ≠ 2 ∧ k ≠ 3 ∧ k ≠ 5 ∧ k ≠ 6 ∧ k ≠ 7 ∧ k ≠ 8 ∧ k ≠ 9 ∧ k ≠ 10) => (fr_177 k (by omega)).trans (rfl)), by rw [onF_0] at hK ⊢; unfold sumL; rw [if_neg (show ¬ ((gd L x1).1 = 0 ∧ (gd L y1).1 = 0) from by omega), if_neg (by rw [hi0]; decide), if_neg (by rw [hi1]; decide)]; exact hK⟩, by show va_P (dC, dI) vwCl _ t9.heap; rw [ht9]; exact hP⟩, hS.F ht9⟩) hS.2.2 dX10_makeSum_167
              · have c_163 := mt (k_iLE (a := ((pt 4) x1) + ((pt 5) y1)) (b := ((pt 4) y1) + ((pt 5) x1)) rfl rfl (by omega) (by omega)).mpr c_163
                refine lv_iload_n hx hb dX10_makeSum_144 rfl (lv_at hl 1 rfl) ?_
                refine lv_goto (tgt := 150) hx hb dX10_makeSum_145 (by decide) ?_
                refine lv_iadd hx hb dX10_makeSum_150 ?_
                refine lv_topi (fun x_178 e_179 => ?_)
                obtain rfl : x_178 = iI (1 + (((pt 4) x1) + ((pt 5) y1))) := e_179.trans (iI_addP (show nI 1 = iI 1 from by decide) rfl)
                refine lv_aload_n hx hb dX10_makeSum_151 rfl (lv_at hl 2 rfl) ?_
                refine m_get (D := (dC, dI)) (v := .ref (ad 10)) (C := RX10) (T := TX10) (N := 29) hx hb hts bk0 hown hK hP 0 (by decide) r_3 rfl 12 (by decide) (hts (.fieldLink RX10 44 "GradientDeskModel" "sizeD" "[I") (List.mem_of_getElem? (i := 8) rfl)) (fun _ h9 => h9) rfl dX10_makeSum_152 ?_
                refine lv_iload_n hx hb dX10_makeSum_155 rfl (lv_at hl 3 rfl) ?_
                refine m_iald hx hb hK hP 10 (by decide) rfl p_15 (i := x1) (by omega) (by decide) dX10_makeSum_156 ?_
                have b_180 := (hpt_16 5) x1
                refine lv_aload_n hx hb dX10_makeSum_157 rfl (lv_at hl 2 rfl) ?_
                refine m_get (D := (dC, dI)) (v := .ref (ad 10)) (C := RX10) (T := TX10) (N := 29) hx hb hts bk0 hown hK hP 0 (by decide) r_3 rfl 12 (by decide) (hts (.fieldLink RX10 44 "GradientDeskModel" "sizeD" "[I") (List.mem_of_getElem? (i := 8) rfl)) (fun _ h9 => h9) rfl dX10_makeSum_158 ?_
                refine lv_iload_n hx hb dX10_makeSum_161 rfl (lv_at hl 4 rfl) ?_
                refine m_iald hx hb hK hP 10 (by decide) rfl p_15 (i := y1) (by omega) (by decide) dX10_makeSum_162 ?_
                have b_181 := (hpt_16 5) y1
                refine lv_iadd hx hb dX10_makeSum_163 ?_
                refine lv_topi (fun x_182 e_183 => ?_)
                obtain rfl : x_182 = iI (((pt 5) x1) + ((pt 5) y1)) := e_183.trans (iI_addP rfl rfl)
                refine va_calli (va_runV (As := [.int (nI 2), .int (nI x1), .int (nI y1), .int (iI ((pt 3) x1)), .int (iI (1 + (((pt 4) x1) + ((pt 5) y1)))), .int (iI (((pt 5) x1) + ((pt 5) y1)))]) (rest := []) ⟨hx, hb, hml, hown, hts⟩ (c_X10_describe l dC dI A ad cA g x pf qf pt L (2, ((x1 : Nat) : Int), ((y1 : Nat) : Int), max (gd L x1).2.2.2.1 (gd L y1).2.2.2.1, 1 + max ((gd L x1).2.2.2.2.1 + (gd L y1).2.2.2.2.2.1) ((gd L y1).2.2.2.2.1 + (gd L x1).2.2.2.2.2.1), (gd L x1).2.2.2.2.2.1 + (gd L y1).2.2.2.2.2.1, 0, 1) (nI 2) (nI x1) (nI y1) (iI ((pt 3) x1)) (iI (1 + (((pt 4) x1) + ((pt 5) y1)))) (iI (((pt 5) x1) + ((pt 5) y1))) 0 hF0 hPt0 hM hmd hL2 hft (Or.inl rfl) ((show nI 2 = iI 2 from by decide).trans (congrArg iI (by rfl))) ((nI_iI x1).trans (congrArg iI (by rfl))) ((nI_iI y1).trans (congrArg iI (by rfl))) ((rfl : iI ((pt 3) x1) = _).trans (congrArg iI (by dsimp only; omega))) ((rfl : iI (1 + (((pt 4) x1) + ((pt 5) y1))) = _).trans (congrArg iI (by dsimp only; omega))) ((rfl : iI (((pt 5) x1) + ((pt 5) y1)) = _).trans (congrArg iI (by dsimp only; omega))) (fun h9 => absurd (show (2 : Nat) = 0 from h9) (by decide)) (by show 2 ≤ 20000 ∧ -1 ≤ ((x1 : Nat) : Int) ∧ ((x1 : Nat) : Int) ≤ 20000 ∧ -1 ≤ ((y1 : Nat) : Int) ∧ ((y1 : Nat) : Int) ≤ 20000 ∧ max (gd L x1).2.2.2.1 (gd L y1).2.2.2.1 ≤ 20000 ∧ 1 + max ((gd L x1).2.2.2.2.1 + (gd L y1).2.2.2.2.2.1) ((gd L y1).2.2.2.2.1 + (gd L x1).2.2.2.2.2.1) ≤ 20000 ∧ (gd L x1).2.2.2.2.2.1 + (gd L y1).2.2.2.2.2.1 ≤ 20000; omega)) (cwV 6 hts (goodIn_app (goodIn_r [Cond.methodLink RX10 160 yX10_describe, Cond.instanceMethod yX10_describe, Cond.selects RX10 yX10_describe yX10_describe, Cond.initialized RX10] [10, 11, 12, 6] rfl rfl) (goodIn_sub (fun w9 h9 => bk2 w9 h9) gw_X10_describe)) rfl rfl rfl (by decide +kernel) ⟨Nat.le_of_ble_eq_true rfl, Nat.le_of_ble_eq_true rfl⟩) ⟨fun a U g mk q => ⟨q.1, q.2.1, q.2.2.1, LY.moved (u := U) (U := U.calling g mk a) (Vm.Alike.refl U.vm) q.2.2.2⟩, va_recv hK hP (ci := 13) (q0 := 0) rfl (wo_at (by decide) r_3), fun U hU hW => ⟨rfl, by rw [hU]; exact fun q h => hA q (Nat.le_trans hS.1 h), by rw [hU]; exact hP, LY.moved hW.alike hL⟩⟩ rfl rfl hl.1 rfl (lv_room (Nat.le_of_ble_eq_true rfl)) dX10_makeSum_164 ⟨(Nat.le_of_ble_eq_true rfl), (Nat.le_of_ble_eq_true rfl)⟩) hS (fun q _ h => h) (fun q h => h) (fun r_184 u8 t8 H1 locs ht8 hvm8 hw_185 hB hz1 hk1 hS => ?_)
                obtain ⟨g_186, x2_187, pt2_188, pf2_189, qf2_190⟩ := u8
                try dsimp only at hw_185 hB
                rw [ht8] at hB
                have hP := hB
                generalize H1 = H at hP hS ⊢
                obtain ⟨fr_191, hK⟩ := hw_185
                refine W.widen (k := 0) (n := 0) (by omega) (by omega) ?_
                exact W.iret (v := r_184) hx hb hr (fun t9 ht9 hW9 => ⟨⟨r_184, (g_186, x2_187, pt2_188, pf2_189, qf2_190), rfl, ⟨(fun (k : Nat) (hk : k ≠ 0 ∧ k ≠ 1 ∧ k ≠ 2 ∧ k ≠ 3 ∧ k ≠ 5 ∧ k ≠ 6 ∧ k ≠ 7 ∧ k ≠ 8 ∧ k ≠ 9 ∧ k ≠ 10) => (fr_191 k (by omega)).trans (rfl)), by rw [onF_0] at hK ⊢; unfold sumL; rw [if_neg (show ¬ ((gd L x1).1 = 0 ∧ (gd L y1).1 = 0) from by omega), if_neg (by rw [hi0]; decide), if_neg (by rw [hi1]; decide)]; exact hK⟩, by show va_P (dC, dI) vwCl _ t9.heap; rw [ht9]; exact hP⟩, hS.F ht9⟩) hS.2.2 dX10_makeSum_167
      · have c_106 := (k_iEQ (a := (pt 0) y1) (b := 0) rfl (show nI 0 = iI 0 from by decide) (by omega) (by omega)).mp c_106
        refine lv_aload_n hx hb dX10_makeSum_27 rfl (lv_at hl 0 rfl) ?_
        refine lv_sipush (v := nI 1011) hx hb dX10_makeSum_28 (by decide +kernel) ?_
        refine lv_iload_n hx hb dX10_makeSum_31 rfl (lv_at hl 1 rfl) ?_
        refine lv_iload_n hx hb dX10_makeSum_32 rfl (lv_at hl 2 rfl) ?_
        have n0x1 : (gd L x1).1 = 0 := by omega
        obtain ⟨n1x1, n2x1⟩ := a6x1 n0x1
        obtain ⟨-, b1x1, b2x1, b3x1⟩ := w7x1 n0x1
        have cx1 : (pf x1).natAbs < 2 ^ 1200 ∧ qf x1 < 2 ^ 1200 := k_fb n1x1 n2x1 b1x1 b2x1 w4x1 w5x1
        have n0y1 : (gd L y1).1 = 0 := by omega
        obtain ⟨n1y1, n2y1⟩ := a6y1 n0y1
        obtain ⟨-, b1y1, b2y1, b3y1⟩ := w7y1 n0y1
        have cy1 : (pf y1).natAbs < 2 ^ 1200 ∧ qf y1 < 2 ^ 1200 := k_fb n1y1 n2y1 b1y1 b2y1 w4y1 w5y1
        refine va_callv (va_runV (As := [.int (nI 1011), .int (nI x1), .int (nI y1)]) (rest := []) ⟨hx, hb, hml, hown, hts⟩ (c_X10_addFractions l dC dI A ad cA g x pf qf 1011 x1 y1 hF0 (by decide) (by omega) (by omega) cx1 cy1) (cwV 3 hts (goodIn_app (goodIn_r [Cond.methodLink RX10 171 yX10_addFractions, Cond.instanceMethod yX10_addFractions, Cond.selects RX10 yX10_addFractions yX10_addFractions, Cond.initialized RX10] [13, 14, 15, 6] rfl rfl) (goodIn_sub (fun w9 h9 => bk3 w9 h9) gw_X10_addFractions)) rfl rfl rfl (by decide +kernel) ⟨Nat.le_of_ble_eq_true rfl, Nat.le_of_ble_eq_true rfl⟩) ⟨fun a U g mk q => ⟨q.1, q.2.1, q.2.2.1, LY.moved (u := U) (U := U.calling g mk a) (Vm.Alike.refl U.vm) q.2.2.2⟩, va_recv hK hP (ci := 13) (q0 := 0) rfl (wo_at (by decide) r_3), fun U hU hW => ⟨rfl, by rw [hU]; exact fun q h => hA q (Nat.le_trans hS.1 h), by rw [hU]; exact hP, LY.moved hW.alike hL⟩⟩ rfl rfl hl.1 rfl (lv_room (Nat.le_of_ble_eq_true rfl)) dX10_makeSum_33 ⟨(Nat.le_of_ble_eq_true rfl), (Nat.le_of_ble_eq_true rfl)⟩) hS (fun q _ h => h) (fun q h => h) (fun u8 t8 H1 locs ht8 hvm8 hw_192 hB hz1 hk1 hS => ?_)
        obtain ⟨g_193, pf2_194, qf2_195⟩ := u8
        try dsimp only at hw_192 hB
        rw [ht8] at hB
        have hP := hB
        generalize H1 = H at hP hS ⊢
        obtain ⟨fr_196, hF1, hp1, hq1, ho1⟩ := hw_192
        have f_197 : g_193 5 = .inl (cA 5, 201, .inl (fun j => iI ((pt 0) j))) := (fr_196 5 (by omega)).trans p_10
        have f_198 : g_193 6 = .inl (cA 6, 201, .inl (fun j => iI ((pt 1) j))) := (fr_196 6 (by omega)).trans p_11
        have f_199 : g_193 7 = .inl (cA 7, 201, .inl (fun j => iI ((pt 2) j))) := (fr_196 7 (by omega)).trans p_12
        have f_200 : g_193 8 = .inl (cA 8, 201, .inl (fun j => iI ((pt 3) j))) := (fr_196 8 (by omega)).trans p_13
        have f_201 : g_193 9 = .inl (cA 9, 201, .inl (fun j => iI ((pt 4) j))) := (fr_196 9 (by omega)).trans p_14
        have f_202 : g_193 10 = .inl (cA 10, 201, .inl (fun j => iI ((pt 5) j))) := (fr_196 10 (by omega)).trans p_15
        refine lv_aload_n hx hb dX10_makeSum_36 rfl (lv_at hl 0 rfl) ?_
        have f_203 : g_193 0 = .inr (13, Rob ad x) := (fr_196 0 (by omega)).trans r_3
        refine va_calli (va_runV (As := []) (rest := []) ⟨hx, hb, hml, hown, hts⟩ (c_X10_makeNumber l dC dI A ad cA g_193 x pf2_194 qf2_195 pt L 0 hF1 (⟨f_197, f_198, f_199, f_200, f_201, f_202, hpt_16⟩) (hM.same (fun _ _ _ => rfl) (fun i9 hi9 => ho1 i9 (by omega) (by omega))) hmd hL2 hft (Or.inl rfl)) (cwV 0 hts (goodIn_app (goodIn_r [Cond.methodLink RX10 164 yX10_makeNumber, Cond.instanceMethod yX10_makeNumber, Cond.selects RX10 yX10_makeNumber yX10_makeNumber, Cond.initialized RX10] [16, 17, 18, 6] rfl rfl) (goodIn_sub (fun w9 h9 => bk4 w9 h9) gw_X10_makeNumber)) rfl rfl rfl (by decide +kernel) ⟨Nat.le_of_ble_eq_true rfl, Nat.le_of_ble_eq_true rfl⟩) ⟨fun a U g mk q => ⟨q.1, q.2.1, q.2.2.1, LY.moved (u := U) (U := U.calling g mk a) (Vm.Alike.refl U.vm) q.2.2.2⟩, va_recv hK hP (ci := 13) (q0 := 0) rfl (wo_at (by decide) f_203), fun U hU hW => ⟨rfl, by rw [hU]; exact fun q h => hA q (Nat.le_trans hS.1 h), by rw [hU]; exact hP, LY.moved hW.alike hL⟩⟩ rfl rfl hl.1 rfl (lv_room (Nat.le_of_ble_eq_true rfl)) dX10_makeSum_37 ⟨(Nat.le_of_ble_eq_true rfl), (Nat.le_of_ble_eq_true rfl)⟩) hS (fun q _ h => h) (fun q h => h) (fun r_204 u8 t8 H1 locs ht8 hvm8 hw_205 hB hz1 hk1 hS => ?_)
        obtain ⟨g_206, x2_207, pt2_208, pf2_209, qf2_210⟩ := u8
        try dsimp only at hw_205 hB
        rw [ht8] at hB
        have hP := hB
        generalize H1 = H at hP hS ⊢
        obtain ⟨fr_211, hK⟩ := hw_205
        rw [onF_0, hp1, hq1, n1x1, n1y1, n2x1, n2y1] at hK
        refine W.widen (k := 0) (n := 0) (by omega) (by omega) ?_
        exact W.iret (v := r_204) hx hb hr (fun t9 ht9 hW9 => ⟨⟨r_204, (g_206, x2_207, pt2_208, pf2_209, qf2_210), rfl, ⟨(fun (k : Nat) (hk : k ≠ 0 ∧ k ≠ 1 ∧ k ≠ 2 ∧ k ≠ 3 ∧ k ≠ 5 ∧ k ≠ 6 ∧ k ≠ 7 ∧ k ≠ 8 ∧ k ≠ 9 ∧ k ≠ 10) => (fr_211 k (by omega)).trans ((fr_196 k (by omega)).trans (rfl))), by rw [onF_0]; unfold sumL; rw [if_pos ⟨n0x1, n0y1⟩]; exact hK.base (fun _ _ _ => rfl) (fun f9 h1 h2 => ho1 f9 (by omega) (by omega))⟩, by show va_P (dC, dI) vwCl _ t9.heap; rw [ht9]; exact hP⟩, hS.F ht9⟩) hS.2.2 dX10_makeSum_40
  · have c_17 := mt (k_iLE (a := 0) (b := ft) (show nI 0 = iI 0 from by decide) rfl (by omega) (by omega)).mpr c_17
    refine lv_iconst (v := -1) hx hb dX10_makeSum_7 (by decide +kernel) ?_
    refine W.widen (k := 0) (n := 0) (by omega) (by omega) ?_
    exact W.iret (v := -1) hx hb hr (fun t9 ht9 hW9 => ⟨⟨-1, (g, x, pt, pf, qf), rfl, ⟨(fun (k : Nat) (hk : k ≠ 0 ∧ k ≠ 1 ∧ k ≠ 2 ∧ k ≠ 3 ∧ k ≠ 5 ∧ k ≠ 6 ∧ k ≠ 7 ∧ k ≠ 8 ∧ k ≠ 9 ∧ k ≠ 10) => rfl), MKP.neg (onF_neg (by omega)) (by omega) hF0 hPt0 hM hL2 hmd hft⟩, by show va_P (dC, dI) vwCl _ t9.heap; rw [ht9]; exact hP⟩, hS.F ht9⟩) hS.2.2 dX10_makeSum_8
def wd_X10_makeProduct : List Cond := .code yX10_makeProduct cX10_makeProduct 3 (some .int) :: (([.fieldLink RX10 146 "GradientDeskModel" "fault" "I", .fieldLink RX10 29 "GradientDeskModel" "sort" "[I", .methodLink RX10 174 yX10_isNumber, .instanceMethod yX10_isNumber, .selects RX10 yX10_isNumber yX10_isNumber, .initialized RX10, .fieldLink RX10 38 "GradientDeskModel" "degree" "[I", .fieldLink RX10 41 "GradientDeskModel" "sizeN" "[I", .fieldLink RX10 44 "GradientDeskModel" "sizeD" "[I", .methodLink RX10 160 yX10_describe, .instanceMethod yX10_describe, .selects RX10 yX10_describe yX10_describe, .methodLink RX10 143 yX10_timesFractions, .instanceMethod yX10_timesFractions, .selects RX10 yX10_timesFractions yX10_timesFractions, .methodLink RX10 164 yX10_makeNumber, .instanceMethod yX10_makeNumber, .selects RX10 yX10_makeNumber yX10_makeNumber] : List Cond) ++ (u_ws RX10 TX10 29 ++ (wd_X10_isNumber ++ (wd_X10_describe ++ (wd_X10_timesFractions ++ (wd_X10_makeNumber ++ ([])))))))
theorem gw_X10_makeProduct : wd_X10_makeProduct.all goodWord = true := k_allc rfl (k_all (by decide +kernel) (k_all (gu_X10) (k_all (gw_X10_isNumber) (k_all (gw_X10_describe) (k_all (gw_X10_timesFractions) (k_all (gw_X10_makeNumber) (rfl)))))))
set_option maxHeartbeats 4000000 in
set_option maxRecDepth 100000 in
theorem c_X10_makeProduct (l : Launch) (dC : Nat → ClassId) (dI : Nat → Nat → Nat) (A : Nat → Prop) (ad : Nat → Nat) (cA : Nat → ClassId) (g : Nat → va_E) (x : Nat → Int32) (pf : Nat → Int) (qf : Nat → Nat) (pt : Nat → Nat → Int) (L : List PD) (x1 : Nat) (y1 : Nat) (ft : Int) (hF : RF ad cA g x pf qf) (hPt : PTF cA g pt) (hM : MT L pt pf qf) (hmd : x 3 = nI L.length) (hL2 : L.length ≤ 200) (hft : x 4 = iI ft) (hfr : ft = 0 ∨ (ft < 0 ∧ -4 ≤ ft)) (hW : WFL L) (ix : x1 < L.length) (iy : y1 < L.length) : Met l yX10_makeProduct wd_X10_makeProduct ({ frames := 80, cells := 0, slots := 0, locals := 1600 }) (va_Pc [.ref (ad 0), .int (nI x1), .int (nI y1)] (PR NSr tyr dC dI A ad cA g)) (va_Qi (fun (r : Int32) => fun (u : (Nat → va_E) × (Nat → Int32) × (Nat → Nat → Int) × (Nat → Int) × (Nat → Nat)) => match u with | (g2, x2, pt2, pf2, qf2) => (∀ k, k ≠ 0 ∧ k ≠ 1 ∧ k ≠ 2 ∧ k ≠ 3 ∧ k ≠ 5 ∧ k ≠ 6 ∧ k ≠ 7 ∧ k ≠ 8 ∧ k ≠ 9 ∧ k ≠ 10 → g2 k = g k) ∧ MKP ad cA g2 x x2 pf qf (onF ft L (prdL L x1 y1)) r pt2 pf2 qf2) (fun (u : (Nat → va_E) × (Nat → Int32) × (Nat → Nat → Int) × (Nat → Int) × (Nat → Nat)) (t : State) => va_P (dC, dI) vwCl (wo ad NSr u.1) t.heap) A) (0) (0) A := by
  refine Met.ofW (cc := cX10_makeProduct) (maxL := 3) (ret := (some .int)) (by decide) rfl ?_
  intro p e s m args below meth c s₁ B hml hv
  obtain ⟨rfl, hA, hP, hL⟩ := hv
  have hx := B.exec
  have hb := B.bytes
  have hr := B.returns
  have hts := atoms_spec (ws := wd_X10_makeProduct) B.pre
  have hown : s.vm.findClass RX10 = some m.cls := findClass_of_methodNamed B.named
  have hlocks := B.notSynchronized
  have hK := hL.1
  have hD : ∀ g, va_D A (wo ad NSr g) := fun g => wo_D hL.2.1 hL.2.2 g
  have hS : va_S A s.heap s.heap [] := va_S.rf
  have bk0 : ∀ w ∈ u_ws RX10 TX10 29, w ∈ wd_X10_makeProduct := fun _ h => List.mem_cons_of_mem _ (List.mem_append_right _ (List.mem_append_left _ h))
  have bk1 : ∀ w ∈ wd_X10_isNumber, w ∈ wd_X10_makeProduct := fun _ h => List.mem_cons_of_mem _ (List.mem_append_right _ (List.mem_append_right _ (List.mem_append_left _ h)))
  have bk2 : ∀ w ∈ wd_X10_describe, w ∈ wd_X10_makeProduct := fun _ h => List.mem_cons_of_mem _ (List.mem_append_right _ (List.mem_append_right _ (List.mem_append_right _ (List.mem_append_left _ h))))
  have bk3 : ∀ w ∈ wd_X10_timesFractions, w ∈ wd_X10_makeProduct := fun _ h => List.mem_cons_of_mem _ (List.mem_append_right _ (List.mem_append_right _ (List.mem_append_right _ (List.mem_append_right _ (List.mem_append_left _ h)))))
  have bk4 : ∀ w ∈ wd_X10_makeNumber, w ∈ wd_X10_makeProduct := fun _ h => List.mem_cons_of_mem _ (List.mem_append_right _ (List.mem_append_right _ (List.mem_append_right _ (List.mem_append_right _ (List.mem_append_right _ (List.mem_append_left _ h))))))
  have hl := lv_entry ([.ref (ad 0), .int (nI x1), .int (nI y1)]) (n := 3) (Nat.le_of_ble_eq_true rfl)
  rw [lg_entry_eq]
  generalize (lg_sl ([.ref (ad 0), .int (nI x1), .int (nI y1)]) ++ List.replicate (3 - (lg_sl ([.ref (ad 0), .int (nI x1), .int (nI y1)])).length) Slot.unset).toArray = ls at hl ⊢
  have hl : lv_has ls 3 [(0, .ref (ad 0)), (1, .int (nI x1)), (2, .int (nI y1))] := hl
  have hF0 := hF
  obtain ⟨vf, hV, hq⟩ := hF
  have hc_1 := hV
  obtain ⟨pnz_2, lnz_2, bnz_2, hRz_2, hvz_2⟩ := hc_1
  obtain ⟨r_3, r_4, r_5, r_6, r_7, r_8, r_9⟩ := hRz_2
  obtain ⟨p_10, p_11, p_12, p_13, p_14, p_15, hpt_16⟩ := hPt
  have hPt0 : PTF cA g pt := ⟨p_10, p_11, p_12, p_13, p_14, p_15, hpt_16⟩
  obtain ⟨a0x1, a1x1, a2x1, a3x1, a4x1, a5x1, a6x1⟩ := hM x1 ix
  obtain ⟨w1x1, w2x1, w3x1, w4x1, w5x1, -, w7x1, -⟩ := hW x1 ix
  obtain ⟨a0y1, a1y1, a2y1, a3y1, a4y1, a5y1, a6y1⟩ := hM y1 iy
  obtain ⟨w1y1, w2y1, w3y1, w4y1, w5y1, -, w7y1, -⟩ := hW y1 iy
  refine lv_aload_n hx hb dX10_makeProduct_0 rfl (lv_at hl 0 rfl) ?_
  refine m_get (D := (dC, dI)) (v := .int (iI ft)) (C := RX10) (T := TX10) (N := 29) hx hb hts bk0 hown hK hP 0 (by decide) r_3 rfl 14 (by decide) (hts (.fieldLink RX10 146 "GradientDeskModel" "fault" "I") (List.mem_of_getElem? (i := 1) rfl)) (fun _ h9 => h9) (congrArg (fun z => some (Value.int z)) hft) dX10_makeProduct_1 ?_
  refine lv_if_ge (tgt := 9) hx hb dX10_makeProduct_4 (by decide) (fun c_17 => ?_) (fun c_17 => ?_)
  · have c_17 := (k_iLE (a := 0) (b := ft) (show nI 0 = iI 0 from by decide) rfl (by omega) (by omega)).mp c_17
    obtain rfl : ft = 0 := by omega
    refine lv_aload_n hx hb dX10_makeProduct_9 rfl (lv_at hl 0 rfl) ?_
    refine m_get (D := (dC, dI)) (v := .ref (ad 5)) (C := RX10) (T := TX10) (N := 29) hx hb hts bk0 hown hK hP 0 (by decide) r_3 rfl 7 (by decide) (hts (.fieldLink RX10 29 "GradientDeskModel" "sort" "[I") (List.mem_of_getElem? (i := 2) rfl)) (fun _ h9 => h9) rfl dX10_makeProduct_10 ?_
    refine lv_iload_n hx hb dX10_makeProduct_13 rfl (lv_at hl 1 rfl) ?_
    refine m_iald hx hb hK hP 5 (by decide) rfl p_10 (i := x1) (by omega) (by decide) dX10_makeProduct_14 ?_
    have b_18 := (hpt_16 0) x1
    refine lv_if_ne (tgt := 41) hx hb dX10_makeProduct_15 (by decide) (fun c_19 => ?_) (fun c_19 => ?_)
    · have c_19 := mt (k_iEQ (a := (pt 0) x1) (b := 0) rfl (show nI 0 = iI 0 from by decide) (by omega) (by omega)).mpr c_19
      refine lv_aload_n hx hb dX10_makeProduct_41 rfl (lv_at hl 0 rfl) ?_
      refine lv_iload_n hx hb dX10_makeProduct_42 rfl (lv_at hl 1 rfl) ?_
      refine lv_lconst (v := lN 0) hx hb dX10_makeProduct_43 (by decide +kernel) ?_
      refine va_calli (va_runV (As := [.int (nI x1), .long (lN 0)]) (rest := []) ⟨hx, hb, hml, hown, hts⟩ (c_X10_isNumber l dC dI A ad cA g x pf qf pt L x1 0 hF0 hPt0 hM hL2 ix (by decide)) (cwV 2 hts (goodIn_app (goodIn_r [Cond.methodLink RX10 174 yX10_isNumber, Cond.instanceMethod yX10_isNumber, Cond.selects RX10 yX10_isNumber yX10_isNumber, Cond.initialized RX10] [3, 4, 5, 6] rfl rfl) (goodIn_sub (fun w9 h9 => bk1 w9 h9) gw_X10_isNumber)) rfl rfl rfl (by decide +kernel) ⟨Nat.le_of_ble_eq_true rfl, Nat.le_of_ble_eq_true rfl⟩) ⟨fun a U g mk q => ⟨q.1, q.2.1, q.2.2.1, LY.moved (u := U) (U := U.calling g mk a) (Vm.Alike.refl U.vm) q.2.2.2⟩, va_recv hK hP (ci := 13) (q0 := 0) rfl (wo_at (by decide) r_3), fun U hU hW => ⟨rfl, by rw [hU]; exact fun q h => hA q (Nat.le_trans hS.1 h), by rw [hU]; exact hP, LY.moved hW.alike hL⟩⟩ rfl rfl hl.1 rfl (lv_room (Nat.le_of_ble_eq_true rfl)) dX10_makeProduct_44 ⟨(Nat.le_of_ble_eq_true rfl), (Nat.le_of_ble_eq_true rfl)⟩) hS (fun q _ h => h) (fun q h => h) (fun r_20 u8 t8 H1 locs ht8 hvm8 hw_21 hB hz1 hk1 hS => ?_)
      obtain ⟨⟩ := u8
      try dsimp only at hw_21 hB
      rw [ht8] at hB
      have hP := hB
      generalize H1 = H at hP hS ⊢
      rcases hw_21 with ⟨rfl, hi0⟩ | ⟨rfl, hi0⟩
      · skip
        have hi0 : isN (gd L x1) 0 = true := hi0
        refine lv_if_ne (tgt := 59) hx hb dX10_makeProduct_47 (by decide) (fun c_22 => ?_) (fun c_22 => absurd c_22 (by decide))
        refine lv_aload_n hx hb dX10_makeProduct_59 rfl (lv_at hl 0 rfl) ?_
        refine lv_iload_n hx hb dX10_makeProduct_60 rfl (lv_at hl 1 rfl) ?_
        refine lv_lconst (v := lN 0) hx hb dX10_makeProduct_61 (by decide +kernel) ?_
        refine va_calli (va_runV (As := [.int (nI x1), .long (lN 0)]) (rest := []) ⟨hx, hb, hml, hown, hts⟩ (c_X10_isNumber l dC dI A ad cA g x pf qf pt L x1 0 hF0 hPt0 hM hL2 ix (by decide)) (cwV 2 hts (goodIn_app (goodIn_r [Cond.methodLink RX10 174 yX10_isNumber, Cond.instanceMethod yX10_isNumber, Cond.selects RX10 yX10_isNumber yX10_isNumber, Cond.initialized RX10] [3, 4, 5, 6] rfl rfl) (goodIn_sub (fun w9 h9 => bk1 w9 h9) gw_X10_isNumber)) rfl rfl rfl (by decide +kernel) ⟨Nat.le_of_ble_eq_true rfl, Nat.le_of_ble_eq_true rfl⟩) ⟨fun a U g mk q => ⟨q.1, q.2.1, q.2.2.1, LY.moved (u := U) (U := U.calling g mk a) (Vm.Alike.refl U.vm) q.2.2.2⟩, va_recv hK hP (ci := 13) (q0 := 0) rfl (wo_at (by decide) r_3), fun U hU hW => ⟨rfl, by rw [hU]; exact fun q h => hA q (Nat.le_trans hS.1 h), by rw [hU]; exact hP, LY.moved hW.alike hL⟩⟩ rfl rfl hl.1 rfl (lv_room (Nat.le_of_ble_eq_true rfl)) dX10_makeProduct_62 ⟨(Nat.le_of_ble_eq_true rfl), (Nat.le_of_ble_eq_true rfl)⟩) hS (fun q _ h => h) (fun q h => h) (fun r_23 u8 t8 H1 locs ht8 hvm8 hw_24 hB hz1 hk1 hS => ?_)
        obtain ⟨⟩ := u8
        try dsimp only at hw_24 hB
        rw [ht8] at hB
        have hP := hB
        generalize H1 = H at hP hS ⊢
        rcases hw_24 with ⟨rfl, hi2⟩ | ⟨rfl, hi2⟩
        · skip
          have hi2 : isN (gd L x1) 0 = true := hi2
          refine lv_if_eq (tgt := 72) hx hb dX10_makeProduct_65 (by decide) (fun c_25 => absurd c_25 (by decide)) (fun c_25 => ?_)
          refine lv_iload_n hx hb dX10_makeProduct_68 rfl (lv_at hl 1 rfl) ?_
          refine lv_goto (tgt := 73) hx hb dX10_makeProduct_69 (by decide) ?_
          refine W.widen (k := 0) (n := 0) (by omega) (by omega) ?_
          exact W.iret (v := nI x1) hx hb hr (fun t9 ht9 hW9 => ⟨⟨nI x1, (g, x, pt, pf, qf), rfl, ⟨(fun (k : Nat) (hk : k ≠ 0 ∧ k ≠ 1 ∧ k ≠ 2 ∧ k ≠ 3 ∧ k ≠ 5 ∧ k ≠ 6 ∧ k ≠ 7 ∧ k ≠ 8 ∧ k ≠ 9 ∧ k ≠ 10) => rfl), MKP.old (i := x1) (by rw [onF_0]; unfold prdL; rw [if_neg (show ¬ ((gd L x1).1 = 0 ∧ (gd L y1).1 = 0) from by omega), if_pos hi0]) ix hF0 hPt0 hM hL2 hmd hft⟩, by show va_P (dC, dI) vwCl _ t9.heap; rw [ht9]; exact hP⟩, hS.F ht9⟩) hS.2.2 dX10_makeProduct_73
        · exact absurd (hi0.symm.trans (show isN (gd L x1) 0 = false from hi2)) (by decide)
      · skip
        have hi0 : isN (gd L x1) 0 = false := hi0
        refine lv_if_ne (tgt := 59) hx hb dX10_makeProduct_47 (by decide) (fun c_26 => absurd c_26 (by decide)) (fun c_26 => ?_)
        refine lv_aload_n hx hb dX10_makeProduct_50 rfl (lv_at hl 0 rfl) ?_
        refine lv_iload_n hx hb dX10_makeProduct_51 rfl (lv_at hl 2 rfl) ?_
        refine lv_lconst (v := lN 0) hx hb dX10_makeProduct_52 (by decide +kernel) ?_
        refine va_calli (va_runV (As := [.int (nI y1), .long (lN 0)]) (rest := []) ⟨hx, hb, hml, hown, hts⟩ (c_X10_isNumber l dC dI A ad cA g x pf qf pt L y1 0 hF0 hPt0 hM hL2 iy (by decide)) (cwV 2 hts (goodIn_app (goodIn_r [Cond.methodLink RX10 174 yX10_isNumber, Cond.instanceMethod yX10_isNumber, Cond.selects RX10 yX10_isNumber yX10_isNumber, Cond.initialized RX10] [3, 4, 5, 6] rfl rfl) (goodIn_sub (fun w9 h9 => bk1 w9 h9) gw_X10_isNumber)) rfl rfl rfl (by decide +kernel) ⟨Nat.le_of_ble_eq_true rfl, Nat.le_of_ble_eq_true rfl⟩) ⟨fun a U g mk q => ⟨q.1, q.2.1, q.2.2.1, LY.moved (u := U) (U := U.calling g mk a) (Vm.Alike.refl U.vm) q.2.2.2⟩, va_recv hK hP (ci := 13) (q0 := 0) rfl (wo_at (by decide) r_3), fun U hU hW => ⟨rfl, by rw [hU]; exact fun q h => hA q (Nat.le_trans hS.1 h), by rw [hU]; exact hP, LY.moved hW.alike hL⟩⟩ rfl rfl hl.1 rfl (lv_room (Nat.le_of_ble_eq_true rfl)) dX10_makeProduct_53 ⟨(Nat.le_of_ble_eq_true rfl), (Nat.le_of_ble_eq_true rfl)⟩) hS (fun q _ h => h) (fun q h => h) (fun r_27 u8 t8 H1 locs ht8 hvm8 hw_28 hB hz1 hk1 hS => ?_)
        obtain ⟨⟩ := u8
        try dsimp only at hw_28 hB
        rw [ht8] at hB
        have hP := hB
        generalize H1 = H at hP hS ⊢
        rcases hw_28 with ⟨rfl, hi1⟩ | ⟨rfl, hi1⟩
        · skip
          have hi1 : isN (gd L y1) 0 = true := hi1
          refine lv_if_eq (tgt := 74) hx hb dX10_makeProduct_56 (by decide) (fun c_29 => absurd c_29 (by decide)) (fun c_29 => ?_)
          refine lv_aload_n hx hb dX10_makeProduct_59 rfl (lv_at hl 0 rfl) ?_
          refine lv_iload_n hx hb dX10_makeProduct_60 rfl (lv_at hl 1 rfl) ?_
          refine lv_lconst (v := lN 0) hx hb dX10_makeProduct_61 (by decide +kernel) ?_
          refine va_calli (va_runV (As := [.int (nI x1), .long (lN 0)]) (rest := []) ⟨hx, hb, hml, hown, hts⟩ (c_X10_isNumber l dC dI A ad cA g x pf qf pt L x1 0 hF0 hPt0 hM hL2 ix (by decide)) (cwV 2 hts (goodIn_app (goodIn_r [Cond.methodLink RX10 174 yX10_isNumber, Cond.instanceMethod yX10_isNumber, Cond.selects RX10 yX10_isNumber yX10_isNumber, Cond.initialized RX10] [3, 4, 5, 6] rfl rfl) (goodIn_sub (fun w9 h9 => bk1 w9 h9) gw_X10_isNumber)) rfl rfl rfl (by decide +kernel) ⟨Nat.le_of_ble_eq_true rfl, Nat.le_of_ble_eq_true rfl⟩) ⟨fun a U g mk q => ⟨q.1, q.2.1, q.2.2.1, LY.moved (u := U) (U := U.calling g mk a) (Vm.Alike.refl U.vm) q.2.2.2⟩, va_recv hK hP (ci := 13) (q0 := 0) rfl (wo_at (by decide) r_3), fun U hU hW => ⟨rfl, by rw [hU]; exact fun q h => hA q (Nat.le_trans hS.1 h), by rw [hU]; exact hP, LY.moved hW.alike hL⟩⟩ rfl rfl hl.1 rfl (lv_room (Nat.le_of_ble_eq_true rfl)) dX10_makeProduct_62 ⟨(Nat.le_of_ble_eq_true rfl), (Nat.le_of_ble_eq_true rfl)⟩) hS (fun q _ h => h) (fun q h => h) (fun r_30 u8 t8 H1 locs ht8 hvm8 hw_31 hB hz1 hk1 hS => ?_)
          obtain ⟨⟩ := u8
          try dsimp only at hw_31 hB
          rw [ht8] at hB
          have hP := hB
          generalize H1 = H at hP hS ⊢
          rcases hw_31 with ⟨rfl, hi2⟩ | ⟨rfl, hi2⟩
          · exact absurd (hi0.symm.trans (show isN (gd L x1) 0 = true from hi2)) (by decide)
          · skip
            have hi2 : isN (gd L x1) 0 = false := hi2
            refine lv_if_eq (tgt := 72) hx hb dX10_makeProduct_65 (by decide) (fun c_32 => ?_) (fun c_32 => absurd c_32 (by decide))
            refine lv_iload_n hx hb dX10_makeProduct_72 rfl (lv_at hl 2 rfl) ?_
            refine W.widen (k := 0) (n := 0) (by omega) (by omega) ?_
            exact W.iret (v := nI y1) hx hb hr (fun t9 ht9 hW9 => ⟨⟨nI y1, (g, x, pt, pf, qf), rfl, ⟨(fun (k : Nat) (hk : k ≠ 0 ∧ k ≠ 1 ∧ k ≠ 2 ∧ k ≠ 3 ∧ k ≠ 5 ∧ k ≠ 6 ∧ k ≠ 7 ∧ k ≠ 8 ∧ k ≠ 9 ∧ k ≠ 10) => rfl), MKP.old (i := y1) (by rw [onF_0]; unfold prdL; rw [if_neg (show ¬ ((gd L x1).1 = 0 ∧ (gd L y1).1 = 0) from by omega), if_neg (by rw [hi0]; decide), if_pos hi1]) iy hF0 hPt0 hM hL2 hmd hft⟩, by show va_P (dC, dI) vwCl _ t9.heap; rw [ht9]; exact hP⟩, hS.F ht9⟩) hS.2.2 dX10_makeProduct_73
        · skip
          have hi1 : isN (gd L y1) 0 = false := hi1
          refine lv_if_eq (tgt := 74) hx hb dX10_makeProduct_56 (by decide) (fun c_33 => ?_) (fun c_33 => absurd c_33 (by decide))
          refine lv_aload_n hx hb dX10_makeProduct_74 rfl (lv_at hl 0 rfl) ?_
          refine lv_iload_n hx hb dX10_makeProduct_75 rfl (lv_at hl 1 rfl) ?_
          refine lv_lconst (v := lN 1) hx hb dX10_makeProduct_76 (by decide +kernel) ?_
          refine va_calli (va_runV (As := [.int (nI x1), .long (lN 1)]) (rest := []) ⟨hx, hb, hml, hown, hts⟩ (c_X10_isNumber l dC dI A ad cA g x pf qf pt L x1 1 hF0 hPt0 hM hL2 ix (by decide)) (cwV 2 hts (goodIn_app (goodIn_r [Cond.methodLink RX10 174 yX10_isNumber, Cond.instanceMethod yX10_isNumber, Cond.selects RX10 yX10_isNumber yX10_isNumber, Cond.initialized RX10] [3, 4, 5, 6] rfl rfl) (goodIn_sub (fun w9 h9 => bk1 w9 h9) gw_X10_isNumber)) rfl rfl rfl (by decide +kernel) ⟨Nat.le_of_ble_eq_true rfl, Nat.le_of_ble_eq_true rfl⟩) ⟨fun a U g mk q => ⟨q.1, q.2.1, q.2.2.1, LY.moved (u := U) (U := U.calling g mk a) (Vm.Alike.refl U.vm) q.2.2.2⟩, va_recv hK hP (ci := 13) (q0 := 0) rfl (wo_at (by decide) r_3), fun U hU hW => ⟨rfl, by rw [hU]; exact fun q h => hA q (Nat.le_trans hS.1 h), by rw [hU]; exact hP, LY.moved hW.alike hL⟩⟩ rfl rfl hl.1 rfl (lv_room (Nat.le_of_ble_eq_true rfl)) dX10_makeProduct_77 ⟨(Nat.le_of_ble_eq_true rfl), (Nat.le_of_ble_eq_true rfl)⟩) hS (fun q _ h => h) (fun q h => h) (fun r_34 u8 t8 H1 locs ht8 hvm8 hw_35 hB hz1 hk1 hS => ?_)
          obtain ⟨⟩ := u8
          try dsimp only at hw_35 hB
          rw [ht8] at hB
          have hP := hB
          generalize H1 = H at hP hS ⊢
          rcases hw_35 with ⟨rfl, hi3⟩ | ⟨rfl, hi3⟩
          · skip
            have hi3 : isN (gd L x1) 1 = true := hi3
            refine lv_if_ne (tgt := 92) hx hb dX10_makeProduct_80 (by decide) (fun c_36 => ?_) (fun c_36 => absurd c_36 (by decide))
            refine lv_aload_n hx hb dX10_makeProduct_92 rfl (lv_at hl 0 rfl) ?_
            refine lv_iload_n hx hb dX10_makeProduct_93 rfl (lv_at hl 1 rfl) ?_
            refine lv_lconst (v := lN 1) hx hb dX10_makeProduct_94 (by decide +kernel) ?_
            refine va_calli (va_runV (As := [.int (nI x1), .long (lN 1)]) (rest := []) ⟨hx, hb, hml, hown, hts⟩ (c_X10_isNumber l dC dI A ad cA g x pf qf pt L x1 1 hF0 hPt0 hM hL2 ix (by decide)) (cwV 2 hts (goodIn_app (goodIn_r [Cond.methodLink RX10 174 yX10_isNumber, Cond.instanceMethod yX10_isNumber, Cond.selects RX10 yX10_isNumber yX10_isNumber, Cond.initialized RX10] [3, 4, 5, 6] rfl rfl) (goodIn_sub (fun w9 h9 => bk1 w9 h9) gw_X10_isNumber)) rfl rfl rfl (by decide +kernel) ⟨Nat.le_of_ble_eq_true rfl, Nat.le_of_ble_eq_true rfl⟩) ⟨fun a U g mk q => ⟨q.1, q.2.1, q.2.2.1, LY.moved (u := U) (U := U.calling g mk a) (Vm.Alike.refl U.vm) q.2.2.2⟩, va_recv hK hP (ci := 13) (q0 := 0) rfl (wo_at (by decide) r_3), fun U hU hW => ⟨rfl, by rw [hU]; exact fun q h => hA q (Nat.le_trans hS.1 h), by rw [hU]; exact hP, LY.moved hW.alike hL⟩⟩ rfl rfl hl.1 rfl (lv_room (Nat.le_of_ble_eq_true rfl)) dX10_makeProduct_95 ⟨(Nat.le_of_ble_eq_true rfl), (Nat.le_of_ble_eq_true rfl)⟩) hS (fun q _ h => h) (fun q h => h) (fun r_37 u8 t8 H1 locs ht8 hvm8 hw_38 hB hz1 hk1 hS => ?_)
            obtain ⟨⟩ := u8
            try dsimp only at hw_38 hB
            rw [ht8] at hB
            have hP := hB
            generalize H1 = H at hP hS ⊢
            rcases hw_38 with ⟨rfl, hi5⟩ | ⟨rfl, hi5⟩
            · skip
              have hi5 : isN (gd L x1) 1 = true := hi5
              refine lv_if_eq (tgt := 105) hx hb dX10_makeProduct_98 (by decide) (fun c_39 => absurd c_39 (by decide)) (fun c_39 => ?_)
              refine lv_iload_n hx hb dX10_makeProduct_101 rfl (lv_at hl 2 rfl) ?_
              refine lv_goto (tgt := 106) hx hb dX10_makeProduct_102 (by decide) ?_
              refine W.widen (k := 0) (n := 0) (by omega) (by omega) ?_
              exact W.iret (v := nI y1) hx hb hr (fun t9 ht9 hW9 => ⟨⟨nI y1, (g, x, pt, pf, qf), rfl, ⟨(fun (k : Nat) (hk : k ≠ 0 ∧ k ≠ 1 ∧ k ≠ 2 ∧ k ≠ 3 ∧ k ≠ 5 ∧ k ≠ 6 ∧ k ≠ 7 ∧ k ≠ 8 ∧ k ≠ 9 ∧ k ≠ 10) => rfl), MKP.old (i := y1) (by rw [onF_0]; unfold prdL; rw [if_neg (show ¬ ((gd L x1).1 = 0 ∧ (gd L y1).1 = 0) from by omega), if_neg (by rw [hi0]; decide), if_neg (by rw [hi1]; decide), if_pos hi3]) iy hF0 hPt0 hM hL2 hmd hft⟩, by show va_P (dC, dI) vwCl _ t9.heap; rw [ht9]; exact hP⟩, hS.F ht9⟩) hS.2.2 dX10_makeProduct_106
            · exact absurd (hi3.symm.trans (show isN (gd L x1) 1 = false from hi5)) (by decide)
          · skip
            have hi3 : isN (gd L x1) 1 = false := hi3
            refine lv_if_ne (tgt := 92) hx hb dX10_makeProduct_80 (by decide) (fun c_40 => absurd c_40 (by decide)) (fun c_40 => ?_)
            refine lv_aload_n hx hb dX10_makeProduct_83 rfl (lv_at hl 0 rfl) ?_
            refine lv_iload_n hx hb dX10_makeProduct_84 rfl (lv_at hl 2 rfl) ?_
            refine lv_lconst (v := lN 1) hx hb dX10_makeProduct_85 (by decide +kernel) ?_
            refine va_calli (va_runV (As := [.int (nI y1), .long (lN 1)]) (rest := []) ⟨hx, hb, hml, hown, hts⟩ (c_X10_isNumber l dC dI A ad cA g x pf qf pt L y1 1 hF0 hPt0 hM hL2 iy (by decide)) (cwV 2 hts (goodIn_app (goodIn_r [Cond.methodLink RX10 174 yX10_isNumber, Cond.instanceMethod yX10_isNumber, Cond.selects RX10 yX10_isNumber yX10_isNumber, Cond.initialized RX10] [3, 4, 5, 6] rfl rfl) (goodIn_sub (fun w9 h9 => bk1 w9 h9) gw_X10_isNumber)) rfl rfl rfl (by decide +kernel) ⟨Nat.le_of_ble_eq_true rfl, Nat.le_of_ble_eq_true rfl⟩) ⟨fun a U g mk q => ⟨q.1, q.2.1, q.2.2.1, LY.moved (u := U) (U := U.calling g mk a) (Vm.Alike.refl U.vm) q.2.2.2⟩, va_recv hK hP (ci := 13) (q0 := 0) rfl (wo_at (by decide) r_3), fun U hU hW => ⟨rfl, by rw [hU]; exact fun q h => hA q (Nat.le_trans hS.1 h), by rw [hU]; exact hP, LY.moved hW.alike hL⟩⟩ rfl rfl hl.1 rfl (lv_room (Nat.le_of_ble_eq_true rfl)) dX10_makeProduct_86 ⟨(Nat.le_of_ble_eq_true rfl), (Nat.le_of_ble_eq_true rfl)⟩) hS (fun q _ h => h) (fun q h => h) (fun r_41 u8 t8 H1 locs ht8 hvm8 hw_42 hB hz1 hk1 hS => ?_)
            obtain ⟨⟩ := u8
            try dsimp only at hw_42 hB
            rw [ht8] at hB
            have hP := hB
            generalize H1 = H at hP hS ⊢
            rcases hw_42 with ⟨rfl, hi4⟩ | ⟨rfl, hi4⟩
            · skip
              have hi4 : isN (gd L y1) 1 = true := hi4
              refine lv_if_eq (tgt := 107) hx hb dX10_makeProduct_89 (by decide) (fun c_43 => absurd c_43 (by decide)) (fun c_43 => ?_)
              refine lv_aload_n hx hb dX10_makeProduct_92 rfl (lv_at hl 0 rfl) ?_
              refine lv_iload_n hx hb dX10_makeProduct_93 rfl (lv_at hl 1 rfl) ?_
              refine lv_lconst (v := lN 1) hx hb dX10_makeProduct_94 (by decide +kernel) ?_
              refine va_calli (va_runV (As := [.int (nI x1), .long (lN 1)]) (rest := []) ⟨hx, hb, hml, hown, hts⟩ (c_X10_isNumber l dC dI A ad cA g x pf qf pt L x1 1 hF0 hPt0 hM hL2 ix (by decide)) (cwV 2 hts (goodIn_app (goodIn_r [Cond.methodLink RX10 174 yX10_isNumber, Cond.instanceMethod yX10_isNumber, Cond.selects RX10 yX10_isNumber yX10_isNumber, Cond.initialized RX10] [3, 4, 5, 6] rfl rfl) (goodIn_sub (fun w9 h9 => bk1 w9 h9) gw_X10_isNumber)) rfl rfl rfl (by decide +kernel) ⟨Nat.le_of_ble_eq_true rfl, Nat.le_of_ble_eq_true rfl⟩) ⟨fun a U g mk q => ⟨q.1, q.2.1, q.2.2.1, LY.moved (u := U) (U := U.calling g mk a) (Vm.Alike.refl U.vm) q.2.2.2⟩, va_recv hK hP (ci := 13) (q0 := 0) rfl (wo_at (by decide) r_3), fun U hU hW => ⟨rfl, by rw [hU]; exact fun q h => hA q (Nat.le_trans hS.1 h), by rw [hU]; exact hP, LY.moved hW.alike hL⟩⟩ rfl rfl hl.1 rfl (lv_room (Nat.le_of_ble_eq_true rfl)) dX10_makeProduct_95 ⟨(Nat.le_of_ble_eq_true rfl), (Nat.le_of_ble_eq_true rfl)⟩) hS (fun q _ h => h) (fun q h => h) (fun r_44 u8 t8 H1 locs ht8 hvm8 hw_45 hB hz1 hk1 hS => ?_)
              obtain ⟨⟩ := u8
              try dsimp only at hw_45 hB
              rw [ht8] at hB
              have hP := hB
              generalize H1 = H at hP hS ⊢
              rcases hw_45 with ⟨rfl, hi5⟩ | ⟨rfl, hi5⟩
              · exact absurd (hi3.symm.trans (show isN (gd L x1) 1 = true from hi5)) (by decide)
              · skip
                have hi5 : isN (gd L x1) 1 = false := hi5
                refine lv_if_eq (tgt := 105) hx hb dX10_makeProduct_98 (by decide) (fun c_46 => ?_) (fun c_46 => absurd c_46 (by decide))
                refine lv_iload_n hx hb dX10_makeProduct_105 rfl (lv_at hl 1 rfl) ?_
                refine W.widen (k := 0) (n := 0) (by omega) (by omega) ?_
                exact W.iret (v := nI x1) hx hb hr (fun t9 ht9 hW9 => ⟨⟨nI x1, (g, x, pt, pf, qf), rfl, ⟨(fun (k : Nat) (hk : k ≠ 0 ∧ k ≠ 1 ∧ k ≠ 2 ∧ k ≠ 3 ∧ k ≠ 5 ∧ k ≠ 6 ∧ k ≠ 7 ∧ k ≠ 8 ∧ k ≠ 9 ∧ k ≠ 10) => rfl), MKP.old (i := x1) (by rw [onF_0]; unfold prdL; rw [if_neg (show ¬ ((gd L x1).1 = 0 ∧ (gd L y1).1 = 0) from by omega), if_neg (by rw [hi0]; decide), if_neg (by rw [hi1]; decide), if_neg (by rw [hi3]; decide), if_pos hi4]) ix hF0 hPt0 hM hL2 hmd hft⟩, by show va_P (dC, dI) vwCl _ t9.heap; rw [ht9]; exact hP⟩, hS.F ht9⟩) hS.2.2 dX10_makeProduct_106
            · skip
              have hi4 : isN (gd L y1) 1 = false := hi4
              refine lv_if_eq (tgt := 107) hx hb dX10_makeProduct_89 (by decide) (fun c_47 => ?_) (fun c_47 => absurd c_47 (by decide))
              refine lv_aload_n hx hb dX10_makeProduct_107 rfl (lv_at hl 0 rfl) ?_
              refine lv_iconst (v := nI 3) hx hb dX10_makeProduct_108 (by decide +kernel) ?_
              refine lv_iload_n hx hb dX10_makeProduct_109 rfl (lv_at hl 1 rfl) ?_
              refine lv_iload_n hx hb dX10_makeProduct_110 rfl (lv_at hl 2 rfl) ?_
              refine lv_aload_n hx hb dX10_makeProduct_111 rfl (lv_at hl 0 rfl) ?_
              refine m_get (D := (dC, dI)) (v := .ref (ad 8)) (C := RX10) (T := TX10) (N := 29) hx hb hts bk0 hown hK hP 0 (by decide) r_3 rfl 10 (by decide) (hts (.fieldLink RX10 38 "GradientDeskModel" "degree" "[I") (List.mem_of_getElem? (i := 7) rfl)) (fun _ h9 => h9) rfl dX10_makeProduct_112 ?_
              refine lv_iload_n hx hb dX10_makeProduct_115 rfl (lv_at hl 1 rfl) ?_
              refine m_iald hx hb hK hP 8 (by decide) rfl p_13 (i := x1) (by omega) (by decide) dX10_makeProduct_116 ?_
              have b_48 := (hpt_16 3) x1
              refine lv_aload_n hx hb dX10_makeProduct_117 rfl (lv_at hl 0 rfl) ?_
              refine m_get (D := (dC, dI)) (v := .ref (ad 8)) (C := RX10) (T := TX10) (N := 29) hx hb hts bk0 hown hK hP 0 (by decide) r_3 rfl 10 (by decide) (hts (.fieldLink RX10 38 "GradientDeskModel" "degree" "[I") (List.mem_of_getElem? (i := 7) rfl)) (fun _ h9 => h9) rfl dX10_makeProduct_118 ?_
              refine lv_iload_n hx hb dX10_makeProduct_121 rfl (lv_at hl 2 rfl) ?_
              refine m_iald hx hb hK hP 8 (by decide) rfl p_13 (i := y1) (by omega) (by decide) dX10_makeProduct_122 ?_
              have b_49 := (hpt_16 3) y1
              refine lv_iadd hx hb dX10_makeProduct_123 ?_
              refine lv_topi (fun x_50 e_51 => ?_)
              obtain rfl : x_50 = iI (((pt 3) x1) + ((pt 3) y1)) := e_51.trans (iI_addP rfl rfl)
              refine lv_aload_n hx hb dX10_makeProduct_124 rfl (lv_at hl 0 rfl) ?_
              refine m_get (D := (dC, dI)) (v := .ref (ad 9)) (C := RX10) (T := TX10) (N := 29) hx hb hts bk0 hown hK hP 0 (by decide) r_3 rfl 11 (by decide) (hts (.fieldLink RX10 41 "GradientDeskModel" "sizeN" "[I") (List.mem_of_getElem? (i := 8) rfl)) (fun _ h9 => h9) rfl dX10_makeProduct_125 ?_
              refine lv_iload_n hx hb dX10_makeProduct_128 rfl (lv_at hl 1 rfl) ?_
              refine m_iald hx hb hK hP 9 (by decide) rfl p_14 (i := x1) (by omega) (by decide) dX10_makeProduct_129 ?_
              have b_52 := (hpt_16 4) x1
              refine lv_aload_n hx hb dX10_makeProduct_130 rfl (lv_at hl 0 rfl) ?_
              refine m_get (D := (dC, dI)) (v := .ref (ad 9)) (C := RX10) (T := TX10) (N := 29) hx hb hts bk0 hown hK hP 0 (by decide) r_3 rfl 11 (by decide) (hts (.fieldLink RX10 41 "GradientDeskModel" "sizeN" "[I") (List.mem_of_getElem? (i := 8) rfl)) (fun _ h9 => h9) rfl dX10_makeProduct_131 ?_
              refine lv_iload_n hx hb dX10_makeProduct_134 rfl (lv_at hl 2 rfl) ?_
              refine m_iald hx hb hK hP 9 (by decide) rfl p_14 (i := y1) (by omega) (by decide) dX10_makeProduct_135 ?_
              have b_53 := (hpt_16 4) y1
              refine lv_iadd hx hb dX10_makeProduct_136 ?_
              refine lv_topi (fun x_54 e_55 => ?_)
              obtain rfl : x_54 = iI (((pt 4) x1) + ((pt 4) y1)) := e_55.trans (iI_addP rfl rfl)
              refine lv_bipush (v := nI 8) hx hb dX10_makeProduct_137 (by decide +kernel) ?_
              refine lv_iadd hx hb dX10_makeProduct_139 ?_
              refine lv_topi (fun x_56 e_57 => ?_)
              obtain rfl : x_56 = iI ((((pt 4) x1) + ((pt 4) y1)) + 8) := e_57.trans (iI_addP rfl (show nI 8 = iI 8 from by decide))
              refine lv_aload_n hx hb dX10_makeProduct_140 rfl (lv_at hl 0 rfl) ?_
              refine m_get (D := (dC, dI)) (v := .ref (ad 10)) (C := RX10) (T := TX10) (N := 29) hx hb hts bk0 hown hK hP 0 (by decide) r_3 rfl 12 (by decide) (hts (.fieldLink RX10 44 "GradientDeskModel" "sizeD" "[I") (List.mem_of_getElem? (i := 9) rfl)) (fun _ h9 => h9) rfl dX10_makeProduct_141 ?_
              refine lv_iload_n hx hb dX10_makeProduct_144 rfl (lv_at hl 1 rfl) ?_
              refine m_iald hx hb hK hP 10 (by decide) rfl p_15 (i := x1) (by omega) (by decide) dX10_makeProduct_145 ?_
              have b_58 := (hpt_16 5) x1
              refine lv_aload_n hx hb dX10_makeProduct_146 rfl (lv_at hl 0 rfl) ?_
              refine m_get (D := (dC, dI)) (v := .ref (ad 10)) (C := RX10) (T := TX10) (N := 29) hx hb hts bk0 hown hK hP 0 (by decide) r_3 rfl 12 (by decide) (hts (.fieldLink RX10 44 "GradientDeskModel" "sizeD" "[I") (List.mem_of_getElem? (i := 9) rfl)) (fun _ h9 => h9) rfl dX10_makeProduct_147 ?_
              refine lv_iload_n hx hb dX10_makeProduct_150 rfl (lv_at hl 2 rfl) ?_
              refine m_iald hx hb hK hP 10 (by decide) rfl p_15 (i := y1) (by omega) (by decide) dX10_makeProduct_151 ?_
              have b_59 := (hpt_16 5) y1
              refine lv_iadd hx hb dX10_makeProduct_152 ?_
              refine lv_topi (fun x_60 e_61 => ?_)
              obtain rfl : x_60 = iI (((pt 5) x1) + ((pt 5) y1)) := e_61.trans (iI_addP rfl rfl)
              refine va_calli (va_runV (As := [.int (nI 3), .int (nI x1), .int (nI y1), .int (iI (((pt 3) x1) + ((pt 3) y1))), .int (iI ((((pt 4) x1) + ((pt 4) y1)) + 8)), .int (iI (((pt 5) x1) + ((pt 5) y1)))]) (rest := []) ⟨hx, hb, hml, hown, hts⟩ (c_X10_describe l dC dI A ad cA g x pf qf pt L (3, ((x1 : Nat) : Int), ((y1 : Nat) : Int), (gd L x1).2.2.2.1 + (gd L y1).2.2.2.1, (gd L x1).2.2.2.2.1 + (gd L y1).2.2.2.2.1 + 8, (gd L x1).2.2.2.2.2.1 + (gd L y1).2.2.2.2.2.1, 0, 1) (nI 3) (nI x1) (nI y1) (iI (((pt 3) x1) + ((pt 3) y1))) (iI ((((pt 4) x1) + ((pt 4) y1)) + 8)) (iI (((pt 5) x1) + ((pt 5) y1))) 0 hF0 hPt0 hM hmd hL2 hft (Or.inl rfl) ((show nI 3 = iI 3 from by decide).trans (congrArg iI (by rfl))) ((nI_iI x1).trans (congrArg iI (by rfl))) ((nI_iI y1).trans (congrArg iI (by rfl))) ((rfl : iI (((pt 3) x1) + ((pt 3) y1)) = _).trans (congrArg iI (by dsimp only; omega))) ((rfl : iI ((((pt 4) x1) + ((pt 4) y1)) + 8) = _).trans (congrArg iI (by dsimp only; omega))) ((rfl : iI (((pt 5) x1) + ((pt 5) y1)) = _).trans (congrArg iI (by dsimp only; omega))) (fun h9 => absurd (show (3 : Nat) = 0 from h9) (by decide)) (by show 3 ≤ 20000 ∧ -1 ≤ ((x1 : Nat) : Int) ∧ ((x1 : Nat) : Int) ≤ 20000 ∧ -1 ≤ ((y1 : Nat) : Int) ∧ ((y1 : Nat) : Int) ≤ 20000 ∧ (gd L x1).2.2.2.1 + (gd L y1).2.2.2.1 ≤ 20000 ∧ (gd L x1).2.2.2.2.1 + (gd L y1).2.2.2.2.1 + 8 ≤ 20000 ∧ (gd L x1).2.2.2.2.2.1 + (gd L y1).2.2.2.2.2.1 ≤ 20000; omega)) (cwV 6 hts (goodIn_app (goodIn_r [Cond.methodLink RX10 160 yX10_describe, Cond.instanceMethod yX10_describe, Cond.selects RX10 yX10_describe yX10_describe, Cond.initialized RX10] [10, 11, 12, 6] rfl rfl) (goodIn_sub (fun w9 h9 => bk2 w9 h9) gw_X10_describe)) rfl rfl rfl (by decide +kernel) ⟨Nat.le_of_ble_eq_true rfl, Nat.le_of_ble_eq_true rfl⟩) ⟨fun a U g mk q => ⟨q.1, q.2.1, q.2.2.1, LY.moved (u := U) (U := U.calling g mk a) (Vm.Alike.refl U.vm) q.2.2.2⟩, va_recv hK hP (ci := 13) (q0 := 0) rfl (wo_at (by decide) r_3), fun U hU hW => ⟨rfl, by rw [hU]; exact fun q h => hA q (Nat.le_trans hS.1 h), by rw [hU]; exact hP, LY.moved hW.alike hL⟩⟩ rfl rfl hl.1 rfl (lv_room (Nat.le_of_ble_eq_true rfl)) dX10_makeProduct_153 ⟨(Nat.le_of_ble_eq_true rfl), (Nat.le_of_ble_eq_true rfl)⟩) hS (fun q _ h => h) (fun q h => h) (fun r_62 u8 t8 H1 locs ht8 hvm8 hw_63 hB hz1 hk1 hS => ?_)
              obtain ⟨g_64, x2_65, pt2_66, pf2_67, qf2_68⟩ := u8
              try dsimp only at hw_63 hB
              rw [ht8] at hB
              have hP := hB
              generalize H1 = H at hP hS ⊢
              obtain ⟨fr_69, hK⟩ := hw_63
              refine W.widen (k := 0) (n := 0) (by omega) (by omega) ?_
              exact W.iret (v := r_62) hx hb hr (fun t9 ht9 hW9 => ⟨⟨r_62, (g_64, x2_65, pt2_66, pf2_67, qf2_68), rfl, ⟨(fun (k : Nat) (hk : k ≠ 0 ∧ k ≠ 1 ∧ k ≠ 2 ∧ k ≠ 3 ∧ k ≠ 5 ∧ k ≠ 6 ∧ k ≠ 7 ∧ k ≠ 8 ∧ k ≠ 9 ∧ k ≠ 10) => (fr_69 k (by omega)).trans (rfl)), by rw [onF_0] at hK ⊢; unfold prdL; rw [if_neg (show ¬ ((gd L x1).1 = 0 ∧ (gd L y1).1 = 0) from by omega), if_neg (by rw [hi0]; decide), if_neg (by rw [hi1]; decide), if_neg (by rw [hi3]; decide), if_neg (by rw [hi4]; decide)]; exact hK⟩, by show va_P (dC, dI) vwCl _ t9.heap; rw [ht9]; exact hP⟩, hS.F ht9⟩) hS.2.2 dX10_makeProduct_156
    · have c_19 := (k_iEQ (a := (pt 0) x1) (b := 0) rfl (show nI 0 = iI 0 from by decide) (by omega) (by omega)).mp c_19
      refine lv_aload_n hx hb dX10_makeProduct_18 rfl (lv_at hl 0 rfl) ?_
      refine m_get (D := (dC, dI)) (v := .ref (ad 5)) (C := RX10) (T := TX10) (N := 29) hx hb hts bk0 hown hK hP 0 (by decide) r_3 rfl 7 (by decide) (hts (.fieldLink RX10 29 "GradientDeskModel" "sort" "[I") (List.mem_of_getElem? (i := 2) rfl)) (fun _ h9 => h9) rfl dX10_makeProduct_19 ?_
      refine lv_iload_n hx hb dX10_makeProduct_22 rfl (lv_at hl 2 rfl) ?_
      refine m_iald hx hb hK hP 5 (by decide) rfl p_10 (i := y1) (by omega) (by decide) dX10_makeProduct_23 ?_
      have b_70 := (hpt_16 0) y1
      refine lv_if_ne (tgt := 41) hx hb dX10_makeProduct_24 (by decide) (fun c_71 => ?_) (fun c_71 => ?_)
      · have c_71 := mt (k_iEQ (a := (pt 0) y1) (b := 0) rfl (show nI 0 = iI 0 from by decide) (by omega) (by omega)).mpr c_71
        refine lv_aload_n hx hb dX10_makeProduct_41 rfl (lv_at hl 0 rfl) ?_
        refine lv_iload_n hx hb dX10_makeProduct_42 rfl (lv_at hl 1 rfl) ?_
        refine lv_lconst (v := lN 0) hx hb dX10_makeProduct_43 (by decide +kernel) ?_
        refine va_calli (va_runV (As := [.int (nI x1), .long (lN 0)]) (rest := []) ⟨hx, hb, hml, hown, hts⟩ (c_X10_isNumber l dC dI A ad cA g x pf qf pt L x1 0 hF0 hPt0 hM hL2 ix (by decide)) (cwV 2 hts (goodIn_app (goodIn_r [Cond.methodLink RX10 174 yX10_isNumber, Cond.instanceMethod yX10_isNumber, Cond.selects RX10 yX10_isNumber yX10_isNumber, Cond.initialized RX10] [3, 4, 5, 6] rfl rfl) (goodIn_sub (fun w9 h9 => bk1 w9 h9) gw_X10_isNumber)) rfl rfl rfl (by decide +kernel) ⟨Nat.le_of_ble_eq_true rfl, Nat.le_of_ble_eq_true rfl⟩) ⟨fun a U g mk q => ⟨q.1, q.2.1, q.2.2.1, LY.moved (u := U) (U := U.calling g mk a) (Vm.Alike.refl U.vm) q.2.2.2⟩, va_recv hK hP (ci := 13) (q0 := 0) rfl (wo_at (by decide) r_3), fun U hU hW => ⟨rfl, by rw [hU]; exact fun q h => hA q (Nat.le_trans hS.1 h), by rw [hU]; exact hP, LY.moved hW.alike hL⟩⟩ rfl rfl hl.1 rfl (lv_room (Nat.le_of_ble_eq_true rfl)) dX10_makeProduct_44 ⟨(Nat.le_of_ble_eq_true rfl), (Nat.le_of_ble_eq_true rfl)⟩) hS (fun q _ h => h) (fun q h => h) (fun r_72 u8 t8 H1 locs ht8 hvm8 hw_73 hB hz1 hk1 hS => ?_)
        obtain ⟨⟩ := u8
        try dsimp only at hw_73 hB
        rw [ht8] at hB
        have hP := hB
        generalize H1 = H at hP hS ⊢
        rcases hw_73 with ⟨rfl, hi0⟩ | ⟨rfl, hi0⟩
        · skip
          have hi0 : isN (gd L x1) 0 = true := hi0
          refine lv_if_ne (tgt := 59) hx hb dX10_makeProduct_47 (by decide) (fun c_74 => ?_) (fun c_74 => absurd c_74 (by decide))
          refine lv_aload_n hx hb dX10_makeProduct_59 rfl (lv_at hl 0 rfl) ?_
          refine lv_iload_n hx hb dX10_makeProduct_60 rfl (lv_at hl 1 rfl) ?_
          refine lv_lconst (v := lN 0) hx hb dX10_makeProduct_61 (by decide +kernel) ?_
          refine va_calli (va_runV (As := [.int (nI x1), .long (lN 0)]) (rest := []) ⟨hx, hb, hml, hown, hts⟩ (c_X10_isNumber l dC dI A ad cA g x pf qf pt L x1 0 hF0 hPt0 hM hL2 ix (by decide)) (cwV 2 hts (goodIn_app (goodIn_r [Cond.methodLink RX10 174 yX10_isNumber, Cond.instanceMethod yX10_isNumber, Cond.selects RX10 yX10_isNumber yX10_isNumber, Cond.initialized RX10] [3, 4, 5, 6] rfl rfl) (goodIn_sub (fun w9 h9 => bk1 w9 h9) gw_X10_isNumber)) rfl rfl rfl (by decide +kernel) ⟨Nat.le_of_ble_eq_true rfl, Nat.le_of_ble_eq_true rfl⟩) ⟨fun a U g mk q => ⟨q.1, q.2.1, q.2.2.1, LY.moved (u := U) (U := U.calling g mk a) (Vm.Alike.refl U.vm) q.2.2.2⟩, va_recv hK hP (ci := 13) (q0 := 0) rfl (wo_at (by decide) r_3), fun U hU hW => ⟨rfl, by rw [hU]; exact fun q h => hA q (Nat.le_trans hS.1 h), by rw [hU]; exact hP, LY.moved hW.alike hL⟩⟩ rfl rfl hl.1 rfl (lv_room (Nat.le_of_ble_eq_true rfl)) dX10_makeProduct_62 ⟨(Nat.le_of_ble_eq_true rfl), (Nat.le_of_ble_eq_true rfl)⟩) hS (fun q _ h => h) (fun q h => h) (fun r_75 u8 t8 H1 locs ht8 hvm8 hw_76 hB hz1 hk1 hS => ?_)
          obtain ⟨⟩ := u8
          try dsimp only at hw_76 hB
          rw [ht8] at hB
          have hP := hB
          generalize H1 = H at hP hS ⊢
          rcases hw_76 with ⟨rfl, hi2⟩ | ⟨rfl, hi2⟩
          · skip
            have hi2 : isN (gd L x1) 0 = true := hi2
            refine lv_if_eq (tgt := 72) hx hb dX10_makeProduct_65 (by decide) (fun c_77 => absurd c_77 (by decide)) (fun c_77 => ?_)
            refine lv_iload_n hx hb dX10_makeProduct_68 rfl (lv_at hl 1 rfl) ?_
            refine lv_goto (tgt := 73) hx hb dX10_makeProduct_69 (by decide) ?_
            refine W.widen (k := 0) (n := 0) (by omega) (by omega) ?_
            exact W.iret (v := nI x1) hx hb hr (fun t9 ht9 hW9 => ⟨⟨nI x1, (g, x, pt, pf, qf), rfl, ⟨(fun (k : Nat) (hk : k ≠ 0 ∧ k ≠ 1 ∧ k ≠ 2 ∧ k ≠ 3 ∧ k ≠ 5 ∧ k ≠ 6 ∧ k ≠ 7 ∧ k ≠ 8 ∧ k ≠ 9 ∧ k ≠ 10) => rfl), MKP.old (i := x1) (by rw [onF_0]; unfold prdL; rw [if_neg (show ¬ ((gd L x1).1 = 0 ∧ (gd L y1).1 = 0) from by omega), if_pos hi0]) ix hF0 hPt0 hM hL2 hmd hft⟩, by show va_P (dC, dI) vwCl _ t9.heap; rw [ht9]; exact hP⟩, hS.F ht9⟩) hS.2.2 dX10_makeProduct_73
          · exact absurd (hi0.symm.trans (show isN (gd L x1) 0 = false from hi2)) (by decide)
        · skip
          have hi0 : isN (gd L x1) 0 = false := hi0
          refine lv_if_ne (tgt := 59) hx hb dX10_makeProduct_47 (by decide) (fun c_78 => absurd c_78 (by decide)) (fun c_78 => ?_)
          refine lv_aload_n hx hb dX10_makeProduct_50 rfl (lv_at hl 0 rfl) ?_
          refine lv_iload_n hx hb dX10_makeProduct_51 rfl (lv_at hl 2 rfl) ?_
          refine lv_lconst (v := lN 0) hx hb dX10_makeProduct_52 (by decide +kernel) ?_
          refine va_calli (va_runV (As := [.int (nI y1), .long (lN 0)]) (rest := []) ⟨hx, hb, hml, hown, hts⟩ (c_X10_isNumber l dC dI A ad cA g x pf qf pt L y1 0 hF0 hPt0 hM hL2 iy (by decide)) (cwV 2 hts (goodIn_app (goodIn_r [Cond.methodLink RX10 174 yX10_isNumber, Cond.instanceMethod yX10_isNumber, Cond.selects RX10 yX10_isNumber yX10_isNumber, Cond.initialized RX10] [3, 4, 5, 6] rfl rfl) (goodIn_sub (fun w9 h9 => bk1 w9 h9) gw_X10_isNumber)) rfl rfl rfl (by decide +kernel) ⟨Nat.le_of_ble_eq_true rfl, Nat.le_of_ble_eq_true rfl⟩) ⟨fun a U g mk q => ⟨q.1, q.2.1, q.2.2.1, LY.moved (u := U) (U := U.calling g mk a) (Vm.Alike.refl U.vm) q.2.2.2⟩, va_recv hK hP (ci := 13) (q0 := 0) rfl (wo_at (by decide) r_3), fun U hU hW => ⟨rfl, by rw [hU]; exact fun q h => hA q (Nat.le_trans hS.1 h), by rw [hU]; exact hP, LY.moved hW.alike hL⟩⟩ rfl rfl hl.1 rfl (lv_room (Nat.le_of_ble_eq_true rfl)) dX10_makeProduct_53 ⟨(Nat.le_of_ble_eq_true rfl), (Nat.le_of_ble_eq_true rfl)⟩) hS (fun q _ h => h) (fun q h => h) (fun r_79 u8 t8 H1 locs ht8 hvm8 hw_80 hB hz1 hk1 hS => ?_)
          obtain ⟨⟩ := u8
          try dsimp only at hw_80 hB
          rw [ht8] at hB
          have hP := hB
          generalize H1 = H at hP hS ⊢
          rcases hw_80 with ⟨rfl, hi1⟩ | ⟨rfl, hi1⟩
          · skip
            have hi1 : isN (gd L y1) 0 = true := hi1
            refine lv_if_eq (tgt := 74) hx hb dX10_makeProduct_56 (by decide) (fun c_81 => absurd c_81 (by decide)) (fun c_81 => ?_)
            refine lv_aload_n hx hb dX10_makeProduct_59 rfl (lv_at hl 0 rfl) ?_
            refine lv_iload_n hx hb dX10_makeProduct_60 rfl (lv_at hl 1 rfl) ?_
            refine lv_lconst (v := lN 0) hx hb dX10_makeProduct_61 (by decide +kernel) ?_
            refine va_calli (va_runV (As := [.int (nI x1), .long (lN 0)]) (rest := []) ⟨hx, hb, hml, hown, hts⟩ (c_X10_isNumber l dC dI A ad cA g x pf qf pt L x1 0 hF0 hPt0 hM hL2 ix (by decide)) (cwV 2 hts (goodIn_app (goodIn_r [Cond.methodLink RX10 174 yX10_isNumber, Cond.instanceMethod yX10_isNumber, Cond.selects RX10 yX10_isNumber yX10_isNumber, Cond.initialized RX10] [3, 4, 5, 6] rfl rfl) (goodIn_sub (fun w9 h9 => bk1 w9 h9) gw_X10_isNumber)) rfl rfl rfl (by decide +kernel) ⟨Nat.le_of_ble_eq_true rfl, Nat.le_of_ble_eq_true rfl⟩) ⟨fun a U g mk q => ⟨q.1, q.2.1, q.2.2.1, LY.moved (u := U) (U := U.calling g mk a) (Vm.Alike.refl U.vm) q.2.2.2⟩, va_recv hK hP (ci := 13) (q0 := 0) rfl (wo_at (by decide) r_3), fun U hU hW => ⟨rfl, by rw [hU]; exact fun q h => hA q (Nat.le_trans hS.1 h), by rw [hU]; exact hP, LY.moved hW.alike hL⟩⟩ rfl rfl hl.1 rfl (lv_room (Nat.le_of_ble_eq_true rfl)) dX10_makeProduct_62 ⟨(Nat.le_of_ble_eq_true rfl), (Nat.le_of_ble_eq_true rfl)⟩) hS (fun q _ h => h) (fun q h => h) (fun r_82 u8 t8 H1 locs ht8 hvm8 hw_83 hB hz1 hk1 hS => ?_)
            obtain ⟨⟩ := u8
            try dsimp only at hw_83 hB
            rw [ht8] at hB
            have hP := hB
            generalize H1 = H at hP hS ⊢
            rcases hw_83 with ⟨rfl, hi2⟩ | ⟨rfl, hi2⟩
            · exact absurd (hi0.symm.trans (show isN (gd L x1) 0 = true from hi2)) (by decide)
            · skip
              have hi2 : isN (gd L x1) 0 = false := hi2
              refine lv_if_eq (tgt := 72) hx hb dX10_makeProduct_65 (by decide) (fun c_84 => ?_) (fun c_84 => absurd c_84 (by decide))
              refine lv_iload_n hx hb dX10_makeProduct_72 rfl (lv_at hl 2 rfl) ?_
              refine W.widen (k := 0) (n := 0) (by omega) (by omega) ?_
              exact W.iret (v := nI y1) hx hb hr (fun t9 ht9 hW9 => ⟨⟨nI y1, (g, x, pt, pf, qf), rfl, ⟨(fun (k : Nat) (hk : k ≠ 0 ∧ k ≠ 1 ∧ k ≠ 2 ∧ k ≠ 3 ∧ k ≠ 5 ∧ k ≠ 6 ∧ k ≠ 7 ∧ k ≠ 8 ∧ k ≠ 9 ∧ k ≠ 10) => rfl), MKP.old (i := y1) (by rw [onF_0]; unfold prdL; rw [if_neg (show ¬ ((gd L x1).1 = 0 ∧ (gd L y1).1 = 0) from by omega), if_neg (by rw [hi0]; decide), if_pos hi1]) iy hF0 hPt0 hM hL2 hmd hft⟩, by show va_P (dC, dI) vwCl _ t9.heap; rw [ht9]; exact hP⟩, hS.F ht9⟩) hS.2.2 dX10_makeProduct_73
          · skip
            have hi1 : isN (gd L y1) 0 = false := hi1
            refine lv_if_eq (tgt := 74) hx hb dX10_makeProduct_56 (by decide) (fun c_85 => ?_) (fun c_85 => absurd c_85 (by decide))
            refine lv_aload_n hx hb dX10_makeProduct_74 rfl (lv_at hl 0 rfl) ?_
            refine lv_iload_n hx hb dX10_makeProduct_75 rfl (lv_at hl 1 rfl) ?_
            refine lv_lconst (v := lN 1) hx hb dX10_makeProduct_76 (by decide +kernel) ?_
            refine va_calli (va_runV (As := [.int (nI x1), .long (lN 1)]) (rest := []) ⟨hx, hb, hml, hown, hts⟩ (c_X10_isNumber l dC dI A ad cA g x pf qf pt L x1 1 hF0 hPt0 hM hL2 ix (by decide)) (cwV 2 hts (goodIn_app (goodIn_r [Cond.methodLink RX10 174 yX10_isNumber, Cond.instanceMethod yX10_isNumber, Cond.selects RX10 yX10_isNumber yX10_isNumber, Cond.initialized RX10] [3, 4, 5, 6] rfl rfl) (goodIn_sub (fun w9 h9 => bk1 w9 h9) gw_X10_isNumber)) rfl rfl rfl (by decide +kernel) ⟨Nat.le_of_ble_eq_true rfl, Nat.le_of_ble_eq_true rfl⟩) ⟨fun a U g mk q => ⟨q.1, q.2.1, q.2.2.1, LY.moved (u := U) (U := U.calling g mk a) (Vm.Alike.refl U.vm) q.2.2.2⟩, va_recv hK hP (ci := 13) (q0 := 0) rfl (wo_at (by decide) r_3), fun U hU hW => ⟨rfl, by rw [hU]; exact fun q h => hA q (Nat.le_trans hS.1 h), by rw [hU]; exact hP, LY.moved hW.alike hL⟩⟩ rfl rfl hl.1 rfl (lv_room (Nat.le_of_ble_eq_true rfl)) dX10_makeProduct_77 ⟨(Nat.le_of_ble_eq_true rfl), (Nat.le_of_ble_eq_true rfl)⟩) hS (fun q _ h => h) (fun q h => h) (fun r_86 u8 t8 H1 locs ht8 hvm8 hw_87 hB hz1 hk1 hS => ?_)
            obtain ⟨⟩ := u8
            try dsimp only at hw_87 hB
            rw [ht8] at hB
            have hP := hB
            generalize H1 = H at hP hS ⊢
            rcases hw_87 with ⟨rfl, hi3⟩ | ⟨rfl, hi3⟩
            · skip
              have hi3 : isN (gd L x1) 1 = true := hi3
              refine lv_if_ne (tgt := 92) hx hb dX10_makeProduct_80 (by decide) (fun c_88 => ?_) (fun c_88 => absurd c_88 (by decide))
              refine lv_aload_n hx hb dX10_makeProduct_92 rfl (lv_at hl 0 rfl) ?_
              refine lv_iload_n hx hb dX10_makeProduct_93 rfl (lv_at hl 1 rfl) ?_
              refine lv_lconst (v := lN 1) hx hb dX10_makeProduct_94 (by decide +kernel) ?_
              refine va_calli (va_runV (As := [.int (nI x1), .long (lN 1)]) (rest := []) ⟨hx, hb, hml, hown, hts⟩ (c_X10_isNumber l dC dI A ad cA g x pf qf pt L x1 1 hF0 hPt0 hM hL2 ix (by decide)) (cwV 2 hts (goodIn_app (goodIn_r [Cond.methodLink RX10 174 yX10_isNumber, Cond.instanceMethod yX10_isNumber, Cond.selects RX10 yX10_isNumber yX10_isNumber, Cond.initialized RX10] [3, 4, 5, 6] rfl rfl) (goodIn_sub (fun w9 h9 => bk1 w9 h9) gw_X10_isNumber)) rfl rfl rfl (by decide +kernel) ⟨Nat.le_of_ble_eq_true rfl, Nat.le_of_ble_eq_true rfl⟩) ⟨fun a U g mk q => ⟨q.1, q.2.1, q.2.2.1, LY.moved (u := U) (U := U.calling g mk a) (Vm.Alike.refl U.vm) q.2.2.2⟩, va_recv hK hP (ci := 13) (q0 := 0) rfl (wo_at (by decide) r_3), fun U hU hW => ⟨rfl, by rw [hU]; exact fun q h => hA q (Nat.le_trans hS.1 h), by rw [hU]; exact hP, LY.moved hW.alike hL⟩⟩ rfl rfl hl.1 rfl (lv_room (Nat.le_of_ble_eq_true rfl)) dX10_makeProduct_95 ⟨(Nat.le_of_ble_eq_true rfl), (Nat.le_of_ble_eq_true rfl)⟩) hS (fun q _ h => h) (fun q h => h) (fun r_89 u8 t8 H1 locs ht8 hvm8 hw_90 hB hz1 hk1 hS => ?_)
              obtain ⟨⟩ := u8
              try dsimp only at hw_90 hB
              rw [ht8] at hB
              have hP := hB
              generalize H1 = H at hP hS ⊢
              rcases hw_90 with ⟨rfl, hi5⟩ | ⟨rfl, hi5⟩
              · skip
                have hi5 : isN (gd L x1) 1 = true := hi5
                refine lv_if_eq (tgt := 105) hx hb dX10_makeProduct_98 (by decide) (fun c_91 => absurd c_91 (by decide)) (fun c_91 => ?_)
                refine lv_iload_n hx hb dX10_makeProduct_101 rfl (lv_at hl 2 rfl) ?_
                refine lv_goto (tgt := 106) hx hb dX10_makeProduct_102 (by decide) ?_
                refine W.widen (k := 0) (n := 0) (by omega) (by omega) ?_
                exact W.iret (v := nI y1) hx hb hr (fun t9 ht9 hW9 => ⟨⟨nI y1, (g, x, pt, pf, qf), rfl, ⟨(fun (k : Nat) (hk : k ≠ 0 ∧ k ≠ 1 ∧ k ≠ 2 ∧ k ≠ 3 ∧ k ≠ 5 ∧ k ≠ 6 ∧ k ≠ 7 ∧ k ≠ 8 ∧ k ≠ 9 ∧ k ≠ 10) => rfl), MKP.old (i := y1) (by rw [onF_0]; unfold prdL; rw [if_neg (show ¬ ((gd L x1).1 = 0 ∧ (gd L y1).1 = 0) from by omega), if_neg (by rw [hi0]; decide), if_neg (by rw [hi1]; decide), if_pos hi3]) iy hF0 hPt0 hM hL2 hmd hft⟩, by show va_P (dC, dI) vwCl _ t9.heap; rw [ht9]; exact hP⟩, hS.F ht9⟩) hS.2.2 dX10_makeProduct_106
              · exact absurd (hi3.symm.trans (show isN (gd L x1) 1 = false from hi5)) (by decide)
            · skip
              have hi3 : isN (gd L x1) 1 = false := hi3
              refine lv_if_ne (tgt := 92) hx hb dX10_makeProduct_80 (by decide) (fun c_92 => absurd c_92 (by decide)) (fun c_92 => ?_)
              refine lv_aload_n hx hb dX10_makeProduct_83 rfl (lv_at hl 0 rfl) ?_
              refine lv_iload_n hx hb dX10_makeProduct_84 rfl (lv_at hl 2 rfl) ?_
              refine lv_lconst (v := lN 1) hx hb dX10_makeProduct_85 (by decide +kernel) ?_
              refine va_calli (va_runV (As := [.int (nI y1), .long (lN 1)]) (rest := []) ⟨hx, hb, hml, hown, hts⟩ (c_X10_isNumber l dC dI A ad cA g x pf qf pt L y1 1 hF0 hPt0 hM hL2 iy (by decide)) (cwV 2 hts (goodIn_app (goodIn_r [Cond.methodLink RX10 174 yX10_isNumber, Cond.instanceMethod yX10_isNumber, Cond.selects RX10 yX10_isNumber yX10_isNumber, Cond.initialized RX10] [3, 4, 5, 6] rfl rfl) (goodIn_sub (fun w9 h9 => bk1 w9 h9) gw_X10_isNumber)) rfl rfl rfl (by decide +kernel) ⟨Nat.le_of_ble_eq_true rfl, Nat.le_of_ble_eq_true rfl⟩) ⟨fun a U g mk q => ⟨q.1, q.2.1, q.2.2.1, LY.moved (u := U) (U := U.calling g mk a) (Vm.Alike.refl U.vm) q.2.2.2⟩, va_recv hK hP (ci := 13) (q0 := 0) rfl (wo_at (by decide) r_3), fun U hU hW => ⟨rfl, by rw [hU]; exact fun q h => hA q (Nat.le_trans hS.1 h), by rw [hU]; exact hP, LY.moved hW.alike hL⟩⟩ rfl rfl hl.1 rfl (lv_room (Nat.le_of_ble_eq_true rfl)) dX10_makeProduct_86 ⟨(Nat.le_of_ble_eq_true rfl), (Nat.le_of_ble_eq_true rfl)⟩) hS (fun q _ h => h) (fun q h => h) (fun r_93 u8 t8 H1 locs ht8 hvm8 hw_94 hB hz1 hk1 hS => ?_)
              obtain ⟨⟩ := u8
              try dsimp only at hw_94 hB
              rw [ht8] at hB
              have hP := hB
              generalize H1 = H at hP hS ⊢
              rcases hw_94 with ⟨rfl, hi4⟩ | ⟨rfl, hi4⟩
              · skip
                have hi4 : isN (gd L y1) 1 = true := hi4
                refine lv_if_eq (tgt := 107) hx hb dX10_makeProduct_89 (by decide) (fun c_95 => absurd c_95 (by decide)) (fun c_95 => ?_)
                refine lv_aload_n hx hb dX10_makeProduct_92 rfl (lv_at hl 0 rfl) ?_
                refine lv_iload_n hx hb dX10_makeProduct_93 rfl (lv_at hl 1 rfl) ?_
                refine lv_lconst (v := lN 1) hx hb dX10_makeProduct_94 (by decide +kernel) ?_
                refine va_calli (va_runV (As := [.int (nI x1), .long (lN 1)]) (rest := []) ⟨hx, hb, hml, hown, hts⟩ (c_X10_isNumber l dC dI A ad cA g x pf qf pt L x1 1 hF0 hPt0 hM hL2 ix (by decide)) (cwV 2 hts (goodIn_app (goodIn_r [Cond.methodLink RX10 174 yX10_isNumber, Cond.instanceMethod yX10_isNumber, Cond.selects RX10 yX10_isNumber yX10_isNumber, Cond.initialized RX10] [3, 4, 5, 6] rfl rfl) (goodIn_sub (fun w9 h9 => bk1 w9 h9) gw_X10_isNumber)) rfl rfl rfl (by decide +kernel) ⟨Nat.le_of_ble_eq_true rfl, Nat.le_of_ble_eq_true rfl⟩) ⟨fun a U g mk q => ⟨q.1, q.2.1, q.2.2.1, LY.moved (u := U) (U := U.calling g mk a) (Vm.Alike.refl U.vm) q.2.2.2⟩, va_recv hK hP (ci := 13) (q0 := 0) rfl (wo_at (by decide) r_3), fun U hU hW => ⟨rfl, by rw [hU]; exact fun q h => hA q (Nat.le_trans hS.1 h), by rw [hU]; exact hP, LY.moved hW.alike hL⟩⟩ rfl rfl hl.1 rfl (lv_room (Nat.le_of_ble_eq_true rfl)) dX10_makeProduct_95 ⟨(Nat.le_of_ble_eq_true rfl), (Nat.le_of_ble_eq_true rfl)⟩) hS (fun q _ h => h) (fun q h => h) (fun r_96 u8 t8 H1 locs ht8 hvm8 hw_97 hB hz1 hk1 hS => ?_)
                obtain ⟨⟩ := u8
                try dsimp only at hw_97 hB
                rw [ht8] at hB
                have hP := hB
                generalize H1 = H at hP hS ⊢
                rcases hw_97 with ⟨rfl, hi5⟩ | ⟨rfl, hi5⟩
                · exact absurd (hi3.symm.trans (show isN (gd L x1) 1 = true from hi5)) (by decide)
                · skip
                  have hi5 : isN (gd L x1) 1 = false := hi5
                  refine lv_if_eq (tgt := 105) hx hb dX10_makeProduct_98 (by decide) (fun c_98 => ?_) (fun c_98 => absurd c_98 (by decide))
                  refine lv_iload_n hx hb dX10_makeProduct_105 rfl (lv_at hl 1 rfl) ?_
                  refine W.widen (k := 0) (n := 0) (by omega) (by omega) ?_
                  exact W.iret (v := nI x1) hx hb hr (fun t9 ht9 hW9 => ⟨⟨nI x1, (g, x, pt, pf, qf), rfl, ⟨(fun (k : Nat) (hk : k ≠ 0 ∧ k ≠ 1 ∧ k ≠ 2 ∧ k ≠ 3 ∧ k ≠ 5 ∧ k ≠ 6 ∧ k ≠ 7 ∧ k ≠ 8 ∧ k ≠ 9 ∧ k ≠ 10) => rfl), MKP.old (i := x1) (by rw [onF_0]; unfold prdL; rw [if_neg (show ¬ ((gd L x1).1 = 0 ∧ (gd L y1).1 = 0) from by omega), if_neg (by rw [hi0]; decide), if_neg (by rw [hi1]; decide), if_neg (by rw [hi3]; decide), if_pos hi4]) ix hF0 hPt0 hM hL2 hmd hft⟩, by show va_P (dC, dI) vwCl _ t9.heap; rw [ht9]; exact hP⟩, hS.F ht9⟩) hS.2.2 dX10_makeProduct_106
              · skip
                have hi4 : isN (gd L y1) 1 = false := hi4
                refine lv_if_eq (tgt := 107) hx hb dX10_makeProduct_89 (by decide) (fun c_99 => ?_) (fun c_99 => absurd c_99 (by decide))
                refine lv_aload_n hx hb dX10_makeProduct_107 rfl (lv_at hl 0 rfl) ?_
                refine lv_iconst (v := nI 3) hx hb dX10_makeProduct_108 (by decide +kernel) ?_
                refine lv_iload_n hx hb dX10_makeProduct_109 rfl (lv_at hl 1 rfl) ?_
                refine lv_iload_n hx hb dX10_makeProduct_110 rfl (lv_at hl 2 rfl) ?_
                refine lv_aload_n hx hb dX10_makeProduct_111 rfl (lv_at hl 0 rfl) ?_
                refine m_get (D := (dC, dI)) (v := .ref (ad 8)) (C := RX10) (T := TX10) (N := 29) hx hb hts bk0 hown hK hP 0 (by decide) r_3 rfl 10 (by decide) (hts (.fieldLink RX10 38 "GradientDeskModel" "degree" "[I") (List.mem_of_getElem? (i := 7) rfl)) (fun _ h9 => h9) rfl dX10_makeProduct_112 ?_
                refine lv_iload_n hx hb dX10_makeProduct_115 rfl (lv_at hl 1 rfl) ?_
                refine m_iald hx hb hK hP 8 (by decide) rfl p_13 (i := x1) (by omega) (by decide) dX10_makeProduct_116 ?_
                have b_100 := (hpt_16 3) x1
                refine lv_aload_n hx hb dX10_makeProduct_117 rfl (lv_at hl 0 rfl) ?_
                refine m_get (D := (dC, dI)) (v := .ref (ad 8)) (C := RX10) (T := TX10) (N := 29) hx hb hts bk0 hown hK hP 0 (by decide) r_3 rfl 10 (by decide) (hts (.fieldLink RX10 38 "GradientDeskModel" "degree" "[I") (List.mem_of_getElem? (i := 7) rfl)) (fun _ h9 => h9) rfl dX10_makeProduct_118 ?_
                refine lv_iload_n hx hb dX10_makeProduct_121 rfl (lv_at hl 2 rfl) ?_
                refine m_iald hx hb hK hP 8 (by decide) rfl p_13 (i := y1) (by omega) (by decide) dX10_makeProduct_122 ?_
                have b_101 := (hpt_16 3) y1
                refine lv_iadd hx hb dX10_makeProduct_123 ?_
                refine lv_topi (fun x_102 e_103 => ?_)
                obtain rfl : x_102 = iI (((pt 3) x1) + ((pt 3) y1)) := e_103.trans (iI_addP rfl rfl)
                refine lv_aload_n hx hb dX10_makeProduct_124 rfl (lv_at hl 0 rfl) ?_
                refine m_get (D := (dC, dI)) (v := .ref (ad 9)) (C := RX10) (T := TX10) (N := 29) hx hb hts bk0 hown hK hP 0 (by decide) r_3 rfl 11 (by decide) (hts (.fieldLink RX10 41 "GradientDeskModel" "sizeN" "[I") (List.mem_of_getElem? (i := 8) rfl)) (fun _ h9 => h9) rfl dX10_makeProduct_125 ?_
                refine lv_iload_n hx hb dX10_makeProduct_128 rfl (lv_at hl 1 rfl) ?_
                refine m_iald hx hb hK hP 9 (by decide) rfl p_14 (i := x1) (by omega) (by decide) dX10_makeProduct_129 ?_
                have b_104 := (hpt_16 4) x1
                refine lv_aload_n hx hb dX10_makeProduct_130 rfl (lv_at hl 0 rfl) ?_
                refine m_get (D := (dC, dI)) (v := .ref (ad 9)) (C := RX10) (T := TX10) (N := 29) hx hb hts bk0 hown hK hP 0 (by decide) r_3 rfl 11 (by decide) (hts (.fieldLink RX10 41 "GradientDeskModel" "sizeN" "[I") (List.mem_of_getElem? (i := 8) rfl)) (fun _ h9 => h9) rfl dX10_makeProduct_131 ?_
                refine lv_iload_n hx hb dX10_makeProduct_134 rfl (lv_at hl 2 rfl) ?_
                refine m_iald hx hb hK hP 9 (by decide) rfl p_14 (i := y1) (by omega) (by decide) dX10_makeProduct_135 ?_
                have b_105 := (hpt_16 4) y1
                refine lv_iadd hx hb dX10_makeProduct_136 ?_
                refine lv_topi (fun x_106 e_107 => ?_)
                obtain rfl : x_106 = iI (((pt 4) x1) + ((pt 4) y1)) := e_107.trans (iI_addP rfl rfl)
                refine lv_bipush (v := nI 8) hx hb dX10_makeProduct_137 (by decide +kernel) ?_
                refine lv_iadd hx hb dX10_makeProduct_139 ?_
                refine lv_topi (fun x_108 e_109 => ?_)
                obtain rfl : x_108 = iI ((((pt 4) x1) + ((pt 4) y1)) + 8) := e_109.trans (iI_addP rfl (show nI 8 = iI 8 from by decide))
                refine lv_aload_n hx hb dX10_makeProduct_140 rfl (lv_at hl 0 rfl) ?_
                refine m_get (D := (dC, dI)) (v := .ref (ad 10)) (C := RX10) (T := TX10) (N := 29) hx hb hts bk0 hown hK hP 0 (by decide) r_3 rfl 12 (by decide) (hts (.fieldLink RX10 44 "GradientDeskModel" "sizeD" "[I") (List.mem_of_getElem? (i := 9) rfl)) (fun _ h9 => h9) rfl dX10_makeProduct_141 ?_
                refine lv_iload_n hx hb dX10_makeProduct_144 rfl (lv_at hl 1 rfl) ?_
                refine m_iald hx hb hK hP 10 (by decide) rfl p_15 (i := x1) (by omega) (by decide) dX10_makeProduct_145 ?_
                have b_110 := (hpt_16 5) x1
                refine lv_aload_n hx hb dX10_makeProduct_146 rfl (lv_at hl 0 rfl) ?_
                refine m_get (D := (dC, dI)) (v := .ref (ad 10)) (C := RX10) (T := TX10) (N := 29) hx hb hts bk0 hown hK hP 0 (by decide) r_3 rfl 12 (by decide) (hts (.fieldLink RX10 44 "GradientDeskModel" "sizeD" "[I") (List.mem_of_getElem? (i := 9) rfl)) (fun _ h9 => h9) rfl dX10_makeProduct_147 ?_
                refine lv_iload_n hx hb dX10_makeProduct_150 rfl (lv_at hl 2 rfl) ?_
                refine m_iald hx hb hK hP 10 (by decide) rfl p_15 (i := y1) (by omega) (by decide) dX10_makeProduct_151 ?_
                have b_111 := (hpt_16 5) y1
                refine lv_iadd hx hb dX10_makeProduct_152 ?_
                refine lv_topi (fun x_112 e_113 => ?_)
                obtain rfl : x_112 = iI (((pt 5) x1) + ((pt 5) y1)) := e_113.trans (iI_addP rfl rfl)
                refine va_calli (va_runV (As := [.int (nI 3), .int (nI x1), .int (nI y1), .int (iI (((pt 3) x1) + ((pt 3) y1))), .int (iI ((((pt 4) x1) + ((pt 4) y1)) + 8)), .int (iI (((pt 5) x1) + ((pt 5) y1)))]) (rest := []) ⟨hx, hb, hml, hown, hts⟩ (c_X10_describe l dC dI A ad cA g x pf qf pt L (3, ((x1 : Nat) : Int), ((y1 : Nat) : Int), (gd L x1).2.2.2.1 + (gd L y1).2.2.2.1, (gd L x1).2.2.2.2.1 + (gd L y1).2.2.2.2.1 + 8, (gd L x1).2.2.2.2.2.1 + (gd L y1).2.2.2.2.2.1, 0, 1) (nI 3) (nI x1) (nI y1) (iI (((pt 3) x1) + ((pt 3) y1))) (iI ((((pt 4) x1) + ((pt 4) y1)) + 8)) (iI (((pt 5) x1) + ((pt 5) y1))) 0 hF0 hPt0 hM hmd hL2 hft (Or.inl rfl) ((show nI 3 = iI 3 from by decide).trans (congrArg iI (by rfl))) ((nI_iI x1).trans (congrArg iI (by rfl))) ((nI_iI y1).trans (congrArg iI (by rfl))) ((rfl : iI (((pt 3) x1) + ((pt 3) y1)) = _).trans (congrArg iI (by dsimp only; omega))) ((rfl : iI ((((pt 4) x1) + ((pt 4) y1)) + 8) = _).trans (congrArg iI (by dsimp only; omega))) ((rfl : iI (((pt 5) x1) + ((pt 5) y1)) = _).trans (congrArg iI (by dsimp only; omega))) (fun h9 => absurd (show (3 : Nat) = 0 from h9) (by decide)) (by show 3 ≤ 20000 ∧ -1 ≤ ((x1 : Nat) : Int) ∧ ((x1 : Nat) : Int) ≤ 20000 ∧ -1 ≤ ((y1 : Nat) : Int) ∧ ((y1 : Nat) : Int) ≤ 20000 ∧ (gd L x1).2.2.2.1 + (gd L y1).2.2.2.1 ≤ 20000 ∧ (gd L x1).2.2.2.2.1 + (gd L y1).2.2.2.2.1 + 8 ≤ 20000 ∧ (gd L x1).2.2.2.2.2.1 + (gd L y1).2.2.2.2.2.1 ≤ 20000; omega)) (cwV 6 hts (goodIn_app (goodIn_r [Cond.methodLink RX10 160 yX10_describe, Cond.instanceMethod yX10_describe, Cond.selects RX10 yX10_describe yX10_describe, Cond.initialized RX10] [10, 11, 12, 6] rfl rfl) (goodIn_sub (fun w9 h9 => bk2 w9 h9) gw_X10_describe)) rfl rfl rfl (by decide +kernel) ⟨Nat.le_of_ble_eq_true rfl, Nat.le_of_ble_eq_true rfl⟩) ⟨fun a U g mk q => ⟨q.1, q.2.1, q.2.2.1, LY.moved (u := U) (U := U.calling g mk a) (Vm.Alike.refl U.vm) q.2.2.2⟩, va_recv hK hP (ci := 13) (q0 := 0) rfl (wo_at (by decide) r_3), fun U hU hW => ⟨rfl, by rw [hU]; exact fun q h => hA q (Nat.le_trans hS.1 h), by rw [hU]; exact hP, LY.moved hW.alike hL⟩⟩ rfl rfl hl.1 rfl (lv_room (Nat.le_of_ble_eq_true rfl)) dX10_makeProduct_153 ⟨(Nat.le_of_ble_eq_true rfl), (Nat.le_of_ble_eq_true rfl)⟩) hS (fun q _ h => h) (fun q h => h) (fun r_114 u8 t8 H1 locs ht8 hvm8 hw_115 hB hz1 hk1 hS => ?_)
                obtain ⟨g_116, x2_117, pt2_118, pf2_119, qf2_120⟩ := u8
                try dsimp only at hw_115 hB
                rw [ht8] at hB
                have hP := hB
                generalize H1 = H at hP hS ⊢
                obtain ⟨fr_121, hK⟩ := hw_115
                refine W.widen (k := 0) (n := 0) (by omega) (by omega) ?_
                exact W.iret (v := r_114) hx hb hr (fun t9 ht9 hW9 => ⟨⟨r_114, (g_116, x2_117, pt2_118, pf2_119, qf2_120), rfl, ⟨(fun (k : Nat) (hk : k ≠ 0 ∧ k ≠ 1 ∧ k ≠ 2 ∧ k ≠ 3 ∧ k ≠ 5 ∧ k ≠ 6 ∧ k ≠ 7 ∧ k ≠ 8 ∧ k ≠ 9 ∧ k ≠ 10) => (fr_121 k (by omega)).trans (rfl)), by rw [onF_0] at hK ⊢; unfold prdL; rw [if_neg (show ¬ ((gd L x1).1 = 0 ∧ (gd L y1).1 = 0) from by omega), if_neg (by rw [hi0]; decide), if_neg (by rw [hi1]; decide), if_neg (by rw [hi3]; decide), if_neg (by rw [hi4]; decide)]; exact hK⟩, by show va_P (dC, dI) vwCl _ t9.heap; rw [ht9]; exact hP⟩, hS.F ht9⟩) hS.2.2 dX10_makeProduct_156
      · have c_71 := (k_iEQ (a := (pt 0) y1) (b := 0) rfl (show nI 0 = iI 0 from by decide) (by omega) (by omega)).mp c_71
        refine lv_aload_n hx hb dX10_makeProduct_27 rfl (lv_at hl 0 rfl) ?_
        refine lv_sipush (v := nI 1011) hx hb dX10_makeProduct_28 (by decide +kernel) ?_
        refine lv_iload_n hx hb dX10_makeProduct_31 rfl (lv_at hl 1 rfl) ?_
        refine lv_iload_n hx hb dX10_makeProduct_32 rfl (lv_at hl 2 rfl) ?_
        have n0x1 : (gd L x1).1 = 0 := by omega
        obtain ⟨n1x1, n2x1⟩ := a6x1 n0x1
        obtain ⟨-, b1x1, b2x1, b3x1⟩ := w7x1 n0x1
        have cx1 : (pf x1).natAbs < 2 ^ 1200 ∧ qf x1 < 2 ^ 1200 := k_fb n1x1 n2x1 b1x1 b2x1 w4x1 w5x1
        have n0y1 : (gd L y1).1 = 0 := by omega
        obtain ⟨n1y1, n2y1⟩ := a6y1 n0y1
        obtain ⟨-, b1y1, b2y1, b3y1⟩ := w7y1 n0y1
        have cy1 : (pf y1).natAbs < 2 ^ 1200 ∧ qf y1 < 2 ^ 1200 := k_fb n1y1 n2y1 b1y1 b2y1 w4y1 w5y1
        refine va_callv (va_runV (As := [.int (nI 1011), .int (nI x1), .int (nI y1)]) (rest := []) ⟨hx, hb, hml, hown, hts⟩ (c_X10_timesFractions l dC dI A ad cA g x pf qf 1011 x1 y1 hF0 (by decide) (by omega) (by omega) cx1 cy1) (cwV 3 hts (goodIn_app (goodIn_r [Cond.methodLink RX10 143 yX10_timesFractions, Cond.instanceMethod yX10_timesFractions, Cond.selects RX10 yX10_timesFractions yX10_timesFractions, Cond.initialized RX10] [13, 14, 15, 6] rfl rfl) (goodIn_sub (fun w9 h9 => bk3 w9 h9) gw_X10_timesFractions)) rfl rfl rfl (by decide +kernel) ⟨Nat.le_of_ble_eq_true rfl, Nat.le_of_ble_eq_true rfl⟩) ⟨fun a U g mk q => ⟨q.1, q.2.1, q.2.2.1, LY.moved (u := U) (U := U.calling g mk a) (Vm.Alike.refl U.vm) q.2.2.2⟩, va_recv hK hP (ci := 13) (q0 := 0) rfl (wo_at (by decide) r_3), fun U hU hW => ⟨rfl, by rw [hU]; exact fun q h => hA q (Nat.le_trans hS.1 h), by rw [hU]; exact hP, LY.moved hW.alike hL⟩⟩ rfl rfl hl.1 rfl (lv_room (Nat.le_of_ble_eq_true rfl)) dX10_makeProduct_33 ⟨(Nat.le_of_ble_eq_true rfl), (Nat.le_of_ble_eq_true rfl)⟩) hS (fun q _ h => h) (fun q h => h) (fun u8 t8 H1 locs ht8 hvm8 hw_122 hB hz1 hk1 hS => ?_)
        obtain ⟨g_123, pf2_124, qf2_125⟩ := u8
        try dsimp only at hw_122 hB
        rw [ht8] at hB
        have hP := hB
        generalize H1 = H at hP hS ⊢
        obtain ⟨fr_126, hF1, hp1, hq1, ho1⟩ := hw_122
        have f_127 : g_123 5 = .inl (cA 5, 201, .inl (fun j => iI ((pt 0) j))) := (fr_126 5 (by omega)).trans p_10
        have f_128 : g_123 6 = .inl (cA 6, 201, .inl (fun j => iI ((pt 1) j))) := (fr_126 6 (by omega)).trans p_11
        have f_129 : g_123 7 = .inl (cA 7, 201, .inl (fun j => iI ((pt 2) j))) := (fr_126 7 (by omega)).trans p_12
        have f_130 : g_123 8 = .inl (cA 8, 201, .inl (fun j => iI ((pt 3) j))) := (fr_126 8 (by omega)).trans p_13
        have f_131 : g_123 9 = .inl (cA 9, 201, .inl (fun j => iI ((pt 4) j))) := (fr_126 9 (by omega)).trans p_14
        have f_132 : g_123 10 = .inl (cA 10, 201, .inl (fun j => iI ((pt 5) j))) := (fr_126 10 (by omega)).trans p_15
        refine lv_aload_n hx hb dX10_makeProduct_36 rfl (lv_at hl 0 rfl) ?_
        have f_133 : g_123 0 = .inr (13, Rob ad x) := (fr_126 0 (by omega)).trans r_3
        refine va_calli (va_runV (As := []) (rest := []) ⟨hx, hb, hml, hown, hts⟩ (c_X10_makeNumber l dC dI A ad cA g_123 x pf2_124 qf2_125 pt L 0 hF1 (⟨f_127, f_128, f_129, f_130, f_131, f_132, hpt_16⟩) (hM.same (fun _ _ _ => rfl) (fun i9 hi9 => ho1 i9 (by omega) (by omega))) hmd hL2 hft (Or.inl rfl)) (cwV 0 hts (goodIn_app (goodIn_r [Cond.methodLink RX10 164 yX10_makeNumber, Cond.instanceMethod yX10_makeNumber, Cond.selects RX10 yX10_makeNumber yX10_makeNumber, Cond.initialized RX10] [16, 17, 18, 6] rfl rfl) (goodIn_sub (fun w9 h9 => bk4 w9 h9) gw_X10_makeNumber)) rfl rfl rfl (by decide +kernel) ⟨Nat.le_of_ble_eq_true rfl, Nat.le_of_ble_eq_true rfl⟩) ⟨fun a U g mk q => ⟨q.1, q.2.1, q.2.2.1, LY.moved (u := U) (U := U.calling g mk a) (Vm.Alike.refl U.vm) q.2.2.2⟩, va_recv hK hP (ci := 13) (q0 := 0) rfl (wo_at (by decide) f_133), fun U hU hW => ⟨rfl, by rw [hU]; exact fun q h => hA q (Nat.le_trans hS.1 h), by rw [hU]; exact hP, LY.moved hW.alike hL⟩⟩ rfl rfl hl.1 rfl (lv_room (Nat.le_of_ble_eq_true rfl)) dX10_makeProduct_37 ⟨(Nat.le_of_ble_eq_true rfl), (Nat.le_of_ble_eq_true rfl)⟩) hS (fun q _ h => h) (fun q h => h) (fun r_134 u8 t8 H1 locs ht8 hvm8 hw_135 hB hz1 hk1 hS => ?_)
        obtain ⟨g_136, x2_137, pt2_138, pf2_139, qf2_140⟩ := u8
        try dsimp only at hw_135 hB
        rw [ht8] at hB
        have hP := hB
        generalize H1 = H at hP hS ⊢
        obtain ⟨fr_141, hK⟩ := hw_135
        rw [onF_0, hp1, hq1, n1x1, n1y1, n2x1, n2y1] at hK
        refine W.widen (k := 0) (n := 0) (by omega) (by omega) ?_
        exact W.iret (v := r_134) hx hb hr (fun t9 ht9 hW9 => ⟨⟨r_134, (g_136, x2_137, pt2_138, pf2_139, qf2_140), rfl, ⟨(fun (k : Nat) (hk : k ≠ 0 ∧ k ≠ 1 ∧ k ≠ 2 ∧ k ≠ 3 ∧ k ≠ 5 ∧ k ≠ 6 ∧ k ≠ 7 ∧ k ≠ 8 ∧ k ≠ 9 ∧ k ≠ 10) => (fr_141 k (by omega)).trans ((fr_126 k (by omega)).trans (rfl))), by rw [onF_0]; unfold prdL; rw [if_pos ⟨n0x1, n0y1⟩]; exact hK.base (fun _ _ _ => rfl) (fun f9 h1 h2 => ho1 f9 (by omega) (by omega))⟩, by show va_P (dC, dI) vwCl _ t9.heap; rw [ht9]; exact hP⟩, hS.F ht9⟩) hS.2.2 dX10_makeProduct_40
  · have c_17 := mt (k_iLE (a := 0) (b := ft) (show nI 0 = iI 0 from by decide) rfl (by omega) (by omega)).mpr c_17
    refine lv_iconst (v := -1) hx hb dX10_makeProduct_7 (by decide +kernel) ?_
    refine W.widen (k := 0) (n := 0) (by omega) (by omega) ?_
    exact W.iret (v := -1) hx hb hr (fun t9 ht9 hW9 => ⟨⟨-1, (g, x, pt, pf, qf), rfl, ⟨(fun (k : Nat) (hk : k ≠ 0 ∧ k ≠ 1 ∧ k ≠ 2 ∧ k ≠ 3 ∧ k ≠ 5 ∧ k ≠ 6 ∧ k ≠ 7 ∧ k ≠ 8 ∧ k ≠ 9 ∧ k ≠ 10) => rfl), MKP.neg (onF_neg (by omega)) (by omega) hF0 hPt0 hM hL2 hmd hft⟩, by show va_P (dC, dI) vwCl _ t9.heap; rw [ht9]; exact hP⟩, hS.F ht9⟩) hS.2.2 dX10_makeProduct_8
end
section
theorem k_nm {n b : Nat} (hn : n ≤ 9) (hb : b ≤ 400) : ((n : Nat) : Int) * (((b : Nat) : Int) - 1) ≤ 9 * 400 ∧ -9 ≤ ((n : Nat) : Int) * (((b : Nat) : Int) - 1) := by
  rw [Int.mul_sub, Int.mul_one, ← Int.natCast_mul]
  have h1 : n * b ≤ 9 * 400 := Nat.mul_le_mul hn hb
  omega
theorem bl_pow (v n : Nat) : bl (v ^ n) ≤ n * bl v + 1 := by
  induction n with
  | zero => rw [Nat.pow_zero]; exact bl_le.mpr (by rw [Nat.zero_mul]; decide)
  | succ n ih =>
    rw [bl_le, Nat.pow_succ]
    rcases Nat.eq_zero_or_pos v with h | h
    · subst h; rw [Nat.mul_zero]; exact Nat.pow_pos (by decide)
    · have h1 : v ^ n < 2 ^ (n * bl v + 1) := bl_le.mp ih
      have h2 := bl_lt v
      rw [show (n + 1) * bl v + 1 = (n * bl v + 1) + bl v by rw [Nat.add_mul]; omega, Nat.pow_add]
      exact Nat.mul_lt_mul_of_lt_of_le h1 (Nat.le_of_lt h2) (Nat.pow_pos (by decide))
theorem k_pw12 {v n b : Nat} (hb : b = bl v) (h : ((n : Nat) : Int) * (((b : Nat) : Int) - 1) + 1 ≤ 400) (hn : n ≤ 9) : v ^ n < 2 ^ 1200 := by
  apply bl_le.mp
  have h1 := bl_pow v n
  rw [← hb] at h1
  have h2 : ((n : Nat) : Int) * (((b : Nat) : Int) - 1) = ((n * b : Nat) : Int) - n := by rw [Int.mul_sub, Int.mul_one, Int.natCast_mul]
  omega
theorem bl_pge {v : Nat} (hv : 0 < v) (n : Nat) : n * (bl v - 1) + 1 ≤ bl (v ^ n) := by
  have h0 := bl_pos.mpr hv
  have h1 : 2 ^ (bl v - 1) ≤ v := bl_ge.mp (by omega)
  apply bl_ge.mpr
  rw [Nat.mul_comm, Nat.pow_mul]
  exact Nat.pow_le_pow_left h1 n
theorem k_pbig {L : List PD} {p : Int} {q n bp bq : Nat} (h : (bp = bl p.natAbs ∧ 400 < ((n : Nat) : Int) * (((bp : Nat) : Int) - 1) + 1) ∨ (bq = bl q ∧ 400 < ((n : Nat) : Int) * (((bq : Nat) : Int) - 1) + 1)) : numL L (p ^ n) (q ^ n) = (-3, L) := by
  unfold numL
  apply keepL_big
  right
  have key : ∀ v b : Nat, b = bl v → 400 < ((n : Nat) : Int) * (((b : Nat) : Int) - 1) + 1 → 400 < bl (v ^ n) := by
    intro v b hb hk
    rcases Nat.eq_zero_or_pos v with h0 | h0
    · subst h0; rw [bl_zero] at hb; subst hb
      have : ((n : Nat) : Int) * (((0 : Nat) : Int) - 1) = -((n : Nat) : Int) := by omega
      omega
    · have h1 := bl_pge h0 n
      have h2 := bl_pos.mpr h0
      rw [← hb] at h1 h2
      have h3 : ((n : Nat) : Int) * (((b : Nat) : Int) - 1) = ((n * (b - 1) : Nat) : Int) := by rw [Int.natCast_mul]; congr 1; omega
      omega
  rcases h with ⟨hb, hk⟩ | ⟨hb, hk⟩
  · left
    show 400 < (if bl (p ^ n).natAbs = 0 then 1 else bl (p ^ n).natAbs)
    have := key _ _ hb hk
    rw [Int.natAbs_pow]
    split <;> omega
  · right
    show 400 < (if bl (q ^ n) = 1 then 0 else bl (q ^ n))
    have := key _ _ hb hk
    split <;> omega
end
section
def wd_X10_power : List Cond := .code yX10_power cX10_power 5 none :: (([.methodLink RX10 139 yX10_setFraction, .instanceMethod yX10_setFraction, .selects RX10 yX10_setFraction yX10_setFraction, .initialized RX10, .methodLink RX10 136 yX10_copyFraction, .instanceMethod yX10_copyFraction, .selects RX10 yX10_copyFraction yX10_copyFraction, .methodLink RX10 143 yX10_timesFractions, .instanceMethod yX10_timesFractions, .selects RX10 yX10_timesFractions yX10_timesFractions] : List Cond) ++ (wd_X10_setFraction ++ (wd_X10_copyFraction ++ (wd_X10_timesFractions ++ ([])))))
theorem gw_X10_power : wd_X10_power.all goodWord = true := k_allc rfl (k_all (by decide +kernel) (k_all (gw_X10_setFraction) (k_all (gw_X10_copyFraction) (k_all (gw_X10_timesFractions) (rfl)))))
set_option maxHeartbeats 4000000 in
set_option maxRecDepth 100000 in
theorem c_X10_power (l : Launch) (dC : Nat → ClassId) (dI : Nat → Nat → Nat) (A : Nat → Prop) (ad : Nat → Nat) (cA : Nat → ClassId) (g : Nat → va_E) (x : Nat → Int32) (pf : Nat → Int) (qf : Nat → Nat) (t : Nat) (a : Nat) (n : Nat) (hF : RF ad cA g x pf qf) (ht : t < 1014) (ia : a < 1014) (hn : n ≤ 9) (hp : (pf a).natAbs ^ n < 2 ^ 1200) (hq9 : qf a ^ n < 2 ^ 1200) : Met l yX10_power wd_X10_power ({ frames := 80, cells := 0, slots := 0, locals := 1600 }) (va_Pc [.ref (ad 0), .int (nI t), .int (nI a), .int (nI n)] (PR NSr tyr dC dI A ad cA g)) (va_Qv (fun (u : (Nat → va_E) × (Nat → Int) × (Nat → Nat)) => match u with | (g2, pf2, qf2) => (∀ k, k ≠ 1 ∧ k ≠ 2 ∧ k ≠ 3 → g2 k = g k) ∧ RF ad cA g2 x pf2 qf2 ∧ pf2 t = pf a ^ n ∧ qf2 t = qf a ^ n ∧ (∀ f, f ≠ t → f ≠ 1014 → f ≠ 1016 → pf2 f = pf f ∧ qf2 f = qf f)) (fun (u : (Nat → va_E) × (Nat → Int) × (Nat → Nat)) (t : State) => va_P (dC, dI) vwCl (wo ad NSr u.1) t.heap) A) (0) (0) A := by
  refine Met.ofW (cc := cX10_power) (maxL := 5) (ret := none) (by decide) rfl ?_
  intro p e s m args below meth c s₁ B hml hv
  obtain ⟨rfl, hA, hP, hL⟩ := hv
  have hx := B.exec
  have hb := B.bytes
  have hr := B.returns
  have hts := atoms_spec (ws := wd_X10_power) B.pre
  have hown : s.vm.findClass RX10 = some m.cls := findClass_of_methodNamed B.named
  have hlocks := B.notSynchronized
  have hK := hL.1
  have hD : ∀ g, va_D A (wo ad NSr g) := fun g => wo_D hL.2.1 hL.2.2 g
  have hS : va_S A s.heap s.heap [] := va_S.rf
  have bk0 : ∀ w ∈ wd_X10_setFraction, w ∈ wd_X10_power := fun _ h => List.mem_cons_of_mem _ (List.mem_append_right _ (List.mem_append_left _ h))
  have bk1 : ∀ w ∈ wd_X10_copyFraction, w ∈ wd_X10_power := fun _ h => List.mem_cons_of_mem _ (List.mem_append_right _ (List.mem_append_right _ (List.mem_append_left _ h)))
  have bk2 : ∀ w ∈ wd_X10_timesFractions, w ∈ wd_X10_power := fun _ h => List.mem_cons_of_mem _ (List.mem_append_right _ (List.mem_append_right _ (List.mem_append_right _ (List.mem_append_left _ h))))
  have hl := lv_entry ([.ref (ad 0), .int (nI t), .int (nI a), .int (nI n)]) (n := 5) (Nat.le_of_ble_eq_true rfl)
  rw [lg_entry_eq]
  generalize (lg_sl ([.ref (ad 0), .int (nI t), .int (nI a), .int (nI n)]) ++ List.replicate (5 - (lg_sl ([.ref (ad 0), .int (nI t), .int (nI a), .int (nI n)])).length) Slot.unset).toArray = ls at hl ⊢
  have hl : lv_has ls 5 [(0, .ref (ad 0)), (1, .int (nI t)), (2, .int (nI a)), (3, .int (nI n))] := hl
  have hF0 := hF
  obtain ⟨vf, hV, hq⟩ := hF
  have hc_1 := hV
  obtain ⟨pnz_2, lnz_2, bnz_2, hRz_2, hvz_2⟩ := hc_1
  obtain ⟨r_3, r_4, r_5, r_6, r_7, r_8, r_9⟩ := hRz_2
  have hra := (hq a (by omega)).2.2
  refine lv_aload_n hx hb dX10_power_0 rfl (lv_at hl 0 rfl) ?_
  refine lv_sipush (v := nI 1014) hx hb dX10_power_1 (by decide +kernel) ?_
  refine lv_lconst (v := lN 1) hx hb dX10_power_4 (by decide +kernel) ?_
  refine lv_lconst (v := lN 1) hx hb dX10_power_5 (by decide +kernel) ?_
  refine va_callv (va_runV (As := [.int (nI 1014), .long (lN 1), .long (lN 1)]) (rest := []) ⟨hx, hb, hml, hown, hts⟩ (c_X10_setFraction l dC dI A ad cA g x pf qf 1014 (lN 1) (lN 1) 1 1 hF0 (by decide) (by decide) (by decide) (by decide) (by decide) (by decide)) (cwV 3 hts (goodIn_app (goodIn_r [Cond.methodLink RX10 139 yX10_setFraction, Cond.instanceMethod yX10_setFraction, Cond.selects RX10 yX10_setFraction yX10_setFraction, Cond.initialized RX10] [1, 2, 3, 4] rfl rfl) (goodIn_sub (fun w9 h9 => bk0 w9 h9) gw_X10_setFraction)) rfl rfl rfl (by decide +kernel) ⟨Nat.le_of_ble_eq_true rfl, Nat.le_of_ble_eq_true rfl⟩) ⟨fun a U g mk q => ⟨q.1, q.2.1, q.2.2.1, LY.moved (u := U) (U := U.calling g mk a) (Vm.Alike.refl U.vm) q.2.2.2⟩, va_recv hK hP (ci := 13) (q0 := 0) rfl (wo_at (by decide) r_3), fun U hU hW => ⟨rfl, by rw [hU]; exact fun q h => hA q (Nat.le_trans hS.1 h), by rw [hU]; exact hP, LY.moved hW.alike hL⟩⟩ rfl rfl hl.1 rfl (lv_room (Nat.le_of_ble_eq_true rfl)) dX10_power_6 ⟨(Nat.le_of_ble_eq_true rfl), (Nat.le_of_ble_eq_true rfl)⟩) hS (fun q _ h => h) (fun q h => h) (fun u8 t8 H1 locs ht8 hvm8 hw_10 hB hz1 hk1 hS => ?_)
  obtain ⟨g_11, rfl⟩ : ∃ z, z = u8 := ⟨_, rfl⟩
  try dsimp only at hw_10 hB
  rw [ht8] at hB
  have hP := hB
  generalize H1 = H at hP hS ⊢
  obtain ⟨fr_12, hF1⟩ := hw_10
  rw [show rdp 1 1 = 1 from by decide, show rdq 1 1 = 1 from by decide] at hF1
  refine lv_iconst (v := nI 0) hx hb dX10_power_9 (by decide +kernel) ?_
  refine lv_istore (lv' := [(4, .int (nI 0)), (0, .ref (ad 0)), (1, .int (nI t)), (2, .int (nI a)), (3, .int (nI n))]) hx hb dX10_power_10 hl (by decide) rfl (fun ls hl => ?_)
  have loop_13 : ∀ (k9 : Nat) (i : Nat) (p1 : Nat → Int) (q1 : Nat → Nat) (g_15 : Nat → va_E) (fr_16 : ∀ k, (k ≠ 1 ∧ k ≠ 2 ∧ k ≠ 3) → g_15 k = g_11 k), n - i < k9 → (i ≤ n) → (p1 1014 = pf a ^ i ∧ q1 1014 = qf a ^ i) → (∀ f, f ≠ 1014 → f ≠ 1016 → p1 f = pf f ∧ q1 f = qf f) → (RF ad cA g_15 x p1 q1) → ∀ (H : Heap) (locs : List Loc) (ls : Array Slot), va_P (dC, dI) vwCl (wo ad NSr g_15) H → va_S A s.heap H locs → lv_has ls 5 [(0, .ref (ad 0)), (1, .int (nI t)), (2, .int (nI a)), (3, .int (nI n)), (4, .int (nI i))] → W p l e (headSpec wd_X10_power ({ frames := 80, cells := 0, slots := 0, locals := 1600 })).room s m ([.ref (ad 0), .int (nI t), .int (nI a), .int (nI n)] : List Value).toArray below meth c H locs (0) (0) (MQ below (va_Qv (fun (u : (Nat → va_E) × (Nat → Int) × (Nat → Nat)) => match u with | (g2, pf2, qf2) => (∀ k, k ≠ 1 ∧ k ≠ 2 ∧ k ≠ 3 → g2 k = g k) ∧ RF ad cA g2 x pf2 qf2 ∧ pf2 t = pf a ^ n ∧ qf2 t = qf a ^ n ∧ (∀ f, f ≠ t → f ≠ 1014 → f ≠ 1016 → pf2 f = pf f ∧ qf2 f = qf f)) (fun (u : (Nat → va_E) × (Nat → Int) × (Nat → Nat)) (t : State) => va_P (dC, dI) vwCl (wo ad NSr u.1) t.heap) A) ([.ref (ad 0), .int (nI t), .int (nI a), .int (nI n)] : List Value).toArray s (0) (0) A) (F0 m 12 ls []) := by
    intro k9
    induction k9 with
    | zero => intro i p1 q1 g_15 fr_16 h9; exact absurd h9 (Nat.not_lt_zero _)
    | succ k9 ih_14 =>
      intro i p1 q1 g_15 fr_16 h9 hi hP5 hO hFL H locs ls hP hS hl
      refine lv_iload hx hb dX10_power_12 (lv_at hl 4 rfl) ?_
      refine lv_iload_n hx hb dX10_power_14 rfl (lv_at hl 3 rfl) ?_
      refine lv_icmp_ge (tgt := 35) hx hb dX10_power_15 (by decide) (fun c_17 => ?_) (fun c_17 => ?_)
      · have c_17 := (nI_leI (a := n) (b := i) (by omega) (by omega)).mp c_17
        refine lv_aload_n hx hb dX10_power_35 rfl (lv_at hl 0 rfl) ?_
        refine lv_iload_n hx hb dX10_power_36 rfl (lv_at hl 1 rfl) ?_
        refine lv_sipush (v := nI 1014) hx hb dX10_power_37 (by decide +kernel) ?_
        have hie : i = n := by omega
        have f_18 : g_15 0 = .inr (13, Rob ad x) := (fr_16 0 (by omega)).trans ((fr_12 0 (by omega)).trans r_3)
        refine va_callv (va_runV (As := [.int (nI t), .int (nI 1014)]) (rest := []) ⟨hx, hb, hml, hown, hts⟩ (c_X10_copyFraction l dC dI A ad cA g_15 x p1 q1 t 1014 hFL (by omega) (by decide)) (cwV 2 hts (goodIn_app (goodIn_r [Cond.methodLink RX10 136 yX10_copyFraction, Cond.instanceMethod yX10_copyFraction, Cond.selects RX10 yX10_copyFraction yX10_copyFraction, Cond.initialized RX10] [5, 6, 7, 4] rfl rfl) (goodIn_sub (fun w9 h9 => bk1 w9 h9) gw_X10_copyFraction)) rfl rfl rfl (by decide +kernel) ⟨Nat.le_of_ble_eq_true rfl, Nat.le_of_ble_eq_true rfl⟩) ⟨fun a U g mk q => ⟨q.1, q.2.1, q.2.2.1, LY.moved (u := U) (U := U.calling g mk a) (Vm.Alike.refl U.vm) q.2.2.2⟩, va_recv hK hP (ci := 13) (q0 := 0) rfl (wo_at (by decide) f_18), fun U hU hW => ⟨rfl, by rw [hU]; exact fun q h => hA q (Nat.le_trans hS.1 h), by rw [hU]; exact hP, LY.moved hW.alike hL⟩⟩ rfl rfl hl.1 rfl (lv_room (Nat.le_of_ble_eq_true rfl)) dX10_power_40 ⟨(Nat.le_of_ble_eq_true rfl), (Nat.le_of_ble_eq_true rfl)⟩) hS (fun q _ h => h) (fun q h => h) (fun u8 t8 H1 locs ht8 hvm8 hw_19 hB hz1 hk1 hS => ?_)
        obtain ⟨g_20, rfl⟩ : ∃ z, z = u8 := ⟨_, rfl⟩
        try dsimp only at hw_19 hB
        rw [ht8] at hB
        have hP := hB
        generalize H1 = H at hP hS ⊢
        obtain ⟨fr_21, hF3⟩ := hw_19
        refine W.widen (k := 0) (n := 0) (by omega) (by omega) ?_
        exact W.vret hx hb hr (fun t9 ht9 hW9 => ⟨⟨(g_20, va_up p1 t (p1 1014), va_up q1 t (q1 1014)), rfl, ⟨(fun (k : Nat) (hk : k ≠ 1 ∧ k ≠ 2 ∧ k ≠ 3) => (fr_21 k (by omega)).trans ((fr_16 k (by omega)).trans ((fr_12 k (by omega)).trans (rfl)))), hF3, by rw [va_up_self, hP5.1, hie], by rw [va_up_self, hP5.2, hie], fun f9 h1 h2 h3 => ⟨(va_up_ne _ _ h1).trans (hO f9 h2 h3).1, (va_up_ne _ _ h1).trans (hO f9 h2 h3).2⟩⟩, by show va_P (dC, dI) vwCl _ t9.heap; rw [ht9]; exact hP⟩, hS.F ht9⟩) hS.2.2 dX10_power_43
      · have c_17 := mt (nI_leI (a := n) (b := i) (by omega) (by omega)).mpr c_17
        refine lv_aload_n hx hb dX10_power_18 rfl (lv_at hl 0 rfl) ?_
        refine lv_sipush (v := nI 1014) hx hb dX10_power_19 (by decide +kernel) ?_
        refine lv_sipush (v := nI 1014) hx hb dX10_power_22 (by decide +kernel) ?_
        refine lv_iload_n hx hb dX10_power_25 rfl (lv_at hl 2 rfl) ?_
        obtain ⟨e1, e2⟩ := hO a (by omega) (by omega)
        have f_22 : g_15 0 = .inr (13, Rob ad x) := (fr_16 0 (by omega)).trans ((fr_12 0 (by omega)).trans r_3)
        refine va_callv (va_runV (As := [.int (nI 1014), .int (nI 1014), .int (nI a)]) (rest := []) ⟨hx, hb, hml, hown, hts⟩ (c_X10_timesFractions l dC dI A ad cA g_15 x p1 q1 1014 1014 a hFL (by decide) (by decide) (by omega) (⟨by rw [hP5.1, Int.natAbs_pow]; exact k_pwle (by omega) hp, by rw [hP5.2]; exact k_pwle (by omega) hq9⟩) (⟨by rw [e1]; have := k_pwle (k := 1) (by omega) hp; rw [Nat.pow_one] at this; exact this, by rw [e2]; have := k_pwle (k := 1) (by omega) hq9; rw [Nat.pow_one] at this; exact this⟩)) (cwV 3 hts (goodIn_app (goodIn_r [Cond.methodLink RX10 143 yX10_timesFractions, Cond.instanceMethod yX10_timesFractions, Cond.selects RX10 yX10_timesFractions yX10_timesFractions, Cond.initialized RX10] [8, 9, 10, 4] rfl rfl) (goodIn_sub (fun w9 h9 => bk2 w9 h9) gw_X10_timesFractions)) rfl rfl rfl (by decide +kernel) ⟨Nat.le_of_ble_eq_true rfl, Nat.le_of_ble_eq_true rfl⟩) ⟨fun a U g mk q => ⟨q.1, q.2.1, q.2.2.1, LY.moved (u := U) (U := U.calling g mk a) (Vm.Alike.refl U.vm) q.2.2.2⟩, va_recv hK hP (ci := 13) (q0 := 0) rfl (wo_at (by decide) f_22), fun U hU hW => ⟨rfl, by rw [hU]; exact fun q h => hA q (Nat.le_trans hS.1 h), by rw [hU]; exact hP, LY.moved hW.alike hL⟩⟩ rfl rfl hl.1 rfl (lv_room (Nat.le_of_ble_eq_true rfl)) dX10_power_26 ⟨(Nat.le_of_ble_eq_true rfl), (Nat.le_of_ble_eq_true rfl)⟩) hS (fun q _ h => h) (fun q h => h) (fun u8 t8 H1 locs ht8 hvm8 hw_23 hB hz1 hk1 hS => ?_)
        obtain ⟨g_24, pf2_25, qf2_26⟩ := u8
        try dsimp only at hw_23 hB
        rw [ht8] at hB
        have hP := hB
        generalize H1 = H at hP hS ⊢
        obtain ⟨fr_27, hF2, hp2, hq2, ho1⟩ := hw_23
        have hP2 : pf2_25 1014 = pf a ^ (i + 1) ∧ qf2_26 1014 = qf a ^ (i + 1) := ⟨by rw [hp2, hP5.1, hP5.2, e1, e2]; exact (pw_pair hra).1, by rw [hq2, hP5.1, hP5.2, e1, e2]; exact (pw_pair hra).2⟩
        refine lv_iinc (v := nI (i + 1)) (lv' := [(4, .int (nI (i + 1))), (0, .ref (ad 0)), (1, .int (nI t)), (2, .int (nI a)), (3, .int (nI n))]) hx hb dX10_power_29 hl (k := 4) rfl (nI_add i 1) (by decide) rfl (fun ls hl => ?_)
        refine lv_goto (tgt := 12) hx hb dX10_power_32 (by decide) ?_
        exact ih_14 (i + 1) pf2_25 qf2_26 g_24 (fun (k : Nat) (hk : k ≠ 1 ∧ k ≠ 2 ∧ k ≠ 3) => (fr_27 k (by omega)).trans ((fr_16 k (by omega)).trans (rfl))) (by omega) (by omega) hP2 (fun f9 h1 h2 => ⟨(ho1 f9 h1 h2).1.trans (hO f9 h1 h2).1, (ho1 f9 h1 h2).2.trans (hO f9 h1 h2).2⟩) hF2 _ _ _ hP hS (lv_sub (l' := [(0, .ref (ad 0)), (1, .int (nI t)), (2, .int (nI a)), (3, .int (nI n)), (4, .int (nI (i + 1)))]) hl [1, 2, 3, 4, 0] rfl)
  exact loop_13 _ 0 (va_up pf 1014 1) (va_up qf 1014 1) g_11 (fun (k : Nat) (hk : k ≠ 1 ∧ k ≠ 2 ∧ k ≠ 3) => rfl) (Nat.lt_succ_self _) (Nat.zero_le _) (⟨by rw [va_up_self, Int.pow_zero], by rw [va_up_self, Nat.pow_zero]⟩) (fun f9 h1 h2 => ⟨va_up_ne _ _ h1, va_up_ne _ _ h1⟩) hF1 _ _ _ hP hS (lv_sub (l' := [(0, .ref (ad 0)), (1, .int (nI t)), (2, .int (nI a)), (3, .int (nI n)), (4, .int (nI 0))]) hl [1, 2, 3, 4, 0] rfl)
def wd_X10_makePower : List Cond := .code yX10_makePower cX10_makePower 5 (some .int) :: (([.fieldLink RX10 146 "GradientDeskModel" "fault" "I", .fieldLink RX10 29 "GradientDeskModel" "sort" "[I", .methodLink RX10 117 yX10_bitsOf, .instanceMethod yX10_bitsOf, .selects RX10 yX10_bitsOf yX10_bitsOf, .initialized RX10, .methodLink RX10 181 yX10_power, .instanceMethod yX10_power, .selects RX10 yX10_power yX10_power, .methodLink RX10 164 yX10_makeNumber, .instanceMethod yX10_makeNumber, .selects RX10 yX10_makeNumber yX10_makeNumber, .fieldLink RX10 38 "GradientDeskModel" "degree" "[I", .fieldLink RX10 41 "GradientDeskModel" "sizeN" "[I", .fieldLink RX10 44 "GradientDeskModel" "sizeD" "[I", .methodLink RX10 160 yX10_describe, .instanceMethod yX10_describe, .selects RX10 yX10_describe yX10_describe, .methodLink RX10 177 yX10_makeFraction, .instanceMethod yX10_makeFraction, .selects RX10 yX10_makeFraction yX10_makeFraction] : List Cond) ++ (u_ws RX10 TX10 29 ++ (wd_X10_bitsOf ++ (wd_X10_power ++ (wd_X10_makeNumber ++ (wd_X10_describe ++ (wd_X10_makeFraction ++ ([]))))))))
theorem gw_X10_makePower : wd_X10_makePower.all goodWord = true := k_allc rfl (k_all (by decide +kernel) (k_all (gu_X10) (k_all (gw_X10_bitsOf) (k_all (gw_X10_power) (k_all (gw_X10_makeNumber) (k_all (gw_X10_describe) (k_all (gw_X10_makeFraction) (rfl))))))))
set_option maxHeartbeats 4000000 in
set_option maxRecDepth 100000 in
theorem c_X10_makePower (l : Launch) (dC : Nat → ClassId) (dI : Nat → Nat → Nat) (A : Nat → Prop) (ad : Nat → Nat) (cA : Nat → ClassId) (g : Nat → va_E) (x : Nat → Int32) (pf : Nat → Int) (qf : Nat → Nat) (pt : Nat → Nat → Int) (L : List PD) (x1 : Nat) (n : Nat) (ft : Int) (hF : RF ad cA g x pf qf) (hPt : PTF cA g pt) (hM : MT L pt pf qf) (hmd : x 3 = nI L.length) (hL2 : L.length ≤ 200) (hft : x 4 = iI ft) (hfr : ft = 0 ∨ (ft < 0 ∧ -4 ≤ ft)) (hW : WFL L) (ix : x1 < L.length) (hn : n ≤ 9) : Met l yX10_makePower wd_X10_makePower ({ frames := 90, cells := 0, slots := 0, locals := 1800 }) (va_Pc [.ref (ad 0), .int (nI x1), .int (nI n)] (PR NSr tyr dC dI A ad cA g)) (va_Qi (fun (r : Int32) => fun (u : (Nat → va_E) × (Nat → Int32) × (Nat → Nat → Int) × (Nat → Int) × (Nat → Nat)) => match u with | (g2, x2, pt2, pf2, qf2) => (∀ k, k ≠ 0 ∧ k ≠ 1 ∧ k ≠ 2 ∧ k ≠ 3 ∧ k ≠ 5 ∧ k ≠ 6 ∧ k ≠ 7 ∧ k ≠ 8 ∧ k ≠ 9 ∧ k ≠ 10 → g2 k = g k) ∧ MKP ad cA g2 x x2 pf qf (onF ft L (powL L x1 n)) r pt2 pf2 qf2) (fun (u : (Nat → va_E) × (Nat → Int32) × (Nat → Nat → Int) × (Nat → Int) × (Nat → Nat)) (t : State) => va_P (dC, dI) vwCl (wo ad NSr u.1) t.heap) A) (0) (0) A := by
  refine Met.ofW (cc := cX10_makePower) (maxL := 5) (ret := (some .int)) (by decide) rfl ?_
  intro p e s m args below meth c s₁ B hml hv
  obtain ⟨rfl, hA, hP, hL⟩ := hv
  have hx := B.exec
  have hb := B.bytes
  have hr := B.returns
  have hts := atoms_spec (ws := wd_X10_makePower) B.pre
  have hown : s.vm.findClass RX10 = some m.cls := findClass_of_methodNamed B.named
  have hlocks := B.notSynchronized
  have hK := hL.1
  have hD : ∀ g, va_D A (wo ad NSr g) := fun g => wo_D hL.2.1 hL.2.2 g
  have hS : va_S A s.heap s.heap [] := va_S.rf
  have bk0 : ∀ w ∈ u_ws RX10 TX10 29, w ∈ wd_X10_makePower := fun _ h => List.mem_cons_of_mem _ (List.mem_append_right _ (List.mem_append_left _ h))
  have bk1 : ∀ w ∈ wd_X10_bitsOf, w ∈ wd_X10_makePower := fun _ h => List.mem_cons_of_mem _ (List.mem_append_right _ (List.mem_append_right _ (List.mem_append_left _ h)))
  have bk2 : ∀ w ∈ wd_X10_power, w ∈ wd_X10_makePower := fun _ h => List.mem_cons_of_mem _ (List.mem_append_right _ (List.mem_append_right _ (List.mem_append_right _ (List.mem_append_left _ h))))
  have bk3 : ∀ w ∈ wd_X10_makeNumber, w ∈ wd_X10_makePower := fun _ h => List.mem_cons_of_mem _ (List.mem_append_right _ (List.mem_append_right _ (List.mem_append_right _ (List.mem_append_right _ (List.mem_append_left _ h)))))
  have bk4 : ∀ w ∈ wd_X10_describe, w ∈ wd_X10_makePower := fun _ h => List.mem_cons_of_mem _ (List.mem_append_right _ (List.mem_append_right _ (List.mem_append_right _ (List.mem_append_right _ (List.mem_append_right _ (List.mem_append_left _ h))))))
  have bk5 : ∀ w ∈ wd_X10_makeFraction, w ∈ wd_X10_makePower := fun _ h => List.mem_cons_of_mem _ (List.mem_append_right _ (List.mem_append_right _ (List.mem_append_right _ (List.mem_append_right _ (List.mem_append_right _ (List.mem_append_right _ (List.mem_append_left _ h)))))))
  have hl := lv_entry ([.ref (ad 0), .int (nI x1), .int (nI n)]) (n := 5) (Nat.le_of_ble_eq_true rfl)
  rw [lg_entry_eq]
  generalize (lg_sl ([.ref (ad 0), .int (nI x1), .int (nI n)]) ++ List.replicate (5 - (lg_sl ([.ref (ad 0), .int (nI x1), .int (nI n)])).length) Slot.unset).toArray = ls at hl ⊢
  have hl : lv_has ls 5 [(0, .ref (ad 0)), (1, .int (nI x1)), (2, .int (nI n))] := hl
  have hF0 := hF
  obtain ⟨vf, hV, hq⟩ := hF
  have hc_1 := hV
  obtain ⟨pnz_2, lnz_2, bnz_2, hRz_2, hvz_2⟩ := hc_1
  obtain ⟨r_3, r_4, r_5, r_6, r_7, r_8, r_9⟩ := hRz_2
  obtain ⟨p_10, p_11, p_12, p_13, p_14, p_15, hpt_16⟩ := hPt
  have hPt0 : PTF cA g pt := ⟨p_10, p_11, p_12, p_13, p_14, p_15, hpt_16⟩
  obtain ⟨a0x1, a1x1, a2x1, a3x1, a4x1, a5x1, a6x1⟩ := hM x1 ix
  obtain ⟨w1x1, w2x1, w3x1, w4x1, w5x1, -, w7x1, -⟩ := hW x1 ix
  obtain ⟨z1, z2, z3⟩ := hq x1 (by omega)
  have hn9 : (vf (2 * x1)).natAbs = (pf x1).natAbs := congrArg Int.natAbs z1
  have hd9 : (vf (2 * x1 + 1)).natAbs = qf x1 := by omega
  refine lv_aload_n hx hb dX10_makePower_0 rfl (lv_at hl 0 rfl) ?_
  refine m_get (D := (dC, dI)) (v := .int (iI ft)) (C := RX10) (T := TX10) (N := 29) hx hb hts bk0 hown hK hP 0 (by decide) r_3 rfl 14 (by decide) (hts (.fieldLink RX10 146 "GradientDeskModel" "fault" "I") (List.mem_of_getElem? (i := 1) rfl)) (fun _ h9 => h9) (congrArg (fun z => some (Value.int z)) hft) dX10_makePower_1 ?_
  refine lv_if_ge (tgt := 9) hx hb dX10_makePower_4 (by decide) (fun c_17 => ?_) (fun c_17 => ?_)
  · have c_17 := (k_iLE (a := 0) (b := ft) (show nI 0 = iI 0 from by decide) rfl (by omega) (by omega)).mp c_17
    obtain rfl : ft = 0 := by omega
    refine lv_iload_n hx hb dX10_makePower_9 rfl (lv_at hl 2 rfl) ?_
    refine lv_if_ne (tgt := 20) hx hb dX10_makePower_10 (by decide) (fun c_18 => ?_) (fun c_18 => ?_)
    · have c_18 := mt (nI_eq (a := n) (b := 0) (by omega) (by decide)).mpr c_18
      refine lv_iload_n hx hb dX10_makePower_20 rfl (lv_at hl 2 rfl) ?_
      refine lv_iconst (v := nI 1) hx hb dX10_makePower_21 (by decide +kernel) ?_
      refine lv_icmp_ne (tgt := 27) hx hb dX10_makePower_22 (by decide) (fun c_19 => ?_) (fun c_19 => ?_)
      · have c_19 := mt (nI_eq (a := n) (b := 1) (by omega) (by decide)).mpr c_19
        refine lv_aload_n hx hb dX10_makePower_27 rfl (lv_at hl 0 rfl) ?_
        refine m_get (D := (dC, dI)) (v := .ref (ad 5)) (C := RX10) (T := TX10) (N := 29) hx hb hts bk0 hown hK hP 0 (by decide) r_3 rfl 7 (by decide) (hts (.fieldLink RX10 29 "GradientDeskModel" "sort" "[I") (List.mem_of_getElem? (i := 2) rfl)) (fun _ h9 => h9) rfl dX10_makePower_28 ?_
        refine lv_iload_n hx hb dX10_makePower_31 rfl (lv_at hl 1 rfl) ?_
        refine m_iald hx hb hK hP 5 (by decide) rfl p_10 (i := x1) (by omega) (by decide) dX10_makePower_32 ?_
        have b_20 := (hpt_16 0) x1
        refine lv_if_eq (tgt := 71) hx hb dX10_makePower_33 (by decide) (fun c_21 => ?_) (fun c_21 => ?_)
        · have c_21 := (k_iEQ (a := (pt 0) x1) (b := 0) rfl (show nI 0 = iI 0 from by decide) (by omega) (by omega)).mp c_21
          refine lv_aload_n hx hb dX10_makePower_71 rfl (lv_at hl 0 rfl) ?_
          refine lv_iconst (v := nI 2) hx hb dX10_makePower_72 (by decide +kernel) ?_
          refine lv_iload_n hx hb dX10_makePower_73 rfl (lv_at hl 1 rfl) ?_
          refine lv_imul hx hb dX10_makePower_74 ?_
          refine lv_topi (fun x_22 e_23 => ?_)
          obtain rfl : x_22 = nI (2 * x1) := e_23.trans (pk_mul 2 x1)
          have s0 : (gd L x1).1 = 0 := by omega
          obtain ⟨n1, n2⟩ := a6x1 s0
          obtain ⟨-, b1, b2, b3⟩ := w7x1 s0
          refine va_calli (va_runV (As := [.int (nI (2 * x1))]) (rest := []) ⟨hx, hb, hml, hown, hts⟩ (c_X10_bitsOf l dC dI A ad cA g x vf (2 * x1) hV (by omega)) (cwV 1 hts (goodIn_app (goodIn_r [Cond.methodLink RX10 117 yX10_bitsOf, Cond.instanceMethod yX10_bitsOf, Cond.selects RX10 yX10_bitsOf yX10_bitsOf, Cond.initialized RX10] [3, 4, 5, 6] rfl rfl) (goodIn_sub (fun w9 h9 => bk1 w9 h9) gw_X10_bitsOf)) rfl rfl rfl (by decide +kernel) ⟨Nat.le_of_ble_eq_true rfl, Nat.le_of_ble_eq_true rfl⟩) ⟨fun a U g mk q => ⟨q.1, q.2.1, q.2.2.1, LY.moved (u := U) (U := U.calling g mk a) (Vm.Alike.refl U.vm) q.2.2.2⟩, va_recv hK hP (ci := 13) (q0 := 0) rfl (wo_at (by decide) r_3), fun U hU hW => ⟨rfl, by rw [hU]; exact fun q h => hA q (Nat.le_trans hS.1 h), by rw [hU]; exact hP, LY.moved hW.alike hL⟩⟩ rfl rfl hl.1 rfl (lv_room (Nat.le_of_ble_eq_true rfl)) dX10_makePower_75 ⟨(Nat.le_of_ble_eq_true rfl), (Nat.le_of_ble_eq_true rfl)⟩) hS (fun q _ h => h) (fun q h => h) (fun r_24 u8 t8 H1 locs ht8 hvm8 hw_25 hB hz1 hk1 hS => ?_)
          obtain ⟨⟩ := u8
          try dsimp only at hw_25 hB
          rw [ht8] at hB
          have hP := hB
          generalize H1 = H at hP hS ⊢
          obtain rfl := hw_25
          rw [hn9]
          obtain ⟨bp, hbp⟩ : ∃ z9, z9 = bl (pf x1).natAbs := ⟨_, rfl⟩
          rw [← hbp]
          have bbp : bp ≤ 400 := by rw [hbp]; rw [n1]; omega
          refine lv_istore_n (lv' := [(3, .int (nI bp)), (0, .ref (ad 0)), (1, .int (nI x1)), (2, .int (nI n))]) hx hb dX10_makePower_78 rfl hl (by decide) rfl (fun ls hl => ?_)
          refine lv_aload_n hx hb dX10_makePower_79 rfl (lv_at hl 1 rfl) ?_
          refine lv_iconst (v := nI 2) hx hb dX10_makePower_80 (by decide +kernel) ?_
          refine lv_iload_n hx hb dX10_makePower_81 rfl (lv_at hl 2 rfl) ?_
          refine lv_imul hx hb dX10_makePower_82 ?_
          refine lv_topi (fun x_26 e_27 => ?_)
          obtain rfl : x_26 = nI (2 * x1) := e_27.trans (pk_mul 2 x1)
          refine lv_iconst (v := nI 1) hx hb dX10_makePower_83 (by decide +kernel) ?_
          refine lv_iadd hx hb dX10_makePower_84 ?_
          refine lv_topi (fun x_28 e_29 => ?_)
          obtain rfl : x_28 = nI (2 * x1 + 1) := e_29.trans (nI_add (2 * x1) 1)
          refine va_calli (va_runV (As := [.int (nI (2 * x1 + 1))]) (rest := []) ⟨hx, hb, hml, hown, hts⟩ (c_X10_bitsOf l dC dI A ad cA g x vf (2 * x1 + 1) hV (by omega)) (cwV 1 hts (goodIn_app (goodIn_r [Cond.methodLink RX10 117 yX10_bitsOf, Cond.instanceMethod yX10_bitsOf, Cond.selects RX10 yX10_bitsOf yX10_bitsOf, Cond.initialized RX10] [3, 4, 5, 6] rfl rfl) (goodIn_sub (fun w9 h9 => bk1 w9 h9) gw_X10_bitsOf)) rfl rfl rfl (by decide +kernel) ⟨Nat.le_of_ble_eq_true rfl, Nat.le_of_ble_eq_true rfl⟩) ⟨fun a U g mk q => ⟨q.1, q.2.1, q.2.2.1, LY.moved (u := U) (U := U.calling g mk a) (Vm.Alike.refl U.vm) q.2.2.2⟩, va_recv hK hP (ci := 13) (q0 := 0) rfl (wo_at (by decide) r_3), fun U hU hW => ⟨rfl, by rw [hU]; exact fun q h => hA q (Nat.le_trans hS.1 h), by rw [hU]; exact hP, LY.moved hW.alike hL⟩⟩ rfl rfl hl.1 rfl (lv_room (Nat.le_of_ble_eq_true rfl)) dX10_makePower_85 ⟨(Nat.le_of_ble_eq_true rfl), (Nat.le_of_ble_eq_true rfl)⟩) hS (fun q _ h => h) (fun q h => h) (fun r_30 u8 t8 H1 locs ht8 hvm8 hw_31 hB hz1 hk1 hS => ?_)
          obtain ⟨⟩ := u8
          try dsimp only at hw_31 hB
          rw [ht8] at hB
          have hP := hB
          generalize H1 = H at hP hS ⊢
          obtain rfl := hw_31
          rw [hd9]
          obtain ⟨bq, hbq⟩ : ∃ z9, z9 = bl (qf x1) := ⟨_, rfl⟩
          rw [← hbq]
          have bbq : bq ≤ 400 := by rw [hbq]; rw [n2]; rcases b2 with h9 | h9; rw [h9]; decide; omega
          have m1 : ((n : Nat) : Int) * (((bp : Nat) : Int) - 1) ≤ 9 * 400 ∧ -9 ≤ ((n : Nat) : Int) * (((bp : Nat) : Int) - 1) := k_nm hn bbp
          have m2 : ((n : Nat) : Int) * (((bq : Nat) : Int) - 1) ≤ 9 * 400 ∧ -9 ≤ ((n : Nat) : Int) * (((bq : Nat) : Int) - 1) := k_nm hn bbq
          refine lv_istore (lv' := [(4, .int (nI bq)), (3, .int (nI bp)), (0, .ref (ad 0)), (1, .int (nI x1)), (2, .int (nI n))]) hx hb dX10_makePower_88 hl (by decide) rfl (fun ls hl => ?_)
          refine lv_iload_n hx hb dX10_makePower_90 rfl (lv_at hl 4 rfl) ?_
          refine lv_iload_n hx hb dX10_makePower_91 rfl (lv_at hl 1 rfl) ?_
          refine lv_iconst (v := nI 1) hx hb dX10_makePower_92 (by decide +kernel) ?_
          refine lv_isub hx hb dX10_makePower_93 ?_
          refine lv_topi (fun x_32 e_33 => ?_)
          obtain rfl : x_32 = iI (((bp : Nat) : Int) - 1) := e_33.trans (iI_subP (nI_iI bp) (show nI 1 = iI 1 from by decide))
          refine lv_imul hx hb dX10_makePower_94 ?_
          refine lv_topi (fun x_34 e_35 => ?_)
          obtain rfl : x_34 = iI (((n : Nat) : Int) * (((bp : Nat) : Int) - 1)) := e_35.trans (iI_mulP (nI_iI n) rfl)
          refine lv_iconst (v := nI 1) hx hb dX10_makePower_95 (by decide +kernel) ?_
          refine lv_iadd hx hb dX10_makePower_96 ?_
          refine lv_topi (fun x_36 e_37 => ?_)
          obtain rfl : x_36 = iI ((((n : Nat) : Int) * (((bp : Nat) : Int) - 1)) + 1) := e_37.trans (iI_addP rfl (show nI 1 = iI 1 from by decide))
          refine lv_sipush (v := nI 400) hx hb dX10_makePower_97 (by decide +kernel) ?_
          refine lv_icmp_gt (tgt := 117) hx hb dX10_makePower_100 (by decide) (fun c_38 => ?_) (fun c_38 => ?_)
          · have c_38 := (k_iLT (a := 400) (b := (((n : Nat) : Int) * (((bp : Nat) : Int) - 1)) + 1) (show nI 400 = iI 400 from by decide) rfl (by omega) (by omega)).mp c_38
            refine lv_aload_n hx hb dX10_makePower_117 rfl (lv_at hl 2 rfl) ?_
            refine lv_bipush (v := -3) hx hb dX10_makePower_118 (by decide +kernel) ?_
            refine m_put (D := (dC, dI)) (v := .int (-3)) (tv := .int) (C := RX10) (T := TX10) (N := 29) hx hb hts bk0 tyX10 tyX10_ok nmX10 hown hK hP hD hS 0 (by decide) r_3 rfl 14 (by decide) (hts (.fieldLink RX10 146 "GradientDeskModel" "fault" "I") (List.mem_of_getElem? (i := 1) rfl)) (fun _ h9 => h9) rfl (by decide +kernel) rfl rfl (Nat.le_of_ble_eq_true rfl) dX10_makePower_120 (fun H locs g_39 f_40 fr_41 hP hS => ?_)
            have f_40 : g_39 0 = .inr (13, Rob ad (va_up x 4 (-3))) := f_40
            refine lv_iconst (v := -1) hx hb dX10_makePower_123 (by decide +kernel) ?_
            have hbig : onF 0 L (powL L x1 n) = (-3, L) := by rw [onF_0]; unfold powL; rw [if_neg (by omega), if_neg (by omega), if_pos s0, ← n1, ← n2]; exact k_pbig (bp := bp) (bq := bq) (Or.inl ⟨hbp, by omega⟩)
            have f_42 : g_39 5 = .inl (cA 5, 201, .inl (fun j => iI ((pt 0) j))) := (fr_41 5 (by omega)).trans p_10
            have f_43 : g_39 6 = .inl (cA 6, 201, .inl (fun j => iI ((pt 1) j))) := (fr_41 6 (by omega)).trans p_11
            have f_44 : g_39 7 = .inl (cA 7, 201, .inl (fun j => iI ((pt 2) j))) := (fr_41 7 (by omega)).trans p_12
            have f_45 : g_39 8 = .inl (cA 8, 201, .inl (fun j => iI ((pt 3) j))) := (fr_41 8 (by omega)).trans p_13
            have f_46 : g_39 9 = .inl (cA 9, 201, .inl (fun j => iI ((pt 4) j))) := (fr_41 9 (by omega)).trans p_14
            have f_47 : g_39 10 = .inl (cA 10, 201, .inl (fun j => iI ((pt 5) j))) := (fr_41 10 (by omega)).trans p_15
            refine W.widen (k := 0) (n := 0) (by omega) (by omega) ?_
            exact W.iret (v := -1) hx hb hr (fun t9 ht9 hW9 => ⟨⟨-1, (g_39, va_up x 4 (-3), pt, pf, qf), rfl, ⟨(fun (k : Nat) (hk : k ≠ 0 ∧ k ≠ 1 ∧ k ≠ 2 ∧ k ≠ 3 ∧ k ≠ 5 ∧ k ≠ 6 ∧ k ≠ 7 ∧ k ≠ 8 ∧ k ≠ 9 ∧ k ≠ 10) => (fr_41 k (by omega)).trans (rfl)), MKP.bad hbig (Or.inl rfl) (hF0.setx (fun (k : Nat) (hk : k = 1 ∨ k = 2 ∨ k = 3) => (fr_41 k (by omega)).trans (rfl)) f_40 rfl) ⟨f_42, f_43, f_44, f_45, f_46, f_47, hpt_16⟩ hM hL2 (by rw [va_up_ne _ _ (by decide)]; exact hmd) (fun j h3 h4 => va_up_ne _ _ h4) (by rw [va_up_self]; decide)⟩, by show va_P (dC, dI) vwCl _ t9.heap; rw [ht9]; exact hP⟩, hS.F ht9⟩) hS.2.2 dX10_makePower_124
          · have c_38 := mt (k_iLT (a := 400) (b := (((n : Nat) : Int) * (((bp : Nat) : Int) - 1)) + 1) (show nI 400 = iI 400 from by decide) rfl (by omega) (by omega)).mpr c_38
            refine lv_iload_n hx hb dX10_makePower_103 rfl (lv_at hl 4 rfl) ?_
            refine lv_iload hx hb dX10_makePower_104 (lv_at hl 0 rfl) ?_
            refine lv_iconst (v := nI 1) hx hb dX10_makePower_106 (by decide +kernel) ?_
            refine lv_isub hx hb dX10_makePower_107 ?_
            refine lv_topi (fun x_48 e_49 => ?_)
            obtain rfl : x_48 = iI (((bq : Nat) : Int) - 1) := e_49.trans (iI_subP (nI_iI bq) (show nI 1 = iI 1 from by decide))
            refine lv_imul hx hb dX10_makePower_108 ?_
            refine lv_topi (fun x_50 e_51 => ?_)
            obtain rfl : x_50 = iI (((n : Nat) : Int) * (((bq : Nat) : Int) - 1)) := e_51.trans (iI_mulP (nI_iI n) rfl)
            refine lv_iconst (v := nI 1) hx hb dX10_makePower_109 (by decide +kernel) ?_
            refine lv_iadd hx hb dX10_makePower_110 ?_
            refine lv_topi (fun x_52 e_53 => ?_)
            obtain rfl : x_52 = iI ((((n : Nat) : Int) * (((bq : Nat) : Int) - 1)) + 1) := e_53.trans (iI_addP rfl (show nI 1 = iI 1 from by decide))
            refine lv_sipush (v := nI 400) hx hb dX10_makePower_111 (by decide +kernel) ?_
            refine lv_icmp_le (tgt := 125) hx hb dX10_makePower_114 (by decide) (fun c_54 => ?_) (fun c_54 => ?_)
            · have c_54 := (k_iLE (a := (((n : Nat) : Int) * (((bq : Nat) : Int) - 1)) + 1) (b := 400) rfl (show nI 400 = iI 400 from by decide) (by omega) (by omega)).mp c_54
              refine lv_aload_n hx hb dX10_makePower_125 rfl (lv_at hl 2 rfl) ?_
              refine lv_sipush (v := nI 1011) hx hb dX10_makePower_126 (by decide +kernel) ?_
              refine lv_iload_n hx hb dX10_makePower_129 rfl (lv_at hl 3 rfl) ?_
              refine lv_iload_n hx hb dX10_makePower_130 rfl (lv_at hl 4 rfl) ?_
              have q1 : (pf x1).natAbs ^ n < 2 ^ 1200 := k_pw12 hbp (by omega) hn
              have q2 : qf x1 ^ n < 2 ^ 1200 := k_pw12 hbq (by omega) hn
              refine va_callv (va_runV (As := [.int (nI 1011), .int (nI x1), .int (nI n)]) (rest := []) ⟨hx, hb, hml, hown, hts⟩ (c_X10_power l dC dI A ad cA g x pf qf 1011 x1 n hF0 (by decide) (by omega) hn q1 q2) (cwV 3 hts (goodIn_app (goodIn_r [Cond.methodLink RX10 181 yX10_power, Cond.instanceMethod yX10_power, Cond.selects RX10 yX10_power yX10_power, Cond.initialized RX10] [7, 8, 9, 6] rfl rfl) (goodIn_sub (fun w9 h9 => bk2 w9 h9) gw_X10_power)) rfl rfl rfl (by decide +kernel) ⟨Nat.le_of_ble_eq_true rfl, Nat.le_of_ble_eq_true rfl⟩) ⟨fun a U g mk q => ⟨q.1, q.2.1, q.2.2.1, LY.moved (u := U) (U := U.calling g mk a) (Vm.Alike.refl U.vm) q.2.2.2⟩, va_recv hK hP (ci := 13) (q0 := 0) rfl (wo_at (by decide) r_3), fun U hU hW => ⟨rfl, by rw [hU]; exact fun q h => hA q (Nat.le_trans hS.1 h), by rw [hU]; exact hP, LY.moved hW.alike hL⟩⟩ rfl rfl hl.1 rfl (lv_room (Nat.le_of_ble_eq_true rfl)) dX10_makePower_131 ⟨(Nat.le_of_ble_eq_true rfl), (Nat.le_of_ble_eq_true rfl)⟩) hS (fun q _ h => h) (fun q h => h) (fun u8 t8 H1 locs ht8 hvm8 hw_55 hB hz1 hk1 hS => ?_)
              obtain ⟨g_56, pf2_57, qf2_58⟩ := u8
              try dsimp only at hw_55 hB
              rw [ht8] at hB
              have hP := hB
              generalize H1 = H at hP hS ⊢
              obtain ⟨fr_59, hF1, hp1, hq1, ho1⟩ := hw_55
              have f_60 : g_56 5 = .inl (cA 5, 201, .inl (fun j => iI ((pt 0) j))) := (fr_59 5 (by omega)).trans p_10
              have f_61 : g_56 6 = .inl (cA 6, 201, .inl (fun j => iI ((pt 1) j))) := (fr_59 6 (by omega)).trans p_11
              have f_62 : g_56 7 = .inl (cA 7, 201, .inl (fun j => iI ((pt 2) j))) := (fr_59 7 (by omega)).trans p_12
              have f_63 : g_56 8 = .inl (cA 8, 201, .inl (fun j => iI ((pt 3) j))) := (fr_59 8 (by omega)).trans p_13
              have f_64 : g_56 9 = .inl (cA 9, 201, .inl (fun j => iI ((pt 4) j))) := (fr_59 9 (by omega)).trans p_14
              have f_65 : g_56 10 = .inl (cA 10, 201, .inl (fun j => iI ((pt 5) j))) := (fr_59 10 (by omega)).trans p_15
              refine lv_aload_n hx hb dX10_makePower_134 rfl (lv_at hl 2 rfl) ?_
              have f_66 : g_56 0 = .inr (13, Rob ad x) := (fr_59 0 (by omega)).trans r_3
              refine va_calli (va_runV (As := []) (rest := []) ⟨hx, hb, hml, hown, hts⟩ (c_X10_makeNumber l dC dI A ad cA g_56 x pf2_57 qf2_58 pt L 0 hF1 (⟨f_60, f_61, f_62, f_63, f_64, f_65, hpt_16⟩) (hM.same (fun _ _ _ => rfl) (fun i9 hi9 => ho1 i9 (by omega) (by omega) (by omega))) hmd hL2 hft (Or.inl rfl)) (cwV 0 hts (goodIn_app (goodIn_r [Cond.methodLink RX10 164 yX10_makeNumber, Cond.instanceMethod yX10_makeNumber, Cond.selects RX10 yX10_makeNumber yX10_makeNumber, Cond.initialized RX10] [10, 11, 12, 6] rfl rfl) (goodIn_sub (fun w9 h9 => bk3 w9 h9) gw_X10_makeNumber)) rfl rfl rfl (by decide +kernel) ⟨Nat.le_of_ble_eq_true rfl, Nat.le_of_ble_eq_true rfl⟩) ⟨fun a U g mk q => ⟨q.1, q.2.1, q.2.2.1, LY.moved (u := U) (U := U.calling g mk a) (Vm.Alike.refl U.vm) q.2.2.2⟩, va_recv hK hP (ci := 13) (q0 := 0) rfl (wo_at (by decide) f_66), fun U hU hW => ⟨rfl, by rw [hU]; exact fun q h => hA q (Nat.le_trans hS.1 h), by rw [hU]; exact hP, LY.moved hW.alike hL⟩⟩ rfl rfl hl.1 rfl (lv_room (Nat.le_of_ble_eq_true rfl)) dX10_makePower_135 ⟨(Nat.le_of_ble_eq_true rfl), (Nat.le_of_ble_eq_true rfl)⟩) hS (fun q _ h => h) (fun q h => h) (fun r_67 u8 t8 H1 locs ht8 hvm8 hw_68 hB hz1 hk1 hS => ?_)
              obtain ⟨g_69, x2_70, pt2_71, pf2_72, qf2_73⟩ := u8
              try dsimp only at hw_68 hB
              rw [ht8] at hB
              have hP := hB
              generalize H1 = H at hP hS ⊢
              obtain ⟨fr_74, hK⟩ := hw_68
              rw [onF_0, hp1, hq1, n1, n2] at hK
              refine W.widen (k := 0) (n := 0) (by omega) (by omega) ?_
              exact W.iret (v := r_67) hx hb hr (fun t9 ht9 hW9 => ⟨⟨r_67, (g_69, x2_70, pt2_71, pf2_72, qf2_73), rfl, ⟨(fun (k : Nat) (hk : k ≠ 0 ∧ k ≠ 1 ∧ k ≠ 2 ∧ k ≠ 3 ∧ k ≠ 5 ∧ k ≠ 6 ∧ k ≠ 7 ∧ k ≠ 8 ∧ k ≠ 9 ∧ k ≠ 10) => (fr_74 k (by omega)).trans ((fr_59 k (by omega)).trans (rfl))), by rw [onF_0]; unfold powL; rw [if_neg (by omega), if_neg (by omega), if_pos s0]; exact hK.base (fun _ _ _ => rfl) (fun f9 h1 h2 => ho1 f9 (by omega) (by omega) (by omega))⟩, by show va_P (dC, dI) vwCl _ t9.heap; rw [ht9]; exact hP⟩, hS.F ht9⟩) hS.2.2 dX10_makePower_138
            · have c_54 := mt (k_iLE (a := (((n : Nat) : Int) * (((bq : Nat) : Int) - 1)) + 1) (b := 400) rfl (show nI 400 = iI 400 from by decide) (by omega) (by omega)).mpr c_54
              refine lv_aload_n hx hb dX10_makePower_117 rfl (lv_at hl 2 rfl) ?_
              refine lv_bipush (v := -3) hx hb dX10_makePower_118 (by decide +kernel) ?_
              refine m_put (D := (dC, dI)) (v := .int (-3)) (tv := .int) (C := RX10) (T := TX10) (N := 29) hx hb hts bk0 tyX10 tyX10_ok nmX10 hown hK hP hD hS 0 (by decide) r_3 rfl 14 (by decide) (hts (.fieldLink RX10 146 "GradientDeskModel" "fault" "I") (List.mem_of_getElem? (i := 1) rfl)) (fun _ h9 => h9) rfl (by decide +kernel) rfl rfl (Nat.le_of_ble_eq_true rfl) dX10_makePower_120 (fun H locs g_75 f_76 fr_77 hP hS => ?_)
              have f_76 : g_75 0 = .inr (13, Rob ad (va_up x 4 (-3))) := f_76
              refine lv_iconst (v := -1) hx hb dX10_makePower_123 (by decide +kernel) ?_
              have hbig : onF 0 L (powL L x1 n) = (-3, L) := by rw [onF_0]; unfold powL; rw [if_neg (by omega), if_neg (by omega), if_pos s0, ← n1, ← n2]; exact k_pbig (bp := bp) (bq := bq) (Or.inr ⟨hbq, by omega⟩)
              have f_78 : g_75 5 = .inl (cA 5, 201, .inl (fun j => iI ((pt 0) j))) := (fr_77 5 (by omega)).trans p_10
              have f_79 : g_75 6 = .inl (cA 6, 201, .inl (fun j => iI ((pt 1) j))) := (fr_77 6 (by omega)).trans p_11
              have f_80 : g_75 7 = .inl (cA 7, 201, .inl (fun j => iI ((pt 2) j))) := (fr_77 7 (by omega)).trans p_12
              have f_81 : g_75 8 = .inl (cA 8, 201, .inl (fun j => iI ((pt 3) j))) := (fr_77 8 (by omega)).trans p_13
              have f_82 : g_75 9 = .inl (cA 9, 201, .inl (fun j => iI ((pt 4) j))) := (fr_77 9 (by omega)).trans p_14
              have f_83 : g_75 10 = .inl (cA 10, 201, .inl (fun j => iI ((pt 5) j))) := (fr_77 10 (by omega)).trans p_15
              refine W.widen (k := 0) (n := 0) (by omega) (by omega) ?_
              exact W.iret (v := -1) hx hb hr (fun t9 ht9 hW9 => ⟨⟨-1, (g_75, va_up x 4 (-3), pt, pf, qf), rfl, ⟨(fun (k : Nat) (hk : k ≠ 0 ∧ k ≠ 1 ∧ k ≠ 2 ∧ k ≠ 3 ∧ k ≠ 5 ∧ k ≠ 6 ∧ k ≠ 7 ∧ k ≠ 8 ∧ k ≠ 9 ∧ k ≠ 10) => (fr_77 k (by omega)).trans (rfl)), MKP.bad hbig (Or.inl rfl) (hF0.setx (fun (k : Nat) (hk : k = 1 ∨ k = 2 ∨ k = 3) => (fr_77 k (by omega)).trans (rfl)) f_76 rfl) ⟨f_78, f_79, f_80, f_81, f_82, f_83, hpt_16⟩ hM hL2 (by rw [va_up_ne _ _ (by decide)]; exact hmd) (fun j h3 h4 => va_up_ne _ _ h4) (by rw [va_up_self]; decide)⟩, by show va_P (dC, dI) vwCl _ t9.heap; rw [ht9]; exact hP⟩, hS.F ht9⟩) hS.2.2 dX10_makePower_124
        · have c_21 := mt (k_iEQ (a := (pt 0) x1) (b := 0) rfl (show nI 0 = iI 0 from by decide) (by omega) (by omega)).mpr c_21
          refine lv_aload_n hx hb dX10_makePower_36 rfl (lv_at hl 0 rfl) ?_
          refine lv_iconst (v := nI 4) hx hb dX10_makePower_37 (by decide +kernel) ?_
          refine lv_iload_n hx hb dX10_makePower_38 rfl (lv_at hl 1 rfl) ?_
          refine lv_iload_n hx hb dX10_makePower_39 rfl (lv_at hl 2 rfl) ?_
          refine lv_iload_n hx hb dX10_makePower_40 rfl (lv_at hl 2 rfl) ?_
          refine lv_aload_n hx hb dX10_makePower_41 rfl (lv_at hl 0 rfl) ?_
          refine m_get (D := (dC, dI)) (v := .ref (ad 8)) (C := RX10) (T := TX10) (N := 29) hx hb hts bk0 hown hK hP 0 (by decide) r_3 rfl 10 (by decide) (hts (.fieldLink RX10 38 "GradientDeskModel" "degree" "[I") (List.mem_of_getElem? (i := 13) rfl)) (fun _ h9 => h9) rfl dX10_makePower_42 ?_
          refine lv_iload_n hx hb dX10_makePower_45 rfl (lv_at hl 1 rfl) ?_
          refine m_iald hx hb hK hP 8 (by decide) rfl p_13 (i := x1) (by omega) (by decide) dX10_makePower_46 ?_
          have b_84 := (hpt_16 3) x1
          refine lv_imul hx hb dX10_makePower_47 ?_
          refine lv_topi (fun x_85 e_86 => ?_)
          obtain rfl : x_85 = iI (((n : Nat) : Int) * ((pt 3) x1)) := e_86.trans (iI_mulP (nI_iI n) rfl)
          refine lv_iload_n hx hb dX10_makePower_48 rfl (lv_at hl 2 rfl) ?_
          refine lv_aload_n hx hb dX10_makePower_49 rfl (lv_at hl 0 rfl) ?_
          refine m_get (D := (dC, dI)) (v := .ref (ad 9)) (C := RX10) (T := TX10) (N := 29) hx hb hts bk0 hown hK hP 0 (by decide) r_3 rfl 11 (by decide) (hts (.fieldLink RX10 41 "GradientDeskModel" "sizeN" "[I") (List.mem_of_getElem? (i := 14) rfl)) (fun _ h9 => h9) rfl dX10_makePower_50 ?_
          refine lv_iload_n hx hb dX10_makePower_53 rfl (lv_at hl 1 rfl) ?_
          refine m_iald hx hb hK hP 9 (by decide) rfl p_14 (i := x1) (by omega) (by decide) dX10_makePower_54 ?_
          have b_87 := (hpt_16 4) x1
          refine lv_bipush (v := nI 8) hx hb dX10_makePower_55 (by decide +kernel) ?_
          refine lv_iadd hx hb dX10_makePower_57 ?_
          refine lv_topi (fun x_88 e_89 => ?_)
          obtain rfl : x_88 = iI (((pt 4) x1) + 8) := e_89.trans (iI_addP rfl (show nI 8 = iI 8 from by decide))
          refine lv_imul hx hb dX10_makePower_58 ?_
          refine lv_topi (fun x_90 e_91 => ?_)
          obtain rfl : x_90 = iI (((n : Nat) : Int) * (((pt 4) x1) + 8)) := e_91.trans (iI_mulP (nI_iI n) rfl)
          refine lv_iload_n hx hb dX10_makePower_59 rfl (lv_at hl 2 rfl) ?_
          refine lv_aload_n hx hb dX10_makePower_60 rfl (lv_at hl 0 rfl) ?_
          refine m_get (D := (dC, dI)) (v := .ref (ad 10)) (C := RX10) (T := TX10) (N := 29) hx hb hts bk0 hown hK hP 0 (by decide) r_3 rfl 12 (by decide) (hts (.fieldLink RX10 44 "GradientDeskModel" "sizeD" "[I") (List.mem_of_getElem? (i := 15) rfl)) (fun _ h9 => h9) rfl dX10_makePower_61 ?_
          refine lv_iload_n hx hb dX10_makePower_64 rfl (lv_at hl 1 rfl) ?_
          refine m_iald hx hb hK hP 10 (by decide) rfl p_15 (i := x1) (by omega) (by decide) dX10_makePower_65 ?_
          have b_92 := (hpt_16 5) x1
          refine lv_imul hx hb dX10_makePower_66 ?_
          refine lv_topi (fun x_93 e_94 => ?_)
          obtain rfl : x_93 = iI (((n : Nat) : Int) * ((pt 5) x1)) := e_94.trans (iI_mulP (nI_iI n) rfl)
          have s0 : ¬ (gd L x1).1 = 0 := by omega
          have k1 : ((n : Nat) : Int) * pt 3 x1 = ((n * (gd L x1).2.2.2.1 : Nat) : Int) := by rw [a3x1, Int.natCast_mul]
          have k2 : ((n : Nat) : Int) * (pt 4 x1 + 8) = ((n * ((gd L x1).2.2.2.2.1 + 8) : Nat) : Int) := by rw [a4x1, Int.natCast_mul]; rfl
          have k3 : ((n : Nat) : Int) * pt 5 x1 = ((n * (gd L x1).2.2.2.2.2.1 : Nat) : Int) := by rw [a5x1, Int.natCast_mul]
          have j1 : n * (gd L x1).2.2.2.1 ≤ 9 * 8 := Nat.mul_le_mul hn w2x1
          have j2 : n * ((gd L x1).2.2.2.2.1 + 8) ≤ 9 * 408 := Nat.mul_le_mul hn (by omega)
          have j3 : n * (gd L x1).2.2.2.2.2.1 ≤ 9 * 400 := Nat.mul_le_mul hn w5x1
          refine va_calli (va_runV (As := [.int (nI 4), .int (nI x1), .int (nI n), .int (iI (((n : Nat) : Int) * ((pt 3) x1))), .int (iI (((n : Nat) : Int) * (((pt 4) x1) + 8))), .int (iI (((n : Nat) : Int) * ((pt 5) x1)))]) (rest := []) ⟨hx, hb, hml, hown, hts⟩ (c_X10_describe l dC dI A ad cA g x pf qf pt L (4, ((x1 : Nat) : Int), ((n : Nat) : Int), n * (gd L x1).2.2.2.1, n * ((gd L x1).2.2.2.2.1 + 8), n * (gd L x1).2.2.2.2.2.1, 0, 1) (nI 4) (nI x1) (nI n) (iI (((n : Nat) : Int) * ((pt 3) x1))) (iI (((n : Nat) : Int) * (((pt 4) x1) + 8))) (iI (((n : Nat) : Int) * ((pt 5) x1))) 0 hF0 hPt0 hM hmd hL2 hft (Or.inl rfl) ((show nI 4 = iI 4 from by decide).trans (congrArg iI (by rfl))) ((nI_iI x1).trans (congrArg iI (by rfl))) ((nI_iI n).trans (congrArg iI (by rfl))) ((rfl : iI (((n : Nat) : Int) * ((pt 3) x1)) = _).trans (congrArg iI (by exact k1))) ((rfl : iI (((n : Nat) : Int) * (((pt 4) x1) + 8)) = _).trans (congrArg iI (by exact k2))) ((rfl : iI (((n : Nat) : Int) * ((pt 5) x1)) = _).trans (congrArg iI (by exact k3))) (fun h9 => absurd (show (4 : Nat) = 0 from h9) (by decide)) (by show 4 ≤ 20000 ∧ -1 ≤ ((x1 : Nat) : Int) ∧ ((x1 : Nat) : Int) ≤ 20000 ∧ -1 ≤ ((n : Nat) : Int) ∧ ((n : Nat) : Int) ≤ 20000 ∧ n * (gd L x1).2.2.2.1 ≤ 20000 ∧ n * ((gd L x1).2.2.2.2.1 + 8) ≤ 20000 ∧ n * (gd L x1).2.2.2.2.2.1 ≤ 20000; omega)) (cwV 6 hts (goodIn_app (goodIn_r [Cond.methodLink RX10 160 yX10_describe, Cond.instanceMethod yX10_describe, Cond.selects RX10 yX10_describe yX10_describe, Cond.initialized RX10] [16, 17, 18, 6] rfl rfl) (goodIn_sub (fun w9 h9 => bk4 w9 h9) gw_X10_describe)) rfl rfl rfl (by decide +kernel) ⟨Nat.le_of_ble_eq_true rfl, Nat.le_of_ble_eq_true rfl⟩) ⟨fun a U g mk q => ⟨q.1, q.2.1, q.2.2.1, LY.moved (u := U) (U := U.calling g mk a) (Vm.Alike.refl U.vm) q.2.2.2⟩, va_recv hK hP (ci := 13) (q0 := 0) rfl (wo_at (by decide) r_3), fun U hU hW => ⟨rfl, by rw [hU]; exact fun q h => hA q (Nat.le_trans hS.1 h), by rw [hU]; exact hP, LY.moved hW.alike hL⟩⟩ rfl rfl hl.1 rfl (lv_room (Nat.le_of_ble_eq_true rfl)) dX10_makePower_67 ⟨(Nat.le_of_ble_eq_true rfl), (Nat.le_of_ble_eq_true rfl)⟩) hS (fun q _ h => h) (fun q h => h) (fun r_95 u8 t8 H1 locs ht8 hvm8 hw_96 hB hz1 hk1 hS => ?_)
          obtain ⟨g_97, x2_98, pt2_99, pf2_100, qf2_101⟩ := u8
          try dsimp only at hw_96 hB
          rw [ht8] at hB
          have hP := hB
          generalize H1 = H at hP hS ⊢
          obtain ⟨fr_102, hK⟩ := hw_96
          refine W.widen (k := 0) (n := 0) (by omega) (by omega) ?_
          exact W.iret (v := r_95) hx hb hr (fun t9 ht9 hW9 => ⟨⟨r_95, (g_97, x2_98, pt2_99, pf2_100, qf2_101), rfl, ⟨(fun (k : Nat) (hk : k ≠ 0 ∧ k ≠ 1 ∧ k ≠ 2 ∧ k ≠ 3 ∧ k ≠ 5 ∧ k ≠ 6 ∧ k ≠ 7 ∧ k ≠ 8 ∧ k ≠ 9 ∧ k ≠ 10) => (fr_102 k (by omega)).trans (rfl)), by rw [onF_0] at hK ⊢; unfold powL; rw [if_neg (by omega), if_neg (by omega), if_neg s0]; exact hK⟩, by show va_P (dC, dI) vwCl _ t9.heap; rw [ht9]; exact hP⟩, hS.F ht9⟩) hS.2.2 dX10_makePower_70
      · have c_19 := (nI_eq (a := n) (b := 1) (by omega) (by decide)).mp c_19
        refine lv_iload_n hx hb dX10_makePower_25 rfl (lv_at hl 1 rfl) ?_
        refine W.widen (k := 0) (n := 0) (by omega) (by omega) ?_
        exact W.iret (v := nI x1) hx hb hr (fun t9 ht9 hW9 => ⟨⟨nI x1, (g, x, pt, pf, qf), rfl, ⟨(fun (k : Nat) (hk : k ≠ 0 ∧ k ≠ 1 ∧ k ≠ 2 ∧ k ≠ 3 ∧ k ≠ 5 ∧ k ≠ 6 ∧ k ≠ 7 ∧ k ≠ 8 ∧ k ≠ 9 ∧ k ≠ 10) => rfl), MKP.old (i := x1) (by rw [onF_0]; unfold powL; rw [if_neg (by omega), if_pos (by omega)]) ix hF0 hPt0 hM hL2 hmd hft⟩, by show va_P (dC, dI) vwCl _ t9.heap; rw [ht9]; exact hP⟩, hS.F ht9⟩) hS.2.2 dX10_makePower_26
    · have c_18 := (nI_eq (a := n) (b := 0) (by omega) (by decide)).mp c_18
      refine lv_aload_n hx hb dX10_makePower_13 rfl (lv_at hl 0 rfl) ?_
      refine lv_lconst (v := lN 1) hx hb dX10_makePower_14 (by decide +kernel) ?_
      refine lv_lconst (v := lN 1) hx hb dX10_makePower_15 (by decide +kernel) ?_
      refine va_calli (va_runV (As := [.long (lN 1), .long (lN 1)]) (rest := []) ⟨hx, hb, hml, hown, hts⟩ (c_X10_makeFraction l dC dI A ad cA g x pf qf pt L (lN 1) (lN 1) 1 1 0 hF0 hPt0 hM hmd hL2 hft (Or.inl rfl) (by decide) (by decide) (by decide) (by decide) (by decide)) (cwV 2 hts (goodIn_app (goodIn_r [Cond.methodLink RX10 177 yX10_makeFraction, Cond.instanceMethod yX10_makeFraction, Cond.selects RX10 yX10_makeFraction yX10_makeFraction, Cond.initialized RX10] [19, 20, 21, 6] rfl rfl) (goodIn_sub (fun w9 h9 => bk5 w9 h9) gw_X10_makeFraction)) rfl rfl rfl (by decide +kernel) ⟨Nat.le_of_ble_eq_true rfl, Nat.le_of_ble_eq_true rfl⟩) ⟨fun a U g mk q => ⟨q.1, q.2.1, q.2.2.1, LY.moved (u := U) (U := U.calling g mk a) (Vm.Alike.refl U.vm) q.2.2.2⟩, va_recv hK hP (ci := 13) (q0 := 0) rfl (wo_at (by decide) r_3), fun U hU hW => ⟨rfl, by rw [hU]; exact fun q h => hA q (Nat.le_trans hS.1 h), by rw [hU]; exact hP, LY.moved hW.alike hL⟩⟩ rfl rfl hl.1 rfl (lv_room (Nat.le_of_ble_eq_true rfl)) dX10_makePower_16 ⟨(Nat.le_of_ble_eq_true rfl), (Nat.le_of_ble_eq_true rfl)⟩) hS (fun q _ h => h) (fun q h => h) (fun r_103 u8 t8 H1 locs ht8 hvm8 hw_104 hB hz1 hk1 hS => ?_)
      obtain ⟨g_105, x2_106, pt2_107, pf2_108, qf2_109⟩ := u8
      try dsimp only at hw_104 hB
      rw [ht8] at hB
      have hP := hB
      generalize H1 = H at hP hS ⊢
      obtain ⟨fr_110, hK⟩ := hw_104
      rw [onF_0, show rdp 1 1 = 1 from by decide, show rdq 1 1 = 1 from by decide] at hK
      refine W.widen (k := 0) (n := 0) (by omega) (by omega) ?_
      exact W.iret (v := r_103) hx hb hr (fun t9 ht9 hW9 => ⟨⟨r_103, (g_105, x2_106, pt2_107, pf2_108, qf2_109), rfl, ⟨(fun (k : Nat) (hk : k ≠ 0 ∧ k ≠ 1 ∧ k ≠ 2 ∧ k ≠ 3 ∧ k ≠ 5 ∧ k ≠ 6 ∧ k ≠ 7 ∧ k ≠ 8 ∧ k ≠ 9 ∧ k ≠ 10) => (fr_110 k (by omega)).trans (rfl)), by rw [onF_0]; unfold powL; rw [if_pos (by omega)]; exact hK⟩, by show va_P (dC, dI) vwCl _ t9.heap; rw [ht9]; exact hP⟩, hS.F ht9⟩) hS.2.2 dX10_makePower_19
  · have c_17 := mt (k_iLE (a := 0) (b := ft) (show nI 0 = iI 0 from by decide) rfl (by omega) (by omega)).mpr c_17
    refine lv_iconst (v := -1) hx hb dX10_makePower_7 (by decide +kernel) ?_
    refine W.widen (k := 0) (n := 0) (by omega) (by omega) ?_
    exact W.iret (v := -1) hx hb hr (fun t9 ht9 hW9 => ⟨⟨-1, (g, x, pt, pf, qf), rfl, ⟨(fun (k : Nat) (hk : k ≠ 0 ∧ k ≠ 1 ∧ k ≠ 2 ∧ k ≠ 3 ∧ k ≠ 5 ∧ k ≠ 6 ∧ k ≠ 7 ∧ k ≠ 8 ∧ k ≠ 9 ∧ k ≠ 10) => rfl), MKP.neg (onF_neg (by omega)) (by omega) hF0 hPt0 hM hL2 hmd hft⟩, by show va_P (dC, dI) vwCl _ t9.heap; rw [ht9]; exact hP⟩, hS.F ht9⟩) hS.2.2 dX10_makePower_8
end
