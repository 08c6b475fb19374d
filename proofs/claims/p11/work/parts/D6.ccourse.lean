section
def wd_W1_base : List Cond := .code yX1_findBase cX1_findBase 3 none :: (([.fieldLink RX1 107 "GradientDesk$Part" "sort" "I", .fieldLink RX1 110 "GradientDesk$Part" "number" "LGradientDesk$Fraction;", .fieldLink RX1 92 "GradientDesk$Fraction" "bottom" "LGradientDesk$Whole;", .methodLink RX1 88 yX8_become, .instanceMethod yX8_become, .selects RX8 yX8_become yX8_become, .initialized RX8, .methodLink RX1 51 yX8_put, .instanceMethod yX8_put, .selects RX8 yX8_put yX8_put, .fieldLink RX1 20 "GradientDesk$Course" "bases" "[LGradientDesk$Whole;", .fieldLink RX1 114 "GradientDesk$Part" "first" "I", .fieldLink RX1 117 "GradientDesk$Part" "second" "I", .methodLink RX1 55 yX8_multiply, .instanceMethod yX8_multiply, .selects RX8 yX8_multiply yX8_multiply, .methodLink RX1 120 yX1_raise, .instanceMethod yX1_raise, .selects RX1 yX1_raise yX1_raise, .initialized RX1, .fieldLink RX1 37 "GradientDesk$Course" "left" "LGradientDesk$Whole;"] : List Cond) ++ (u_ws RX3 TX3 7 ++ (u_ws RX2 TX2 2 ++ (wd_X8_become ++ (wd_X8_put ++ (u_ws RX1 TX1 10 ++ (wd_X8_multiply ++ (wd_W1_raise ++ ([])))))))))
theorem gw_W1_base : wd_W1_base.all goodWord = true := k_allc rfl (k_all (by decide +kernel) (k_all (gu_X3) (k_all (gu_X2) (k_all (gw_X8_become) (k_all (gw_X8_put) (k_all (gu_X1) (k_all (gw_X8_multiply) (k_all (gw_W1_raise) (rfl)))))))))
set_option maxHeartbeats 4000000 in
set_option maxRecDepth 100000 in
theorem c_W1_base (l : Launch) (dC : Nat → ClassId) (dI : Nat → Nat → Nat) (A : Nat → Prop) (ad : Nat → Nat) (cA : Nat → ClassId) (g : Nat → va_E) (L : List PD) (i : Nat) (hC : CS ad cA g L) (hWf : WFL L) (hCr : CRS ad cA g) (hi : i < L.length) : Met l yX1_findBase wd_W1_base ({ frames := 60, cells := 0, slots := 0, locals := 1200 }) (va_Pc [.ref (ad 2090), .ref (ad (2117 + 2 * i)), .ref (ad (2 * (838 + i)))] (PR NSc tyc dC dI A ad cA g)) (va_Qv (fun (u : Nat → va_E) => match u with | g2 => (∀ k, (k < 18 ∨ 24 ≤ k) ∧ k ≠ 2 * (838 + i) ∧ k ≠ 2 * (838 + i) + 1 → g2 k = g k) ∧ AW ad cA g2) (fun (u : Nat → va_E) (t : State) => va_P (dC, dI) vwCl (wo ad NSc u) t.heap) A) (0) (0) A := by
  refine Met.ofW (cc := cX1_findBase) (maxL := 3) (ret := none) (by decide) rfl ?_
  intro p e s m args below meth c s₁ B hml hv
  obtain ⟨rfl, hA, hP, hL⟩ := hv
  have hx := B.exec
  have hb := B.bytes
  have hr := B.returns
  have hts := atoms_spec (ws := wd_W1_base) B.pre
  have hown : s.vm.findClass RX1 = some m.cls := findClass_of_methodNamed B.named
  have hlocks := B.notSynchronized
  have hK := hL.1
  have hD : ∀ g, va_D A (wo ad NSc g) := fun g => wo_D hL.2.1 hL.2.2 g
  have hS : va_S A s.heap s.heap [] := va_S.rf
  have bk0 : ∀ w ∈ u_ws RX3 TX3 7, w ∈ wd_W1_base := fun _ h => List.mem_cons_of_mem _ (List.mem_append_right _ (List.mem_append_left _ h))
  have bk1 : ∀ w ∈ u_ws RX2 TX2 2, w ∈ wd_W1_base := fun _ h => List.mem_cons_of_mem _ (List.mem_append_right _ (List.mem_append_right _ (List.mem_append_left _ h)))
  have bk2 : ∀ w ∈ wd_X8_become, w ∈ wd_W1_base := fun _ h => List.mem_cons_of_mem _ (List.mem_append_right _ (List.mem_append_right _ (List.mem_append_right _ (List.mem_append_left _ h))))
  have bk3 : ∀ w ∈ wd_X8_put, w ∈ wd_W1_base := fun _ h => List.mem_cons_of_mem _ (List.mem_append_right _ (List.mem_append_right _ (List.mem_append_right _ (List.mem_append_right _ (List.mem_append_left _ h)))))
  have bk4 : ∀ w ∈ u_ws RX1 TX1 10, w ∈ wd_W1_base := fun _ h => List.mem_cons_of_mem _ (List.mem_append_right _ (List.mem_append_right _ (List.mem_append_right _ (List.mem_append_right _ (List.mem_append_right _ (List.mem_append_left _ h))))))
  have bk5 : ∀ w ∈ wd_X8_multiply, w ∈ wd_W1_base := fun _ h => List.mem_cons_of_mem _ (List.mem_append_right _ (List.mem_append_right _ (List.mem_append_right _ (List.mem_append_right _ (List.mem_append_right _ (List.mem_append_right _ (List.mem_append_left _ h)))))))
  have bk6 : ∀ w ∈ wd_W1_raise, w ∈ wd_W1_base := fun _ h => List.mem_cons_of_mem _ (List.mem_append_right _ (List.mem_append_right _ (List.mem_append_right _ (List.mem_append_right _ (List.mem_append_right _ (List.mem_append_right _ (List.mem_append_right _ (List.mem_append_left _ h))))))))
  have hl := lv_entry ([.ref (ad 2090), .ref (ad (2117 + 2 * i)), .ref (ad (2 * (838 + i)))]) (n := 3) (Nat.le_of_ble_eq_true rfl)
  rw [lg_entry_eq]
  generalize (lg_sl ([.ref (ad 2090), .ref (ad (2117 + 2 * i)), .ref (ad (2 * (838 + i)))]) ++ List.replicate (3 - (lg_sl ([.ref (ad 2090), .ref (ad (2117 + 2 * i)), .ref (ad (2 * (838 + i)))])).length) Slot.unset).toArray = ls at hl ⊢
  have hl : lv_has ls 3 [(0, .ref (ad 2090)), (1, .ref (ad (2117 + 2 * i))), (2, .ref (ad (2 * (838 + i))))] := hl
  have hC0 := hC
  obtain ⟨hLn, hW, ⟨hAr, hWk, hPa, hFr⟩, hO, pt, hPt, hM⟩ := hC0
  unfold CSO at hO
  have hpb := hPt.2
  obtain ⟨a0i, a1i, a2i, a3i, a4i, a5i, a6i⟩ := hM i hi
  obtain ⟨w1i, w2i, w3i, w4i, w5i, -⟩ := hWf i hi
  have hpi : g (2117 + 2 * i) = .inr (6, [.ref (ad (2118 + 2 * i)), .int (nI ((gd L i).1)), .int (iI ((gd L i).2.1)), .int (iI ((gd L i).2.2.1)), .int (nI ((gd L i).2.2.2.1)), .int (nI ((gd L i).2.2.2.2.1)), .int (nI ((gd L i).2.2.2.2.2.1))]) := by rw [hPt.1 i (by clear a6i; omega), a0i, a1i, a2i, a3i, a4i, a5i, nI_iI, nI_iI, nI_iI, nI_iI]
  obtain ⟨fni, hfni⟩ : ∃ z : Prop, z = ((gd L i).1 = 0 → CMN ad cA g (gd L i) i) := ⟨_, rfl⟩
  rw [← hfni] at a6i
  have hcr9 := hCr
  obtain ⟨y0, y1, y2, y3, y4, ⟨ft, y5⟩, fh, y6⟩ := hcr9
  have hq_1 := hFr i (by omega)
  refine lv_aload_n hx hb dX1_findBase_0 rfl (lv_at hl 1 rfl) ?_
  refine m_get (D := (dC, dI)) (v := .int (nI ((gd L i).1))) (C := RX3) (T := TX3) (N := 7) hx hb hts bk0 hown hK hP (2117 + 2 * i) (ns_p (by omega)) hpi rfl 1 (by decide) (hts (.fieldLink RX1 107 "GradientDesk$Part" "sort" "I") (List.mem_of_getElem? (i := 1) rfl)) (fun _ h9 => h9) rfl dX1_findBase_1 ?_
  rcases (show ((gd L i).1) = 0 ∨ ((gd L i).1) = 1 ∨ ((gd L i).1) = 2 ∨ ((gd L i).1) = 3 ∨ ((gd L i).1) = 4 ∨ 4 < ((gd L i).1) by omega) with hsw | hsw | hsw | hsw | hsw | hsw
  · refine lv_tableIn (x := nI ((gd L i).1)) (off := 36) (tgt := 40) hx hb dX1_findBase_4 (by rw [hsw]; decide) (by rw [hsw]; decide) (by rw [hsw]; decide) (by decide) ?_
    refine lv_aload_n hx hb dX1_findBase_40 rfl (lv_at hl 2 rfl) ?_
    refine lv_aload_n hx hb dX1_findBase_41 rfl (lv_at hl 1 rfl) ?_
    refine m_get (D := (dC, dI)) (v := .ref (ad (2118 + 2 * i))) (C := RX3) (T := TX3) (N := 7) hx hb hts bk0 hown hK hP (2117 + 2 * i) (ns_p (by omega)) hpi rfl 0 (by decide) (hts (.fieldLink RX1 110 "GradientDesk$Part" "number" "LGradientDesk$Fraction;") (List.mem_of_getElem? (i := 2) rfl)) (fun _ h9 => h9) rfl dX1_findBase_42 ?_
    refine m_get (D := (dC, dI)) (v := .ref (ad (2 * (39 + 2 * i)))) (C := RX2) (T := TX2) (N := 2) hx hb hts bk1 hown hK hP (2118 + 2 * i) (ns_q (by omega)) hq_1 rfl 1 (by decide) (hts (.fieldLink RX1 92 "GradientDesk$Fraction" "bottom" "LGradientDesk$Whole;") (List.mem_of_getElem? (i := 3) rfl)) (fun _ h9 => h9) rfl dX1_findBase_45 ?_
    obtain ⟨mw_2, sw_2, nw_2, fw_2, aw_2, bw_2, cw_2, dw_2, ew_2⟩ := hW (838 + i) (by omega)
    have qw_2 : mw_2 ≤ 4096 := by rw [dw_2]; exact rmc_le _
    refine va_callv (va_runV (As := [.ref (ad (2 * (39 + 2 * i)))]) (rest := []) ⟨hx, hb, hml, hown, hts⟩ (c_X8_become l dC dI A ad cA g (838 + i) (39 + 2 * i) hW (by omega) (by omega) (by omega)) (cwV 1 hts (goodIn_app (goodIn_r [Cond.methodLink RX1 88 yX8_become, Cond.instanceMethod yX8_become, Cond.selects RX8 yX8_become yX8_become, Cond.initialized RX8] [4, 5, 6, 7] rfl rfl) (goodIn_sub (fun w9 h9 => bk2 w9 h9) gw_X8_become)) rfl rfl rfl (by decide +kernel) ⟨Nat.le_of_ble_eq_true rfl, Nat.le_of_ble_eq_true rfl⟩) ⟨fun a U g mk q => ⟨q.1, q.2.1, q.2.2.1, LY.moved (u := U) (U := U.calling g mk a) (Vm.Alike.refl U.vm) q.2.2.2⟩, va_recv hK hP (ci := 11) (q0 := (2 * (838 + i))) rfl (wo_at (ns_w (by omega)) aw_2), fun U hU hW => ⟨rfl, by rw [hU]; exact fun q h => hA q (Nat.le_trans hS.1 h), by rw [hU]; exact hP, LY.moved hW.alike hL⟩⟩ rfl rfl hl.1 rfl (lv_room (Nat.le_of_ble_eq_true rfl)) dX1_findBase_48 ⟨(Nat.le_of_ble_eq_true rfl), (Nat.le_of_ble_eq_true rfl)⟩) hS (fun q _ h => h) (fun q h => h) (fun u8 t8 H1 locs ht8 hvm8 hw_4 hB hz1 hk1 hS => ?_)
    obtain ⟨g_5, rfl⟩ : ∃ z, z = u8 := ⟨_, rfl⟩
    try dsimp only at hw_4 hB
    rw [ht8] at hB
    have hP := hB
    generalize H1 = H at hP hS ⊢
    obtain ⟨fr_6, hAW_3⟩ := hw_4
    refine lv_goto (tgt := 112) hx hb dX1_findBase_51 (by decide) ?_
    refine W.widen (k := 0) (n := 0) (by omega) (by omega) ?_
    exact W.vret hx hb hr (fun t9 ht9 hW9 => ⟨⟨g_5, rfl, ⟨(fun (k : Nat) (hk : (k < 18 ∨ 24 ≤ k) ∧ k ≠ 2 * (838 + i) ∧ k ≠ 2 * (838 + i) + 1) => (fr_6 k (by omega)).trans (rfl)), hAW_3⟩, by show va_P (dC, dI) vwCl _ t9.heap; rw [ht9]; exact hP⟩, hS.F ht9⟩) hS.2.2 dX1_findBase_112
  · refine lv_tableIn (x := nI ((gd L i).1)) (off := 50) (tgt := 54) hx hb dX1_findBase_4 (by rw [hsw]; decide) (by rw [hsw]; decide) (by rw [hsw]; decide) (by decide) ?_
    refine lv_aload_n hx hb dX1_findBase_54 rfl (lv_at hl 2 rfl) ?_
    refine lv_lconst (v := lN 1) hx hb dX1_findBase_55 (by decide +kernel) ?_
    obtain ⟨mw_7, sw_7, nw_7, fw_7, aw_7, bw_7, cw_7, dw_7, ew_7⟩ := hW (838 + i) (by omega)
    have qw_7 : mw_7 ≤ 4096 := by rw [dw_7]; exact rmc_le _
    refine va_callv (va_runV (As := [.long (lN 1)]) (rest := []) ⟨hx, hb, hml, hown, hts⟩ (c_X8_put l dC dI A ad cA g (838 + i) (lN 1) hW (by omega)) (cwV 1 hts (goodIn_app (goodIn_r [Cond.methodLink RX1 51 yX8_put, Cond.instanceMethod yX8_put, Cond.selects RX8 yX8_put yX8_put, Cond.initialized RX8] [8, 9, 10, 7] rfl rfl) (goodIn_sub (fun w9 h9 => bk3 w9 h9) gw_X8_put)) rfl rfl rfl (by decide +kernel) ⟨Nat.le_of_ble_eq_true rfl, Nat.le_of_ble_eq_true rfl⟩) ⟨fun a U g mk q => ⟨q.1, q.2.1, q.2.2.1, LY.moved (u := U) (U := U.calling g mk a) (Vm.Alike.refl U.vm) q.2.2.2⟩, va_recv hK hP (ci := 11) (q0 := (2 * (838 + i))) rfl (wo_at (ns_w (by omega)) aw_7), fun U hU hW => ⟨rfl, by rw [hU]; exact fun q h => hA q (Nat.le_trans hS.1 h), by rw [hU]; exact hP, LY.moved hW.alike hL⟩⟩ rfl rfl hl.1 rfl (lv_room (Nat.le_of_ble_eq_true rfl)) dX1_findBase_56 ⟨(Nat.le_of_ble_eq_true rfl), (Nat.le_of_ble_eq_true rfl)⟩) hS (fun q _ h => h) (fun q h => h) (fun u8 t8 H1 locs ht8 hvm8 hw_9 hB hz1 hk1 hS => ?_)
    obtain ⟨g_10, rfl⟩ : ∃ z, z = u8 := ⟨_, rfl⟩
    try dsimp only at hw_9 hB
    rw [ht8] at hB
    have hP := hB
    generalize H1 = H at hP hS ⊢
    obtain ⟨fr_11, hAW_8⟩ := hw_9
    refine lv_goto (tgt := 112) hx hb dX1_findBase_59 (by decide) ?_
    refine W.widen (k := 0) (n := 0) (by omega) (by omega) ?_
    exact W.vret hx hb hr (fun t9 ht9 hW9 => ⟨⟨g_10, rfl, ⟨(fun (k : Nat) (hk : (k < 18 ∨ 24 ≤ k) ∧ k ≠ 2 * (838 + i) ∧ k ≠ 2 * (838 + i) + 1) => (fr_11 k (by omega)).trans (rfl)), hAW_8⟩, by show va_P (dC, dI) vwCl _ t9.heap; rw [ht9]; exact hP⟩, hS.F ht9⟩) hS.2.2 dX1_findBase_112
  · refine lv_tableIn (x := nI ((gd L i).1)) (off := 86) (tgt := 90) hx hb dX1_findBase_4 (by rw [hsw]; decide) (by rw [hsw]; decide) (by rw [hsw]; decide) (by decide) ?_
    refine lv_aload_n hx hb dX1_findBase_90 rfl (lv_at hl 2 rfl) ?_
    refine lv_aload_n hx hb dX1_findBase_91 rfl (lv_at hl 0 rfl) ?_
    refine m_get (D := (dC, dI)) (v := .ref (ad 2093)) (C := RX1) (T := TX1) (N := 10) hx hb hts bk4 hown hK hP 2090 (by decide) y0 rfl 3 (by decide) (hts (.fieldLink RX1 20 "GradientDesk$Course" "bases" "[LGradientDesk$Whole;") (List.mem_of_getElem? (i := 11) rfl)) (fun _ h9 => h9) rfl dX1_findBase_92 ?_
    refine lv_aload_n hx hb dX1_findBase_95 rfl (lv_at hl 1 rfl) ?_
    refine m_get (D := (dC, dI)) (v := .int (iI ((gd L i).2.1))) (C := RX3) (T := TX3) (N := 7) hx hb hts bk0 hown hK hP (2117 + 2 * i) (ns_p (by omega)) hpi rfl 2 (by decide) (hts (.fieldLink RX1 114 "GradientDesk$Part" "first" "I") (List.mem_of_getElem? (i := 12) rfl)) (fun _ h9 => h9) rfl dX1_findBase_96 ?_
    obtain ⟨oa, hoa, eoa⟩ := hWf.op1 hi (by omega)
    refine lv_topi (fun x_12 e_13 => ?_)
    obtain rfl : x_12 = nI oa := e_13.trans (by rw [eoa]; exact (nI_iI _).symm)
    refine m_aald hx hb hK hP 2093 (by decide) rfl y3 (i := oa) (v := ad (2 * (838 + oa))) (by omega) (by decide) rfl dX1_findBase_99 ?_
    refine lv_aload_n hx hb dX1_findBase_100 rfl (lv_at hl 0 rfl) ?_
    refine m_get (D := (dC, dI)) (v := .ref (ad 2093)) (C := RX1) (T := TX1) (N := 10) hx hb hts bk4 hown hK hP 2090 (by decide) y0 rfl 3 (by decide) (hts (.fieldLink RX1 20 "GradientDesk$Course" "bases" "[LGradientDesk$Whole;") (List.mem_of_getElem? (i := 11) rfl)) (fun _ h9 => h9) rfl dX1_findBase_101 ?_
    refine lv_aload_n hx hb dX1_findBase_104 rfl (lv_at hl 1 rfl) ?_
    refine m_get (D := (dC, dI)) (v := .int (iI ((gd L i).2.2.1))) (C := RX3) (T := TX3) (N := 7) hx hb hts bk0 hown hK hP (2117 + 2 * i) (ns_p (by omega)) hpi rfl 3 (by decide) (hts (.fieldLink RX1 117 "GradientDesk$Part" "second" "I") (List.mem_of_getElem? (i := 13) rfl)) (fun _ h9 => h9) rfl dX1_findBase_105 ?_
    obtain ⟨ob, hob, eob⟩ := hWf.op2 hi (by omega)
    refine lv_topi (fun x_14 e_15 => ?_)
    obtain rfl : x_14 = nI ob := e_15.trans (by rw [eob]; exact (nI_iI _).symm)
    refine m_aald hx hb hK hP 2093 (by decide) rfl y3 (i := ob) (v := ad (2 * (838 + ob))) (by omega) (by decide) rfl dX1_findBase_108 ?_
    obtain ⟨mw_16, sw_16, nw_16, fw_16, aw_16, bw_16, cw_16, dw_16, ew_16⟩ := hW (838 + i) (by omega)
    have qw_16 : mw_16 ≤ 4096 := by rw [dw_16]; exact rmc_le _
    refine va_callv (va_runV (As := [.ref (ad (2 * (838 + oa))), .ref (ad (2 * (838 + ob)))]) (rest := []) ⟨hx, hb, hml, hown, hts⟩ (c_X8_multiply l dC dI A ad cA g (838 + i) (838 + oa) (838 + ob) hW (by omega) (by omega) (by omega) (by omega) (by omega)) (cwV 2 hts (goodIn_app (goodIn_r [Cond.methodLink RX1 55 yX8_multiply, Cond.instanceMethod yX8_multiply, Cond.selects RX8 yX8_multiply yX8_multiply, Cond.initialized RX8] [14, 15, 16, 7] rfl rfl) (goodIn_sub (fun w9 h9 => bk5 w9 h9) gw_X8_multiply)) rfl rfl rfl (by decide +kernel) ⟨Nat.le_of_ble_eq_true rfl, Nat.le_of_ble_eq_true rfl⟩) ⟨fun a U g mk q => ⟨q.1, q.2.1, q.2.2.1, LY.moved (u := U) (U := U.calling g mk a) (Vm.Alike.refl U.vm) q.2.2.2⟩, va_recv hK hP (ci := 11) (q0 := (2 * (838 + i))) rfl (wo_at (ns_w (by omega)) aw_16), fun U hU hW => ⟨rfl, by rw [hU]; exact fun q h => hA q (Nat.le_trans hS.1 h), by rw [hU]; exact hP, LY.moved hW.alike hL⟩⟩ rfl rfl hl.1 rfl (lv_room (Nat.le_of_ble_eq_true rfl)) dX1_findBase_109 ⟨(Nat.le_of_ble_eq_true rfl), (Nat.le_of_ble_eq_true rfl)⟩) hS (fun q _ h => h) (fun q h => h) (fun u8 t8 H1 locs ht8 hvm8 hw_18 hB hz1 hk1 hS => ?_)
    obtain ⟨g_19, rfl⟩ : ∃ z, z = u8 := ⟨_, rfl⟩
    try dsimp only at hw_18 hB
    rw [ht8] at hB
    have hP := hB
    generalize H1 = H at hP hS ⊢
    obtain ⟨fr_20, hAW_17⟩ := hw_18
    refine W.widen (k := 0) (n := 0) (by omega) (by omega) ?_
    exact W.vret hx hb hr (fun t9 ht9 hW9 => ⟨⟨g_19, rfl, ⟨(fun (k : Nat) (hk : (k < 18 ∨ 24 ≤ k) ∧ k ≠ 2 * (838 + i) ∧ k ≠ 2 * (838 + i) + 1) => (fr_20 k (by omega)).trans (rfl)), hAW_17⟩, by show va_P (dC, dI) vwCl _ t9.heap; rw [ht9]; exact hP⟩, hS.F ht9⟩) hS.2.2 dX1_findBase_112
  · refine lv_tableIn (x := nI ((gd L i).1)) (off := 86) (tgt := 90) hx hb dX1_findBase_4 (by rw [hsw]; decide) (by rw [hsw]; decide) (by rw [hsw]; decide) (by decide) ?_
    refine lv_aload_n hx hb dX1_findBase_90 rfl (lv_at hl 2 rfl) ?_
    refine lv_aload_n hx hb dX1_findBase_91 rfl (lv_at hl 0 rfl) ?_
    refine m_get (D := (dC, dI)) (v := .ref (ad 2093)) (C := RX1) (T := TX1) (N := 10) hx hb hts bk4 hown hK hP 2090 (by decide) y0 rfl 3 (by decide) (hts (.fieldLink RX1 20 "GradientDesk$Course" "bases" "[LGradientDesk$Whole;") (List.mem_of_getElem? (i := 11) rfl)) (fun _ h9 => h9) rfl dX1_findBase_92 ?_
    refine lv_aload_n hx hb dX1_findBase_95 rfl (lv_at hl 1 rfl) ?_
    refine m_get (D := (dC, dI)) (v := .int (iI ((gd L i).2.1))) (C := RX3) (T := TX3) (N := 7) hx hb hts bk0 hown hK hP (2117 + 2 * i) (ns_p (by omega)) hpi rfl 2 (by decide) (hts (.fieldLink RX1 114 "GradientDesk$Part" "first" "I") (List.mem_of_getElem? (i := 12) rfl)) (fun _ h9 => h9) rfl dX1_findBase_96 ?_
    obtain ⟨oa, hoa, eoa⟩ := hWf.op1 hi (by omega)
    refine lv_topi (fun x_21 e_22 => ?_)
    obtain rfl : x_21 = nI oa := e_22.trans (by rw [eoa]; exact (nI_iI _).symm)
    refine m_aald hx hb hK hP 2093 (by decide) rfl y3 (i := oa) (v := ad (2 * (838 + oa))) (by omega) (by decide) rfl dX1_findBase_99 ?_
    refine lv_aload_n hx hb dX1_findBase_100 rfl (lv_at hl 0 rfl) ?_
    refine m_get (D := (dC, dI)) (v := .ref (ad 2093)) (C := RX1) (T := TX1) (N := 10) hx hb hts bk4 hown hK hP 2090 (by decide) y0 rfl 3 (by decide) (hts (.fieldLink RX1 20 "GradientDesk$Course" "bases" "[LGradientDesk$Whole;") (List.mem_of_getElem? (i := 11) rfl)) (fun _ h9 => h9) rfl dX1_findBase_101 ?_
    refine lv_aload_n hx hb dX1_findBase_104 rfl (lv_at hl 1 rfl) ?_
    refine m_get (D := (dC, dI)) (v := .int (iI ((gd L i).2.2.1))) (C := RX3) (T := TX3) (N := 7) hx hb hts bk0 hown hK hP (2117 + 2 * i) (ns_p (by omega)) hpi rfl 3 (by decide) (hts (.fieldLink RX1 117 "GradientDesk$Part" "second" "I") (List.mem_of_getElem? (i := 13) rfl)) (fun _ h9 => h9) rfl dX1_findBase_105 ?_
    obtain ⟨ob, hob, eob⟩ := hWf.op2 hi (by omega)
    refine lv_topi (fun x_23 e_24 => ?_)
    obtain rfl : x_23 = nI ob := e_24.trans (by rw [eob]; exact (nI_iI _).symm)
    refine m_aald hx hb hK hP 2093 (by decide) rfl y3 (i := ob) (v := ad (2 * (838 + ob))) (by omega) (by decide) rfl dX1_findBase_108 ?_
    obtain ⟨mw_25, sw_25, nw_25, fw_25, aw_25, bw_25, cw_25, dw_25, ew_25⟩ := hW (838 + i) (by omega)
    have qw_25 : mw_25 ≤ 4096 := by rw [dw_25]; exact rmc_le _
    refine va_callv (va_runV (As := [.ref (ad (2 * (838 + oa))), .ref (ad (2 * (838 + ob)))]) (rest := []) ⟨hx, hb, hml, hown, hts⟩ (c_X8_multiply l dC dI A ad cA g (838 + i) (838 + oa) (838 + ob) hW (by omega) (by omega) (by omega) (by omega) (by omega)) (cwV 2 hts (goodIn_app (goodIn_r [Cond.methodLink RX1 55 yX8_multiply, Cond.instanceMethod yX8_multiply, Cond.selects RX8 yX8_multiply yX8_multiply, Cond.initialized RX8] [14, 15, 16, 7] rfl rfl) (goodIn_sub (fun w9 h9 => bk5 w9 h9) gw_X8_multiply)) rfl rfl rfl (by decide +kernel) ⟨Nat.le_of_ble_eq_true rfl, Nat.le_of_ble_eq_true rfl⟩) ⟨fun a U g mk q => ⟨q.1, q.2.1, q.2.2.1, LY.moved (u := U) (U := U.calling g mk a) (Vm.Alike.refl U.vm) q.2.2.2⟩, va_recv hK hP (ci := 11) (q0 := (2 * (838 + i))) rfl (wo_at (ns_w (by omega)) aw_25), fun U hU hW => ⟨rfl, by rw [hU]; exact fun q h => hA q (Nat.le_trans hS.1 h), by rw [hU]; exact hP, LY.moved hW.alike hL⟩⟩ rfl rfl hl.1 rfl (lv_room (Nat.le_of_ble_eq_true rfl)) dX1_findBase_109 ⟨(Nat.le_of_ble_eq_true rfl), (Nat.le_of_ble_eq_true rfl)⟩) hS (fun q _ h => h) (fun q h => h) (fun u8 t8 H1 locs ht8 hvm8 hw_27 hB hz1 hk1 hS => ?_)
    obtain ⟨g_28, rfl⟩ : ∃ z, z = u8 := ⟨_, rfl⟩
    try dsimp only at hw_27 hB
    rw [ht8] at hB
    have hP := hB
    generalize H1 = H at hP hS ⊢
    obtain ⟨fr_29, hAW_26⟩ := hw_27
    refine W.widen (k := 0) (n := 0) (by omega) (by omega) ?_
    exact W.vret hx hb hr (fun t9 ht9 hW9 => ⟨⟨g_28, rfl, ⟨(fun (k : Nat) (hk : (k < 18 ∨ 24 ≤ k) ∧ k ≠ 2 * (838 + i) ∧ k ≠ 2 * (838 + i) + 1) => (fr_29 k (by omega)).trans (rfl)), hAW_26⟩, by show va_P (dC, dI) vwCl _ t9.heap; rw [ht9]; exact hP⟩, hS.F ht9⟩) hS.2.2 dX1_findBase_112
  · refine lv_tableIn (x := nI ((gd L i).1)) (off := 58) (tgt := 62) hx hb dX1_findBase_4 (by rw [hsw]; decide) (by rw [hsw]; decide) (by rw [hsw]; decide) (by decide) ?_
    refine lv_aload_n hx hb dX1_findBase_62 rfl (lv_at hl 0 rfl) ?_
    refine lv_aload_n hx hb dX1_findBase_63 rfl (lv_at hl 0 rfl) ?_
    refine m_get (D := (dC, dI)) (v := .ref (ad 2093)) (C := RX1) (T := TX1) (N := 10) hx hb hts bk4 hown hK hP 2090 (by decide) y0 rfl 3 (by decide) (hts (.fieldLink RX1 20 "GradientDesk$Course" "bases" "[LGradientDesk$Whole;") (List.mem_of_getElem? (i := 11) rfl)) (fun _ h9 => h9) rfl dX1_findBase_64 ?_
    refine lv_aload_n hx hb dX1_findBase_67 rfl (lv_at hl 1 rfl) ?_
    refine m_get (D := (dC, dI)) (v := .int (iI ((gd L i).2.1))) (C := RX3) (T := TX3) (N := 7) hx hb hts bk0 hown hK hP (2117 + 2 * i) (ns_p (by omega)) hpi rfl 2 (by decide) (hts (.fieldLink RX1 114 "GradientDesk$Part" "first" "I") (List.mem_of_getElem? (i := 12) rfl)) (fun _ h9 => h9) rfl dX1_findBase_68 ?_
    obtain ⟨oa, hoa, eoa⟩ := hWf.op1 hi (by omega)
    refine lv_topi (fun x_30 e_31 => ?_)
    obtain rfl : x_30 = nI oa := e_31.trans (by rw [eoa]; exact (nI_iI _).symm)
    refine m_aald hx hb hK hP 2093 (by decide) rfl y3 (i := oa) (v := ad (2 * (838 + oa))) (by omega) (by decide) rfl dX1_findBase_71 ?_
    refine lv_aload_n hx hb dX1_findBase_72 rfl (lv_at hl 1 rfl) ?_
    refine m_get (D := (dC, dI)) (v := .int (iI ((gd L i).2.2.1))) (C := RX3) (T := TX3) (N := 7) hx hb hts bk0 hown hK hP (2117 + 2 * i) (ns_p (by omega)) hpi rfl 3 (by decide) (hts (.fieldLink RX1 117 "GradientDesk$Part" "second" "I") (List.mem_of_getElem? (i := 13) rfl)) (fun _ h9 => h9) rfl dX1_findBase_73 ?_
    obtain ⟨-, en, -, hen1, hen2, -, een, -⟩ := (hWf i hi).2.2.2.2.2.2.2.2.2.2 (by omega)
    refine lv_topi (fun x_32 e_33 => ?_)
    obtain rfl : x_32 = nI en := e_33.trans (by rw [een]; exact (nI_iI _).symm)
    refine va_callv (va_runV (As := [.ref (ad (2 * (838 + oa))), .int (nI en)]) (rest := []) ⟨hx, hb, hml, hown, hts⟩ (c_W1_raise l dC dI A ad cA g (838 + oa) en hW (hCr.same (fun (k : Nat) (hk : 2090 ≤ k ∧ k ≤ 2096) => rfl)) (by omega) (by omega)) (cwV 2 hts (goodIn_app (goodIn_r [Cond.methodLink RX1 120 yX1_raise, Cond.instanceMethod yX1_raise, Cond.selects RX1 yX1_raise yX1_raise, Cond.initialized RX1] [17, 18, 19, 20] rfl rfl) (goodIn_sub (fun w9 h9 => bk6 w9 h9) gw_W1_raise)) rfl rfl rfl (by decide +kernel) ⟨Nat.le_of_ble_eq_true rfl, Nat.le_of_ble_eq_true rfl⟩) ⟨fun a U g mk q => ⟨q.1, q.2.1, q.2.2.1, LY.moved (u := U) (U := U.calling g mk a) (Vm.Alike.refl U.vm) q.2.2.2⟩, va_recv hK hP (ci := 4) (q0 := 2090) rfl (wo_at (by decide) y0), fun U hU hW => ⟨rfl, by rw [hU]; exact fun q h => hA q (Nat.le_trans hS.1 h), by rw [hU]; exact hP, LY.moved hW.alike hL⟩⟩ rfl rfl hl.1 rfl (lv_room (Nat.le_of_ble_eq_true rfl)) dX1_findBase_76 ⟨(Nat.le_of_ble_eq_true rfl), (Nat.le_of_ble_eq_true rfl)⟩) hS (fun q _ h => h) (fun q h => h) (fun u8 t8 H1 locs ht8 hvm8 hw_35 hB hz1 hk1 hS => ?_)
    obtain ⟨g_36, rfl⟩ : ∃ z, z = u8 := ⟨_, rfl⟩
    try dsimp only at hw_35 hB
    rw [ht8] at hB
    have hP := hB
    generalize H1 = H at hP hS ⊢
    obtain ⟨fr_37, hAW_34⟩ := hw_35
    refine lv_aload_n hx hb dX1_findBase_79 rfl (lv_at hl 2 rfl) ?_
    refine lv_aload_n hx hb dX1_findBase_80 rfl (lv_at hl 0 rfl) ?_
    have f_38 : g_36 2090 = .inr (4, [.ref (ad 2080), .ref (ad 2091), .ref (ad 2092), .ref (ad 2093), .ref (ad 2094), .ref (ad 2095), .ref (ad 2096), .ref (ad (2 * 9)), .ref (ad (2 * 10)), .ref (ad (2 * 11))]) := (fr_37 2090 (by omega)).trans y0
    refine m_get (D := (dC, dI)) (v := .ref (ad (2 * 9))) (C := RX1) (T := TX1) (N := 10) hx hb hts bk4 hown hK hP 2090 (by decide) f_38 rfl 7 (by decide) (hts (.fieldLink RX1 37 "GradientDesk$Course" "left" "LGradientDesk$Whole;") (List.mem_of_getElem? (i := 21) rfl)) (fun _ h9 => h9) rfl dX1_findBase_81 ?_
    obtain ⟨mw_39, sw_39, nw_39, fw_39, aw_39, bw_39, cw_39, dw_39, ew_39⟩ := hAW_34 (838 + i) (by omega)
    have qw_39 : mw_39 ≤ 4096 := by rw [dw_39]; exact rmc_le _
    refine va_callv (va_runV (As := [.ref (ad (2 * 9))]) (rest := []) ⟨hx, hb, hml, hown, hts⟩ (c_X8_become l dC dI A ad cA g_36 (838 + i) 9 hAW_34 (by omega) (by omega) (by omega)) (cwV 1 hts (goodIn_app (goodIn_r [Cond.methodLink RX1 88 yX8_become, Cond.instanceMethod yX8_become, Cond.selects RX8 yX8_become yX8_become, Cond.initialized RX8] [4, 5, 6, 7] rfl rfl) (goodIn_sub (fun w9 h9 => bk2 w9 h9) gw_X8_become)) rfl rfl rfl (by decide +kernel) ⟨Nat.le_of_ble_eq_true rfl, Nat.le_of_ble_eq_true rfl⟩) ⟨fun a U g mk q => ⟨q.1, q.2.1, q.2.2.1, LY.moved (u := U) (U := U.calling g mk a) (Vm.Alike.refl U.vm) q.2.2.2⟩, va_recv hK hP (ci := 11) (q0 := (2 * (838 + i))) rfl (wo_at (ns_w (by omega)) aw_39), fun U hU hW => ⟨rfl, by rw [hU]; exact fun q h => hA q (Nat.le_trans hS.1 h), by rw [hU]; exact hP, LY.moved hW.alike hL⟩⟩ rfl rfl hl.1 rfl (lv_room (Nat.le_of_ble_eq_true rfl)) dX1_findBase_84 ⟨(Nat.le_of_ble_eq_true rfl), (Nat.le_of_ble_eq_true rfl)⟩) hS (fun q _ h => h) (fun q h => h) (fun u8 t8 H1 locs ht8 hvm8 hw_41 hB hz1 hk1 hS => ?_)
    obtain ⟨g_42, rfl⟩ : ∃ z, z = u8 := ⟨_, rfl⟩
    try dsimp only at hw_41 hB
    rw [ht8] at hB
    have hP := hB
    generalize H1 = H at hP hS ⊢
    obtain ⟨fr_43, hAW_40⟩ := hw_41
    refine lv_goto (tgt := 112) hx hb dX1_findBase_87 (by decide) ?_
    refine W.widen (k := 0) (n := 0) (by omega) (by omega) ?_
    exact W.vret hx hb hr (fun t9 ht9 hW9 => ⟨⟨g_42, rfl, ⟨(fun (k : Nat) (hk : (k < 18 ∨ 24 ≤ k) ∧ k ≠ 2 * (838 + i) ∧ k ≠ 2 * (838 + i) + 1) => (fr_43 k (by omega)).trans ((fr_37 k (by omega)).trans (rfl))), hAW_40⟩, by show va_P (dC, dI) vwCl _ t9.heap; rw [ht9]; exact hP⟩, hS.F ht9⟩) hS.2.2 dX1_findBase_112
  · refine lv_tableOut (x := nI ((gd L i).1)) (tgt := 90) hx hb dX1_findBase_4 (Or.inr (by rw [nI_toInt (by omega)]; omega)) (by decide) ?_
    refine lv_aload_n hx hb dX1_findBase_90 rfl (lv_at hl 2 rfl) ?_
    refine lv_aload_n hx hb dX1_findBase_91 rfl (lv_at hl 0 rfl) ?_
    refine m_get (D := (dC, dI)) (v := .ref (ad 2093)) (C := RX1) (T := TX1) (N := 10) hx hb hts bk4 hown hK hP 2090 (by decide) y0 rfl 3 (by decide) (hts (.fieldLink RX1 20 "GradientDesk$Course" "bases" "[LGradientDesk$Whole;") (List.mem_of_getElem? (i := 11) rfl)) (fun _ h9 => h9) rfl dX1_findBase_92 ?_
    refine lv_aload_n hx hb dX1_findBase_95 rfl (lv_at hl 1 rfl) ?_
    refine m_get (D := (dC, dI)) (v := .int (iI ((gd L i).2.1))) (C := RX3) (T := TX3) (N := 7) hx hb hts bk0 hown hK hP (2117 + 2 * i) (ns_p (by omega)) hpi rfl 2 (by decide) (hts (.fieldLink RX1 114 "GradientDesk$Part" "first" "I") (List.mem_of_getElem? (i := 12) rfl)) (fun _ h9 => h9) rfl dX1_findBase_96 ?_
    obtain ⟨oa, hoa, eoa⟩ := hWf.op1 hi (by omega)
    refine lv_topi (fun x_44 e_45 => ?_)
    obtain rfl : x_44 = nI oa := e_45.trans (by rw [eoa]; exact (nI_iI _).symm)
    refine m_aald hx hb hK hP 2093 (by decide) rfl y3 (i := oa) (v := ad (2 * (838 + oa))) (by omega) (by decide) rfl dX1_findBase_99 ?_
    refine lv_aload_n hx hb dX1_findBase_100 rfl (lv_at hl 0 rfl) ?_
    refine m_get (D := (dC, dI)) (v := .ref (ad 2093)) (C := RX1) (T := TX1) (N := 10) hx hb hts bk4 hown hK hP 2090 (by decide) y0 rfl 3 (by decide) (hts (.fieldLink RX1 20 "GradientDesk$Course" "bases" "[LGradientDesk$Whole;") (List.mem_of_getElem? (i := 11) rfl)) (fun _ h9 => h9) rfl dX1_findBase_101 ?_
    refine lv_aload_n hx hb dX1_findBase_104 rfl (lv_at hl 1 rfl) ?_
    refine m_get (D := (dC, dI)) (v := .int (iI ((gd L i).2.2.1))) (C := RX3) (T := TX3) (N := 7) hx hb hts bk0 hown hK hP (2117 + 2 * i) (ns_p (by omega)) hpi rfl 3 (by decide) (hts (.fieldLink RX1 117 "GradientDesk$Part" "second" "I") (List.mem_of_getElem? (i := 13) rfl)) (fun _ h9 => h9) rfl dX1_findBase_105 ?_
    obtain ⟨ob, hob, eob⟩ := hWf.op2 hi (by omega)
    refine lv_topi (fun x_46 e_47 => ?_)
    obtain rfl : x_46 = nI ob := e_47.trans (by rw [eob]; exact (nI_iI _).symm)
    refine m_aald hx hb hK hP 2093 (by decide) rfl y3 (i := ob) (v := ad (2 * (838 + ob))) (by omega) (by decide) rfl dX1_findBase_108 ?_
    obtain ⟨mw_48, sw_48, nw_48, fw_48, aw_48, bw_48, cw_48, dw_48, ew_48⟩ := hW (838 + i) (by omega)
    have qw_48 : mw_48 ≤ 4096 := by rw [dw_48]; exact rmc_le _
    refine va_callv (va_runV (As := [.ref (ad (2 * (838 + oa))), .ref (ad (2 * (838 + ob)))]) (rest := []) ⟨hx, hb, hml, hown, hts⟩ (c_X8_multiply l dC dI A ad cA g (838 + i) (838 + oa) (838 + ob) hW (by omega) (by omega) (by omega) (by omega) (by omega)) (cwV 2 hts (goodIn_app (goodIn_r [Cond.methodLink RX1 55 yX8_multiply, Cond.instanceMethod yX8_multiply, Cond.selects RX8 yX8_multiply yX8_multiply, Cond.initialized RX8] [14, 15, 16, 7] rfl rfl) (goodIn_sub (fun w9 h9 => bk5 w9 h9) gw_X8_multiply)) rfl rfl rfl (by decide +kernel) ⟨Nat.le_of_ble_eq_true rfl, Nat.le_of_ble_eq_true rfl⟩) ⟨fun a U g mk q => ⟨q.1, q.2.1, q.2.2.1, LY.moved (u := U) (U := U.calling g mk a) (Vm.Alike.refl U.vm) q.2.2.2⟩, va_recv hK hP (ci := 11) (q0 := (2 * (838 + i))) rfl (wo_at (ns_w (by omega)) aw_48), fun U hU hW => ⟨rfl, by rw [hU]; exact fun q h => hA q (Nat.le_trans hS.1 h), by rw [hU]; exact hP, LY.moved hW.alike hL⟩⟩ rfl rfl hl.1 rfl (lv_room (Nat.le_of_ble_eq_true rfl)) dX1_findBase_109 ⟨(Nat.le_of_ble_eq_true rfl), (Nat.le_of_ble_eq_true rfl)⟩) hS (fun q _ h => h) (fun q h => h) (fun u8 t8 H1 locs ht8 hvm8 hw_50 hB hz1 hk1 hS => ?_)
    obtain ⟨g_51, rfl⟩ : ∃ z, z = u8 := ⟨_, rfl⟩
    try dsimp only at hw_50 hB
    rw [ht8] at hB
    have hP := hB
    generalize H1 = H at hP hS ⊢
    obtain ⟨fr_52, hAW_49⟩ := hw_50
    refine W.widen (k := 0) (n := 0) (by omega) (by omega) ?_
    exact W.vret hx hb hr (fun t9 ht9 hW9 => ⟨⟨g_51, rfl, ⟨(fun (k : Nat) (hk : (k < 18 ∨ 24 ≤ k) ∧ k ≠ 2 * (838 + i) ∧ k ≠ 2 * (838 + i) + 1) => (fr_52 k (by omega)).trans (rfl)), hAW_49⟩, by show va_P (dC, dI) vwCl _ t9.heap; rw [ht9]; exact hP⟩, hS.F ht9⟩) hS.2.2 dX1_findBase_112
def wd_W1_value : List Cond := .code yX1_findValue cX1_findValue 3 none :: (([.fieldLink RX1 107 "GradientDesk$Part" "sort" "I", .fieldLink RX1 110 "GradientDesk$Part" "number" "LGradientDesk$Fraction;", .fieldLink RX1 83 "GradientDesk$Fraction" "top" "LGradientDesk$Whole;", .methodLink RX1 88 yX8_become, .instanceMethod yX8_become, .selects RX8 yX8_become yX8_become, .initialized RX8, .fieldLink RX1 26 "GradientDesk$Course" "tops" "[J", .fieldLink RX1 114 "GradientDesk$Part" "first" "I", .methodLink RX1 51 yX8_put, .instanceMethod yX8_put, .selects RX8 yX8_put yX8_put, .fieldLink RX1 11 "GradientDesk$Course" "values" "[LGradientDesk$Whole;", .methodLink RX1 124 yX1_addWidened, .instanceMethod yX1_addWidened, .selects RX1 yX1_addWidened yX1_addWidened, .initialized RX1, .fieldLink RX1 117 "GradientDesk$Part" "second" "I", .methodLink RX1 55 yX8_multiply, .instanceMethod yX8_multiply, .selects RX8 yX8_multiply yX8_multiply, .methodLink RX1 120 yX1_raise, .instanceMethod yX1_raise, .selects RX1 yX1_raise yX1_raise, .fieldLink RX1 37 "GradientDesk$Course" "left" "LGradientDesk$Whole;"] : List Cond) ++ (u_ws RX3 TX3 7 ++ (u_ws RX2 TX2 2 ++ (wd_X8_become ++ (u_ws RX1 TX1 10 ++ (wd_X8_put ++ (wd_W1_addV ++ (wd_X8_multiply ++ (wd_W1_raise ++ ([]))))))))))
theorem gw_W1_value : wd_W1_value.all goodWord = true := k_allc rfl (k_all (by decide +kernel) (k_all (gu_X3) (k_all (gu_X2) (k_all (gw_X8_become) (k_all (gu_X1) (k_all (gw_X8_put) (k_all (gw_W1_addV) (k_all (gw_X8_multiply) (k_all (gw_W1_raise) (rfl))))))))))
set_option maxHeartbeats 4000000 in
set_option maxRecDepth 100000 in
theorem c_W1_value (l : Launch) (dC : Nat → ClassId) (dI : Nat → Nat → Nat) (A : Nat → Prop) (ad : Nat → Nat) (cA : Nat → ClassId) (g : Nat → va_E) (L : List PD) (i : Nat) (hC : CS ad cA g L) (hWf : WFL L) (hCr : CRS ad cA g) (hi : i < L.length) : Met l yX1_findValue wd_W1_value ({ frames := 60, cells := 0, slots := 0, locals := 1200 }) (va_Pc [.ref (ad 2090), .ref (ad (2117 + 2 * i)), .ref (ad (2 * (438 + i)))] (PR NSc tyc dC dI A ad cA g)) (va_Qv (fun (u : Nat → va_E) => match u with | g2 => (∀ k, (k < 18 ∨ 24 ≤ k) ∧ k ≠ 2 * (438 + i) ∧ k ≠ 2 * (438 + i) + 1 → g2 k = g k) ∧ AW ad cA g2) (fun (u : Nat → va_E) (t : State) => va_P (dC, dI) vwCl (wo ad NSc u) t.heap) A) (0) (0) A := by
  refine Met.ofW (cc := cX1_findValue) (maxL := 3) (ret := none) (by decide) rfl ?_
  intro p e s m args below meth c s₁ B hml hv
  obtain ⟨rfl, hA, hP, hL⟩ := hv
  have hx := B.exec
  have hb := B.bytes
  have hr := B.returns
  have hts := atoms_spec (ws := wd_W1_value) B.pre
  have hown : s.vm.findClass RX1 = some m.cls := findClass_of_methodNamed B.named
  have hlocks := B.notSynchronized
  have hK := hL.1
  have hD : ∀ g, va_D A (wo ad NSc g) := fun g => wo_D hL.2.1 hL.2.2 g
  have hS : va_S A s.heap s.heap [] := va_S.rf
  have bk0 : ∀ w ∈ u_ws RX3 TX3 7, w ∈ wd_W1_value := fun _ h => List.mem_cons_of_mem _ (List.mem_append_right _ (List.mem_append_left _ h))
  have bk1 : ∀ w ∈ u_ws RX2 TX2 2, w ∈ wd_W1_value := fun _ h => List.mem_cons_of_mem _ (List.mem_append_right _ (List.mem_append_right _ (List.mem_append_left _ h)))
  have bk2 : ∀ w ∈ wd_X8_become, w ∈ wd_W1_value := fun _ h => List.mem_cons_of_mem _ (List.mem_append_right _ (List.mem_append_right _ (List.mem_append_right _ (List.mem_append_left _ h))))
  have bk3 : ∀ w ∈ u_ws RX1 TX1 10, w ∈ wd_W1_value := fun _ h => List.mem_cons_of_mem _ (List.mem_append_right _ (List.mem_append_right _ (List.mem_append_right _ (List.mem_append_right _ (List.mem_append_left _ h)))))
  have bk4 : ∀ w ∈ wd_X8_put, w ∈ wd_W1_value := fun _ h => List.mem_cons_of_mem _ (List.mem_append_right _ (List.mem_append_right _ (List.mem_append_right _ (List.mem_append_right _ (List.mem_append_right _ (List.mem_append_left _ h))))))
  have bk5 : ∀ w ∈ wd_W1_addV, w ∈ wd_W1_value := fun _ h => List.mem_cons_of_mem _ (List.mem_append_right _ (List.mem_append_right _ (List.mem_append_right _ (List.mem_append_right _ (List.mem_append_right _ (List.mem_append_right _ (List.mem_append_left _ h)))))))
  have bk6 : ∀ w ∈ wd_X8_multiply, w ∈ wd_W1_value := fun _ h => List.mem_cons_of_mem _ (List.mem_append_right _ (List.mem_append_right _ (List.mem_append_right _ (List.mem_append_right _ (List.mem_append_right _ (List.mem_append_right _ (List.mem_append_right _ (List.mem_append_left _ h))))))))
  have bk7 : ∀ w ∈ wd_W1_raise, w ∈ wd_W1_value := fun _ h => List.mem_cons_of_mem _ (List.mem_append_right _ (List.mem_append_right _ (List.mem_append_right _ (List.mem_append_right _ (List.mem_append_right _ (List.mem_append_right _ (List.mem_append_right _ (List.mem_append_right _ (List.mem_append_left _ h)))))))))
  have hl := lv_entry ([.ref (ad 2090), .ref (ad (2117 + 2 * i)), .ref (ad (2 * (438 + i)))]) (n := 3) (Nat.le_of_ble_eq_true rfl)
  rw [lg_entry_eq]
  generalize (lg_sl ([.ref (ad 2090), .ref (ad (2117 + 2 * i)), .ref (ad (2 * (438 + i)))]) ++ List.replicate (3 - (lg_sl ([.ref (ad 2090), .ref (ad (2117 + 2 * i)), .ref (ad (2 * (438 + i)))])).length) Slot.unset).toArray = ls at hl ⊢
  have hl : lv_has ls 3 [(0, .ref (ad 2090)), (1, .ref (ad (2117 + 2 * i))), (2, .ref (ad (2 * (438 + i))))] := hl
  have hC0 := hC
  obtain ⟨hLn, hW, ⟨hAr, hWk, hPa, hFr⟩, hO, pt, hPt, hM⟩ := hC0
  unfold CSO at hO
  have hpb := hPt.2
  obtain ⟨a0i, a1i, a2i, a3i, a4i, a5i, a6i⟩ := hM i hi
  obtain ⟨w1i, w2i, w3i, w4i, w5i, -⟩ := hWf i hi
  have hpi : g (2117 + 2 * i) = .inr (6, [.ref (ad (2118 + 2 * i)), .int (nI ((gd L i).1)), .int (iI ((gd L i).2.1)), .int (iI ((gd L i).2.2.1)), .int (nI ((gd L i).2.2.2.1)), .int (nI ((gd L i).2.2.2.2.1)), .int (nI ((gd L i).2.2.2.2.2.1))]) := by rw [hPt.1 i (by clear a6i; omega), a0i, a1i, a2i, a3i, a4i, a5i, nI_iI, nI_iI, nI_iI, nI_iI]
  obtain ⟨fni, hfni⟩ : ∃ z : Prop, z = ((gd L i).1 = 0 → CMN ad cA g (gd L i) i) := ⟨_, rfl⟩
  rw [← hfni] at a6i
  have hcr9 := hCr
  obtain ⟨y0, y1, y2, y3, y4, ⟨ft, y5⟩, fh, y6⟩ := hcr9
  have hq_1 := hFr i (by omega)
  refine lv_aload_n hx hb dX1_findValue_0 rfl (lv_at hl 1 rfl) ?_
  refine m_get (D := (dC, dI)) (v := .int (nI ((gd L i).1))) (C := RX3) (T := TX3) (N := 7) hx hb hts bk0 hown hK hP (2117 + 2 * i) (ns_p (by omega)) hpi rfl 1 (by decide) (hts (.fieldLink RX1 107 "GradientDesk$Part" "sort" "I") (List.mem_of_getElem? (i := 1) rfl)) (fun _ h9 => h9) rfl dX1_findValue_1 ?_
  rcases (show ((gd L i).1) = 0 ∨ ((gd L i).1) = 1 ∨ ((gd L i).1) = 2 ∨ ((gd L i).1) = 3 ∨ 3 < ((gd L i).1) by omega) with hsw | hsw | hsw | hsw | hsw
  · refine lv_tableIn (x := nI ((gd L i).1)) (off := 32) (tgt := 36) hx hb dX1_findValue_4 (by rw [hsw]; decide) (by rw [hsw]; decide) (by rw [hsw]; decide) (by decide) ?_
    refine lv_aload_n hx hb dX1_findValue_36 rfl (lv_at hl 2 rfl) ?_
    refine lv_aload_n hx hb dX1_findValue_37 rfl (lv_at hl 1 rfl) ?_
    refine m_get (D := (dC, dI)) (v := .ref (ad (2118 + 2 * i))) (C := RX3) (T := TX3) (N := 7) hx hb hts bk0 hown hK hP (2117 + 2 * i) (ns_p (by omega)) hpi rfl 0 (by decide) (hts (.fieldLink RX1 110 "GradientDesk$Part" "number" "LGradientDesk$Fraction;") (List.mem_of_getElem? (i := 2) rfl)) (fun _ h9 => h9) rfl dX1_findValue_38 ?_
    refine m_get (D := (dC, dI)) (v := .ref (ad (2 * (38 + 2 * i)))) (C := RX2) (T := TX2) (N := 2) hx hb hts bk1 hown hK hP (2118 + 2 * i) (ns_q (by omega)) hq_1 rfl 0 (by decide) (hts (.fieldLink RX1 83 "GradientDesk$Fraction" "top" "LGradientDesk$Whole;") (List.mem_of_getElem? (i := 3) rfl)) (fun _ h9 => h9) rfl dX1_findValue_41 ?_
    obtain ⟨mw_2, sw_2, nw_2, fw_2, aw_2, bw_2, cw_2, dw_2, ew_2⟩ := hW (438 + i) (by omega)
    have qw_2 : mw_2 ≤ 4096 := by rw [dw_2]; exact rmc_le _
    refine va_callv (va_runV (As := [.ref (ad (2 * (38 + 2 * i)))]) (rest := []) ⟨hx, hb, hml, hown, hts⟩ (c_X8_become l dC dI A ad cA g (438 + i) (38 + 2 * i) hW (by omega) (by omega) (by omega)) (cwV 1 hts (goodIn_app (goodIn_r [Cond.methodLink RX1 88 yX8_become, Cond.instanceMethod yX8_become, Cond.selects RX8 yX8_become yX8_become, Cond.initialized RX8] [4, 5, 6, 7] rfl rfl) (goodIn_sub (fun w9 h9 => bk2 w9 h9) gw_X8_become)) rfl rfl rfl (by decide +kernel) ⟨Nat.le_of_ble_eq_true rfl, Nat.le_of_ble_eq_true rfl⟩) ⟨fun a U g mk q => ⟨q.1, q.2.1, q.2.2.1, LY.moved (u := U) (U := U.calling g mk a) (Vm.Alike.refl U.vm) q.2.2.2⟩, va_recv hK hP (ci := 11) (q0 := (2 * (438 + i))) rfl (wo_at (ns_w (by omega)) aw_2), fun U hU hW => ⟨rfl, by rw [hU]; exact fun q h => hA q (Nat.le_trans hS.1 h), by rw [hU]; exact hP, LY.moved hW.alike hL⟩⟩ rfl rfl hl.1 rfl (lv_room (Nat.le_of_ble_eq_true rfl)) dX1_findValue_44 ⟨(Nat.le_of_ble_eq_true rfl), (Nat.le_of_ble_eq_true rfl)⟩) hS (fun q _ h => h) (fun q h => h) (fun u8 t8 H1 locs ht8 hvm8 hw_4 hB hz1 hk1 hS => ?_)
    obtain ⟨g_5, rfl⟩ : ∃ z, z = u8 := ⟨_, rfl⟩
    try dsimp only at hw_4 hB
    rw [ht8] at hB
    have hP := hB
    generalize H1 = H at hP hS ⊢
    obtain ⟨fr_6, hAW_3⟩ := hw_4
    refine lv_goto (tgt := 129) hx hb dX1_findValue_47 (by decide) ?_
    refine W.widen (k := 0) (n := 0) (by omega) (by omega) ?_
    exact W.vret hx hb hr (fun t9 ht9 hW9 => ⟨⟨g_5, rfl, ⟨(fun (k : Nat) (hk : (k < 18 ∨ 24 ≤ k) ∧ k ≠ 2 * (438 + i) ∧ k ≠ 2 * (438 + i) + 1) => (fr_6 k (by omega)).trans (rfl)), hAW_3⟩, by show va_P (dC, dI) vwCl _ t9.heap; rw [ht9]; exact hP⟩, hS.F ht9⟩) hS.2.2 dX1_findValue_129
  · refine lv_tableIn (x := nI ((gd L i).1)) (off := 46) (tgt := 50) hx hb dX1_findValue_4 (by rw [hsw]; decide) (by rw [hsw]; decide) (by rw [hsw]; decide) (by decide) ?_
    refine lv_aload_n hx hb dX1_findValue_50 rfl (lv_at hl 2 rfl) ?_
    refine lv_aload_n hx hb dX1_findValue_51 rfl (lv_at hl 0 rfl) ?_
    refine m_get (D := (dC, dI)) (v := .ref (ad 2095)) (C := RX1) (T := TX1) (N := 10) hx hb hts bk3 hown hK hP 2090 (by decide) y0 rfl 5 (by decide) (hts (.fieldLink RX1 26 "GradientDesk$Course" "tops" "[J") (List.mem_of_getElem? (i := 8) rfl)) (fun _ h9 => h9) rfl dX1_findValue_52 ?_
    refine lv_aload_n hx hb dX1_findValue_55 rfl (lv_at hl 1 rfl) ?_
    refine m_get (D := (dC, dI)) (v := .int (iI ((gd L i).2.1))) (C := RX3) (T := TX3) (N := 7) hx hb hts bk0 hown hK hP (2117 + 2 * i) (ns_p (by omega)) hpi rfl 2 (by decide) (hts (.fieldLink RX1 114 "GradientDesk$Part" "first" "I") (List.mem_of_getElem? (i := 9) rfl)) (fun _ h9 => h9) rfl dX1_findValue_56 ?_
    obtain ⟨vv, hvv, evv, -⟩ := (hWf i hi).2.2.2.2.2.2.2.1 (by omega)
    refine lv_topi (fun x_7 e_8 => ?_)
    obtain rfl : x_7 = nI vv := e_8.trans (by rw [evv]; exact (nI_iI _).symm)
    refine m_lald hx hb hK hP 2095 (by decide) rfl y5 (i := vv) (by omega) (by decide) dX1_findValue_59 ?_
    refine lv_topl (fun y_9 e_10 => ?_)
    obtain ⟨mw_11, sw_11, nw_11, fw_11, aw_11, bw_11, cw_11, dw_11, ew_11⟩ := hW (438 + i) (by omega)
    have qw_11 : mw_11 ≤ 4096 := by rw [dw_11]; exact rmc_le _
    refine va_callv (va_runV (As := [.long y_9]) (rest := []) ⟨hx, hb, hml, hown, hts⟩ (c_X8_put l dC dI A ad cA g (438 + i) y_9 hW (by omega)) (cwV 1 hts (goodIn_app (goodIn_r [Cond.methodLink RX1 51 yX8_put, Cond.instanceMethod yX8_put, Cond.selects RX8 yX8_put yX8_put, Cond.initialized RX8] [10, 11, 12, 7] rfl rfl) (goodIn_sub (fun w9 h9 => bk4 w9 h9) gw_X8_put)) rfl rfl rfl (by decide +kernel) ⟨Nat.le_of_ble_eq_true rfl, Nat.le_of_ble_eq_true rfl⟩) ⟨fun a U g mk q => ⟨q.1, q.2.1, q.2.2.1, LY.moved (u := U) (U := U.calling g mk a) (Vm.Alike.refl U.vm) q.2.2.2⟩, va_recv hK hP (ci := 11) (q0 := (2 * (438 + i))) rfl (wo_at (ns_w (by omega)) aw_11), fun U hU hW => ⟨rfl, by rw [hU]; exact fun q h => hA q (Nat.le_trans hS.1 h), by rw [hU]; exact hP, LY.moved hW.alike hL⟩⟩ rfl rfl hl.1 rfl (lv_room (Nat.le_of_ble_eq_true rfl)) dX1_findValue_60 ⟨(Nat.le_of_ble_eq_true rfl), (Nat.le_of_ble_eq_true rfl)⟩) hS (fun q _ h => h) (fun q h => h) (fun u8 t8 H1 locs ht8 hvm8 hw_13 hB hz1 hk1 hS => ?_)
    obtain ⟨g_14, rfl⟩ : ∃ z, z = u8 := ⟨_, rfl⟩
    try dsimp only at hw_13 hB
    rw [ht8] at hB
    have hP := hB
    generalize H1 = H at hP hS ⊢
    obtain ⟨fr_15, hAW_12⟩ := hw_13
    refine lv_goto (tgt := 129) hx hb dX1_findValue_63 (by decide) ?_
    refine W.widen (k := 0) (n := 0) (by omega) (by omega) ?_
    exact W.vret hx hb hr (fun t9 ht9 hW9 => ⟨⟨g_14, rfl, ⟨(fun (k : Nat) (hk : (k < 18 ∨ 24 ≤ k) ∧ k ≠ 2 * (438 + i) ∧ k ≠ 2 * (438 + i) + 1) => (fr_15 k (by omega)).trans (rfl)), hAW_12⟩, by show va_P (dC, dI) vwCl _ t9.heap; rw [ht9]; exact hP⟩, hS.F ht9⟩) hS.2.2 dX1_findValue_129
  · refine lv_tableIn (x := nI ((gd L i).1)) (off := 62) (tgt := 66) hx hb dX1_findValue_4 (by rw [hsw]; decide) (by rw [hsw]; decide) (by rw [hsw]; decide) (by decide) ?_
    refine lv_aload_n hx hb dX1_findValue_66 rfl (lv_at hl 0 rfl) ?_
    refine lv_aload_n hx hb dX1_findValue_67 rfl (lv_at hl 0 rfl) ?_
    refine m_get (D := (dC, dI)) (v := .ref (ad 2091)) (C := RX1) (T := TX1) (N := 10) hx hb hts bk3 hown hK hP 2090 (by decide) y0 rfl 1 (by decide) (hts (.fieldLink RX1 11 "GradientDesk$Course" "values" "[LGradientDesk$Whole;") (List.mem_of_getElem? (i := 13) rfl)) (fun _ h9 => h9) rfl dX1_findValue_68 ?_
    refine lv_aload_n hx hb dX1_findValue_71 rfl (lv_at hl 1 rfl) ?_
    refine lv_aload_n hx hb dX1_findValue_72 rfl (lv_at hl 2 rfl) ?_
    refine va_callv (va_runV (As := [.ref (ad 2091), .ref (ad (2117 + 2 * i)), .ref (ad (2 * (438 + i)))]) (rest := []) ⟨hx, hb, hml, hown, hts⟩ (c_W1_addV l dC dI A ad cA g L i (438 + i) hC hWf (hCr.same (fun (k : Nat) (hk : 2090 ≤ k ∧ k ≤ 2096) => rfl)) hi (by omega) (by omega)) (cwV 3 hts (goodIn_app (goodIn_r [Cond.methodLink RX1 124 yX1_addWidened, Cond.instanceMethod yX1_addWidened, Cond.selects RX1 yX1_addWidened yX1_addWidened, Cond.initialized RX1] [14, 15, 16, 17] rfl rfl) (goodIn_sub (fun w9 h9 => bk5 w9 h9) gw_W1_addV)) rfl rfl rfl (by decide +kernel) ⟨Nat.le_of_ble_eq_true rfl, Nat.le_of_ble_eq_true rfl⟩) ⟨fun a U g mk q => ⟨q.1, q.2.1, q.2.2.1, LY.moved (u := U) (U := U.calling g mk a) (Vm.Alike.refl U.vm) q.2.2.2⟩, va_recv hK hP (ci := 4) (q0 := 2090) rfl (wo_at (by decide) y0), fun U hU hW => ⟨rfl, by rw [hU]; exact fun q h => hA q (Nat.le_trans hS.1 h), by rw [hU]; exact hP, LY.moved hW.alike hL⟩⟩ rfl rfl hl.1 rfl (lv_room (Nat.le_of_ble_eq_true rfl)) dX1_findValue_73 ⟨(Nat.le_of_ble_eq_true rfl), (Nat.le_of_ble_eq_true rfl)⟩) hS (fun q _ h => h) (fun q h => h) (fun u8 t8 H1 locs ht8 hvm8 hw_17 hB hz1 hk1 hS => ?_)
    obtain ⟨g_18, rfl⟩ : ∃ z, z = u8 := ⟨_, rfl⟩
    try dsimp only at hw_17 hB
    rw [ht8] at hB
    have hP := hB
    generalize H1 = H at hP hS ⊢
    obtain ⟨fr_19, hAW_16⟩ := hw_17
    refine lv_goto (tgt := 129) hx hb dX1_findValue_76 (by decide) ?_
    refine W.widen (k := 0) (n := 0) (by omega) (by omega) ?_
    exact W.vret hx hb hr (fun t9 ht9 hW9 => ⟨⟨g_18, rfl, ⟨(fun (k : Nat) (hk : (k < 18 ∨ 24 ≤ k) ∧ k ≠ 2 * (438 + i) ∧ k ≠ 2 * (438 + i) + 1) => (fr_19 k (by omega)).trans (rfl)), hAW_16⟩, by show va_P (dC, dI) vwCl _ t9.heap; rw [ht9]; exact hP⟩, hS.F ht9⟩) hS.2.2 dX1_findValue_129
  · refine lv_tableIn (x := nI ((gd L i).1)) (off := 75) (tgt := 79) hx hb dX1_findValue_4 (by rw [hsw]; decide) (by rw [hsw]; decide) (by rw [hsw]; decide) (by decide) ?_
    refine lv_aload_n hx hb dX1_findValue_79 rfl (lv_at hl 2 rfl) ?_
    refine lv_aload_n hx hb dX1_findValue_80 rfl (lv_at hl 0 rfl) ?_
    refine m_get (D := (dC, dI)) (v := .ref (ad 2091)) (C := RX1) (T := TX1) (N := 10) hx hb hts bk3 hown hK hP 2090 (by decide) y0 rfl 1 (by decide) (hts (.fieldLink RX1 11 "GradientDesk$Course" "values" "[LGradientDesk$Whole;") (List.mem_of_getElem? (i := 13) rfl)) (fun _ h9 => h9) rfl dX1_findValue_81 ?_
    refine lv_aload_n hx hb dX1_findValue_84 rfl (lv_at hl 1 rfl) ?_
    refine m_get (D := (dC, dI)) (v := .int (iI ((gd L i).2.1))) (C := RX3) (T := TX3) (N := 7) hx hb hts bk0 hown hK hP (2117 + 2 * i) (ns_p (by omega)) hpi rfl 2 (by decide) (hts (.fieldLink RX1 114 "GradientDesk$Part" "first" "I") (List.mem_of_getElem? (i := 9) rfl)) (fun _ h9 => h9) rfl dX1_findValue_85 ?_
    obtain ⟨oa, hoa, eoa⟩ := hWf.op1 hi (by omega)
    refine lv_topi (fun x_20 e_21 => ?_)
    obtain rfl : x_20 = nI oa := e_21.trans (by rw [eoa]; exact (nI_iI _).symm)
    refine m_aald hx hb hK hP 2091 (by decide) rfl y1 (i := oa) (v := ad (2 * (438 + oa))) (by omega) (by decide) rfl dX1_findValue_88 ?_
    refine lv_aload_n hx hb dX1_findValue_89 rfl (lv_at hl 0 rfl) ?_
    refine m_get (D := (dC, dI)) (v := .ref (ad 2091)) (C := RX1) (T := TX1) (N := 10) hx hb hts bk3 hown hK hP 2090 (by decide) y0 rfl 1 (by decide) (hts (.fieldLink RX1 11 "GradientDesk$Course" "values" "[LGradientDesk$Whole;") (List.mem_of_getElem? (i := 13) rfl)) (fun _ h9 => h9) rfl dX1_findValue_90 ?_
    refine lv_aload_n hx hb dX1_findValue_93 rfl (lv_at hl 1 rfl) ?_
    refine m_get (D := (dC, dI)) (v := .int (iI ((gd L i).2.2.1))) (C := RX3) (T := TX3) (N := 7) hx hb hts bk0 hown hK hP (2117 + 2 * i) (ns_p (by omega)) hpi rfl 3 (by decide) (hts (.fieldLink RX1 117 "GradientDesk$Part" "second" "I") (List.mem_of_getElem? (i := 18) rfl)) (fun _ h9 => h9) rfl dX1_findValue_94 ?_
    obtain ⟨ob, hob, eob⟩ := hWf.op2 hi (by omega)
    refine lv_topi (fun x_22 e_23 => ?_)
    obtain rfl : x_22 = nI ob := e_23.trans (by rw [eob]; exact (nI_iI _).symm)
    refine m_aald hx hb hK hP 2091 (by decide) rfl y1 (i := ob) (v := ad (2 * (438 + ob))) (by omega) (by decide) rfl dX1_findValue_97 ?_
    obtain ⟨mw_24, sw_24, nw_24, fw_24, aw_24, bw_24, cw_24, dw_24, ew_24⟩ := hW (438 + i) (by omega)
    have qw_24 : mw_24 ≤ 4096 := by rw [dw_24]; exact rmc_le _
    refine va_callv (va_runV (As := [.ref (ad (2 * (438 + oa))), .ref (ad (2 * (438 + ob)))]) (rest := []) ⟨hx, hb, hml, hown, hts⟩ (c_X8_multiply l dC dI A ad cA g (438 + i) (438 + oa) (438 + ob) hW (by omega) (by omega) (by omega) (by omega) (by omega)) (cwV 2 hts (goodIn_app (goodIn_r [Cond.methodLink RX1 55 yX8_multiply, Cond.instanceMethod yX8_multiply, Cond.selects RX8 yX8_multiply yX8_multiply, Cond.initialized RX8] [19, 20, 21, 7] rfl rfl) (goodIn_sub (fun w9 h9 => bk6 w9 h9) gw_X8_multiply)) rfl rfl rfl (by decide +kernel) ⟨Nat.le_of_ble_eq_true rfl, Nat.le_of_ble_eq_true rfl⟩) ⟨fun a U g mk q => ⟨q.1, q.2.1, q.2.2.1, LY.moved (u := U) (U := U.calling g mk a) (Vm.Alike.refl U.vm) q.2.2.2⟩, va_recv hK hP (ci := 11) (q0 := (2 * (438 + i))) rfl (wo_at (ns_w (by omega)) aw_24), fun U hU hW => ⟨rfl, by rw [hU]; exact fun q h => hA q (Nat.le_trans hS.1 h), by rw [hU]; exact hP, LY.moved hW.alike hL⟩⟩ rfl rfl hl.1 rfl (lv_room (Nat.le_of_ble_eq_true rfl)) dX1_findValue_98 ⟨(Nat.le_of_ble_eq_true rfl), (Nat.le_of_ble_eq_true rfl)⟩) hS (fun q _ h => h) (fun q h => h) (fun u8 t8 H1 locs ht8 hvm8 hw_26 hB hz1 hk1 hS => ?_)
    obtain ⟨g_27, rfl⟩ : ∃ z, z = u8 := ⟨_, rfl⟩
    try dsimp only at hw_26 hB
    rw [ht8] at hB
    have hP := hB
    generalize H1 = H at hP hS ⊢
    obtain ⟨fr_28, hAW_25⟩ := hw_26
    refine lv_goto (tgt := 129) hx hb dX1_findValue_101 (by decide) ?_
    refine W.widen (k := 0) (n := 0) (by omega) (by omega) ?_
    exact W.vret hx hb hr (fun t9 ht9 hW9 => ⟨⟨g_27, rfl, ⟨(fun (k : Nat) (hk : (k < 18 ∨ 24 ≤ k) ∧ k ≠ 2 * (438 + i) ∧ k ≠ 2 * (438 + i) + 1) => (fr_28 k (by omega)).trans (rfl)), hAW_25⟩, by show va_P (dC, dI) vwCl _ t9.heap; rw [ht9]; exact hP⟩, hS.F ht9⟩) hS.2.2 dX1_findValue_129
  · refine lv_tableOut (x := nI ((gd L i).1)) (tgt := 104) hx hb dX1_findValue_4 (Or.inr (by rw [nI_toInt (by omega)]; omega)) (by decide) ?_
    refine lv_aload_n hx hb dX1_findValue_104 rfl (lv_at hl 0 rfl) ?_
    refine lv_aload_n hx hb dX1_findValue_105 rfl (lv_at hl 0 rfl) ?_
    refine m_get (D := (dC, dI)) (v := .ref (ad 2091)) (C := RX1) (T := TX1) (N := 10) hx hb hts bk3 hown hK hP 2090 (by decide) y0 rfl 1 (by decide) (hts (.fieldLink RX1 11 "GradientDesk$Course" "values" "[LGradientDesk$Whole;") (List.mem_of_getElem? (i := 13) rfl)) (fun _ h9 => h9) rfl dX1_findValue_106 ?_
    refine lv_aload_n hx hb dX1_findValue_109 rfl (lv_at hl 1 rfl) ?_
    refine m_get (D := (dC, dI)) (v := .int (iI ((gd L i).2.1))) (C := RX3) (T := TX3) (N := 7) hx hb hts bk0 hown hK hP (2117 + 2 * i) (ns_p (by omega)) hpi rfl 2 (by decide) (hts (.fieldLink RX1 114 "GradientDesk$Part" "first" "I") (List.mem_of_getElem? (i := 9) rfl)) (fun _ h9 => h9) rfl dX1_findValue_110 ?_
    obtain ⟨oa, hoa, eoa⟩ := hWf.op1 hi (by omega)
    refine lv_topi (fun x_29 e_30 => ?_)
    obtain rfl : x_29 = nI oa := e_30.trans (by rw [eoa]; exact (nI_iI _).symm)
    refine m_aald hx hb hK hP 2091 (by decide) rfl y1 (i := oa) (v := ad (2 * (438 + oa))) (by omega) (by decide) rfl dX1_findValue_113 ?_
    refine lv_aload_n hx hb dX1_findValue_114 rfl (lv_at hl 1 rfl) ?_
    refine m_get (D := (dC, dI)) (v := .int (iI ((gd L i).2.2.1))) (C := RX3) (T := TX3) (N := 7) hx hb hts bk0 hown hK hP (2117 + 2 * i) (ns_p (by omega)) hpi rfl 3 (by decide) (hts (.fieldLink RX1 117 "GradientDesk$Part" "second" "I") (List.mem_of_getElem? (i := 18) rfl)) (fun _ h9 => h9) rfl dX1_findValue_115 ?_
    obtain ⟨-, en, -, hen1, hen2, -, een, -⟩ := (hWf i hi).2.2.2.2.2.2.2.2.2.2 (by omega)
    refine lv_topi (fun x_31 e_32 => ?_)
    obtain rfl : x_31 = nI en := e_32.trans (by rw [een]; exact (nI_iI _).symm)
    refine va_callv (va_runV (As := [.ref (ad (2 * (438 + oa))), .int (nI en)]) (rest := []) ⟨hx, hb, hml, hown, hts⟩ (c_W1_raise l dC dI A ad cA g (438 + oa) en hW (hCr.same (fun (k : Nat) (hk : 2090 ≤ k ∧ k ≤ 2096) => rfl)) (by omega) (by omega)) (cwV 2 hts (goodIn_app (goodIn_r [Cond.methodLink RX1 120 yX1_raise, Cond.instanceMethod yX1_raise, Cond.selects RX1 yX1_raise yX1_raise, Cond.initialized RX1] [22, 23, 24, 17] rfl rfl) (goodIn_sub (fun w9 h9 => bk7 w9 h9) gw_W1_raise)) rfl rfl rfl (by decide +kernel) ⟨Nat.le_of_ble_eq_true rfl, Nat.le_of_ble_eq_true rfl⟩) ⟨fun a U g mk q => ⟨q.1, q.2.1, q.2.2.1, LY.moved (u := U) (U := U.calling g mk a) (Vm.Alike.refl U.vm) q.2.2.2⟩, va_recv hK hP (ci := 4) (q0 := 2090) rfl (wo_at (by decide) y0), fun U hU hW => ⟨rfl, by rw [hU]; exact fun q h => hA q (Nat.le_trans hS.1 h), by rw [hU]; exact hP, LY.moved hW.alike hL⟩⟩ rfl rfl hl.1 rfl (lv_room (Nat.le_of_ble_eq_true rfl)) dX1_findValue_118 ⟨(Nat.le_of_ble_eq_true rfl), (Nat.le_of_ble_eq_true rfl)⟩) hS (fun q _ h => h) (fun q h => h) (fun u8 t8 H1 locs ht8 hvm8 hw_34 hB hz1 hk1 hS => ?_)
    obtain ⟨g_35, rfl⟩ : ∃ z, z = u8 := ⟨_, rfl⟩
    try dsimp only at hw_34 hB
    rw [ht8] at hB
    have hP := hB
    generalize H1 = H at hP hS ⊢
    obtain ⟨fr_36, hAW_33⟩ := hw_34
    refine lv_aload_n hx hb dX1_findValue_121 rfl (lv_at hl 2 rfl) ?_
    refine lv_aload_n hx hb dX1_findValue_122 rfl (lv_at hl 0 rfl) ?_
    have f_37 : g_35 2090 = .inr (4, [.ref (ad 2080), .ref (ad 2091), .ref (ad 2092), .ref (ad 2093), .ref (ad 2094), .ref (ad 2095), .ref (ad 2096), .ref (ad (2 * 9)), .ref (ad (2 * 10)), .ref (ad (2 * 11))]) := (fr_36 2090 (by omega)).trans y0
    refine m_get (D := (dC, dI)) (v := .ref (ad (2 * 9))) (C := RX1) (T := TX1) (N := 10) hx hb hts bk3 hown hK hP 2090 (by decide) f_37 rfl 7 (by decide) (hts (.fieldLink RX1 37 "GradientDesk$Course" "left" "LGradientDesk$Whole;") (List.mem_of_getElem? (i := 25) rfl)) (fun _ h9 => h9) rfl dX1_findValue_123 ?_
    obtain ⟨mw_38, sw_38, nw_38, fw_38, aw_38, bw_38, cw_38, dw_38, ew_38⟩ := hAW_33 (438 + i) (by omega)
    have qw_38 : mw_38 ≤ 4096 := by rw [dw_38]; exact rmc_le _
    refine va_callv (va_runV (As := [.ref (ad (2 * 9))]) (rest := []) ⟨hx, hb, hml, hown, hts⟩ (c_X8_become l dC dI A ad cA g_35 (438 + i) 9 hAW_33 (by omega) (by omega) (by omega)) (cwV 1 hts (goodIn_app (goodIn_r [Cond.methodLink RX1 88 yX8_become, Cond.instanceMethod yX8_become, Cond.selects RX8 yX8_become yX8_become, Cond.initialized RX8] [4, 5, 6, 7] rfl rfl) (goodIn_sub (fun w9 h9 => bk2 w9 h9) gw_X8_become)) rfl rfl rfl (by decide +kernel) ⟨Nat.le_of_ble_eq_true rfl, Nat.le_of_ble_eq_true rfl⟩) ⟨fun a U g mk q => ⟨q.1, q.2.1, q.2.2.1, LY.moved (u := U) (U := U.calling g mk a) (Vm.Alike.refl U.vm) q.2.2.2⟩, va_recv hK hP (ci := 11) (q0 := (2 * (438 + i))) rfl (wo_at (ns_w (by omega)) aw_38), fun U hU hW => ⟨rfl, by rw [hU]; exact fun q h => hA q (Nat.le_trans hS.1 h), by rw [hU]; exact hP, LY.moved hW.alike hL⟩⟩ rfl rfl hl.1 rfl (lv_room (Nat.le_of_ble_eq_true rfl)) dX1_findValue_126 ⟨(Nat.le_of_ble_eq_true rfl), (Nat.le_of_ble_eq_true rfl)⟩) hS (fun q _ h => h) (fun q h => h) (fun u8 t8 H1 locs ht8 hvm8 hw_40 hB hz1 hk1 hS => ?_)
    obtain ⟨g_41, rfl⟩ : ∃ z, z = u8 := ⟨_, rfl⟩
    try dsimp only at hw_40 hB
    rw [ht8] at hB
    have hP := hB
    generalize H1 = H at hP hS ⊢
    obtain ⟨fr_42, hAW_39⟩ := hw_40
    refine W.widen (k := 0) (n := 0) (by omega) (by omega) ?_
    exact W.vret hx hb hr (fun t9 ht9 hW9 => ⟨⟨g_41, rfl, ⟨(fun (k : Nat) (hk : (k < 18 ∨ 24 ≤ k) ∧ k ≠ 2 * (438 + i) ∧ k ≠ 2 * (438 + i) + 1) => (fr_42 k (by omega)).trans ((fr_36 k (by omega)).trans (rfl))), hAW_39⟩, by show va_P (dC, dI) vwCl _ t9.heap; rw [ht9]; exact hP⟩, hS.F ht9⟩) hS.2.2 dX1_findValue_129
def wd_W1_slope : List Cond := .code yX1_findSlope cX1_findSlope 3 none :: (([.fieldLink RX1 107 "GradientDesk$Part" "sort" "I", .methodLink RX1 51 yX8_put, .instanceMethod yX8_put, .selects RX8 yX8_put yX8_put, .initialized RX8, .fieldLink RX1 30 "GradientDesk$Course" "heading" "[I", .fieldLink RX1 114 "GradientDesk$Part" "first" "I", .fieldLink RX1 17 "GradientDesk$Course" "slopes" "[LGradientDesk$Whole;", .methodLink RX1 124 yX1_addWidened, .instanceMethod yX1_addWidened, .selects RX1 yX1_addWidened yX1_addWidened, .initialized RX1, .fieldLink RX1 37 "GradientDesk$Course" "left" "LGradientDesk$Whole;", .fieldLink RX1 11 "GradientDesk$Course" "values" "[LGradientDesk$Whole;", .fieldLink RX1 117 "GradientDesk$Part" "second" "I", .methodLink RX1 55 yX8_multiply, .instanceMethod yX8_multiply, .selects RX8 yX8_multiply yX8_multiply, .fieldLink RX1 41 "GradientDesk$Course" "right" "LGradientDesk$Whole;", .methodLink RX1 128 yX8_add, .instanceMethod yX8_add, .selects RX8 yX8_add yX8_add, .methodLink RX1 120 yX1_raise, .instanceMethod yX1_raise, .selects RX1 yX1_raise yX1_raise, .fieldLink RX1 44 "GradientDesk$Course" "hold" "LGradientDesk$Whole;"] : List Cond) ++ (u_ws RX3 TX3 7 ++ (wd_X8_put ++ (u_ws RX1 TX1 10 ++ (wd_W1_addS ++ (wd_X8_multiply ++ (wd_X8_add ++ (wd_W1_raise ++ ([])))))))))
theorem gw_W1_slope : wd_W1_slope.all goodWord = true := k_allc rfl (k_all (by decide +kernel) (k_all (gu_X3) (k_all (gw_X8_put) (k_all (gu_X1) (k_all (gw_W1_addS) (k_all (gw_X8_multiply) (k_all (gw_X8_add) (k_all (gw_W1_raise) (rfl)))))))))
set_option maxHeartbeats 4000000 in
set_option maxRecDepth 100000 in
theorem c_W1_slope (l : Launch) (dC : Nat → ClassId) (dI : Nat → Nat → Nat) (A : Nat → Prop) (ad : Nat → Nat) (cA : Nat → ClassId) (g : Nat → va_E) (L : List PD) (i : Nat) (hC : CS ad cA g L) (hWf : WFL L) (hCr : CRS ad cA g) (hi : i < L.length) : Met l yX1_findSlope wd_W1_slope ({ frames := 60, cells := 0, slots := 0, locals := 1200 }) (va_Pc [.ref (ad 2090), .ref (ad (2117 + 2 * i)), .ref (ad (2 * (638 + i)))] (PR NSc tyc dC dI A ad cA g)) (va_Qv (fun (u : Nat → va_E) => match u with | g2 => (∀ k, (k < 18 ∨ 24 ≤ k) ∧ k ≠ 2 * (638 + i) ∧ k ≠ 2 * (638 + i) + 1 → g2 k = g k) ∧ AW ad cA g2) (fun (u : Nat → va_E) (t : State) => va_P (dC, dI) vwCl (wo ad NSc u) t.heap) A) (0) (0) A := by
  refine Met.ofW (cc := cX1_findSlope) (maxL := 3) (ret := none) (by decide) rfl ?_
  intro p e s m args below meth c s₁ B hml hv
  obtain ⟨rfl, hA, hP, hL⟩ := hv
  have hx := B.exec
  have hb := B.bytes
  have hr := B.returns
  have hts := atoms_spec (ws := wd_W1_slope) B.pre
  have hown : s.vm.findClass RX1 = some m.cls := findClass_of_methodNamed B.named
  have hlocks := B.notSynchronized
  have hK := hL.1
  have hD : ∀ g, va_D A (wo ad NSc g) := fun g => wo_D hL.2.1 hL.2.2 g
  have hS : va_S A s.heap s.heap [] := va_S.rf
  have bk0 : ∀ w ∈ u_ws RX3 TX3 7, w ∈ wd_W1_slope := fun _ h => List.mem_cons_of_mem _ (List.mem_append_right _ (List.mem_append_left _ h))
  have bk1 : ∀ w ∈ wd_X8_put, w ∈ wd_W1_slope := fun _ h => List.mem_cons_of_mem _ (List.mem_append_right _ (List.mem_append_right _ (List.mem_append_left _ h)))
  have bk2 : ∀ w ∈ u_ws RX1 TX1 10, w ∈ wd_W1_slope := fun _ h => List.mem_cons_of_mem _ (List.mem_append_right _ (List.mem_append_right _ (List.mem_append_right _ (List.mem_append_left _ h))))
  have bk3 : ∀ w ∈ wd_W1_addS, w ∈ wd_W1_slope := fun _ h => List.mem_cons_of_mem _ (List.mem_append_right _ (List.mem_append_right _ (List.mem_append_right _ (List.mem_append_right _ (List.mem_append_left _ h)))))
  have bk4 : ∀ w ∈ wd_X8_multiply, w ∈ wd_W1_slope := fun _ h => List.mem_cons_of_mem _ (List.mem_append_right _ (List.mem_append_right _ (List.mem_append_right _ (List.mem_append_right _ (List.mem_append_right _ (List.mem_append_left _ h))))))
  have bk5 : ∀ w ∈ wd_X8_add, w ∈ wd_W1_slope := fun _ h => List.mem_cons_of_mem _ (List.mem_append_right _ (List.mem_append_right _ (List.mem_append_right _ (List.mem_append_right _ (List.mem_append_right _ (List.mem_append_right _ (List.mem_append_left _ h)))))))
  have bk6 : ∀ w ∈ wd_W1_raise, w ∈ wd_W1_slope := fun _ h => List.mem_cons_of_mem _ (List.mem_append_right _ (List.mem_append_right _ (List.mem_append_right _ (List.mem_append_right _ (List.mem_append_right _ (List.mem_append_right _ (List.mem_append_right _ (List.mem_append_left _ h))))))))
  have hl := lv_entry ([.ref (ad 2090), .ref (ad (2117 + 2 * i)), .ref (ad (2 * (638 + i)))]) (n := 3) (Nat.le_of_ble_eq_true rfl)
  rw [lg_entry_eq]
  generalize (lg_sl ([.ref (ad 2090), .ref (ad (2117 + 2 * i)), .ref (ad (2 * (638 + i)))]) ++ List.replicate (3 - (lg_sl ([.ref (ad 2090), .ref (ad (2117 + 2 * i)), .ref (ad (2 * (638 + i)))])).length) Slot.unset).toArray = ls at hl ⊢
  have hl : lv_has ls 3 [(0, .ref (ad 2090)), (1, .ref (ad (2117 + 2 * i))), (2, .ref (ad (2 * (638 + i))))] := hl
  have hC0 := hC
  obtain ⟨hLn, hW, ⟨hAr, hWk, hPa, hFr⟩, hO, pt, hPt, hM⟩ := hC0
  unfold CSO at hO
  have hpb := hPt.2
  obtain ⟨a0i, a1i, a2i, a3i, a4i, a5i, a6i⟩ := hM i hi
  obtain ⟨w1i, w2i, w3i, w4i, w5i, -⟩ := hWf i hi
  have hpi : g (2117 + 2 * i) = .inr (6, [.ref (ad (2118 + 2 * i)), .int (nI ((gd L i).1)), .int (iI ((gd L i).2.1)), .int (iI ((gd L i).2.2.1)), .int (nI ((gd L i).2.2.2.1)), .int (nI ((gd L i).2.2.2.2.1)), .int (nI ((gd L i).2.2.2.2.2.1))]) := by rw [hPt.1 i (by clear a6i; omega), a0i, a1i, a2i, a3i, a4i, a5i, nI_iI, nI_iI, nI_iI, nI_iI]
  obtain ⟨fni, hfni⟩ : ∃ z : Prop, z = ((gd L i).1 = 0 → CMN ad cA g (gd L i) i) := ⟨_, rfl⟩
  rw [← hfni] at a6i
  have hcr9 := hCr
  obtain ⟨y0, y1, y2, y3, y4, ⟨ft, y5⟩, fh, y6⟩ := hcr9
  have hq_1 := hFr i (by omega)
  refine lv_aload_n hx hb dX1_findSlope_0 rfl (lv_at hl 1 rfl) ?_
  refine m_get (D := (dC, dI)) (v := .int (nI ((gd L i).1))) (C := RX3) (T := TX3) (N := 7) hx hb hts bk0 hown hK hP (2117 + 2 * i) (ns_p (by omega)) hpi rfl 1 (by decide) (hts (.fieldLink RX1 107 "GradientDesk$Part" "sort" "I") (List.mem_of_getElem? (i := 1) rfl)) (fun _ h9 => h9) rfl dX1_findSlope_1 ?_
  rcases (show ((gd L i).1) = 0 ∨ ((gd L i).1) = 1 ∨ ((gd L i).1) = 2 ∨ ((gd L i).1) = 3 ∨ 3 < ((gd L i).1) by omega) with hsw | hsw | hsw | hsw | hsw
  · refine lv_tableIn (x := nI ((gd L i).1)) (off := 32) (tgt := 36) hx hb dX1_findSlope_4 (by rw [hsw]; decide) (by rw [hsw]; decide) (by rw [hsw]; decide) (by decide) ?_
    refine lv_aload_n hx hb dX1_findSlope_36 rfl (lv_at hl 2 rfl) ?_
    refine lv_lconst (v := lN 0) hx hb dX1_findSlope_37 (by decide +kernel) ?_
    obtain ⟨mw_2, sw_2, nw_2, fw_2, aw_2, bw_2, cw_2, dw_2, ew_2⟩ := hW (638 + i) (by omega)
    have qw_2 : mw_2 ≤ 4096 := by rw [dw_2]; exact rmc_le _
    refine va_callv (va_runV (As := [.long (lN 0)]) (rest := []) ⟨hx, hb, hml, hown, hts⟩ (c_X8_put l dC dI A ad cA g (638 + i) (lN 0) hW (by omega)) (cwV 1 hts (goodIn_app (goodIn_r [Cond.methodLink RX1 51 yX8_put, Cond.instanceMethod yX8_put, Cond.selects RX8 yX8_put yX8_put, Cond.initialized RX8] [2, 3, 4, 5] rfl rfl) (goodIn_sub (fun w9 h9 => bk1 w9 h9) gw_X8_put)) rfl rfl rfl (by decide +kernel) ⟨Nat.le_of_ble_eq_true rfl, Nat.le_of_ble_eq_true rfl⟩) ⟨fun a U g mk q => ⟨q.1, q.2.1, q.2.2.1, LY.moved (u := U) (U := U.calling g mk a) (Vm.Alike.refl U.vm) q.2.2.2⟩, va_recv hK hP (ci := 11) (q0 := (2 * (638 + i))) rfl (wo_at (ns_w (by omega)) aw_2), fun U hU hW => ⟨rfl, by rw [hU]; exact fun q h => hA q (Nat.le_trans hS.1 h), by rw [hU]; exact hP, LY.moved hW.alike hL⟩⟩ rfl rfl hl.1 rfl (lv_room (Nat.le_of_ble_eq_true rfl)) dX1_findSlope_38 ⟨(Nat.le_of_ble_eq_true rfl), (Nat.le_of_ble_eq_true rfl)⟩) hS (fun q _ h => h) (fun q h => h) (fun u8 t8 H1 locs ht8 hvm8 hw_4 hB hz1 hk1 hS => ?_)
    obtain ⟨g_5, rfl⟩ : ∃ z, z = u8 := ⟨_, rfl⟩
    try dsimp only at hw_4 hB
    rw [ht8] at hB
    have hP := hB
    generalize H1 = H at hP hS ⊢
    obtain ⟨fr_6, hAW_3⟩ := hw_4
    refine lv_goto (tgt := 202) hx hb dX1_findSlope_41 (by decide) ?_
    refine W.widen (k := 0) (n := 0) (by omega) (by omega) ?_
    exact W.vret hx hb hr (fun t9 ht9 hW9 => ⟨⟨g_5, rfl, ⟨(fun (k : Nat) (hk : (k < 18 ∨ 24 ≤ k) ∧ k ≠ 2 * (638 + i) ∧ k ≠ 2 * (638 + i) + 1) => (fr_6 k (by omega)).trans (rfl)), hAW_3⟩, by show va_P (dC, dI) vwCl _ t9.heap; rw [ht9]; exact hP⟩, hS.F ht9⟩) hS.2.2 dX1_findSlope_202
  · refine lv_tableIn (x := nI ((gd L i).1)) (off := 40) (tgt := 44) hx hb dX1_findSlope_4 (by rw [hsw]; decide) (by rw [hsw]; decide) (by rw [hsw]; decide) (by decide) ?_
    refine lv_aload_n hx hb dX1_findSlope_44 rfl (lv_at hl 2 rfl) ?_
    refine lv_aload_n hx hb dX1_findSlope_45 rfl (lv_at hl 0 rfl) ?_
    refine m_get (D := (dC, dI)) (v := .ref (ad 2096)) (C := RX1) (T := TX1) (N := 10) hx hb hts bk2 hown hK hP 2090 (by decide) y0 rfl 6 (by decide) (hts (.fieldLink RX1 30 "GradientDesk$Course" "heading" "[I") (List.mem_of_getElem? (i := 6) rfl)) (fun _ h9 => h9) rfl dX1_findSlope_46 ?_
    refine lv_aload_n hx hb dX1_findSlope_49 rfl (lv_at hl 1 rfl) ?_
    refine m_get (D := (dC, dI)) (v := .int (iI ((gd L i).2.1))) (C := RX3) (T := TX3) (N := 7) hx hb hts bk0 hown hK hP (2117 + 2 * i) (ns_p (by omega)) hpi rfl 2 (by decide) (hts (.fieldLink RX1 114 "GradientDesk$Part" "first" "I") (List.mem_of_getElem? (i := 7) rfl)) (fun _ h9 => h9) rfl dX1_findSlope_50 ?_
    obtain ⟨vv, hvv, evv, -⟩ := (hWf i hi).2.2.2.2.2.2.2.1 (by omega)
    refine lv_topi (fun x_7 e_8 => ?_)
    obtain rfl : x_7 = nI vv := e_8.trans (by rw [evv]; exact (nI_iI _).symm)
    refine m_iald hx hb hK hP 2096 (by decide) rfl y6 (i := vv) (by omega) (by decide) dX1_findSlope_53 ?_
    refine lv_topi (fun x_9 e_10 => ?_)
    refine lv_i2l hx hb dX1_findSlope_54 rfl ?_
    refine lv_topl (fun y_11 e_12 => ?_)
    obtain ⟨mw_13, sw_13, nw_13, fw_13, aw_13, bw_13, cw_13, dw_13, ew_13⟩ := hW (638 + i) (by omega)
    have qw_13 : mw_13 ≤ 4096 := by rw [dw_13]; exact rmc_le _
    refine va_callv (va_runV (As := [.long y_11]) (rest := []) ⟨hx, hb, hml, hown, hts⟩ (c_X8_put l dC dI A ad cA g (638 + i) y_11 hW (by omega)) (cwV 1 hts (goodIn_app (goodIn_r [Cond.methodLink RX1 51 yX8_put, Cond.instanceMethod yX8_put, Cond.selects RX8 yX8_put yX8_put, Cond.initialized RX8] [2, 3, 4, 5] rfl rfl) (goodIn_sub (fun w9 h9 => bk1 w9 h9) gw_X8_put)) rfl rfl rfl (by decide +kernel) ⟨Nat.le_of_ble_eq_true rfl, Nat.le_of_ble_eq_true rfl⟩) ⟨fun a U g mk q => ⟨q.1, q.2.1, q.2.2.1, LY.moved (u := U) (U := U.calling g mk a) (Vm.Alike.refl U.vm) q.2.2.2⟩, va_recv hK hP (ci := 11) (q0 := (2 * (638 + i))) rfl (wo_at (ns_w (by omega)) aw_13), fun U hU hW => ⟨rfl, by rw [hU]; exact fun q h => hA q (Nat.le_trans hS.1 h), by rw [hU]; exact hP, LY.moved hW.alike hL⟩⟩ rfl rfl hl.1 rfl (lv_room (Nat.le_of_ble_eq_true rfl)) dX1_findSlope_55 ⟨(Nat.le_of_ble_eq_true rfl), (Nat.le_of_ble_eq_true rfl)⟩) hS (fun q _ h => h) (fun q h => h) (fun u8 t8 H1 locs ht8 hvm8 hw_15 hB hz1 hk1 hS => ?_)
    obtain ⟨g_16, rfl⟩ : ∃ z, z = u8 := ⟨_, rfl⟩
    try dsimp only at hw_15 hB
    rw [ht8] at hB
    have hP := hB
    generalize H1 = H at hP hS ⊢
    obtain ⟨fr_17, hAW_14⟩ := hw_15
    refine lv_goto (tgt := 202) hx hb dX1_findSlope_58 (by decide) ?_
    refine W.widen (k := 0) (n := 0) (by omega) (by omega) ?_
    exact W.vret hx hb hr (fun t9 ht9 hW9 => ⟨⟨g_16, rfl, ⟨(fun (k : Nat) (hk : (k < 18 ∨ 24 ≤ k) ∧ k ≠ 2 * (638 + i) ∧ k ≠ 2 * (638 + i) + 1) => (fr_17 k (by omega)).trans (rfl)), hAW_14⟩, by show va_P (dC, dI) vwCl _ t9.heap; rw [ht9]; exact hP⟩, hS.F ht9⟩) hS.2.2 dX1_findSlope_202
  · refine lv_tableIn (x := nI ((gd L i).1)) (off := 57) (tgt := 61) hx hb dX1_findSlope_4 (by rw [hsw]; decide) (by rw [hsw]; decide) (by rw [hsw]; decide) (by decide) ?_
    refine lv_aload_n hx hb dX1_findSlope_61 rfl (lv_at hl 0 rfl) ?_
    refine lv_aload_n hx hb dX1_findSlope_62 rfl (lv_at hl 0 rfl) ?_
    refine m_get (D := (dC, dI)) (v := .ref (ad 2092)) (C := RX1) (T := TX1) (N := 10) hx hb hts bk2 hown hK hP 2090 (by decide) y0 rfl 2 (by decide) (hts (.fieldLink RX1 17 "GradientDesk$Course" "slopes" "[LGradientDesk$Whole;") (List.mem_of_getElem? (i := 8) rfl)) (fun _ h9 => h9) rfl dX1_findSlope_63 ?_
    refine lv_aload_n hx hb dX1_findSlope_66 rfl (lv_at hl 1 rfl) ?_
    refine lv_aload_n hx hb dX1_findSlope_67 rfl (lv_at hl 2 rfl) ?_
    refine va_callv (va_runV (As := [.ref (ad 2092), .ref (ad (2117 + 2 * i)), .ref (ad (2 * (638 + i)))]) (rest := []) ⟨hx, hb, hml, hown, hts⟩ (c_W1_addS l dC dI A ad cA g L i (638 + i) hC hWf (hCr.same (fun (k : Nat) (hk : 2090 ≤ k ∧ k ≤ 2096) => rfl)) hi (by omega) (by omega)) (cwV 3 hts (goodIn_app (goodIn_r [Cond.methodLink RX1 124 yX1_addWidened, Cond.instanceMethod yX1_addWidened, Cond.selects RX1 yX1_addWidened yX1_addWidened, Cond.initialized RX1] [9, 10, 11, 12] rfl rfl) (goodIn_sub (fun w9 h9 => bk3 w9 h9) gw_W1_addS)) rfl rfl rfl (by decide +kernel) ⟨Nat.le_of_ble_eq_true rfl, Nat.le_of_ble_eq_true rfl⟩) ⟨fun a U g mk q => ⟨q.1, q.2.1, q.2.2.1, LY.moved (u := U) (U := U.calling g mk a) (Vm.Alike.refl U.vm) q.2.2.2⟩, va_recv hK hP (ci := 4) (q0 := 2090) rfl (wo_at (by decide) y0), fun U hU hW => ⟨rfl, by rw [hU]; exact fun q h => hA q (Nat.le_trans hS.1 h), by rw [hU]; exact hP, LY.moved hW.alike hL⟩⟩ rfl rfl hl.1 rfl (lv_room (Nat.le_of_ble_eq_true rfl)) dX1_findSlope_68 ⟨(Nat.le_of_ble_eq_true rfl), (Nat.le_of_ble_eq_true rfl)⟩) hS (fun q _ h => h) (fun q h => h) (fun u8 t8 H1 locs ht8 hvm8 hw_19 hB hz1 hk1 hS => ?_)
    obtain ⟨g_20, rfl⟩ : ∃ z, z = u8 := ⟨_, rfl⟩
    try dsimp only at hw_19 hB
    rw [ht8] at hB
    have hP := hB
    generalize H1 = H at hP hS ⊢
    obtain ⟨fr_21, hAW_18⟩ := hw_19
    refine lv_goto (tgt := 202) hx hb dX1_findSlope_71 (by decide) ?_
    refine W.widen (k := 0) (n := 0) (by omega) (by omega) ?_
    exact W.vret hx hb hr (fun t9 ht9 hW9 => ⟨⟨g_20, rfl, ⟨(fun (k : Nat) (hk : (k < 18 ∨ 24 ≤ k) ∧ k ≠ 2 * (638 + i) ∧ k ≠ 2 * (638 + i) + 1) => (fr_21 k (by omega)).trans (rfl)), hAW_18⟩, by show va_P (dC, dI) vwCl _ t9.heap; rw [ht9]; exact hP⟩, hS.F ht9⟩) hS.2.2 dX1_findSlope_202
  · refine lv_tableIn (x := nI ((gd L i).1)) (off := 70) (tgt := 74) hx hb dX1_findSlope_4 (by rw [hsw]; decide) (by rw [hsw]; decide) (by rw [hsw]; decide) (by decide) ?_
    refine lv_aload_n hx hb dX1_findSlope_74 rfl (lv_at hl 0 rfl) ?_
    refine m_get (D := (dC, dI)) (v := .ref (ad (2 * 9))) (C := RX1) (T := TX1) (N := 10) hx hb hts bk2 hown hK hP 2090 (by decide) y0 rfl 7 (by decide) (hts (.fieldLink RX1 37 "GradientDesk$Course" "left" "LGradientDesk$Whole;") (List.mem_of_getElem? (i := 13) rfl)) (fun _ h9 => h9) rfl dX1_findSlope_75 ?_
    refine lv_aload_n hx hb dX1_findSlope_78 rfl (lv_at hl 0 rfl) ?_
    refine m_get (D := (dC, dI)) (v := .ref (ad 2092)) (C := RX1) (T := TX1) (N := 10) hx hb hts bk2 hown hK hP 2090 (by decide) y0 rfl 2 (by decide) (hts (.fieldLink RX1 17 "GradientDesk$Course" "slopes" "[LGradientDesk$Whole;") (List.mem_of_getElem? (i := 8) rfl)) (fun _ h9 => h9) rfl dX1_findSlope_79 ?_
    refine lv_aload_n hx hb dX1_findSlope_82 rfl (lv_at hl 1 rfl) ?_
    refine m_get (D := (dC, dI)) (v := .int (iI ((gd L i).2.1))) (C := RX3) (T := TX3) (N := 7) hx hb hts bk0 hown hK hP (2117 + 2 * i) (ns_p (by omega)) hpi rfl 2 (by decide) (hts (.fieldLink RX1 114 "GradientDesk$Part" "first" "I") (List.mem_of_getElem? (i := 7) rfl)) (fun _ h9 => h9) rfl dX1_findSlope_83 ?_
    obtain ⟨oa, hoa, eoa⟩ := hWf.op1 hi (by omega)
    refine lv_topi (fun x_22 e_23 => ?_)
    obtain rfl : x_22 = nI oa := e_23.trans (by rw [eoa]; exact (nI_iI _).symm)
    refine m_aald hx hb hK hP 2092 (by decide) rfl y2 (i := oa) (v := ad (2 * (638 + oa))) (by omega) (by decide) rfl dX1_findSlope_86 ?_
    refine lv_aload_n hx hb dX1_findSlope_87 rfl (lv_at hl 0 rfl) ?_
    refine m_get (D := (dC, dI)) (v := .ref (ad 2091)) (C := RX1) (T := TX1) (N := 10) hx hb hts bk2 hown hK hP 2090 (by decide) y0 rfl 1 (by decide) (hts (.fieldLink RX1 11 "GradientDesk$Course" "values" "[LGradientDesk$Whole;") (List.mem_of_getElem? (i := 14) rfl)) (fun _ h9 => h9) rfl dX1_findSlope_88 ?_
    refine lv_aload_n hx hb dX1_findSlope_91 rfl (lv_at hl 1 rfl) ?_
    refine m_get (D := (dC, dI)) (v := .int (iI ((gd L i).2.2.1))) (C := RX3) (T := TX3) (N := 7) hx hb hts bk0 hown hK hP (2117 + 2 * i) (ns_p (by omega)) hpi rfl 3 (by decide) (hts (.fieldLink RX1 117 "GradientDesk$Part" "second" "I") (List.mem_of_getElem? (i := 15) rfl)) (fun _ h9 => h9) rfl dX1_findSlope_92 ?_
    obtain ⟨ob, hob, eob⟩ := hWf.op2 hi (by omega)
    refine lv_topi (fun x_24 e_25 => ?_)
    obtain rfl : x_24 = nI ob := e_25.trans (by rw [eob]; exact (nI_iI _).symm)
    refine m_aald hx hb hK hP 2091 (by decide) rfl y1 (i := ob) (v := ad (2 * (438 + ob))) (by omega) (by decide) rfl dX1_findSlope_95 ?_
    obtain ⟨mw_26, sw_26, nw_26, fw_26, aw_26, bw_26, cw_26, dw_26, ew_26⟩ := hW 9 (by omega)
    have qw_26 : mw_26 ≤ 4096 := by rw [dw_26]; exact rmc_le _
    refine va_callv (va_runV (As := [.ref (ad (2 * (638 + oa))), .ref (ad (2 * (438 + ob)))]) (rest := []) ⟨hx, hb, hml, hown, hts⟩ (c_X8_multiply l dC dI A ad cA g 9 (638 + oa) (438 + ob) hW (by omega) (by omega) (by omega) (by omega) (by omega)) (cwV 2 hts (goodIn_app (goodIn_r [Cond.methodLink RX1 55 yX8_multiply, Cond.instanceMethod yX8_multiply, Cond.selects RX8 yX8_multiply yX8_multiply, Cond.initialized RX8] [16, 17, 18, 5] rfl rfl) (goodIn_sub (fun w9 h9 => bk4 w9 h9) gw_X8_multiply)) rfl rfl rfl (by decide +kernel) ⟨Nat.le_of_ble_eq_true rfl, Nat.le_of_ble_eq_true rfl⟩) ⟨fun a U g mk q => ⟨q.1, q.2.1, q.2.2.1, LY.moved (u := U) (U := U.calling g mk a) (Vm.Alike.refl U.vm) q.2.2.2⟩, va_recv hK hP (ci := 11) (q0 := (2 * 9)) rfl (wo_at (ns_w (by omega)) aw_26), fun U hU hW => ⟨rfl, by rw [hU]; exact fun q h => hA q (Nat.le_trans hS.1 h), by rw [hU]; exact hP, LY.moved hW.alike hL⟩⟩ rfl rfl hl.1 rfl (lv_room (Nat.le_of_ble_eq_true rfl)) dX1_findSlope_96 ⟨(Nat.le_of_ble_eq_true rfl), (Nat.le_of_ble_eq_true rfl)⟩) hS (fun q _ h => h) (fun q h => h) (fun u8 t8 H1 locs ht8 hvm8 hw_28 hB hz1 hk1 hS => ?_)
    obtain ⟨g_29, rfl⟩ : ∃ z, z = u8 := ⟨_, rfl⟩
    try dsimp only at hw_28 hB
    rw [ht8] at hB
    have hP := hB
    generalize H1 = H at hP hS ⊢
    obtain ⟨fr_30, hAW_27⟩ := hw_28
    refine lv_aload_n hx hb dX1_findSlope_99 rfl (lv_at hl 0 rfl) ?_
    have f_31 : g_29 2090 = .inr (4, [.ref (ad 2080), .ref (ad 2091), .ref (ad 2092), .ref (ad 2093), .ref (ad 2094), .ref (ad 2095), .ref (ad 2096), .ref (ad (2 * 9)), .ref (ad (2 * 10)), .ref (ad (2 * 11))]) := (fr_30 2090 (by omega)).trans y0
    refine m_get (D := (dC, dI)) (v := .ref (ad (2 * 10))) (C := RX1) (T := TX1) (N := 10) hx hb hts bk2 hown hK hP 2090 (by decide) f_31 rfl 8 (by decide) (hts (.fieldLink RX1 41 "GradientDesk$Course" "right" "LGradientDesk$Whole;") (List.mem_of_getElem? (i := 19) rfl)) (fun _ h9 => h9) rfl dX1_findSlope_100 ?_
    refine lv_aload_n hx hb dX1_findSlope_103 rfl (lv_at hl 0 rfl) ?_
    refine m_get (D := (dC, dI)) (v := .ref (ad 2091)) (C := RX1) (T := TX1) (N := 10) hx hb hts bk2 hown hK hP 2090 (by decide) f_31 rfl 1 (by decide) (hts (.fieldLink RX1 11 "GradientDesk$Course" "values" "[LGradientDesk$Whole;") (List.mem_of_getElem? (i := 14) rfl)) (fun _ h9 => h9) rfl dX1_findSlope_104 ?_
    refine lv_aload_n hx hb dX1_findSlope_107 rfl (lv_at hl 1 rfl) ?_
    have f_32 : g_29 (2117 + 2 * i) = .inr (6, [.ref (ad (2118 + 2 * i)), .int (nI ((gd L i).1)), .int (iI ((gd L i).2.1)), .int (iI ((gd L i).2.2.1)), .int (nI ((gd L i).2.2.2.1)), .int (nI ((gd L i).2.2.2.2.1)), .int (nI ((gd L i).2.2.2.2.2.1))]) := (fr_30 (2117 + 2 * i) (by omega)).trans hpi
    refine m_get (D := (dC, dI)) (v := .int (iI ((gd L i).2.1))) (C := RX3) (T := TX3) (N := 7) hx hb hts bk0 hown hK hP (2117 + 2 * i) (ns_p (by omega)) f_32 rfl 2 (by decide) (hts (.fieldLink RX1 114 "GradientDesk$Part" "first" "I") (List.mem_of_getElem? (i := 7) rfl)) (fun _ h9 => h9) rfl dX1_findSlope_108 ?_
    refine lv_topi (fun x_33 e_34 => ?_)
    obtain rfl : x_33 = nI oa := e_34.trans (by rw [eoa]; exact (nI_iI _).symm)
    have f_35 : g_29 2091 = .inl (cA 2091, 200, .inr (.inr (.inr (.inr (fun j => some (ad (2 * (438 + j)))))))) := (fr_30 2091 (by omega)).trans y1
    refine m_aald hx hb hK hP 2091 (by decide) rfl f_35 (i := oa) (v := ad (2 * (438 + oa))) (by omega) (by decide) rfl dX1_findSlope_111 ?_
    refine lv_aload_n hx hb dX1_findSlope_112 rfl (lv_at hl 0 rfl) ?_
    refine m_get (D := (dC, dI)) (v := .ref (ad 2092)) (C := RX1) (T := TX1) (N := 10) hx hb hts bk2 hown hK hP 2090 (by decide) f_31 rfl 2 (by decide) (hts (.fieldLink RX1 17 "GradientDesk$Course" "slopes" "[LGradientDesk$Whole;") (List.mem_of_getElem? (i := 8) rfl)) (fun _ h9 => h9) rfl dX1_findSlope_113 ?_
    refine lv_aload_n hx hb dX1_findSlope_116 rfl (lv_at hl 1 rfl) ?_
    refine m_get (D := (dC, dI)) (v := .int (iI ((gd L i).2.2.1))) (C := RX3) (T := TX3) (N := 7) hx hb hts bk0 hown hK hP (2117 + 2 * i) (ns_p (by omega)) f_32 rfl 3 (by decide) (hts (.fieldLink RX1 117 "GradientDesk$Part" "second" "I") (List.mem_of_getElem? (i := 15) rfl)) (fun _ h9 => h9) rfl dX1_findSlope_117 ?_
    refine lv_topi (fun x_36 e_37 => ?_)
    obtain rfl : x_36 = nI ob := e_37.trans (by rw [eob]; exact (nI_iI _).symm)
    have f_38 : g_29 2092 = .inl (cA 2092, 200, .inr (.inr (.inr (.inr (fun j => some (ad (2 * (638 + j)))))))) := (fr_30 2092 (by omega)).trans y2
    refine m_aald hx hb hK hP 2092 (by decide) rfl f_38 (i := ob) (v := ad (2 * (638 + ob))) (by omega) (by decide) rfl dX1_findSlope_120 ?_
    obtain ⟨mw_39, sw_39, nw_39, fw_39, aw_39, bw_39, cw_39, dw_39, ew_39⟩ := hAW_27 10 (by omega)
    have qw_39 : mw_39 ≤ 4096 := by rw [dw_39]; exact rmc_le _
    refine va_callv (va_runV (As := [.ref (ad (2 * (438 + oa))), .ref (ad (2 * (638 + ob)))]) (rest := []) ⟨hx, hb, hml, hown, hts⟩ (c_X8_multiply l dC dI A ad cA g_29 10 (438 + oa) (638 + ob) hAW_27 (by omega) (by omega) (by omega) (by omega) (by omega)) (cwV 2 hts (goodIn_app (goodIn_r [Cond.methodLink RX1 55 yX8_multiply, Cond.instanceMethod yX8_multiply, Cond.selects RX8 yX8_multiply yX8_multiply, Cond.initialized RX8] [16, 17, 18, 5] rfl rfl) (goodIn_sub (fun w9 h9 => bk4 w9 h9) gw_X8_multiply)) rfl rfl rfl (by decide +kernel) ⟨Nat.le_of_ble_eq_true rfl, Nat.le_of_ble_eq_true rfl⟩) ⟨fun a U g mk q => ⟨q.1, q.2.1, q.2.2.1, LY.moved (u := U) (U := U.calling g mk a) (Vm.Alike.refl U.vm) q.2.2.2⟩, va_recv hK hP (ci := 11) (q0 := (2 * 10)) rfl (wo_at (ns_w (by omega)) aw_39), fun U hU hW => ⟨rfl, by rw [hU]; exact fun q h => hA q (Nat.le_trans hS.1 h), by rw [hU]; exact hP, LY.moved hW.alike hL⟩⟩ rfl rfl hl.1 rfl (lv_room (Nat.le_of_ble_eq_true rfl)) dX1_findSlope_121 ⟨(Nat.le_of_ble_eq_true rfl), (Nat.le_of_ble_eq_true rfl)⟩) hS (fun q _ h => h) (fun q h => h) (fun u8 t8 H1 locs ht8 hvm8 hw_41 hB hz1 hk1 hS => ?_)
    obtain ⟨g_42, rfl⟩ : ∃ z, z = u8 := ⟨_, rfl⟩
    try dsimp only at hw_41 hB
    rw [ht8] at hB
    have hP := hB
    generalize H1 = H at hP hS ⊢
    obtain ⟨fr_43, hAW_40⟩ := hw_41
    refine lv_aload_n hx hb dX1_findSlope_124 rfl (lv_at hl 2 rfl) ?_
    refine lv_aload_n hx hb dX1_findSlope_125 rfl (lv_at hl 0 rfl) ?_
    have f_44 : g_42 2090 = .inr (4, [.ref (ad 2080), .ref (ad 2091), .ref (ad 2092), .ref (ad 2093), .ref (ad 2094), .ref (ad 2095), .ref (ad 2096), .ref (ad (2 * 9)), .ref (ad (2 * 10)), .ref (ad (2 * 11))]) := (fr_43 2090 (by omega)).trans f_31
    refine m_get (D := (dC, dI)) (v := .ref (ad (2 * 9))) (C := RX1) (T := TX1) (N := 10) hx hb hts bk2 hown hK hP 2090 (by decide) f_44 rfl 7 (by decide) (hts (.fieldLink RX1 37 "GradientDesk$Course" "left" "LGradientDesk$Whole;") (List.mem_of_getElem? (i := 13) rfl)) (fun _ h9 => h9) rfl dX1_findSlope_126 ?_
    refine lv_aload_n hx hb dX1_findSlope_129 rfl (lv_at hl 0 rfl) ?_
    refine m_get (D := (dC, dI)) (v := .ref (ad (2 * 10))) (C := RX1) (T := TX1) (N := 10) hx hb hts bk2 hown hK hP 2090 (by decide) f_44 rfl 8 (by decide) (hts (.fieldLink RX1 41 "GradientDesk$Course" "right" "LGradientDesk$Whole;") (List.mem_of_getElem? (i := 19) rfl)) (fun _ h9 => h9) rfl dX1_findSlope_130 ?_
    obtain ⟨mw_45, sw_45, nw_45, fw_45, aw_45, bw_45, cw_45, dw_45, ew_45⟩ := hAW_40 (638 + i) (by omega)
    have qw_45 : mw_45 ≤ 4096 := by rw [dw_45]; exact rmc_le _
    refine va_callv (va_runV (As := [.ref (ad (2 * 9)), .ref (ad (2 * 10))]) (rest := []) ⟨hx, hb, hml, hown, hts⟩ (c_X8_add l dC dI A ad cA g_42 (638 + i) 9 10 hAW_40 (by omega) (by omega) (by omega) (by omega) (by omega)) (cwV 2 hts (goodIn_app (goodIn_r [Cond.methodLink RX1 128 yX8_add, Cond.instanceMethod yX8_add, Cond.selects RX8 yX8_add yX8_add, Cond.initialized RX8] [20, 21, 22, 5] rfl rfl) (goodIn_sub (fun w9 h9 => bk5 w9 h9) gw_X8_add)) rfl rfl rfl (by decide +kernel) ⟨Nat.le_of_ble_eq_true rfl, Nat.le_of_ble_eq_true rfl⟩) ⟨fun a U g mk q => ⟨q.1, q.2.1, q.2.2.1, LY.moved (u := U) (U := U.calling g mk a) (Vm.Alike.refl U.vm) q.2.2.2⟩, va_recv hK hP (ci := 11) (q0 := (2 * (638 + i))) rfl (wo_at (ns_w (by omega)) aw_45), fun U hU hW => ⟨rfl, by rw [hU]; exact fun q h => hA q (Nat.le_trans hS.1 h), by rw [hU]; exact hP, LY.moved hW.alike hL⟩⟩ rfl rfl hl.1 rfl (lv_room (Nat.le_of_ble_eq_true rfl)) dX1_findSlope_133 ⟨(Nat.le_of_ble_eq_true rfl), (Nat.le_of_ble_eq_true rfl)⟩) hS (fun q _ h => h) (fun q h => h) (fun u8 t8 H1 locs ht8 hvm8 hw_47 hB hz1 hk1 hS => ?_)
    obtain ⟨g_48, rfl⟩ : ∃ z, z = u8 := ⟨_, rfl⟩
    try dsimp only at hw_47 hB
    rw [ht8] at hB
    have hP := hB
    generalize H1 = H at hP hS ⊢
    obtain ⟨fr_49, hAW_46⟩ := hw_47
    refine lv_goto (tgt := 202) hx hb dX1_findSlope_136 (by decide) ?_
    refine W.widen (k := 0) (n := 0) (by omega) (by omega) ?_
    exact W.vret hx hb hr (fun t9 ht9 hW9 => ⟨⟨g_48, rfl, ⟨(fun (k : Nat) (hk : (k < 18 ∨ 24 ≤ k) ∧ k ≠ 2 * (638 + i) ∧ k ≠ 2 * (638 + i) + 1) => (fr_49 k (by omega)).trans ((fr_43 k (by omega)).trans ((fr_30 k (by omega)).trans (rfl)))), hAW_46⟩, by show va_P (dC, dI) vwCl _ t9.heap; rw [ht9]; exact hP⟩, hS.F ht9⟩) hS.2.2 dX1_findSlope_202
  · refine lv_tableOut (x := nI ((gd L i).1)) (tgt := 139) hx hb dX1_findSlope_4 (Or.inr (by rw [nI_toInt (by omega)]; omega)) (by decide) ?_
    refine lv_aload_n hx hb dX1_findSlope_139 rfl (lv_at hl 0 rfl) ?_
    refine lv_aload_n hx hb dX1_findSlope_140 rfl (lv_at hl 0 rfl) ?_
    refine m_get (D := (dC, dI)) (v := .ref (ad 2091)) (C := RX1) (T := TX1) (N := 10) hx hb hts bk2 hown hK hP 2090 (by decide) y0 rfl 1 (by decide) (hts (.fieldLink RX1 11 "GradientDesk$Course" "values" "[LGradientDesk$Whole;") (List.mem_of_getElem? (i := 14) rfl)) (fun _ h9 => h9) rfl dX1_findSlope_141 ?_
    refine lv_aload_n hx hb dX1_findSlope_144 rfl (lv_at hl 1 rfl) ?_
    refine m_get (D := (dC, dI)) (v := .int (iI ((gd L i).2.1))) (C := RX3) (T := TX3) (N := 7) hx hb hts bk0 hown hK hP (2117 + 2 * i) (ns_p (by omega)) hpi rfl 2 (by decide) (hts (.fieldLink RX1 114 "GradientDesk$Part" "first" "I") (List.mem_of_getElem? (i := 7) rfl)) (fun _ h9 => h9) rfl dX1_findSlope_145 ?_
    obtain ⟨oa, hoa, eoa⟩ := hWf.op1 hi (by omega)
    refine lv_topi (fun x_50 e_51 => ?_)
    obtain rfl : x_50 = nI oa := e_51.trans (by rw [eoa]; exact (nI_iI _).symm)
    refine m_aald hx hb hK hP 2091 (by decide) rfl y1 (i := oa) (v := ad (2 * (438 + oa))) (by omega) (by decide) rfl dX1_findSlope_148 ?_
    refine lv_aload_n hx hb dX1_findSlope_149 rfl (lv_at hl 1 rfl) ?_
    refine m_get (D := (dC, dI)) (v := .int (iI ((gd L i).2.2.1))) (C := RX3) (T := TX3) (N := 7) hx hb hts bk0 hown hK hP (2117 + 2 * i) (ns_p (by omega)) hpi rfl 3 (by decide) (hts (.fieldLink RX1 117 "GradientDesk$Part" "second" "I") (List.mem_of_getElem? (i := 15) rfl)) (fun _ h9 => h9) rfl dX1_findSlope_150 ?_
    obtain ⟨-, en, -, hen1, hen2, -, een, -⟩ := (hWf i hi).2.2.2.2.2.2.2.2.2.2 (by omega)
    refine lv_topi (fun x_52 e_53 => ?_)
    obtain rfl : x_52 = nI en := e_53.trans (by rw [een]; exact (nI_iI _).symm)
    refine lv_iconst (v := nI 1) hx hb dX1_findSlope_153 (by decide +kernel) ?_
    refine lv_isub hx hb dX1_findSlope_154 ?_
    refine lv_topi (fun x_54 e_55 => ?_)
    obtain rfl : x_54 = nI (en - 1) := e_55.trans (pk_sub (show 1 ≤ en by omega))
    refine va_callv (va_runV (As := [.ref (ad (2 * (438 + oa))), .int (nI (en - 1))]) (rest := []) ⟨hx, hb, hml, hown, hts⟩ (c_W1_raise l dC dI A ad cA g (438 + oa) (en - 1) hW (hCr.same (fun (k : Nat) (hk : 2090 ≤ k ∧ k ≤ 2096) => rfl)) (by omega) (by omega)) (cwV 2 hts (goodIn_app (goodIn_r [Cond.methodLink RX1 120 yX1_raise, Cond.instanceMethod yX1_raise, Cond.selects RX1 yX1_raise yX1_raise, Cond.initialized RX1] [23, 24, 25, 12] rfl rfl) (goodIn_sub (fun w9 h9 => bk6 w9 h9) gw_W1_raise)) rfl rfl rfl (by decide +kernel) ⟨Nat.le_of_ble_eq_true rfl, Nat.le_of_ble_eq_true rfl⟩) ⟨fun a U g mk q => ⟨q.1, q.2.1, q.2.2.1, LY.moved (u := U) (U := U.calling g mk a) (Vm.Alike.refl U.vm) q.2.2.2⟩, va_recv hK hP (ci := 4) (q0 := 2090) rfl (wo_at (by decide) y0), fun U hU hW => ⟨rfl, by rw [hU]; exact fun q h => hA q (Nat.le_trans hS.1 h), by rw [hU]; exact hP, LY.moved hW.alike hL⟩⟩ rfl rfl hl.1 rfl (lv_room (Nat.le_of_ble_eq_true rfl)) dX1_findSlope_155 ⟨(Nat.le_of_ble_eq_true rfl), (Nat.le_of_ble_eq_true rfl)⟩) hS (fun q _ h => h) (fun q h => h) (fun u8 t8 H1 locs ht8 hvm8 hw_57 hB hz1 hk1 hS => ?_)
    obtain ⟨g_58, rfl⟩ : ∃ z, z = u8 := ⟨_, rfl⟩
    try dsimp only at hw_57 hB
    rw [ht8] at hB
    have hP := hB
    generalize H1 = H at hP hS ⊢
    obtain ⟨fr_59, hAW_56⟩ := hw_57
    refine lv_aload_n hx hb dX1_findSlope_158 rfl (lv_at hl 0 rfl) ?_
    have f_60 : g_58 2090 = .inr (4, [.ref (ad 2080), .ref (ad 2091), .ref (ad 2092), .ref (ad 2093), .ref (ad 2094), .ref (ad 2095), .ref (ad 2096), .ref (ad (2 * 9)), .ref (ad (2 * 10)), .ref (ad (2 * 11))]) := (fr_59 2090 (by omega)).trans y0
    refine m_get (D := (dC, dI)) (v := .ref (ad (2 * 10))) (C := RX1) (T := TX1) (N := 10) hx hb hts bk2 hown hK hP 2090 (by decide) f_60 rfl 8 (by decide) (hts (.fieldLink RX1 41 "GradientDesk$Course" "right" "LGradientDesk$Whole;") (List.mem_of_getElem? (i := 19) rfl)) (fun _ h9 => h9) rfl dX1_findSlope_159 ?_
    refine lv_aload_n hx hb dX1_findSlope_162 rfl (lv_at hl 0 rfl) ?_
    refine m_get (D := (dC, dI)) (v := .ref (ad (2 * 9))) (C := RX1) (T := TX1) (N := 10) hx hb hts bk2 hown hK hP 2090 (by decide) f_60 rfl 7 (by decide) (hts (.fieldLink RX1 37 "GradientDesk$Course" "left" "LGradientDesk$Whole;") (List.mem_of_getElem? (i := 13) rfl)) (fun _ h9 => h9) rfl dX1_findSlope_163 ?_
    refine lv_aload_n hx hb dX1_findSlope_166 rfl (lv_at hl 0 rfl) ?_
    refine m_get (D := (dC, dI)) (v := .ref (ad 2092)) (C := RX1) (T := TX1) (N := 10) hx hb hts bk2 hown hK hP 2090 (by decide) f_60 rfl 2 (by decide) (hts (.fieldLink RX1 17 "GradientDesk$Course" "slopes" "[LGradientDesk$Whole;") (List.mem_of_getElem? (i := 8) rfl)) (fun _ h9 => h9) rfl dX1_findSlope_167 ?_
    refine lv_aload_n hx hb dX1_findSlope_170 rfl (lv_at hl 1 rfl) ?_
    have f_61 : g_58 (2117 + 2 * i) = .inr (6, [.ref (ad (2118 + 2 * i)), .int (nI ((gd L i).1)), .int (iI ((gd L i).2.1)), .int (iI ((gd L i).2.2.1)), .int (nI ((gd L i).2.2.2.1)), .int (nI ((gd L i).2.2.2.2.1)), .int (nI ((gd L i).2.2.2.2.2.1))]) := (fr_59 (2117 + 2 * i) (by omega)).trans hpi
    refine m_get (D := (dC, dI)) (v := .int (iI ((gd L i).2.1))) (C := RX3) (T := TX3) (N := 7) hx hb hts bk0 hown hK hP (2117 + 2 * i) (ns_p (by omega)) f_61 rfl 2 (by decide) (hts (.fieldLink RX1 114 "GradientDesk$Part" "first" "I") (List.mem_of_getElem? (i := 7) rfl)) (fun _ h9 => h9) rfl dX1_findSlope_171 ?_
    refine lv_topi (fun x_62 e_63 => ?_)
    obtain rfl : x_62 = nI oa := e_63.trans (by rw [eoa]; exact (nI_iI _).symm)
    have f_64 : g_58 2092 = .inl (cA 2092, 200, .inr (.inr (.inr (.inr (fun j => some (ad (2 * (638 + j)))))))) := (fr_59 2092 (by omega)).trans y2
    refine m_aald hx hb hK hP 2092 (by decide) rfl f_64 (i := oa) (v := ad (2 * (638 + oa))) (by omega) (by decide) rfl dX1_findSlope_174 ?_
    obtain ⟨mw_65, sw_65, nw_65, fw_65, aw_65, bw_65, cw_65, dw_65, ew_65⟩ := hAW_56 10 (by omega)
    have qw_65 : mw_65 ≤ 4096 := by rw [dw_65]; exact rmc_le _
    refine va_callv (va_runV (As := [.ref (ad (2 * 9)), .ref (ad (2 * (638 + oa)))]) (rest := []) ⟨hx, hb, hml, hown, hts⟩ (c_X8_multiply l dC dI A ad cA g_58 10 9 (638 + oa) hAW_56 (by omega) (by omega) (by omega) (by omega) (by omega)) (cwV 2 hts (goodIn_app (goodIn_r [Cond.methodLink RX1 55 yX8_multiply, Cond.instanceMethod yX8_multiply, Cond.selects RX8 yX8_multiply yX8_multiply, Cond.initialized RX8] [16, 17, 18, 5] rfl rfl) (goodIn_sub (fun w9 h9 => bk4 w9 h9) gw_X8_multiply)) rfl rfl rfl (by decide +kernel) ⟨Nat.le_of_ble_eq_true rfl, Nat.le_of_ble_eq_true rfl⟩) ⟨fun a U g mk q => ⟨q.1, q.2.1, q.2.2.1, LY.moved (u := U) (U := U.calling g mk a) (Vm.Alike.refl U.vm) q.2.2.2⟩, va_recv hK hP (ci := 11) (q0 := (2 * 10)) rfl (wo_at (ns_w (by omega)) aw_65), fun U hU hW => ⟨rfl, by rw [hU]; exact fun q h => hA q (Nat.le_trans hS.1 h), by rw [hU]; exact hP, LY.moved hW.alike hL⟩⟩ rfl rfl hl.1 rfl (lv_room (Nat.le_of_ble_eq_true rfl)) dX1_findSlope_175 ⟨(Nat.le_of_ble_eq_true rfl), (Nat.le_of_ble_eq_true rfl)⟩) hS (fun q _ h => h) (fun q h => h) (fun u8 t8 H1 locs ht8 hvm8 hw_67 hB hz1 hk1 hS => ?_)
    obtain ⟨g_68, rfl⟩ : ∃ z, z = u8 := ⟨_, rfl⟩
    try dsimp only at hw_67 hB
    rw [ht8] at hB
    have hP := hB
    generalize H1 = H at hP hS ⊢
    obtain ⟨fr_69, hAW_66⟩ := hw_67
    refine lv_aload_n hx hb dX1_findSlope_178 rfl (lv_at hl 0 rfl) ?_
    have f_70 : g_68 2090 = .inr (4, [.ref (ad 2080), .ref (ad 2091), .ref (ad 2092), .ref (ad 2093), .ref (ad 2094), .ref (ad 2095), .ref (ad 2096), .ref (ad (2 * 9)), .ref (ad (2 * 10)), .ref (ad (2 * 11))]) := (fr_69 2090 (by omega)).trans f_60
    refine m_get (D := (dC, dI)) (v := .ref (ad (2 * 11))) (C := RX1) (T := TX1) (N := 10) hx hb hts bk2 hown hK hP 2090 (by decide) f_70 rfl 9 (by decide) (hts (.fieldLink RX1 44 "GradientDesk$Course" "hold" "LGradientDesk$Whole;") (List.mem_of_getElem? (i := 26) rfl)) (fun _ h9 => h9) rfl dX1_findSlope_179 ?_
    refine lv_aload_n hx hb dX1_findSlope_182 rfl (lv_at hl 1 rfl) ?_
    have f_71 : g_68 (2117 + 2 * i) = .inr (6, [.ref (ad (2118 + 2 * i)), .int (nI ((gd L i).1)), .int (iI ((gd L i).2.1)), .int (iI ((gd L i).2.2.1)), .int (nI ((gd L i).2.2.2.1)), .int (nI ((gd L i).2.2.2.2.1)), .int (nI ((gd L i).2.2.2.2.2.1))]) := (fr_69 (2117 + 2 * i) (by omega)).trans f_61
    refine m_get (D := (dC, dI)) (v := .int (iI ((gd L i).2.2.1))) (C := RX3) (T := TX3) (N := 7) hx hb hts bk0 hown hK hP (2117 + 2 * i) (ns_p (by omega)) f_71 rfl 3 (by decide) (hts (.fieldLink RX1 117 "GradientDesk$Part" "second" "I") (List.mem_of_getElem? (i := 15) rfl)) (fun _ h9 => h9) rfl dX1_findSlope_183 ?_
    refine lv_topi (fun x_72 e_73 => ?_)
    obtain rfl : x_72 = nI en := e_73.trans (by rw [een]; exact (nI_iI _).symm)
    refine lv_i2l hx hb dX1_findSlope_186 rfl ?_
    refine lv_topl (fun y_74 e_75 => ?_)
    obtain rfl : y_74 = lN en := e_75.trans (nI_l (by omega))
    obtain ⟨mw_76, sw_76, nw_76, fw_76, aw_76, bw_76, cw_76, dw_76, ew_76⟩ := hAW_66 11 (by omega)
    have qw_76 : mw_76 ≤ 4096 := by rw [dw_76]; exact rmc_le _
    refine va_callv (va_runV (As := [.long (lN en)]) (rest := []) ⟨hx, hb, hml, hown, hts⟩ (c_X8_put l dC dI A ad cA g_68 11 (lN en) hAW_66 (by omega)) (cwV 1 hts (goodIn_app (goodIn_r [Cond.methodLink RX1 51 yX8_put, Cond.instanceMethod yX8_put, Cond.selects RX8 yX8_put yX8_put, Cond.initialized RX8] [2, 3, 4, 5] rfl rfl) (goodIn_sub (fun w9 h9 => bk1 w9 h9) gw_X8_put)) rfl rfl rfl (by decide +kernel) ⟨Nat.le_of_ble_eq_true rfl, Nat.le_of_ble_eq_true rfl⟩) ⟨fun a U g mk q => ⟨q.1, q.2.1, q.2.2.1, LY.moved (u := U) (U := U.calling g mk a) (Vm.Alike.refl U.vm) q.2.2.2⟩, va_recv hK hP (ci := 11) (q0 := (2 * 11)) rfl (wo_at (ns_w (by omega)) aw_76), fun U hU hW => ⟨rfl, by rw [hU]; exact fun q h => hA q (Nat.le_trans hS.1 h), by rw [hU]; exact hP, LY.moved hW.alike hL⟩⟩ rfl rfl hl.1 rfl (lv_room (Nat.le_of_ble_eq_true rfl)) dX1_findSlope_187 ⟨(Nat.le_of_ble_eq_true rfl), (Nat.le_of_ble_eq_true rfl)⟩) hS (fun q _ h => h) (fun q h => h) (fun u8 t8 H1 locs ht8 hvm8 hw_78 hB hz1 hk1 hS => ?_)
    obtain ⟨g_79, rfl⟩ : ∃ z, z = u8 := ⟨_, rfl⟩
    try dsimp only at hw_78 hB
    rw [ht8] at hB
    have hP := hB
    generalize H1 = H at hP hS ⊢
    obtain ⟨fr_80, hAW_77⟩ := hw_78
    refine lv_aload_n hx hb dX1_findSlope_190 rfl (lv_at hl 2 rfl) ?_
    refine lv_aload_n hx hb dX1_findSlope_191 rfl (lv_at hl 0 rfl) ?_
    have f_81 : g_79 2090 = .inr (4, [.ref (ad 2080), .ref (ad 2091), .ref (ad 2092), .ref (ad 2093), .ref (ad 2094), .ref (ad 2095), .ref (ad 2096), .ref (ad (2 * 9)), .ref (ad (2 * 10)), .ref (ad (2 * 11))]) := (fr_80 2090 (by omega)).trans f_70
    refine m_get (D := (dC, dI)) (v := .ref (ad (2 * 10))) (C := RX1) (T := TX1) (N := 10) hx hb hts bk2 hown hK hP 2090 (by decide) f_81 rfl 8 (by decide) (hts (.fieldLink RX1 41 "GradientDesk$Course" "right" "LGradientDesk$Whole;") (List.mem_of_getElem? (i := 19) rfl)) (fun _ h9 => h9) rfl dX1_findSlope_192 ?_
    refine lv_aload_n hx hb dX1_findSlope_195 rfl (lv_at hl 0 rfl) ?_
    refine m_get (D := (dC, dI)) (v := .ref (ad (2 * 11))) (C := RX1) (T := TX1) (N := 10) hx hb hts bk2 hown hK hP 2090 (by decide) f_81 rfl 9 (by decide) (hts (.fieldLink RX1 44 "GradientDesk$Course" "hold" "LGradientDesk$Whole;") (List.mem_of_getElem? (i := 26) rfl)) (fun _ h9 => h9) rfl dX1_findSlope_196 ?_
    obtain ⟨mw_82, sw_82, nw_82, fw_82, aw_82, bw_82, cw_82, dw_82, ew_82⟩ := hAW_77 (638 + i) (by omega)
    have qw_82 : mw_82 ≤ 4096 := by rw [dw_82]; exact rmc_le _
    refine va_callv (va_runV (As := [.ref (ad (2 * 10)), .ref (ad (2 * 11))]) (rest := []) ⟨hx, hb, hml, hown, hts⟩ (c_X8_multiply l dC dI A ad cA g_79 (638 + i) 10 11 hAW_77 (by omega) (by omega) (by omega) (by omega) (by omega)) (cwV 2 hts (goodIn_app (goodIn_r [Cond.methodLink RX1 55 yX8_multiply, Cond.instanceMethod yX8_multiply, Cond.selects RX8 yX8_multiply yX8_multiply, Cond.initialized RX8] [16, 17, 18, 5] rfl rfl) (goodIn_sub (fun w9 h9 => bk4 w9 h9) gw_X8_multiply)) rfl rfl rfl (by decide +kernel) ⟨Nat.le_of_ble_eq_true rfl, Nat.le_of_ble_eq_true rfl⟩) ⟨fun a U g mk q => ⟨q.1, q.2.1, q.2.2.1, LY.moved (u := U) (U := U.calling g mk a) (Vm.Alike.refl U.vm) q.2.2.2⟩, va_recv hK hP (ci := 11) (q0 := (2 * (638 + i))) rfl (wo_at (ns_w (by omega)) aw_82), fun U hU hW => ⟨rfl, by rw [hU]; exact fun q h => hA q (Nat.le_trans hS.1 h), by rw [hU]; exact hP, LY.moved hW.alike hL⟩⟩ rfl rfl hl.1 rfl (lv_room (Nat.le_of_ble_eq_true rfl)) dX1_findSlope_199 ⟨(Nat.le_of_ble_eq_true rfl), (Nat.le_of_ble_eq_true rfl)⟩) hS (fun q _ h => h) (fun q h => h) (fun u8 t8 H1 locs ht8 hvm8 hw_84 hB hz1 hk1 hS => ?_)
    obtain ⟨g_85, rfl⟩ : ∃ z, z = u8 := ⟨_, rfl⟩
    try dsimp only at hw_84 hB
    rw [ht8] at hB
    have hP := hB
    generalize H1 = H at hP hS ⊢
    obtain ⟨fr_86, hAW_83⟩ := hw_84
    refine W.widen (k := 0) (n := 0) (by omega) (by omega) ?_
    exact W.vret hx hb hr (fun t9 ht9 hW9 => ⟨⟨g_85, rfl, ⟨(fun (k : Nat) (hk : (k < 18 ∨ 24 ≤ k) ∧ k ≠ 2 * (638 + i) ∧ k ≠ 2 * (638 + i) + 1) => (fr_86 k (by omega)).trans ((fr_80 k (by omega)).trans ((fr_69 k (by omega)).trans ((fr_59 k (by omega)).trans (rfl))))), hAW_83⟩, by show va_P (dC, dI) vwCl _ t9.heap; rw [ht9]; exact hP⟩, hS.F ht9⟩) hS.2.2 dX1_findSlope_202
end
section
def wd_W1_fvals : List Cond := .code yX1_followValues cX1_followValues 3 none :: (([.fieldLink RX1 47 "GradientDesk$Course" "shelf" "LGradientDesk$Shelf;", .methodLink RX1 59 yX6_mark, .instanceMethod yX6_mark, .selects RX6 yX6_mark yX6_mark, .initialized RX6, .fieldLink RX1 65 "GradientDesk$Shelf" "marked" "[Z", .fieldLink RX1 69 "GradientDesk$Shelf" "parts" "[LGradientDesk$Part;", .fieldLink RX1 20 "GradientDesk$Course" "bases" "[LGradientDesk$Whole;", .methodLink RX1 73 yX1_findBase, .instanceMethod yX1_findBase, .selects RX1 yX1_findBase yX1_findBase, .initialized RX1, .fieldLink RX1 11 "GradientDesk$Course" "values" "[LGradientDesk$Whole;", .methodLink RX1 77 yX1_findValue, .instanceMethod yX1_findValue, .selects RX1 yX1_findValue yX1_findValue] : List Cond) ++ (u_ws RX1 TX1 10 ++ (wd_V6_mark ++ (u_ws RX6 TX6 7 ++ (wd_W1_base ++ (wd_W1_value ++ ([])))))))
theorem gw_W1_fvals : wd_W1_fvals.all goodWord = true := k_allc rfl (k_all (by decide +kernel) (k_all (gu_X1) (k_all (gw_V6_mark) (k_all (gu_X6) (k_all (gw_W1_base) (k_all (gw_W1_value) (rfl)))))))
set_option maxHeartbeats 4000000 in
set_option maxRecDepth 100000 in
theorem c_W1_fvals (l : Launch) (dC : Nat → ClassId) (dI : Nat → Nat → Nat) (A : Nat → Prop) (ad : Nat → Nat) (cA : Nat → ClassId) (g : Nat → va_E) (L : List PD) (root : Nat) (hC : CS ad cA g L) (hWf : WFL L) (hCr : CRS ad cA g) (hMk : MRK cA g) (hrt : root < L.length) : Met l yX1_followValues wd_W1_fvals ({ frames := 70, cells := 0, slots := 0, locals := 1400 }) (va_Pc [.ref (ad 2090), .int (nI root)] (PR NSc tyc dC dI A ad cA g)) (va_Qv (fun (u : Nat → va_E) => match u with | g2 => (∀ k, k < 18 ∨ (24 ≤ k ∧ k < 876) ∨ (2076 ≤ k ∧ k ≠ 2082) → g2 k = g k) ∧ AW ad cA g2 ∧ MRK cA g2) (fun (u : Nat → va_E) (t : State) => va_P (dC, dI) vwCl (wo ad NSc u) t.heap) A) (0) (0) A := by
  refine Met.ofW (cc := cX1_followValues) (maxL := 3) (ret := none) (by decide) rfl ?_
  intro p e s m args below meth c s₁ B hml hv
  obtain ⟨rfl, hA, hP, hL⟩ := hv
  have hx := B.exec
  have hb := B.bytes
  have hr := B.returns
  have hts := atoms_spec (ws := wd_W1_fvals) B.pre
  have hown : s.vm.findClass RX1 = some m.cls := findClass_of_methodNamed B.named
  have hlocks := B.notSynchronized
  have hK := hL.1
  have hD : ∀ g, va_D A (wo ad NSc g) := fun g => wo_D hL.2.1 hL.2.2 g
  have hS : va_S A s.heap s.heap [] := va_S.rf
  have bk0 : ∀ w ∈ u_ws RX1 TX1 10, w ∈ wd_W1_fvals := fun _ h => List.mem_cons_of_mem _ (List.mem_append_right _ (List.mem_append_left _ h))
  have bk1 : ∀ w ∈ wd_V6_mark, w ∈ wd_W1_fvals := fun _ h => List.mem_cons_of_mem _ (List.mem_append_right _ (List.mem_append_right _ (List.mem_append_left _ h)))
  have bk2 : ∀ w ∈ u_ws RX6 TX6 7, w ∈ wd_W1_fvals := fun _ h => List.mem_cons_of_mem _ (List.mem_append_right _ (List.mem_append_right _ (List.mem_append_right _ (List.mem_append_left _ h))))
  have bk3 : ∀ w ∈ wd_W1_base, w ∈ wd_W1_fvals := fun _ h => List.mem_cons_of_mem _ (List.mem_append_right _ (List.mem_append_right _ (List.mem_append_right _ (List.mem_append_right _ (List.mem_append_left _ h)))))
  have bk4 : ∀ w ∈ wd_W1_value, w ∈ wd_W1_fvals := fun _ h => List.mem_cons_of_mem _ (List.mem_append_right _ (List.mem_append_right _ (List.mem_append_right _ (List.mem_append_right _ (List.mem_append_right _ (List.mem_append_left _ h))))))
  have hl := lv_entry ([.ref (ad 2090), .int (nI root)]) (n := 3) (Nat.le_of_ble_eq_true rfl)
  rw [lg_entry_eq]
  generalize (lg_sl ([.ref (ad 2090), .int (nI root)]) ++ List.replicate (3 - (lg_sl ([.ref (ad 2090), .int (nI root)])).length) Slot.unset).toArray = ls at hl ⊢
  have hl : lv_has ls 3 [(0, .ref (ad 2090)), (1, .int (nI root))] := hl
  have hC0 := hC
  obtain ⟨hLn, hW, ⟨hAr, hWk, hPa, hFr⟩, hO, pt, hPt, hM⟩ := hC0
  unfold CSO at hO
  have hpb := hPt.2
  have hcr9 := hCr
  obtain ⟨y0, y1, y2, y3, y4, ⟨ft, y5⟩, fh, y6⟩ := hcr9
  obtain ⟨mk0, h82, hmb⟩ := hMk
  refine lv_aload_n hx hb dX1_followValues_0 rfl (lv_at hl 0 rfl) ?_
  refine m_get (D := (dC, dI)) (v := .ref (ad 2080)) (C := RX1) (T := TX1) (N := 10) hx hb hts bk0 hown hK hP 2090 (by decide) y0 rfl 0 (by decide) (hts (.fieldLink RX1 47 "GradientDesk$Course" "shelf" "LGradientDesk$Shelf;") (List.mem_of_getElem? (i := 1) rfl)) (fun _ h9 => h9) rfl dX1_followValues_1 ?_
  refine lv_iload_n hx hb dX1_followValues_4 rfl (lv_at hl 1 rfl) ?_
  refine va_calli (va_runV (As := [.int (nI root)]) (rest := []) ⟨hx, hb, hml, hown, hts⟩ (c_V6_mark l dC dI A ad cA g L root mk0 hC hWf hrt h82 hmb) (cwV 1 hts (goodIn_app (goodIn_r [Cond.methodLink RX1 59 yX6_mark, Cond.instanceMethod yX6_mark, Cond.selects RX6 yX6_mark yX6_mark, Cond.initialized RX6] [2, 3, 4, 5] rfl rfl) (goodIn_sub (fun w9 h9 => bk1 w9 h9) gw_V6_mark)) rfl rfl rfl (by decide +kernel) ⟨Nat.le_of_ble_eq_true rfl, Nat.le_of_ble_eq_true rfl⟩) ⟨fun a U g mk q => ⟨q.1, q.2.1, q.2.2.1, LY.moved (u := U) (U := U.calling g mk a) (Vm.Alike.refl U.vm) q.2.2.2⟩, va_recv hK hP (ci := 9) (q0 := 2080) rfl (wo_at (by decide) hO), fun U hU hW => ⟨rfl, by rw [hU]; exact fun q h => hA q (Nat.le_trans hS.1 h), by rw [hU]; exact hP, LY.moved hW.alike hL⟩⟩ rfl rfl hl.1 rfl (lv_room (Nat.le_of_ble_eq_true rfl)) dX1_followValues_5 ⟨(Nat.le_of_ble_eq_true rfl), (Nat.le_of_ble_eq_true rfl)⟩) hS (fun q _ h => h) (fun q h => h) (fun r_1 u8 t8 H1 locs ht8 hvm8 hw_2 hB hz1 hk1 hS => ?_)
  obtain ⟨g_3, mk2_4⟩ := u8
  try dsimp only at hw_2 hB
  rw [ht8] at hB
  have hP := hB
  generalize H1 = H at hP hS ⊢
  obtain ⟨fr_5, h82b, hmbb, -, -⟩ := hw_2
  refine lv_pop hx hb dX1_followValues_8 rfl ?_
  refine lv_iconst (v := nI 0) hx hb dX1_followValues_9 (by decide +kernel) ?_
  refine lv_istore_n (lv' := [(2, .int (nI 0)), (0, .ref (ad 2090)), (1, .int (nI root))]) hx hb dX1_followValues_10 rfl hl (by decide) rfl (fun ls hl => ?_)
  have loop_6 : ∀ (k9 : Nat) (i : Nat) (g_8 : Nat → va_E) (fr_9 : ∀ k, (k < 18 ∨ (24 ≤ k ∧ k < 876) ∨ 2076 ≤ k) → g_8 k = g_3 k), 300 - i < k9 → (i ≤ root + 1) → (AW ad cA g_8) → ∀ (H : Heap) (locs : List Loc) (ls : Array Slot), va_P (dC, dI) vwCl (wo ad NSc g_8) H → va_S A s.heap H locs → lv_has ls 3 [(0, .ref (ad 2090)), (1, .int (nI root)), (2, .int (nI i))] → W p l e (headSpec wd_W1_fvals ({ frames := 70, cells := 0, slots := 0, locals := 1400 })).room s m ([.ref (ad 2090), .int (nI root)] : List Value).toArray below meth c H locs (0) (0) (MQ below (va_Qv (fun (u : Nat → va_E) => match u with | g2 => (∀ k, k < 18 ∨ (24 ≤ k ∧ k < 876) ∨ (2076 ≤ k ∧ k ≠ 2082) → g2 k = g k) ∧ AW ad cA g2 ∧ MRK cA g2) (fun (u : Nat → va_E) (t : State) => va_P (dC, dI) vwCl (wo ad NSc u) t.heap) A) ([.ref (ad 2090), .int (nI root)] : List Value).toArray s (0) (0) A) (F0 m 11 ls []) := by
    intro k9
    induction k9 with
    | zero => intro i g_8 fr_9 h9; exact absurd h9 (Nat.not_lt_zero _)
    | succ k9 ih_7 =>
      intro i g_8 fr_9 h9 hi hAL H locs ls hP hS hl
      refine lv_iload_n hx hb dX1_followValues_11 rfl (lv_at hl 2 rfl) ?_
      refine lv_iload_n hx hb dX1_followValues_12 rfl (lv_at hl 1 rfl) ?_
      refine lv_icmp_gt (tgt := 72) hx hb dX1_followValues_13 (by decide) (fun c_10 => ?_) (fun c_10 => ?_)
      · have c_10 := (nI_ltI (a := root) (b := i) (by omega) (by omega)).mp c_10
        have f_11 : g_8 2082 = .inl (cA 2082, 200, .inl (fun j => nI (mk2_4 j))) := (fr_9 2082 (by omega)).trans h82b
        refine W.widen (k := 0) (n := 0) (by omega) (by omega) ?_
        exact W.vret hx hb hr (fun t9 ht9 hW9 => ⟨⟨g_8, rfl, ⟨(fun (k : Nat) (hk : k < 18 ∨ (24 ≤ k ∧ k < 876) ∨ (2076 ≤ k ∧ k ≠ 2082)) => (fr_9 k (by omega)).trans ((fr_5 k (by omega)).trans (rfl))), hAL, mk2_4, f_11, hmbb⟩, by show va_P (dC, dI) vwCl _ t9.heap; rw [ht9]; exact hP⟩, hS.F ht9⟩) hS.2.2 dX1_followValues_72
      · have c_10 := mt (nI_ltI (a := root) (b := i) (by omega) (by omega)).mpr c_10
        refine lv_aload_n hx hb dX1_followValues_16 rfl (lv_at hl 0 rfl) ?_
        have f_12 : g_8 2090 = .inr (4, [.ref (ad 2080), .ref (ad 2091), .ref (ad 2092), .ref (ad 2093), .ref (ad 2094), .ref (ad 2095), .ref (ad 2096), .ref (ad (2 * 9)), .ref (ad (2 * 10)), .ref (ad (2 * 11))]) := (fr_9 2090 (by omega)).trans ((fr_5 2090 (by omega)).trans y0)
        refine m_get (D := (dC, dI)) (v := .ref (ad 2080)) (C := RX1) (T := TX1) (N := 10) hx hb hts bk0 hown hK hP 2090 (by decide) f_12 rfl 0 (by decide) (hts (.fieldLink RX1 47 "GradientDesk$Course" "shelf" "LGradientDesk$Shelf;") (List.mem_of_getElem? (i := 1) rfl)) (fun _ h9 => h9) rfl dX1_followValues_17 ?_
        have f_13 : g_8 2080 = .inr (9, [.ref (ad 2081), .ref (ad 2082), .int (nI L.length), .ref (ad 2083), .ref (ad 2077), .ref (ad 2107), .ref (ad (2 * 6))]) := (fr_9 2080 (by omega)).trans ((fr_5 2080 (by omega)).trans hO)
        refine m_get (D := (dC, dI)) (v := .ref (ad 2082)) (C := RX6) (T := TX6) (N := 7) hx hb hts bk2 hown hK hP 2080 (by decide) f_13 rfl 1 (by decide) (hts (.fieldLink RX1 65 "GradientDesk$Shelf" "marked" "[Z") (List.mem_of_getElem? (i := 6) rfl)) (fun _ h9 => h9) rfl dX1_followValues_20 ?_
        refine lv_iload_n hx hb dX1_followValues_23 rfl (lv_at hl 2 rfl) ?_
        have f_14 : g_8 2082 = .inl (cA 2082, 200, .inl (fun j => nI (mk2_4 j))) := (fr_9 2082 (by omega)).trans h82b
        refine m_zald hx hb hK hP 2082 (by decide) rfl f_14 (i := i) (by omega) (by decide) dX1_followValues_24 ?_
        have b_15 := hmbb i
        refine lv_if_eq (tgt := 66) hx hb dX1_followValues_25 (by decide) (fun c_16 => ?_) (fun c_16 => ?_)
        · have c_16 := (nI_eq (a := (mk2_4 i)) (b := 0) (by omega) (by decide)).mp c_16
          refine lv_iinc (v := nI (i + 1)) (lv' := [(2, .int (nI (i + 1))), (0, .ref (ad 2090)), (1, .int (nI root))]) hx hb dX1_followValues_66 hl (k := 2) rfl (nI_add i 1) (by decide) rfl (fun ls hl => ?_)
          refine lv_goto (tgt := 11) hx hb dX1_followValues_69 (by decide) ?_
          exact ih_7 (i + 1) g_8 (fun (k : Nat) (hk : k < 18 ∨ (24 ≤ k ∧ k < 876) ∨ 2076 ≤ k) => (fr_9 k (by omega)).trans (rfl)) (by omega) (by omega) hAL _ _ _ hP hS (lv_sub (l' := [(0, .ref (ad 2090)), (1, .int (nI root)), (2, .int (nI (i + 1)))]) hl [1, 2, 0] rfl)
        · have c_16 := mt (nI_eq (a := (mk2_4 i)) (b := 0) (by omega) (by decide)).mpr c_16
          refine lv_aload_n hx hb dX1_followValues_28 rfl (lv_at hl 0 rfl) ?_
          refine lv_aload_n hx hb dX1_followValues_29 rfl (lv_at hl 0 rfl) ?_
          refine m_get (D := (dC, dI)) (v := .ref (ad 2080)) (C := RX1) (T := TX1) (N := 10) hx hb hts bk0 hown hK hP 2090 (by decide) f_12 rfl 0 (by decide) (hts (.fieldLink RX1 47 "GradientDesk$Course" "shelf" "LGradientDesk$Shelf;") (List.mem_of_getElem? (i := 1) rfl)) (fun _ h9 => h9) rfl dX1_followValues_30 ?_
          refine m_get (D := (dC, dI)) (v := .ref (ad 2081)) (C := RX6) (T := TX6) (N := 7) hx hb hts bk2 hown hK hP 2080 (by decide) f_13 rfl 0 (by decide) (hts (.fieldLink RX1 69 "GradientDesk$Shelf" "parts" "[LGradientDesk$Part;") (List.mem_of_getElem? (i := 7) rfl)) (fun _ h9 => h9) rfl dX1_followValues_33 ?_
          refine lv_iload_n hx hb dX1_followValues_36 rfl (lv_at hl 2 rfl) ?_
          have f_19 : g_8 2081 = .inl (cA 2081, 200, .inr (.inr (.inr (.inr (fun j => some (ad (2117 + 2 * j))))))) := (fr_9 2081 (by omega)).trans ((fr_5 2081 (by omega)).trans hPa)
          refine m_aald hx hb hK hP 2081 (by decide) rfl f_19 (i := i) (v := ad (2117 + 2 * i)) (by omega) (by decide) rfl dX1_followValues_37 ?_
          refine lv_aload_n hx hb dX1_followValues_38 rfl (lv_at hl 0 rfl) ?_
          refine m_get (D := (dC, dI)) (v := .ref (ad 2093)) (C := RX1) (T := TX1) (N := 10) hx hb hts bk0 hown hK hP 2090 (by decide) f_12 rfl 3 (by decide) (hts (.fieldLink RX1 20 "GradientDesk$Course" "bases" "[LGradientDesk$Whole;") (List.mem_of_getElem? (i := 8) rfl)) (fun _ h9 => h9) rfl dX1_followValues_39 ?_
          refine lv_iload_n hx hb dX1_followValues_42 rfl (lv_at hl 2 rfl) ?_
          have f_20 : g_8 2093 = .inl (cA 2093, 200, .inr (.inr (.inr (.inr (fun j => some (ad (2 * (838 + j)))))))) := (fr_9 2093 (by omega)).trans ((fr_5 2093 (by omega)).trans y3)
          refine m_aald hx hb hK hP 2093 (by decide) rfl f_20 (i := i) (v := ad (2 * (838 + i))) (by omega) (by decide) rfl dX1_followValues_43 ?_
          have hC_22 : CS ad cA g_8 L := CS.same hC hAL (fun (k : Nat) (hk : (76 ≤ k ∧ k < 876) ∨ k = 2077 ∨ k = 2107 ∨ k = 2080 ∨ k = 2081 ∨ (2117 ≤ k ∧ k < 2517)) => (fr_9 k (by omega)).trans ((fr_5 k (by omega)).trans (rfl)))
          refine va_callv (va_runV (As := [.ref (ad (2117 + 2 * i)), .ref (ad (2 * (838 + i)))]) (rest := []) ⟨hx, hb, hml, hown, hts⟩ (c_W1_base l dC dI A ad cA g_8 L i hC_22 hWf (hCr.same (fun (k : Nat) (hk : 2090 ≤ k ∧ k ≤ 2096) => (fr_9 k (by omega)).trans ((fr_5 k (by omega)).trans (rfl)))) (by omega)) (cwV 2 hts (goodIn_app (goodIn_r [Cond.methodLink RX1 73 yX1_findBase, Cond.instanceMethod yX1_findBase, Cond.selects RX1 yX1_findBase yX1_findBase, Cond.initialized RX1] [9, 10, 11, 12] rfl rfl) (goodIn_sub (fun w9 h9 => bk3 w9 h9) gw_W1_base)) rfl rfl rfl (by decide +kernel) ⟨Nat.le_of_ble_eq_true rfl, Nat.le_of_ble_eq_true rfl⟩) ⟨fun a U g mk q => ⟨q.1, q.2.1, q.2.2.1, LY.moved (u := U) (U := U.calling g mk a) (Vm.Alike.refl U.vm) q.2.2.2⟩, va_recv hK hP (ci := 4) (q0 := 2090) rfl (wo_at (by decide) f_12), fun U hU hW => ⟨rfl, by rw [hU]; exact fun q h => hA q (Nat.le_trans hS.1 h), by rw [hU]; exact hP, LY.moved hW.alike hL⟩⟩ rfl rfl hl.1 rfl (lv_room (Nat.le_of_ble_eq_true rfl)) dX1_followValues_44 ⟨(Nat.le_of_ble_eq_true rfl), (Nat.le_of_ble_eq_true rfl)⟩) hS (fun q _ h => h) (fun q h => h) (fun u8 t8 H1 locs ht8 hvm8 hw_23 hB hz1 hk1 hS => ?_)
          obtain ⟨g_24, rfl⟩ : ∃ z, z = u8 := ⟨_, rfl⟩
          try dsimp only at hw_23 hB
          rw [ht8] at hB
          have hP := hB
          generalize H1 = H at hP hS ⊢
          obtain ⟨fr_25, hAW_21⟩ := hw_23
          refine lv_aload_n hx hb dX1_followValues_47 rfl (lv_at hl 0 rfl) ?_
          refine lv_aload_n hx hb dX1_followValues_48 rfl (lv_at hl 0 rfl) ?_
          have f_26 : g_24 2090 = .inr (4, [.ref (ad 2080), .ref (ad 2091), .ref (ad 2092), .ref (ad 2093), .ref (ad 2094), .ref (ad 2095), .ref (ad 2096), .ref (ad (2 * 9)), .ref (ad (2 * 10)), .ref (ad (2 * 11))]) := (fr_25 2090 (by omega)).trans f_12
          refine m_get (D := (dC, dI)) (v := .ref (ad 2080)) (C := RX1) (T := TX1) (N := 10) hx hb hts bk0 hown hK hP 2090 (by decide) f_26 rfl 0 (by decide) (hts (.fieldLink RX1 47 "GradientDesk$Course" "shelf" "LGradientDesk$Shelf;") (List.mem_of_getElem? (i := 1) rfl)) (fun _ h9 => h9) rfl dX1_followValues_49 ?_
          have f_27 : g_24 2080 = .inr (9, [.ref (ad 2081), .ref (ad 2082), .int (nI L.length), .ref (ad 2083), .ref (ad 2077), .ref (ad 2107), .ref (ad (2 * 6))]) := (fr_25 2080 (by omega)).trans f_13
          refine m_get (D := (dC, dI)) (v := .ref (ad 2081)) (C := RX6) (T := TX6) (N := 7) hx hb hts bk2 hown hK hP 2080 (by decide) f_27 rfl 0 (by decide) (hts (.fieldLink RX1 69 "GradientDesk$Shelf" "parts" "[LGradientDesk$Part;") (List.mem_of_getElem? (i := 7) rfl)) (fun _ h9 => h9) rfl dX1_followValues_52 ?_
          refine lv_iload_n hx hb dX1_followValues_55 rfl (lv_at hl 2 rfl) ?_
          have f_28 : g_24 2081 = .inl (cA 2081, 200, .inr (.inr (.inr (.inr (fun j => some (ad (2117 + 2 * j))))))) := (fr_25 2081 (by omega)).trans f_19
          refine m_aald hx hb hK hP 2081 (by decide) rfl f_28 (i := i) (v := ad (2117 + 2 * i)) (by omega) (by decide) rfl dX1_followValues_56 ?_
          refine lv_aload_n hx hb dX1_followValues_57 rfl (lv_at hl 0 rfl) ?_
          refine m_get (D := (dC, dI)) (v := .ref (ad 2091)) (C := RX1) (T := TX1) (N := 10) hx hb hts bk0 hown hK hP 2090 (by decide) f_26 rfl 1 (by decide) (hts (.fieldLink RX1 11 "GradientDesk$Course" "values" "[LGradientDesk$Whole;") (List.mem_of_getElem? (i := 13) rfl)) (fun _ h9 => h9) rfl dX1_followValues_58 ?_
          refine lv_iload_n hx hb dX1_followValues_61 rfl (lv_at hl 2 rfl) ?_
          have f_29 : g_24 2091 = .inl (cA 2091, 200, .inr (.inr (.inr (.inr (fun j => some (ad (2 * (438 + j)))))))) := (fr_25 2091 (by omega)).trans ((fr_9 2091 (by omega)).trans ((fr_5 2091 (by omega)).trans y1))
          refine m_aald hx hb hK hP 2091 (by decide) rfl f_29 (i := i) (v := ad (2 * (438 + i))) (by omega) (by decide) rfl dX1_followValues_62 ?_
          have hC_31 : CS ad cA g_24 L := CS.same hC_22 hAW_21 (fun (k : Nat) (hk : (76 ≤ k ∧ k < 876) ∨ k = 2077 ∨ k = 2107 ∨ k = 2080 ∨ k = 2081 ∨ (2117 ≤ k ∧ k < 2517)) => (fr_25 k (by omega)).trans (rfl))
          refine va_callv (va_runV (As := [.ref (ad (2117 + 2 * i)), .ref (ad (2 * (438 + i)))]) (rest := []) ⟨hx, hb, hml, hown, hts⟩ (c_W1_value l dC dI A ad cA g_24 L i hC_31 hWf (hCr.same (fun (k : Nat) (hk : 2090 ≤ k ∧ k ≤ 2096) => (fr_25 k (by omega)).trans ((fr_9 k (by omega)).trans ((fr_5 k (by omega)).trans (rfl))))) (by omega)) (cwV 2 hts (goodIn_app (goodIn_r [Cond.methodLink RX1 77 yX1_findValue, Cond.instanceMethod yX1_findValue, Cond.selects RX1 yX1_findValue yX1_findValue, Cond.initialized RX1] [14, 15, 16, 12] rfl rfl) (goodIn_sub (fun w9 h9 => bk4 w9 h9) gw_W1_value)) rfl rfl rfl (by decide +kernel) ⟨Nat.le_of_ble_eq_true rfl, Nat.le_of_ble_eq_true rfl⟩) ⟨fun a U g mk q => ⟨q.1, q.2.1, q.2.2.1, LY.moved (u := U) (U := U.calling g mk a) (Vm.Alike.refl U.vm) q.2.2.2⟩, va_recv hK hP (ci := 4) (q0 := 2090) rfl (wo_at (by decide) f_26), fun U hU hW => ⟨rfl, by rw [hU]; exact fun q h => hA q (Nat.le_trans hS.1 h), by rw [hU]; exact hP, LY.moved hW.alike hL⟩⟩ rfl rfl hl.1 rfl (lv_room (Nat.le_of_ble_eq_true rfl)) dX1_followValues_63 ⟨(Nat.le_of_ble_eq_true rfl), (Nat.le_of_ble_eq_true rfl)⟩) hS (fun q _ h => h) (fun q h => h) (fun u8 t8 H1 locs ht8 hvm8 hw_32 hB hz1 hk1 hS => ?_)
          obtain ⟨g_33, rfl⟩ : ∃ z, z = u8 := ⟨_, rfl⟩
          try dsimp only at hw_32 hB
          rw [ht8] at hB
          have hP := hB
          generalize H1 = H at hP hS ⊢
          obtain ⟨fr_34, hAW_30⟩ := hw_32
          refine lv_iinc (v := nI (i + 1)) (lv' := [(2, .int (nI (i + 1))), (0, .ref (ad 2090)), (1, .int (nI root))]) hx hb dX1_followValues_66 hl (k := 2) rfl (nI_add i 1) (by decide) rfl (fun ls hl => ?_)
          refine lv_goto (tgt := 11) hx hb dX1_followValues_69 (by decide) ?_
          exact ih_7 (i + 1) g_33 (fun (k : Nat) (hk : k < 18 ∨ (24 ≤ k ∧ k < 876) ∨ 2076 ≤ k) => (fr_34 k (by omega)).trans ((fr_25 k (by omega)).trans ((fr_9 k (by omega)).trans (rfl)))) (by omega) (by omega) hAW_30 _ _ _ hP hS (lv_sub (l' := [(0, .ref (ad 2090)), (1, .int (nI root)), (2, .int (nI (i + 1)))]) hl [1, 2, 0] rfl)
  have hAW_37 : AW ad cA g_3 := AW.keep hW (fun (k : Nat) (hk : k < 2076) => (fr_5 k (by omega)).trans (rfl))
  exact loop_6 _ 0 g_3 (fun (k : Nat) (hk : k < 18 ∨ (24 ≤ k ∧ k < 876) ∨ 2076 ≤ k) => rfl) (Nat.lt_succ_self _) (by omega) hAW_37 _ _ _ hP hS (lv_sub (l' := [(0, .ref (ad 2090)), (1, .int (nI root)), (2, .int (nI 0))]) hl [1, 2, 0] rfl)
def wd_W1_fslps : List Cond := .code yX1_followSlopes cX1_followSlopes 3 none :: (([.fieldLink RX1 47 "GradientDesk$Course" "shelf" "LGradientDesk$Shelf;", .methodLink RX1 59 yX6_mark, .instanceMethod yX6_mark, .selects RX6 yX6_mark yX6_mark, .initialized RX6, .fieldLink RX1 65 "GradientDesk$Shelf" "marked" "[Z", .fieldLink RX1 69 "GradientDesk$Shelf" "parts" "[LGradientDesk$Part;", .fieldLink RX1 17 "GradientDesk$Course" "slopes" "[LGradientDesk$Whole;", .methodLink RX1 80 yX1_findSlope, .instanceMethod yX1_findSlope, .selects RX1 yX1_findSlope yX1_findSlope, .initialized RX1] : List Cond) ++ (u_ws RX1 TX1 10 ++ (wd_V6_mark ++ (u_ws RX6 TX6 7 ++ (wd_W1_slope ++ ([]))))))
theorem gw_W1_fslps : wd_W1_fslps.all goodWord = true := k_allc rfl (k_all (by decide +kernel) (k_all (gu_X1) (k_all (gw_V6_mark) (k_all (gu_X6) (k_all (gw_W1_slope) (rfl))))))
set_option maxHeartbeats 4000000 in
set_option maxRecDepth 100000 in
theorem c_W1_fslps (l : Launch) (dC : Nat → ClassId) (dI : Nat → Nat → Nat) (A : Nat → Prop) (ad : Nat → Nat) (cA : Nat → ClassId) (g : Nat → va_E) (L : List PD) (root : Nat) (hC : CS ad cA g L) (hWf : WFL L) (hCr : CRS ad cA g) (hMk : MRK cA g) (hrt : root < L.length) : Met l yX1_followSlopes wd_W1_fslps ({ frames := 70, cells := 0, slots := 0, locals := 1400 }) (va_Pc [.ref (ad 2090), .int (nI root)] (PR NSc tyc dC dI A ad cA g)) (va_Qv (fun (u : Nat → va_E) => match u with | g2 => (∀ k, k < 18 ∨ (24 ≤ k ∧ k < 876) ∨ (2076 ≤ k ∧ k ≠ 2082) → g2 k = g k) ∧ AW ad cA g2 ∧ MRK cA g2) (fun (u : Nat → va_E) (t : State) => va_P (dC, dI) vwCl (wo ad NSc u) t.heap) A) (0) (0) A := by
  refine Met.ofW (cc := cX1_followSlopes) (maxL := 3) (ret := none) (by decide) rfl ?_
  intro p e s m args below meth c s₁ B hml hv
  obtain ⟨rfl, hA, hP, hL⟩ := hv
  have hx := B.exec
  have hb := B.bytes
  have hr := B.returns
  have hts := atoms_spec (ws := wd_W1_fslps) B.pre
  have hown : s.vm.findClass RX1 = some m.cls := findClass_of_methodNamed B.named
  have hlocks := B.notSynchronized
  have hK := hL.1
  have hD : ∀ g, va_D A (wo ad NSc g) := fun g => wo_D hL.2.1 hL.2.2 g
  have hS : va_S A s.heap s.heap [] := va_S.rf
  have bk0 : ∀ w ∈ u_ws RX1 TX1 10, w ∈ wd_W1_fslps := fun _ h => List.mem_cons_of_mem _ (List.mem_append_right _ (List.mem_append_left _ h))
  have bk1 : ∀ w ∈ wd_V6_mark, w ∈ wd_W1_fslps := fun _ h => List.mem_cons_of_mem _ (List.mem_append_right _ (List.mem_append_right _ (List.mem_append_left _ h)))
  have bk2 : ∀ w ∈ u_ws RX6 TX6 7, w ∈ wd_W1_fslps := fun _ h => List.mem_cons_of_mem _ (List.mem_append_right _ (List.mem_append_right _ (List.mem_append_right _ (List.mem_append_left _ h))))
  have bk3 : ∀ w ∈ wd_W1_slope, w ∈ wd_W1_fslps := fun _ h => List.mem_cons_of_mem _ (List.mem_append_right _ (List.mem_append_right _ (List.mem_append_right _ (List.mem_append_right _ (List.mem_append_left _ h)))))
  have hl := lv_entry ([.ref (ad 2090), .int (nI root)]) (n := 3) (Nat.le_of_ble_eq_true rfl)
  rw [lg_entry_eq]
  generalize (lg_sl ([.ref (ad 2090), .int (nI root)]) ++ List.replicate (3 - (lg_sl ([.ref (ad 2090), .int (nI root)])).length) Slot.unset).toArray = ls at hl ⊢
  have hl : lv_has ls 3 [(0, .ref (ad 2090)), (1, .int (nI root))] := hl
  have hC0 := hC
  obtain ⟨hLn, hW, ⟨hAr, hWk, hPa, hFr⟩, hO, pt, hPt, hM⟩ := hC0
  unfold CSO at hO
  have hpb := hPt.2
  have hcr9 := hCr
  obtain ⟨y0, y1, y2, y3, y4, ⟨ft, y5⟩, fh, y6⟩ := hcr9
  obtain ⟨mk0, h82, hmb⟩ := hMk
  refine lv_aload_n hx hb dX1_followSlopes_0 rfl (lv_at hl 0 rfl) ?_
  refine m_get (D := (dC, dI)) (v := .ref (ad 2080)) (C := RX1) (T := TX1) (N := 10) hx hb hts bk0 hown hK hP 2090 (by decide) y0 rfl 0 (by decide) (hts (.fieldLink RX1 47 "GradientDesk$Course" "shelf" "LGradientDesk$Shelf;") (List.mem_of_getElem? (i := 1) rfl)) (fun _ h9 => h9) rfl dX1_followSlopes_1 ?_
  refine lv_iload_n hx hb dX1_followSlopes_4 rfl (lv_at hl 1 rfl) ?_
  refine va_calli (va_runV (As := [.int (nI root)]) (rest := []) ⟨hx, hb, hml, hown, hts⟩ (c_V6_mark l dC dI A ad cA g L root mk0 hC hWf hrt h82 hmb) (cwV 1 hts (goodIn_app (goodIn_r [Cond.methodLink RX1 59 yX6_mark, Cond.instanceMethod yX6_mark, Cond.selects RX6 yX6_mark yX6_mark, Cond.initialized RX6] [2, 3, 4, 5] rfl rfl) (goodIn_sub (fun w9 h9 => bk1 w9 h9) gw_V6_mark)) rfl rfl rfl (by decide +kernel) ⟨Nat.le_of_ble_eq_true rfl, Nat.le_of_ble_eq_true rfl⟩) ⟨fun a U g mk q => ⟨q.1, q.2.1, q.2.2.1, LY.moved (u := U) (U := U.calling g mk a) (Vm.Alike.refl U.vm) q.2.2.2⟩, va_recv hK hP (ci := 9) (q0 := 2080) rfl (wo_at (by decide) hO), fun U hU hW => ⟨rfl, by rw [hU]; exact fun q h => hA q (Nat.le_trans hS.1 h), by rw [hU]; exact hP, LY.moved hW.alike hL⟩⟩ rfl rfl hl.1 rfl (lv_room (Nat.le_of_ble_eq_true rfl)) dX1_followSlopes_5 ⟨(Nat.le_of_ble_eq_true rfl), (Nat.le_of_ble_eq_true rfl)⟩) hS (fun q _ h => h) (fun q h => h) (fun r_1 u8 t8 H1 locs ht8 hvm8 hw_2 hB hz1 hk1 hS => ?_)
  obtain ⟨g_3, mk2_4⟩ := u8
  try dsimp only at hw_2 hB
  rw [ht8] at hB
  have hP := hB
  generalize H1 = H at hP hS ⊢
  obtain ⟨fr_5, h82b, hmbb, -, -⟩ := hw_2
  refine lv_pop hx hb dX1_followSlopes_8 rfl ?_
  refine lv_iconst (v := nI 0) hx hb dX1_followSlopes_9 (by decide +kernel) ?_
  refine lv_istore_n (lv' := [(2, .int (nI 0)), (0, .ref (ad 2090)), (1, .int (nI root))]) hx hb dX1_followSlopes_10 rfl hl (by decide) rfl (fun ls hl => ?_)
  have loop_6 : ∀ (k9 : Nat) (i : Nat) (g_8 : Nat → va_E) (fr_9 : ∀ k, (k < 18 ∨ (24 ≤ k ∧ k < 876) ∨ 2076 ≤ k) → g_8 k = g_3 k), 300 - i < k9 → (i ≤ root + 1) → (AW ad cA g_8) → ∀ (H : Heap) (locs : List Loc) (ls : Array Slot), va_P (dC, dI) vwCl (wo ad NSc g_8) H → va_S A s.heap H locs → lv_has ls 3 [(0, .ref (ad 2090)), (1, .int (nI root)), (2, .int (nI i))] → W p l e (headSpec wd_W1_fslps ({ frames := 70, cells := 0, slots := 0, locals := 1400 })).room s m ([.ref (ad 2090), .int (nI root)] : List Value).toArray below meth c H locs (0) (0) (MQ below (va_Qv (fun (u : Nat → va_E) => match u with | g2 => (∀ k, k < 18 ∨ (24 ≤ k ∧ k < 876) ∨ (2076 ≤ k ∧ k ≠ 2082) → g2 k = g k) ∧ AW ad cA g2 ∧ MRK cA g2) (fun (u : Nat → va_E) (t : State) => va_P (dC, dI) vwCl (wo ad NSc u) t.heap) A) ([.ref (ad 2090), .int (nI root)] : List Value).toArray s (0) (0) A) (F0 m 11 ls []) := by
    intro k9
    induction k9 with
    | zero => intro i g_8 fr_9 h9; exact absurd h9 (Nat.not_lt_zero _)
    | succ k9 ih_7 =>
      intro i g_8 fr_9 h9 hi hAL H locs ls hP hS hl
      refine lv_iload_n hx hb dX1_followSlopes_11 rfl (lv_at hl 2 rfl) ?_
      refine lv_iload_n hx hb dX1_followSlopes_12 rfl (lv_at hl 1 rfl) ?_
      refine lv_icmp_gt (tgt := 53) hx hb dX1_followSlopes_13 (by decide) (fun c_10 => ?_) (fun c_10 => ?_)
      · have c_10 := (nI_ltI (a := root) (b := i) (by omega) (by omega)).mp c_10
        have f_11 : g_8 2082 = .inl (cA 2082, 200, .inl (fun j => nI (mk2_4 j))) := (fr_9 2082 (by omega)).trans h82b
        refine W.widen (k := 0) (n := 0) (by omega) (by omega) ?_
        exact W.vret hx hb hr (fun t9 ht9 hW9 => ⟨⟨g_8, rfl, ⟨(fun (k : Nat) (hk : k < 18 ∨ (24 ≤ k ∧ k < 876) ∨ (2076 ≤ k ∧ k ≠ 2082)) => (fr_9 k (by omega)).trans ((fr_5 k (by omega)).trans (rfl))), hAL, mk2_4, f_11, hmbb⟩, by show va_P (dC, dI) vwCl _ t9.heap; rw [ht9]; exact hP⟩, hS.F ht9⟩) hS.2.2 dX1_followSlopes_53
      · have c_10 := mt (nI_ltI (a := root) (b := i) (by omega) (by omega)).mpr c_10
        refine lv_aload_n hx hb dX1_followSlopes_16 rfl (lv_at hl 0 rfl) ?_
        have f_12 : g_8 2090 = .inr (4, [.ref (ad 2080), .ref (ad 2091), .ref (ad 2092), .ref (ad 2093), .ref (ad 2094), .ref (ad 2095), .ref (ad 2096), .ref (ad (2 * 9)), .ref (ad (2 * 10)), .ref (ad (2 * 11))]) := (fr_9 2090 (by omega)).trans ((fr_5 2090 (by omega)).trans y0)
        refine m_get (D := (dC, dI)) (v := .ref (ad 2080)) (C := RX1) (T := TX1) (N := 10) hx hb hts bk0 hown hK hP 2090 (by decide) f_12 rfl 0 (by decide) (hts (.fieldLink RX1 47 "GradientDesk$Course" "shelf" "LGradientDesk$Shelf;") (List.mem_of_getElem? (i := 1) rfl)) (fun _ h9 => h9) rfl dX1_followSlopes_17 ?_
        have f_13 : g_8 2080 = .inr (9, [.ref (ad 2081), .ref (ad 2082), .int (nI L.length), .ref (ad 2083), .ref (ad 2077), .ref (ad 2107), .ref (ad (2 * 6))]) := (fr_9 2080 (by omega)).trans ((fr_5 2080 (by omega)).trans hO)
        refine m_get (D := (dC, dI)) (v := .ref (ad 2082)) (C := RX6) (T := TX6) (N := 7) hx hb hts bk2 hown hK hP 2080 (by decide) f_13 rfl 1 (by decide) (hts (.fieldLink RX1 65 "GradientDesk$Shelf" "marked" "[Z") (List.mem_of_getElem? (i := 6) rfl)) (fun _ h9 => h9) rfl dX1_followSlopes_20 ?_
        refine lv_iload_n hx hb dX1_followSlopes_23 rfl (lv_at hl 2 rfl) ?_
        have f_14 : g_8 2082 = .inl (cA 2082, 200, .inl (fun j => nI (mk2_4 j))) := (fr_9 2082 (by omega)).trans h82b
        refine m_zald hx hb hK hP 2082 (by decide) rfl f_14 (i := i) (by omega) (by decide) dX1_followSlopes_24 ?_
        have b_15 := hmbb i
        refine lv_if_eq (tgt := 47) hx hb dX1_followSlopes_25 (by decide) (fun c_16 => ?_) (fun c_16 => ?_)
        · have c_16 := (nI_eq (a := (mk2_4 i)) (b := 0) (by omega) (by decide)).mp c_16
          refine lv_iinc (v := nI (i + 1)) (lv' := [(2, .int (nI (i + 1))), (0, .ref (ad 2090)), (1, .int (nI root))]) hx hb dX1_followSlopes_47 hl (k := 2) rfl (nI_add i 1) (by decide) rfl (fun ls hl => ?_)
          refine lv_goto (tgt := 11) hx hb dX1_followSlopes_50 (by decide) ?_
          exact ih_7 (i + 1) g_8 (fun (k : Nat) (hk : k < 18 ∨ (24 ≤ k ∧ k < 876) ∨ 2076 ≤ k) => (fr_9 k (by omega)).trans (rfl)) (by omega) (by omega) hAL _ _ _ hP hS (lv_sub (l' := [(0, .ref (ad 2090)), (1, .int (nI root)), (2, .int (nI (i + 1)))]) hl [1, 2, 0] rfl)
        · have c_16 := mt (nI_eq (a := (mk2_4 i)) (b := 0) (by omega) (by decide)).mpr c_16
          refine lv_aload_n hx hb dX1_followSlopes_28 rfl (lv_at hl 0 rfl) ?_
          refine lv_aload_n hx hb dX1_followSlopes_29 rfl (lv_at hl 0 rfl) ?_
          refine m_get (D := (dC, dI)) (v := .ref (ad 2080)) (C := RX1) (T := TX1) (N := 10) hx hb hts bk0 hown hK hP 2090 (by decide) f_12 rfl 0 (by decide) (hts (.fieldLink RX1 47 "GradientDesk$Course" "shelf" "LGradientDesk$Shelf;") (List.mem_of_getElem? (i := 1) rfl)) (fun _ h9 => h9) rfl dX1_followSlopes_30 ?_
          refine m_get (D := (dC, dI)) (v := .ref (ad 2081)) (C := RX6) (T := TX6) (N := 7) hx hb hts bk2 hown hK hP 2080 (by decide) f_13 rfl 0 (by decide) (hts (.fieldLink RX1 69 "GradientDesk$Shelf" "parts" "[LGradientDesk$Part;") (List.mem_of_getElem? (i := 7) rfl)) (fun _ h9 => h9) rfl dX1_followSlopes_33 ?_
          refine lv_iload_n hx hb dX1_followSlopes_36 rfl (lv_at hl 2 rfl) ?_
          have f_19 : g_8 2081 = .inl (cA 2081, 200, .inr (.inr (.inr (.inr (fun j => some (ad (2117 + 2 * j))))))) := (fr_9 2081 (by omega)).trans ((fr_5 2081 (by omega)).trans hPa)
          refine m_aald hx hb hK hP 2081 (by decide) rfl f_19 (i := i) (v := ad (2117 + 2 * i)) (by omega) (by decide) rfl dX1_followSlopes_37 ?_
          refine lv_aload_n hx hb dX1_followSlopes_38 rfl (lv_at hl 0 rfl) ?_
          refine m_get (D := (dC, dI)) (v := .ref (ad 2092)) (C := RX1) (T := TX1) (N := 10) hx hb hts bk0 hown hK hP 2090 (by decide) f_12 rfl 2 (by decide) (hts (.fieldLink RX1 17 "GradientDesk$Course" "slopes" "[LGradientDesk$Whole;") (List.mem_of_getElem? (i := 8) rfl)) (fun _ h9 => h9) rfl dX1_followSlopes_39 ?_
          refine lv_iload_n hx hb dX1_followSlopes_42 rfl (lv_at hl 2 rfl) ?_
          have f_20 : g_8 2092 = .inl (cA 2092, 200, .inr (.inr (.inr (.inr (fun j => some (ad (2 * (638 + j)))))))) := (fr_9 2092 (by omega)).trans ((fr_5 2092 (by omega)).trans y2)
          refine m_aald hx hb hK hP 2092 (by decide) rfl f_20 (i := i) (v := ad (2 * (638 + i))) (by omega) (by decide) rfl dX1_followSlopes_43 ?_
          have hC_22 : CS ad cA g_8 L := CS.same hC hAL (fun (k : Nat) (hk : (76 ≤ k ∧ k < 876) ∨ k = 2077 ∨ k = 2107 ∨ k = 2080 ∨ k = 2081 ∨ (2117 ≤ k ∧ k < 2517)) => (fr_9 k (by omega)).trans ((fr_5 k (by omega)).trans (rfl)))
          refine va_callv (va_runV (As := [.ref (ad (2117 + 2 * i)), .ref (ad (2 * (638 + i)))]) (rest := []) ⟨hx, hb, hml, hown, hts⟩ (c_W1_slope l dC dI A ad cA g_8 L i hC_22 hWf (hCr.same (fun (k : Nat) (hk : 2090 ≤ k ∧ k ≤ 2096) => (fr_9 k (by omega)).trans ((fr_5 k (by omega)).trans (rfl)))) (by omega)) (cwV 2 hts (goodIn_app (goodIn_r [Cond.methodLink RX1 80 yX1_findSlope, Cond.instanceMethod yX1_findSlope, Cond.selects RX1 yX1_findSlope yX1_findSlope, Cond.initialized RX1] [9, 10, 11, 12] rfl rfl) (goodIn_sub (fun w9 h9 => bk3 w9 h9) gw_W1_slope)) rfl rfl rfl (by decide +kernel) ⟨Nat.le_of_ble_eq_true rfl, Nat.le_of_ble_eq_true rfl⟩) ⟨fun a U g mk q => ⟨q.1, q.2.1, q.2.2.1, LY.moved (u := U) (U := U.calling g mk a) (Vm.Alike.refl U.vm) q.2.2.2⟩, va_recv hK hP (ci := 4) (q0 := 2090) rfl (wo_at (by decide) f_12), fun U hU hW => ⟨rfl, by rw [hU]; exact fun q h => hA q (Nat.le_trans hS.1 h), by rw [hU]; exact hP, LY.moved hW.alike hL⟩⟩ rfl rfl hl.1 rfl (lv_room (Nat.le_of_ble_eq_true rfl)) dX1_followSlopes_44 ⟨(Nat.le_of_ble_eq_true rfl), (Nat.le_of_ble_eq_true rfl)⟩) hS (fun q _ h => h) (fun q h => h) (fun u8 t8 H1 locs ht8 hvm8 hw_23 hB hz1 hk1 hS => ?_)
          obtain ⟨g_24, rfl⟩ : ∃ z, z = u8 := ⟨_, rfl⟩
          try dsimp only at hw_23 hB
          rw [ht8] at hB
          have hP := hB
          generalize H1 = H at hP hS ⊢
          obtain ⟨fr_25, hAW_21⟩ := hw_23
          refine lv_iinc (v := nI (i + 1)) (lv' := [(2, .int (nI (i + 1))), (0, .ref (ad 2090)), (1, .int (nI root))]) hx hb dX1_followSlopes_47 hl (k := 2) rfl (nI_add i 1) (by decide) rfl (fun ls hl => ?_)
          refine lv_goto (tgt := 11) hx hb dX1_followSlopes_50 (by decide) ?_
          exact ih_7 (i + 1) g_24 (fun (k : Nat) (hk : k < 18 ∨ (24 ≤ k ∧ k < 876) ∨ 2076 ≤ k) => (fr_25 k (by omega)).trans ((fr_9 k (by omega)).trans (rfl))) (by omega) (by omega) hAW_21 _ _ _ hP hS (lv_sub (l' := [(0, .ref (ad 2090)), (1, .int (nI root)), (2, .int (nI (i + 1)))]) hl [1, 2, 0] rfl)
  have hAW_28 : AW ad cA g_3 := AW.keep hW (fun (k : Nat) (hk : k < 2076) => (fr_5 k (by omega)).trans (rfl))
  exact loop_6 _ 0 g_3 (fun (k : Nat) (hk : k < 18 ∨ (24 ≤ k ∧ k < 876) ∨ 2076 ≤ k) => rfl) (Nat.lt_succ_self _) (by omega) hAW_28 _ _ _ hP hS (lv_sub (l' := [(0, .ref (ad 2090)), (1, .int (nI root)), (2, .int (nI 0))]) hl [1, 2, 0] rfl)
def wd_W1_showV : List Cond := .code yX1_showValue cX1_showValue 3 none :: (([.fieldLink RX1 83 "GradientDesk$Fraction" "top" "LGradientDesk$Whole;", .fieldLink RX1 11 "GradientDesk$Course" "values" "[LGradientDesk$Whole;", .methodLink RX1 88 yX8_become, .instanceMethod yX8_become, .selects RX8 yX8_become yX8_become, .initialized RX8, .fieldLink RX1 92 "GradientDesk$Fraction" "bottom" "LGradientDesk$Whole;", .fieldLink RX1 20 "GradientDesk$Course" "bases" "[LGradientDesk$Whole;", .fieldLink RX1 23 "GradientDesk$Course" "scales" "[LGradientDesk$Whole;", .fieldLink RX1 47 "GradientDesk$Course" "shelf" "LGradientDesk$Shelf;", .fieldLink RX1 69 "GradientDesk$Shelf" "parts" "[LGradientDesk$Part;", .fieldLink RX1 95 "GradientDesk$Part" "degree" "I", .methodLink RX1 55 yX8_multiply, .instanceMethod yX8_multiply, .selects RX8 yX8_multiply yX8_multiply] : List Cond) ++ (u_ws RX2 TX2 2 ++ (u_ws RX1 TX1 10 ++ (wd_X8_become ++ (u_ws RX6 TX6 7 ++ (u_ws RX3 TX3 7 ++ (wd_X8_multiply ++ ([]))))))))
theorem gw_W1_showV : wd_W1_showV.all goodWord = true := k_allc rfl (k_all (by decide +kernel) (k_all (gu_X2) (k_all (gu_X1) (k_all (gw_X8_become) (k_all (gu_X6) (k_all (gu_X3) (k_all (gw_X8_multiply) (rfl))))))))
set_option maxHeartbeats 4000000 in
set_option maxRecDepth 100000 in
theorem c_W1_showV (l : Launch) (dC : Nat → ClassId) (dI : Nat → Nat → Nat) (A : Nat → Prop) (ad : Nat → Nat) (cA : Nat → ClassId) (g : Nat → va_E) (L : List PD) (root : Nat) (F : Nat) (Fa : Nat) (Fb : Nat) (hC : CS ad cA g L) (hWf : WFL L) (hCr : CRS ad cA g) (hF : g F = .inr (5, [.ref (ad (2 * Fa)), .ref (ad (2 * Fb))])) (lF : F < NSc ∧ 2076 ≤ F) (jF : 4 ≤ Fa ∧ Fa < 1038 ∧ 4 ≤ Fb ∧ Fb < 1038 ∧ Fa ≠ Fb) (hrt : root < L.length) (hF2 : ((7 ≤ Fa ∧ Fa < 9) ∨ (13 ≤ Fa ∧ Fa < 29)) ∧ ((7 ≤ Fb ∧ Fb < 9) ∨ (13 ≤ Fb ∧ Fb < 29))) : Met l yX1_showValue wd_W1_showV ({ frames := 40, cells := 0, slots := 0, locals := 800 }) (va_Pc [.ref (ad 2090), .int (nI root), .ref (ad F)] (PR NSc tyc dC dI A ad cA g)) (va_Qv (fun (u : Nat → va_E) => match u with | g2 => (∀ k, k ≠ 2 * Fa ∧ k ≠ 2 * Fa + 1 ∧ k ≠ 2 * Fb ∧ k ≠ 2 * Fb + 1 → g2 k = g k) ∧ AW ad cA g2) (fun (u : Nat → va_E) (t : State) => va_P (dC, dI) vwCl (wo ad NSc u) t.heap) A) (0) (0) A := by
  refine Met.ofW (cc := cX1_showValue) (maxL := 3) (ret := none) (by decide) rfl ?_
  intro p e s m args below meth c s₁ B hml hv
  obtain ⟨rfl, hA, hP, hL⟩ := hv
  have hx := B.exec
  have hb := B.bytes
  have hr := B.returns
  have hts := atoms_spec (ws := wd_W1_showV) B.pre
  have hown : s.vm.findClass RX1 = some m.cls := findClass_of_methodNamed B.named
  have hlocks := B.notSynchronized
  have hK := hL.1
  have hD : ∀ g, va_D A (wo ad NSc g) := fun g => wo_D hL.2.1 hL.2.2 g
  have hS : va_S A s.heap s.heap [] := va_S.rf
  have bk0 : ∀ w ∈ u_ws RX2 TX2 2, w ∈ wd_W1_showV := fun _ h => List.mem_cons_of_mem _ (List.mem_append_right _ (List.mem_append_left _ h))
  have bk1 : ∀ w ∈ u_ws RX1 TX1 10, w ∈ wd_W1_showV := fun _ h => List.mem_cons_of_mem _ (List.mem_append_right _ (List.mem_append_right _ (List.mem_append_left _ h)))
  have bk2 : ∀ w ∈ wd_X8_become, w ∈ wd_W1_showV := fun _ h => List.mem_cons_of_mem _ (List.mem_append_right _ (List.mem_append_right _ (List.mem_append_right _ (List.mem_append_left _ h))))
  have bk3 : ∀ w ∈ u_ws RX6 TX6 7, w ∈ wd_W1_showV := fun _ h => List.mem_cons_of_mem _ (List.mem_append_right _ (List.mem_append_right _ (List.mem_append_right _ (List.mem_append_right _ (List.mem_append_left _ h)))))
  have bk4 : ∀ w ∈ u_ws RX3 TX3 7, w ∈ wd_W1_showV := fun _ h => List.mem_cons_of_mem _ (List.mem_append_right _ (List.mem_append_right _ (List.mem_append_right _ (List.mem_append_right _ (List.mem_append_right _ (List.mem_append_left _ h))))))
  have bk5 : ∀ w ∈ wd_X8_multiply, w ∈ wd_W1_showV := fun _ h => List.mem_cons_of_mem _ (List.mem_append_right _ (List.mem_append_right _ (List.mem_append_right _ (List.mem_append_right _ (List.mem_append_right _ (List.mem_append_right _ (List.mem_append_left _ h)))))))
  have hl := lv_entry ([.ref (ad 2090), .int (nI root), .ref (ad F)]) (n := 3) (Nat.le_of_ble_eq_true rfl)
  rw [lg_entry_eq]
  generalize (lg_sl ([.ref (ad 2090), .int (nI root), .ref (ad F)]) ++ List.replicate (3 - (lg_sl ([.ref (ad 2090), .int (nI root), .ref (ad F)])).length) Slot.unset).toArray = ls at hl ⊢
  have hl : lv_has ls 3 [(0, .ref (ad 2090)), (1, .int (nI root)), (2, .ref (ad F))] := hl
  have hC0 := hC
  obtain ⟨hLn, hW, ⟨hAr, hWk, hPa, hFr⟩, hO, pt, hPt, hM⟩ := hC0
  unfold CSO at hO
  have hpb := hPt.2
  obtain ⟨a0root, a1root, a2root, a3root, a4root, a5root, a6root⟩ := hM root hrt
  obtain ⟨w1root, w2root, w3root, w4root, w5root, -⟩ := hWf root hrt
  have hproot : g (2117 + 2 * root) = .inr (6, [.ref (ad (2118 + 2 * root)), .int (nI ((gd L root).1)), .int (iI ((gd L root).2.1)), .int (iI ((gd L root).2.2.1)), .int (nI ((gd L root).2.2.2.1)), .int (nI ((gd L root).2.2.2.2.1)), .int (nI ((gd L root).2.2.2.2.2.1))]) := by rw [hPt.1 root (by clear a6root; omega), a0root, a1root, a2root, a3root, a4root, a5root, nI_iI, nI_iI, nI_iI, nI_iI]
  obtain ⟨fnroot, hfnroot⟩ : ∃ z : Prop, z = ((gd L root).1 = 0 → CMN ad cA g (gd L root) root) := ⟨_, rfl⟩
  rw [← hfnroot] at a6root
  have hcr9 := hCr
  obtain ⟨y0, y1, y2, y3, y4, ⟨ft, y5⟩, fh, y6⟩ := hcr9
  refine lv_aload_n hx hb dX1_showValue_0 rfl (lv_at hl 2 rfl) ?_
  refine m_get (D := (dC, dI)) (v := .ref (ad (2 * Fa))) (C := RX2) (T := TX2) (N := 2) hx hb hts bk0 hown hK hP F lF.1 hF rfl 0 (by decide) (hts (.fieldLink RX1 83 "GradientDesk$Fraction" "top" "LGradientDesk$Whole;") (List.mem_of_getElem? (i := 1) rfl)) (fun _ h9 => h9) rfl dX1_showValue_1 ?_
  refine lv_aload_n hx hb dX1_showValue_4 rfl (lv_at hl 0 rfl) ?_
  refine m_get (D := (dC, dI)) (v := .ref (ad 2091)) (C := RX1) (T := TX1) (N := 10) hx hb hts bk1 hown hK hP 2090 (by decide) y0 rfl 1 (by decide) (hts (.fieldLink RX1 11 "GradientDesk$Course" "values" "[LGradientDesk$Whole;") (List.mem_of_getElem? (i := 2) rfl)) (fun _ h9 => h9) rfl dX1_showValue_5 ?_
  refine lv_iload_n hx hb dX1_showValue_8 rfl (lv_at hl 1 rfl) ?_
  refine m_aald hx hb hK hP 2091 (by decide) rfl y1 (i := root) (v := ad (2 * (438 + root))) (by omega) (by decide) rfl dX1_showValue_9 ?_
  obtain ⟨mw_1, sw_1, nw_1, fw_1, aw_1, bw_1, cw_1, dw_1, ew_1⟩ := hW Fa (by omega)
  have qw_1 : mw_1 ≤ 4096 := by rw [dw_1]; exact rmc_le _
  refine va_callv (va_runV (As := [.ref (ad (2 * (438 + root)))]) (rest := []) ⟨hx, hb, hml, hown, hts⟩ (c_X8_become l dC dI A ad cA g Fa (438 + root) hW (by omega) (by omega) (by omega)) (cwV 1 hts (goodIn_app (goodIn_r [Cond.methodLink RX1 88 yX8_become, Cond.instanceMethod yX8_become, Cond.selects RX8 yX8_become yX8_become, Cond.initialized RX8] [3, 4, 5, 6] rfl rfl) (goodIn_sub (fun w9 h9 => bk2 w9 h9) gw_X8_become)) rfl rfl rfl (by decide +kernel) ⟨Nat.le_of_ble_eq_true rfl, Nat.le_of_ble_eq_true rfl⟩) ⟨fun a U g mk q => ⟨q.1, q.2.1, q.2.2.1, LY.moved (u := U) (U := U.calling g mk a) (Vm.Alike.refl U.vm) q.2.2.2⟩, va_recv hK hP (ci := 11) (q0 := (2 * Fa)) rfl (wo_at (ns_w (by omega)) aw_1), fun U hU hW => ⟨rfl, by rw [hU]; exact fun q h => hA q (Nat.le_trans hS.1 h), by rw [hU]; exact hP, LY.moved hW.alike hL⟩⟩ rfl rfl hl.1 rfl (lv_room (Nat.le_of_ble_eq_true rfl)) dX1_showValue_10 ⟨(Nat.le_of_ble_eq_true rfl), (Nat.le_of_ble_eq_true rfl)⟩) hS (fun q _ h => h) (fun q h => h) (fun u8 t8 H1 locs ht8 hvm8 hw_3 hB hz1 hk1 hS => ?_)
  obtain ⟨g_4, rfl⟩ : ∃ z, z = u8 := ⟨_, rfl⟩
  try dsimp only at hw_3 hB
  rw [ht8] at hB
  have hP := hB
  generalize H1 = H at hP hS ⊢
  obtain ⟨fr_5, hAW_2⟩ := hw_3
  refine lv_aload_n hx hb dX1_showValue_13 rfl (lv_at hl 2 rfl) ?_
  have f_6 : g_4 F = .inr (5, [.ref (ad (2 * Fa)), .ref (ad (2 * Fb))]) := (fr_5 F (by omega)).trans hF
  refine m_get (D := (dC, dI)) (v := .ref (ad (2 * Fb))) (C := RX2) (T := TX2) (N := 2) hx hb hts bk0 hown hK hP F lF.1 f_6 rfl 1 (by decide) (hts (.fieldLink RX1 92 "GradientDesk$Fraction" "bottom" "LGradientDesk$Whole;") (List.mem_of_getElem? (i := 7) rfl)) (fun _ h9 => h9) rfl dX1_showValue_14 ?_
  refine lv_aload_n hx hb dX1_showValue_17 rfl (lv_at hl 0 rfl) ?_
  have f_7 : g_4 2090 = .inr (4, [.ref (ad 2080), .ref (ad 2091), .ref (ad 2092), .ref (ad 2093), .ref (ad 2094), .ref (ad 2095), .ref (ad 2096), .ref (ad (2 * 9)), .ref (ad (2 * 10)), .ref (ad (2 * 11))]) := (fr_5 2090 (by omega)).trans y0
  refine m_get (D := (dC, dI)) (v := .ref (ad 2093)) (C := RX1) (T := TX1) (N := 10) hx hb hts bk1 hown hK hP 2090 (by decide) f_7 rfl 3 (by decide) (hts (.fieldLink RX1 20 "GradientDesk$Course" "bases" "[LGradientDesk$Whole;") (List.mem_of_getElem? (i := 8) rfl)) (fun _ h9 => h9) rfl dX1_showValue_18 ?_
  refine lv_iload_n hx hb dX1_showValue_21 rfl (lv_at hl 1 rfl) ?_
  have f_8 : g_4 2093 = .inl (cA 2093, 200, .inr (.inr (.inr (.inr (fun j => some (ad (2 * (838 + j)))))))) := (fr_5 2093 (by omega)).trans y3
  refine m_aald hx hb hK hP 2093 (by decide) rfl f_8 (i := root) (v := ad (2 * (838 + root))) (by omega) (by decide) rfl dX1_showValue_22 ?_
  refine lv_aload_n hx hb dX1_showValue_23 rfl (lv_at hl 0 rfl) ?_
  refine m_get (D := (dC, dI)) (v := .ref (ad 2094)) (C := RX1) (T := TX1) (N := 10) hx hb hts bk1 hown hK hP 2090 (by decide) f_7 rfl 4 (by decide) (hts (.fieldLink RX1 23 "GradientDesk$Course" "scales" "[LGradientDesk$Whole;") (List.mem_of_getElem? (i := 9) rfl)) (fun _ h9 => h9) rfl dX1_showValue_24 ?_
  refine lv_aload_n hx hb dX1_showValue_27 rfl (lv_at hl 0 rfl) ?_
  refine m_get (D := (dC, dI)) (v := .ref (ad 2080)) (C := RX1) (T := TX1) (N := 10) hx hb hts bk1 hown hK hP 2090 (by decide) f_7 rfl 0 (by decide) (hts (.fieldLink RX1 47 "GradientDesk$Course" "shelf" "LGradientDesk$Shelf;") (List.mem_of_getElem? (i := 10) rfl)) (fun _ h9 => h9) rfl dX1_showValue_28 ?_
  have f_9 : g_4 2080 = .inr (9, [.ref (ad 2081), .ref (ad 2082), .int (nI L.length), .ref (ad 2083), .ref (ad 2077), .ref (ad 2107), .ref (ad (2 * 6))]) := (fr_5 2080 (by omega)).trans hO
  refine m_get (D := (dC, dI)) (v := .ref (ad 2081)) (C := RX6) (T := TX6) (N := 7) hx hb hts bk3 hown hK hP 2080 (by decide) f_9 rfl 0 (by decide) (hts (.fieldLink RX1 69 "GradientDesk$Shelf" "parts" "[LGradientDesk$Part;") (List.mem_of_getElem? (i := 11) rfl)) (fun _ h9 => h9) rfl dX1_showValue_31 ?_
  refine lv_iload_n hx hb dX1_showValue_34 rfl (lv_at hl 1 rfl) ?_
  have f_10 : g_4 2081 = .inl (cA 2081, 200, .inr (.inr (.inr (.inr (fun j => some (ad (2117 + 2 * j))))))) := (fr_5 2081 (by omega)).trans hPa
  refine m_aald hx hb hK hP 2081 (by decide) rfl f_10 (i := root) (v := ad (2117 + 2 * root)) (by omega) (by decide) rfl dX1_showValue_35 ?_
  have f_11 : g_4 (2117 + 2 * root) = .inr (6, [.ref (ad (2118 + 2 * root)), .int (nI ((gd L root).1)), .int (iI ((gd L root).2.1)), .int (iI ((gd L root).2.2.1)), .int (nI ((gd L root).2.2.2.1)), .int (nI ((gd L root).2.2.2.2.1)), .int (nI ((gd L root).2.2.2.2.2.1))]) := (fr_5 (2117 + 2 * root) (by omega)).trans hproot
  refine m_get (D := (dC, dI)) (v := .int (nI ((gd L root).2.2.2.1))) (C := RX3) (T := TX3) (N := 7) hx hb hts bk4 hown hK hP (2117 + 2 * root) (ns_p (by omega)) f_11 rfl 4 (by decide) (hts (.fieldLink RX1 95 "GradientDesk$Part" "degree" "I") (List.mem_of_getElem? (i := 12) rfl)) (fun _ h9 => h9) rfl dX1_showValue_36 ?_
  have f_12 : g_4 2094 = .inl (cA 2094, 9, .inr (.inr (.inr (.inr (fun j => some (ad (2 * (29 + j)))))))) := (fr_5 2094 (by omega)).trans y4
  refine m_aald hx hb hK hP 2094 (by decide) rfl f_12 (i := (gd L root).2.2.2.1) (v := ad (2 * (29 + ((gd L root).2.2.2.1)))) (by omega) (by decide) rfl dX1_showValue_39 ?_
  obtain ⟨mw_13, sw_13, nw_13, fw_13, aw_13, bw_13, cw_13, dw_13, ew_13⟩ := hAW_2 Fb (by omega)
  have qw_13 : mw_13 ≤ 4096 := by rw [dw_13]; exact rmc_le _
  refine va_callv (va_runV (As := [.ref (ad (2 * (838 + root))), .ref (ad (2 * (29 + ((gd L root).2.2.2.1))))]) (rest := []) ⟨hx, hb, hml, hown, hts⟩ (c_X8_multiply l dC dI A ad cA g_4 Fb (838 + root) (29 + ((gd L root).2.2.2.1)) hAW_2 (by omega) (by omega) (by omega) (by omega) (by omega)) (cwV 2 hts (goodIn_app (goodIn_r [Cond.methodLink RX1 55 yX8_multiply, Cond.instanceMethod yX8_multiply, Cond.selects RX8 yX8_multiply yX8_multiply, Cond.initialized RX8] [13, 14, 15, 6] rfl rfl) (goodIn_sub (fun w9 h9 => bk5 w9 h9) gw_X8_multiply)) rfl rfl rfl (by decide +kernel) ⟨Nat.le_of_ble_eq_true rfl, Nat.le_of_ble_eq_true rfl⟩) ⟨fun a U g mk q => ⟨q.1, q.2.1, q.2.2.1, LY.moved (u := U) (U := U.calling g mk a) (Vm.Alike.refl U.vm) q.2.2.2⟩, va_recv hK hP (ci := 11) (q0 := (2 * Fb)) rfl (wo_at (ns_w (by omega)) aw_13), fun U hU hW => ⟨rfl, by rw [hU]; exact fun q h => hA q (Nat.le_trans hS.1 h), by rw [hU]; exact hP, LY.moved hW.alike hL⟩⟩ rfl rfl hl.1 rfl (lv_room (Nat.le_of_ble_eq_true rfl)) dX1_showValue_40 ⟨(Nat.le_of_ble_eq_true rfl), (Nat.le_of_ble_eq_true rfl)⟩) hS (fun q _ h => h) (fun q h => h) (fun u8 t8 H1 locs ht8 hvm8 hw_15 hB hz1 hk1 hS => ?_)
  obtain ⟨g_16, rfl⟩ : ∃ z, z = u8 := ⟨_, rfl⟩
  try dsimp only at hw_15 hB
  rw [ht8] at hB
  have hP := hB
  generalize H1 = H at hP hS ⊢
  obtain ⟨fr_17, hAW_14⟩ := hw_15
  refine W.widen (k := 0) (n := 0) (by omega) (by omega) ?_
  exact W.vret hx hb hr (fun t9 ht9 hW9 => ⟨⟨g_16, rfl, ⟨(fun (k : Nat) (hk : k ≠ 2 * Fa ∧ k ≠ 2 * Fa + 1 ∧ k ≠ 2 * Fb ∧ k ≠ 2 * Fb + 1) => (fr_17 k (by omega)).trans ((fr_5 k (by omega)).trans (rfl))), hAW_14⟩, by show va_P (dC, dI) vwCl _ t9.heap; rw [ht9]; exact hP⟩, hS.F ht9⟩) hS.2.2 dX1_showValue_43
def wd_W1_showS : List Cond := .code yX1_showSlope cX1_showSlope 4 none :: (([.fieldLink RX1 47 "GradientDesk$Course" "shelf" "LGradientDesk$Shelf;", .fieldLink RX1 69 "GradientDesk$Shelf" "parts" "[LGradientDesk$Part;", .fieldLink RX1 95 "GradientDesk$Part" "degree" "I", .fieldLink RX1 83 "GradientDesk$Fraction" "top" "LGradientDesk$Whole;", .fieldLink RX1 17 "GradientDesk$Course" "slopes" "[LGradientDesk$Whole;", .methodLink RX1 88 yX8_become, .instanceMethod yX8_become, .selects RX8 yX8_become yX8_become, .initialized RX8, .fieldLink RX1 92 "GradientDesk$Fraction" "bottom" "LGradientDesk$Whole;", .fieldLink RX1 20 "GradientDesk$Course" "bases" "[LGradientDesk$Whole;", .fieldLink RX1 23 "GradientDesk$Course" "scales" "[LGradientDesk$Whole;", .methodLink RX1 101 Lib.Math.max.name, .static Lib.Math.max.name, .initialized "java/lang/Math", .code Lib.Math.max.name Lib.Math.max.code 2 (some .int), .methodLink RX1 55 yX8_multiply, .instanceMethod yX8_multiply, .selects RX8 yX8_multiply yX8_multiply] : List Cond) ++ (u_ws RX1 TX1 10 ++ (u_ws RX6 TX6 7 ++ (u_ws RX3 TX3 7 ++ (u_ws RX2 TX2 2 ++ (wd_X8_become ++ (wd_X8_multiply ++ ([]))))))))
theorem gw_W1_showS : wd_W1_showS.all goodWord = true := k_allc rfl (k_all (by decide +kernel) (k_all (gu_X1) (k_all (gu_X6) (k_all (gu_X3) (k_all (gu_X2) (k_all (gw_X8_become) (k_all (gw_X8_multiply) (rfl))))))))
set_option maxHeartbeats 4000000 in
set_option maxRecDepth 100000 in
theorem c_W1_showS (l : Launch) (dC : Nat → ClassId) (dI : Nat → Nat → Nat) (A : Nat → Prop) (ad : Nat → Nat) (cA : Nat → ClassId) (g : Nat → va_E) (L : List PD) (root : Nat) (F : Nat) (Fa : Nat) (Fb : Nat) (hC : CS ad cA g L) (hWf : WFL L) (hCr : CRS ad cA g) (hF : g F = .inr (5, [.ref (ad (2 * Fa)), .ref (ad (2 * Fb))])) (lF : F < NSc ∧ 2076 ≤ F) (jF : 4 ≤ Fa ∧ Fa < 1038 ∧ 4 ≤ Fb ∧ Fb < 1038 ∧ Fa ≠ Fb) (hrt : root < L.length) (hF2 : ((7 ≤ Fa ∧ Fa < 9) ∨ (13 ≤ Fa ∧ Fa < 29)) ∧ ((7 ≤ Fb ∧ Fb < 9) ∨ (13 ≤ Fb ∧ Fb < 29))) : Met l yX1_showSlope wd_W1_showS ({ frames := 40, cells := 0, slots := 0, locals := 800 }) (va_Pc [.ref (ad 2090), .int (nI root), .ref (ad F)] (PR NSc tyc dC dI A ad cA g)) (va_Qv (fun (u : Nat → va_E) => match u with | g2 => (∀ k, k ≠ 2 * Fa ∧ k ≠ 2 * Fa + 1 ∧ k ≠ 2 * Fb ∧ k ≠ 2 * Fb + 1 → g2 k = g k) ∧ AW ad cA g2) (fun (u : Nat → va_E) (t : State) => va_P (dC, dI) vwCl (wo ad NSc u) t.heap) A) (0) (0) A := by
  refine Met.ofW (cc := cX1_showSlope) (maxL := 4) (ret := none) (by decide) rfl ?_
  intro p e s m args below meth c s₁ B hml hv
  obtain ⟨rfl, hA, hP, hL⟩ := hv
  have hx := B.exec
  have hb := B.bytes
  have hr := B.returns
  have hts := atoms_spec (ws := wd_W1_showS) B.pre
  have hown : s.vm.findClass RX1 = some m.cls := findClass_of_methodNamed B.named
  have hlocks := B.notSynchronized
  have hK := hL.1
  have hD : ∀ g, va_D A (wo ad NSc g) := fun g => wo_D hL.2.1 hL.2.2 g
  have hS : va_S A s.heap s.heap [] := va_S.rf
  have bk0 : ∀ w ∈ u_ws RX1 TX1 10, w ∈ wd_W1_showS := fun _ h => List.mem_cons_of_mem _ (List.mem_append_right _ (List.mem_append_left _ h))
  have bk1 : ∀ w ∈ u_ws RX6 TX6 7, w ∈ wd_W1_showS := fun _ h => List.mem_cons_of_mem _ (List.mem_append_right _ (List.mem_append_right _ (List.mem_append_left _ h)))
  have bk2 : ∀ w ∈ u_ws RX3 TX3 7, w ∈ wd_W1_showS := fun _ h => List.mem_cons_of_mem _ (List.mem_append_right _ (List.mem_append_right _ (List.mem_append_right _ (List.mem_append_left _ h))))
  have bk3 : ∀ w ∈ u_ws RX2 TX2 2, w ∈ wd_W1_showS := fun _ h => List.mem_cons_of_mem _ (List.mem_append_right _ (List.mem_append_right _ (List.mem_append_right _ (List.mem_append_right _ (List.mem_append_left _ h)))))
  have bk4 : ∀ w ∈ wd_X8_become, w ∈ wd_W1_showS := fun _ h => List.mem_cons_of_mem _ (List.mem_append_right _ (List.mem_append_right _ (List.mem_append_right _ (List.mem_append_right _ (List.mem_append_right _ (List.mem_append_left _ h))))))
  have bk5 : ∀ w ∈ wd_X8_multiply, w ∈ wd_W1_showS := fun _ h => List.mem_cons_of_mem _ (List.mem_append_right _ (List.mem_append_right _ (List.mem_append_right _ (List.mem_append_right _ (List.mem_append_right _ (List.mem_append_right _ (List.mem_append_left _ h)))))))
  have hl := lv_entry ([.ref (ad 2090), .int (nI root), .ref (ad F)]) (n := 4) (Nat.le_of_ble_eq_true rfl)
  rw [lg_entry_eq]
  generalize (lg_sl ([.ref (ad 2090), .int (nI root), .ref (ad F)]) ++ List.replicate (4 - (lg_sl ([.ref (ad 2090), .int (nI root), .ref (ad F)])).length) Slot.unset).toArray = ls at hl ⊢
  have hl : lv_has ls 4 [(0, .ref (ad 2090)), (1, .int (nI root)), (2, .ref (ad F))] := hl
  have hC0 := hC
  obtain ⟨hLn, hW, ⟨hAr, hWk, hPa, hFr⟩, hO, pt, hPt, hM⟩ := hC0
  unfold CSO at hO
  have hpb := hPt.2
  obtain ⟨a0root, a1root, a2root, a3root, a4root, a5root, a6root⟩ := hM root hrt
  obtain ⟨w1root, w2root, w3root, w4root, w5root, -⟩ := hWf root hrt
  have hproot : g (2117 + 2 * root) = .inr (6, [.ref (ad (2118 + 2 * root)), .int (nI ((gd L root).1)), .int (iI ((gd L root).2.1)), .int (iI ((gd L root).2.2.1)), .int (nI ((gd L root).2.2.2.1)), .int (nI ((gd L root).2.2.2.2.1)), .int (nI ((gd L root).2.2.2.2.2.1))]) := by rw [hPt.1 root (by clear a6root; omega), a0root, a1root, a2root, a3root, a4root, a5root, nI_iI, nI_iI, nI_iI, nI_iI]
  obtain ⟨fnroot, hfnroot⟩ : ∃ z : Prop, z = ((gd L root).1 = 0 → CMN ad cA g (gd L root) root) := ⟨_, rfl⟩
  rw [← hfnroot] at a6root
  have hcr9 := hCr
  obtain ⟨y0, y1, y2, y3, y4, ⟨ft, y5⟩, fh, y6⟩ := hcr9
  refine lv_aload_n hx hb dX1_showSlope_0 rfl (lv_at hl 0 rfl) ?_
  refine m_get (D := (dC, dI)) (v := .ref (ad 2080)) (C := RX1) (T := TX1) (N := 10) hx hb hts bk0 hown hK hP 2090 (by decide) y0 rfl 0 (by decide) (hts (.fieldLink RX1 47 "GradientDesk$Course" "shelf" "LGradientDesk$Shelf;") (List.mem_of_getElem? (i := 1) rfl)) (fun _ h9 => h9) rfl dX1_showSlope_1 ?_
  refine m_get (D := (dC, dI)) (v := .ref (ad 2081)) (C := RX6) (T := TX6) (N := 7) hx hb hts bk1 hown hK hP 2080 (by decide) hO rfl 0 (by decide) (hts (.fieldLink RX1 69 "GradientDesk$Shelf" "parts" "[LGradientDesk$Part;") (List.mem_of_getElem? (i := 2) rfl)) (fun _ h9 => h9) rfl dX1_showSlope_4 ?_
  refine lv_iload_n hx hb dX1_showSlope_7 rfl (lv_at hl 1 rfl) ?_
  refine m_aald hx hb hK hP 2081 (by decide) rfl hPa (i := root) (v := ad (2117 + 2 * root)) (by omega) (by decide) rfl dX1_showSlope_8 ?_
  refine m_get (D := (dC, dI)) (v := .int (nI ((gd L root).2.2.2.1))) (C := RX3) (T := TX3) (N := 7) hx hb hts bk2 hown hK hP (2117 + 2 * root) (ns_p (by omega)) hproot rfl 4 (by decide) (hts (.fieldLink RX1 95 "GradientDesk$Part" "degree" "I") (List.mem_of_getElem? (i := 3) rfl)) (fun _ h9 => h9) rfl dX1_showSlope_9 ?_
  refine lv_istore_n (lv' := [(3, .int (nI ((gd L root).2.2.2.1))), (0, .ref (ad 2090)), (1, .int (nI root)), (2, .ref (ad F))]) hx hb dX1_showSlope_12 rfl hl (by decide) rfl (fun ls hl => ?_)
  refine lv_aload_n hx hb dX1_showSlope_13 rfl (lv_at hl 3 rfl) ?_
  refine m_get (D := (dC, dI)) (v := .ref (ad (2 * Fa))) (C := RX2) (T := TX2) (N := 2) hx hb hts bk3 hown hK hP F lF.1 hF rfl 0 (by decide) (hts (.fieldLink RX1 83 "GradientDesk$Fraction" "top" "LGradientDesk$Whole;") (List.mem_of_getElem? (i := 4) rfl)) (fun _ h9 => h9) rfl dX1_showSlope_14 ?_
  refine lv_aload_n hx hb dX1_showSlope_17 rfl (lv_at hl 1 rfl) ?_
  refine m_get (D := (dC, dI)) (v := .ref (ad 2092)) (C := RX1) (T := TX1) (N := 10) hx hb hts bk0 hown hK hP 2090 (by decide) y0 rfl 2 (by decide) (hts (.fieldLink RX1 17 "GradientDesk$Course" "slopes" "[LGradientDesk$Whole;") (List.mem_of_getElem? (i := 5) rfl)) (fun _ h9 => h9) rfl dX1_showSlope_18 ?_
  refine lv_iload_n hx hb dX1_showSlope_21 rfl (lv_at hl 2 rfl) ?_
  refine m_aald hx hb hK hP 2092 (by decide) rfl y2 (i := root) (v := ad (2 * (638 + root))) (by omega) (by decide) rfl dX1_showSlope_22 ?_
  obtain ⟨mw_1, sw_1, nw_1, fw_1, aw_1, bw_1, cw_1, dw_1, ew_1⟩ := hW Fa (by omega)
  have qw_1 : mw_1 ≤ 4096 := by rw [dw_1]; exact rmc_le _
  refine va_callv (va_runV (As := [.ref (ad (2 * (638 + root)))]) (rest := []) ⟨hx, hb, hml, hown, hts⟩ (c_X8_become l dC dI A ad cA g Fa (638 + root) hW (by omega) (by omega) (by omega)) (cwV 1 hts (goodIn_app (goodIn_r [Cond.methodLink RX1 88 yX8_become, Cond.instanceMethod yX8_become, Cond.selects RX8 yX8_become yX8_become, Cond.initialized RX8] [6, 7, 8, 9] rfl rfl) (goodIn_sub (fun w9 h9 => bk4 w9 h9) gw_X8_become)) rfl rfl rfl (by decide +kernel) ⟨Nat.le_of_ble_eq_true rfl, Nat.le_of_ble_eq_true rfl⟩) ⟨fun a U g mk q => ⟨q.1, q.2.1, q.2.2.1, LY.moved (u := U) (U := U.calling g mk a) (Vm.Alike.refl U.vm) q.2.2.2⟩, va_recv hK hP (ci := 11) (q0 := (2 * Fa)) rfl (wo_at (ns_w (by omega)) aw_1), fun U hU hW => ⟨rfl, by rw [hU]; exact fun q h => hA q (Nat.le_trans hS.1 h), by rw [hU]; exact hP, LY.moved hW.alike hL⟩⟩ rfl rfl hl.1 rfl (lv_room (Nat.le_of_ble_eq_true rfl)) dX1_showSlope_23 ⟨(Nat.le_of_ble_eq_true rfl), (Nat.le_of_ble_eq_true rfl)⟩) hS (fun q _ h => h) (fun q h => h) (fun u8 t8 H1 locs ht8 hvm8 hw_3 hB hz1 hk1 hS => ?_)
  obtain ⟨g_4, rfl⟩ : ∃ z, z = u8 := ⟨_, rfl⟩
  try dsimp only at hw_3 hB
  rw [ht8] at hB
  have hP := hB
  generalize H1 = H at hP hS ⊢
  obtain ⟨fr_5, hAW_2⟩ := hw_3
  refine lv_aload_n hx hb dX1_showSlope_26 rfl (lv_at hl 3 rfl) ?_
  have f_6 : g_4 F = .inr (5, [.ref (ad (2 * Fa)), .ref (ad (2 * Fb))]) := (fr_5 F (by omega)).trans hF
  refine m_get (D := (dC, dI)) (v := .ref (ad (2 * Fb))) (C := RX2) (T := TX2) (N := 2) hx hb hts bk3 hown hK hP F lF.1 f_6 rfl 1 (by decide) (hts (.fieldLink RX1 92 "GradientDesk$Fraction" "bottom" "LGradientDesk$Whole;") (List.mem_of_getElem? (i := 10) rfl)) (fun _ h9 => h9) rfl dX1_showSlope_27 ?_
  refine lv_aload_n hx hb dX1_showSlope_30 rfl (lv_at hl 1 rfl) ?_
  have f_7 : g_4 2090 = .inr (4, [.ref (ad 2080), .ref (ad 2091), .ref (ad 2092), .ref (ad 2093), .ref (ad 2094), .ref (ad 2095), .ref (ad 2096), .ref (ad (2 * 9)), .ref (ad (2 * 10)), .ref (ad (2 * 11))]) := (fr_5 2090 (by omega)).trans y0
  refine m_get (D := (dC, dI)) (v := .ref (ad 2093)) (C := RX1) (T := TX1) (N := 10) hx hb hts bk0 hown hK hP 2090 (by decide) f_7 rfl 3 (by decide) (hts (.fieldLink RX1 20 "GradientDesk$Course" "bases" "[LGradientDesk$Whole;") (List.mem_of_getElem? (i := 11) rfl)) (fun _ h9 => h9) rfl dX1_showSlope_31 ?_
  refine lv_iload_n hx hb dX1_showSlope_34 rfl (lv_at hl 2 rfl) ?_
  have f_8 : g_4 2093 = .inl (cA 2093, 200, .inr (.inr (.inr (.inr (fun j => some (ad (2 * (838 + j)))))))) := (fr_5 2093 (by omega)).trans y3
  refine m_aald hx hb hK hP 2093 (by decide) rfl f_8 (i := root) (v := ad (2 * (838 + root))) (by omega) (by decide) rfl dX1_showSlope_35 ?_
  refine lv_aload_n hx hb dX1_showSlope_36 rfl (lv_at hl 1 rfl) ?_
  refine m_get (D := (dC, dI)) (v := .ref (ad 2094)) (C := RX1) (T := TX1) (N := 10) hx hb hts bk0 hown hK hP 2090 (by decide) f_7 rfl 4 (by decide) (hts (.fieldLink RX1 23 "GradientDesk$Course" "scales" "[LGradientDesk$Whole;") (List.mem_of_getElem? (i := 12) rfl)) (fun _ h9 => h9) rfl dX1_showSlope_37 ?_
  refine lv_iload_n hx hb dX1_showSlope_40 rfl (lv_at hl 0 rfl) ?_
  refine lv_iconst (v := nI 1) hx hb dX1_showSlope_41 (by decide +kernel) ?_
  refine lv_isub hx hb dX1_showSlope_42 ?_
  refine lv_iconst (v := nI 0) hx hb dX1_showSlope_43 (by decide +kernel) ?_
  refine va_mmax hx hb (by rw [hml]; exact hl.1.symm) hown (hts (.methodLink RX1 101 Lib.Math.max.name) (List.mem_of_getElem? (i := 13) rfl)) (hts (.static Lib.Math.max.name) (List.mem_of_getElem? (i := 14) rfl)) (hts (.initialized "java/lang/Math") (List.mem_of_getElem? (i := 15) rfl)) (hts (.code Lib.Math.max.name Lib.Math.max.code 2 (some .int)) (List.mem_of_getElem? (i := 16) rfl)) (Nat.le_of_ble_eq_true rfl) (Nat.le_of_ble_eq_true rfl) (Nat.le_of_ble_eq_true rfl) (Nat.le_of_ble_eq_true rfl) dX1_showSlope_44 ?_
  refine lv_topi (fun x_9 e_10 => ?_)
  obtain rfl : x_9 = nI (((gd L root).2.2.2.1) - 1) := e_10.trans (k_max0 (by omega) (by omega))
  have f_11 : g_4 2094 = .inl (cA 2094, 9, .inr (.inr (.inr (.inr (fun j => some (ad (2 * (29 + j)))))))) := (fr_5 2094 (by omega)).trans y4
  refine m_aald hx hb hK hP 2094 (by decide) rfl f_11 (i := ((gd L root).2.2.2.1) - 1) (v := ad (2 * (29 + (((gd L root).2.2.2.1) - 1)))) (by omega) (by decide) rfl dX1_showSlope_47 ?_
  obtain ⟨mw_12, sw_12, nw_12, fw_12, aw_12, bw_12, cw_12, dw_12, ew_12⟩ := hAW_2 Fb (by omega)
  have qw_12 : mw_12 ≤ 4096 := by rw [dw_12]; exact rmc_le _
  refine va_callv (va_runV (As := [.ref (ad (2 * (838 + root))), .ref (ad (2 * (29 + (((gd L root).2.2.2.1) - 1))))]) (rest := []) ⟨hx, hb, hml, hown, hts⟩ (c_X8_multiply l dC dI A ad cA g_4 Fb (838 + root) (29 + (((gd L root).2.2.2.1) - 1)) hAW_2 (by omega) (by omega) (by omega) (by omega) (by omega)) (cwV 2 hts (goodIn_app (goodIn_r [Cond.methodLink RX1 55 yX8_multiply, Cond.instanceMethod yX8_multiply, Cond.selects RX8 yX8_multiply yX8_multiply, Cond.initialized RX8] [17, 18, 19, 9] rfl rfl) (goodIn_sub (fun w9 h9 => bk5 w9 h9) gw_X8_multiply)) rfl rfl rfl (by decide +kernel) ⟨Nat.le_of_ble_eq_true rfl, Nat.le_of_ble_eq_true rfl⟩) ⟨fun a U g mk q => ⟨q.1, q.2.1, q.2.2.1, LY.moved (u := U) (U := U.calling g mk a) (Vm.Alike.refl U.vm) q.2.2.2⟩, va_recv hK hP (ci := 11) (q0 := (2 * Fb)) rfl (wo_at (ns_w (by omega)) aw_12), fun U hU hW => ⟨rfl, by rw [hU]; exact fun q h => hA q (Nat.le_trans hS.1 h), by rw [hU]; exact hP, LY.moved hW.alike hL⟩⟩ rfl rfl hl.1 rfl (lv_room (Nat.le_of_ble_eq_true rfl)) dX1_showSlope_48 ⟨(Nat.le_of_ble_eq_true rfl), (Nat.le_of_ble_eq_true rfl)⟩) hS (fun q _ h => h) (fun q h => h) (fun u8 t8 H1 locs ht8 hvm8 hw_14 hB hz1 hk1 hS => ?_)
  obtain ⟨g_15, rfl⟩ : ∃ z, z = u8 := ⟨_, rfl⟩
  try dsimp only at hw_14 hB
  rw [ht8] at hB
  have hP := hB
  generalize H1 = H at hP hS ⊢
  obtain ⟨fr_16, hAW_13⟩ := hw_14
  refine W.widen (k := 0) (n := 0) (by omega) (by omega) ?_
  exact W.vret hx hb hr (fun t9 ht9 hW9 => ⟨⟨g_15, rfl, ⟨(fun (k : Nat) (hk : k ≠ 2 * Fa ∧ k ≠ 2 * Fa + 1 ∧ k ≠ 2 * Fb ∧ k ≠ 2 * Fb + 1) => (fr_16 k (by omega)).trans ((fr_5 k (by omega)).trans (rfl))), hAW_13⟩, by show va_P (dC, dI) vwCl _ t9.heap; rw [ht9]; exact hP⟩, hS.F ht9⟩) hS.2.2 dX1_showSlope_51
def wd_W1_goTo : List Cond := .code yX1_goTo cX1_goTo 7 none :: (([.fieldLink RX1 44 "GradientDesk$Course" "hold" "LGradientDesk$Whole;", .methodLink RX1 51 yX8_put, .instanceMethod yX8_put, .selects RX8 yX8_put yX8_put, .initialized RX8, .fieldLink RX1 23 "GradientDesk$Course" "scales" "[LGradientDesk$Whole;", .methodLink RX1 55 yX8_multiply, .instanceMethod yX8_multiply, .selects RX8 yX8_multiply yX8_multiply, .fieldLink RX1 26 "GradientDesk$Course" "tops" "[J"] : List Cond) ++ (u_ws RX1 TX1 10 ++ (wd_X8_put ++ (wd_X8_multiply ++ ([])))))
theorem gw_W1_goTo : wd_W1_goTo.all goodWord = true := k_allc rfl (k_all (by decide +kernel) (k_all (gu_X1) (k_all (gw_X8_put) (k_all (gw_X8_multiply) (rfl)))))
set_option maxHeartbeats 4000000 in
set_option maxRecDepth 100000 in
theorem c_W1_goTo (l : Launch) (dC : Nat → ClassId) (dI : Nat → Nat → Nat) (A : Nat → Prop) (ad : Nat → Nat) (cA : Nat → ClassId) (g : Nat → va_E) (fa : Nat → Int32) (fb : Nat → Int32) (hAW : AW ad cA g) (hCr : CRS ad cA g) (h05 : g 2105 = .inl (cA 2105, 3, .inl fa)) (h06 : g 2106 = .inl (cA 2106, 3, .inl fb)) : Met l yX1_goTo wd_W1_goTo ({ frames := 40, cells := 0, slots := 0, locals := 800 }) (va_Pc [.ref (ad 2090), .ref (ad 2105), .ref (ad 2106)] (PR NSc tyc dC dI A ad cA g)) (va_Qv (fun (u : Nat → va_E) => match u with | g2 => (∀ k, k < 22 ∨ (24 ≤ k ∧ k < 58) ∨ (76 ≤ k ∧ k ≠ 2095) → g2 k = g k) ∧ AW ad cA g2 ∧ CRS ad cA g2) (fun (u : Nat → va_E) (t : State) => va_P (dC, dI) vwCl (wo ad NSc u) t.heap) A) (0) (0) A := by
  refine Met.ofW (cc := cX1_goTo) (maxL := 7) (ret := none) (by decide) rfl ?_
  intro p e s m args below meth c s₁ B hml hv
  obtain ⟨rfl, hA, hP, hL⟩ := hv
  have hx := B.exec
  have hb := B.bytes
  have hr := B.returns
  have hts := atoms_spec (ws := wd_W1_goTo) B.pre
  have hown : s.vm.findClass RX1 = some m.cls := findClass_of_methodNamed B.named
  have hlocks := B.notSynchronized
  have hK := hL.1
  have hD : ∀ g, va_D A (wo ad NSc g) := fun g => wo_D hL.2.1 hL.2.2 g
  have hS : va_S A s.heap s.heap [] := va_S.rf
  have bk0 : ∀ w ∈ u_ws RX1 TX1 10, w ∈ wd_W1_goTo := fun _ h => List.mem_cons_of_mem _ (List.mem_append_right _ (List.mem_append_left _ h))
  have bk1 : ∀ w ∈ wd_X8_put, w ∈ wd_W1_goTo := fun _ h => List.mem_cons_of_mem _ (List.mem_append_right _ (List.mem_append_right _ (List.mem_append_left _ h)))
  have bk2 : ∀ w ∈ wd_X8_multiply, w ∈ wd_W1_goTo := fun _ h => List.mem_cons_of_mem _ (List.mem_append_right _ (List.mem_append_right _ (List.mem_append_right _ (List.mem_append_left _ h))))
  have hl := lv_entry ([.ref (ad 2090), .ref (ad 2105), .ref (ad 2106)]) (n := 7) (Nat.le_of_ble_eq_true rfl)
  rw [lg_entry_eq]
  generalize (lg_sl ([.ref (ad 2090), .ref (ad 2105), .ref (ad 2106)]) ++ List.replicate (7 - (lg_sl ([.ref (ad 2090), .ref (ad 2105), .ref (ad 2106)])).length) Slot.unset).toArray = ls at hl ⊢
  have hl : lv_has ls 7 [(0, .ref (ad 2090)), (1, .ref (ad 2105)), (2, .ref (ad 2106))] := hl
  have hcr9 := hCr
  obtain ⟨y0, y1, y2, y3, y4, ⟨ft, y5⟩, fh, y6⟩ := hcr9
  refine lv_lconst (v := lN 1) hx hb dX1_goTo_0 (by decide +kernel) ?_
  refine lv_lstore_n (lv' := [(3, .long (lN 1)), (0, .ref (ad 2090)), (1, .ref (ad 2105)), (2, .ref (ad 2106))]) hx hb dX1_goTo_1 rfl hl (by decide) rfl (fun ls hl => ?_)
  refine lv_iconst (v := nI 0) hx hb dX1_goTo_2 (by decide +kernel) ?_
  refine lv_istore (lv' := [(5, .int (nI 0)), (3, .long (lN 1)), (0, .ref (ad 2090)), (1, .ref (ad 2105)), (2, .ref (ad 2106))]) hx hb dX1_goTo_3 hl (by decide) rfl (fun ls hl => ?_)
  have loop_1 : ∀ (k9 : Nat) (v : Nat) (cm : Int64) (f5 : Nat → Int64) (g_3 : Nat → va_E) (fr_4 : ∀ k, (k ≠ 2095) → g_3 k = g k), 300 - v < k9 → (v ≤ 3) → (g_3 2095 = .inl (cA 2095, 3, .inr (.inl f5))) → ∀ (H : Heap) (locs : List Loc) (ls : Array Slot), va_P (dC, dI) vwCl (wo ad NSc g_3) H → va_S A s.heap H locs → lv_has ls 7 [(0, .ref (ad 2090)), (1, .ref (ad 2105)), (2, .ref (ad 2106)), (3, .long cm), (5, .int (nI v))] → W p l e (headSpec wd_W1_goTo ({ frames := 40, cells := 0, slots := 0, locals := 800 })).room s m ([.ref (ad 2090), .ref (ad 2105), .ref (ad 2106)] : List Value).toArray below meth c H locs (0) (0) (MQ below (va_Qv (fun (u : Nat → va_E) => match u with | g2 => (∀ k, k < 22 ∨ (24 ≤ k ∧ k < 58) ∨ (76 ≤ k ∧ k ≠ 2095) → g2 k = g k) ∧ AW ad cA g2 ∧ CRS ad cA g2) (fun (u : Nat → va_E) (t : State) => va_P (dC, dI) vwCl (wo ad NSc u) t.heap) A) ([.ref (ad 2090), .ref (ad 2105), .ref (ad 2106)] : List Value).toArray s (0) (0) A) (F0 m 5 ls []) := by
    intro k9
    induction k9 with
    | zero => intro v cm f5 g_3 fr_4 h9; exact absurd h9 (Nat.not_lt_zero _)
    | succ k9 ih_2 =>
      intro v cm f5 g_3 fr_4 h9 hv f_5 H locs ls hP hS hl
      refine lv_iload hx hb dX1_goTo_5 (lv_at hl 4 rfl) ?_
      refine lv_iconst (v := nI 3) hx hb dX1_goTo_7 (by decide +kernel) ?_
      refine lv_icmp_ge (tgt := 78) hx hb dX1_goTo_8 (by decide) (fun c_6 => ?_) (fun c_6 => ?_)
      · have c_6 := (nI_leI (a := 3) (b := v) (by decide) (by omega)).mp c_6
        refine lv_aload_n hx hb dX1_goTo_78 rfl (lv_at hl 0 rfl) ?_
        have f_7 : g_3 2090 = .inr (4, [.ref (ad 2080), .ref (ad 2091), .ref (ad 2092), .ref (ad 2093), .ref (ad 2094), .ref (ad 2095), .ref (ad 2096), .ref (ad (2 * 9)), .ref (ad (2 * 10)), .ref (ad (2 * 11))]) := (fr_4 2090 (by omega)).trans y0
        refine m_get (D := (dC, dI)) (v := .ref (ad (2 * 11))) (C := RX1) (T := TX1) (N := 10) hx hb hts bk0 hown hK hP 2090 (by decide) f_7 rfl 9 (by decide) (hts (.fieldLink RX1 44 "GradientDesk$Course" "hold" "LGradientDesk$Whole;") (List.mem_of_getElem? (i := 1) rfl)) (fun _ h9 => h9) rfl dX1_goTo_79 ?_
        refine lv_lload_n hx hb dX1_goTo_82 rfl (lv_at hl 3 rfl) ?_
        have hAW_9 : AW ad cA g_3 := AW.keep hAW (fun (k : Nat) (hk : k < 2076) => (fr_4 k (by omega)).trans (rfl))
        obtain ⟨mw_8, sw_8, nw_8, fw_8, aw_8, bw_8, cw_8, dw_8, ew_8⟩ := hAW_9 11 (by omega)
        have qw_8 : mw_8 ≤ 4096 := by rw [dw_8]; exact rmc_le _
        refine va_callv (va_runV (As := [.long cm]) (rest := []) ⟨hx, hb, hml, hown, hts⟩ (c_X8_put l dC dI A ad cA g_3 11 cm hAW_9 (by omega)) (cwV 1 hts (goodIn_app (goodIn_r [Cond.methodLink RX1 51 yX8_put, Cond.instanceMethod yX8_put, Cond.selects RX8 yX8_put yX8_put, Cond.initialized RX8] [2, 3, 4, 5] rfl rfl) (goodIn_sub (fun w9 h9 => bk1 w9 h9) gw_X8_put)) rfl rfl rfl (by decide +kernel) ⟨Nat.le_of_ble_eq_true rfl, Nat.le_of_ble_eq_true rfl⟩) ⟨fun a U g mk q => ⟨q.1, q.2.1, q.2.2.1, LY.moved (u := U) (U := U.calling g mk a) (Vm.Alike.refl U.vm) q.2.2.2⟩, va_recv hK hP (ci := 11) (q0 := (2 * 11)) rfl (wo_at (ns_w (by omega)) aw_8), fun U hU hW => ⟨rfl, by rw [hU]; exact fun q h => hA q (Nat.le_trans hS.1 h), by rw [hU]; exact hP, LY.moved hW.alike hL⟩⟩ rfl rfl hl.1 rfl (lv_room (Nat.le_of_ble_eq_true rfl)) dX1_goTo_83 ⟨(Nat.le_of_ble_eq_true rfl), (Nat.le_of_ble_eq_true rfl)⟩) hS (fun q _ h => h) (fun q h => h) (fun u8 t8 H1 locs ht8 hvm8 hw_11 hB hz1 hk1 hS => ?_)
        obtain ⟨g_12, rfl⟩ : ∃ z, z = u8 := ⟨_, rfl⟩
        try dsimp only at hw_11 hB
        rw [ht8] at hB
        have hP := hB
        generalize H1 = H at hP hS ⊢
        obtain ⟨fr_13, hAW_10⟩ := hw_11
        refine lv_aload_n hx hb dX1_goTo_86 rfl (lv_at hl 0 rfl) ?_
        have f_14 : g_12 2090 = .inr (4, [.ref (ad 2080), .ref (ad 2091), .ref (ad 2092), .ref (ad 2093), .ref (ad 2094), .ref (ad 2095), .ref (ad 2096), .ref (ad (2 * 9)), .ref (ad (2 * 10)), .ref (ad (2 * 11))]) := (fr_13 2090 (by omega)).trans f_7
        refine m_get (D := (dC, dI)) (v := .ref (ad 2094)) (C := RX1) (T := TX1) (N := 10) hx hb hts bk0 hown hK hP 2090 (by decide) f_14 rfl 4 (by decide) (hts (.fieldLink RX1 23 "GradientDesk$Course" "scales" "[LGradientDesk$Whole;") (List.mem_of_getElem? (i := 6) rfl)) (fun _ h9 => h9) rfl dX1_goTo_87 ?_
        refine lv_iconst (v := nI 0) hx hb dX1_goTo_90 (by decide +kernel) ?_
        have f_15 : g_12 2094 = .inl (cA 2094, 9, .inr (.inr (.inr (.inr (fun j => some (ad (2 * (29 + j)))))))) := (fr_13 2094 (by omega)).trans ((fr_4 2094 (by omega)).trans y4)
        refine m_aald hx hb hK hP 2094 (by decide) rfl f_15 (i := 0) (v := ad (2 * (29 + 0))) (by decide) (by decide) rfl dX1_goTo_91 ?_
        refine lv_lconst (v := lN 1) hx hb dX1_goTo_92 (by decide +kernel) ?_
        obtain ⟨mw_16, sw_16, nw_16, fw_16, aw_16, bw_16, cw_16, dw_16, ew_16⟩ := hAW_10 (29 + 0) (by omega)
        have qw_16 : mw_16 ≤ 4096 := by rw [dw_16]; exact rmc_le _
        refine va_callv (va_runV (As := [.long (lN 1)]) (rest := []) ⟨hx, hb, hml, hown, hts⟩ (c_X8_put l dC dI A ad cA g_12 (29 + 0) (lN 1) hAW_10 (by omega)) (cwV 1 hts (goodIn_app (goodIn_r [Cond.methodLink RX1 51 yX8_put, Cond.instanceMethod yX8_put, Cond.selects RX8 yX8_put yX8_put, Cond.initialized RX8] [2, 3, 4, 5] rfl rfl) (goodIn_sub (fun w9 h9 => bk1 w9 h9) gw_X8_put)) rfl rfl rfl (by decide +kernel) ⟨Nat.le_of_ble_eq_true rfl, Nat.le_of_ble_eq_true rfl⟩) ⟨fun a U g mk q => ⟨q.1, q.2.1, q.2.2.1, LY.moved (u := U) (U := U.calling g mk a) (Vm.Alike.refl U.vm) q.2.2.2⟩, va_recv hK hP (ci := 11) (q0 := (2 * (29 + 0))) rfl (wo_at (ns_w (by omega)) aw_16), fun U hU hW => ⟨rfl, by rw [hU]; exact fun q h => hA q (Nat.le_trans hS.1 h), by rw [hU]; exact hP, LY.moved hW.alike hL⟩⟩ rfl rfl hl.1 rfl (lv_room (Nat.le_of_ble_eq_true rfl)) dX1_goTo_93 ⟨(Nat.le_of_ble_eq_true rfl), (Nat.le_of_ble_eq_true rfl)⟩) hS (fun q _ h => h) (fun q h => h) (fun u8 t8 H1 locs ht8 hvm8 hw_18 hB hz1 hk1 hS => ?_)
        obtain ⟨g_19, rfl⟩ : ∃ z, z = u8 := ⟨_, rfl⟩
        try dsimp only at hw_18 hB
        rw [ht8] at hB
        have hP := hB
        generalize H1 = H at hP hS ⊢
        obtain ⟨fr_20, hAW_17⟩ := hw_18
        refine lv_iconst (v := nI 1) hx hb dX1_goTo_96 (by decide +kernel) ?_
        refine lv_istore (lv' := [(5, .int (nI 1)), (0, .ref (ad 2090)), (1, .ref (ad 2105)), (2, .ref (ad 2106)), (3, .long cm)]) hx hb dX1_goTo_97 hl (by decide) rfl (fun ls hl => ?_)
        have loop_21 : ∀ (k9 : Nat) (i : Nat) (g_23 : Nat → va_E) (fr_24 : ∀ k, (k < 58 ∨ 76 ≤ k) → g_23 k = g_19 k), 300 - i < k9 → (1 ≤ i ∧ i ≤ 9) → (AW ad cA g_23) → ∀ (H : Heap) (locs : List Loc) (ls : Array Slot), va_P (dC, dI) vwCl (wo ad NSc g_23) H → va_S A s.heap H locs → lv_has ls 7 [(0, .ref (ad 2090)), (5, .int (nI i))] → W p l e (headSpec wd_W1_goTo ({ frames := 40, cells := 0, slots := 0, locals := 800 })).room s m ([.ref (ad 2090), .ref (ad 2105), .ref (ad 2106)] : List Value).toArray below meth c H locs (0) (0) (MQ below (va_Qv (fun (u : Nat → va_E) => match u with | g2 => (∀ k, k < 22 ∨ (24 ≤ k ∧ k < 58) ∨ (76 ≤ k ∧ k ≠ 2095) → g2 k = g k) ∧ AW ad cA g2 ∧ CRS ad cA g2) (fun (u : Nat → va_E) (t : State) => va_P (dC, dI) vwCl (wo ad NSc u) t.heap) A) ([.ref (ad 2090), .ref (ad 2105), .ref (ad 2106)] : List Value).toArray s (0) (0) A) (F0 m 99 ls []) := by
          intro k9
          induction k9 with
          | zero => intro i g_23 fr_24 h9; exact absurd h9 (Nat.not_lt_zero _)
          | succ k9 ih_22 =>
            intro i g_23 fr_24 h9 hi hAL H locs ls hP hS hl
            refine lv_iload hx hb dX1_goTo_99 (lv_at hl 1 rfl) ?_
            refine lv_bipush (v := nI 8) hx hb dX1_goTo_101 (by decide +kernel) ?_
            refine lv_icmp_gt (tgt := 135) hx hb dX1_goTo_103 (by decide) (fun c_25 => ?_) (fun c_25 => ?_)
            · have c_25 := (nI_ltI (a := 8) (b := i) (by decide) (by omega)).mp c_25
              have f_26 : g_23 2090 = .inr (4, [.ref (ad 2080), .ref (ad 2091), .ref (ad 2092), .ref (ad 2093), .ref (ad 2094), .ref (ad 2095), .ref (ad 2096), .ref (ad (2 * 9)), .ref (ad (2 * 10)), .ref (ad (2 * 11))]) := (fr_24 2090 (by omega)).trans ((fr_20 2090 (by omega)).trans f_14)
              have f_27 : g_23 2091 = .inl (cA 2091, 200, .inr (.inr (.inr (.inr (fun j => some (ad (2 * (438 + j)))))))) := (fr_24 2091 (by omega)).trans ((fr_20 2091 (by omega)).trans ((fr_13 2091 (by omega)).trans ((fr_4 2091 (by omega)).trans y1)))
              have f_28 : g_23 2092 = .inl (cA 2092, 200, .inr (.inr (.inr (.inr (fun j => some (ad (2 * (638 + j)))))))) := (fr_24 2092 (by omega)).trans ((fr_20 2092 (by omega)).trans ((fr_13 2092 (by omega)).trans ((fr_4 2092 (by omega)).trans y2)))
              have f_29 : g_23 2093 = .inl (cA 2093, 200, .inr (.inr (.inr (.inr (fun j => some (ad (2 * (838 + j)))))))) := (fr_24 2093 (by omega)).trans ((fr_20 2093 (by omega)).trans ((fr_13 2093 (by omega)).trans ((fr_4 2093 (by omega)).trans y3)))
              have f_30 : g_23 2094 = .inl (cA 2094, 9, .inr (.inr (.inr (.inr (fun j => some (ad (2 * (29 + j)))))))) := (fr_24 2094 (by omega)).trans ((fr_20 2094 (by omega)).trans f_15)
              have f_31 : g_23 2095 = .inl (cA 2095, 3, .inr (.inl f5)) := (fr_24 2095 (by omega)).trans ((fr_20 2095 (by omega)).trans ((fr_13 2095 (by omega)).trans f_5))
              have f_32 : g_23 2096 = .inl (cA 2096, 3, .inl fh) := (fr_24 2096 (by omega)).trans ((fr_20 2096 (by omega)).trans ((fr_13 2096 (by omega)).trans ((fr_4 2096 (by omega)).trans y6)))
              refine W.widen (k := 0) (n := 0) (by omega) (by omega) ?_
              exact W.vret hx hb hr (fun t9 ht9 hW9 => ⟨⟨g_23, rfl, ⟨(fun (k : Nat) (hk : k < 22 ∨ (24 ≤ k ∧ k < 58) ∨ (76 ≤ k ∧ k ≠ 2095)) => (fr_24 k (by omega)).trans ((fr_20 k (by omega)).trans ((fr_13 k (by omega)).trans ((fr_4 k (by omega)).trans (rfl))))), hAL, f_26, f_27, f_28, f_29, f_30, ⟨_, f_31⟩, _, f_32⟩, by show va_P (dC, dI) vwCl _ t9.heap; rw [ht9]; exact hP⟩, hS.F ht9⟩) hS.2.2 dX1_goTo_135
            · have c_25 := mt (nI_ltI (a := 8) (b := i) (by decide) (by omega)).mpr c_25
              refine lv_aload_n hx hb dX1_goTo_106 rfl (lv_at hl 0 rfl) ?_
              have f_33 : g_23 2090 = .inr (4, [.ref (ad 2080), .ref (ad 2091), .ref (ad 2092), .ref (ad 2093), .ref (ad 2094), .ref (ad 2095), .ref (ad 2096), .ref (ad (2 * 9)), .ref (ad (2 * 10)), .ref (ad (2 * 11))]) := (fr_24 2090 (by omega)).trans ((fr_20 2090 (by omega)).trans f_14)
              refine m_get (D := (dC, dI)) (v := .ref (ad 2094)) (C := RX1) (T := TX1) (N := 10) hx hb hts bk0 hown hK hP 2090 (by decide) f_33 rfl 4 (by decide) (hts (.fieldLink RX1 23 "GradientDesk$Course" "scales" "[LGradientDesk$Whole;") (List.mem_of_getElem? (i := 6) rfl)) (fun _ h9 => h9) rfl dX1_goTo_107 ?_
              refine lv_iload hx hb dX1_goTo_110 (lv_at hl 1 rfl) ?_
              have f_34 : g_23 2094 = .inl (cA 2094, 9, .inr (.inr (.inr (.inr (fun j => some (ad (2 * (29 + j)))))))) := (fr_24 2094 (by omega)).trans ((fr_20 2094 (by omega)).trans f_15)
              refine m_aald hx hb hK hP 2094 (by decide) rfl f_34 (i := i) (v := ad (2 * (29 + i))) (by omega) (by decide) rfl dX1_goTo_112 ?_
              refine lv_aload_n hx hb dX1_goTo_113 rfl (lv_at hl 0 rfl) ?_
              refine m_get (D := (dC, dI)) (v := .ref (ad 2094)) (C := RX1) (T := TX1) (N := 10) hx hb hts bk0 hown hK hP 2090 (by decide) f_33 rfl 4 (by decide) (hts (.fieldLink RX1 23 "GradientDesk$Course" "scales" "[LGradientDesk$Whole;") (List.mem_of_getElem? (i := 6) rfl)) (fun _ h9 => h9) rfl dX1_goTo_114 ?_
              refine lv_iload hx hb dX1_goTo_117 (lv_at hl 1 rfl) ?_
              refine lv_iconst (v := nI 1) hx hb dX1_goTo_119 (by decide +kernel) ?_
              refine lv_isub hx hb dX1_goTo_120 ?_
              refine lv_topi (fun x_35 e_36 => ?_)
              obtain rfl : x_35 = nI (i - 1) := e_36.trans (pk_sub (show 1 ≤ i by omega))
              refine m_aald hx hb hK hP 2094 (by decide) rfl f_34 (i := i - 1) (v := ad (2 * (29 + (i - 1)))) (by omega) (by decide) rfl dX1_goTo_121 ?_
              refine lv_aload_n hx hb dX1_goTo_122 rfl (lv_at hl 0 rfl) ?_
              refine m_get (D := (dC, dI)) (v := .ref (ad (2 * 11))) (C := RX1) (T := TX1) (N := 10) hx hb hts bk0 hown hK hP 2090 (by decide) f_33 rfl 9 (by decide) (hts (.fieldLink RX1 44 "GradientDesk$Course" "hold" "LGradientDesk$Whole;") (List.mem_of_getElem? (i := 1) rfl)) (fun _ h9 => h9) rfl dX1_goTo_123 ?_
              obtain ⟨mw_37, sw_37, nw_37, fw_37, aw_37, bw_37, cw_37, dw_37, ew_37⟩ := hAL (29 + i) (by omega)
              have qw_37 : mw_37 ≤ 4096 := by rw [dw_37]; exact rmc_le _
              refine va_callv (va_runV (As := [.ref (ad (2 * (29 + (i - 1)))), .ref (ad (2 * 11))]) (rest := []) ⟨hx, hb, hml, hown, hts⟩ (c_X8_multiply l dC dI A ad cA g_23 (29 + i) (29 + (i - 1)) 11 hAL (by omega) (by omega) (by omega) (by omega) (by omega)) (cwV 2 hts (goodIn_app (goodIn_r [Cond.methodLink RX1 55 yX8_multiply, Cond.instanceMethod yX8_multiply, Cond.selects RX8 yX8_multiply yX8_multiply, Cond.initialized RX8] [7, 8, 9, 5] rfl rfl) (goodIn_sub (fun w9 h9 => bk2 w9 h9) gw_X8_multiply)) rfl rfl rfl (by decide +kernel) ⟨Nat.le_of_ble_eq_true rfl, Nat.le_of_ble_eq_true rfl⟩) ⟨fun a U g mk q => ⟨q.1, q.2.1, q.2.2.1, LY.moved (u := U) (U := U.calling g mk a) (Vm.Alike.refl U.vm) q.2.2.2⟩, va_recv hK hP (ci := 11) (q0 := (2 * (29 + i))) rfl (wo_at (ns_w (by omega)) aw_37), fun U hU hW => ⟨rfl, by rw [hU]; exact fun q h => hA q (Nat.le_trans hS.1 h), by rw [hU]; exact hP, LY.moved hW.alike hL⟩⟩ rfl rfl hl.1 rfl (lv_room (Nat.le_of_ble_eq_true rfl)) dX1_goTo_126 ⟨(Nat.le_of_ble_eq_true rfl), (Nat.le_of_ble_eq_true rfl)⟩) hS (fun q _ h => h) (fun q h => h) (fun u8 t8 H1 locs ht8 hvm8 hw_39 hB hz1 hk1 hS => ?_)
              obtain ⟨g_40, rfl⟩ : ∃ z, z = u8 := ⟨_, rfl⟩
              try dsimp only at hw_39 hB
              rw [ht8] at hB
              have hP := hB
              generalize H1 = H at hP hS ⊢
              obtain ⟨fr_41, hAW_38⟩ := hw_39
              refine lv_iinc (v := nI (i + 1)) (lv' := [(5, .int (nI (i + 1))), (0, .ref (ad 2090))]) hx hb dX1_goTo_129 hl (k := 1) rfl (nI_add i 1) (by decide) rfl (fun ls hl => ?_)
              refine lv_goto (tgt := 99) hx hb dX1_goTo_132 (by decide) ?_
              exact ih_22 (i + 1) g_40 (fun (k : Nat) (hk : k < 58 ∨ 76 ≤ k) => (fr_41 k (by omega)).trans ((fr_24 k (by omega)).trans (rfl))) (by omega) (by omega) hAW_38 _ _ _ hP hS (lv_sub (l' := [(0, .ref (ad 2090)), (5, .int (nI (i + 1)))]) hl [1, 0] rfl)
        exact loop_21 _ 1 g_19 (fun (k : Nat) (hk : k < 58 ∨ 76 ≤ k) => rfl) (Nat.lt_succ_self _) (by omega) hAW_17 _ _ _ hP hS (lv_sub (l' := [(0, .ref (ad 2090)), (5, .int (nI 1))]) hl [1, 0] rfl)
      · have c_6 := mt (nI_leI (a := 3) (b := v) (by decide) (by omega)).mpr c_6
        refine lv_lload_n hx hb dX1_goTo_11 rfl (lv_at hl 3 rfl) ?_
        refine lv_aload_n hx hb dX1_goTo_12 rfl (lv_at hl 2 rfl) ?_
        refine lv_iload hx hb dX1_goTo_13 (lv_at hl 4 rfl) ?_
        have f_44 : g_3 2106 = .inl (cA 2106, 3, .inl fb) := (fr_4 2106 (by omega)).trans h06
        refine m_iald hx hb hK hP 2106 (by decide) rfl f_44 (i := v) (by omega) (by decide) dX1_goTo_15 ?_
        refine lv_topi (fun x_45 e_46 => ?_)
        refine lv_i2l hx hb dX1_goTo_16 rfl ?_
        refine lv_topl (fun y_47 e_48 => ?_)
        refine lv_lmul hx hb dX1_goTo_17 ?_
        refine lv_topl (fun y_49 e_50 => ?_)
        obtain ⟨cn, hcn⟩ : ∃ z : Int64, z = y_49 := ⟨_, rfl⟩
        rw [← hcn]
        refine lv_lstore_n (lv' := [(3, .long cn), (0, .ref (ad 2090)), (1, .ref (ad 2105)), (2, .ref (ad 2106)), (5, .int (nI v))]) hx hb dX1_goTo_18 rfl hl (by decide) rfl (fun ls hl => ?_)
        refine lv_aload_n hx hb dX1_goTo_19 rfl (lv_at hl 1 rfl) ?_
        have f_51 : g_3 2090 = .inr (4, [.ref (ad 2080), .ref (ad 2091), .ref (ad 2092), .ref (ad 2093), .ref (ad 2094), .ref (ad 2095), .ref (ad 2096), .ref (ad (2 * 9)), .ref (ad (2 * 10)), .ref (ad (2 * 11))]) := (fr_4 2090 (by omega)).trans y0
        refine m_get (D := (dC, dI)) (v := .ref (ad 2095)) (C := RX1) (T := TX1) (N := 10) hx hb hts bk0 hown hK hP 2090 (by decide) f_51 rfl 5 (by decide) (hts (.fieldLink RX1 26 "GradientDesk$Course" "tops" "[J") (List.mem_of_getElem? (i := 10) rfl)) (fun _ h9 => h9) rfl dX1_goTo_20 ?_
        refine lv_iload hx hb dX1_goTo_23 (lv_at hl 4 rfl) ?_
        refine lv_aload_n hx hb dX1_goTo_25 rfl (lv_at hl 2 rfl) ?_
        refine lv_iload hx hb dX1_goTo_26 (lv_at hl 4 rfl) ?_
        have f_52 : g_3 2105 = .inl (cA 2105, 3, .inl fa) := (fr_4 2105 (by omega)).trans h05
        refine m_iald hx hb hK hP 2105 (by decide) rfl f_52 (i := v) (by omega) (by decide) dX1_goTo_28 ?_
        refine lv_topi (fun x_53 e_54 => ?_)
        refine lv_i2l hx hb dX1_goTo_29 rfl ?_
        refine lv_topl (fun y_55 e_56 => ?_)
        refine m_last hx hb hK hP hD hS 2095 (by decide) rfl f_5 (i := v) (x := y_55) (by omega) (by decide) dX1_goTo_30 (fun H locs g_57 f_58 fr_59 hP hS => ?_)
        have f_58 : g_57 2095 = .inl (cA 2095, 3, .inr (.inl (vp_updL f5 v y_55))) := f_58
        refine lv_iconst (v := nI 0) hx hb dX1_goTo_31 (by decide +kernel) ?_
        refine lv_istore (lv' := [(6, .int (nI 0)), (3, .long cn), (0, .ref (ad 2090)), (1, .ref (ad 2105)), (2, .ref (ad 2106)), (5, .int (nI v))]) hx hb dX1_goTo_32 hl (by decide) rfl (fun ls hl => ?_)
        have loop_60 : ∀ (k9 : Nat) (q9 : Nat) (f6 : Nat → Int64) (g_62 : Nat → va_E) (fr_63 : ∀ k, (k ≠ 2095) → g_62 k = g_57 k), 300 - q9 < k9 → (q9 ≤ 3) → (g_62 2095 = .inl (cA 2095, 3, .inr (.inl f6))) → ∀ (H : Heap) (locs : List Loc) (ls : Array Slot), va_P (dC, dI) vwCl (wo ad NSc g_62) H → va_S A s.heap H locs → lv_has ls 7 [(0, .ref (ad 2090)), (1, .ref (ad 2105)), (2, .ref (ad 2106)), (3, .long cn), (5, .int (nI v)), (6, .int (nI q9))] → W p l e (headSpec wd_W1_goTo ({ frames := 40, cells := 0, slots := 0, locals := 800 })).room s m ([.ref (ad 2090), .ref (ad 2105), .ref (ad 2106)] : List Value).toArray below meth c H locs (0) (0) (MQ below (va_Qv (fun (u : Nat → va_E) => match u with | g2 => (∀ k, k < 22 ∨ (24 ≤ k ∧ k < 58) ∨ (76 ≤ k ∧ k ≠ 2095) → g2 k = g k) ∧ AW ad cA g2 ∧ CRS ad cA g2) (fun (u : Nat → va_E) (t : State) => va_P (dC, dI) vwCl (wo ad NSc u) t.heap) A) ([.ref (ad 2090), .ref (ad 2105), .ref (ad 2106)] : List Value).toArray s (0) (0) A) (F0 m 34 ls []) := by
          intro k9
          induction k9 with
          | zero => intro q9 f6 g_62 fr_63 h9; exact absurd h9 (Nat.not_lt_zero _)
          | succ k9 ih_61 =>
            intro q9 f6 g_62 fr_63 h9 hq9 f_64 H locs ls hP hS hl
            refine lv_iload hx hb dX1_goTo_34 (lv_at hl 5 rfl) ?_
            refine lv_iconst (v := nI 3) hx hb dX1_goTo_36 (by decide +kernel) ?_
            refine lv_icmp_ge (tgt := 72) hx hb dX1_goTo_37 (by decide) (fun c_65 => ?_) (fun c_65 => ?_)
            · have c_65 := (nI_leI (a := 3) (b := q9) (by decide) (by omega)).mp c_65
              refine lv_iinc (v := nI (v + 1)) (lv' := [(5, .int (nI (v + 1))), (0, .ref (ad 2090)), (1, .ref (ad 2105)), (2, .ref (ad 2106)), (3, .long cn), (6, .int (nI q9))]) hx hb dX1_goTo_72 hl (k := 4) rfl (nI_add v 1) (by decide) rfl (fun ls hl => ?_)
              refine lv_goto (tgt := 5) hx hb dX1_goTo_75 (by decide) ?_
              exact ih_2 (v + 1) cn f6 g_62 (fun (k : Nat) (hk : k ≠ 2095) => (fr_63 k (by omega)).trans ((fr_59 k (by omega)).trans ((fr_4 k (by omega)).trans (rfl)))) (by omega) (by omega) f_64 _ _ _ hP hS (lv_sub (l' := [(0, .ref (ad 2090)), (1, .ref (ad 2105)), (2, .ref (ad 2106)), (3, .long cn), (5, .int (nI (v + 1)))]) hl [1, 2, 3, 4, 0] rfl)
            · have c_65 := mt (nI_leI (a := 3) (b := q9) (by decide) (by omega)).mpr c_65
              refine lv_aload_n hx hb dX1_goTo_40 rfl (lv_at hl 0 rfl) ?_
              have f_68 : g_62 2090 = .inr (4, [.ref (ad 2080), .ref (ad 2091), .ref (ad 2092), .ref (ad 2093), .ref (ad 2094), .ref (ad 2095), .ref (ad 2096), .ref (ad (2 * 9)), .ref (ad (2 * 10)), .ref (ad (2 * 11))]) := (fr_63 2090 (by omega)).trans ((fr_59 2090 (by omega)).trans f_51)
              refine m_get (D := (dC, dI)) (v := .ref (ad 2095)) (C := RX1) (T := TX1) (N := 10) hx hb hts bk0 hown hK hP 2090 (by decide) f_68 rfl 5 (by decide) (hts (.fieldLink RX1 26 "GradientDesk$Course" "tops" "[J") (List.mem_of_getElem? (i := 10) rfl)) (fun _ h9 => h9) rfl dX1_goTo_41 ?_
              refine lv_iload hx hb dX1_goTo_44 (lv_at hl 4 rfl) ?_
              refine lv_dup2_11 hx hb dX1_goTo_46 rfl rfl ?_
              refine m_lald hx hb hK hP 2095 (by decide) rfl f_64 (i := v) (by omega) (by decide) dX1_goTo_47 ?_
              refine lv_topl (fun y_69 e_70 => ?_)
              refine lv_iload hx hb dX1_goTo_48 (lv_at hl 5 rfl) ?_
              refine lv_iload hx hb dX1_goTo_50 (lv_at hl 4 rfl) ?_
              refine lv_icmp_ne (tgt := 59) hx hb dX1_goTo_52 (by decide) (fun c_71 => ?_) (fun c_71 => ?_)
              · have c_71 := mt (nI_eq (a := q9) (b := v) (by omega) (by omega)).mpr c_71
                refine lv_aload_n hx hb dX1_goTo_59 rfl (lv_at hl 2 rfl) ?_
                refine lv_iload hx hb dX1_goTo_60 (lv_at hl 5 rfl) ?_
                have f_72 : g_62 2106 = .inl (cA 2106, 3, .inl fb) := (fr_63 2106 (by omega)).trans ((fr_59 2106 (by omega)).trans f_44)
                refine m_iald hx hb hK hP 2106 (by decide) rfl f_72 (i := q9) (by omega) (by decide) dX1_goTo_62 ?_
                refine lv_topi (fun x_73 e_74 => ?_)
                refine lv_i2l hx hb dX1_goTo_63 rfl ?_
                refine lv_topl (fun y_75 e_76 => ?_)
                refine lv_lmul hx hb dX1_goTo_64 ?_
                refine lv_topl (fun y_77 e_78 => ?_)
                refine m_last hx hb hK hP hD hS 2095 (by decide) rfl f_64 (i := v) (x := y_77) (by omega) (by decide) dX1_goTo_65 (fun H locs g_79 f_80 fr_81 hP hS => ?_)
                have f_80 : g_79 2095 = .inl (cA 2095, 3, .inr (.inl (vp_updL f6 v y_77))) := f_80
                refine lv_iinc (v := nI (q9 + 1)) (lv' := [(6, .int (nI (q9 + 1))), (0, .ref (ad 2090)), (1, .ref (ad 2105)), (2, .ref (ad 2106)), (3, .long cn), (5, .int (nI v))]) hx hb dX1_goTo_66 hl (k := 5) rfl (nI_add q9 1) (by decide) rfl (fun ls hl => ?_)
                refine lv_goto (tgt := 34) hx hb dX1_goTo_69 (by decide) ?_
                exact ih_61 (q9 + 1) (vp_updL f6 v y_77) g_79 (fun (k : Nat) (hk : k ≠ 2095) => (fr_81 k (by omega)).trans ((fr_63 k (by omega)).trans (rfl))) (by omega) (by omega) f_80 _ _ _ hP hS (lv_sub (l' := [(0, .ref (ad 2090)), (1, .ref (ad 2105)), (2, .ref (ad 2106)), (3, .long cn), (5, .int (nI v)), (6, .int (nI (q9 + 1)))]) hl [1, 2, 3, 4, 5, 0] rfl)
              · have c_71 := (nI_eq (a := q9) (b := v) (by omega) (by omega)).mp c_71
                refine lv_lconst (v := lN 1) hx hb dX1_goTo_55 (by decide +kernel) ?_
                refine lv_goto (tgt := 64) hx hb dX1_goTo_56 (by decide) ?_
                refine lv_lmul hx hb dX1_goTo_64 ?_
                refine lv_topl (fun y_84 e_85 => ?_)
                refine m_last hx hb hK hP hD hS 2095 (by decide) rfl f_64 (i := v) (x := y_84) (by omega) (by decide) dX1_goTo_65 (fun H locs g_86 f_87 fr_88 hP hS => ?_)
                have f_87 : g_86 2095 = .inl (cA 2095, 3, .inr (.inl (vp_updL f6 v y_84))) := f_87
                refine lv_iinc (v := nI (q9 + 1)) (lv' := [(6, .int (nI (q9 + 1))), (0, .ref (ad 2090)), (1, .ref (ad 2105)), (2, .ref (ad 2106)), (3, .long cn), (5, .int (nI v))]) hx hb dX1_goTo_66 hl (k := 5) rfl (nI_add q9 1) (by decide) rfl (fun ls hl => ?_)
                refine lv_goto (tgt := 34) hx hb dX1_goTo_69 (by decide) ?_
                exact ih_61 (q9 + 1) (vp_updL f6 v y_84) g_86 (fun (k : Nat) (hk : k ≠ 2095) => (fr_88 k (by omega)).trans ((fr_63 k (by omega)).trans (rfl))) (by omega) (by omega) f_87 _ _ _ hP hS (lv_sub (l' := [(0, .ref (ad 2090)), (1, .ref (ad 2105)), (2, .ref (ad 2106)), (3, .long cn), (5, .int (nI v)), (6, .int (nI (q9 + 1)))]) hl [1, 2, 3, 4, 5, 0] rfl)
        exact loop_60 _ 0 (vp_updL f5 v y_55) g_57 (fun (k : Nat) (hk : k ≠ 2095) => rfl) (Nat.lt_succ_self _) (by omega) f_58 _ _ _ hP hS (lv_sub (l' := [(0, .ref (ad 2090)), (1, .ref (ad 2105)), (2, .ref (ad 2106)), (3, .long cn), (5, .int (nI v)), (6, .int (nI 0))]) hl [2, 3, 4, 1, 5, 0] rfl)
  exact loop_1 _ 0 (lN 1) ft g (fun (k : Nat) (hk : k ≠ 2095) => rfl) (Nat.lt_succ_self _) (by omega) y5 _ _ _ hP hS (lv_sub (l' := [(0, .ref (ad 2090)), (1, .ref (ad 2105)), (2, .ref (ad 2106)), (3, .long (lN 1)), (5, .int (nI 0))]) hl [2, 3, 4, 1, 0] rfl)
def wd_W1_head : List Cond := .code yX1_head cX1_head 4 none :: (([.fieldLink RX1 30 "GradientDesk$Course" "heading" "[I"] : List Cond) ++ (u_ws RX1 TX1 10 ++ ([])))
theorem gw_W1_head : wd_W1_head.all goodWord = true := k_allc rfl (k_all (by decide +kernel) (k_all (gu_X1) (rfl)))
set_option maxHeartbeats 4000000 in
set_option maxRecDepth 100000 in
theorem c_W1_head (l : Launch) (dC : Nat → ClassId) (dI : Nat → Nat → Nat) (A : Nat → Prop) (ad : Nat → Nat) (cA : Nat → ClassId) (g : Nat → va_E) (v1 : Int32) (v2 : Int32) (v3 : Int32) (hCr : CRS ad cA g) : Met l yX1_head wd_W1_head ({ frames := 10, cells := 0, slots := 0, locals := 200 }) (va_Pc [.ref (ad 2090), .int v1, .int v2, .int v3] (PR NSc tyc dC dI A ad cA g)) (va_Qv (fun (u : Nat → va_E) => match u with | g2 => (∀ k, k ≠ 2096 → g2 k = g k) ∧ CRS ad cA g2) (fun (u : Nat → va_E) (t : State) => va_P (dC, dI) vwCl (wo ad NSc u) t.heap) A) (0) (0) A := by
  refine Met.ofW (cc := cX1_head) (maxL := 4) (ret := none) (by decide) rfl ?_
  intro p e s m args below meth c s₁ B hml hv
  obtain ⟨rfl, hA, hP, hL⟩ := hv
  have hx := B.exec
  have hb := B.bytes
  have hr := B.returns
  have hts := atoms_spec (ws := wd_W1_head) B.pre
  have hown : s.vm.findClass RX1 = some m.cls := findClass_of_methodNamed B.named
  have hlocks := B.notSynchronized
  have hK := hL.1
  have hD : ∀ g, va_D A (wo ad NSc g) := fun g => wo_D hL.2.1 hL.2.2 g
  have hS : va_S A s.heap s.heap [] := va_S.rf
  have bk0 : ∀ w ∈ u_ws RX1 TX1 10, w ∈ wd_W1_head := fun _ h => List.mem_cons_of_mem _ (List.mem_append_right _ (List.mem_append_left _ h))
  have hl := lv_entry ([.ref (ad 2090), .int v1, .int v2, .int v3]) (n := 4) (Nat.le_of_ble_eq_true rfl)
  rw [lg_entry_eq]
  generalize (lg_sl ([.ref (ad 2090), .int v1, .int v2, .int v3]) ++ List.replicate (4 - (lg_sl ([.ref (ad 2090), .int v1, .int v2, .int v3])).length) Slot.unset).toArray = ls at hl ⊢
  have hl : lv_has ls 4 [(0, .ref (ad 2090)), (1, .int v1), (2, .int v2), (3, .int v3)] := hl
  have hcr9 := hCr
  obtain ⟨y0, y1, y2, y3, y4, ⟨ft, y5⟩, fh, y6⟩ := hcr9
  refine lv_aload_n hx hb dX1_head_0 rfl (lv_at hl 0 rfl) ?_
  refine m_get (D := (dC, dI)) (v := .ref (ad 2096)) (C := RX1) (T := TX1) (N := 10) hx hb hts bk0 hown hK hP 2090 (by decide) y0 rfl 6 (by decide) (hts (.fieldLink RX1 30 "GradientDesk$Course" "heading" "[I") (List.mem_of_getElem? (i := 1) rfl)) (fun _ h9 => h9) rfl dX1_head_1 ?_
  refine lv_iconst (v := nI 0) hx hb dX1_head_4 (by decide +kernel) ?_
  refine lv_iload_n hx hb dX1_head_5 rfl (lv_at hl 1 rfl) ?_
  refine m_iast hx hb hK hP hD hS 2096 (by decide) rfl y6 (i := 0) (x := v1) (by decide) (by decide) dX1_head_6 (fun H locs g_1 f_2 fr_3 hP hS => ?_)
  have f_2 : g_1 2096 = .inl (cA 2096, 3, .inl (upd fh 0 v1)) := f_2
  refine lv_aload_n hx hb dX1_head_7 rfl (lv_at hl 0 rfl) ?_
  have f_4 : g_1 2090 = .inr (4, [.ref (ad 2080), .ref (ad 2091), .ref (ad 2092), .ref (ad 2093), .ref (ad 2094), .ref (ad 2095), .ref (ad 2096), .ref (ad (2 * 9)), .ref (ad (2 * 10)), .ref (ad (2 * 11))]) := (fr_3 2090 (by omega)).trans y0
  refine m_get (D := (dC, dI)) (v := .ref (ad 2096)) (C := RX1) (T := TX1) (N := 10) hx hb hts bk0 hown hK hP 2090 (by decide) f_4 rfl 6 (by decide) (hts (.fieldLink RX1 30 "GradientDesk$Course" "heading" "[I") (List.mem_of_getElem? (i := 1) rfl)) (fun _ h9 => h9) rfl dX1_head_8 ?_
  refine lv_iconst (v := nI 1) hx hb dX1_head_11 (by decide +kernel) ?_
  refine lv_iload_n hx hb dX1_head_12 rfl (lv_at hl 2 rfl) ?_
  refine m_iast hx hb hK hP hD hS 2096 (by decide) rfl f_2 (i := 1) (x := v2) (by decide) (by decide) dX1_head_13 (fun H locs g_5 f_6 fr_7 hP hS => ?_)
  have f_6 : g_5 2096 = .inl (cA 2096, 3, .inl (upd (upd fh 0 v1) 1 v2)) := f_6
  refine lv_aload_n hx hb dX1_head_14 rfl (lv_at hl 0 rfl) ?_
  have f_8 : g_5 2090 = .inr (4, [.ref (ad 2080), .ref (ad 2091), .ref (ad 2092), .ref (ad 2093), .ref (ad 2094), .ref (ad 2095), .ref (ad 2096), .ref (ad (2 * 9)), .ref (ad (2 * 10)), .ref (ad (2 * 11))]) := (fr_7 2090 (by omega)).trans f_4
  refine m_get (D := (dC, dI)) (v := .ref (ad 2096)) (C := RX1) (T := TX1) (N := 10) hx hb hts bk0 hown hK hP 2090 (by decide) f_8 rfl 6 (by decide) (hts (.fieldLink RX1 30 "GradientDesk$Course" "heading" "[I") (List.mem_of_getElem? (i := 1) rfl)) (fun _ h9 => h9) rfl dX1_head_15 ?_
  refine lv_iconst (v := nI 2) hx hb dX1_head_18 (by decide +kernel) ?_
  refine lv_iload_n hx hb dX1_head_19 rfl (lv_at hl 3 rfl) ?_
  refine m_iast hx hb hK hP hD hS 2096 (by decide) rfl f_6 (i := 2) (x := v3) (by decide) (by decide) dX1_head_20 (fun H locs g_9 f_10 fr_11 hP hS => ?_)
  have f_10 : g_9 2096 = .inl (cA 2096, 3, .inl (upd (upd (upd fh 0 v1) 1 v2) 2 v3)) := f_10
  have f_12 : g_9 2090 = .inr (4, [.ref (ad 2080), .ref (ad 2091), .ref (ad 2092), .ref (ad 2093), .ref (ad 2094), .ref (ad 2095), .ref (ad 2096), .ref (ad (2 * 9)), .ref (ad (2 * 10)), .ref (ad (2 * 11))]) := (fr_11 2090 (by omega)).trans f_8
  have f_13 : g_9 2091 = .inl (cA 2091, 200, .inr (.inr (.inr (.inr (fun j => some (ad (2 * (438 + j)))))))) := (fr_11 2091 (by omega)).trans ((fr_7 2091 (by omega)).trans ((fr_3 2091 (by omega)).trans y1))
  have f_14 : g_9 2092 = .inl (cA 2092, 200, .inr (.inr (.inr (.inr (fun j => some (ad (2 * (638 + j)))))))) := (fr_11 2092 (by omega)).trans ((fr_7 2092 (by omega)).trans ((fr_3 2092 (by omega)).trans y2))
  have f_15 : g_9 2093 = .inl (cA 2093, 200, .inr (.inr (.inr (.inr (fun j => some (ad (2 * (838 + j)))))))) := (fr_11 2093 (by omega)).trans ((fr_7 2093 (by omega)).trans ((fr_3 2093 (by omega)).trans y3))
  have f_16 : g_9 2094 = .inl (cA 2094, 9, .inr (.inr (.inr (.inr (fun j => some (ad (2 * (29 + j)))))))) := (fr_11 2094 (by omega)).trans ((fr_7 2094 (by omega)).trans ((fr_3 2094 (by omega)).trans y4))
  have f_17 : g_9 2095 = .inl (cA 2095, 3, .inr (.inl ft)) := (fr_11 2095 (by omega)).trans ((fr_7 2095 (by omega)).trans ((fr_3 2095 (by omega)).trans y5))
  refine W.widen (k := 0) (n := 0) (by omega) (by omega) ?_
  exact W.vret hx hb hr (fun t9 ht9 hW9 => ⟨⟨g_9, rfl, ⟨(fun (k : Nat) (hk : k ≠ 2096) => (fr_11 k (by omega)).trans ((fr_7 k (by omega)).trans ((fr_3 k (by omega)).trans (rfl)))), f_12, f_13, f_14, f_15, f_16, ⟨_, f_17⟩, _, f_10⟩, by show va_P (dC, dI) vwCl _ t9.heap; rw [ht9]; exact hP⟩, hS.F ht9⟩) hS.2.2 dX1_head_21
end
section
/-! the class's script: its rows; the pieces that wait are below M -/
theorem k_i2cN (z : Int32) : ∃ w : Nat, w < 65536 ∧ (z.toUInt32 % 65536).toInt32 = nI w := by
  refine ⟨(z.toUInt32 % 65536).toNat, ?_, ?_⟩
  · rw [UInt32.toNat_mod]; exact Nat.mod_lt _ (by decide)
  · apply Int32.toBitVec_inj.mp
    show (z.toUInt32 % 65536).toBitVec = BitVec.ofNat 32 (z.toUInt32 % 65536).toBitVec.toNat
    rw [BitVec.ofNat_toNat, BitVec.setWidth_eq]
def SCO (ad : Nat → Nat) (g : Nat → va_E) (ln : Int32) (wc : Nat) : Prop := g 2097 = .inr (8, [.ref (ad 2098), .int ln, .ref (ad 2080), .ref (ad 2099), .ref (ad 2100), .ref (ad 2101), .ref (ad 2102), .ref (ad (2 * 12)), .int (nI wc)])
def SCM (ad : Nat → Nat) (cA : Nat → ClassId) (g : Nat → va_E) (M : Nat) : Prop :=
  ∃ (ln : Int32) (wc : Nat) (fl fw fd : Nat → Nat) (fz fq : Nat → Int32), SCO ad g ln wc ∧ ln.toInt ≤ 250 ∧ wc ≤ 250 ∧ g 2098 = .inl (cA 2098, 250, .inl (fun j => nI (fl j))) ∧ (∀ j, fl j < 65536) ∧ g 2099 = .inl (cA 2099, 200, .inl fz) ∧ g 2100 = .inl (cA 2100, 250, .inl (fun j => nI (fw j))) ∧ g 2101 = .inl (cA 2101, 250, .inl fq) ∧ g 2102 = .inl (cA 2102, 135, .inl (fun j => nI (fd j))) ∧ (∀ j, fd j < 65536) ∧ ∀ j, j < wc → fw j < M
def SCE (ad : Nat → Nat) (cA : Nat → ClassId) (g : Nat → va_E) : Prop := ∃ M, SCM ad cA g M
theorem SCM.same {ad : Nat → Nat} {cA : Nat → ClassId} {g g2 : Nat → va_E} {M : Nat} (h : SCM ad cA g M) (hf : ∀ k, 2097 ≤ k ∧ k ≤ 2102 → g2 k = g k) : SCM ad cA g2 M := by
  obtain ⟨ln, wc, fl, fw, fd, fz, fq, h1, h2, h3, h4, h5, h6, h7, h8, h9, h10⟩ := h
  exact ⟨ln, wc, fl, fw, fd, fz, fq, (hf _ (by decide)).trans h1, h2, h3, (hf _ (by decide)).trans h4, h5, (hf _ (by decide)).trans h6, (hf _ (by decide)).trans h7, (hf _ (by decide)).trans h8, (hf _ (by decide)).trans h9, h10⟩
theorem SCE.same {ad : Nat → Nat} {cA : Nat → ClassId} {g g2 : Nat → va_E} (h : SCE ad cA g) (hf : ∀ k, 2097 ≤ k ∧ k ≤ 2102 → g2 k = g k) : SCE ad cA g2 := by
  obtain ⟨M, h⟩ := h
  exact ⟨M, h.same hf⟩
theorem wup_lt {fw : Nat → Nat} {wc M v : Nat} (h : ∀ j, j < wc → fw j < M) (hv : v < M) : ∀ j, j < wc + 1 → va_up fw wc v j < M := by
  intro j hj
  by_cases e : j = wc
  · rw [e, va_up_self]; exact hv
  · rw [va_up_ne _ _ e]; exact h j (by omega)
end
