section
def wd_W1_base : List Cond := .code yX1_findBase cX1_findBase 3 none :: (([.fieldLink RX1 107 "GradientDesk$Part" "sort" "I", .fieldLink RX1 110 "GradientDesk$Part" "number" "LGradientDesk$Fraction;", .fieldLink RX1 92 "GradientDesk$Fraction" "bottom" "LGradientDesk$Whole;", .methodLink RX1 88 yX8_become, .instanceMethod yX8_become, .selects RX8 yX8_become yX8_become, .initialized RX8, .methodLink RX1 51 yX8_put, .instanceMethod yX8_put, .selects RX8 yX8_put yX8_put, .fieldLink RX1 20 "GradientDesk$Course" "bases" "[LGradientDesk$Whole;", .fieldLink RX1 114 "GradientDesk$Part" "first" "I", .fieldLink RX1 117 "GradientDesk$Part" "second" "I", .methodLink RX1 55 yX8_multiply, .instanceMethod yX8_multiply, .selects RX8 yX8_multiply yX8_multiply, .methodLink RX1 120 yX1_raise, .instanceMethod yX1_raise, .selects RX1 yX1_raise yX1_raise, .initialized RX1, .fieldLink RX1 37 "GradientDesk$Course" "left" "LGradientDesk$Whole;"] : List Cond) ++ (u_ws RX3 TX3 7 ++ (u_ws RX2 TX2 2 ++ (wd_X8_become ++ (wd_X8_put ++ (u_ws RX1 TX1 10 ++ (wd_X8_multiply ++ (wd_W1_raise ++ ([])))))))))
theorem gw_W1_base : wd_W1_base.all goodWord = true := k_allc rfl (k_all (by decide +kernel) (k_all (gu_X3) (k_all (gu_X2) (k_all (gw_X8_become) (k_all (gw_X8_put) (k_all (gu_X1) (k_all (gw_X8_multiply) (k_all (gw_W1_raise) (rfl)))))))))
set_option maxHeartbeats 4000000 in
set_option maxRecDepth 100000 in
theorem c_W1_base (l : Launch) (dC : Nat → ClassId) (dI : Nat → Nat → Nat) (A : Nat → Prop) (ad : Nat → Nat) (cA : Nat → ClassId) (g : Nat → va_E) (L : List PD) (i : Nat) (hC : CS ad cA g L) (hWf : WFL L) (hCr : CRS ad cA g) (hi : i < L.length) : Met l yX1_findBase wd_W1_base ({ frames := 60, cells := 0, slots := 0, locals := 1200 }) (va_Pc [.ref (ad 2090), .ref (ad (2117 + 2 * i)), .ref (ad (2 * (838 + i)))] (PR NSc tyc dC dI A ad cA g)) (va_Qv (fun (u : Nat → va_E) => match u with | g2 => (∀ k, (k < 18 ∨ 24 ≤ k) ∧ k ≠ 2 * (838 + i) ∧ k ≠ 2 * (838 + i) + 1 → g2 k = g k) ∧ AW ad cA g2) (fun (u : Nat → va_E) (t : State) => va_P (dC, dI) vwCl (wo ad NSc u) t.heap) A) (0) (0) A := by
  refine Met.ofW (cc := cX1_findBase) (maxL := 3) (ret := none) (by decide) rfl ?_
  intro p e s m args below meth c s₁ B hml hv
  obtain ⟨rfl, hA, hP, hL⟩ := hv
  have hx := B.exec
  have hb := B.bytes
  have hr := B.returns
  have hts := atoms_spec (ws := wd_W1_base) B.pre
  have hown : s.vm.findClass RX1 = some m.cls := findClass_of_methodNamed B.named
  have hlocks := B.notSynchronized
  have hK := hL.1
  have hD : ∀ g, va_D A (wo ad NSc g) := fun g => wo_D hL.2.1 hL.2.2 g
  have hS : va_S A s.heap s.heap [] := va_S.rf
  have bk0 : ∀ w ∈ u_ws RX3 TX3 7, w ∈ wd_W1_base := fun _ h => List.mem_cons_of_mem _ (List.mem_append_right _ (List.mem_append_left _ h))
  have bk1 : ∀ w ∈ u_ws RX2 TX2 2, w ∈ wd_W1_base := fun _ h => List.mem_cons_of_mem _ (List.mem_append_right _ (List.mem_append_right _ (List.mem_append_left _ h)))
  have bk2 : ∀ w ∈ wd_X8_become, w ∈ wd_W1_base := fun _ h => List.mem_cons_of_mem _ (List.mem_append_right _ (List.mem_append_right _ (List.mem_append_right _ (List.mem_append_left _ h))))
  have bk3 : ∀ w ∈ wd_X8_put, w ∈ wd_W1_base := fun _ h => List.mem_cons_of_mem _ (List.mem_append_right _ (List.mem_append_right _ (List.mem_append_right _ (List.mem_append_right _ (List.mem_append_left _ h)))))
  have bk4 : ∀ w ∈ u_ws RX1 TX1 10, w ∈ wd_W1_base := fun _ h => List.mem_cons_of_mem _ (List.mem_append_right _ (List.mem_append_right _ (List.mem_append_right _ (List.mem_append_right _ (List.mem_append_right _ (List.mem_append_left _ h))))))
  have bk5 : ∀ w ∈ wd_X8_multiply, w ∈ wd_W1_base := fun _ h => List.mem_cons_of_mem _ (List.mem_append_right _ (List.mem_append_right _ (List.mem_append_right _ (List.mem_append_right _ (List.mem_append_right _ (List.mem_append_right _ (List.mem_append_left _ h)))))))
  have bk6 : ∀ w ∈ wd_W1_raise, w ∈ wd_W1_base := fun _ h => List.mem_cons_of_mem _ (List.mem_append_right _ (List.mem_append_right _ (List.mem_append_right _ (List.mem_append_right _ (List.mem_append_right _ (List.mem_append_right _ (List.mem_append_right _ (List.mem_append_left _ h))))))))
  have hl := lv_entry ([.ref (ad 2090), .ref (ad (2117 + 2 * i)), .ref (ad (2 * (838 + i)))]) (n := 3) (Nat.le_of_ble_eq_true rfl)
  rw [lg_entry_eq]
  generalize (lg_sl ([.ref (ad 2090), .ref (ad (2117 + 2 * i)), .ref (ad (2 * (838 + i)))]) ++ List.replicate (3 - (lg_sl ([.ref (ad 2090), .ref (ad (2117 + 2 * i)), .ref (ad (2 * (838 + i)))])).length) Slot.unset).toArray = ls at hl ⊢
  have hl : lv_has ls 3 [(0, .ref (ad 2090)), (1, .ref (ad (2117 + 2 * i))), (2, .ref (ad (2 * (838 + i))))] := hl
  have hC0 := hC
  obtain ⟨hLn, hW, ⟨hAr, hWk, hPa, hFr⟩, hO, pt, hPt, hM⟩ := hC0
  unfold CSO at hO
  have hpb := hPt.2
  obtain ⟨a0i, a1i, a2i, a3i, a4i, a5i, a6i⟩ := hM i hi
  obtain ⟨w1i, w2i, w3i, w4i, w5i, -⟩ := hWf i hi
  have hpi : g (2117 + 2 * i) = .inr (6, [.ref (ad (2118 + 2 * i)), .int (nI ((gd L i).1)), .int (iI ((gd L i).2.1)), .int (iI ((gd L i).2.2.1)), .int (nI ((gd L i).2.2.2.1)), .int (nI ((gd L i).2.2.2.2.1)), .int (nI ((gd L i).2.2.2.2.2.1))]) := by rw [hPt.1 i (by clear a6i; omega), a0i, a1i, a2i, a3i, a4i, a5i, nI_iI, nI_iI, nI_iI, nI_iI]
  obtain ⟨fni, hfni⟩ : ∃ z : Prop, z = ((gd L i).1 = 0 → CMN ad cA g (gd L i) i) := ⟨_, rfl⟩
  rw [← hfni] at a6i
  have hcr9 := hCr
  obtain ⟨y0, y1, y2, y3, y4, ⟨ft, y5⟩, fh, y6⟩ := hcr9
  have hq_1 := hFr i (by omega)
  refine lv_aload_n hx hb dX1_findBase_0 rfl (lv_at hl 1 rfl) ?_
  refine m_get (D := (dC, dI)) (v := .int (nI ((gd L i).1))) (C := RX3) (T := TX3) (N := 7) hx hb hts bk0 hown hK hP (2117 + 2 * i) (ns_p (by omega)) hpi rfl 1 (by decide) (hts (.fieldLink RX1 107 "GradientDesk$Part" "sort" "I") (List.mem_of_getElem? (i := 1) rfl)) (fun _ h9 => h9) rfl dX1_findBase_1 ?_
  rcases (show ((gd L i).1) = 0 ∨ ((gd L i).1) = 1 ∨ ((gd L i).1) = 2 ∨ ((gd L i).1) = 3 ∨ ((gd L i).1) = 4 ∨ 4 < ((gd L i).1) by omega) with hsw | hsw | hsw | hsw | hsw | hsw
  · refine lv_tableIn (x := nI ((gd L i).1)) (off := 36) (tgt := 40) hx hb dX1_findBase_4 (by rw [hsw]; decide) (by rw [hsw]; decide) (by rw [hsw]; decide) (by decide) ?_
    refine lv_aload_n hx hb dX1_findBase_40 rfl (lv_at hl 2 rfl) ?_
    refine lv_aload_n hx hb dX1_findBase_41 rfl (lv_at hl 1 rfl) ?_
    refine m_get (D := (dC, dI)) (v := .ref (ad (2118 + 2 * i))) (C := RX3) (T := TX3) (N := 7) hx hb hts bk0 hown hK hP (2117 + 2 * i) (ns_p (by omega)) hpi rfl 0 (by decide) (hts (.fieldLink RX1 110 "GradientDesk$Part" "number" "LGradientDesk$Fraction;") (List.mem_of_getElem? (i := 2) rfl)) (fun _ h9 => h9) rfl dX1_findBase_42 ?_
    refine m_get (D := (dC, dI)) (v := .ref (ad (2 * (39 + 2 * i)))) (C := RX2) (T := TX2) (N := 2) hx hb hts bk1 hown hK hP (2118 + 2 * i) (ns_q (by omega)) hq_1 rfl 1 (by decide) (hts (.fieldLink RX1 92 "GradientDesk$Fraction" "bottom" "LGradientDesk$Whole;") (List.mem_of_getElem? (i := 3) rfl)) (fun _ h9 => h9) rfl dX1_findBase_45 ?_
    obtain ⟨mw_2, sw_2, nw_2, fw_2, aw_2, bw_2, cw_2, dw_2, ew_2⟩ := hW (838 + i) (by omega)
    have qw_2 : mw_2 ≤ 4096 := by rw [dw_2]; exact rmc_le _
    refine va_callv (va_runV (As := [.ref (ad (2 * (39 + 2 * i)))]) (rest := []) ⟨hx, hb, hml, hown, hts⟩ (c_X8_become l dC dI A ad cA g (838 + i) (39 + 2 * i) hW (by omega) (by omega) (by omega)) (cwV 1 hts (goodIn_app (goodIn_r [Cond.methodLink RX1 88 yX8_become, Cond.instanceMethod yX8_become, Cond.selects RX8 yX8_become yX8_become, Cond.initialized RX8] [4, 5, 6, 7] rfl rfl) (goodIn_sub (fun w9 h9 => bk2 w9 h9) gw_X8_become)) rfl rfl rfl (by decide +kernel) ⟨Nat.le_of_ble_eq_true rfl, Nat.le_of_ble_eq_true rfl⟩) ⟨fun a U g mk q => ⟨q.1, q.2.1, q.2.2.1, LY.moved (u := U) (U := U.calling g mk a) (Vm.Alike.refl U.vm) q.2.2.2⟩, va_recv hK hP (ci := 11) (q0 := (2 * (838 + i))) rfl (wo_at (ns_w (by omega)) aw_2), fun U hU hW => ⟨rfl, by rw [hU]; exact fun q h => hA q (Nat.le_trans hS.1 h), by rw [hU]; exact hP, LY.moved hW.alike hL⟩⟩ rfl rfl hl.1 rfl (lv_room (Nat.le_of_ble_eq_true rfl)) dX1_findBase_48 ⟨(Nat.le_of_ble_eq_true rfl), (Nat.le_of_ble_eq_true rfl)⟩) hS (fun q _ h => h) (fun q h => h) (fun u8 t8 H1 locs ht8 hvm8 hw_4 hB hz1 hk1 hS => ?_)
    obtain ⟨g_5, rfl⟩ : ∃ z, z = u8 := ⟨_, rfl⟩
    try dsimp only at hw_4 hB
    rw [ht8] at hB
    have hP := hB
    generalize H1 = H at hP hS ⊢
    obtain ⟨fr_6, hAW_3⟩ := hw_4
    refine lv_goto (tgt := 112) hx hb dX1_findBase_51 (by decide) ?_
    refine W.widen (k := 0) (n := 0) (by omega) (by omega) ?_
    exact W.vret hx hb hr (fun t9 ht9 hW9 => ⟨⟨g_5, rfl, ⟨(fun (k : Nat) (hk : (k < 18 ∨ 24 ≤ k) ∧ k ≠ 2 * (838 + i) ∧ k ≠ 2 * (838 + i) + 1) => (fr_6 k (by omega)).trans (rfl)), hAW_3⟩, by show va_P (dC, dI) vwCl _ t9.heap; rw [ht9]; exact hP⟩, hS.F ht9⟩) hS.2.2 dX1_findBase_112
  · refine lv_tableIn (x := nI ((gd L i).1)) (off := 50) (tgt := 54) hx hb dX1_findBase_4 (by rw [hsw]; decide) (by rw [hsw]; decide) (by rw [hsw]; decide) (by decide) ?_
    refine lv_aload_n hx hb dX1_findBase_54 rfl (lv_at hl 2 rfl) ?_
    refine lv_lconst (v := lN 1) hx hb dX1_findBase_55 (by decide +kernel) ?_
    obtain ⟨mw_7, sw_7, nw_7, fw_7, aw_7, bw_7, cw_7, dw_7, ew_7⟩ := hW (838 + i) (by omega)
    have qw_7 : mw_7 ≤ 4096 := by rw [dw_7]; exact rmc_le _
    refine va_callv (va_runV (As := [.long (lN 1)]) (rest := []) ⟨hx, hb, hml, hown, hts⟩ (c_X8_put l dC dI A ad cA g (838 + i) (lN 1) hW (by omega)) (cwV 1 hts (goodIn_app (goodIn_r [Cond.methodLink RX1 51 yX8_put, Cond.instanceMethod yX8_put, Cond.selects RX8 yX8_put yX8_put, Cond.initialized RX8] [8, 9, 10, 7] rfl rfl) (goodIn_sub (fun w9 h9 => bk3 w9 h9) gw_X8_put)) rfl rfl rfl (by decide +kernel) ⟨Nat.le_of_ble_eq_true rfl, Nat.le_of_ble_eq_true rfl⟩) ⟨fun a U g mk q => ⟨q.1, q.2.1, q.2.2.1, LY.moved (u := U) (U := U.calling g mk a) (Vm.Alike.refl U.vm) q.2.2.2⟩, va_recv hK hP (ci := 11) (q0 := (2 * (838 + i))) rfl (wo_at (ns_w (by omega)) aw_7), fun U hU hW => ⟨rfl, by rw [hU]; exact fun q h => hA q (Nat.le_trans hS.1 h), by rw [hU]; exact hP, LY.moved hW.alike hL⟩⟩ rfl rfl hl.1 rfl (lv_room (Nat.le_of_ble_eq_true rfl)) dX1_findBase_56 ⟨(Nat.le_of_ble_eq_true rfl), (Nat.le_of_ble_eq_true rfl)⟩) hS (fun q _ h => h) (fun q h => h) (fun u8 t8 H1 locs ht8 hvm8 hw_9 hB hz1 hk1 hS => ?_)
    obtain ⟨g_10, rfl⟩ : ∃ z, z = u8 := ⟨_, rfl⟩
    try dsimp only at hw_9 hB
    rw [ht8] at hB
    have hP := hB
    generalize H1 = H at hP hS ⊢
    obtain ⟨fr_11, hAW_8⟩ := hw_9
    refine lv_goto (tgt := 112) hx hb dX1_findBase_59 (by decide) ?_
    refine W.widen (k := 0) (n := 0) (by omega) (by omega) ?_
    exact W.vret hx hb hr (fun t9 ht9 hW9 => ⟨⟨g_10, rfl, ⟨(fun (k : Nat) (hk : (k < 18 ∨ 24 ≤ k) ∧ k ≠ 2 * (838 + i) ∧ k ≠ 2 * (838 + i) + 1) => (fr_11 k (by omega)).trans (rfl)), hAW_8⟩, by show va_P (dC, dI) vwCl _ t9.heap; rw [ht9]; exact hP⟩, hS.F ht9⟩) hS.2.2 dX1_findBase_112
  · refine lv_tableIn (x := nI ((gd L i).1)) (off := 86) (tgt := 90) hx hb dX1_findBase_4 (by rw [hsw]; decide) (by rw [hsw]; decide) (by rw [hsw]; decide) (by decide) ?_
    refine lv_aload_n hx hb dX1_findBase_90 rfl (lv_at hl 2 rfl) ?_
    refine lv_aload_n hx hb dX1_findBase_91 rfl (lv_at hl 0 rfl) ?_
    refine m_get (D := (dC, dI)) (v := .ref (ad 2093)) (C := RX1) (T := TX1) (N := 10) hx hb hts bk4 hown hK hP 2090 (by decide) y0 rfl 3 (by decide) (hts (.fieldLink RX1 20 "GradientDesk$Course" "bases" "[LGradientDesk$Whole;") (List.mem_of_getElem? (i := 11) rfl)) (fun _ h9 => h9) rfl dX1_findBase_92 ?_
    refine lv_aload_n hx hb dX1_findBase_95 rfl (lv_at hl 1 rfl) ?_
    refine m_get (D := (dC, dI)) (v := .int (iI ((gd L i).2.1))) (C := RX3) (T := TX3) (N := 7) hx hb hts bk0 hown hK hP (2117 + 2 * i) (ns_p (by omega)) hpi rfl 2 (by decide) (hts (.fieldLink RX1 114 "GradientDesk$Part" "first" "I") (List.mem_of_getElem? (i := 12) rfl)) (fun _ h9 => h9) rfl dX1_findBase_96 ?_
    obtain ⟨oa, hoa, eoa⟩ := hWf.op1 hi (by omega)
    refine lv_topi (fun x_12 e_13 => ?_)
    obtain rfl : x_12 = nI oa := e_13.trans (by rw [eoa]; exact (nI_iI _).symm)
    refine m_aald hx hb hK hP 2093 (by decide) rfl y3 (i := oa) (v := ad (2 * (838 + oa))) (by omega) (by decide) rfl dX1_findBase_99 ?_
    refine lv_aload_n hx hb dX1_findBase_100 rfl (lv_at hl 0 rfl) ?_
    refine m_get (D := (dC, dI)) (v := .ref (ad 2093)) (C := RX1) (T := TX1) (N := 10) hx hb hts bk4 hown hK hP 2090 (by decide) y0 rfl 3 (by decide) (hts (.fieldLink RX1 20 "GradientDesk$Course" "bases" "[LGradientDesk$Whole;") (List.mem_of_getElem? (i := 11) rfl)) (fun _ h9 => h9) rfl dX1_findBase_101 ?_
    refine lv_aload_n hx hb dX1_findBase_104 rfl (lv_at hl 1 rfl) ?_
    refine m_get (D := (dC, dI)) (v := .int (iI ((gd L i).2.2.1))) (C := RX3) (T := TX3) (N := 7) hx hb hts bk0 hown hK hP (2117 + 2 * i) (ns_p (by omega)) hpi rfl 3 (by decide) (hts (.fieldLink RX1 117 "GradientDesk$Part" "second" "I") (List.mem_of_getElem? (i := 13) rfl)) (fun _ h9 => h9) rfl dX1_findBase_105 ?_
    obtain ⟨ob, hob, eob⟩ := hWf.op2 hi (by omega)
    refine lv_topi (fun x_14 e_15 => ?_)
    obtain rfl : x_14 = nI ob := e_15.trans (by rw [eob]; exact (nI_iI _).symm)
    refine m_aald hx hb hK hP 2093 (by decide) rfl y3 (i := ob) (v := ad (2 * (838 + ob))) (by omega) (by decide) rfl dX1_findBase_108 ?_
    obtain ⟨mw_16, sw_16, nw_16, fw_16, aw_16, bw_16, cw_16, dw_16, ew_16⟩ := hW (838 + i) (by omega)
    have qw_16 : mw_16 ≤ 4096 := by rw [dw_16]; exact rmc_le _
    refine va_callv (va_runV (As := [.ref (ad (2 * (838 + oa))), .ref (ad (2 * (838 + ob)))]) (rest := []) ⟨hx, hb, hml, hown, hts⟩ (c_X8_multiply l dC dI A ad cA g (838 + i) (838 + oa) (838 + ob) hW (by omega) (by omega) (by omega) (by omega) (by omega)) (cwV 2 hts (goodIn_app (goodIn_r [Cond.methodLink RX1 55 yX8_multiply, Cond.instanceMethod yX8_multiply, Cond.selects RX8 yX8_multiply yX8_multiply, Cond.initialized RX8] [14, 15, 16, 7] rfl rfl) (goodIn_sub (fun w9 h9 => bk5 w9 h9) gw_X8_multiply)) rfl rfl rfl (by decide +kernel) ⟨Nat.le_of_ble_eq_true rfl, Nat.le_of_ble_eq_true rfl⟩) ⟨fun a U g mk q => ⟨q.1, q.2.1, q.2.2.1, LY.moved (u := U) (U := U.calling g mk a) (Vm.Alike.refl U.vm) q.2.2.2⟩, va_recv hK hP (ci := 11) (q0 := (2 * (838 + i))) rfl (wo_at (ns_w (by omega)) aw_16), fun U hU hW => ⟨rfl, by rw [hU]; exact fun q h => hA q (Nat.le_trans hS.1 h), by rw [hU]; exact hP, LY.moved hW.alike hL⟩⟩ rfl rfl hl.1 rfl (lv_room (Nat.le_of_ble_eq_true rfl)) dX1_findBase_109 ⟨(Nat.le_of_ble_eq_true rfl), (Nat.le_of_ble_eq_true rfl)⟩) hS (fun q _ h => h) (fun q h => h) (fun u8 t8 H1 locs ht8 hvm8 hw_18 hB hz1 hk1 hS => ?_)
    obtain ⟨g_19, rfl⟩ : ∃ z, z = u8 := ⟨_, rfl⟩
    try dsimp only at hw_18 hB
    rw [ht8] at hB
    have hP := hB
    generalize H1 = H at hP hS ⊢
    obtain ⟨fr_20, hAW_17⟩ := hw_18
    refine W.widen (k := 0) (n := 0) (by omega) (by omega) ?_
    exact W.vret hx hb hr (fun t9 ht9 hW9 => ⟨⟨g_19, rfl, ⟨(fun (k : Nat) (hk : (k < 18 ∨ 24 ≤ k) ∧ k ≠ 2 * (838 + i) ∧ k ≠ 2 * (838 + i) + 1) => (fr_20 k (by omega)).trans (rfl)), hAW_17⟩, by show va_P (dC, dI) vwCl _ t9.heap; rw [ht9]; exact hP⟩, hS.F ht9⟩) hS.2.2 dX1_findBase_112
  · refine lv_tableIn (x := nI ((gd L i).1)) (off := 86) (tgt := 90) hx hb dX1_findBase_4 (by rw [hsw]; decide) (by rw [hsw]; decide) (by rw [hsw]; decide) (by decide) ?_
    refine lv_aload_n hx hb dX1_findBase_90 rfl (lv_at hl 2 rfl) ?_
    refine lv_aload_n hx hb dX1_findBase_91 rfl (lv_at hl 0 rfl) ?_
    refine m_get (D := (dC, dI)) (v := .ref (ad 2093)) (C := RX1) (T := TX1) (N := 10) hx hb hts bk4 hown hK hP 2090 (by decide) y0 rfl 3 (by decide) (hts (.fieldLink RX1 20 "GradientDesk$Course" "bases" "[LGradientDesk$Whole;") (List.mem_of_getElem? (i := 11) rfl)) (fun _ h9 => h9) rfl dX1_findBase_92 ?_
    refine lv_aload_n hx hb dX1_findBase_95 rfl (lv_at hl 1 rfl) ?_
    refine m_get (D := (dC, dI)) (v := .int (iI ((gd L i).2.1))) (C := RX3) (T := TX3) (N := 7) hx hb hts bk0 hown hK hP (2117 + 2 * i) (ns_p (by omega)) hpi rfl 2 (by decide) (hts (.fieldLink RX1 114 "GradientDesk$Part" "first" "I") (List.mem_of_getElem? (i := 12) rfl)) (fun _ h9 => h9) rfl dX1_findBase_96 ?_
    obtain ⟨oa, hoa, eoa⟩ := hWf.op1 hi (by omega)
    refine lv_topi (fun x_21 e_22 => ?_)
    obtain rfl : x_21 = nI oa := e_22.trans (by rw [eoa]; exact (nI_iI _).symm)
    refine m_aald hx hb hK hP 2093 (by decide) rfl y3 (i := oa) (v := ad (2 * (838 + oa))) (by omega) (by decide) rfl dX1_findBase_99 ?_
    refine lv_aload_n hx hb dX1_findBase_100 rfl (lv_at hl 0 rfl) ?_
    refine m_get (D := (dC, dI)) (v := .ref (ad 2093)) (C := RX1) (T := TX1) (N := 10) hx hb hts bk4 hown hK hP 2090 (by decide) y0 rfl 3 (by decide) (hts (.fieldLink RX1 20 "GradientDesk$Course" "bases" "[LGradientDesk$Whole;") (List.mem_of_getElem? (i := 11) rfl)) (fun _ h9 => h9) rfl dX1_findBase_101 ?_
    refine lv_aload_n hx hb dX1_findBase_104 rfl (lv_at hl 1 rfl) ?_
    refine m_get (D := (dC, dI)) (v := .int (iI ((gd L i).2.2.1))) (C := RX3) (T := TX3) (N := 7) hx hb hts bk0 hown hK hP (2117 + 2 * i) (ns_p (by omega)) hpi rfl 3 (by decide) (hts (.fieldLink RX1 117 "GradientDesk$Part" "second" "I") (List.mem_of_getElem? (i := 13) rfl)) (fun _ h9 => h9) rfl dX1_findBase_105 ?_
    obtain ⟨ob, hob, eob⟩ := hWf.op2 hi (by omega)
    refine lv_topi (fun x_23 e_24 => ?_)
    obtain rfl : x_23 = nI ob := e_24.trans (by rw [eob]; exact (nI_iI _).symm)
    refine m_aald hx hb hK hP 2093 (by decide) rfl y3 (i := ob) (v := ad (2 * (838 + ob))) (by omega) (by decide) rfl dX1_findBase_108 ?_
    obtain ⟨mw_25, sw_25, nw_25, fw_25, aw_25, bw_25, cw_25, dw_25, ew_25⟩ := hW (838 + i) (by omega)
    have qw_25 : mw_25 ≤ 4096 := by rw [dw_25]; exact rmc_le _
    refine va_callv (va_runV (As := [.ref (ad (2 * (838 + oa))), .ref (ad (2 * (838 + ob)))]) (rest := []) ⟨hx, hb, hml, hown, hts⟩ (c_X8_multiply l dC dI A ad cA g (838 + i) (838 + oa) (838 + ob) hW (by omega) (by omega) (by omega) (by omega) (by omega)) (cwV 2 hts (goodIn_app (goodIn_r [Cond.methodLink RX1 55 yX8_multiply, Cond.instanceMethod yX8_multiply, Cond.selects RX8 yX8_multiply yX8_multiply, Cond.initialized RX8] [14, 15, 16, 7] rfl rfl) (goodIn_sub (fun w9 h9 => bk5 w9 h9) gw_X8_multiply)) rfl rfl rfl (by decide +kernel) ⟨Nat.le_of_ble_eq_true rfl, Nat.le_of_ble_eq_true rfl⟩) ⟨fun a U g mk q => ⟨q.1, q.2.1, q.2.2.1, LY.moved (u := U) (U := U.calling g mk a) (Vm.Alike.refl U.vm) q.2.2.2⟩, va_recv hK hP (ci := 11) (q0 := (2 * (838 + i))) rfl (wo_at (ns_w (by omega)) aw_25), fun U hU hW => ⟨rfl, by rw [hU]; exact fun q h => hA q (Nat.le_trans hS.1 h), by rw [hU]; exact hP, LY.moved hW.alike hL⟩⟩ rfl rfl hl.1 rfl (lv_room (Nat.le_of_ble_eq_true rfl)) dX1_findBase_109 ⟨(Nat.le_of_ble_eq_true rfl), (Nat.le_of_ble_eq_true rfl)⟩) hS (fun q _ h => h) (fun q h => h) (fun u8 t8 H1 locs ht8 hvm8 hw_27 hB hz1 hk1 hS => ?_)
    obtain ⟨g_28, rfl⟩ : ∃ z, z = u8 := ⟨_, rfl⟩
    try dsimp only at hw_27 hB
    rw [ht8] at hB
    have hP := hB
    generalize H1 = H at hP hS ⊢
    obtain ⟨fr_29, hAW_26⟩ := hw_27
    refine W.widen (k := 0) (n := 0) (by omega) (by omega) ?_
    exact W.vret hx hb hr (fun t9 ht9 hW9 => ⟨⟨g_28, rfl, ⟨(fun (k : Nat) (hk : (k < 18 ∨ 24 ≤ k) ∧ k ≠ 2 * (838 + i) ∧ k ≠ 2 * (838 + i) + 1) => (fr_29 k (by omega)).trans (rfl)), hAW_26⟩, by show va_P (dC, dI) vwCl _ t9.heap; rw [ht9]; exact hP⟩, hS.F ht9⟩) hS.2.2 dX1_findBase_112
  · refine lv_tableIn (x := nI ((gd L i).1)) (off := 58) (tgt := 62) hx hb dX1_findBase_4 (by rw [hsw]; decide) (by rw [hsw]; decide) (by rw [hsw]; decide) (by decide) ?_
    refine lv_aload_n hx hb dX1_findBase_62 rfl (lv_at hl 0 rfl) ?_
    refine lv_aload_n hx hb dX1_findBase_63 rfl (lv_at hl 0 rfl) ?_
    refine m_get (D := (dC, dI)) (v := .ref (ad 2093)) (C := RX1) (T := TX1) (N := 10) hx hb hts bk4 hown hK hP 2090 (by decide) y0 rfl 3 (by decide) (hts (.fieldLink RX1 20 "GradientDesk$Course" "bases" "[LGradientDesk$Whole;") (List.mem_of_getElem? (i := 11) rfl)) (fun _ h9 => h9) rfl dX1_findBase_64 ?_
    refine lv_aload_n hx hb dX1_findBase_67 rfl (lv_at hl 1 rfl) ?_
    refine m_get (D := (dC, dI)) (v := .int (iI ((gd L i).2.1))) (C := RX3) (T := TX3) (N := 7) hx hb hts bk0 hown hK hP (2117 + 2 * i) (ns_p (by omega)) hpi rfl 2 (by decide) (hts (.fieldLink RX1 114 "GradientDesk$Part" "first" "I") (List.mem_of_getElem? (i := 12) rfl)) (fun _ h9 => h9) rfl dX1_findBase_68 ?_
    obtain ⟨oa, hoa, eoa⟩ := hWf.op1 hi (by omega)
    refine lv_topi (fun x_30 e_31 => ?_)
    obtain rfl : x_30 = nI oa := e_31.trans (by rw [eoa]; exact (nI_iI _).symm)
    refine m_aald hx hb hK hP 2093 (by decide) rfl y3 (i := oa) (v := ad (2 * (838 + oa))) (by omega) (by decide) rfl dX1_findBase_71 ?_
    refine lv_aload_n hx hb dX1_findBase_72 rfl (lv_at hl 1 rfl) ?_
    refine m_get (D := (dC, dI)) (v := .int (iI ((gd L i).2.2.1))) (C := RX3) (T := TX3) (N := 7) hx hb hts bk0 hown hK hP (2117 + 2 * i) (ns_p (by omega)) hpi rfl 3 (by decide) (hts (.fieldLink RX1 117 "GradientDesk$Part" "second" "I") (List.mem_of_getElem? (i := 13) rfl)) (fun _ h9 => h9) rfl dX1_findBase_73 ?_
    obtain ⟨-, en, -, hen1, hen2, -, een, -⟩ := (hWf i hi).2.2.2.2.2.2.2.2.2.2 (by omega)
    refine lv_topi (fun x_32 e_33 => ?_)
    obtain rfl : x_32 = nI en := e_33.trans (by rw [een]; exact (nI_iI _).symm)
    refine va_callv (va_runV (As := [.ref (ad (2 * (838 + oa))), .int (nI en)]) (rest := []) ⟨hx, hb, hml, hown, hts⟩ (c_W1_raise l dC dI A ad cA g (838 + oa) en hW (hCr.same (fun (k : Nat) (hk : 2090 ≤ k ∧ k ≤ 2096) => rfl)) (by omega) (by omega)) (cwV 2 hts (goodIn_app (goodIn_r [Cond.methodLink RX1 120 yX1_raise, Cond.instanceMethod yX1_raise, Cond.selects RX1 yX1_raise yX1_raise, Cond.initialized RX1] [17, 18, 19, 20] rfl rfl) (goodIn_sub (fun w9 h9 => bk6 w9 h9) gw_W1_raise)) rfl rfl rfl (by decide +kernel) ⟨Nat.le_of_ble_eq_true rfl, Nat.le_of_ble_eq_true rfl⟩) ⟨fun a U g mk q => ⟨q.1, q.2.1, q.2.2.1, LY.moved (u := U) (U := U.calling g mk a) (Vm.Alike.refl U.vm) q.2.2.2⟩, va_recv hK hP (ci := 4) (q0 := 2090) rfl (wo_at (by decide) y0), fun U hU hW => ⟨rfl, by rw [hU]; exact fun q h => hA q (Nat.le_trans hS.1 h), by rw [hU]; exact hP, LY.moved hW.alike hL⟩⟩ rfl rfl hl.1 rfl (lv_room (Nat.le_of_ble_eq_true rfl)) dX1_findBase_76 ⟨(Nat.le_of_ble_eq_true rfl), (Nat.le_of_ble_eq_true rfl)⟩) hS (fun q _ h => h) (fun q h => h) (fun u8 t8 H1 locs ht8 hvm8 hw_35 hB hz1 hk1 hS => ?_)
    obtain ⟨g_36, rfl⟩ : ∃ z, z = u8 := ⟨_, rfl⟩
    try dsimp only at hw_35 hB
    rw [ht8] at hB
    have hP := hB
    generalize H1 = H at hP hS ⊢
    obtain ⟨fr_37, hAW_34⟩ := hw_35
    refine lv_aload_n hx hb dX1_findBase_79 rfl (lv_at hl 2 rfl) ?_
    refine lv_aload_n hx hb dX1_findBase_80 rfl (lv_at hl 0 rfl) ?_
    have f_38 : g_36 2090 = .inr (4, [.ref (ad 2080), .ref (ad 2091), .ref (ad 2092), .ref (ad 2093), .ref (ad 2094), .ref (ad 2095), .ref (ad 2096), .ref (ad (2 * 9)), .ref (ad (2 * 10)), .ref (ad (2 * 11))]) := (fr_37 2090 (by omega)).trans y0
    refine m_get (D := (dC, dI)) (v := .ref (ad (2 * 9))) (C := RX1) (T := TX1) (N := 10) hx hb hts bk4 hown hK hP 2090 (by decide) f_38 rfl 7 (by decide) (hts (.fieldLink RX1 37 "GradientDesk$Course" "left" "LGradientDesk$Whole;") (List.mem_of_getElem? (i := 21) rfl)) (fun _ h9 => h9) rfl dX1_findBase_81 ?_
    obtain ⟨mw_39, sw_39, nw_39, fw_39, aw_39, bw_39, cw_39, dw_39, ew_39⟩ := hAW_34 (838 + i) (by omega)
    have qw_39 : mw_39 ≤ 4096 := by rw [dw_39]; exact rmc_le _
    refine va_callv (va_runV (As := [.ref (ad (2 * 9))]) (rest := []) ⟨hx, hb, hml, hown, hts⟩ (c_X8_become l dC dI A ad cA g_36 (838 + i) 9 hAW_34 (by omega) (by omega) (by omega)) (cwV 1 hts (goodIn_app (goodIn_r [Cond.methodLink RX1 88 yX8_become, Cond.instanceMethod yX8_become, Cond.selects RX8 yX8_become yX8_become, Cond.initialized RX8] [4, 5, 6, 7] rfl rfl) (goodIn_sub (fun w9 h9 => bk2 w9 h9) gw_X8_become)) rfl rfl rfl (by decide +kernel) ⟨Nat.le_of_ble_eq_true rfl, Nat.le_of_ble_eq_true rfl⟩) ⟨fun a U g mk q => ⟨q.1, q.2.1, q.2.2.1, LY.moved (u := U) (U := U.calling g mk a) (Vm.Alike.refl U.vm) q.2.2.2⟩, va_recv hK hP (ci := 11) (q0 := (2 * (838 + i))) rfl (wo_at (ns_w (by omega)) aw_39), fun U hU hW => ⟨rfl, by rw [hU]; exact fun q h => hA q (Nat.le_trans hS.1 h), by rw [hU]; exact hP, LY.moved hW.alike hL⟩⟩ rfl rfl hl.1 rfl (lv_room (Nat.le_of_ble_eq_true rfl)) dX1_findBase_84 ⟨(Nat.le_of_ble_eq_true rfl), (Nat.le_of_ble_eq_true rfl)⟩) hS (fun q _ h => h) (fun q h => h) (fun u8 t8 H1 locs ht8 hvm8 hw_41 hB hz1 hk1 hS => ?_)
    obtain ⟨g_42, rfl⟩ : ∃ z, z = u8 := ⟨_, rfl⟩
    try dsimp only at hw_41 hB
    rw [ht8] at hB
    have hP := hB
    generalize H1 = H at hP hS ⊢
    obtain ⟨fr_43, hAW_40⟩ := hw_41
    refine lv_goto (tgt := 112) hx hb dX1_findBase_87 (by decide) ?_
    refine W.widen (k := 0) (n := 0) (by omega) (by omega) ?_
    exact W.vret hx hb hr (fun t9 ht9 hW9 => ⟨⟨g_42, rfl, ⟨(fun (k : Nat) (hk : (k < 18 ∨ 24 ≤ k) ∧ k ≠ 2 * (838 + i) ∧ k ≠ 2 * (838 + i) + 1) => (fr_43 k (by omega)).trans ((fr_37 k (by omega)).trans (rfl))), hAW_40⟩, by show va_P (dC, dI) vwCl _ t9.heap; rw [ht9]; exact hP⟩, hS.F ht9⟩) hS.2.2 dX1_findBase_112
  · refine lv_tableOut (x := nI ((gd L i).1)) (tgt := 90) hx hb dX1_findBase_4 (Or.inr (by rw [nI_toInt (by omega)]; omega)) (by decide) ?_
    refine lv_aload_n hx hb dX1_findBase_90 rfl (lv_at hl 2 rfl) ?_
    refine lv_aload_n hx hb dX1_findBase_91 rfl (lv_at hl 0 rfl) ?_
    refine m_get (D := (dC, dI)) (v := .ref (ad 2093)) (C := RX1) (T := TX1) (N := 10) hx hb hts bk4 hown hK hP 2090 (by decide) y0 rfl 3 (by decide) (hts (.fieldLink RX1 20 "GradientDesk$Course" "bases" "[LGradientDesk$Whole;") (List.mem_of_getElem? (i := 11) rfl)) (fun _ h9 => h9) rfl dX1_findBase_92 ?_
    refine lv_aload_n hx hb dX1_findBase_95 rfl (lv_at hl 1 rfl) ?_
    refine m_get (D := (dC, dI)) (v := .int (iI ((gd L i).2.1))) (C := RX3) (T := TX3) (N := 7) hx hb hts bk0 hown hK hP (2117 + 2 * i) (ns_p (by omega)) hpi rfl 2 (by decide) (hts (.fieldLink RX1 114 "GradientDesk$Part" "first" "I") (List.mem_of_getElem? (i := 12) rfl)) (fun _ h9 => h9) rfl dX1_findBase_96 ?_
    obtain ⟨oa, hoa, eoa⟩ := hWf.op1 hi (by omega)
    refine lv_topi (fun x_44 e_45 => ?_)
    obtain rfl : x_44 = nI oa := e_45.trans (by rw [eoa]; exact (nI_iI _).symm)
    refine m_aald hx hb hK hP 2093 (by decide) rfl y3 (i := oa) (v := ad (2 * (838 + oa))) (by omega) (by decide) rfl dX1_findBase_99 ?_
    refine lv_aload_n hx hb dX1_findBase_100 rfl (lv_at hl 0 rfl) ?_
    refine m_get (D := (dC, dI)) (v := .ref (ad 2093)) (C := RX1) (T := TX1) (N := 10) hx hb hts bk4 hown hK hP 2090 (by decide) y0 rfl 3 (by decide) (hts (.fieldLink RX1 20 "GradientDesk$Course" "bases" "[LGradientDesk$Whole;") (List.mem_of_getElem? (i := 11) rfl)) (fun _ h9 => h9) rfl dX1_findBase_101 ?_
    refine lv_aload_n hx hb dX1_findBase_104 rfl (lv_at hl 1 rfl) ?_
    refine m_get (D := (dC, dI)) (v := .int (iI ((gd L i).2.2.1))) (C := RX3) (T := TX3) (N := 7) hx hb hts bk0 hown hK hP (2117 + 2 * i) (ns_p (by omega)) hpi rfl 3 (by decide) (hts (.fieldLink RX1 117 "GradientDesk$Part" "second" "I") (List.mem_of_getElem? (i := 13) rfl)) (fun _ h9 => h9) rfl dX1_findBase_105 ?_
    obtain ⟨ob, hob, eob⟩ := hWf.op2 hi (by omega)
    refine lv_topi (fun x_46 e_47 => ?_)
    obtain rfl : x_46 = nI ob := e_47.trans (by rw [eob]; exact (nI_iI _).symm)
    refine m_aald hx hb hK hP 2093 (by decide) rfl y3 (i := ob) (v := ad (2 * (838 + ob))) (by omega) (by decide) rfl dX1_findBase_108 ?_
    obtain ⟨mw_48, sw_48, nw_48, fw_48, aw_48, bw_48, cw_48, dw_48, ew_48⟩ := hW (838 + i) (by omega)
    have qw_48 : mw_48 ≤ 4096 := by rw [dw_48]; exact rmc_le _
    refine va_callv (va_runV (As := [.ref (ad (2 * (838 + oa))), .ref (ad (2 * (838 + ob)))]) (rest := []) ⟨hx, hb, hml, hown, hts⟩ (c_X8_multiply l dC dI A ad cA g (838 + i) (838 + oa) (838 + ob) hW (by omega) (by omega) (by omega) (by omega) (by omega)) (cwV 2 hts (goodIn_app (goodIn_r [Cond.methodLink RX1 55 yX8_multiply, Cond.instanceMethod yX8_multiply, Cond.selects RX8 yX8_multiply yX8_multiply, Cond.initialized RX8] [14, 15, 16, 7] rfl rfl) (goodIn_sub (fun w9 h9 => bk5 w9 h9) gw_X8_multiply)) rfl rfl rfl (by decide +kernel) ⟨Nat.le_of_ble_eq_true rfl, Nat.le_of_ble_eq_true rfl⟩) ⟨fun a U g mk q => ⟨q.1, q.2.1, q.2.2.1, LY.moved (u := U) (U := U.calling g mk a) (Vm.Alike.refl U.vm) q.2.2.2⟩, va_recv hK hP (ci := 11) (q0 := (2 * (838 + i))) rfl (wo_at (ns_w (by omega)) aw_48), fun U hU hW => ⟨rfl, by rw [hU]; exact fun q h => hA q (Nat.le_trans hS.1 h), by rw [hU]; exact hP, LY.moved hW.alike hL⟩⟩ rfl rfl hl.1 rfl (lv_room (Nat.le_of_ble_eq_true rfl)) dX1_findBase_109 ⟨(Nat.le_of_ble_eq_true rfl), (Nat.le_of_ble_eq_true rfl)⟩) hS (fun q _ h => h) (fun q h => h) (fun u8 t8 H1 locs ht8 hvm8 hw_50 hB hz1 hk1 hS => ?_)
    obtain ⟨g_51, rfl⟩ : ∃ z, z = u8 := ⟨_, rfl⟩
    try dsimp only at hw_50 hB
    rw [ht8] at hB
    have hP := hB
    generalize H1 = H at hP hS ⊢
    obtain ⟨fr_52, hAW_49⟩ := hw_50
    refine W.widen (k := 0) (n := 0) (by omega) (by omega) ?_
    exact W.vret hx hb hr (fun t9 ht9 hW9 => ⟨⟨g_51, rfl, ⟨(fun (k : Nat) (hk : (k < 18 ∨ 24 ≤ k) ∧ k ≠ 2 * (838 + i) ∧ k ≠ 2 * (838 + i) + 1) => (fr_52 k (by omega)).trans (rfl)), hAW_49⟩, by show va_P (dC, dI) vwCl _ t9.heap; rw [ht9]; exact hP⟩, hS.F ht9⟩) hS.2.2 dX1_findBase_112
def wd_W1_value : List Cond := .code yX1_findValue cX1_findValue 3 none :: (([.fieldLink RX1 107 "GradientDesk$Part" "sort" "I", .fieldLink RX1 110 "GradientDesk$Part" "number" "LGradientDesk$Fraction;", .fieldLink RX1 83 "GradientDesk$Fraction" "top" "LGradientDesk$Whole;", .methodLink RX1 88 yX8_become, .instanceMethod yX8_become, .selects RX8 yX8_become yX8_become, .initialized RX8, .fieldLink RX1 26 "GradientDesk$Course" "tops" "[J", .fieldLink RX1 114 "GradientDesk$Part" "first" "I", .methodLink RX1 51 yX8_put, .instanceMethod yX8_put, .selects RX8 yX8_put yX8_put, .fieldLink RX1 11 "GradientDesk$Course" "values" "[LGradientDesk$Whole;", .methodLink RX1 124 yX1_addWidened, .instanceMethod yX1_addWidened, .selects RX1 yX1_addWidened yX1_addWidened, .initialized RX1, .fieldLink RX1 117 "GradientDesk$Part" "second" "I", .methodLink RX1 55 yX8_multiply, .instanceMethod yX8_multiply, .selects RX8 yX8_multiply yX8_multiply, .methodLink RX1 120 yX1_raise, .instanceMethod yX1_raise, .selects RX1 yX1_raise yX1_raise, .fieldLink RX1 37 "GradientDesk$Course" "left" "LGradientDesk$Whole;"] : List Cond) ++ (u_ws RX3 TX3 7 ++ (u_ws RX2 TX2 2 ++ (wd_X8_become ++ (u_ws RX1 TX1 10 ++ (wd_X8_put ++ (wd_W1_addV ++ (wd_X8_multiply ++ (wd_W1_raise ++ ([]))))))))))
theorem gw_W1_value : wd_W1_value.all goodWord = true := k_allc rfl (k_all (by decide +kernel) (k_all (gu_X3) (k_all (gu_X2) (k_all (gw_X8_become) (k_all (gu_X1) (k_all (gw_X8_put) (k_all (gw_W1_addV) (k_all (gw_X8_multiply) (k_all (gw_W1_raise) (rfl))))))))))
set_option maxHeartbeats 4000000 in
set_option maxRecDepth 100000 in
theorem c_W1_value (l : Launch) (dC : Nat → ClassId) (dI : Nat → Nat → Nat) (A : Nat → Prop) (ad : Nat → Nat) (cA : Nat → ClassId) (g : Nat → va_E) (L : List PD) (i : Nat) (hC : CS ad cA g L) (hWf : WFL L) (hCr : CRS ad cA g) (hi : i < L.length) : Met l yX1_findValue wd_W1_value ({ frames := 60, cells := 0, slots := 0, locals := 1200 }) (va_Pc [.ref (ad 2090), .ref (ad (2117 + 2 * i)), .ref (ad (2 * (438 + i)))] (PR NSc tyc dC dI A ad cA g)) (va_Qv (fun (u : Nat → va_E) => match u with | g2 => (∀ k, (k < 18 ∨ 24 ≤ k) ∧ k ≠ 2 * (438 + i) ∧ k ≠ 2 * (438 + i) + 1 → g2 k = g k) ∧ AW ad cA g2) (fun (u : Nat → va_E) (t : State) => va_P (dC, dI) vwCl (wo ad NSc u) t.heap) A) (0) (0) A := by
  refine Met.ofW (cc := cX1_findValue) (maxL := 3) (ret := none) (by decide) rfl ?_
  intro p e s m args below meth c s₁ B hml hv
  obtain ⟨rfl, hA, hP, hL⟩ := hv
  have hx := B.exec
  have hb := B.bytes
  have hr := B.returns
  have hts := atoms_spec (ws := wd_W1_value) B.pre
  have hown : s.vm.findClass RX1 = some m.cls := findClass_of_methodNamed B.named
  have hlocks := B.notSynchronized
  have hK := hL.1
  have hD : ∀ g, va_D A (wo ad NSc g) := fun g => wo_D hL.2.1 hL.2.2 g
  have hS : va_S A s.heap s.heap [] := va_S.rf
  have bk0 : ∀ w ∈ u_ws RX3 TX3 7, w ∈ wd_W1_value := fun _ h => List.mem_cons_of_mem _ (List.mem_append_right _ (List.mem_append_left _ h))
  have bk1 : ∀ w ∈ u_ws RX2 TX2 2, w ∈ wd_W1_value := fun _ h => List.mem_cons_of_mem _ (List.mem_append_right _ (List.mem_append_right _ (List.mem_append_left _ h)))
  have bk2 : ∀ w ∈ wd_X8_become, w ∈ wd_W1_value := fun _ h => List.mem_cons_of_mem _ (List.mem_append_right _ (List.mem_append_right _ (List.mem_append_right _ (List.mem_append_left _ h))))
  have bk3 : ∀ w ∈ u_ws RX1 TX1 10, w ∈ wd_W1_value := fun _ h => List.mem_cons_of_mem _ (List.mem_append_right _ (List.mem_append_right _ (List.mem_append_right _ (List.mem_append_right _ (List.mem_append_left _ h)))))
  have bk4 : ∀ w ∈ wd_X8_put, w ∈ wd_W1_value := fun _ h => List.mem_cons_of_mem _ (List.mem_append_right _ (List.mem_append_right _ (List.mem_append_right _ (List.mem_append_right _ (List.mem_append_right _ (List.mem_append_left _ h))))))
  have bk5 : ∀ w ∈ wd_W1_addV, w ∈ wd_W1_value := fun _ h => List.mem_cons_of_mem _ (List.mem_append_right _ (List.mem_append_right _ (List.mem_append_right _ (List.mem_append_right _ (List.mem_append_right _ (List.mem_append_right _ (List.mem_append_left _ h)))))))
  have bk6 : ∀ w ∈ wd_X8_multiply, w ∈ wd_W1_value := fun _ h => List.mem_cons_of_mem _ (List.mem_append_right _ (List.mem_append_right _ (List.mem_append_right _ (List.mem_append_right _ (List.mem_append_right _ (List.mem_append_right _ (List.mem_append_right _ (List.mem_append_left _ h))))))))
  have bk7 : ∀ w ∈ wd_W1_raise, w ∈ wd_W1_value := fun _ h => List.mem_cons_of_mem _ (List.mem_append_right _ (List.mem_append_right _ (List.mem_append_right _ (List.mem_append_right _ (List.mem_append_right _ (List.mem_append_right _ (List.mem_append_right _ (List.mem_append_right _ (List.mem_append_left _ h)))))))))
  have hl := lv_entry ([.ref (ad 2090), .ref (ad (2117 + 2 * i)), .ref (ad (2 * (438 + i)))]) (n := 3) (Nat.le_of_ble_eq_true rfl)
  rw [lg_entry_eq]
  generalize (lg_sl ([.ref (ad 2090), .ref (ad (2117 + 2 * i)), .ref (ad (2 * (438 + i)))]) ++ List.replicate (3 - (lg_sl ([.ref (ad 2090), .ref (ad (2117 + 2 * i)), .ref (ad (2 * (438 + i)))])).length) Slot.unset).toArray = ls at hl ⊢
  have hl : lv_has ls 3 [(0, .ref (ad 2090)), (1, .ref (ad (2117 + 2 * i))), (2, .ref (ad (2 * (438 + i))))] := hl
  have hC0 := hC
  obtain ⟨hLn, hW, ⟨hAr, hWk, hPa, hFr⟩, hO, pt, hPt, hM⟩ := hC0
  unfold CSO at hO
  have hpb := hPt.2
  obtain ⟨a0i, a1i, a2i, a3i, a4i, a5i, a6i⟩ := hM i hi
  obtain ⟨w1i, w2i, w3i, w4i, w5i, -⟩ := hWf i hi
  have hpi : g (2117 + 2 * i) = .inr (6, [.ref (ad (2118 + 2 * i)), .int (nI ((gd L i).1)), .int (iI ((gd L i).2.1)), .int (iI ((gd L i).2.2.1)), .int (nI ((gd L i).2.2.2.1)), .int (nI ((gd L i).2.2.2.2.1)), .int (nI ((gd L i).2.2.2.2.2.1))]) := by rw [hPt.1 i (by clear a6i; omega), a0i, a1i, a2i, a3i, a4i, a5i, nI_iI, nI_iI, nI_iI, nI_iI]
  obtain ⟨fni, hfni⟩ : ∃ z : Prop, z = ((gd L i).1 = 0 → CMN ad cA g (gd L i) i) := ⟨_, rfl⟩
  rw [← hfni] at a6i
  have hcr9 := hCr
  obtain ⟨y0, y1, y2, y3, y4, ⟨ft, y5⟩, fh, y6⟩ := hcr9
  have hq_1 := hFr i (by omega)
  refine lv_aload_n hx hb dX1_findValue_0 rfl (lv_at hl 1 rfl) ?_
  refine m_get (D := (dC, dI)) (v := .int (nI ((gd L i).1))) (C := RX3) (T := TX3) (N := 7) hx hb hts bk0 hown hK hP (2117 + 2 * i) (ns_p (by omega)) hpi rfl 1 (by decide) (hts (.fieldLink RX1 107 "GradientDesk$Part" "sort" "I") (List.mem_of_getElem? (i := 1) rfl)) (fun _ h9 => h9) rfl dX1_findValue_1 ?_
  rcases (show ((gd L i).1) = 0 ∨ ((gd L i).1) = 1 ∨ ((gd L i).1) = 2 ∨ ((gd L i).1) = 3 ∨ 3 < ((gd L i).1) by omega) with hsw | hsw | hsw | hsw | hsw
  · refine lv_tableIn (x := nI ((gd L i).1)) (off := 32) (tgt := 36) hx hb dX1_findValue_4 (by rw [hsw]; decide) (by rw [hsw]; decide) (by rw [hsw]; decide) (by decide) ?_
    refine lv_aload_n hx hb dX1_findValue_36 rfl (lv_at hl 2 rfl) ?_
    refine lv_aload_n hx hb dX1_findValue_37 rfl (lv_at hl 1 rfl) ?_
    refine m_get (D := (dC, dI)) (v := .ref (ad (2118 + 2 * i))) (C := RX3) (T := TX3) (N := 7) hx hb hts bk0 hown hK hP (2117 + 2 * i) (ns_p (by omega)) hpi rfl 0 (by decide) (hts (.fieldLink RX1 110 "GradientDesk$Part" "number" "LGradientDesk$Fraction;") (List.mem_of_getElem? (i := 2) rfl)) (fun _ h9 => h9) rfl dX1_findValue_38 ?_
    refine m_get (D := (dC, dI)) (v := .ref (ad (2 * (38 + 2 * i)))) (C := RX2) (T := TX2) (N := 2) hx hb hts bk1 hown hK hP (2118 + 2 * i) (ns_q (by omega)) hq_1 rfl 0 (by decide) (hts (.fieldLink RX1 83 "GradientDesk$Fraction" "top" "LGradientDesk$Whole;") (List.mem_of_getElem? (i := 3) rfl)) (fun _ h9 => h9) rfl dX1_findValue_41 ?_
    obtain ⟨mw_2, sw_2, nw_2, fw_2, aw_2, bw_2, cw_2, dw_2, ew_2⟩ := hW (438 + i) (by omega)
    have qw_2 : mw_2 ≤ 4096 := by rw [dw_2]; exact rmc_le _
    refine va_callv (va_runV (As := [.ref (ad (2 * (38 + 2 * i)))]) (rest := []) ⟨hx, hb, hml, hown, hts⟩ (c_X8_become l dC dI A ad cA g (438 + i) (38 + 2 * i) hW (by omega) (by omega) (by omega)) (cwV 1 hts (goodIn_app (goodIn_r [Cond.methodLink RX1 88 yX8_become, Cond.instanceMethod yX8_become, Cond.selects RX8 yX8_become yX8_become, Cond.initialized RX8] [4, 5, 6, 7] rfl rfl) (goodIn_sub (fun w9 h9 => bk2 w9 h9) gw_X8_become)) rfl rfl rfl (by decide +kernel) ⟨Nat.le_of_ble_eq_true rfl, Nat.le_of_ble_eq_true rfl⟩) ⟨fun a U g mk q => ⟨q.1, q.2.1, q.2.2.1, LY.moved (u := U) (U := U.calling g mk a) (Vm.Alike.refl U.vm) q.2.2.2⟩, va_recv hK hP (ci := 11) (q0 := (2 * (438 + i))) rfl (wo_at (ns_w (by omega)) aw_2), fun U hU hW => ⟨rfl, by rw [hU]; exact fun q h => hA q (Nat.le_trans hS.1 h), by rw [hU]; exact hP, LY.moved hW.alike hL⟩⟩ rfl rfl hl.1 rfl (lv_room (Nat.le_of_ble_eq_true rfl)) dX1_findValue_44 ⟨(Nat.le_of_ble_eq_true rfl), (Nat.le_of_ble_eq_true rfl)⟩) hS (fun q _ h => h) (fun q h => h) (fun u8 t8 H1 locs ht8 hvm8 hw_4 hB hz1 hk1 hS => ?_)
    obtain ⟨g_5, rfl⟩ : ∃ z, z = u8 := ⟨_, rfl⟩
    try dsimp only at hw_4 hB
    rw [ht8] at hB
    have hP := hB
    generalize H1 = H at hP hS ⊢
    obtain ⟨fr_6, hAW_3⟩ := hw_4
    refine lv_goto (tgt := 129) hx hb dX1_findValue_47 (by decide) ?_
    refine W.widen (k := 0) (n := 0) (by omega) (by omega) ?_
    exact W.vret hx hb hr (fun t9 ht9 hW9 => ⟨⟨g_5, rfl, ⟨(fun (k : Nat) (hk : (k < 18 ∨ 24 ≤ k) ∧ k ≠ 2 * (438 + i) ∧ k ≠ 2 * (438 + i) + 1) => (fr_6 k (by omega)).trans (rfl)), hAW_3⟩, by show va_P (dC, dI) vwCl _ t9.heap; rw [ht9]; exact hP⟩, hS.F ht9⟩) hS.2.2 dX1_findValue_129
  · refine lv_tableIn (x := nI ((gd L i).1)) (off := 46) (tgt := 50) hx hb dX1_findValue_4 (by rw [hsw]; decide) (by rw [hsw]; decide) (by rw [hsw]; decide) (by decide) ?_
    refine lv_aload_n hx hb dX1_findValue_50 rfl (lv_at hl 2 rfl) ?_
    refine lv_aload_n hx hb dX1_findValue_51 rfl (lv_at hl 0 rfl) ?_
    refine m_get (D := (dC, dI)) (v := .ref (ad 2095)) (C := RX1) (T := TX1) (N := 10) hx hb hts bk3 hown hK hP 2090 (by decide) y0 rfl 5 (by decide) (hts (.fieldLink RX1 26 "GradientDesk$Course" "tops" "[J") (List.mem_of_getElem? (i := 8) rfl)) (fun _ h9 => h9) rfl dX1_findValue_52 ?_
    refine lv_aload_n hx hb dX1_findValue_55 rfl (lv_at hl 1 rfl) ?_
    refine m_get (D := (dC, dI)) (v := .int (iI ((gd L i).2.1))) (C := RX3) (T := TX3) (N := 7) hx hb hts bk0 hown hK hP (2117 + 2 * i) (ns_p (by omega)) hpi rfl 2 (by decide) (hts (.fieldLink RX1 114 "GradientDesk$Part" "first" "I") (List.mem_of_getElem? (i := 9) rfl)) (fun _ h9 => h9) rfl dX1_findValue_56 ?_
    obtain ⟨vv, hvv, evv, -⟩ := (hWf i hi).2.2.2.2.2.2.2.1 (by omega)
    refine lv_topi (fun x_7 e_8 => ?_)
    obtain rfl : x_7 = nI vv := e_8.trans (by rw [evv]; exact (nI_iI _).symm)
    refine m_lald hx hb hK hP 2095 (by decide) rfl y5 (i := vv) (by omega) (by decide) dX1_findValue_59 ?_
    refine lv_topl (fun y_9 e_10 => ?_)
    obtain ⟨mw_11, sw_11, nw_11, fw_11, aw_11, bw_11, cw_11, dw_11, ew_11⟩ := hW (438 + i) (by omega)
    have qw_11 : mw_11 ≤ 4096 := by rw [dw_11]; exact rmc_le _
    refine va_callv (va_runV (As := [.long y_9]) (rest := []) ⟨hx, hb, hml, hown, hts⟩ (c_X8_put l dC dI A ad cA g (438 + i) y_9 hW (by omega)) (cwV 1 hts (goodIn_app (goodIn_r [Cond.methodLink RX1 51 yX8_put, Cond.instanceMethod yX8_put, Cond.selects RX8 yX8_put yX8_put, Cond.initialized RX8] [10, 11, 12, 7] rfl rfl) (goodIn_sub (fun w9 h9 => bk4 w9 h9) gw_X8_put)) rfl rfl rfl (by decide +kernel) ⟨Nat.le_of_ble_eq_true rfl, Nat.le_of_ble_eq_true rfl⟩) ⟨fun a U g mk q => ⟨q.1, q.2.1, q.2.2.1, LY.moved (u := U) (U := U.calling g mk a) (Vm.Alike.refl U.vm) q.2.2.2⟩, va_recv hK hP (ci := 11) (q0 := (2 * (438 + i))) rfl (wo_at (ns_w (by omega)) aw_11), fun U hU hW => ⟨rfl, by rw [hU]; exact fun q h => hA q (Nat.le_trans hS.1 h), by rw [hU]; exact hP, LY.moved hW.alike hL⟩⟩ rfl rfl hl.1 rfl (lv_room (Nat.le_of_ble_eq_true rfl)) dX1_findValue_60 ⟨(Nat.le_of_ble_eq_true rfl), (Nat.le_of_ble_eq_true rfl)⟩) hS (fun q _ h => h) (fun q h => h) (fun u8 t8 H1 locs ht8 hvm8 hw_13 hB hz1 hk1 hS => ?_)
    obtain ⟨g_14, rfl⟩ : ∃ z, z = u8 := ⟨_, rfl⟩
    try dsimp only at hw_13 hB
    rw [ht8] at hB
    have hP := hB
    generalize H1 = H at hP hS ⊢
    obtain ⟨fr_15, hAW_12⟩ := hw_13
    refine lv_goto (tgt := 129) hx hb dX1_findValue_63 (by decide) ?_
    refine W.widen (k := 0) (n := 0) (by omega) (by omega) ?_
    exact W.vret hx hb hr (fun t9 ht9 hW9 => ⟨⟨g_14, rfl, ⟨(fun (k : Nat) (hk : (k < 18 ∨ 24 ≤ k) ∧ k ≠ 2 * (438 + i) ∧ k ≠ 2 * (438 + i) + 1) => (fr_15 k (by omega)).trans (rfl)), hAW_12⟩, by show va_P (dC, dI) vwCl _ t9.heap; rw [ht9]; exact hP⟩, hS.F ht9⟩) hS.2.2 dX1_findValue_129
  · refine lv_tableIn (x := nI ((gd L i).1)) (off := 62) (tgt := 66) hx hb dX1_findValue_4 (by rw [hsw]; decide) (by rw [hsw]; decide) (by rw [hsw]; decide) (by decide) ?_
    refine lv_aload_n hx hb dX1_findValue_66 rfl (lv_at hl 0 rfl) ?_
    refine lv_aload_n hx hb dX1_findValue_67 rfl (lv_at hl 0 rfl) ?_
    refine m_get (D := (dC, dI)) (v := .ref (ad 2091)) (C := RX1) (T := TX1) (N := 10) hx hb hts bk3 hown hK hP 2090 (by decide) y0 rfl 1 (by decide) (hts (.fieldLink RX1 11 "GradientDesk$Course" "values" "[LGradientDesk$Whole;") (List.mem_of_getElem? (i := 13) rfl)) (fun _ h9 => h9) rfl dX1_findValue_68 ?_
    refine lv_aload_n hx hb dX1_findValue_71 rfl (lv_at hl 1 rfl) ?_
    refine lv_aload_n hx hb dX1_findValue_72 rfl (lv_at hl 2 rfl) ?_
    refine va_callv (va_runV (As := [.ref (ad 2091), .ref (ad (2117 + 2 * i)), .ref (ad (2 * (438 + i)))]) (rest := []) ⟨hx, hb, hml, hown, hts⟩ (c_W1_addV l dC dI A ad cA g L i (438 + i) hC hWf (hCr.same (fun (k : Nat) (hk : 2090 ≤ k ∧ k ≤ 2096) => rfl)) hi (by omega) (by omega)) (cwV 3 hts (goodIn_app (goodIn_r [Cond.methodLink RX1 124 yX1_addWidened, Cond.instanceMethod yX1_addWidened, Cond.selects RX1 yX1_addWidened yX1_addWidened, Cond.initialized RX1] [14, 15, 16, 17] rfl rfl) (goodIn_sub (fun w9 h9 => bk5 w9 h9) gw_W1_addV)) rfl rfl rfl (by decide +kernel) ⟨Nat.le_of_ble_eq_true rfl, Nat.le_of_ble_eq_true rfl⟩) ⟨fun a U g mk q => ⟨q.1, q.2.1, q.2.2.1, LY.moved (u := U) (U := U.calling g mk a) (Vm.Alike.refl U.vm) q.2.2.2⟩, va_recv hK hP (ci := 4) (q0 := 2090) rfl (wo_at (by decide) y0), fun U hU hW => ⟨rfl, by rw [hU]; exact fun q h => hA q (Nat.le_trans hS.1 h), by rw [hU]; exact hP, LY.moved hW.alike hL⟩⟩ rfl rfl hl.1 rfl (lv_room (Nat.le_of_ble_eq_true rfl)) dX1_findValue_73 ⟨(Nat.le_of_ble_eq_true rfl), (Nat.le_of_ble_eq_true rfl)⟩) hS (fun q _ h => h) (fun q h => h) (fun u8 t8 H1 locs ht8 hvm8 hw_17 hB hz1 hk1 hS => ?_)
    obtain ⟨g_18, rfl⟩ : ∃ z, z = u8 := ⟨_, rfl⟩
    try dsimp only at hw_17 hB
    rw [ht8] at hB
    have hP := hB
    generalize H1 = H at hP hS ⊢
    obtain ⟨fr_19, hAW_16⟩ := hw_17
    refine lv_goto (tgt := 129) hx hb dX1_findValue_76 (by decide) ?_
    refine W.widen (k := 0) (n := 0) (by omega) (by omega) ?_
    exact W.vret hx hb hr (fun t9 ht9 hW9 => ⟨⟨g_18, rfl, ⟨(fun (k : Nat) (hk : (k < 18 ∨ 24 ≤ k) ∧ k ≠ 2 * (438 + i) ∧ k ≠ 2 * (438 + i) + 1) => (fr_19 k (by omega)).trans (rfl)), hAW_16⟩, by show va_P (dC, dI) vwCl _ t9.heap; rw [ht9]; exact hP⟩, hS.F ht9⟩) hS.2.2 dX1_findValue_129
  · refine lv_tableIn (x := nI ((gd L i).1)) (off := 75) (tgt := 79) hx hb dX1_findValue_4 (by rw [hsw]; decide) (by rw [hsw]; decide) (by rw [hsw]; decide) (by decide) ?_
    refine lv_aload_n hx hb dX1_findValue_79 rfl (lv_at hl 2 rfl) ?_
    refine lv_aload_n hx hb dX1_findValue_80 rfl (lv_at hl 0 rfl) ?_
    refine m_get (D := (dC, dI)) (v := .ref (ad 2091)) (C := RX1) (T := TX1) (N := 10) hx hb hts bk3 hown hK hP 2090 (by decide) y0 rfl 1 (by decide) (hts (.fieldLink RX1 11 "GradientDesk$Course" "values" "[LGradientDesk$Whole;") (List.mem_of_getElem? (i := 13) rfl)) (fun _ h9 => h9) rfl dX1_findValue_81 ?_
    refine lv_aload_n hx hb dX1_findValue_84 rfl (lv_at hl 1 rfl) ?_
    refine m_get (D := (dC, dI)) (v := .int (iI ((gd L i).2.1))) (C := RX3) (T := TX3) (N := 7) hx hb hts bk0 hown hK hP (2117 + 2 * i) (ns_p (by omega)) hpi rfl 2 (by decide) (hts (.fieldLink RX1 114 "GradientDesk$Part" "first" "I") (List.mem_of_getElem? (i := 9) rfl)) (fun _ h9 => h9) rfl dX1_findValue_85 ?_
    obtain ⟨oa, hoa, eoa⟩ := hWf.op1 hi (by omega)
    refine lv_topi (fun x_20 e_21 => ?_)
    obtain rfl : x_20 = nI oa := e_21.trans (by rw [eoa]; exact (nI_iI _).symm)
    refine m_aald hx hb hK hP 2091 (by decide) rfl y1 (i := oa) (v := ad (2 * (438 + oa))) (by omega) (by decide) rfl dX1_findValue_88 ?_
    refine lv_aload_n hx hb dX1_findValue_89 rfl (lv_at hl 0 rfl) ?_
    refine m_get (D := (dC, dI)) (v := .ref (ad 2091)) (C := RX1) (T := TX1) (N := 10) hx hb hts bk3 hown hK hP 2090 (by decide) y0 rfl 1 (by decide) (hts (.fieldLink RX1 11 "GradientDesk$Course" "values" "[LGradientDesk$Whole;") (List.mem_of_getElem? (i := 13) rfl)) (fun _ h9 => h9) rfl dX1_findValue_90 ?_
    refine lv_aload_n hx hb dX1_findValue_93 rfl (lv_at hl 1 rfl) ?_
    refine m_get (D := (dC, dI)) (v := .int (iI ((gd L i).2.2.1))) (C := RX3) (T := TX3) (N := 7) hx hb hts bk0 hown hK hP (2117 + 2 * i) (ns_p (by omega)) hpi rfl 3 (by decide) (hts (.fieldLink RX1 117 "GradientDesk$Part" "second" "I") (List.mem_of_getElem? (i := 18) rfl)) (fun _ h9 => h9) rfl dX1_findValue_94 ?_
    obtain ⟨ob, hob, eob⟩ := hWf.op2 hi (by omega)
    refine lv_topi (fun x_22 e_23 => ?_)
    obtain rfl : x_22 = nI ob := e_23.trans (by rw [eob]; exact (nI_iI _).symm)
    refine m_aald hx hb hK hP 2091 (by decide) rfl y1 (i := ob) (v := ad (2 * (438 + ob))) (by omega) (by decide) rfl dX1_findValue_97 ?_
    obtain ⟨mw_24, sw_24, nw_24, fw_24, aw_24, bw_24, cw_24, dw_24, ew_24⟩ := hW (438 + i) (by omega)
    have qw_24 : mw_24 ≤ 4096 := by rw [dw_24]; exact rmc_le _
    refine va_callv (va_runV (As := [.ref (ad (2 * (438 + oa))), .ref (ad (2 * (438 + ob)))]) (rest := []) ⟨hx, hb, hml, hown, hts⟩ (c_X8_multiply l dC dI A ad cA g (438 + i) (438 + oa) (438 + ob) hW (by omega) (by omega) (by omega) (by omega) (by omega)) (cwV 2 hts (goodIn_app (goodIn_r [Cond.methodLink RX1 55 yX8_multiply, Cond.instanceMethod yX8_multiply, Cond.selects RX8 yX8_multiply yX8_multiply, Cond.initialized RX8] [19, 20, 21, 7] rfl rfl) (goodIn_sub (fun w9 h9 => bk6 w9 h9) gw_X8_multiply)) rfl rfl rfl (by decide +kernel) ⟨Nat.le_of_ble_eq_true rfl, Nat.le_of_ble_eq_true rfl⟩) ⟨fun a U g mk q => ⟨q.1, q.2.1, q.2.2.1, LY.moved (u := U) (U := U.calling g mk a) (Vm.Alike.refl U.vm) q.2.2.2⟩, va_recv hK hP (ci := 11) (q0 := (2 * (438 + i))) rfl (wo_at (ns_w (by omega)) aw_24), fun U hU hW => ⟨rfl, by rw [hU]; exact fun q h => hA q (Nat.le_trans hS.1 h), by rw [hU]; exact hP, LY.moved hW.alike hL⟩⟩ rfl rfl hl.1 rfl (lv_room (Nat.le_of_ble_eq_true rfl)) dX1_findValue_98 ⟨(Nat.le_of_ble_eq_true rfl), (Nat.le_of_ble_eq_true rfl)⟩) hS (fun q _ h => h) (fun q h => h) (fun u8 t8 H1 locs ht8 hvm8 hw_26 hB hz1 hk1 hS => ?_)
    obtain ⟨g_27, rfl⟩ : ∃ z, z = u8 := ⟨_, rfl⟩
    try dsimp only at hw_26 hB
    rw [ht8] at hB
    have hP := hB
    generalize H1 = H at hP hS ⊢
    obtain ⟨fr_28, hAW_25⟩ := hw_26
    refine lv_goto (tgt := 129) hx hb dX1_findValue_101 (by decide) ?_
    refine W.widen (k := 0) (n := 0) (by omega) (by omega) ?_
    exact W.vret hx hb hr (fun t9 ht9 hW9 => ⟨⟨g_27, rfl, ⟨(fun (k : Nat) (hk : (k < 18 ∨ 24 ≤ k) ∧ k ≠ 2 * (438 + i) ∧ k ≠ 2 * (438 + i) + 1) => (fr_28 k (by omega)).trans (rfl)), hAW_25⟩, by show va_P (dC, dI) vwCl _ t9.heap; rw [ht9]; exact hP⟩, hS.F ht9⟩) hS.2.2 dX1_findValue_129
  · refine lv_tableOut (x := nI ((gd L i).1)) (tgt := 104) hx hb dX1_findValue_4 (Or.inr (by rw [nI_toInt (by omega)]; omega)) (by decide) ?_
    refine lv_aload_n hx hb dX1_findValue_104 rfl (lv_at hl 0 rfl) ?_
    refine lv_aload_n hx hb dX1_findValue_105 rfl (lv_at hl 0 rfl) ?_
    refine m_get (D := (dC, dI)) (v := .ref (ad 2091)) (C := RX1) (T := TX1) (N := 10) hx hb hts bk3 hown hK hP 2090 (by decide) y0 rfl 1 (by decide) (hts (.fieldLink RX1 11 "GradientDesk$Course" "values" "[LGradientDesk$Whole;") (List.mem_of_getElem? (i := 13) rfl)) (fun _ h9 => h9) rfl dX1_findValue_106 ?_
    refine lv_aload_n hx hb dX1_findValue_109 rfl (lv_at hl 1 rfl) ?_
    refine m_get (D := (dC, dI)) (v := .int (iI ((gd L i).2.1))) (C := RX3) (T := TX3) (N := 7) hx hb hts bk0 hown hK hP (2117 + 2 * i) (ns_p (by omega)) hpi rfl 2 (by decide) (hts (.fieldLink RX1 114 "GradientDesk$Part" "first" "I") (List.mem_of_getElem? (i := 9) rfl)) (fun _ h9 => h9) rfl dX1_findValue_110 ?_
    obtain ⟨oa, hoa, eoa⟩ := hWf.op1 hi (by omega)
    refine lv_topi (fun x_29 e_30 => ?_)
    obtain rfl : x_29 = nI oa := e_30.trans (by rw [eoa]; exact (nI_iI _).symm)
    refine m_aald hx hb hK hP 2091 (by decide) rfl y1 (i := oa) (v := ad (2 * (438 + oa))) (by omega) (by decide) rfl dX1_findValue_113 ?_
    refine lv_aload_n hx hb dX1_findValue_114 rfl (lv_at hl 1 rfl) ?_
    refine m_get (D := (dC, dI)) (v := .int (iI ((gd L i).2.2.1))) (C := RX3) (T := TX3) (N := 7) hx hb hts bk0 hown hK hP (2117 + 2 * i) (ns_p (by omega)) hpi rfl 3 (by decide) (hts (.fieldLink RX1 117 "GradientDesk$Part" "second" "I") (List.mem_of_getElem? (i := 18) rfl)) (fun _ h9 => h9) rfl dX1_findValue_115 ?_
    obtain ⟨-, en, -, hen1, hen2, -, een, -⟩ := (hWf i hi).2.2.2.2.2.2.2.2.2.2 (by omega)
    refine lv_topi (fun x_31 e_32 => ?_)
    obtain rfl : x_31 = nI en := e_32.trans (by rw [een]; exact (nI_iI _).symm)
    refine va_callv (va_runV (As := [.ref (ad (2 * (438 + oa))), .int (nI en)]) (rest := []) ⟨hx, hb, hml, hown, hts⟩ (c_W1_raise l dC dI A ad cA g (438 + oa) en hW (hCr.same (fun (k : Nat) (hk : 2090 ≤ k ∧ k ≤ 2096) => rfl)) (by omega) (by omega)) (cwV 2 hts (goodIn_app (goodIn_r [Cond.methodLink RX1 120 yX1_raise, Cond.instanceMethod yX1_raise, Cond.selects RX1 yX1_raise yX1_raise, Cond.initialized RX1] [22, 23, 24, 17] rfl rfl) (goodIn_sub (fun w9 h9 => bk7 w9 h9) gw_W1_raise)) rfl rfl rfl (by decide +kernel) ⟨Nat.le_of_ble_eq_true rfl, Nat.le_of_ble_eq_true rfl⟩) ⟨fun a U g mk q => ⟨q.1, q.2.1, q.2.2.1, LY.moved (u := U) (U := U.calling g mk a) (Vm.Alike.refl U.vm) q.2.2.2⟩, va_recv hK hP (ci := 4) (q0 := 2090) rfl (wo_at (by decide) y0), fun U hU hW => ⟨rfl, by rw [hU]; exact fun q h => hA q (Nat.le_trans hS.1 h), by rw [hU]; exact hP, LY.moved hW.alike hL⟩⟩ rfl rfl hl.1 rfl (lv_room (Nat.le_of_ble_eq_true rfl)) dX1_findValue_118 ⟨(Nat.le_of_ble_eq_true rfl), (Nat.le_of_ble_eq_true rfl)⟩) hS (fun q _ h => h) (fun q h => h) (fun u8 t8 H1 locs ht8 hvm8 hw_34 hB hz1 hk1 hS => ?_)
    obtain ⟨g_35, rfl⟩ : ∃ z, z = u8 := ⟨_, rfl⟩
    try dsimp only at hw_34 hB
    rw [ht8] at hB
    have hP := hB
    generalize H1 = H at hP hS ⊢
    obtain ⟨fr_36, hAW_33⟩ := hw_34
    refine lv_aload_n hx hb dX1_findValue_121 rfl (lv_at hl 2 rfl) ?_
    refine lv_aload_n hx hb dX1_findValue_122 rfl (lv_at hl 0 rfl) ?_
    have f_37 : g_35 2090 = .inr (4, [.ref (ad 2080), .ref (ad 2091), .ref (ad 2092), .ref (ad 2093), .ref (ad 2094), .ref (ad 2095), .ref (ad 2096), .ref (ad (2 * 9)), .ref (ad (2 * 10)), .ref (ad (2 * 11))]) := (fr_36 2090 (by omega)).trans y0
    refine m_get (D := (dC, dI)) (v := .ref (ad (2 * 9))) (C := RX1) (T := TX1) (N := 10) hx hb hts bk3 hown hK hP 2090 (by decide) f_37 rfl 7 (by decide) (hts (.fieldLink RX1 37 "GradientDesk$Course" "left" "LGradientDesk$Whole;") (List.mem_of_getElem? (i := 25) rfl)) (fun _ h9 => h9) rfl dX1_findValue_123 ?_
    obtain ⟨mw_38, sw_38, nw_38, fw_38, aw_38, bw_38, cw_38, dw_38, ew_38⟩ := hAW_33 (438 + i) (by omega)
    have qw_38 : mw_38 ≤ 4096 := by rw [dw_38]; exact rmc_le _
    refine va_callv (va_runV (As := [.ref (ad (2 * 9))]) (rest := []) ⟨hx, hb, hml, hown, hts⟩ (c_X8_become l dC dI A ad cA g_35 (438 + i) 9 hAW_33 (by omega) (by omega) (by omega)) (cwV 1 hts (goodIn_app (goodIn_r [Cond.methodLink RX1 88 yX8_become, Cond.instanceMethod yX8_become, Cond.selects RX8 yX8_become yX8_become, Cond.initialized RX8] [4, 5, 6, 7] rfl rfl) (goodIn_sub (fun w9 h9 => bk2 w9 h9) gw_X8_become)) rfl rfl rfl (by decide +kernel) ⟨Nat.le_of_ble_eq_true rfl, Nat.le_of_ble_eq_true rfl⟩) ⟨fun a U g mk q => ⟨q.1, q.2.1, q.2.2.1, LY.moved (u := U) (U := U.calling g mk a) (Vm.Alike.refl U.vm) q.2.2.2⟩, va_recv hK hP (ci := 11) (q0 := (2 * (438 + i))) rfl (wo_at (ns_w (by omega)) aw_38), fun U hU hW => ⟨rfl, by rw [hU]; exact fun q h => hA q (Nat.le_trans hS.1 h), by rw [hU]; exact hP, LY.moved hW.alike hL⟩⟩ rfl rfl hl.1 rfl (lv_room (Nat.le_of_ble_eq_true rfl)) dX1_findValue_126 ⟨(Nat.le_of_ble_eq_true rfl), (Nat.le_of_ble_eq_true rfl)⟩) hS (fun q _ h => h) (fun q h => h) (fun u8 t8 H1 locs ht8 hvm8 hw_40 hB hz1 hk1 hS => ?_)
    obtain ⟨g_41, rfl⟩ : ∃ z, z = u8 := ⟨_, rfl⟩
    try dsimp only at hw_40 hB
    rw [ht8] at hB
    have hP := hB
    generalize H1 = H at hP hS ⊢
    obtain ⟨fr_42, hAW_39⟩ := hw_40
    refine W.widen (k := 0) (n := 0) (by omega) (by omega) ?_
    exact W.vret hx hb hr (fun t9 ht9 hW9 => ⟨⟨g_41, rfl, ⟨(fun (k : Nat) (hk : (k < 18 ∨ 24 ≤ k) ∧ k ≠ 2 * (438 + i) ∧ k ≠ 2 * (438 + i) + 1) => (fr_42 k (by omega)).trans ((fr_36 k (by omega)).trans (rfl))), hAW_39⟩, by show va_P (dC, dI) vwCl _ t9.heap; rw [ht9]; exact hP⟩, hS.F ht9⟩) hS.2.2 dX1_findValue_129
def wd_W1_slope : List Cond := .code yX1_findSlope cX1_findSlope 3 none :: (([.fieldLink RX1 107 "GradientDesk$Part" "sort" "I", .methodLink RX1 51 yX8_put, .instanceMethod yX8_put, .selects RX8 yX8_put yX8_put, .initialized RX8, .fieldLink RX1 30 "GradientDesk$Course" "heading" "[I", .fieldLink RX1 114 "GradientDesk$Part" "first" "I", .fieldLink RX1 17 "GradientDesk$Course" "slopes" "[LGradientDesk$Whole;", .methodLink RX1 124 yX1_addWidened, .instanceMethod yX1_addWidened, .selects RX1 yX1_addWidened yX1_addWidened, .initialized RX1, .fieldLink RX1 37 "GradientDesk$Course" "left" "LGradientDesk$Whole;", .fieldLink RX1 11 "GradientDesk$Course" "values" "[LGradientDesk$Whole;", .fieldLink RX1 117 "GradientDesk$Part" "second" "I", .methodLink RX1 55 yX8_multiply, .instanceMethod yX8_multiply, .selects RX8 yX8_multiply yX8_multiply, .fieldLink RX1 41 "GradientDesk$Course" "right" "LGradientDesk$Whole;", .methodLink RX1 128 yX8_add, .instanceMethod yX8_add, .selects RX8 yX8_add yX8_add, .methodLink RX1 120 yX1_raise, .instanceMethod yX1_raise, .selects RX1 yX1_raise yX1_raise, .fieldLink RX1 44 "GradientDesk$Course" "hold" "LGradientDesk$Whole;"] : List Cond) ++ (u_ws RX3 TX3 7 ++ (wd_X8_put ++ (u_ws RX1 TX1 10 ++ (wd_W1_addS ++ (wd_X8_multiply ++ (wd_X8_add ++ (wd_W1_raise ++ ([])))))))))
theorem gw_W1_slope : wd_W1_slope.all goodWord = true := k_allc rfl (k_all (by decide +kernel) (k_all (gu_X3) (k_all (gw_X8_put) (k_all (gu_X1) (k_all (gw_W1_addS) (k_all (gw_X8_multiply) (k_all (gw_X8_add) (k_all (gw_W1_raise) (rfl)))))))))
set_option maxHeartbeats 4000000 in
set_option maxRecDepth 100000 in
theorem c_W1_slope (l : Launch) (dC : Nat → ClassId) (dI : Nat → Nat → Nat) (A : Nat → Prop) (ad : Nat → Nat) (cA : Nat → ClassId) (g : Nat → va_E) (L : List PD) (i : Nat) (hC : CS ad cA g L) (hWf : WFL L) (hCr : CRS ad cA g) (hi : i < L.length) : Met l yX1_findSlope wd_W1_slope ({ frames := 60, cells := 0, slots := 0, locals := 1200 }) (va_Pc [.ref (ad 2090), .ref (ad (2117 + 2 * i)), .ref (ad (2 * (638 + i)))] (PR NSc tyc dC dI A ad cA g)) (va_Qv (fun (u : Nat → va_E) => match u with | g2 => (∀ k, (k < 18 ∨ 24 ≤ k) ∧ k ≠ 2 * (638 + i) ∧ k ≠ 2 * (638 + i) + 1 → g2 k = g k) ∧ AW ad cA g2) (fun (u : Nat → va_E) (t : State) => va_P (dC, dI) vwCl (wo ad NSc u) t.heap) A) (0) (0) A := by
  refine Met.ofW (cc := cX1_findSlope) (maxL := 3) (ret := none) (by decide) rfl ?_
  intro p e s m args below meth c s₁ B hml hv
  obtain ⟨rfl, hA, hP, hL⟩ := hv
  have hx := B.exec
  have hb := B.bytes
  have hr := B.returns
  have hts := atoms_spec (ws := wd_W1_slope) B.pre
  have hown : s.vm.findClass RX1 = some m.cls := findClass_of_methodNamed B.named
  have hlocks := B.notSynchronized
  have hK := hL.1
  have hD : ∀ g, va_D A (wo ad NSc g) := fun g => wo_D hL.2.1 hL.2.2 g
  have hS : va_S A s.heap s.heap [] := va_S.rf
  have bk0 : ∀ w ∈ u_ws RX3 TX3 7, w ∈ wd_W1_slope := fun _ h => List.mem_cons_of_mem _ (List.mem_append_right _ (List.mem_append_left _ h))
  have bk1 : ∀ w ∈ wd_X8_put, w ∈ wd_W1_slope := fun _ h => List.mem_cons_of_mem _ (List.mem_append_right _ (List.mem_append_right _ (List.mem_append_left _ h)))
  have bk2 : ∀ w ∈ u_ws RX1 TX1 10, w ∈ wd_W1_slope := fun _ h => List.mem_cons_of_mem _ (List.mem_append_right _ (List.mem_append_right _ (List.mem_append_right _ (List.mem_append_left _ h))))
  have bk3 : ∀ w ∈ wd_W1_addS, w ∈ wd_W1_slope := fun _ h => List.mem_cons_of_mem _ (List.mem_append_right _ (List.mem_append_right _ (List.mem_append_right _ (List.mem_append_right _ (List.mem_append_left _ h)))))
  have bk4 : ∀ w ∈ wd_X8_multiply, w ∈ wd_W1_slope := fun _ h => List.mem_cons_of_mem _ (List.mem_append_right _ (List.mem_append_right _ (List.mem_append_right _ (List.mem_append_right _ (List.mem_append_right _ (List.mem_append_left _ h))))))
  have bk5 : ∀ w ∈ wd_X8_add, w ∈ wd_W1_slope := fun _ h => List.mem_cons_of_mem _ (List.mem_append_right _ (List.mem_append_right _ (List.mem_append_right _ (List.mem_append_right _ (List.mem_append_right _ (List.mem_append_right _ (List.mem_append_left _ h)))))))
  have bk6 : ∀ w ∈ wd_W1_raise, w ∈ wd_W1_slope := fun _ h => List.mem_cons_of_mem _ (List.mem_append_right _ (List.mem_append_right _ (List.mem_append_right _ (List.mem_append_right _ (List.mem_append_right _ (List.mem_append_right _ (List.mem_append_right _ (List.mem_append_left _ h))))))))
  have hl := lv_entry ([.ref (ad 2090), .ref (ad (2117 + 2 * i)), .ref (ad (2 * (638 + i)))]) (n := 3) (Nat.le_of_ble_eq_true rfl)
  rw [lg_entry_eq]
  generalize (lg_sl ([.ref (ad 2090), .ref (ad (2117 + 2 * i)), .ref (ad (2 * (638 + i)))]) ++ List.replicate (3 - (lg_sl ([.ref (ad 2090), .ref (ad (2117 + 2 * i)), .ref (ad (2 * (638 + i)))])).length) Slot.unset).toArray = ls at hl ⊢
  have hl : lv_has ls 3 [(0, .ref (ad 2090)), (1, .ref (ad (2117 + 2 * i))), (2, .ref (ad (2 * (638 + i))))] := hl
  have hC0 := hC
  obtain ⟨hLn, hW, ⟨hAr, hWk, hPa, hFr⟩, hO, pt, hPt, hM⟩ := hC0
  unfold CSO at hO
  have hpb := hPt.2
  obtain ⟨a0i, a1i, a2i, a3i, a4i, a5i, a6i⟩ := hM i hi
  obtain ⟨w1i, w2i, w3i, w4i, w5i, -⟩ := hWf i hi
  have hpi : g (2117 + 2 * i) = .inr (6, [.ref (ad (2118 + 2 * i)), .int (nI ((gd L i).1)), .int (iI ((gd L i).2.1)), .int (iI ((gd L i).2.2.1)), .int (nI ((gd L i).2.2.2.1)), .int (nI ((gd L i).2.2.2.2.1)), .int (nI ((gd L i).2.2.2.2.2.1))]) := by rw [hPt.1 i (by clear a6i; omega), a0i, a1i, a2i, a3i, a4i, a5i, nI_iI, nI_iI, nI_iI, nI_iI]
  obtain ⟨fni, hfni⟩ : ∃ z : Prop, z = ((gd L i).1 = 0 → CMN ad cA g (gd L i) i) := ⟨_, rfl⟩
  rw [← hfni] at a6i
  have hcr9 := hCr
  obtain ⟨y0, y1, y2, y3, y4, ⟨ft, y5⟩, fh, y6⟩ := hcr9
  have hq_1 := hFr i (by omega)
  refine lv_aload_n hx hb dX1_findSlope_0 rfl (lv_at hl 1 rfl) ?_
  refine m_get (D := (dC, dI)) (v := .int (nI ((gd L i).1))) (C := RX3) (T := TX3) (N := 7) hx hb hts bk0 hown hK hP (2117 + 2 * i) (ns_p (by omega)) hpi rfl 1 (by decide) (hts (.fieldLink RX1 107 "GradientDesk$Part" "sort" "I") (List.mem_of_getElem? (i := 1) rfl)) (fun _ h9 => h9) rfl dX1_findSlope_1 ?_
  rcases (show ((gd L i).1) = 0 ∨ ((gd L i).1) = 1 ∨ ((gd L i).1) = 2 ∨ ((gd L i).1) = 3 ∨ 3 < ((gd L i).1) by omega) with hsw | hsw | hsw | hsw | hsw
  · refine lv_tableIn (x := nI ((gd L i).1)) (off := 32) (tgt := 36) hx hb dX1_findSlope_4 (by rw [hsw]; decide) (by rw [hsw]; decide) (by rw [hsw]; decide) (by decide) ?_
    refine lv_aload_n hx hb dX1_findSlope_36 rfl (lv_at hl 2 rfl) ?_
    refine lv_lconst (v := lN 0) hx hb dX1_findSlope_37 (by decide +kernel) ?_
    obtain ⟨mw_2, sw_2, nw_2, fw_2, aw_2, bw_2, cw_2, dw_2, ew_2⟩ := hW (638 + i) (by omega)
    have qw_2 : mw_2 ≤ 4096 := by rw [dw_2]; exact rmc_le _
    refine va_callv (va_runV (As := [.long (lN 0)]) (rest := []) ⟨hx, hb, hml, hown, hts⟩ (c_X8_put l dC dI A ad cA g (638 + i) (lN 0) hW (by omega)) (cwV 1 hts (goodIn_app (goodIn_r [Cond.methodLink RX1 51 yX8_put, Cond.instanceMethod yX8_put, Cond.selects RX8 yX8_put yX8_put, Cond.initialized RX8] [2, 3, 4, 5] rfl rfl) (goodIn_sub (fun w9 h9 => bk1 w9 h9) gw_X8_put)) rfl rfl rfl (by decide +kernel) ⟨Nat.le_of_ble_eq_true rfl, Nat.le_of_ble_eq_true rfl⟩) ⟨fun a U g mk q => ⟨q.1, q.2.1, q.2.2.1, LY.moved (u := U) (U := U.calling g mk a) (Vm.Alike.refl U.vm) q.2.2.2⟩, va_recv hK hP (ci := 11) (q0 := (2 * (638 + i))) rfl (wo_at (ns_w (by omega)) aw_2), fun U hU hW => ⟨rfl, by rw [hU]; exact fun q h => hA q (Nat.le_trans hS.1 h), by rw [hU]; exact hP, LY.moved hW.alike hL⟩⟩ rfl rfl hl.1 rfl (lv_room (Nat.le_of_ble_eq_true rfl)) dX1_findSlope_38 ⟨(Nat.le_of_ble_eq_true rfl), (Nat.le_of_ble_eq_true rfl)⟩) hS (fun q _ h => h) (fun q h => h) (fun u8 t8 H1 locs ht8 hvm8 hw_4 hB hz1 hk1 hS => ?_)
    obtain ⟨g_5, rfl⟩ : ∃ z, z = u8 := ⟨_, rfl⟩
    try dsimp only at hw_4 hB
    rw [ht8] at hB
    have hP := hB
    generalize H1 = H at hP hS ⊢
    obtain ⟨fr_6, hAW_3⟩ := hw_4
    refine lv_goto (tgt := 202) hx hb dX1_findSlope_41 (by decide) ?_
    refine W.widen (k := 0) (n := 0) (by omega) (by omega) ?_
    exact W.vret hx hb hr (fun t9 ht9 hW9 => ⟨⟨g_5, rfl, ⟨(fun (k : Nat) (hk : (k < 18 ∨ 24 ≤ k) ∧ k ≠ 2 * (638 + i) ∧ k ≠ 2 * (638 + i) + 1) => (fr_6 k (by omega)).trans (rfl)), hAW_3⟩, by show va_P (dC, dI) vwCl _ t9.heap; rw [ht9]; exact hP⟩, hS.F ht9⟩) hS.2.2 dX1_findSlope_202
  · refine lv_tableIn (x := nI ((gd L i).1)) (off := 40) (tgt := 44) hx hb dX1_findSlope_4 (by rw [hsw]; decide) (by rw [hsw]; decide) (by rw [hsw]; decide) (by decide) ?_
    refine lv_aload_n hx hb dX1_findSlope_44 rfl (lv_at hl 2 rfl) ?_
    refine lv_aload_n hx hb dX1_findSlope_45 rfl (lv_at hl 0 rfl) ?_
    refine m_get (D := (dC, dI)) (v := .ref (ad 2096)) (C := RX1) (T := TX1) (N := 10) hx hb hts bk2 hown hK hP 2090 (by decide) y0 rfl 6 (by decide) (hts (.fieldLink RX1 30 "GradientDesk$Course" "heading" "[I") (List.mem_of_getElem? (i := 6) rfl)) (fun _ h9 => h9) rfl dX1_findSlope_46 ?_
    refine lv_aload_n hx hb dX1_findSlope_49 rfl (lv_at hl 1 rfl) ?_
    refine m_get (D := (dC, dI)) (v := .int (iI ((gd L i).2.1))) (C := RX3) (T := TX3) (N := 7) hx hb hts bk0 hown hK hP (2117 + 2 * i) (ns_p (by omega)) hpi rfl 2 (by decide) (hts (.fieldLink RX1 114 "GradientDesk$Part" "first" "I") (List.mem_of_getElem? (i := 7) rfl)) (fun _ h9 => h9) rfl dX1_findSlope_50 ?_
    obtain ⟨vv, hvv, evv, -⟩ := (hWf i hi).2.2.2.2.2.2.2.1 (by omega)
    refine lv_topi (fun x_7 e_8 => ?_)
    obtain rfl : x_7 = nI vv := e_8.trans (by rw [evv]; exact (nI_iI _).symm)
    refine m_iald hx hb hK hP 2096 (by decide) rfl y6 (i := vv) (by omega) (by decide) dX1_findSlope_53 ?_
    refine lv_topi (fun x_9 e_10 => ?_)
    refine lv_i2l hx hb dX1_findSlope_54 rfl ?_
    refine lv_topl (fun y_11 e_12 => ?_)
    obtain ⟨mw_13, sw_13, nw_13, fw_13, aw_13, bw_13, cw_13, dw_13, ew_13⟩ := hW (638 + i) (by omega)
    have qw_13 : mw_13 ≤ 4096 := by rw [dw_13]; exact rmc_le _
    refine va_callv (va_runV (As := [.long y_11]) (rest := []) ⟨hx, hb, hml, hown, hts⟩ (c_X8_put l dC dI A ad cA g (638 + i) y_11 hW (by omega)) (cwV 1 hts (goodIn_app (goodIn_r [Cond.methodLink RX1 51 yX8_put, Cond.instanceMethod yX8_put, Cond.selects RX8 yX8_put yX8_put, Cond.initialized RX8] [2, 3, 4, 5] rfl rfl) (goodIn_sub (fun w9 h9 => bk1 w9 h9) gw_X8_put)) rfl rfl rfl (by decide +kernel) ⟨Nat.le_of_ble_eq_true rfl, Nat.le_of_ble_eq_true rfl⟩) ⟨fun a U g mk q => ⟨q.1, q.2.1, q.2.2.1, LY.moved (u := U) (U := U.calling g mk a) (Vm.Alike.refl U.vm) q.2.2.2⟩, va_recv hK hP (ci := 11) (q0 := (2 * (638 + i))) rfl (wo_at (ns_w (by omega)) aw_13), fun U hU hW => ⟨rfl, by rw [hU]; exact fun q h => hA q (Nat.le_trans hS.1 h), by rw [hU]; exact hP, LY.moved hW.alike hL⟩⟩ rfl rfl hl.1 rfl (lv_room (Nat.le_of_ble_eq_true rfl)) dX1_findSlope_55 ⟨(Nat.le_of_ble_eq_true rfl), (Nat.le_of_ble_eq_true rfl)⟩) hS (fun q _ h => h) (fun q h => h) (fun u8 t8 H1 locs ht8 hvm8 hw_15 hB hz1 hk1 hS => ?_)
    obtain ⟨g_16, rfl⟩ : ∃ z, z = u8 := ⟨_, rfl⟩
    try dsimp only at hw_15 hB
    rw [ht8] at hB
    have hP := hB
    generalize H1 = H at hP hS ⊢
    obtain ⟨fr_17, hAW_14⟩ := hw_15
    refine lv_goto (tgt := 202) hx hb dX1_findSlope_58 (by decide) ?_
    refine W.widen (k := 0) (n := 0) (by omega) (by omega) ?_
    exact W.vret hx hb hr (fun t9 ht9 hW9 => ⟨⟨g_16, rfl, ⟨(fun (k : Nat) (hk : (k < 18 ∨ 24 ≤ k) ∧ k ≠ 2 * (638 + i) ∧ k ≠ 2 * (638 + i) + 1) => (fr_17 k (by omega)).trans (rfl)), hAW_14⟩, by show va_P (dC, dI) vwCl _ t9.heap; rw [ht9]; exact hP⟩, hS.F ht9⟩) hS.2.2 dX1_findSlope_202
  · refine lv_tableIn (x := nI ((gd L i).1)) (off := 57) (tgt := 61) hx hb dX1_findSlope_4 (by rw [hsw]; decide) (by rw [hsw]; decide) (by rw [hsw]; decide) (by decide) ?_
    refine lv_aload_n hx hb dX1_findSlope_61 rfl (lv_at hl 0 rfl) ?_
    refine lv_aload_n hx hb dX1_findSlope_62 rfl (lv_at hl 0 rfl) ?_
    refine m_get (D := (dC, dI)) (v := .ref (ad 2092)) (C := RX1) (T := TX1) (N := 10) hx hb hts bk2 hown hK hP 2090 (by decide) y0 rfl 2 (by decide) (hts (.fieldLink RX1 17 "GradientDesk$Course" "slopes" "[LGradientDesk$Whole;") (List.mem_of_getElem? (i := 8) rfl)) (fun _ h9 => h9) rfl dX1_findSlope_63 ?_
    refine lv_aload_n hx hb dX1_findSlope_66 rfl (lv_at hl 1 rfl) ?_
    refine lv_aload_n hx hb dX1_findSlope_67 rfl (lv_at hl 2 rfl) ?_
    refine va_callv (va_runV (As := [.ref (ad 2092), .ref (ad (2117 + 2 * i)), .ref (ad (2 * (638 + i)))]) (rest := []) ⟨hx, hb, hml, hown, hts⟩ (c_W1_addS l dC dI A ad cA g L i (638 + i) hC hWf (hCr.same (fun (k : Nat) (hk : 2090 ≤ k ∧ k ≤ 2096) => rfl)) hi (by omega) (by omega)) (cwV 3 hts (goodIn_app (goodIn_r [Cond.methodLink RX1 124 yX1_addWidened, Cond.instanceMethod yX1_addWidened, Cond.selects RX1 yX1_addWidened yX1_addWidened, Cond.initialized RX1] [9, 10, 11, 12] rfl rfl) (goodIn_sub (fun w9 h9 => bk3 w9 h9) gw_W1_addS)) rfl rfl rfl (by decide +kernel) ⟨Nat.le_of_ble_eq_true rfl, Nat.le_of_ble_eq_true rfl⟩) ⟨fun a U g mk q => ⟨q.1, q.2.1, q.2.2.1, LY.moved (u := U) (U := U.calling g mk a) (Vm.Alike.refl U.vm) q.2.2.2⟩, va_recv hK hP (ci := 4) (q0 := 2090) rfl (wo_at (by decide) y0), fun U hU hW => ⟨rfl, by rw [hU]; exact fun q h => hA q (Nat.le_trans hS.1 h), by rw [hU]; exact hP, LY.moved hW.alike hL⟩⟩ rfl rfl hl.1 rfl (lv_room (Nat.le_of_ble_eq_true rfl)) dX1_findSlope_68 ⟨(Nat.le_of_ble_eq_true rfl), (Nat.le_of_ble_eq_true rfl)⟩) hS (fun q _ h => h) (fun q h => h) (fun u8 t8 H1 locs ht8 hvm8 hw_19 hB hz1 hk1 hS => ?_)
    obtain ⟨g_20, rfl⟩ : ∃ z, z = u8 := ⟨_, rfl⟩
    try dsimp only at hw_19 hB
    rw [ht8] at hB
    have hP := hB
    generalize H1 = H at hP hS ⊢
    obtain ⟨fr_21, hAW_18⟩ := hw_19
    refine lv_goto (tgt := 202) hx hb dX1_findSlope_71 (by decide) ?_
    refine W.widen (k := 0) (n := 0) (by omega) (by omega) ?_
    exact W.vret hx hb hr (fun t9 ht9 hW9 => ⟨⟨g_20, rfl, ⟨(fun (k : Nat) (hk : (k < 18 ∨ 24 ≤ k) ∧ k ≠ 2 * (638 + i) ∧ k ≠ 2 * (638 + i) + 1) => (fr_21 k (by omega)).trans (rfl)), hAW_18⟩, by show va_P (dC, dI) vwCl _ t9.heap; rw [ht9]; exact hP⟩, hS.F ht9⟩) hS.2.2 dX1_findSlope_202
  · refine lv_tableIn (x := nI ((gd L i).1)) (off := 70) (tgt := 74) hx hb dX1_findSlope_4 (by rw [hsw]; decide) (by rw [hsw]; decide) (by rw [hsw]; decide) (by decide) ?_
    refine lv_aload_n hx hb dX1_findSlope_74 rfl (lv_at hl 0 rfl) ?_
    refine m_get (D := (dC, dI)) (v := .ref (ad (2 * 9))) (C := RX1) (T := TX1) (N := 10) hx hb hts bk2 hown hK hP 2090 (by decide) y0 rfl 7 (by decide) (hts (.fieldLink RX1 37 "GradientDesk$Course" "left" "LGradientDesk$Whole;") (List.mem_of_getElem? (i := 13) rfl)) (fun _ h9 => h9) rfl dX1_findSlope_75 ?_
    refine lv_aload_n hx hb dX1_findSlope_78 rfl (lv_at hl 0 rfl) ?_
    refine m_get (D := (dC, dI)) (v := .ref (ad 2092)) (C := RX1) (T := TX1) (N := 10) hx hb hts bk2 hown hK hP 2090 (by decide) y0 rfl 2 (by decide) (hts (.fieldLink RX1 17 "GradientDesk$Course" "slopes" "[LGradientDesk$Whole;") (List.mem_of_getElem? (i := 8) rfl)) (fun _ h9 => h9) rfl dX1_findSlope_79 ?_
    refine lv_aload_n hx hb dX1_findSlope_82 rfl (lv_at hl 1 rfl) ?_
    refine m_get (D := (dC, dI)) (v := .int (iI ((gd L i).2.1))) (C := RX3) (T := TX3) (N := 7) hx hb hts bk0 hown hK hP (2117 + 2 * i) (ns_p (by omega)) hpi rfl 2 (by decide) (hts (.fieldLink RX1 114 "GradientDesk$Part" "first" "I") (List.mem_of_getElem? (i := 7) rfl)) (fun _ h9 => h9) rfl dX1_findSlope_83 ?_
    obtain ⟨oa, hoa, eoa⟩ := hWf.op1 hi (by omega)
    refine lv_topi (fun x_22 e_23 => ?_)
    obtain rfl : x_22 = nI oa := e_23.trans (by rw [eoa]; exact (nI_iI _).symm)
    refine m_aald hx hb hK hP 2092 (by decide) rfl y2 (i := oa) (v := ad (2 * (638 + oa))) (by omega) (by decide) rfl dX1_findSlope_86 ?_
    refine lv_aload_n hx hb dX1_findSlope_87 rfl (lv_at hl 0 rfl) ?_
    refine m_get (D := (dC, dI)) (v := .ref (ad 2091)) (C := RX1) (T := TX1) (N := 10) hx hb hts bk2 hown hK hP 2090 (by decide) y0 rfl 1 (by decide) (hts (.fieldLink RX1 11 "GradientDesk$Course" "values" "[LGradientDesk$Whole;") (List.mem_of_getElem? (i := 14) rfl)) (fun _ h9 => h9) rfl dX1_findSlope_88 ?_
    refine lv_aload_n hx hb dX1_findSlope_91 rfl (lv_at hl 1 rfl) ?_
    refine m_get (D := (dC, dI)) (v := .int (iI ((gd L i).2.2.1))) (C := RX3) (T := TX3) (N := 7) hx hb hts bk0 hown hK hP (2117 + 2 * i) (ns_p (by omega)) hpi rfl 3 (by decide) (hts (.fieldLink RX1 117 "GradientDesk$Part" "second" "I") (List.mem_of_getElem? (i := 15) rfl)) (fun _ h9 => h9) rfl dX1_findSlope_92 ?_
    obtain ⟨ob, hob, eob⟩ := hWf.op2 hi (by omega)
    refine lv_topi (fun x_24 e_25 => ?_)
    obtain rfl : x_24 = nI ob := e_25.trans (by rw [eob]; exact (nI_iI _).symm)
    refine m_aald hx hb hK hP 2091 (by decide) rfl y1 (i := ob) (v := ad (2 * (438 + ob))) (by omega) (by decide) rfl dX1_findSlope_95 ?_
    obtain ⟨mw_26, sw_26, nw_26, fw_26, aw_26, bw_26, cw_26, dw_26, ew_26⟩ := hW 9 (by omega)
    have qw_26 : mw_26 ≤ 4096 := by rw [dw_26]; exact rmc_le _
    refine va_callv (va_runV (As := [.ref (ad (2 * (638 + oa))), .ref (ad (2 * (438 + ob)))]) (rest := []) ⟨hx, hb, hml, hown, hts⟩ (c_X8_multiply l dC dI A ad cA g 9 (638 + oa) (438 + ob) hW (by omega) (by omega) (by omega) (by omega) (by omega)) (cwV 2 hts (goodIn_app (goodIn_r [Cond.methodLink RX1 55 yX8_multiply, Cond.instanceMethod yX8_multiply, Cond.selects RX8 yX8_multiply yX8_multiply, Cond.initialized RX8] [16, 17, 18, 5] rfl rfl) (goodIn_sub (fun w9 h9 => bk4 w9 h9) gw_X8_multiply)) rfl rfl rfl (by decide +kernel) ⟨Nat.le_of_ble_eq_true rfl, Nat.le_of_ble_eq_true rfl⟩) ⟨fun a U g mk q => ⟨q.1, q.2.1, q.2.2.1, LY.moved (u := U) (U := U.calling g mk a) (Vm.Alike.refl U.vm) q.2.2.2⟩, va_recv hK hP (ci := 11) (q0 := (2 * 9)) rfl (wo_at (ns_w (by omega)) aw_26), fun U hU hW => ⟨rfl, by rw [hU]; exact fun q h => hA q (Nat.le_trans hS.1 h), by rw [hU]; exact hP, LY.moved hW.alike hL⟩⟩ rfl rfl hl.1 rfl (lv_room (Nat.le_of_ble_eq_true rfl)) dX1_findSlope_96 ⟨(Nat.le_of_ble_eq_true rfl), (Nat.le_of_ble_eq_true rfl)⟩) hS (fun q _ h => h) (fun q h => h) (fun u8 t8 H1 locs ht8 hvm8 hw_28 hB hz1 hk1 hS => ?_)
    obtain ⟨g_29, rfl⟩ : ∃ z, z = u8 := ⟨_, rfl⟩
    try dsimp only at hw_28 hB
    rw [ht8] at hB
    have hP := hB
    generalize H1 = H at hP hS ⊢
    obtain ⟨fr_30, hAW_27⟩ := hw_28
    refine lv_aload_n hx hb dX1_findSlope_99 rfl (lv_at hl 0 rfl) ?_
    have f_31 : g_29 2090 = .inr (4, [.ref (ad 2080), .ref (ad 2091), .ref (ad 2092), .ref (ad 2093), .ref (ad 2094), .ref (ad 2095), .ref (ad 2096), .ref (ad (2 * 9)), .ref (ad (2 * 10)), .ref (ad (2 * 11))]) := (fr_30 2090 (by omega)).trans y0
    refine m_get (D := (dC, dI)) (v := .ref (ad (2 * 10))) (C := RX1) (T := TX1) (N := 10) hx hb hts bk2 hown hK hP 2090 (by decide) f_31 rfl 8 (by decide) (hts (.fieldLink RX1 41 "GradientDesk$Course" "right" "LGradientDesk$Whole;") (List.mem_of_getElem? (i := 19) rfl)) (fun _ h9 => h9) rfl dX1_findSlope_100 ?_
    refine lv_aload_n hx hb dX1_findSlope_103 rfl (lv_at hl 0 rfl) ?_
    refine m_get (D := (dC, dI)) (v := .ref (ad 2091)) (C := RX1) (T := TX1) (N := 10) hx hb hts bk2 hown hK hP 2090 (by decide) f_31 rfl 1 (by decide) (hts (.fieldLink RX1 11 "GradientDesk$Course" "values" "[LGradientDesk$Whole;") (List.mem_of_getElem? (i := 14) rfl)) (fun _ h9 => h9) rfl dX1_findSlope_104 ?_
    refine lv_aload_n hx hb dX1_findSlope_107 rfl (lv_at hl 1 rfl) ?_
    have f_32 : g_29 (2117 + 2 * i) = .inr (6, [.ref (ad (2118 + 2 * i)), .int (nI ((gd L i).1)), .int (iI ((gd L i).2.1)), .int (iI ((gd L i).2.2.1)), .int (nI ((gd L i).2.2.2.1)), .int (nI ((gd L i).2.2.2.2.1)), .int (nI ((gd L i).2.2.2.2.2.1))]) := (fr_30 (2117 + 2 * i) (by omega)).trans hpi
    refine m_get (D := (dC, dI)) (v := .int (iI ((gd L i).2.1))) (C := RX3) (T := TX3) (N := 7) hx hb hts bk0 hown hK hP (2117 + 2 * i) (ns_p (by omega)) f_32 rfl 2 (by decide) (hts (.fieldLink RX1 114 "GradientDesk$Part" "first" "I") (List.mem_of_getElem? (i := 7) rfl)) (fun _ h9 => h9) rfl dX1_findSlope_108 ?_
    refine lv_topi (fun x_33 e_34 => ?_)
    obtain rfl : x_33 = nI oa := e_34.trans (by rw [eoa]; exact (nI_iI _).symm)
    have f_35 : g_29 2091 = .inl (cA 2091, 200, .inr (.inr (.inr (.inr (fun j => some (ad (2 * (438 + j)))))))) := (fr_30 2091 (by omega)).trans y1
    refine m_aald hx hb hK hP 2091 (by decide) rfl f_35 (i := oa) (v := ad (2 * (438 + oa))) (by omega) (by decide) rfl dX1_findSlope_111 ?_
    refine lv_aload_n hx hb dX1_findSlope_112 rfl (lv_at hl 0 rfl) ?_
    refine m_get (D := (dC, dI)) (v := .ref (ad 2092)) (C := RX1) (T := TX1) (N := 10) hx hb hts bk2 hown hK hP 2090 (by decide) f_31 rfl 2 (by decide) (hts (.fieldLink RX1 17 "GradientDesk$Course" "slopes" "[LGradientDesk$Whole;") (List.mem_of_getElem? (i := 8) rfl)) (fun _ h9 => h9) rfl dX1_findSlope_113 ?_
    refine lv_aload_n hx hb dX1_findSlope_116 rfl (lv_at hl 1 rfl) ?_
    refine m_get (D := (dC, dI)) (v := .int (iI ((gd L i).2.2.1))) (C := RX3) (T := TX3) (N := 7) hx hb hts bk0 hown hK hP (2117 + 2 * i) (ns_p (by omega)) f_32 rfl 3 (by decide) (hts (.fieldLink RX1 117 "GradientDesk$Part" "second" "I") (List.mem_of_getElem? (i := 15) rfl)) (fun _ h9 => h9) rfl dX1_findSlope_117 ?_
    refine lv_topi (fun x_36 e_37 => ?_)
    obtain rfl : x_36 = nI ob := e_37.trans (by rw [eob]; exact (nI_iI _).symm)
    have f_38 : g_29 2092 = .inl (cA 2092, 200, .inr (.inr (.inr (.inr (fun j => some (ad (2 * (638 + j)))))))) := (fr_30 2092 (by omega)).trans y2
    refine m_aald hx hb hK hP 2092 (by decide) rfl f_38 (i := ob) (v := ad (2 * (638 + ob))) (by omega) (by decide) rfl dX1_findSlope_120 ?_
    obtain ⟨mw_39, sw_39, nw_39, fw_39, aw_39, bw_39, cw_39, dw_39, ew_39⟩ := hAW_27 10 (by omega)
    have qw_39 : mw_39 ≤ 4096 := by rw [dw_39]; exact rmc_le _
    refine va_callv (va_runV (As := [.ref (ad (2 * (438 + oa))), .ref (ad (2 * (638 + ob)))]) (rest := []) ⟨hx, hb, hml, hown, hts⟩ (c_X8_multiply l dC dI A ad cA g_29 10 (438 + oa) (638 + ob) hAW_27 (by omega) (by omega) (by omega) (by omega) (by omega)) (cwV 2 hts (goodIn_app (goodIn_r [Cond.methodLink RX1 55 yX8_multiply, Cond.instanceMethod yX8_multiply, Cond.selects RX8 yX8_multiply yX8_multiply, Cond.initialized RX8] [16, 17, 18, 5] rfl rfl) (goodIn_sub (fun w9 h9 => bk4 w9 h9) gw_X8_multiply)) rfl rfl rfl (by decide +kernel) ⟨Nat.le_of_ble_eq_true rfl, Nat.le_of_ble_eq_true rfl⟩) ⟨fun a U g mk q => ⟨q.1, q.2.1, q.2.2.1, LY.moved (u := U) (U := U.calling g mk a) (Vm.Alike.refl U.vm) q.2.2.2⟩, va_recv hK hP (ci := 11) (q0 := (2 * 10)) rfl (wo_at (ns_w (by omega)) aw_39), fun U hU hW => ⟨rfl, by rw [hU]; exact fun q h => hA q (Nat.le_trans hS.1 h), by rw [hU]; exact hP, LY.moved hW.alike hL⟩⟩ rfl rfl hl.1 rfl (lv_room (Nat.le_of_ble_eq_true rfl)) dX1_findSlope_121 ⟨(Nat.le_of_ble_eq_true rfl), (Nat.le_of_ble_eq_true rfl)⟩) hS (fun q _ h => h) (fun q h => h) (fun u8 t8 H1 locs ht8 hvm8 hw_41 hB hz1 hk1 hS => ?_)
    obtain ⟨g_42, rfl⟩ : ∃ z, z = u8 := ⟨_, rfl⟩
    try dsimp only at hw_41 hB
    rw [ht8] at hB
    have hP := hB
    generalize H1 = H at hP hS ⊢
    obtain ⟨fr_43, hAW_40⟩ := hw_41
    refine lv_aload_n hx hb dX1_findSlope_124 rfl (lv_at hl 2 rfl) ?_
    refine lv_aload_n hx hb dX1_findSlope_125 rfl (lv_at hl 0 rfl) ?_
    have f_44 : g_42 2090 = .inr (4, [.ref (ad 2080), .ref (ad 2091), .ref (ad 2092), .ref (ad 2093), .ref (ad 2094), .ref (ad 2095), .ref (ad 2096), .ref (ad (2 * 9)), .ref (ad (2 * 10)), .ref (ad (2 * 11))]) := (fr_43 2090 (by omega)).trans f_31
    refine m_get (D := (dC, dI)) (v := .ref (ad (2 * 9))) (C := RX1) (T := TX1) (N := 10) hx hb hts bk2 hown hK hP 2090 (by decide) f_44 rfl 7 (by decide) (hts (.fieldLink RX1 37 "GradientDesk$Course" "left" "LGradientDesk$Whole;") (List.mem_of_getElem? (i := 13) rfl)) (fun _ h9 => h9) rfl dX1_findSlope_126 ?_
    refine lv_aload_n hx hb dX1_findSlope_129 rfl (lv_at hl 0 rfl) ?_
    refine m_get (D := (dC, dI)) (v := .ref (ad (2 * 10))) (C := RX1) (T := TX1) (N := 10) hx hb hts bk2 hown hK hP 2090 (by decide) f_44 rfl 8 (by decide) (hts (.fieldLink RX1 41 "GradientDesk$Course" "right" "LGradientDesk$Whole;") (List.mem_of_getElem? (i := 19) rfl)) (fun _ h9 => h9) rfl dX1_findSlope_130 ?_
    obtain ⟨mw_45, sw_45, nw_45, fw_45, aw_45, bw_45, cw_45, dw_45, ew_45⟩ := hAW_40 (638 + i) (by omega)
    have qw_45 : mw_45 ≤ 4096 := by rw [dw_45]; exact rmc_le _
    refine va_callv (va_runV (As := [.ref (ad (2 * 9)), .ref (ad (2 * 10))]) (rest := []) ⟨hx, hb, hml, hown, hts⟩ (c_X8_add l dC dI A ad cA g_42 (638 + i) 9 10 hAW_40 (by omega) (by omega) (by omega) (by omega) (by omega)) (cwV 2 hts (goodIn_app (goodIn_r [Cond.methodLink RX1 128 yX8_add, Cond.instanceMethod yX8_add, Cond.selects RX8 yX8_add yX8_add, Cond.initialized RX8] [20, 21, 22, 5] rfl rfl) (goodIn_sub (fun w9 h9 => bk5 w9 h9) gw_X8_add)) rfl rfl rfl (by decide +kernel) ⟨Nat.le_of_ble_eq_true rfl, Nat.le_of_ble_eq_true rfl⟩) ⟨fun a U g mk q => ⟨q.1, q.2.1, q.2.2.1, LY.moved (u := U) (U := U.calling g mk a) (Vm.Alike.refl U.vm) q.2.2.2⟩, va_recv hK hP (ci := 11) (q0 := (2 * (638 + i))) rfl (wo_at (ns_w (by omega)) aw_45), fun U hU hW => ⟨rfl, by rw [hU]; exact fun q h => hA q (Nat.le_trans hS.1 h), by rw [hU]; exact hP, LY.moved hW.alike hL⟩⟩ rfl rfl hl.1 rfl (lv_room (Nat.le_of_ble_eq_true rfl)) dX1_findSlope_133 ⟨(Nat.le_of_ble_eq_true rfl), (Nat.le_of_ble_eq_true rfl)⟩) hS (fun q _ h => h) (fun q h => h) (fun u8 t8 H1 locs ht8 hvm8 hw_47 hB hz1 hk1 hS => ?_)
    obtain ⟨g_48, rfl⟩ : ∃ z, z = u8 := ⟨_, rfl⟩
    try dsimp only at hw_47 hB
    rw [ht8] at hB
    have hP := hB
    generalize H1 = H at hP hS ⊢
    obtain ⟨fr_49, hAW_46⟩ := hw_47
    refine lv_goto (tgt := 202) hx hb dX1_findSlope_136 (by decide) ?_
    refine W.widen (k := 0) (n := 0) (by omega) (by omega) ?_
    exact W.vret hx hb hr (fun t9 ht9 hW9 => ⟨⟨g_48, rfl, ⟨(fun (k : Nat) (hk : (k < 18 ∨ 24 ≤ k) ∧ k ≠ 2 * (638 + i) ∧ k ≠ 2 * (638 + i) + 1) => (fr_49 k (by omega)).trans ((fr_43 k (by omega)).trans ((fr_30 k (by omega)).trans (rfl)))), hAW_46⟩, by show va_P (dC, dI) vwCl _ t9.heap; rw [ht9]; exact hP⟩, hS.F ht9⟩) hS.2.2 dX1_findSlope_202
  · refine lv_tableOut (x := nI ((gd L i).1)) (tgt := 139) hx hb dX1_findSlope_4 (Or.inr (by rw [nI_toInt (by omega)]; omega)) (by decide) ?_
    refine lv_aload_n hx hb dX1_findSlope_139 rfl (lv_at hl 0 rfl) ?_
    refine lv_aload_n hx hb dX1_findSlope_140 rfl (lv_at hl 0 rfl) ?_
    refine m_get (D := (dC, dI)) (v := .ref (ad 2091)) (C := RX1) (T := TX1) (N := 10) hx hb hts bk2 hown hK hP 2090 (by decide) y0 rfl 1 (by decide) (hts (.fieldLink RX1 11 "GradientDesk$Course" "values" "[LGradientDesk$Whole;") (List.mem_of_getElem? (i := 14) rfl)) (fun _ h9 => h9) rfl dX1_findSlope_141 ?_
    refine lv_aload_n hx hb dX1_findSlope_144 rfl (lv_at hl 1 rfl) ?_
    refine m_get (D := (dC, dI)) (v := .int (iI ((gd L i).2.1))) (C := RX3) (T := TX3) (N := 7) hx hb hts bk0 hown hK hP (2117 + 2 * i) (ns_p (by omega)) hpi rfl 2 (by decide) (hts (.fieldLink RX1 114 "GradientDesk$Part" "first" "I") (List.mem_of_getElem? (i := 7) rfl)) (fun _ h9 => h9) rfl dX1_findSlope_145 ?_
    obtain ⟨oa, hoa, eoa⟩ := hWf.op1 hi (by omega)
    refine lv_topi (fun x_50 e_51 => ?_)
    obtain rfl : x_50 = nI oa := e_51.trans (by rw [eoa]; exact (nI_iI _).symm)
    refine m_aald hx hb hK hP 2091 (by decide) rfl y1 (i := oa) (v := ad (2 * (438 + oa))) (by omega) (by decide) rfl dX1_findSlope_148 ?_
    refine lv_aload_n hx hb dX1_findSlope_149 rfl (lv_at hl 1 rfl) ?_
    refine m_get (D := (dC, dI)) (v := .int (iI ((gd L i).2.2.1))) (C := RX3) (T := TX3) (N := 7) hx hb hts bk0 hown hK hP (2117 + 2 * i) (ns_p (by omega)) hpi rfl 3 (by decide) (hts (.fieldLink RX1 117 "GradientDesk$Part" "second" "I") (List.mem_of_getElem? (i := 15) rfl)) (fun _ h9 => h9) rfl dX1_findSlope_150 ?_
    obtain ⟨-, en, -, hen1, hen2, -, een, -⟩ := (hWf i hi).2.2.2.2.2.2.2.2.2.2 (by omega)
    refine lv_topi (fun x_52 e_53 => ?_)
    obtain rfl : x_52 = nI en := e_53.trans (by rw [een]; exact (nI_iI _).symm)
    refine lv_iconst (v := nI 1) hx hb dX1_findSlope_153 (by decide +kernel) ?_
    refine lv_isub hx hb dX1_findSlope_154 ?_
    refine lv_topi (fun x_54 e_55 => ?_)
    obtain rfl : x_54 = nI (en - 1) := e_55.trans (pk_sub (show 1 ≤ en by omega))
    refine va_callv (va_runV (As := [.ref (ad (2 * (438 + oa))), .int (nI (en - 1))]) (rest := []) ⟨hx, hb, hml, hown, hts⟩ (c_W1_raise l dC dI A ad cA g (438 + oa) (en - 1) hW (hCr.same (fun (k : Nat) (hk : 2090 ≤ k ∧ k ≤ 2096) => rfl)) (by omega) (by omega)) (cwV 2 hts (goodIn_app (goodIn_r [Cond.methodLink RX1 120 yX1_raise, Cond.instanceMethod yX1_raise, Cond.selects RX1 yX1_raise yX1_raise, Cond.initialized RX1] [23, 24, 25, 12] rfl rfl) (goodIn_sub (fun w9 h9 => bk6 w9 h9) gw_W1_raise)) rfl rfl rfl (by decide +kernel) ⟨Nat.le_of_ble_eq_true rfl, Nat.le_of_ble_eq_true rfl⟩) ⟨fun a U g mk q => ⟨q.1, q.2.1, q.2.2.1, LY.moved (u := U) (U := U.calling g mk a) (Vm.Alike.refl U.vm) q.2.2.2⟩, va_recv hK hP (ci := 4) (q0 := 2090) rfl (wo_at (by decide) y0), fun U hU hW => ⟨rfl, by rw [hU]; exact fun q h => hA q (Nat.le_trans hS.1 h), by rw [hU]; exact hP, LY.moved hW.alike hL⟩⟩ rfl rfl hl.1 rfl (lv_room (Nat.le_of_ble_eq_true rfl)) dX1_findSlope_155 ⟨(Nat.le_of_ble_eq_true rfl), (Nat.le_of_ble_eq_true rfl)⟩) hS (fun q _ h => h) (fun q h => h) (fun u8 t8 H1 locs ht8 hvm8 hw_57 hB hz1 hk1 hS => ?_)
    obtain ⟨g_58, rfl⟩ : ∃ z, z = u8 := ⟨_, rfl⟩
    try dsimp only at hw_57 hB
    rw [ht8] at hB
    have hP := hB
    generalize H1 = H at hP hS ⊢
    obtain ⟨fr_59, hAW_56⟩ := hw_57
    refine lv_aload_n hx hb dX1_findSlope_158 rfl (lv_at hl 0 rfl) ?_
    have f_60 : g_58 2090 = .inr (4, [.ref (ad 2080), .ref (ad 2091), .ref (ad 2092), .ref (ad 2093), .ref (ad 2094), .ref (ad 2095), .ref (ad 2096), .ref (ad (2 * 9)), .ref (ad (2 * 10)), .ref (ad (2 * 11))]) := (fr_59 2090 (by omega)).trans y0
    refine m_get (D := (dC, dI)) (v := .ref (ad (2 * 10))) (C := RX1) (T := TX1) (N := 10) hx hb hts bk2 hown hK hP 2090 (by decide) f_60 rfl 8 (by decide) (hts (.fieldLink RX1 41 "GradientDesk$Course" "right" "LGradientDesk$Whole;") (List.mem_of_getElem? (i := 19) rfl)) (fun _ h9 => h9) rfl dX1_findSlope_159 ?_
    refine lv_aload_n hx hb dX1_findSlope_162 rfl (lv_at hl 0 rfl) ?_
    refine m_get (D := (dC, dI)) (v := .ref (ad (2 * 9))) (C := RX1) (T := TX1) (N := 10) hx hb hts bk2 hown hK hP 2090 (by decide) f_60 rfl 7 (by decide) (hts (.fieldLink RX1 37 "GradientDesk$Course" "left" "LGradientDesk$Whole;") (List.mem_of_getElem? (i := 13) rfl)) (fun _ h9 => h9) rfl dX1_findSlope_163 ?_
    refine lv_aload_n hx hb dX1_findSlope_166 rfl (lv_at hl 0 rfl) ?_
    refine m_get (D := (dC, dI)) (v := .ref (ad 2092)) (C := RX1) (T := TX1) (N := 10) hx hb hts bk2 hown hK hP 2090 (by decide) f_60 rfl 2 (by decide) (hts (.fieldLink RX1 17 "GradientDesk$Course" "slopes" "[LGradientDesk$Whole;") (List.mem_of_getElem? (i := 8) rfl)) (fun _ h9 => h9) rfl dX1_findSlope_167 ?_
    refine lv_aload_n hx hb dX1_findSlope_170 rfl (lv_at hl 1 rfl) ?_
    have f_61 : g_58 (2117 + 2 * i) = .inr (6, [.ref (ad (2118 + 2 * i)), .int (nI ((gd L i).1)), .int (iI ((gd L i).2.1)), .int (iI ((gd L i).2.2.1)), .int (nI ((gd L i).2.2.2.1)), .int (nI ((gd L i).2.2.2.2.1)), .int (nI ((gd L i).2.2.2.2.2.1))]) := (fr_59 (2117 + 2 * i) (by omega)).trans hpi
    refine m_get (D := (dC, dI)) (v := .int (iI ((gd L i).2.1))) (C := RX3) (T := TX3) (N := 7) hx hb hts bk0 hown hK hP (2117 + 2 * i) (ns_p (by omega)) f_61 rfl 2 (by decide) (hts (.fieldLink RX1 114 "GradientDesk$Part" "first" "I") (List.mem_of_getElem? (i := 7) rfl)) (fun _ h9 => h9) rfl dX1_findSlope_171 ?_
    refine lv_topi (fun x_62 e_63 => ?_)
    obtain rfl : x_62 = nI oa := e_63.trans (by rw [eoa]; exact (nI_iI _).symm)
    have f_64 : g_58 2092 = .inl (cA 2092, 200, .inr (.inr (.inr (.inr (fun j => some (ad (2 * (638 + j)))))))) := (fr_59 2092 (by omega)).trans y2
    refine m_aald hx hb hK hP 2092 (by decide) rfl f_64 (i := oa) (v := ad (2 * (638 + oa))) (by omega) (by decide) rfl dX1_findSlope_174 ?_
    obtain ⟨mw_65, sw_65, nw_65, fw_65, aw_65, bw_65, cw_65, dw_65, ew_65⟩ := hAW_56 10 (by omega)
    have qw_65 : mw_65 ≤ 4096 := by rw [dw_65]; exact rmc_le _
    refine va_callv (va_runV (As := [.ref (ad (2 * 9)), .ref (ad (2 * (638 + oa)))]) (rest := []) ⟨hx, hb, hml, hown, hts⟩ (c_X8_multiply l dC dI A ad cA g_58 10 9 (638 + oa) hAW_56 (by omega) (by omega) (by omega) (by omega) (by omega)) (cwV 2 hts (goodIn_app (goodIn_r [Cond.methodLink RX1 55 yX8_multiply, Cond.instanceMethod yX8_multiply, Cond.selects RX8 yX8_multiply yX8_multiply, Cond.initialized RX8] [16, 17, 18, 5] rfl rfl) (goodIn_sub (fun w9 h9 => bk4 w9 h9) gw_X8_multiply)) rfl rfl rfl (by decide +kernel) ⟨Nat.le_of_ble_eq_true rfl, Nat.le_of_ble_eq_true rfl⟩) ⟨fun a U g mk q => ⟨q.1, q.2.1, q.2.2.1, LY.moved (u := U) (U := U.calling g mk a) (Vm.Alike.refl U.vm) q.2.2.2⟩, va_recv hK hP (ci := 11) (q0 := (2 * 10)) rfl (wo_at (ns_w (by omega)) aw_65), fun U hU hW => ⟨rfl, by rw [hU]; exact fun q h => hA q (Nat.le_trans hS.1 h), by rw [hU]; exact hP, LY.moved hW.alike hL⟩⟩ rfl rfl hl.1 rfl (lv_room (Nat.le_of_ble_eq_true rfl)) dX1_findSlope_175 ⟨(Nat.le_of_ble_eq_true rfl), (Nat.le_of_ble_eq_true rfl)⟩) hS (fun q _ h => h) (fun q h => h) (fun u8 t8 H1 locs ht8 hvm8 hw_67 hB hz1 hk1 hS => ?_)
    obtain ⟨g_68, rfl⟩ : ∃ z, z = u8 := ⟨_, rfl⟩
    try dsimp only at hw_67 hB
    rw [ht8] at hB
    have hP := hB
    generalize H1 = H at hP hS ⊢
    obtain ⟨fr_69, hAW_66⟩ := hw_67
    refine lv_aload_n hx hb dX1_findSlope_178 rfl (lv_at hl 0 rfl) ?_
    have f_70 : g_68 2090 = .inr (4, [.ref (ad 2080), .ref (ad 2091), .ref (ad 2092), .ref (ad 2093), .ref (ad 2094), .ref (ad 2095), .ref (ad 2096), .ref (ad (2 * 9)), .ref (ad (2 * 10)), .ref (ad (2 * 11))]) := (fr_69 2090 (by omega)).trans f_60
    refine m_get (D := (dC, dI)) (v := .ref (ad (2 * 11))) (C := RX1) (T := TX1) (N := 10) hx hb hts bk2 hown hK hP 2090 (by decide) f_70 rfl 9 (by decide) (hts (.fieldLink RX1 44 "GradientDesk$Course" "hold" "LGradientDesk$Whole;") (List.mem_of_getElem? (i := 26) rfl)) (fun _ h9 => h9) rfl dX1_findSlope_179 ?_
    refine lv_aload_n hx hb dX1_findSlope_182 rfl (lv_at hl 1 rfl) ?_
    have f_71 : g_68 (2117 + 2 * i) = .inr (6, [.ref (ad (2118 + 2 * i)), .int (nI ((gd L i).1)), .int (iI ((gd L i).2.1)), .int (iI ((gd L i).2.2.1)), .int (nI ((gd L i).2.2.2.1)), .int (nI ((gd L i).2.2.2.2.1)), .int (nI ((gd L i).2.2.2.2.2.1))]) := (fr_69 (2117 + 2 * i) (by omega)).trans f_61
    refine m_get (D := (dC, dI)) (v := .int (iI ((gd L i).2.2.1))) (C := RX3) (T := TX3) (N := 7) hx hb hts bk0 hown hK hP (2117 + 2 * i) (ns_p (by omega)) f_71 rfl 3 (by decide) (hts (.fieldLink RX1 117 "GradientDesk$Part" "second" "I") (List.mem_of_getElem? (i := 15) rfl)) (fun _ h9 => h9) rfl dX1_findSlope_183 ?_
    refine lv_topi (fun x_72 e_73 => ?_)
    obtain rfl : x_72 = nI en := e_73.trans (by rw [een]; exact (nI_iI _).symm)
    refine lv_i2l hx hb dX1_findSlope_186 rfl ?_
    refine lv_topl (fun y_74 e_75 => ?_)
    obtain rfl : y_74 = lN en := e_75.trans (nI_l (by omega))
    obtain ⟨mw_76, sw_76, nw_76, fw_76, aw_76, bw_76, cw_76, dw_76, ew_76⟩ := hAW_66 11 (by omega)
    have qw_76 : mw_76 ≤ 4096 := by rw [dw_76]; exact rmc_le _
    refine va_callv (va_runV (As := [.long (lN en)]) (rest := []) ⟨hx, hb, hml, hown, hts⟩ (c_X8_put l dC dI A ad cA g_68 11 (lN en) hAW_66 (by omega)) (cwV 1 hts (goodIn_app (goodIn_r [Cond.methodLink RX1 51 yX8_put, Cond.instanceMethod yX8_put, Cond.selects RX8 yX8_put yX8_put, Cond.initialized RX8] [2, 3, 4, 5] rfl rfl) (goodIn_sub (fun w9 h9 => bk1 w9 h9) gw_X8_put)) rfl rfl rfl (by decide +kernel) ⟨Nat.le_of_ble_eq_true rfl, Nat.le_of_ble_eq_true rfl⟩) ⟨fun a U g mk q => ⟨q.1, q.2.1, q.2.2.1, LY.moved (u := U) (U := U.calling g mk a) (Vm.Alike.refl U.vm) q.2.2.2⟩, va_recv hK hP (ci := 11) (q0 := (2 * 11)) rfl (wo_at (ns_w (by omega)) aw_76), fun U hU hW => ⟨rfl, by rw [hU]; exact fun q h => hA q (Nat.le_trans hS.1 h), by rw [hU]; exact hP, LY.moved hW.alike hL⟩⟩ rfl rfl hl.1 rfl (lv_room (Nat.le_of_ble_eq_true rfl)) dX1_findSlope_187 ⟨(Nat.le_of_ble_eq_true rfl), (Nat.le_of_ble_eq_true rfl)⟩) hS (fun q _ h => h) (fun q h => h) (fun u8 t8 H1 locs ht8 hvm8 hw_78 hB hz1 hk1 hS => ?_)
    obtain ⟨g_79, rfl⟩ : ∃ z, z = u8 := ⟨_, rfl⟩
    try dsimp only at hw_78 hB
    rw [ht8] at hB
    have hP := hB
    generalize H1 = H at hP hS ⊢
    obtain ⟨fr_80, hAW_77⟩ := hw_78
    refine lv_aload_n hx hb dX1_findSlope_190 rfl (lv_at hl 2 rfl) ?_
    refine lv_aload_n hx hb dX1_findSlope_191 rfl (lv_at hl 0 rfl) ?_
    have f_81 : g_79 2090 = .inr (4, [.ref (ad 2080), .ref (ad 2091), .ref (ad 2092), .ref (ad 2093), .ref (ad 2094), .ref (ad 2095), .ref (ad 2096), .ref (ad (2 * 9)), .ref (ad (2 * 10)), .ref (ad (2 * 11))]) := (fr_80 2090 (by omega)).trans f_70
    refine m_get (D := (dC, dI)) (v := .ref (ad (2 * 10))) (C := RX1) (T := TX1) (N := 10) hx hb hts bk2 hown hK hP 2090 (by decide) f_81 rfl 8 (by decide) (hts (.fieldLink RX1 41 "GradientDesk$Course" "right" "LGradientDesk$Whole;") (List.mem_of_getElem? (i := 19) rfl)) (fun _ h9 => h9) rfl dX1_findSlope_192 ?_
    refine lv_aload_n hx hb dX1_findSlope_195 rfl (lv_at hl 0 rfl) ?_
    refine m_get (D := (dC, dI)) (v := .ref (ad (2 * 11))) (C := RX1) (T := TX1) (N := 10) hx hb hts bk2 hown hK hP 2090 (by decide) f_81 rfl 9 (by decide) (hts (.fieldLink RX1 44 "GradientDesk$Course" "hold" "LGradientDesk$Whole;") (List.mem_of_getElem? (i := 26) rfl)) (fun _ h9 => h9) rfl dX1_findSlope_196 ?_
    obtain ⟨mw_82, sw_82, nw_82, fw_82, aw_82, bw_82, cw_82, dw_82, ew_82⟩ := hAW_77 (638 + i) (by omega)
    have qw_82 : mw_82 ≤ 4096 := by rw [dw_82]; exact rmc_le _
    refine va_callv (va_runV (As := [.ref (ad (2 * 10)), .ref (ad (2 * 11))]) (rest := []) ⟨hx, hb, hml, hown, hts⟩ (c_X8_multiply l dC dI A ad cA g_79 (638 + i) 10 11 hAW_77 (by omega) (by omega) (by omega) (by omega) (by omega)) (cwV 2 hts (goodIn_app (goodIn_r [Cond.methodLink RX1 55 yX8_multiply, Cond.instanceMethod yX8_multiply, Cond.selects RX8 yX8_multiply yX8_multiply, Cond.initialized RX8] [16, 17, 18, 5] rfl rfl) (goodIn_sub (fun w9 h9 => bk4 w9 h9) gw_X8_multiply)) rfl rfl rfl (by decide +kernel) ⟨Nat.le_of_ble_eq_true rfl, Nat.le_of_ble_eq_true rfl⟩) ⟨fun a U g mk q => ⟨q.1, q.2.1, q.2.2.1, LY.moved (u := U) (U := U.calling g mk a) (Vm.Alike.refl U.vm) q.2.2.2⟩, va_recv hK hP (ci := 11) (q0 := (2 * (638 + i))) rfl (wo_at (ns_w (by omega)) aw_82), fun U hU hW => ⟨rfl, by rw [hU]; exact fun q h => hA q (Nat.le_trans hS.1 h), by rw [hU]; exact hP, LY.moved hW.alike hL⟩⟩ rfl rfl hl.1 rfl (lv_room (Nat.le_of_ble_eq_true rfl)) dX1_findSlope_199 ⟨(Nat.le_of_ble_eq_true rfl), (Nat.le_of_ble_eq_true rfl)⟩) hS (fun q _ h => h) (fun q h => h) (fun u8 t8 H1 locs ht8 hvm8 hw_84 hB hz1 hk1 hS => ?_)
    obtain ⟨g_85, rfl⟩ : ∃ z, z = u8 := ⟨_, rfl⟩
    try dsimp only at hw_84 hB
    rw [ht8] at hB
    have hP := hB
    generalize H1 = H at hP hS ⊢
    obtain ⟨fr_86, hAW_83⟩ := hw_84
    refine W.widen (k := 0) (n := 0) (by omega) (by omega) ?_
    exact W.vret hx hb hr (fun t9 ht9 hW9 => ⟨⟨g_85, rfl, ⟨(fun (k : Nat) (hk : (k < 18 ∨ 24 ≤ k) ∧ k ≠ 2 * (638 + i) ∧ k ≠ 2 * (638 + i) + 1) => (fr_86 k (by omega)).trans ((fr_80 k (by omega)).trans ((fr_69 k (by omega)).trans ((fr_59 k (by omega)).trans (rfl))))), hAW_83⟩, by show va_P (dC, dI) vwCl _ t9.heap; rw [ht9]; exact hP⟩, hS.F ht9⟩) hS.2.2 dX1_findSlope_202
end
