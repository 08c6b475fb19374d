def wd_W9_rval : List Cond := .code yX9_reckonValue cX9_reckonValue 3 none :: (([.fieldLink RX9 46 "GradientDesk" "course" "LGradientDesk$Course;", .fieldLink RX9 80 "GradientDesk" "pointTops" "[I", .fieldLink RX9 83 "GradientDesk" "pointBottoms" "[I", .methodLink RX9 282 yX1_goTo, .instanceMethod yX1_goTo, .selects RX1 yX1_goTo yX1_goTo, .initialized RX1, .methodLink RX9 286 yX1_followValues, .instanceMethod yX1_followValues, .selects RX1 yX1_followValues yX1_followValues, .fieldLink RX9 59 "GradientDesk" "results" "[LGradientDesk$Fraction;", .methodLink RX9 289 yX1_showValue, .instanceMethod yX1_showValue, .selects RX1 yX1_showValue yX1_showValue, .fieldLink RX9 10 "GradientDesk" "arithmetic" "LGradientDesk$Arithmetic;", .methodLink RX9 215 yX0_reduce, .instanceMethod yX0_reduce, .selects RX0 yX0_reduce yX0_reduce, .initialized RX0] : List Cond) ++ (u_ws RX9 TX9 12 ++ (wd_W1_goTo ++ (wd_W1_fvals ++ (wd_W1_showV ++ (wd_X0_reduce ++ ([])))))))
theorem gw_W9_rval : wd_W9_rval.all goodWord = true := k_allc rfl (k_all (by decide +kernel) (k_all (gu_X9) (k_all (gw_W1_goTo) (k_all (gw_W1_fvals) (k_all (gw_W1_showV) (k_all (gw_X0_reduce) (rfl)))))))
set_option maxHeartbeats 4000000 in
set_option maxRecDepth 100000 in
theorem c_W9_rval (l : Launch) (dC : Nat → ClassId) (dI : Nat → Nat → Nat) (A : Nat → Prop) (ad : Nat → Nat) (cA : Nat → ClassId) (g : Nat → va_E) (L : List PD) (nm : Nat → Int) (tx : Nat → Nat) (ty : Nat) (wp : Int32) (wr : List Int) (ex : Nat) (rr : Nat) (hI : CIS ad cA g L nm tx ty wp wr) (hex : ex < L.length) (hrr : rr < 8) : Met l yX9_reckonValue wd_W9_rval ({ frames := 80, cells := 0, slots := 0, locals := 1600 }) (va_Pc [.ref (ad 2076), .int (nI ex), .int (nI rr)] (PR NSc tyc dC dI A ad cA g)) (va_Qv (fun (u : Nat → va_E) => match u with | g2 => CIS ad cA g2 L nm tx ty wp wr) (fun (u : Nat → va_E) (t : State) => va_P (dC, dI) vwCl (wo ad NSc u) t.heap) A) (0) (0) A := by
  refine Met.ofW (cc := cX9_reckonValue) (maxL := 3) (ret := none) (by decide) rfl ?_
  intro p e s m args below meth c s₁ B hml hv
  obtain ⟨rfl, hA, hP, hL⟩ := hv
  have hx := B.exec
  have hb := B.bytes
  have hr := B.returns
  have hts := atoms_spec (ws := wd_W9_rval) B.pre
  have hown : s.vm.findClass RX9 = some m.cls := findClass_of_methodNamed B.named
  have hlocks := B.notSynchronized
  have hK := hL.1
  have hD : ∀ g, va_D A (wo ad NSc g) := fun g => wo_D hL.2.1 hL.2.2 g
  have hS : va_S A s.heap s.heap [] := va_S.rf
  have bk0 : ∀ w ∈ u_ws RX9 TX9 12, w ∈ wd_W9_rval := fun _ h => List.mem_cons_of_mem _ (List.mem_append_right _ (List.mem_append_left _ h))
  have bk1 : ∀ w ∈ wd_W1_goTo, w ∈ wd_W9_rval := fun _ h => List.mem_cons_of_mem _ (List.mem_append_right _ (List.mem_append_right _ (List.mem_append_left _ h)))
  have bk2 : ∀ w ∈ wd_W1_fvals, w ∈ wd_W9_rval := fun _ h => List.mem_cons_of_mem _ (List.mem_append_right _ (List.mem_append_right _ (List.mem_append_right _ (List.mem_append_left _ h))))
  have bk3 : ∀ w ∈ wd_W1_showV, w ∈ wd_W9_rval := fun _ h => List.mem_cons_of_mem _ (List.mem_append_right _ (List.mem_append_right _ (List.mem_append_right _ (List.mem_append_right _ (List.mem_append_left _ h)))))
  have bk4 : ∀ w ∈ wd_X0_reduce, w ∈ wd_W9_rval := fun _ h => List.mem_cons_of_mem _ (List.mem_append_right _ (List.mem_append_right _ (List.mem_append_right _ (List.mem_append_right _ (List.mem_append_right _ (List.mem_append_left _ h))))))
  have hl := lv_entry ([.ref (ad 2076), .int (nI ex), .int (nI rr)]) (n := 3) (Nat.le_of_ble_eq_true rfl)
  rw [lg_entry_eq]
  generalize (lg_sl ([.ref (ad 2076), .int (nI ex), .int (nI rr)]) ++ List.replicate (3 - (lg_sl ([.ref (ad 2076), .int (nI ex), .int (nI rr)])).length) Slot.unset).toArray = ls at hl ⊢
  have hl : lv_has ls 3 [(0, .ref (ad 2076)), (1, .int (nI ex)), (2, .int (nI rr))] := hl
  have hi9 := hI
  obtain ⟨d0, hC, hWf, d3, d4, d5, d6, d7, d8, d9, da, db, dc⟩ := hi9
  unfold CDO at d0
  have hCo := hC
  obtain ⟨hLno, hWo, ⟨hAro, hWko, hPao, hFro⟩, hOo, pto, hPto, hMo⟩ := hCo
  unfold CSO at hOo
  have hpbo := hPto.2
  have hnl := hC.1
  obtain ⟨nA, nB, nC⟩ := id da
  obtain ⟨fa, fb, pA, pB⟩ := id db
  have hcr9c := d6
  obtain ⟨y0c, y1c, y2c, y3c, y4c, ⟨ftc, y5c⟩, fhc, y6c⟩ := hcr9c
  obtain ⟨wcx, flx, fwx, fqx, fzx, fdx, hSm, hwl9, hwr9⟩ := id d8
  have hsc9z := hSm
  obtain ⟨s1z, s2z, s3z, s4z, s5z, s6z, s7z, s8z, s9z⟩ := hsc9z
  refine lv_aload_n hx hb dX9_reckonValue_0 rfl (lv_at hl 0 rfl) ?_
  refine m_get (D := (dC, dI)) (v := .ref (ad 2090)) (C := RX9) (T := TX9) (N := 12) hx hb hts bk0 hown hK hP 2076 (by decide) d0 rfl 4 (by decide) (hts (.fieldLink RX9 46 "GradientDesk" "course" "LGradientDesk$Course;") (List.mem_of_getElem? (i := 1) rfl)) (fun _ h9 => h9) rfl dX9_reckonValue_1 ?_
  refine lv_aload_n hx hb dX9_reckonValue_4 rfl (lv_at hl 0 rfl) ?_
  refine m_get (D := (dC, dI)) (v := .ref (ad 2105)) (C := RX9) (T := TX9) (N := 12) hx hb hts bk0 hown hK hP 2076 (by decide) d0 rfl 9 (by decide) (hts (.fieldLink RX9 80 "GradientDesk" "pointTops" "[I") (List.mem_of_getElem? (i := 2) rfl)) (fun _ h9 => h9) rfl dX9_reckonValue_5 ?_
  refine lv_aload_n hx hb dX9_reckonValue_8 rfl (lv_at hl 0 rfl) ?_
  refine m_get (D := (dC, dI)) (v := .ref (ad 2106)) (C := RX9) (T := TX9) (N := 12) hx hb hts bk0 hown hK hP 2076 (by decide) d0 rfl 10 (by decide) (hts (.fieldLink RX9 83 "GradientDesk" "pointBottoms" "[I") (List.mem_of_getElem? (i := 3) rfl)) (fun _ h9 => h9) rfl dX9_reckonValue_9 ?_
  refine va_callv (va_runV (As := [.ref (ad 2105), .ref (ad 2106)]) (rest := []) ⟨hx, hb, hml, hown, hts⟩ (c_W1_goTo l dC dI A ad cA g fa fb hWo d6 pA pB) (cwV 2 hts (goodIn_app (goodIn_r [Cond.methodLink RX9 282 yX1_goTo, Cond.instanceMethod yX1_goTo, Cond.selects RX1 yX1_goTo yX1_goTo, Cond.initialized RX1] [4, 5, 6, 7] rfl rfl) (goodIn_sub (fun w9 h9 => bk1 w9 h9) gw_W1_goTo)) rfl rfl rfl (by decide +kernel) ⟨Nat.le_of_ble_eq_true rfl, Nat.le_of_ble_eq_true rfl⟩) ⟨fun a U g mk q => ⟨q.1, q.2.1, q.2.2.1, LY.moved (u := U) (U := U.calling g mk a) (Vm.Alike.refl U.vm) q.2.2.2⟩, va_recv hK hP (ci := 4) (q0 := 2090) rfl (wo_at (by decide) y0c), fun U hU hW => ⟨rfl, by rw [hU]; exact fun q h => hA q (Nat.le_trans hS.1 h), by rw [hU]; exact hP, LY.moved hW.alike hL⟩⟩ rfl rfl hl.1 rfl (lv_room (Nat.le_of_ble_eq_true rfl)) dX9_reckonValue_12 ⟨(Nat.le_of_ble_eq_true rfl), (Nat.le_of_ble_eq_true rfl)⟩) hS (fun q _ h => h) (fun q h => h) (fun u8 t8 H1 locs ht8 hvm8 hw_3 hB hz1 hk1 hS => ?_)
  obtain ⟨g_4, rfl⟩ : ∃ z, z = u8 := ⟨_, rfl⟩
  try dsimp only at hw_3 hB
  rw [ht8] at hB
  have hP := hB
  generalize H1 = H at hP hS ⊢
  obtain ⟨fr_5, hAW_1, hCr_2⟩ := hw_3
  have hcr9g := hCr_2
  obtain ⟨y0g, y1g, y2g, y3g, y4g, ⟨ftg, y5g⟩, fhg, y6g⟩ := hcr9g
  refine lv_aload_n hx hb dX9_reckonValue_15 rfl (lv_at hl 0 rfl) ?_
  have f_6 : g_4 2076 = .inr (12, [.ref (ad 2077), .ref (ad 2078), .ref (ad 2080), .ref (ad 2084), .ref (ad 2090), .ref (ad 2097), .ref (ad 2103), .ref (ad 2108), .ref (ad 2104), .ref (ad 2105), .ref (ad 2106), .int wp]) := (fr_5 2076 (by omega)).trans d0
  refine m_get (D := (dC, dI)) (v := .ref (ad 2090)) (C := RX9) (T := TX9) (N := 12) hx hb hts bk0 hown hK hP 2076 (by decide) f_6 rfl 4 (by decide) (hts (.fieldLink RX9 46 "GradientDesk" "course" "LGradientDesk$Course;") (List.mem_of_getElem? (i := 1) rfl)) (fun _ h9 => h9) rfl dX9_reckonValue_16 ?_
  refine lv_iload_n hx hb dX9_reckonValue_19 rfl (lv_at hl 1 rfl) ?_
  have hC_9 : CS ad cA g_4 L := CS.same hC hAW_1 (fun (k : Nat) (hk : (76 ≤ k ∧ k < 876) ∨ k = 2077 ∨ k = 2107 ∨ k = 2080 ∨ k = 2081 ∨ (2117 ≤ k ∧ k < 2517)) => (fr_5 k (by omega)).trans (rfl))
  refine va_callv (va_runV (As := [.int (nI ex)]) (rest := []) ⟨hx, hb, hml, hown, hts⟩ (c_W1_fvals l dC dI A ad cA g_4 L ex hC_9 hWf hCr_2 (d7.same (fun (k : Nat) (hk : k = 2082) => (fr_5 k (by omega)).trans (rfl))) hex) (cwV 1 hts (goodIn_app (goodIn_r [Cond.methodLink RX9 286 yX1_followValues, Cond.instanceMethod yX1_followValues, Cond.selects RX1 yX1_followValues yX1_followValues, Cond.initialized RX1] [8, 9, 10, 7] rfl rfl) (goodIn_sub (fun w9 h9 => bk2 w9 h9) gw_W1_fvals)) rfl rfl rfl (by decide +kernel) ⟨Nat.le_of_ble_eq_true rfl, Nat.le_of_ble_eq_true rfl⟩) ⟨fun a U g mk q => ⟨q.1, q.2.1, q.2.2.1, LY.moved (u := U) (U := U.calling g mk a) (Vm.Alike.refl U.vm) q.2.2.2⟩, va_recv hK hP (ci := 4) (q0 := 2090) rfl (wo_at (by decide) y0g), fun U hU hW => ⟨rfl, by rw [hU]; exact fun q h => hA q (Nat.le_trans hS.1 h), by rw [hU]; exact hP, LY.moved hW.alike hL⟩⟩ rfl rfl hl.1 rfl (lv_room (Nat.le_of_ble_eq_true rfl)) dX9_reckonValue_20 ⟨(Nat.le_of_ble_eq_true rfl), (Nat.le_of_ble_eq_true rfl)⟩) hS (fun q _ h => h) (fun q h => h) (fun u8 t8 H1 locs ht8 hvm8 hw_10 hB hz1 hk1 hS => ?_)
  obtain ⟨g_11, rfl⟩ : ∃ z, z = u8 := ⟨_, rfl⟩
  try dsimp only at hw_10 hB
  rw [ht8] at hB
  have hP := hB
  generalize H1 = H at hP hS ⊢
  obtain ⟨fr_12, hAW_7, hMk_8⟩ := hw_10
  refine lv_aload_n hx hb dX9_reckonValue_23 rfl (lv_at hl 0 rfl) ?_
  have f_13 : g_11 2076 = .inr (12, [.ref (ad 2077), .ref (ad 2078), .ref (ad 2080), .ref (ad 2084), .ref (ad 2090), .ref (ad 2097), .ref (ad 2103), .ref (ad 2108), .ref (ad 2104), .ref (ad 2105), .ref (ad 2106), .int wp]) := (fr_12 2076 (by omega)).trans f_6
  refine m_get (D := (dC, dI)) (v := .ref (ad 2090)) (C := RX9) (T := TX9) (N := 12) hx hb hts bk0 hown hK hP 2076 (by decide) f_13 rfl 4 (by decide) (hts (.fieldLink RX9 46 "GradientDesk" "course" "LGradientDesk$Course;") (List.mem_of_getElem? (i := 1) rfl)) (fun _ h9 => h9) rfl dX9_reckonValue_24 ?_
  refine lv_iload_n hx hb dX9_reckonValue_27 rfl (lv_at hl 1 rfl) ?_
  refine lv_aload_n hx hb dX9_reckonValue_28 rfl (lv_at hl 0 rfl) ?_
  refine m_get (D := (dC, dI)) (v := .ref (ad 2103)) (C := RX9) (T := TX9) (N := 12) hx hb hts bk0 hown hK hP 2076 (by decide) f_13 rfl 6 (by decide) (hts (.fieldLink RX9 59 "GradientDesk" "results" "[LGradientDesk$Fraction;") (List.mem_of_getElem? (i := 11) rfl)) (fun _ h9 => h9) rfl dX9_reckonValue_29 ?_
  refine lv_iload_n hx hb dX9_reckonValue_32 rfl (lv_at hl 2 rfl) ?_
  have f_14 : g_11 2103 = .inl (cA 2103, 8, .inr (.inr (.inr (.inr (fun j => some (ad (2109 + j))))))) := (fr_12 2103 (by omega)).trans ((fr_5 2103 (by omega)).trans dc.1)
  refine m_aald hx hb hK hP 2103 (by decide) rfl f_14 (i := rr) (v := ad (2109 + rr)) (by omega) (by decide) rfl dX9_reckonValue_33 ?_
  have hC_16 : CS ad cA g_11 L := CS.same hC_9 hAW_7 (fun (k : Nat) (hk : (76 ≤ k ∧ k < 876) ∨ k = 2077 ∨ k = 2107 ∨ k = 2080 ∨ k = 2081 ∨ (2117 ≤ k ∧ k < 2517)) => (fr_12 k (by omega)).trans (rfl))
  have hr_17 := dc.2.2 rr (by omega)
  have f_18 : g_11 (2109 + rr) = .inr (5, [.ref (ad (2 * (13 + 2 * rr))), .ref (ad (2 * (14 + 2 * rr)))]) := (fr_12 (2109 + rr) (by omega)).trans ((fr_5 (2109 + rr) (by omega)).trans hr_17)
  have f_19 : g_11 2090 = .inr (4, [.ref (ad 2080), .ref (ad 2091), .ref (ad 2092), .ref (ad 2093), .ref (ad 2094), .ref (ad 2095), .ref (ad 2096), .ref (ad (2 * 9)), .ref (ad (2 * 10)), .ref (ad (2 * 11))]) := (fr_12 2090 (by omega)).trans y0g
  refine va_callv (va_runV (As := [.int (nI ex), .ref (ad (2109 + rr))]) (rest := []) ⟨hx, hb, hml, hown, hts⟩ (c_W1_showV l dC dI A ad cA g_11 L ex (2109 + rr) (13 + 2 * rr) (14 + 2 * rr) hC_16 hWf (hCr_2.same (fun (k : Nat) (hk : 2090 ≤ k ∧ k ≤ 2096) => (fr_12 k (by omega)).trans (rfl))) f_18 (⟨fr_r (by omega), by omega⟩) (by omega) hex (by omega)) (cwV 2 hts (goodIn_app (goodIn_r [Cond.methodLink RX9 289 yX1_showValue, Cond.instanceMethod yX1_showValue, Cond.selects RX1 yX1_showValue yX1_showValue, Cond.initialized RX1] [12, 13, 14, 7] rfl rfl) (goodIn_sub (fun w9 h9 => bk3 w9 h9) gw_W1_showV)) rfl rfl rfl (by decide +kernel) ⟨Nat.le_of_ble_eq_true rfl, Nat.le_of_ble_eq_true rfl⟩) ⟨fun a U g mk q => ⟨q.1, q.2.1, q.2.2.1, LY.moved (u := U) (U := U.calling g mk a) (Vm.Alike.refl U.vm) q.2.2.2⟩, va_recv hK hP (ci := 4) (q0 := 2090) rfl (wo_at (by decide) f_19), fun U hU hW => ⟨rfl, by rw [hU]; exact fun q h => hA q (Nat.le_trans hS.1 h), by rw [hU]; exact hP, LY.moved hW.alike hL⟩⟩ rfl rfl hl.1 rfl (lv_room (Nat.le_of_ble_eq_true rfl)) dX9_reckonValue_34 ⟨(Nat.le_of_ble_eq_true rfl), (Nat.le_of_ble_eq_true rfl)⟩) hS (fun q _ h => h) (fun q h => h) (fun u8 t8 H1 locs ht8 hvm8 hw_20 hB hz1 hk1 hS => ?_)
  obtain ⟨g_21, rfl⟩ : ∃ z, z = u8 := ⟨_, rfl⟩
  try dsimp only at hw_20 hB
  rw [ht8] at hB
  have hP := hB
  generalize H1 = H at hP hS ⊢
  obtain ⟨fr_22, hAW_15⟩ := hw_20
  refine lv_aload_n hx hb dX9_reckonValue_37 rfl (lv_at hl 0 rfl) ?_
  have f_23 : g_21 2076 = .inr (12, [.ref (ad 2077), .ref (ad 2078), .ref (ad 2080), .ref (ad 2084), .ref (ad 2090), .ref (ad 2097), .ref (ad 2103), .ref (ad 2108), .ref (ad 2104), .ref (ad 2105), .ref (ad 2106), .int wp]) := (fr_22 2076 (by omega)).trans f_13
  refine m_get (D := (dC, dI)) (v := .ref (ad 2077)) (C := RX9) (T := TX9) (N := 12) hx hb hts bk0 hown hK hP 2076 (by decide) f_23 rfl 0 (by decide) (hts (.fieldLink RX9 10 "GradientDesk" "arithmetic" "LGradientDesk$Arithmetic;") (List.mem_of_getElem? (i := 15) rfl)) (fun _ h9 => h9) rfl dX9_reckonValue_38 ?_
  refine lv_aload_n hx hb dX9_reckonValue_41 rfl (lv_at hl 0 rfl) ?_
  refine m_get (D := (dC, dI)) (v := .ref (ad 2103)) (C := RX9) (T := TX9) (N := 12) hx hb hts bk0 hown hK hP 2076 (by decide) f_23 rfl 6 (by decide) (hts (.fieldLink RX9 59 "GradientDesk" "results" "[LGradientDesk$Fraction;") (List.mem_of_getElem? (i := 11) rfl)) (fun _ h9 => h9) rfl dX9_reckonValue_42 ?_
  refine lv_iload_n hx hb dX9_reckonValue_45 rfl (lv_at hl 2 rfl) ?_
  have f_24 : g_21 2103 = .inl (cA 2103, 8, .inr (.inr (.inr (.inr (fun j => some (ad (2109 + j))))))) := (fr_22 2103 (by omega)).trans f_14
  refine m_aald hx hb hK hP 2103 (by decide) rfl f_24 (i := rr) (v := ad (2109 + rr)) (by omega) (by decide) rfl dX9_reckonValue_46 ?_
  have f_26 : g_21 2077 = .inr (3, [.ref (ad (2 * 0)), .ref (ad (2 * 1)), .ref (ad (2 * 2)), .ref (ad (2 * 3))]) := (fr_22 2077 (by omega)).trans ((fr_12 2077 (by omega)).trans ((fr_5 2077 (by omega)).trans hAro))
  have f_27 : g_21 (2109 + rr) = .inr (5, [.ref (ad (2 * (13 + 2 * rr))), .ref (ad (2 * (14 + 2 * rr)))]) := (fr_22 (2109 + rr) (by omega)).trans f_18
  refine va_callv (va_runV (As := [.ref (ad (2109 + rr))]) (rest := []) ⟨hx, hb, hml, hown, hts⟩ (c_X0_reduce l dC dI A ad cA g_21 (2109 + rr) (13 + 2 * rr) (14 + 2 * rr) hAW_15 f_26 f_27 (⟨fr_r (by omega), by omega⟩) (by omega)) (cwV 1 hts (goodIn_app (goodIn_r [Cond.methodLink RX9 215 yX0_reduce, Cond.instanceMethod yX0_reduce, Cond.selects RX0 yX0_reduce yX0_reduce, Cond.initialized RX0] [16, 17, 18, 19] rfl rfl) (goodIn_sub (fun w9 h9 => bk4 w9 h9) gw_X0_reduce)) rfl rfl rfl (by decide +kernel) ⟨Nat.le_of_ble_eq_true rfl, Nat.le_of_ble_eq_true rfl⟩) ⟨fun a U g mk q => ⟨q.1, q.2.1, q.2.2.1, LY.moved (u := U) (U := U.calling g mk a) (Vm.Alike.refl U.vm) q.2.2.2⟩, va_recv hK hP (ci := 3) (q0 := 2077) rfl (wo_at (by decide) f_26), fun U hU hW => ⟨rfl, by rw [hU]; exact fun q h => hA q (Nat.le_trans hS.1 h), by rw [hU]; exact hP, LY.moved hW.alike hL⟩⟩ rfl rfl hl.1 rfl (lv_room (Nat.le_of_ble_eq_true rfl)) dX9_reckonValue_47 ⟨(Nat.le_of_ble_eq_true rfl), (Nat.le_of_ble_eq_true rfl)⟩) hS (fun q _ h => h) (fun q h => h) (fun u8 t8 H1 locs ht8 hvm8 hw_28 hB hz1 hk1 hS => ?_)
  obtain ⟨g_29, rfl⟩ : ∃ z, z = u8 := ⟨_, rfl⟩
  try dsimp only at hw_28 hB
  rw [ht8] at hB
  have hP := hB
  generalize H1 = H at hP hS ⊢
  obtain ⟨fr_30, hAW_25⟩ := hw_28
  have f_31 : g_29 2076 = .inr (12, [.ref (ad 2077), .ref (ad 2078), .ref (ad 2080), .ref (ad 2084), .ref (ad 2090), .ref (ad 2097), .ref (ad 2103), .ref (ad 2108), .ref (ad 2104), .ref (ad 2105), .ref (ad 2106), .int wp]) := (fr_30 2076 (by omega)).trans f_23
  have hC_32 : CS ad cA g_29 L := CS.same hC_16 hAW_25 (fun (k : Nat) (hk : (76 ≤ k ∧ k < 876) ∨ k = 2077 ∨ k = 2107 ∨ k = 2080 ∨ k = 2081 ∨ (2117 ≤ k ∧ k < 2517)) => (fr_30 k (by omega)).trans ((fr_22 k (by omega)).trans (rfl)))
  refine W.widen (k := 0) (n := 0) (by omega) (by omega) ?_
  exact W.vret hx hb hr (fun t9 ht9 hW9 => ⟨⟨g_29, rfl, ⟨f_31, hC_32, hWf, (d3.same (fun (k : Nat) (hk : k = 2078 ∨ k = 2079) => (fr_30 k (by omega)).trans ((fr_22 k (by omega)).trans ((fr_12 k (by omega)).trans ((fr_5 k (by omega)).trans (rfl)))))), (d4.same (fun (k : Nat) (hk : 2084 ≤ k ∧ k ≤ 2088) => (fr_30 k (by omega)).trans ((fr_22 k (by omega)).trans ((fr_12 k (by omega)).trans ((fr_5 k (by omega)).trans (rfl)))))), (d5.same (fun (k : Nat) (hk : k = 2089) => (fr_30 k (by omega)).trans ((fr_22 k (by omega)).trans ((fr_12 k (by omega)).trans ((fr_5 k (by omega)).trans (rfl)))))), (hCr_2.same (fun (k : Nat) (hk : 2090 ≤ k ∧ k ≤ 2096) => (fr_30 k (by omega)).trans ((fr_22 k (by omega)).trans ((fr_12 k (by omega)).trans (rfl))))), (hMk_8.same (fun (k : Nat) (hk : k = 2082) => (fr_30 k (by omega)).trans ((fr_22 k (by omega)).trans (rfl)))), (d8.same (fun (k : Nat) (hk : 2097 ≤ k ∧ k ≤ 2102) => (fr_30 k (by omega)).trans ((fr_22 k (by omega)).trans ((fr_12 k (by omega)).trans ((fr_5 k (by omega)).trans (rfl)))))), (d9.same (fun (k : Nat) (hk : k = 2083) => (fr_30 k (by omega)).trans ((fr_22 k (by omega)).trans ((fr_12 k (by omega)).trans ((fr_5 k (by omega)).trans (rfl)))))), (da.same (fun (k : Nat) (hk : k = 2104) => (fr_30 k (by omega)).trans ((fr_22 k (by omega)).trans ((fr_12 k (by omega)).trans ((fr_5 k (by omega)).trans (rfl)))))), (db.same (fun (k : Nat) (hk : k = 2105 ∨ k = 2106) => (fr_30 k (by omega)).trans ((fr_22 k (by omega)).trans ((fr_12 k (by omega)).trans ((fr_5 k (by omega)).trans (rfl)))))), (dc.same (fun (k : Nat) (hk : k = 2103 ∨ (2108 ≤ k ∧ k < 2117)) => (fr_30 k (by omega)).trans ((fr_22 k (by omega)).trans ((fr_12 k (by omega)).trans ((fr_5 k (by omega)).trans (rfl))))))⟩, by show va_P (dC, dI) vwCl _ t9.heap; rw [ht9]; exact hP⟩, hS.F ht9⟩) hS.2.2 dX9_reckonValue_50
def wd_W9_rslp : List Cond := .code yX9_reckonSlope cX9_reckonSlope 6 none :: (([.fieldLink RX9 46 "GradientDesk" "course" "LGradientDesk$Course;", .methodLink RX9 293 yX1_head, .instanceMethod yX1_head, .selects RX1 yX1_head yX1_head, .initialized RX1, .methodLink RX9 297 yX1_followSlopes, .instanceMethod yX1_followSlopes, .selects RX1 yX1_followSlopes yX1_followSlopes, .fieldLink RX9 59 "GradientDesk" "results" "[LGradientDesk$Fraction;", .methodLink RX9 300 yX1_showSlope, .instanceMethod yX1_showSlope, .selects RX1 yX1_showSlope yX1_showSlope, .fieldLink RX9 10 "GradientDesk" "arithmetic" "LGradientDesk$Arithmetic;", .methodLink RX9 215 yX0_reduce, .instanceMethod yX0_reduce, .selects RX0 yX0_reduce yX0_reduce, .initialized RX0] : List Cond) ++ (u_ws RX9 TX9 12 ++ (wd_W1_head ++ (wd_W1_fslps ++ (wd_W1_showS ++ (wd_X0_reduce ++ ([])))))))
theorem gw_W9_rslp : wd_W9_rslp.all goodWord = true := k_allc rfl (k_all (by decide +kernel) (k_all (gu_X9) (k_all (gw_W1_head) (k_all (gw_W1_fslps) (k_all (gw_W1_showS) (k_all (gw_X0_reduce) (rfl)))))))
set_option maxHeartbeats 4000000 in
set_option maxRecDepth 100000 in
theorem c_W9_rslp (l : Launch) (dC : Nat → ClassId) (dI : Nat → Nat → Nat) (A : Nat → Prop) (ad : Nat → Nat) (cA : Nat → ClassId) (g : Nat → va_E) (L : List PD) (nm : Nat → Int) (tx : Nat → Nat) (ty : Nat) (wp : Int32) (wr : List Int) (ex : Nat) (v1 : Int32) (v2 : Int32) (v3 : Int32) (rr : Nat) (hI : CIS ad cA g L nm tx ty wp wr) (hex : ex < L.length) (hrr : rr < 8) : Met l yX9_reckonSlope wd_W9_rslp ({ frames := 80, cells := 0, slots := 0, locals := 1600 }) (va_Pc [.ref (ad 2076), .int (nI ex), .int v1, .int v2, .int v3, .int (nI rr)] (PR NSc tyc dC dI A ad cA g)) (va_Qv (fun (u : Nat → va_E) => match u with | g2 => CIS ad cA g2 L nm tx ty wp wr) (fun (u : Nat → va_E) (t : State) => va_P (dC, dI) vwCl (wo ad NSc u) t.heap) A) (0) (0) A := by
  refine Met.ofW (cc := cX9_reckonSlope) (maxL := 6) (ret := none) (by decide) rfl ?_
  intro p e s m args below meth c s₁ B hml hv
  obtain ⟨rfl, hA, hP, hL⟩ := hv
  have hx := B.exec
  have hb := B.bytes
  have hr := B.returns
  have hts := atoms_spec (ws := wd_W9_rslp) B.pre
  have hown : s.vm.findClass RX9 = some m.cls := findClass_of_methodNamed B.named
  have hlocks := B.notSynchronized
  have hK := hL.1
  have hD : ∀ g, va_D A (wo ad NSc g) := fun g => wo_D hL.2.1 hL.2.2 g
  have hS : va_S A s.heap s.heap [] := va_S.rf
  have bk0 : ∀ w ∈ u_ws RX9 TX9 12, w ∈ wd_W9_rslp := fun _ h => List.mem_cons_of_mem _ (List.mem_append_right _ (List.mem_append_left _ h))
  have bk1 : ∀ w ∈ wd_W1_head, w ∈ wd_W9_rslp := fun _ h => List.mem_cons_of_mem _ (List.mem_append_right _ (List.mem_append_right _ (List.mem_append_left _ h)))
  have bk2 : ∀ w ∈ wd_W1_fslps, w ∈ wd_W9_rslp := fun _ h => List.mem_cons_of_mem _ (List.mem_append_right _ (List.mem_append_right _ (List.mem_append_right _ (List.mem_append_left _ h))))
  have bk3 : ∀ w ∈ wd_W1_showS, w ∈ wd_W9_rslp := fun _ h => List.mem_cons_of_mem _ (List.mem_append_right _ (List.mem_append_right _ (List.mem_append_right _ (List.mem_append_right _ (List.mem_append_left _ h)))))
  have bk4 : ∀ w ∈ wd_X0_reduce, w ∈ wd_W9_rslp := fun _ h => List.mem_cons_of_mem _ (List.mem_append_right _ (List.mem_append_right _ (List.mem_append_right _ (List.mem_append_right _ (List.mem_append_right _ (List.mem_append_left _ h))))))
  have hl := lv_entry ([.ref (ad 2076), .int (nI ex), .int v1, .int v2, .int v3, .int (nI rr)]) (n := 6) (Nat.le_of_ble_eq_true rfl)
  rw [lg_entry_eq]
  generalize (lg_sl ([.ref (ad 2076), .int (nI ex), .int v1, .int v2, .int v3, .int (nI rr)]) ++ List.replicate (6 - (lg_sl ([.ref (ad 2076), .int (nI ex), .int v1, .int v2, .int v3, .int (nI rr)])).length) Slot.unset).toArray = ls at hl ⊢
  have hl : lv_has ls 6 [(0, .ref (ad 2076)), (1, .int (nI ex)), (2, .int v1), (3, .int v2), (4, .int v3), (5, .int (nI rr))] := hl
  have hi9 := hI
  obtain ⟨d0, hC, hWf, d3, d4, d5, d6, d7, d8, d9, da, db, dc⟩ := hi9
  unfold CDO at d0
  have hCo := hC
  obtain ⟨hLno, hWo, ⟨hAro, hWko, hPao, hFro⟩, hOo, pto, hPto, hMo⟩ := hCo
  unfold CSO at hOo
  have hpbo := hPto.2
  have hnl := hC.1
  obtain ⟨nA, nB, nC⟩ := id da
  obtain ⟨fa, fb, pA, pB⟩ := id db
  have hcr9c := d6
  obtain ⟨y0c, y1c, y2c, y3c, y4c, ⟨ftc, y5c⟩, fhc, y6c⟩ := hcr9c
  obtain ⟨wcx, flx, fwx, fqx, fzx, fdx, hSm, hwl9, hwr9⟩ := id d8
  have hsc9z := hSm
  obtain ⟨s1z, s2z, s3z, s4z, s5z, s6z, s7z, s8z, s9z⟩ := hsc9z
  refine lv_aload_n hx hb dX9_reckonSlope_0 rfl (lv_at hl 0 rfl) ?_
  refine m_get (D := (dC, dI)) (v := .ref (ad 2090)) (C := RX9) (T := TX9) (N := 12) hx hb hts bk0 hown hK hP 2076 (by decide) d0 rfl 4 (by decide) (hts (.fieldLink RX9 46 "GradientDesk" "course" "LGradientDesk$Course;") (List.mem_of_getElem? (i := 1) rfl)) (fun _ h9 => h9) rfl dX9_reckonSlope_1 ?_
  refine lv_iload_n hx hb dX9_reckonSlope_4 rfl (lv_at hl 2 rfl) ?_
  refine lv_iload_n hx hb dX9_reckonSlope_5 rfl (lv_at hl 3 rfl) ?_
  refine lv_iload hx hb dX9_reckonSlope_6 (lv_at hl 4 rfl) ?_
  refine va_callv (va_runV (As := [.int v1, .int v2, .int v3]) (rest := []) ⟨hx, hb, hml, hown, hts⟩ (c_W1_head l dC dI A ad cA g v1 v2 v3 d6) (cwV 3 hts (goodIn_app (goodIn_r [Cond.methodLink RX9 293 yX1_head, Cond.instanceMethod yX1_head, Cond.selects RX1 yX1_head yX1_head, Cond.initialized RX1] [2, 3, 4, 5] rfl rfl) (goodIn_sub (fun w9 h9 => bk1 w9 h9) gw_W1_head)) rfl rfl rfl (by decide +kernel) ⟨Nat.le_of_ble_eq_true rfl, Nat.le_of_ble_eq_true rfl⟩) ⟨fun a U g mk q => ⟨q.1, q.2.1, q.2.2.1, LY.moved (u := U) (U := U.calling g mk a) (Vm.Alike.refl U.vm) q.2.2.2⟩, va_recv hK hP (ci := 4) (q0 := 2090) rfl (wo_at (by decide) y0c), fun U hU hW => ⟨rfl, by rw [hU]; exact fun q h => hA q (Nat.le_trans hS.1 h), by rw [hU]; exact hP, LY.moved hW.alike hL⟩⟩ rfl rfl hl.1 rfl (lv_room (Nat.le_of_ble_eq_true rfl)) dX9_reckonSlope_8 ⟨(Nat.le_of_ble_eq_true rfl), (Nat.le_of_ble_eq_true rfl)⟩) hS (fun q _ h => h) (fun q h => h) (fun u8 t8 H1 locs ht8 hvm8 hw_2 hB hz1 hk1 hS => ?_)
  obtain ⟨g_3, rfl⟩ : ∃ z, z = u8 := ⟨_, rfl⟩
  try dsimp only at hw_2 hB
  rw [ht8] at hB
  have hP := hB
  generalize H1 = H at hP hS ⊢
  obtain ⟨fr_4, hCr_1⟩ := hw_2
  have hcr9g := hCr_1
  obtain ⟨y0g, y1g, y2g, y3g, y4g, ⟨ftg, y5g⟩, fhg, y6g⟩ := hcr9g
  refine lv_aload_n hx hb dX9_reckonSlope_11 rfl (lv_at hl 0 rfl) ?_
  have f_5 : g_3 2076 = .inr (12, [.ref (ad 2077), .ref (ad 2078), .ref (ad 2080), .ref (ad 2084), .ref (ad 2090), .ref (ad 2097), .ref (ad 2103), .ref (ad 2108), .ref (ad 2104), .ref (ad 2105), .ref (ad 2106), .int wp]) := (fr_4 2076 (by omega)).trans d0
  refine m_get (D := (dC, dI)) (v := .ref (ad 2090)) (C := RX9) (T := TX9) (N := 12) hx hb hts bk0 hown hK hP 2076 (by decide) f_5 rfl 4 (by decide) (hts (.fieldLink RX9 46 "GradientDesk" "course" "LGradientDesk$Course;") (List.mem_of_getElem? (i := 1) rfl)) (fun _ h9 => h9) rfl dX9_reckonSlope_12 ?_
  refine lv_iload_n hx hb dX9_reckonSlope_15 rfl (lv_at hl 1 rfl) ?_
  have hAW_9 : AW ad cA g_3 := AW.keep hWo (fun (k : Nat) (hk : k < 2076) => (fr_4 k (by omega)).trans (rfl))
  have hC_8 : CS ad cA g_3 L := CS.same hC hAW_9 (fun (k : Nat) (hk : (76 ≤ k ∧ k < 876) ∨ k = 2077 ∨ k = 2107 ∨ k = 2080 ∨ k = 2081 ∨ (2117 ≤ k ∧ k < 2517)) => (fr_4 k (by omega)).trans (rfl))
  refine va_callv (va_runV (As := [.int (nI ex)]) (rest := []) ⟨hx, hb, hml, hown, hts⟩ (c_W1_fslps l dC dI A ad cA g_3 L ex hC_8 hWf hCr_1 (d7.same (fun (k : Nat) (hk : k = 2082) => (fr_4 k (by omega)).trans (rfl))) hex) (cwV 1 hts (goodIn_app (goodIn_r [Cond.methodLink RX9 297 yX1_followSlopes, Cond.instanceMethod yX1_followSlopes, Cond.selects RX1 yX1_followSlopes yX1_followSlopes, Cond.initialized RX1] [6, 7, 8, 5] rfl rfl) (goodIn_sub (fun w9 h9 => bk2 w9 h9) gw_W1_fslps)) rfl rfl rfl (by decide +kernel) ⟨Nat.le_of_ble_eq_true rfl, Nat.le_of_ble_eq_true rfl⟩) ⟨fun a U g mk q => ⟨q.1, q.2.1, q.2.2.1, LY.moved (u := U) (U := U.calling g mk a) (Vm.Alike.refl U.vm) q.2.2.2⟩, va_recv hK hP (ci := 4) (q0 := 2090) rfl (wo_at (by decide) y0g), fun U hU hW => ⟨rfl, by rw [hU]; exact fun q h => hA q (Nat.le_trans hS.1 h), by rw [hU]; exact hP, LY.moved hW.alike hL⟩⟩ rfl rfl hl.1 rfl (lv_room (Nat.le_of_ble_eq_true rfl)) dX9_reckonSlope_16 ⟨(Nat.le_of_ble_eq_true rfl), (Nat.le_of_ble_eq_true rfl)⟩) hS (fun q _ h => h) (fun q h => h) (fun u8 t8 H1 locs ht8 hvm8 hw_10 hB hz1 hk1 hS => ?_)
  obtain ⟨g_11, rfl⟩ : ∃ z, z = u8 := ⟨_, rfl⟩
  try dsimp only at hw_10 hB
  rw [ht8] at hB
  have hP := hB
  generalize H1 = H at hP hS ⊢
  obtain ⟨fr_12, hAW_6, hMk_7⟩ := hw_10
  refine lv_aload_n hx hb dX9_reckonSlope_19 rfl (lv_at hl 0 rfl) ?_
  have f_13 : g_11 2076 = .inr (12, [.ref (ad 2077), .ref (ad 2078), .ref (ad 2080), .ref (ad 2084), .ref (ad 2090), .ref (ad 2097), .ref (ad 2103), .ref (ad 2108), .ref (ad 2104), .ref (ad 2105), .ref (ad 2106), .int wp]) := (fr_12 2076 (by omega)).trans f_5
  refine m_get (D := (dC, dI)) (v := .ref (ad 2090)) (C := RX9) (T := TX9) (N := 12) hx hb hts bk0 hown hK hP 2076 (by decide) f_13 rfl 4 (by decide) (hts (.fieldLink RX9 46 "GradientDesk" "course" "LGradientDesk$Course;") (List.mem_of_getElem? (i := 1) rfl)) (fun _ h9 => h9) rfl dX9_reckonSlope_20 ?_
  refine lv_iload_n hx hb dX9_reckonSlope_23 rfl (lv_at hl 1 rfl) ?_
  refine lv_aload_n hx hb dX9_reckonSlope_24 rfl (lv_at hl 0 rfl) ?_
  refine m_get (D := (dC, dI)) (v := .ref (ad 2103)) (C := RX9) (T := TX9) (N := 12) hx hb hts bk0 hown hK hP 2076 (by decide) f_13 rfl 6 (by decide) (hts (.fieldLink RX9 59 "GradientDesk" "results" "[LGradientDesk$Fraction;") (List.mem_of_getElem? (i := 9) rfl)) (fun _ h9 => h9) rfl dX9_reckonSlope_25 ?_
  refine lv_iload hx hb dX9_reckonSlope_28 (lv_at hl 5 rfl) ?_
  have f_14 : g_11 2103 = .inl (cA 2103, 8, .inr (.inr (.inr (.inr (fun j => some (ad (2109 + j))))))) := (fr_12 2103 (by omega)).trans ((fr_4 2103 (by omega)).trans dc.1)
  refine m_aald hx hb hK hP 2103 (by decide) rfl f_14 (i := rr) (v := ad (2109 + rr)) (by omega) (by decide) rfl dX9_reckonSlope_30 ?_
  have hC_16 : CS ad cA g_11 L := CS.same hC_8 hAW_6 (fun (k : Nat) (hk : (76 ≤ k ∧ k < 876) ∨ k = 2077 ∨ k = 2107 ∨ k = 2080 ∨ k = 2081 ∨ (2117 ≤ k ∧ k < 2517)) => (fr_12 k (by omega)).trans (rfl))
  have hr_17 := dc.2.2 rr (by omega)
  have f_18 : g_11 (2109 + rr) = .inr (5, [.ref (ad (2 * (13 + 2 * rr))), .ref (ad (2 * (14 + 2 * rr)))]) := (fr_12 (2109 + rr) (by omega)).trans ((fr_4 (2109 + rr) (by omega)).trans hr_17)
  have f_19 : g_11 2090 = .inr (4, [.ref (ad 2080), .ref (ad 2091), .ref (ad 2092), .ref (ad 2093), .ref (ad 2094), .ref (ad 2095), .ref (ad 2096), .ref (ad (2 * 9)), .ref (ad (2 * 10)), .ref (ad (2 * 11))]) := (fr_12 2090 (by omega)).trans y0g
  refine va_callv (va_runV (As := [.int (nI ex), .ref (ad (2109 + rr))]) (rest := []) ⟨hx, hb, hml, hown, hts⟩ (c_W1_showS l dC dI A ad cA g_11 L ex (2109 + rr) (13 + 2 * rr) (14 + 2 * rr) hC_16 hWf (hCr_1.same (fun (k : Nat) (hk : 2090 ≤ k ∧ k ≤ 2096) => (fr_12 k (by omega)).trans (rfl))) f_18 (⟨fr_r (by omega), by omega⟩) (by omega) hex (by omega)) (cwV 2 hts (goodIn_app (goodIn_r [Cond.methodLink RX9 300 yX1_showSlope, Cond.instanceMethod yX1_showSlope, Cond.selects RX1 yX1_showSlope yX1_showSlope, Cond.initialized RX1] [10, 11, 12, 5] rfl rfl) (goodIn_sub (fun w9 h9 => bk3 w9 h9) gw_W1_showS)) rfl rfl rfl (by decide +kernel) ⟨Nat.le_of_ble_eq_true rfl, Nat.le_of_ble_eq_true rfl⟩) ⟨fun a U g mk q => ⟨q.1, q.2.1, q.2.2.1, LY.moved (u := U) (U := U.calling g mk a) (Vm.Alike.refl U.vm) q.2.2.2⟩, va_recv hK hP (ci := 4) (q0 := 2090) rfl (wo_at (by decide) f_19), fun U hU hW => ⟨rfl, by rw [hU]; exact fun q h => hA q (Nat.le_trans hS.1 h), by rw [hU]; exact hP, LY.moved hW.alike hL⟩⟩ rfl rfl hl.1 rfl (lv_room (Nat.le_of_ble_eq_true rfl)) dX9_reckonSlope_31 ⟨(Nat.le_of_ble_eq_true rfl), (Nat.le_of_ble_eq_true rfl)⟩) hS (fun q _ h => h) (fun q h => h) (fun u8 t8 H1 locs ht8 hvm8 hw_20 hB hz1 hk1 hS => ?_)
  obtain ⟨g_21, rfl⟩ : ∃ z, z = u8 := ⟨_, rfl⟩
  try dsimp only at hw_20 hB
  rw [ht8] at hB
  have hP := hB
  generalize H1 = H at hP hS ⊢
  obtain ⟨fr_22, hAW_15⟩ := hw_20
  refine lv_aload_n hx hb dX9_reckonSlope_34 rfl (lv_at hl 0 rfl) ?_
  have f_23 : g_21 2076 = .inr (12, [.ref (ad 2077), .ref (ad 2078), .ref (ad 2080), .ref (ad 2084), .ref (ad 2090), .ref (ad 2097), .ref (ad 2103), .ref (ad 2108), .ref (ad 2104), .ref (ad 2105), .ref (ad 2106), .int wp]) := (fr_22 2076 (by omega)).trans f_13
  refine m_get (D := (dC, dI)) (v := .ref (ad 2077)) (C := RX9) (T := TX9) (N := 12) hx hb hts bk0 hown hK hP 2076 (by decide) f_23 rfl 0 (by decide) (hts (.fieldLink RX9 10 "GradientDesk" "arithmetic" "LGradientDesk$Arithmetic;") (List.mem_of_getElem? (i := 13) rfl)) (fun _ h9 => h9) rfl dX9_reckonSlope_35 ?_
  refine lv_aload_n hx hb dX9_reckonSlope_38 rfl (lv_at hl 0 rfl) ?_
  refine m_get (D := (dC, dI)) (v := .ref (ad 2103)) (C := RX9) (T := TX9) (N := 12) hx hb hts bk0 hown hK hP 2076 (by decide) f_23 rfl 6 (by decide) (hts (.fieldLink RX9 59 "GradientDesk" "results" "[LGradientDesk$Fraction;") (List.mem_of_getElem? (i := 9) rfl)) (fun _ h9 => h9) rfl dX9_reckonSlope_39 ?_
  refine lv_iload hx hb dX9_reckonSlope_42 (lv_at hl 5 rfl) ?_
  have f_24 : g_21 2103 = .inl (cA 2103, 8, .inr (.inr (.inr (.inr (fun j => some (ad (2109 + j))))))) := (fr_22 2103 (by omega)).trans f_14
  refine m_aald hx hb hK hP 2103 (by decide) rfl f_24 (i := rr) (v := ad (2109 + rr)) (by omega) (by decide) rfl dX9_reckonSlope_44 ?_
  have f_26 : g_21 2077 = .inr (3, [.ref (ad (2 * 0)), .ref (ad (2 * 1)), .ref (ad (2 * 2)), .ref (ad (2 * 3))]) := (fr_22 2077 (by omega)).trans ((fr_12 2077 (by omega)).trans ((fr_4 2077 (by omega)).trans hAro))
  have f_27 : g_21 (2109 + rr) = .inr (5, [.ref (ad (2 * (13 + 2 * rr))), .ref (ad (2 * (14 + 2 * rr)))]) := (fr_22 (2109 + rr) (by omega)).trans f_18
  refine va_callv (va_runV (As := [.ref (ad (2109 + rr))]) (rest := []) ⟨hx, hb, hml, hown, hts⟩ (c_X0_reduce l dC dI A ad cA g_21 (2109 + rr) (13 + 2 * rr) (14 + 2 * rr) hAW_15 f_26 f_27 (⟨fr_r (by omega), by omega⟩) (by omega)) (cwV 1 hts (goodIn_app (goodIn_r [Cond.methodLink RX9 215 yX0_reduce, Cond.instanceMethod yX0_reduce, Cond.selects RX0 yX0_reduce yX0_reduce, Cond.initialized RX0] [14, 15, 16, 17] rfl rfl) (goodIn_sub (fun w9 h9 => bk4 w9 h9) gw_X0_reduce)) rfl rfl rfl (by decide +kernel) ⟨Nat.le_of_ble_eq_true rfl, Nat.le_of_ble_eq_true rfl⟩) ⟨fun a U g mk q => ⟨q.1, q.2.1, q.2.2.1, LY.moved (u := U) (U := U.calling g mk a) (Vm.Alike.refl U.vm) q.2.2.2⟩, va_recv hK hP (ci := 3) (q0 := 2077) rfl (wo_at (by decide) f_26), fun U hU hW => ⟨rfl, by rw [hU]; exact fun q h => hA q (Nat.le_trans hS.1 h), by rw [hU]; exact hP, LY.moved hW.alike hL⟩⟩ rfl rfl hl.1 rfl (lv_room (Nat.le_of_ble_eq_true rfl)) dX9_reckonSlope_45 ⟨(Nat.le_of_ble_eq_true rfl), (Nat.le_of_ble_eq_true rfl)⟩) hS (fun q _ h => h) (fun q h => h) (fun u8 t8 H1 locs ht8 hvm8 hw_28 hB hz1 hk1 hS => ?_)
  obtain ⟨g_29, rfl⟩ : ∃ z, z = u8 := ⟨_, rfl⟩
  try dsimp only at hw_28 hB
  rw [ht8] at hB
  have hP := hB
  generalize H1 = H at hP hS ⊢
  obtain ⟨fr_30, hAW_25⟩ := hw_28
  have f_31 : g_29 2076 = .inr (12, [.ref (ad 2077), .ref (ad 2078), .ref (ad 2080), .ref (ad 2084), .ref (ad 2090), .ref (ad 2097), .ref (ad 2103), .ref (ad 2108), .ref (ad 2104), .ref (ad 2105), .ref (ad 2106), .int wp]) := (fr_30 2076 (by omega)).trans f_23
  have hC_32 : CS ad cA g_29 L := CS.same hC_16 hAW_25 (fun (k : Nat) (hk : (76 ≤ k ∧ k < 876) ∨ k = 2077 ∨ k = 2107 ∨ k = 2080 ∨ k = 2081 ∨ (2117 ≤ k ∧ k < 2517)) => (fr_30 k (by omega)).trans ((fr_22 k (by omega)).trans (rfl)))
  refine W.widen (k := 0) (n := 0) (by omega) (by omega) ?_
  exact W.vret hx hb hr (fun t9 ht9 hW9 => ⟨⟨g_29, rfl, ⟨f_31, hC_32, hWf, (d3.same (fun (k : Nat) (hk : k = 2078 ∨ k = 2079) => (fr_30 k (by omega)).trans ((fr_22 k (by omega)).trans ((fr_12 k (by omega)).trans ((fr_4 k (by omega)).trans (rfl)))))), (d4.same (fun (k : Nat) (hk : 2084 ≤ k ∧ k ≤ 2088) => (fr_30 k (by omega)).trans ((fr_22 k (by omega)).trans ((fr_12 k (by omega)).trans ((fr_4 k (by omega)).trans (rfl)))))), (d5.same (fun (k : Nat) (hk : k = 2089) => (fr_30 k (by omega)).trans ((fr_22 k (by omega)).trans ((fr_12 k (by omega)).trans ((fr_4 k (by omega)).trans (rfl)))))), (hCr_1.same (fun (k : Nat) (hk : 2090 ≤ k ∧ k ≤ 2096) => (fr_30 k (by omega)).trans ((fr_22 k (by omega)).trans ((fr_12 k (by omega)).trans (rfl))))), (hMk_7.same (fun (k : Nat) (hk : k = 2082) => (fr_30 k (by omega)).trans ((fr_22 k (by omega)).trans (rfl)))), (d8.same (fun (k : Nat) (hk : 2097 ≤ k ∧ k ≤ 2102) => (fr_30 k (by omega)).trans ((fr_22 k (by omega)).trans ((fr_12 k (by omega)).trans ((fr_4 k (by omega)).trans (rfl)))))), (d9.same (fun (k : Nat) (hk : k = 2083) => (fr_30 k (by omega)).trans ((fr_22 k (by omega)).trans ((fr_12 k (by omega)).trans ((fr_4 k (by omega)).trans (rfl)))))), (da.same (fun (k : Nat) (hk : k = 2104) => (fr_30 k (by omega)).trans ((fr_22 k (by omega)).trans ((fr_12 k (by omega)).trans ((fr_4 k (by omega)).trans (rfl)))))), (db.same (fun (k : Nat) (hk : k = 2105 ∨ k = 2106) => (fr_30 k (by omega)).trans ((fr_22 k (by omega)).trans ((fr_12 k (by omega)).trans ((fr_4 k (by omega)).trans (rfl)))))), (dc.same (fun (k : Nat) (hk : k = 2103 ∨ (2108 ≤ k ∧ k < 2117)) => (fr_30 k (by omega)).trans ((fr_22 k (by omega)).trans ((fr_12 k (by omega)).trans ((fr_4 k (by omega)).trans (rfl))))))⟩, by show va_P (dC, dI) vwCl _ t9.heap; rw [ht9]; exact hP⟩, hS.F ht9⟩) hS.2.2 dX9_reckonSlope_48
