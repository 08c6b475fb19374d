def wd_W5_lenN : List Cond := .code yX5_lengthOfNumber cX5_lengthOfNumber 3 (some .int) :: (([.fieldLink RX5 98 "GradientDesk$Fraction" "top" "LGradientDesk$Whole;", .methodLink RX5 103 yX5_findDigits, .instanceMethod yX5_findDigits, .selects RX5 yX5_findDigits yX5_findDigits, .initialized RX5, .fieldLink RX5 107 "GradientDesk$Whole" "below" "Z", .fieldLink RX5 111 "GradientDesk$Fraction" "bottom" "LGradientDesk$Whole;", .methodLink RX5 114 yX8_isOne, .instanceMethod yX8_isOne, .selects RX8 yX8_isOne yX8_isOne, .initialized RX8] : List Cond) ++ (u_ws RX2 TX2 2 ++ (wd_W5_find ++ (u_ws RX8 TX8 3 ++ (wd_X8_isOne ++ ([]))))))
theorem gw_W5_lenN : wd_W5_lenN.all goodWord = true := k_allc rfl (k_all (by decide +kernel) (k_all (gu_X2) (k_all (gw_W5_find) (k_all (gu_X8) (k_all (gw_X8_isOne) (rfl))))))
set_option maxHeartbeats 4000000 in
set_option maxRecDepth 100000 in
theorem c_W5_lenN (l : Launch) (dC : Nat → ClassId) (dI : Nat → Nat → Nat) (A : Nat → Prop) (ad : Nat → Nat) (cA : Nat → ClassId) (g : Nat → va_E) (L : List PD) (M : Nat) (i : Nat) (hC : CS ad cA g L) (hWf : WFL L) (hSc : SCM ad cA g M) (hi : i < 200) : Met l yX5_lengthOfNumber wd_W5_lenN ({ frames := 50, cells := 0, slots := 0, locals := 1000 }) (va_Pc [.ref (ad 2097), .ref (ad (2118 + 2 * i))] (PR NSc tyc dC dI A ad cA g)) (va_Qi (fun (r : Int32) => fun (u : Nat → va_E) => match u with | g2 => (∀ k, k < 24 ∨ (26 ≤ k ∧ k ≠ 2102) → g2 k = g k) ∧ SCM ad cA g2 M ∧ AW ad cA g2) (fun (u : Nat → va_E) (t : State) => va_P (dC, dI) vwCl (wo ad NSc u) t.heap) A) (0) (0) A := by
  refine Met.ofW (cc := cX5_lengthOfNumber) (maxL := 3) (ret := (some .int)) (by decide) rfl ?_
  intro p e s m args below meth c s₁ B hml hv
  obtain ⟨rfl, hA, hP, hL⟩ := hv
  have hx := B.exec
  have hb := B.bytes
  have hr := B.returns
  have hts := atoms_spec (ws := wd_W5_lenN) B.pre
  have hown : s.vm.findClass RX5 = some m.cls := findClass_of_methodNamed B.named
  have hlocks := B.notSynchronized
  have hK := hL.1
  have hD : ∀ g, va_D A (wo ad NSc g) := fun g => wo_D hL.2.1 hL.2.2 g
  have hS : va_S A s.heap s.heap [] := va_S.rf
  have bk0 : ∀ w ∈ u_ws RX2 TX2 2, w ∈ wd_W5_lenN := fun _ h => List.mem_cons_of_mem _ (List.mem_append_right _ (List.mem_append_left _ h))
  have bk1 : ∀ w ∈ wd_W5_find, w ∈ wd_W5_lenN := fun _ h => List.mem_cons_of_mem _ (List.mem_append_right _ (List.mem_append_right _ (List.mem_append_left _ h)))
  have bk2 : ∀ w ∈ u_ws RX8 TX8 3, w ∈ wd_W5_lenN := fun _ h => List.mem_cons_of_mem _ (List.mem_append_right _ (List.mem_append_right _ (List.mem_append_right _ (List.mem_append_left _ h))))
  have bk3 : ∀ w ∈ wd_X8_isOne, w ∈ wd_W5_lenN := fun _ h => List.mem_cons_of_mem _ (List.mem_append_right _ (List.mem_append_right _ (List.mem_append_right _ (List.mem_append_right _ (List.mem_append_left _ h)))))
  have hl := lv_entry ([.ref (ad 2097), .ref (ad (2118 + 2 * i))]) (n := 3) (Nat.le_of_ble_eq_true rfl)
  rw [lg_entry_eq]
  generalize (lg_sl ([.ref (ad 2097), .ref (ad (2118 + 2 * i))]) ++ List.replicate (3 - (lg_sl ([.ref (ad 2097), .ref (ad (2118 + 2 * i))])).length) Slot.unset).toArray = ls at hl ⊢
  have hl : lv_has ls 3 [(0, .ref (ad 2097)), (1, .ref (ad (2118 + 2 * i)))] := hl
  have hC0 := hC
  obtain ⟨hLn, hW, ⟨hAr, hWk, hPa, hFr⟩, hO, pt, hPt, hM⟩ := hC0
  unfold CSO at hO
  have hpb := hPt.2
  have hq_1 := hFr i (by omega)
  have hsc9 := hSc
  obtain ⟨ln, wc, fl, fw, fd, fz, fq, s1, s2, s3, s4, s5, s6, s7, s8, s9, sa, sb⟩ := hsc9
  unfold SCO at s1
  refine lv_aload_n hx hb dX5_lengthOfNumber_0 rfl (lv_at hl 0 rfl) ?_
  refine lv_aload_n hx hb dX5_lengthOfNumber_1 rfl (lv_at hl 1 rfl) ?_
  refine m_get (D := (dC, dI)) (v := .ref (ad (2 * (38 + 2 * i)))) (C := RX2) (T := TX2) (N := 2) hx hb hts bk0 hown hK hP (2118 + 2 * i) (ns_q (by omega)) hq_1 rfl 0 (by decide) (hts (.fieldLink RX5 98 "GradientDesk$Fraction" "top" "LGradientDesk$Whole;") (List.mem_of_getElem? (i := 1) rfl)) (fun _ h9 => h9) rfl dX5_lengthOfNumber_2 ?_
  refine va_calli (va_runV (As := [.ref (ad (2 * (38 + 2 * i)))]) (rest := []) ⟨hx, hb, hml, hown, hts⟩ (c_W5_find l dC dI A ad cA g M (38 + 2 * i) hW hSc (by omega)) (cwV 1 hts (goodIn_app (goodIn_r [Cond.methodLink RX5 103 yX5_findDigits, Cond.instanceMethod yX5_findDigits, Cond.selects RX5 yX5_findDigits yX5_findDigits, Cond.initialized RX5] [2, 3, 4, 5] rfl rfl) (goodIn_sub (fun w9 h9 => bk1 w9 h9) gw_W5_find)) rfl rfl rfl (by decide +kernel) ⟨Nat.le_of_ble_eq_true rfl, Nat.le_of_ble_eq_true rfl⟩) ⟨fun a U g mk q => ⟨q.1, q.2.1, q.2.2.1, LY.moved (u := U) (U := U.calling g mk a) (Vm.Alike.refl U.vm) q.2.2.2⟩, va_recv hK hP (ci := 8) (q0 := 2097) rfl (wo_at (by decide) s1), fun U hU hW => ⟨rfl, by rw [hU]; exact fun q h => hA q (Nat.le_trans hS.1 h), by rw [hU]; exact hP, LY.moved hW.alike hL⟩⟩ rfl rfl hl.1 rfl (lv_room (Nat.le_of_ble_eq_true rfl)) dX5_lengthOfNumber_5 ⟨(Nat.le_of_ble_eq_true rfl), (Nat.le_of_ble_eq_true rfl)⟩) hS (fun q _ h => h) (fun q h => h) (fun r_5 u8 t8 H1 locs ht8 hvm8 hw_6 hB hz1 hk1 hS => ?_)
  obtain ⟨g_7, z_8⟩ := u8
  try dsimp only at hw_6 hB
  rw [ht8] at hB
  have hP := hB
  generalize H1 = H at hP hS ⊢
  obtain ⟨fr_9, hS_2, hAW_3, hr_4, hz12, hz22⟩ := hw_6
  subst hr_4
  have hsc92 := hS_2
  obtain ⟨ln2, wc2, fl2, fw2, fd2, fz2, fq2, s12, s22, s32, s42, s52, s62, s72, s82, s92, sa2, sb2⟩ := hsc92
  unfold SCO at s12
  refine lv_aload_n hx hb dX5_lengthOfNumber_8 rfl (lv_at hl 1 rfl) ?_
  have f_10 : g_7 (2118 + 2 * i) = .inr (5, [.ref (ad (2 * (38 + 2 * i))), .ref (ad (2 * (39 + 2 * i)))]) := (fr_9 (2118 + 2 * i) (by omega)).trans hq_1
  refine m_get (D := (dC, dI)) (v := .ref (ad (2 * (38 + 2 * i)))) (C := RX2) (T := TX2) (N := 2) hx hb hts bk0 hown hK hP (2118 + 2 * i) (ns_q (by omega)) f_10 rfl 0 (by decide) (hts (.fieldLink RX5 98 "GradientDesk$Fraction" "top" "LGradientDesk$Whole;") (List.mem_of_getElem? (i := 1) rfl)) (fun _ h9 => h9) rfl dX5_lengthOfNumber_9 ?_
  obtain ⟨mw_11, sw_11, nw_11, fw_11, aw_11, bw_11, cw_11, dw_11, ew_11⟩ := hAW_3 (38 + 2 * i) (by omega)
  have qw_11 : mw_11 ≤ 4096 := by rw [dw_11]; exact rmc_le _
  refine m_get (D := (dC, dI)) (v := .int (nI nw_11)) (C := RX8) (T := TX8) (N := 3) hx hb hts bk2 hown hK hP (2 * (38 + 2 * i)) (ns_w (by omega)) aw_11 rfl 2 (by decide) (hts (.fieldLink RX5 107 "GradientDesk$Whole" "below" "Z") (List.mem_of_getElem? (i := 6) rfl)) (fun _ h9 => h9) rfl dX5_lengthOfNumber_12 ?_
  refine lv_if_eq (tgt := 22) hx hb dX5_lengthOfNumber_15 (by decide) (fun c_12 => ?_) (fun c_12 => ?_)
  · have c_12 := (nI_eq (a := nw_11) (b := 0) (by omega) (by decide)).mp c_12
    refine lv_iconst (v := nI 0) hx hb dX5_lengthOfNumber_22 (by decide +kernel) ?_
    refine lv_iadd hx hb dX5_lengthOfNumber_23 ?_
    refine lv_topi (fun x_13 e_14 => ?_)
    obtain rfl : x_13 = nI z_8 := e_14.trans (nI_add z_8 0)
    refine lv_istore_n (lv' := [(2, .int (nI z_8)), (0, .ref (ad 2097)), (1, .ref (ad (2118 + 2 * i)))]) hx hb dX5_lengthOfNumber_24 rfl hl (by decide) rfl (fun ls hl => ?_)
    refine lv_aload_n hx hb dX5_lengthOfNumber_25 rfl (lv_at hl 2 rfl) ?_
    refine m_get (D := (dC, dI)) (v := .ref (ad (2 * (39 + 2 * i)))) (C := RX2) (T := TX2) (N := 2) hx hb hts bk0 hown hK hP (2118 + 2 * i) (ns_q (by omega)) f_10 rfl 1 (by decide) (hts (.fieldLink RX5 111 "GradientDesk$Fraction" "bottom" "LGradientDesk$Whole;") (List.mem_of_getElem? (i := 7) rfl)) (fun _ h9 => h9) rfl dX5_lengthOfNumber_26 ?_
    obtain ⟨mw_15, sw_15, nw_15, fw_15, aw_15, bw_15, cw_15, dw_15, ew_15⟩ := hAW_3 (39 + 2 * i) (by omega)
    have qw_15 : mw_15 ≤ 4096 := by rw [dw_15]; exact rmc_le _
    refine va_calli (va_runV (As := []) (rest := []) ⟨hx, hb, hml, hown, hts⟩ (c_X8_isOne l dC dI A ad cA g_7 (39 + 2 * i) hAW_3 (by omega)) (cwV 0 hts (goodIn_app (goodIn_r [Cond.methodLink RX5 114 yX8_isOne, Cond.instanceMethod yX8_isOne, Cond.selects RX8 yX8_isOne yX8_isOne, Cond.initialized RX8] [8, 9, 10, 11] rfl rfl) (goodIn_sub (fun w9 h9 => bk3 w9 h9) gw_X8_isOne)) rfl rfl rfl (by decide +kernel) ⟨Nat.le_of_ble_eq_true rfl, Nat.le_of_ble_eq_true rfl⟩) ⟨fun a U g mk q => ⟨q.1, q.2.1, q.2.2.1, LY.moved (u := U) (U := U.calling g mk a) (Vm.Alike.refl U.vm) q.2.2.2⟩, va_recv hK hP (ci := 11) (q0 := (2 * (39 + 2 * i))) rfl (wo_at (ns_w (by omega)) aw_15), fun U hU hW => ⟨rfl, by rw [hU]; exact fun q h => hA q (Nat.le_trans hS.1 h), by rw [hU]; exact hP, LY.moved hW.alike hL⟩⟩ rfl rfl hl.1 rfl (lv_room (Nat.le_of_ble_eq_true rfl)) dX5_lengthOfNumber_29 ⟨(Nat.le_of_ble_eq_true rfl), (Nat.le_of_ble_eq_true rfl)⟩) hS (fun q _ h => h) (fun q h => h) (fun r_17 u8 t8 H1 locs ht8 hvm8 hw_18 hB hz1 hk1 hS => ?_)
    obtain ⟨⟩ := u8
    try dsimp only at hw_18 hB
    rw [ht8] at hB
    have hP := hB
    generalize H1 = H at hP hS ⊢
    obtain ⟨b_16, hb_16, rfl⟩ := hw_18
    refine lv_if_eq (tgt := 39) hx hb dX5_lengthOfNumber_32 (by decide) (fun c_19 => ?_) (fun c_19 => ?_)
    · have c_19 := (nI_eq (a := b_16) (b := 0) (by omega) (by decide)).mp c_19
      refine lv_iload_n hx hb dX5_lengthOfNumber_39 rfl (lv_at hl 0 rfl) ?_
      refine lv_iconst (v := nI 1) hx hb dX5_lengthOfNumber_40 (by decide +kernel) ?_
      refine lv_iadd hx hb dX5_lengthOfNumber_41 ?_
      refine lv_topi (fun x_20 e_21 => ?_)
      obtain rfl : x_20 = nI (z_8 + 1) := e_21.trans (nI_add z_8 1)
      refine lv_aload_n hx hb dX5_lengthOfNumber_42 rfl (lv_at hl 1 rfl) ?_
      refine lv_aload_n hx hb dX5_lengthOfNumber_43 rfl (lv_at hl 2 rfl) ?_
      refine m_get (D := (dC, dI)) (v := .ref (ad (2 * (39 + 2 * i)))) (C := RX2) (T := TX2) (N := 2) hx hb hts bk0 hown hK hP (2118 + 2 * i) (ns_q (by omega)) f_10 rfl 1 (by decide) (hts (.fieldLink RX5 111 "GradientDesk$Fraction" "bottom" "LGradientDesk$Whole;") (List.mem_of_getElem? (i := 7) rfl)) (fun _ h9 => h9) rfl dX5_lengthOfNumber_44 ?_
      refine va_calli (va_runV (As := [.ref (ad (2 * (39 + 2 * i)))]) (rest := [.int (nI (z_8 + 1))]) ⟨hx, hb, hml, hown, hts⟩ (c_W5_find l dC dI A ad cA g_7 M (39 + 2 * i) hAW_3 hS_2 (by omega)) (cwV 1 hts (goodIn_app (goodIn_r [Cond.methodLink RX5 103 yX5_findDigits, Cond.instanceMethod yX5_findDigits, Cond.selects RX5 yX5_findDigits yX5_findDigits, Cond.initialized RX5] [2, 3, 4, 5] rfl rfl) (goodIn_sub (fun w9 h9 => bk1 w9 h9) gw_W5_find)) rfl rfl rfl (by decide +kernel) ⟨Nat.le_of_ble_eq_true rfl, Nat.le_of_ble_eq_true rfl⟩) ⟨fun a U g mk q => ⟨q.1, q.2.1, q.2.2.1, LY.moved (u := U) (U := U.calling g mk a) (Vm.Alike.refl U.vm) q.2.2.2⟩, va_recv hK hP (ci := 8) (q0 := 2097) rfl (wo_at (by decide) s12), fun U hU hW => ⟨rfl, by rw [hU]; exact fun q h => hA q (Nat.le_trans hS.1 h), by rw [hU]; exact hP, LY.moved hW.alike hL⟩⟩ rfl rfl hl.1 rfl (lv_room (Nat.le_of_ble_eq_true rfl)) dX5_lengthOfNumber_47 ⟨(Nat.le_of_ble_eq_true rfl), (Nat.le_of_ble_eq_true rfl)⟩) hS (fun q _ h => h) (fun q h => h) (fun r_25 u8 t8 H1 locs ht8 hvm8 hw_26 hB hz1 hk1 hS => ?_)
      obtain ⟨g_27, z_28⟩ := u8
      try dsimp only at hw_26 hB
      rw [ht8] at hB
      have hP := hB
      generalize H1 = H at hP hS ⊢
      obtain ⟨fr_29, hS_22, hAW_23, hr_24, hz122, hz222⟩ := hw_26
      subst hr_24
      have hsc922 := hS_22
      obtain ⟨ln22, wc22, fl22, fw22, fd22, fz22, fq22, s122, s222, s322, s422, s522, s622, s722, s822, s922, sa22, sb22⟩ := hsc922
      unfold SCO at s122
      refine lv_iadd hx hb dX5_lengthOfNumber_50 ?_
      refine lv_topi (fun x_30 e_31 => ?_)
      obtain rfl : x_30 = nI (z_8 + 1 + z_28) := e_31.trans (nI_add (z_8 + 1) z_28)
      refine W.widen (k := 0) (n := 0) (by omega) (by omega) ?_
      exact W.iret (v := nI (z_8 + 1 + z_28)) hx hb hr (fun t9 ht9 hW9 => ⟨⟨nI (z_8 + 1 + z_28), g_27, rfl, ⟨(fun (k : Nat) (hk : k < 24 ∨ (26 ≤ k ∧ k ≠ 2102)) => (fr_29 k (by omega)).trans ((fr_9 k (by omega)).trans (rfl))), hS_22, hAW_23⟩, by show va_P (dC, dI) vwCl _ t9.heap; rw [ht9]; exact hP⟩, hS.F ht9⟩) hS.2.2 dX5_lengthOfNumber_51
    · have c_19 := mt (nI_eq (a := b_16) (b := 0) (by omega) (by decide)).mpr c_19
      refine lv_iload_n hx hb dX5_lengthOfNumber_35 rfl (lv_at hl 0 rfl) ?_
      refine lv_goto (tgt := 51) hx hb dX5_lengthOfNumber_36 (by decide) ?_
      refine W.widen (k := 0) (n := 0) (by omega) (by omega) ?_
      exact W.iret (v := nI z_8) hx hb hr (fun t9 ht9 hW9 => ⟨⟨nI z_8, g_7, rfl, ⟨(fun (k : Nat) (hk : k < 24 ∨ (26 ≤ k ∧ k ≠ 2102)) => (fr_9 k (by omega)).trans (rfl)), hS_2, hAW_3⟩, by show va_P (dC, dI) vwCl _ t9.heap; rw [ht9]; exact hP⟩, hS.F ht9⟩) hS.2.2 dX5_lengthOfNumber_51
  · have c_12 := mt (nI_eq (a := nw_11) (b := 0) (by omega) (by decide)).mpr c_12
    refine lv_iconst (v := nI 1) hx hb dX5_lengthOfNumber_18 (by decide +kernel) ?_
    refine lv_goto (tgt := 23) hx hb dX5_lengthOfNumber_19 (by decide) ?_
    refine lv_iadd hx hb dX5_lengthOfNumber_23 ?_
    refine lv_topi (fun x_32 e_33 => ?_)
    obtain rfl : x_32 = nI (z_8 + 1) := e_33.trans (nI_add z_8 1)
    refine lv_istore_n (lv' := [(2, .int (nI (z_8 + 1))), (0, .ref (ad 2097)), (1, .ref (ad (2118 + 2 * i)))]) hx hb dX5_lengthOfNumber_24 rfl hl (by decide) rfl (fun ls hl => ?_)
    refine lv_aload_n hx hb dX5_lengthOfNumber_25 rfl (lv_at hl 2 rfl) ?_
    refine m_get (D := (dC, dI)) (v := .ref (ad (2 * (39 + 2 * i)))) (C := RX2) (T := TX2) (N := 2) hx hb hts bk0 hown hK hP (2118 + 2 * i) (ns_q (by omega)) f_10 rfl 1 (by decide) (hts (.fieldLink RX5 111 "GradientDesk$Fraction" "bottom" "LGradientDesk$Whole;") (List.mem_of_getElem? (i := 7) rfl)) (fun _ h9 => h9) rfl dX5_lengthOfNumber_26 ?_
    obtain ⟨mw_34, sw_34, nw_34, fw_34, aw_34, bw_34, cw_34, dw_34, ew_34⟩ := hAW_3 (39 + 2 * i) (by omega)
    have qw_34 : mw_34 ≤ 4096 := by rw [dw_34]; exact rmc_le _
    refine va_calli (va_runV (As := []) (rest := []) ⟨hx, hb, hml, hown, hts⟩ (c_X8_isOne l dC dI A ad cA g_7 (39 + 2 * i) hAW_3 (by omega)) (cwV 0 hts (goodIn_app (goodIn_r [Cond.methodLink RX5 114 yX8_isOne, Cond.instanceMethod yX8_isOne, Cond.selects RX8 yX8_isOne yX8_isOne, Cond.initialized RX8] [8, 9, 10, 11] rfl rfl) (goodIn_sub (fun w9 h9 => bk3 w9 h9) gw_X8_isOne)) rfl rfl rfl (by decide +kernel) ⟨Nat.le_of_ble_eq_true rfl, Nat.le_of_ble_eq_true rfl⟩) ⟨fun a U g mk q => ⟨q.1, q.2.1, q.2.2.1, LY.moved (u := U) (U := U.calling g mk a) (Vm.Alike.refl U.vm) q.2.2.2⟩, va_recv hK hP (ci := 11) (q0 := (2 * (39 + 2 * i))) rfl (wo_at (ns_w (by omega)) aw_34), fun U hU hW => ⟨rfl, by rw [hU]; exact fun q h => hA q (Nat.le_trans hS.1 h), by rw [hU]; exact hP, LY.moved hW.alike hL⟩⟩ rfl rfl hl.1 rfl (lv_room (Nat.le_of_ble_eq_true rfl)) dX5_lengthOfNumber_29 ⟨(Nat.le_of_ble_eq_true rfl), (Nat.le_of_ble_eq_true rfl)⟩) hS (fun q _ h => h) (fun q h => h) (fun r_36 u8 t8 H1 locs ht8 hvm8 hw_37 hB hz1 hk1 hS => ?_)
    obtain ⟨⟩ := u8
    try dsimp only at hw_37 hB
    rw [ht8] at hB
    have hP := hB
    generalize H1 = H at hP hS ⊢
    obtain ⟨b_35, hb_35, rfl⟩ := hw_37
    refine lv_if_eq (tgt := 39) hx hb dX5_lengthOfNumber_32 (by decide) (fun c_38 => ?_) (fun c_38 => ?_)
    · have c_38 := (nI_eq (a := b_35) (b := 0) (by omega) (by decide)).mp c_38
      refine lv_iload_n hx hb dX5_lengthOfNumber_39 rfl (lv_at hl 0 rfl) ?_
      refine lv_iconst (v := nI 1) hx hb dX5_lengthOfNumber_40 (by decide +kernel) ?_
      refine lv_iadd hx hb dX5_lengthOfNumber_41 ?_
      refine lv_topi (fun x_39 e_40 => ?_)
      obtain rfl : x_39 = nI (z_8 + 1 + 1) := e_40.trans (nI_add (z_8 + 1) 1)
      refine lv_aload_n hx hb dX5_lengthOfNumber_42 rfl (lv_at hl 1 rfl) ?_
      refine lv_aload_n hx hb dX5_lengthOfNumber_43 rfl (lv_at hl 2 rfl) ?_
      refine m_get (D := (dC, dI)) (v := .ref (ad (2 * (39 + 2 * i)))) (C := RX2) (T := TX2) (N := 2) hx hb hts bk0 hown hK hP (2118 + 2 * i) (ns_q (by omega)) f_10 rfl 1 (by decide) (hts (.fieldLink RX5 111 "GradientDesk$Fraction" "bottom" "LGradientDesk$Whole;") (List.mem_of_getElem? (i := 7) rfl)) (fun _ h9 => h9) rfl dX5_lengthOfNumber_44 ?_
      refine va_calli (va_runV (As := [.ref (ad (2 * (39 + 2 * i)))]) (rest := [.int (nI (z_8 + 1 + 1))]) ⟨hx, hb, hml, hown, hts⟩ (c_W5_find l dC dI A ad cA g_7 M (39 + 2 * i) hAW_3 hS_2 (by omega)) (cwV 1 hts (goodIn_app (goodIn_r [Cond.methodLink RX5 103 yX5_findDigits, Cond.instanceMethod yX5_findDigits, Cond.selects RX5 yX5_findDigits yX5_findDigits, Cond.initialized RX5] [2, 3, 4, 5] rfl rfl) (goodIn_sub (fun w9 h9 => bk1 w9 h9) gw_W5_find)) rfl rfl rfl (by decide +kernel) ⟨Nat.le_of_ble_eq_true rfl, Nat.le_of_ble_eq_true rfl⟩) ⟨fun a U g mk q => ⟨q.1, q.2.1, q.2.2.1, LY.moved (u := U) (U := U.calling g mk a) (Vm.Alike.refl U.vm) q.2.2.2⟩, va_recv hK hP (ci := 8) (q0 := 2097) rfl (wo_at (by decide) s12), fun U hU hW => ⟨rfl, by rw [hU]; exact fun q h => hA q (Nat.le_trans hS.1 h), by rw [hU]; exact hP, LY.moved hW.alike hL⟩⟩ rfl rfl hl.1 rfl (lv_room (Nat.le_of_ble_eq_true rfl)) dX5_lengthOfNumber_47 ⟨(Nat.le_of_ble_eq_true rfl), (Nat.le_of_ble_eq_true rfl)⟩) hS (fun q _ h => h) (fun q h => h) (fun r_44 u8 t8 H1 locs ht8 hvm8 hw_45 hB hz1 hk1 hS => ?_)
      obtain ⟨g_46, z_47⟩ := u8
      try dsimp only at hw_45 hB
      rw [ht8] at hB
      have hP := hB
      generalize H1 = H at hP hS ⊢
      obtain ⟨fr_48, hS_41, hAW_42, hr_43, hz141, hz241⟩ := hw_45
      subst hr_43
      have hsc941 := hS_41
      obtain ⟨ln41, wc41, fl41, fw41, fd41, fz41, fq41, s141, s241, s341, s441, s541, s641, s741, s841, s941, sa41, sb41⟩ := hsc941
      unfold SCO at s141
      refine lv_iadd hx hb dX5_lengthOfNumber_50 ?_
      refine lv_topi (fun x_49 e_50 => ?_)
      obtain rfl : x_49 = nI (z_8 + 1 + 1 + z_47) := e_50.trans (nI_add (z_8 + 1 + 1) z_47)
      refine W.widen (k := 0) (n := 0) (by omega) (by omega) ?_
      exact W.iret (v := nI (z_8 + 1 + 1 + z_47)) hx hb hr (fun t9 ht9 hW9 => ⟨⟨nI (z_8 + 1 + 1 + z_47), g_46, rfl, ⟨(fun (k : Nat) (hk : k < 24 ∨ (26 ≤ k ∧ k ≠ 2102)) => (fr_48 k (by omega)).trans ((fr_9 k (by omega)).trans (rfl))), hS_41, hAW_42⟩, by show va_P (dC, dI) vwCl _ t9.heap; rw [ht9]; exact hP⟩, hS.F ht9⟩) hS.2.2 dX5_lengthOfNumber_51
    · have c_38 := mt (nI_eq (a := b_35) (b := 0) (by omega) (by decide)).mpr c_38
      refine lv_iload_n hx hb dX5_lengthOfNumber_35 rfl (lv_at hl 0 rfl) ?_
      refine lv_goto (tgt := 51) hx hb dX5_lengthOfNumber_36 (by decide) ?_
      refine W.widen (k := 0) (n := 0) (by omega) (by omega) ?_
      exact W.iret (v := nI (z_8 + 1)) hx hb hr (fun t9 ht9 hW9 => ⟨⟨nI (z_8 + 1), g_7, rfl, ⟨(fun (k : Nat) (hk : k < 24 ∨ (26 ≤ k ∧ k ≠ 2102)) => (fr_9 k (by omega)).trans (rfl)), hS_2, hAW_3⟩, by show va_P (dC, dI) vwCl _ t9.heap; rw [ht9]; exact hP⟩, hS.F ht9⟩) hS.2.2 dX5_lengthOfNumber_51
def wd_W5_len : List Cond := .code yX5_lengthOf cX5_lengthOf 2 (some .int) :: (([.fieldLink RX5 79 "GradientDesk$Part" "sort" "I", .fieldLink RX5 84 "GradientDesk$Part" "number" "LGradientDesk$Fraction;", .methodLink RX5 88 yX5_lengthOfNumber, .instanceMethod yX5_lengthOfNumber, .selects RX5 yX5_lengthOfNumber yX5_lengthOfNumber, .initialized RX5, .fieldLink RX5 15 "GradientDesk$Script" "lengths" "[I", .fieldLink RX5 92 "GradientDesk$Part" "first" "I", .fieldLink RX5 95 "GradientDesk$Part" "second" "I"] : List Cond) ++ (u_ws RX3 TX3 7 ++ (wd_W5_lenN ++ (u_ws RX5 TX5 9 ++ ([])))))
theorem gw_W5_len : wd_W5_len.all goodWord = true := k_allc rfl (k_all (by decide +kernel) (k_all (gu_X3) (k_all (gw_W5_lenN) (k_all (gu_X5) (rfl)))))
set_option maxHeartbeats 4000000 in
set_option maxRecDepth 100000 in
theorem c_W5_len (l : Launch) (dC : Nat → ClassId) (dI : Nat → Nat → Nat) (A : Nat → Prop) (ad : Nat → Nat) (cA : Nat → ClassId) (g : Nat → va_E) (L : List PD) (M : Nat) (i : Nat) (hC : CS ad cA g L) (hWf : WFL L) (hSc : SCM ad cA g M) (hi : i < L.length) : Met l yX5_lengthOf wd_W5_len ({ frames := 60, cells := 0, slots := 0, locals := 1200 }) (va_Pc [.ref (ad 2097), .ref (ad (2117 + 2 * i))] (PR NSc tyc dC dI A ad cA g)) (va_Qi (fun (r : Int32) => fun (u : Nat → va_E) => match u with | g2 => (∀ k, k < 24 ∨ (26 ≤ k ∧ k ≠ 2102) → g2 k = g k) ∧ SCM ad cA g2 M ∧ AW ad cA g2) (fun (u : Nat → va_E) (t : State) => va_P (dC, dI) vwCl (wo ad NSc u) t.heap) A) (0) (0) A := by
  refine Met.ofW (cc := cX5_lengthOf) (maxL := 2) (ret := (some .int)) (by decide) rfl ?_
  intro p e s m args below meth c s₁ B hml hv
  obtain ⟨rfl, hA, hP, hL⟩ := hv
  have hx := B.exec
  have hb := B.bytes
  have hr := B.returns
  have hts := atoms_spec (ws := wd_W5_len) B.pre
  have hown : s.vm.findClass RX5 = some m.cls := findClass_of_methodNamed B.named
  have hlocks := B.notSynchronized
  have hK := hL.1
  have hD : ∀ g, va_D A (wo ad NSc g) := fun g => wo_D hL.2.1 hL.2.2 g
  have hS : va_S A s.heap s.heap [] := va_S.rf
  have bk0 : ∀ w ∈ u_ws RX3 TX3 7, w ∈ wd_W5_len := fun _ h => List.mem_cons_of_mem _ (List.mem_append_right _ (List.mem_append_left _ h))
  have bk1 : ∀ w ∈ wd_W5_lenN, w ∈ wd_W5_len := fun _ h => List.mem_cons_of_mem _ (List.mem_append_right _ (List.mem_append_right _ (List.mem_append_left _ h)))
  have bk2 : ∀ w ∈ u_ws RX5 TX5 9, w ∈ wd_W5_len := fun _ h => List.mem_cons_of_mem _ (List.mem_append_right _ (List.mem_append_right _ (List.mem_append_right _ (List.mem_append_left _ h))))
  have hl := lv_entry ([.ref (ad 2097), .ref (ad (2117 + 2 * i))]) (n := 2) (Nat.le_of_ble_eq_true rfl)
  rw [lg_entry_eq]
  generalize (lg_sl ([.ref (ad 2097), .ref (ad (2117 + 2 * i))]) ++ List.replicate (2 - (lg_sl ([.ref (ad 2097), .ref (ad (2117 + 2 * i))])).length) Slot.unset).toArray = ls at hl ⊢
  have hl : lv_has ls 2 [(0, .ref (ad 2097)), (1, .ref (ad (2117 + 2 * i)))] := hl
  have hC0 := hC
  obtain ⟨hLn, hW, ⟨hAr, hWk, hPa, hFr⟩, hO, pt, hPt, hM⟩ := hC0
  unfold CSO at hO
  have hpb := hPt.2
  obtain ⟨a0i, a1i, a2i, a3i, a4i, a5i, a6i⟩ := hM i hi
  obtain ⟨w1i, w2i, w3i, w4i, w5i, -⟩ := hWf i hi
  have hpi : g (2117 + 2 * i) = .inr (6, [.ref (ad (2118 + 2 * i)), .int (nI ((gd L i).1)), .int (iI ((gd L i).2.1)), .int (iI ((gd L i).2.2.1)), .int (nI ((gd L i).2.2.2.1)), .int (nI ((gd L i).2.2.2.2.1)), .int (nI ((gd L i).2.2.2.2.2.1))]) := by rw [hPt.1 i (by clear a6i; omega), a0i, a1i, a2i, a3i, a4i, a5i, nI_iI, nI_iI, nI_iI, nI_iI]
  obtain ⟨fni, hfni⟩ : ∃ z : Prop, z = ((gd L i).1 = 0 → CMN ad cA g (gd L i) i) := ⟨_, rfl⟩
  rw [← hfni] at a6i
  have hq_1 := hFr i (by omega)
  have hsc9 := hSc
  obtain ⟨ln, wc, fl, fw, fd, fz, fq, s1, s2, s3, s4, s5, s6, s7, s8, s9, sa, sb⟩ := hsc9
  unfold SCO at s1
  refine lv_aload_n hx hb dX5_lengthOf_0 rfl (lv_at hl 1 rfl) ?_
  refine m_get (D := (dC, dI)) (v := .int (nI ((gd L i).1))) (C := RX3) (T := TX3) (N := 7) hx hb hts bk0 hown hK hP (2117 + 2 * i) (ns_p (by omega)) hpi rfl 1 (by decide) (hts (.fieldLink RX5 79 "GradientDesk$Part" "sort" "I") (List.mem_of_getElem? (i := 1) rfl)) (fun _ h9 => h9) rfl dX5_lengthOf_1 ?_
  rcases (show ((gd L i).1) = 0 ∨ ((gd L i).1) = 1 ∨ ((gd L i).1) = 2 ∨ ((gd L i).1) = 3 ∨ ((gd L i).1) = 4 ∨ 4 < ((gd L i).1) by omega) with hsw | hsw | hsw | hsw | hsw | hsw
  · refine lv_tableIn (x := nI ((gd L i).1)) (off := 36) (tgt := 40) hx hb dX5_lengthOf_4 (by rw [hsw]; decide) (by rw [hsw]; decide) (by rw [hsw]; decide) (by decide) ?_
    refine lv_aload_n hx hb dX5_lengthOf_40 rfl (lv_at hl 0 rfl) ?_
    refine lv_aload_n hx hb dX5_lengthOf_41 rfl (lv_at hl 1 rfl) ?_
    refine m_get (D := (dC, dI)) (v := .ref (ad (2118 + 2 * i))) (C := RX3) (T := TX3) (N := 7) hx hb hts bk0 hown hK hP (2117 + 2 * i) (ns_p (by omega)) hpi rfl 0 (by decide) (hts (.fieldLink RX5 84 "GradientDesk$Part" "number" "LGradientDesk$Fraction;") (List.mem_of_getElem? (i := 2) rfl)) (fun _ h9 => h9) rfl dX5_lengthOf_42 ?_
    refine va_calli (va_runV (As := [.ref (ad (2118 + 2 * i))]) (rest := []) ⟨hx, hb, hml, hown, hts⟩ (c_W5_lenN l dC dI A ad cA g L M i hC hWf hSc (by omega)) (cwV 1 hts (goodIn_app (goodIn_r [Cond.methodLink RX5 88 yX5_lengthOfNumber, Cond.instanceMethod yX5_lengthOfNumber, Cond.selects RX5 yX5_lengthOfNumber yX5_lengthOfNumber, Cond.initialized RX5] [3, 4, 5, 6] rfl rfl) (goodIn_sub (fun w9 h9 => bk1 w9 h9) gw_W5_lenN)) rfl rfl rfl (by decide +kernel) ⟨Nat.le_of_ble_eq_true rfl, Nat.le_of_ble_eq_true rfl⟩) ⟨fun a U g mk q => ⟨q.1, q.2.1, q.2.2.1, LY.moved (u := U) (U := U.calling g mk a) (Vm.Alike.refl U.vm) q.2.2.2⟩, va_recv hK hP (ci := 8) (q0 := 2097) rfl (wo_at (by decide) s1), fun U hU hW => ⟨rfl, by rw [hU]; exact fun q h => hA q (Nat.le_trans hS.1 h), by rw [hU]; exact hP, LY.moved hW.alike hL⟩⟩ rfl rfl hl.1 rfl (lv_room (Nat.le_of_ble_eq_true rfl)) dX5_lengthOf_45 ⟨(Nat.le_of_ble_eq_true rfl), (Nat.le_of_ble_eq_true rfl)⟩) hS (fun q _ h => h) (fun q h => h) (fun r_4 u8 t8 H1 locs ht8 hvm8 hw_5 hB hz1 hk1 hS => ?_)
    obtain ⟨g_6, rfl⟩ : ∃ z, z = u8 := ⟨_, rfl⟩
    try dsimp only at hw_5 hB
    rw [ht8] at hB
    have hP := hB
    generalize H1 = H at hP hS ⊢
    obtain ⟨fr_7, hS_2, hAW_3⟩ := hw_5
    have hsc92 := hS_2
    obtain ⟨ln2, wc2, fl2, fw2, fd2, fz2, fq2, s12, s22, s32, s42, s52, s62, s72, s82, s92, sa2, sb2⟩ := hsc92
    unfold SCO at s12
    refine W.widen (k := 0) (n := 0) (by omega) (by omega) ?_
    exact W.iret (v := r_4) hx hb hr (fun t9 ht9 hW9 => ⟨⟨r_4, g_6, rfl, ⟨(fun (k : Nat) (hk : k < 24 ∨ (26 ≤ k ∧ k ≠ 2102)) => (fr_7 k (by omega)).trans (rfl)), hS_2, hAW_3⟩, by show va_P (dC, dI) vwCl _ t9.heap; rw [ht9]; exact hP⟩, hS.F ht9⟩) hS.2.2 dX5_lengthOf_48
  · refine lv_tableIn (x := nI ((gd L i).1)) (off := 45) (tgt := 49) hx hb dX5_lengthOf_4 (by rw [hsw]; decide) (by rw [hsw]; decide) (by rw [hsw]; decide) (by decide) ?_
    refine lv_iconst (v := nI 1) hx hb dX5_lengthOf_49 (by decide +kernel) ?_
    refine W.widen (k := 0) (n := 0) (by omega) (by omega) ?_
    exact W.iret (v := nI 1) hx hb hr (fun t9 ht9 hW9 => ⟨⟨nI 1, g, rfl, ⟨(fun (k : Nat) (hk : k < 24 ∨ (26 ≤ k ∧ k ≠ 2102)) => rfl), hSc, hW⟩, by show va_P (dC, dI) vwCl _ t9.heap; rw [ht9]; exact hP⟩, hS.F ht9⟩) hS.2.2 dX5_lengthOf_50
  · refine lv_tableIn (x := nI ((gd L i).1)) (off := 59) (tgt := 63) hx hb dX5_lengthOf_4 (by rw [hsw]; decide) (by rw [hsw]; decide) (by rw [hsw]; decide) (by decide) ?_
    refine lv_aload_n hx hb dX5_lengthOf_63 rfl (lv_at hl 0 rfl) ?_
    refine m_get (D := (dC, dI)) (v := .ref (ad 2099)) (C := RX5) (T := TX5) (N := 9) hx hb hts bk2 hown hK hP 2097 (by decide) s1 rfl 3 (by decide) (hts (.fieldLink RX5 15 "GradientDesk$Script" "lengths" "[I") (List.mem_of_getElem? (i := 7) rfl)) (fun _ h9 => h9) rfl dX5_lengthOf_64 ?_
    refine lv_aload_n hx hb dX5_lengthOf_67 rfl (lv_at hl 1 rfl) ?_
    refine m_get (D := (dC, dI)) (v := .int (iI ((gd L i).2.1))) (C := RX3) (T := TX3) (N := 7) hx hb hts bk0 hown hK hP (2117 + 2 * i) (ns_p (by omega)) hpi rfl 2 (by decide) (hts (.fieldLink RX5 92 "GradientDesk$Part" "first" "I") (List.mem_of_getElem? (i := 8) rfl)) (fun _ h9 => h9) rfl dX5_lengthOf_68 ?_
    obtain ⟨oa, hoa, eoa⟩ := hWf.op1 hi (by omega)
    refine lv_topi (fun x_8 e_9 => ?_)
    obtain rfl : x_8 = nI oa := e_9.trans (by rw [eoa]; exact (nI_iI _).symm)
    refine m_iald hx hb hK hP 2099 (by decide) rfl s6 (i := oa) (by omega) (by decide) dX5_lengthOf_71 ?_
    refine lv_topi (fun x_10 e_11 => ?_)
    refine lv_aload_n hx hb dX5_lengthOf_72 rfl (lv_at hl 0 rfl) ?_
    refine m_get (D := (dC, dI)) (v := .ref (ad 2099)) (C := RX5) (T := TX5) (N := 9) hx hb hts bk2 hown hK hP 2097 (by decide) s1 rfl 3 (by decide) (hts (.fieldLink RX5 15 "GradientDesk$Script" "lengths" "[I") (List.mem_of_getElem? (i := 7) rfl)) (fun _ h9 => h9) rfl dX5_lengthOf_73 ?_
    refine lv_aload_n hx hb dX5_lengthOf_76 rfl (lv_at hl 1 rfl) ?_
    refine m_get (D := (dC, dI)) (v := .int (iI ((gd L i).2.2.1))) (C := RX3) (T := TX3) (N := 7) hx hb hts bk0 hown hK hP (2117 + 2 * i) (ns_p (by omega)) hpi rfl 3 (by decide) (hts (.fieldLink RX5 95 "GradientDesk$Part" "second" "I") (List.mem_of_getElem? (i := 9) rfl)) (fun _ h9 => h9) rfl dX5_lengthOf_77 ?_
    obtain ⟨ob, hob, eob⟩ := hWf.op2 hi (by omega)
    refine lv_topi (fun x_12 e_13 => ?_)
    obtain rfl : x_12 = nI ob := e_13.trans (by rw [eob]; exact (nI_iI _).symm)
    refine m_iald hx hb hK hP 2099 (by decide) rfl s6 (i := ob) (by omega) (by decide) dX5_lengthOf_80 ?_
    refine lv_topi (fun x_14 e_15 => ?_)
    refine lv_iadd hx hb dX5_lengthOf_81 ?_
    refine lv_topi (fun x_16 e_17 => ?_)
    refine lv_iconst (v := nI 3) hx hb dX5_lengthOf_82 (by decide +kernel) ?_
    refine lv_iadd hx hb dX5_lengthOf_83 ?_
    refine lv_topi (fun x_18 e_19 => ?_)
    refine W.widen (k := 0) (n := 0) (by omega) (by omega) ?_
    exact W.iret (v := x_18) hx hb hr (fun t9 ht9 hW9 => ⟨⟨x_18, g, rfl, ⟨(fun (k : Nat) (hk : k < 24 ∨ (26 ≤ k ∧ k ≠ 2102)) => rfl), hSc, hW⟩, by show va_P (dC, dI) vwCl _ t9.heap; rw [ht9]; exact hP⟩, hS.F ht9⟩) hS.2.2 dX5_lengthOf_84
  · refine lv_tableIn (x := nI ((gd L i).1)) (off := 59) (tgt := 63) hx hb dX5_lengthOf_4 (by rw [hsw]; decide) (by rw [hsw]; decide) (by rw [hsw]; decide) (by decide) ?_
    refine lv_aload_n hx hb dX5_lengthOf_63 rfl (lv_at hl 0 rfl) ?_
    refine m_get (D := (dC, dI)) (v := .ref (ad 2099)) (C := RX5) (T := TX5) (N := 9) hx hb hts bk2 hown hK hP 2097 (by decide) s1 rfl 3 (by decide) (hts (.fieldLink RX5 15 "GradientDesk$Script" "lengths" "[I") (List.mem_of_getElem? (i := 7) rfl)) (fun _ h9 => h9) rfl dX5_lengthOf_64 ?_
    refine lv_aload_n hx hb dX5_lengthOf_67 rfl (lv_at hl 1 rfl) ?_
    refine m_get (D := (dC, dI)) (v := .int (iI ((gd L i).2.1))) (C := RX3) (T := TX3) (N := 7) hx hb hts bk0 hown hK hP (2117 + 2 * i) (ns_p (by omega)) hpi rfl 2 (by decide) (hts (.fieldLink RX5 92 "GradientDesk$Part" "first" "I") (List.mem_of_getElem? (i := 8) rfl)) (fun _ h9 => h9) rfl dX5_lengthOf_68 ?_
    obtain ⟨oa, hoa, eoa⟩ := hWf.op1 hi (by omega)
    refine lv_topi (fun x_20 e_21 => ?_)
    obtain rfl : x_20 = nI oa := e_21.trans (by rw [eoa]; exact (nI_iI _).symm)
    refine m_iald hx hb hK hP 2099 (by decide) rfl s6 (i := oa) (by omega) (by decide) dX5_lengthOf_71 ?_
    refine lv_topi (fun x_22 e_23 => ?_)
    refine lv_aload_n hx hb dX5_lengthOf_72 rfl (lv_at hl 0 rfl) ?_
    refine m_get (D := (dC, dI)) (v := .ref (ad 2099)) (C := RX5) (T := TX5) (N := 9) hx hb hts bk2 hown hK hP 2097 (by decide) s1 rfl 3 (by decide) (hts (.fieldLink RX5 15 "GradientDesk$Script" "lengths" "[I") (List.mem_of_getElem? (i := 7) rfl)) (fun _ h9 => h9) rfl dX5_lengthOf_73 ?_
    refine lv_aload_n hx hb dX5_lengthOf_76 rfl (lv_at hl 1 rfl) ?_
    refine m_get (D := (dC, dI)) (v := .int (iI ((gd L i).2.2.1))) (C := RX3) (T := TX3) (N := 7) hx hb hts bk0 hown hK hP (2117 + 2 * i) (ns_p (by omega)) hpi rfl 3 (by decide) (hts (.fieldLink RX5 95 "GradientDesk$Part" "second" "I") (List.mem_of_getElem? (i := 9) rfl)) (fun _ h9 => h9) rfl dX5_lengthOf_77 ?_
    obtain ⟨ob, hob, eob⟩ := hWf.op2 hi (by omega)
    refine lv_topi (fun x_24 e_25 => ?_)
    obtain rfl : x_24 = nI ob := e_25.trans (by rw [eob]; exact (nI_iI _).symm)
    refine m_iald hx hb hK hP 2099 (by decide) rfl s6 (i := ob) (by omega) (by decide) dX5_lengthOf_80 ?_
    refine lv_topi (fun x_26 e_27 => ?_)
    refine lv_iadd hx hb dX5_lengthOf_81 ?_
    refine lv_topi (fun x_28 e_29 => ?_)
    refine lv_iconst (v := nI 3) hx hb dX5_lengthOf_82 (by decide +kernel) ?_
    refine lv_iadd hx hb dX5_lengthOf_83 ?_
    refine lv_topi (fun x_30 e_31 => ?_)
    refine W.widen (k := 0) (n := 0) (by omega) (by omega) ?_
    exact W.iret (v := x_30) hx hb hr (fun t9 ht9 hW9 => ⟨⟨x_30, g, rfl, ⟨(fun (k : Nat) (hk : k < 24 ∨ (26 ≤ k ∧ k ≠ 2102)) => rfl), hSc, hW⟩, by show va_P (dC, dI) vwCl _ t9.heap; rw [ht9]; exact hP⟩, hS.F ht9⟩) hS.2.2 dX5_lengthOf_84
  · refine lv_tableIn (x := nI ((gd L i).1)) (off := 47) (tgt := 51) hx hb dX5_lengthOf_4 (by rw [hsw]; decide) (by rw [hsw]; decide) (by rw [hsw]; decide) (by decide) ?_
    refine lv_aload_n hx hb dX5_lengthOf_51 rfl (lv_at hl 0 rfl) ?_
    refine m_get (D := (dC, dI)) (v := .ref (ad 2099)) (C := RX5) (T := TX5) (N := 9) hx hb hts bk2 hown hK hP 2097 (by decide) s1 rfl 3 (by decide) (hts (.fieldLink RX5 15 "GradientDesk$Script" "lengths" "[I") (List.mem_of_getElem? (i := 7) rfl)) (fun _ h9 => h9) rfl dX5_lengthOf_52 ?_
    refine lv_aload_n hx hb dX5_lengthOf_55 rfl (lv_at hl 1 rfl) ?_
    refine m_get (D := (dC, dI)) (v := .int (iI ((gd L i).2.1))) (C := RX3) (T := TX3) (N := 7) hx hb hts bk0 hown hK hP (2117 + 2 * i) (ns_p (by omega)) hpi rfl 2 (by decide) (hts (.fieldLink RX5 92 "GradientDesk$Part" "first" "I") (List.mem_of_getElem? (i := 8) rfl)) (fun _ h9 => h9) rfl dX5_lengthOf_56 ?_
    obtain ⟨oa, hoa, eoa⟩ := hWf.op1 hi (by omega)
    refine lv_topi (fun x_32 e_33 => ?_)
    obtain rfl : x_32 = nI oa := e_33.trans (by rw [eoa]; exact (nI_iI _).symm)
    refine m_iald hx hb hK hP 2099 (by decide) rfl s6 (i := oa) (by omega) (by decide) dX5_lengthOf_59 ?_
    refine lv_topi (fun x_34 e_35 => ?_)
    refine lv_iconst (v := nI 2) hx hb dX5_lengthOf_60 (by decide +kernel) ?_
    refine lv_iadd hx hb dX5_lengthOf_61 ?_
    refine lv_topi (fun x_36 e_37 => ?_)
    refine W.widen (k := 0) (n := 0) (by omega) (by omega) ?_
    exact W.iret (v := x_36) hx hb hr (fun t9 ht9 hW9 => ⟨⟨x_36, g, rfl, ⟨(fun (k : Nat) (hk : k < 24 ∨ (26 ≤ k ∧ k ≠ 2102)) => rfl), hSc, hW⟩, by show va_P (dC, dI) vwCl _ t9.heap; rw [ht9]; exact hP⟩, hS.F ht9⟩) hS.2.2 dX5_lengthOf_62
  · refine lv_tableOut (x := nI ((gd L i).1)) (tgt := 63) hx hb dX5_lengthOf_4 (Or.inr (by rw [nI_toInt (by omega)]; omega)) (by decide) ?_
    refine lv_aload_n hx hb dX5_lengthOf_63 rfl (lv_at hl 0 rfl) ?_
    refine m_get (D := (dC, dI)) (v := .ref (ad 2099)) (C := RX5) (T := TX5) (N := 9) hx hb hts bk2 hown hK hP 2097 (by decide) s1 rfl 3 (by decide) (hts (.fieldLink RX5 15 "GradientDesk$Script" "lengths" "[I") (List.mem_of_getElem? (i := 7) rfl)) (fun _ h9 => h9) rfl dX5_lengthOf_64 ?_
    refine lv_aload_n hx hb dX5_lengthOf_67 rfl (lv_at hl 1 rfl) ?_
    refine m_get (D := (dC, dI)) (v := .int (iI ((gd L i).2.1))) (C := RX3) (T := TX3) (N := 7) hx hb hts bk0 hown hK hP (2117 + 2 * i) (ns_p (by omega)) hpi rfl 2 (by decide) (hts (.fieldLink RX5 92 "GradientDesk$Part" "first" "I") (List.mem_of_getElem? (i := 8) rfl)) (fun _ h9 => h9) rfl dX5_lengthOf_68 ?_
    obtain ⟨oa, hoa, eoa⟩ := hWf.op1 hi (by omega)
    refine lv_topi (fun x_38 e_39 => ?_)
    obtain rfl : x_38 = nI oa := e_39.trans (by rw [eoa]; exact (nI_iI _).symm)
    refine m_iald hx hb hK hP 2099 (by decide) rfl s6 (i := oa) (by omega) (by decide) dX5_lengthOf_71 ?_
    refine lv_topi (fun x_40 e_41 => ?_)
    refine lv_aload_n hx hb dX5_lengthOf_72 rfl (lv_at hl 0 rfl) ?_
    refine m_get (D := (dC, dI)) (v := .ref (ad 2099)) (C := RX5) (T := TX5) (N := 9) hx hb hts bk2 hown hK hP 2097 (by decide) s1 rfl 3 (by decide) (hts (.fieldLink RX5 15 "GradientDesk$Script" "lengths" "[I") (List.mem_of_getElem? (i := 7) rfl)) (fun _ h9 => h9) rfl dX5_lengthOf_73 ?_
    refine lv_aload_n hx hb dX5_lengthOf_76 rfl (lv_at hl 1 rfl) ?_
    refine m_get (D := (dC, dI)) (v := .int (iI ((gd L i).2.2.1))) (C := RX3) (T := TX3) (N := 7) hx hb hts bk0 hown hK hP (2117 + 2 * i) (ns_p (by omega)) hpi rfl 3 (by decide) (hts (.fieldLink RX5 95 "GradientDesk$Part" "second" "I") (List.mem_of_getElem? (i := 9) rfl)) (fun _ h9 => h9) rfl dX5_lengthOf_77 ?_
    obtain ⟨ob, hob, eob⟩ := hWf.op2 hi (by omega)
    refine lv_topi (fun x_42 e_43 => ?_)
    obtain rfl : x_42 = nI ob := e_43.trans (by rw [eob]; exact (nI_iI _).symm)
    refine m_iald hx hb hK hP 2099 (by decide) rfl s6 (i := ob) (by omega) (by decide) dX5_lengthOf_80 ?_
    refine lv_topi (fun x_44 e_45 => ?_)
    refine lv_iadd hx hb dX5_lengthOf_81 ?_
    refine lv_topi (fun x_46 e_47 => ?_)
    refine lv_iconst (v := nI 3) hx hb dX5_lengthOf_82 (by decide +kernel) ?_
    refine lv_iadd hx hb dX5_lengthOf_83 ?_
    refine lv_topi (fun x_48 e_49 => ?_)
    refine W.widen (k := 0) (n := 0) (by omega) (by omega) ?_
    exact W.iret (v := x_48) hx hb hr (fun t9 ht9 hW9 => ⟨⟨x_48, g, rfl, ⟨(fun (k : Nat) (hk : k < 24 ∨ (26 ≤ k ∧ k ≠ 2102)) => rfl), hSc, hW⟩, by show va_P (dC, dI) vwCl _ t9.heap; rw [ht9]; exact hP⟩, hS.F ht9⟩) hS.2.2 dX5_lengthOf_84
def wd_W5_put : List Cond := .code yX5_put cX5_put 3 (some .int) :: (([.fieldLink RX5 37 "GradientDesk$Script" "shelf" "LGradientDesk$Shelf;", .methodLink RX5 41 yX6_mark, .instanceMethod yX6_mark, .selects RX6 yX6_mark yX6_mark, .initialized RX6, .fieldLink RX5 15 "GradientDesk$Script" "lengths" "[I", .fieldLink RX5 65 "GradientDesk$Script" "length" "I", .fieldLink RX5 69 "GradientDesk$Script" "waitingCount" "I", .methodLink RX5 72 yX5_await, .instanceMethod yX5_await, .selects RX5 yX5_await yX5_await, .initialized RX5, .fieldLink RX5 19 "GradientDesk$Script" "waiting" "[I", .fieldLink RX5 22 "GradientDesk$Script" "places" "[I", .methodLink RX5 76 yX5_putPiece, .instanceMethod yX5_putPiece, .selects RX5 yX5_putPiece yX5_putPiece, .fieldLink RX5 47 "GradientDesk$Shelf" "marked" "[Z", .fieldLink RX5 51 "GradientDesk$Shelf" "parts" "[LGradientDesk$Part;", .methodLink RX5 55 yX5_lengthOf, .instanceMethod yX5_lengthOf, .selects RX5 yX5_lengthOf yX5_lengthOf, .methodLink RX5 59 Lib.Math.min.name, .static Lib.Math.min.name, .initialized "java/lang/Math", .code Lib.Math.min.name Lib.Math.min.code 2 (some .int)] : List Cond) ++ (u_ws RX5 TX5 9 ++ (wd_V6_mark ++ (wd_W5_await ++ (wd_W5_piece ++ (u_ws RX6 TX6 7 ++ (wd_W5_len ++ ([]))))))))
theorem gw_W5_put : wd_W5_put.all goodWord = true := k_allc rfl (k_all (by decide +kernel) (k_all (gu_X5) (k_all (gw_V6_mark) (k_all (gw_W5_await) (k_all (gw_W5_piece) (k_all (gu_X6) (k_all (gw_W5_len) (rfl))))))))
set_option maxHeartbeats 4000000 in
set_option maxRecDepth 100000 in
theorem c_W5_put (l : Launch) (dC : Nat → ClassId) (dI : Nat → Nat → Nat) (A : Nat → Prop) (ad : Nat → Nat) (cA : Nat → ClassId) (g : Nat → va_E) (L : List PD) (root : Nat) (hC : CS ad cA g L) (hWf : WFL L) (hMk : MRK cA g) (hSe : SCE ad cA g) (hrt : root < L.length) : Met l yX5_put wd_W5_put ({ frames := 90, cells := 0, slots := 0, locals := 1800 }) (va_Pc [.ref (ad 2097), .int (nI root)] (PR NSc tyc dC dI A ad cA g)) (va_Qi (fun (r : Int32) => fun (u : Nat → va_E) => match u with | g2 => (∀ k, k < 24 ∨ (26 ≤ k ∧ k < 2082) ∨ (2083 ≤ k ∧ k < 2097) ∨ 2103 ≤ k → g2 k = g k) ∧ AW ad cA g2 ∧ MRK cA g2 ∧ SCE ad cA g2) (fun (u : Nat → va_E) (t : State) => va_P (dC, dI) vwCl (wo ad NSc u) t.heap) A) (0) (0) A := by
  refine Met.ofW (cc := cX5_put) (maxL := 3) (ret := (some .int)) (by decide) rfl ?_
  intro p e s m args below meth c s₁ B hml hv
  obtain ⟨rfl, hA, hP, hL⟩ := hv
  have hx := B.exec
  have hb := B.bytes
  have hr := B.returns
  have hts := atoms_spec (ws := wd_W5_put) B.pre
  have hown : s.vm.findClass RX5 = some m.cls := findClass_of_methodNamed B.named
  have hlocks := B.notSynchronized
  have hK := hL.1
  have hD : ∀ g, va_D A (wo ad NSc g) := fun g => wo_D hL.2.1 hL.2.2 g
  have hS : va_S A s.heap s.heap [] := va_S.rf
  have bk0 : ∀ w ∈ u_ws RX5 TX5 9, w ∈ wd_W5_put := fun _ h => List.mem_cons_of_mem _ (List.mem_append_right _ (List.mem_append_left _ h))
  have bk1 : ∀ w ∈ wd_V6_mark, w ∈ wd_W5_put := fun _ h => List.mem_cons_of_mem _ (List.mem_append_right _ (List.mem_append_right _ (List.mem_append_left _ h)))
  have bk2 : ∀ w ∈ wd_W5_await, w ∈ wd_W5_put := fun _ h => List.mem_cons_of_mem _ (List.mem_append_right _ (List.mem_append_right _ (List.mem_append_right _ (List.mem_append_left _ h))))
  have bk3 : ∀ w ∈ wd_W5_piece, w ∈ wd_W5_put := fun _ h => List.mem_cons_of_mem _ (List.mem_append_right _ (List.mem_append_right _ (List.mem_append_right _ (List.mem_append_right _ (List.mem_append_left _ h)))))
  have bk4 : ∀ w ∈ u_ws RX6 TX6 7, w ∈ wd_W5_put := fun _ h => List.mem_cons_of_mem _ (List.mem_append_right _ (List.mem_append_right _ (List.mem_append_right _ (List.mem_append_right _ (List.mem_append_right _ (List.mem_append_left _ h))))))
  have bk5 : ∀ w ∈ wd_W5_len, w ∈ wd_W5_put := fun _ h => List.mem_cons_of_mem _ (List.mem_append_right _ (List.mem_append_right _ (List.mem_append_right _ (List.mem_append_right _ (List.mem_append_right _ (List.mem_append_right _ (List.mem_append_left _ h)))))))
  have hl := lv_entry ([.ref (ad 2097), .int (nI root)]) (n := 3) (Nat.le_of_ble_eq_true rfl)
  rw [lg_entry_eq]
  generalize (lg_sl ([.ref (ad 2097), .int (nI root)]) ++ List.replicate (3 - (lg_sl ([.ref (ad 2097), .int (nI root)])).length) Slot.unset).toArray = ls at hl ⊢
  have hl : lv_has ls 3 [(0, .ref (ad 2097)), (1, .int (nI root))] := hl
  have hC0 := hC
  obtain ⟨hLn, hW, ⟨hAr, hWk, hPa, hFr⟩, hO, pt, hPt, hM⟩ := hC0
  unfold CSO at hO
  have hpb := hPt.2
  obtain ⟨mk0, h82, hmb⟩ := hMk
  obtain ⟨M0, hSc⟩ := hSe
  have hsc9 := hSc
  obtain ⟨ln, wc, fl, fw, fd, fz, fq, s1, s2, s3, s4, s5, s6, s7, s8, s9, sa, sb⟩ := hsc9
  unfold SCO at s1
  refine lv_aload_n hx hb dX5_put_0 rfl (lv_at hl 0 rfl) ?_
  refine m_get (D := (dC, dI)) (v := .ref (ad 2080)) (C := RX5) (T := TX5) (N := 9) hx hb hts bk0 hown hK hP 2097 (by decide) s1 rfl 2 (by decide) (hts (.fieldLink RX5 37 "GradientDesk$Script" "shelf" "LGradientDesk$Shelf;") (List.mem_of_getElem? (i := 1) rfl)) (fun _ h9 => h9) rfl dX5_put_1 ?_
  refine lv_iload_n hx hb dX5_put_4 rfl (lv_at hl 1 rfl) ?_
  refine va_calli (va_runV (As := [.int (nI root)]) (rest := []) ⟨hx, hb, hml, hown, hts⟩ (c_V6_mark l dC dI A ad cA g L root mk0 hC hWf hrt h82 hmb) (cwV 1 hts (goodIn_app (goodIn_r [Cond.methodLink RX5 41 yX6_mark, Cond.instanceMethod yX6_mark, Cond.selects RX6 yX6_mark yX6_mark, Cond.initialized RX6] [2, 3, 4, 5] rfl rfl) (goodIn_sub (fun w9 h9 => bk1 w9 h9) gw_V6_mark)) rfl rfl rfl (by decide +kernel) ⟨Nat.le_of_ble_eq_true rfl, Nat.le_of_ble_eq_true rfl⟩) ⟨fun a U g mk q => ⟨q.1, q.2.1, q.2.2.1, LY.moved (u := U) (U := U.calling g mk a) (Vm.Alike.refl U.vm) q.2.2.2⟩, va_recv hK hP (ci := 9) (q0 := 2080) rfl (wo_at (by decide) hO), fun U hU hW => ⟨rfl, by rw [hU]; exact fun q h => hA q (Nat.le_trans hS.1 h), by rw [hU]; exact hP, LY.moved hW.alike hL⟩⟩ rfl rfl hl.1 rfl (lv_room (Nat.le_of_ble_eq_true rfl)) dX5_put_5 ⟨(Nat.le_of_ble_eq_true rfl), (Nat.le_of_ble_eq_true rfl)⟩) hS (fun q _ h => h) (fun q h => h) (fun r_1 u8 t8 H1 locs ht8 hvm8 hw_2 hB hz1 hk1 hS => ?_)
  obtain ⟨g_3, mk2_4⟩ := u8
  try dsimp only at hw_2 hB
  rw [ht8] at hB
  have hP := hB
  generalize H1 = H at hP hS ⊢
  obtain ⟨fr_5, h82b, hmbb, -, -⟩ := hw_2
  have hSm := hSc.same (fun (k : Nat) (hk : 2097 ≤ k ∧ k ≤ 2102) => (fr_5 k (by omega)).trans (rfl))
  refine lv_pop hx hb dX5_put_8 rfl ?_
  refine lv_iconst (v := nI 0) hx hb dX5_put_9 (by decide +kernel) ?_
  refine lv_istore_n (lv' := [(2, .int (nI 0)), (0, .ref (ad 2097)), (1, .int (nI root))]) hx hb dX5_put_10 rfl hl (by decide) rfl (fun ls hl => ?_)
  have loop_6 : ∀ (k9 : Nat) (i : Nat) (g_8 : Nat → va_E) (fr_9 : ∀ k, (k < 24 ∨ (26 ≤ k ∧ k ≠ 2099 ∧ k ≠ 2102)) → g_8 k = g_3 k), 300 - i < k9 → (i ≤ root + 1) → (AW ad cA g_8) → (SCM ad cA g_8 M0) → ∀ (H : Heap) (locs : List Loc) (ls : Array Slot), va_P (dC, dI) vwCl (wo ad NSc g_8) H → va_S A s.heap H locs → lv_has ls 3 [(0, .ref (ad 2097)), (1, .int (nI root)), (2, .int (nI i))] → W p l e (headSpec wd_W5_put ({ frames := 90, cells := 0, slots := 0, locals := 1800 })).room s m ([.ref (ad 2097), .int (nI root)] : List Value).toArray below meth c H locs (0) (0) (MQ below (va_Qi (fun (r : Int32) => fun (u : Nat → va_E) => match u with | g2 => (∀ k, k < 24 ∨ (26 ≤ k ∧ k < 2082) ∨ (2083 ≤ k ∧ k < 2097) ∨ 2103 ≤ k → g2 k = g k) ∧ AW ad cA g2 ∧ MRK cA g2 ∧ SCE ad cA g2) (fun (u : Nat → va_E) (t : State) => va_P (dC, dI) vwCl (wo ad NSc u) t.heap) A) ([.ref (ad 2097), .int (nI root)] : List Value).toArray s (0) (0) A) (F0 m 11 ls []) := by
    intro k9
    induction k9 with
    | zero => intro i g_8 fr_9 h9; exact absurd h9 (Nat.not_lt_zero _)
    | succ k9 ih_7 =>
      intro i g_8 fr_9 h9 hi hAL hSl H locs ls hP hS hl
      have hsc9l := hSl
      obtain ⟨lnl, wcl, fll, fwl, fdl, fzl, fql, s1l, s2l, s3l, s4l, s5l, s6l, s7l, s8l, s9l, sal, sbl⟩ := hsc9l
      unfold SCO at s1l
      refine lv_iload_n hx hb dX5_put_11 rfl (lv_at hl 2 rfl) ?_
      refine lv_iload_n hx hb dX5_put_12 rfl (lv_at hl 1 rfl) ?_
      refine lv_icmp_gt (tgt := 59) hx hb dX5_put_13 (by decide) (fun c_10 => ?_) (fun c_10 => ?_)
      · have c_10 := (nI_ltI (a := root) (b := i) (by omega) (by omega)).mp c_10
        refine lv_aload_n hx hb dX5_put_59 rfl (lv_at hl 0 rfl) ?_
        refine m_get (D := (dC, dI)) (v := .ref (ad 2099)) (C := RX5) (T := TX5) (N := 9) hx hb hts bk0 hown hK hP 2097 (by decide) s1l rfl 3 (by decide) (hts (.fieldLink RX5 15 "GradientDesk$Script" "lengths" "[I") (List.mem_of_getElem? (i := 6) rfl)) (fun _ h9 => h9) rfl dX5_put_60 ?_
        refine lv_iload_n hx hb dX5_put_63 rfl (lv_at hl 1 rfl) ?_
        refine m_iald hx hb hK hP 2099 (by decide) rfl s6l (i := root) (by omega) (by decide) dX5_put_64 ?_
        refine lv_topi (fun x_11 e_12 => ?_)
        refine lv_sipush (v := nI 250) hx hb dX5_put_65 (by decide +kernel) ?_
        refine lv_icmp_le (tgt := 74) hx hb dX5_put_68 (by decide) (fun c_13 => ?_) (fun c_13 => ?_)
        · have c_13 := (k_le x_11 (nI 250)).mp c_13
          rw [show (nI 250).toInt = 250 from by decide] at c_13
          refine lv_aload_n hx hb dX5_put_74 rfl (lv_at hl 0 rfl) ?_
          refine lv_aload_n hx hb dX5_put_75 rfl (lv_at hl 0 rfl) ?_
          refine m_get (D := (dC, dI)) (v := .ref (ad 2099)) (C := RX5) (T := TX5) (N := 9) hx hb hts bk0 hown hK hP 2097 (by decide) s1l rfl 3 (by decide) (hts (.fieldLink RX5 15 "GradientDesk$Script" "lengths" "[I") (List.mem_of_getElem? (i := 6) rfl)) (fun _ h9 => h9) rfl dX5_put_76 ?_
          refine lv_iload_n hx hb dX5_put_79 rfl (lv_at hl 1 rfl) ?_
          refine m_iald hx hb hK hP 2099 (by decide) rfl s6l (i := root) (by omega) (by decide) dX5_put_80 ?_
          refine lv_topi (fun x_14 e_15 => ?_)
          have hln : x_14.toInt ≤ 250 := by rw [e_15, ← e_12]; omega
          refine m_put (D := (dC, dI)) (v := .int x_14) (tv := .int) (C := RX5) (T := TX5) (N := 9) hx hb hts bk0 tyX5 tyX5_ok nmX5 hown hK hP hD hS 2097 (by decide) s1l rfl 1 (by decide) (hts (.fieldLink RX5 65 "GradientDesk$Script" "length" "I") (List.mem_of_getElem? (i := 7) rfl)) (fun _ h9 => h9) rfl (by decide +kernel) rfl rfl (Nat.le_of_ble_eq_true rfl) dX5_put_81 (fun H locs g_16 f_17 fr_18 hP hS => ?_)
          have f_17 : g_16 2097 = .inr (8, [.ref (ad 2098), .int x_14, .ref (ad 2080), .ref (ad 2099), .ref (ad 2100), .ref (ad 2101), .ref (ad 2102), .ref (ad (2 * 12)), .int (nI wcl)]) := f_17
          refine lv_aload_n hx hb dX5_put_84 rfl (lv_at hl 0 rfl) ?_
          refine lv_iconst (v := nI 0) hx hb dX5_put_85 (by decide +kernel) ?_
          refine m_put (D := (dC, dI)) (v := .int (nI 0)) (tv := .int) (C := RX5) (T := TX5) (N := 9) hx hb hts bk0 tyX5 tyX5_ok nmX5 hown hK hP hD hS 2097 (by decide) f_17 rfl 8 (by decide) (hts (.fieldLink RX5 69 "GradientDesk$Script" "waitingCount" "I") (List.mem_of_getElem? (i := 8) rfl)) (fun _ h9 => h9) rfl (by decide +kernel) rfl rfl (Nat.le_of_ble_eq_true rfl) dX5_put_86 (fun H locs g_19 f_20 fr_21 hP hS => ?_)
          have f_20 : g_19 2097 = .inr (8, [.ref (ad 2098), .int x_14, .ref (ad 2080), .ref (ad 2099), .ref (ad 2100), .ref (ad 2101), .ref (ad 2102), .ref (ad (2 * 12)), .int (nI 0)]) := f_20
          refine lv_aload_n hx hb dX5_put_89 rfl (lv_at hl 0 rfl) ?_
          refine lv_iload_n hx hb dX5_put_90 rfl (lv_at hl 1 rfl) ?_
          refine lv_iconst (v := nI 0) hx hb dX5_put_91 (by decide +kernel) ?_
          have f_23 : g_19 2098 = .inl (cA 2098, 250, .inl (fun j => nI (fll j))) := (fr_21 2098 (by omega)).trans ((fr_18 2098 (by omega)).trans s4l)
          have f_24 : g_19 2099 = .inl (cA 2099, 200, .inl fzl) := (fr_21 2099 (by omega)).trans ((fr_18 2099 (by omega)).trans s6l)
          have f_25 : g_19 2100 = .inl (cA 2100, 250, .inl (fun j => nI (fwl j))) := (fr_21 2100 (by omega)).trans ((fr_18 2100 (by omega)).trans s7l)
          have f_26 : g_19 2101 = .inl (cA 2101, 250, .inl fql) := (fr_21 2101 (by omega)).trans ((fr_18 2101 (by omega)).trans s8l)
          have f_27 : g_19 2102 = .inl (cA 2102, 135, .inl (fun j => nI (fdl j))) := (fr_21 2102 (by omega)).trans ((fr_18 2102 (by omega)).trans s9l)
          have hS0 : SCM ad cA g_19 L.length := ⟨x_14, 0, fll, fwl, fdl, fzl, fql, f_20, hln, (by decide), f_23, s5l, f_24, f_25, f_26, f_27, sal, (fun j hj => absurd hj (Nat.not_lt_zero _))⟩
          refine va_callv (va_runV (As := [.int (nI root), .int (nI 0)]) (rest := []) ⟨hx, hb, hml, hown, hts⟩ (c_W5_await l dC dI A ad cA g_19 L.length root (nI 0) hS0 hrt) (cwV 2 hts (goodIn_app (goodIn_r [Cond.methodLink RX5 72 yX5_await, Cond.instanceMethod yX5_await, Cond.selects RX5 yX5_await yX5_await, Cond.initialized RX5] [9, 10, 11, 12] rfl rfl) (goodIn_sub (fun w9 h9 => bk2 w9 h9) gw_W5_await)) rfl rfl rfl (by decide +kernel) ⟨Nat.le_of_ble_eq_true rfl, Nat.le_of_ble_eq_true rfl⟩) ⟨fun a U g mk q => ⟨q.1, q.2.1, q.2.2.1, LY.moved (u := U) (U := U.calling g mk a) (Vm.Alike.refl U.vm) q.2.2.2⟩, va_recv hK hP (ci := 8) (q0 := 2097) rfl (wo_at (by decide) f_20), fun U hU hW => ⟨rfl, by rw [hU]; exact fun q h => hA q (Nat.le_trans hS.1 h), by rw [hU]; exact hP, LY.moved hW.alike hL⟩⟩ rfl rfl hl.1 rfl (lv_room (Nat.le_of_ble_eq_true rfl)) dX5_put_92 ⟨(Nat.le_of_ble_eq_true rfl), (Nat.le_of_ble_eq_true rfl)⟩) hS (fun q _ h => h) (fun q h => h) (fun u8 t8 H1 locs ht8 hvm8 hw_28 hB hz1 hk1 hS => ?_)
          obtain ⟨g_29, rfl⟩ : ∃ z, z = u8 := ⟨_, rfl⟩
          try dsimp only at hw_28 hB
          rw [ht8] at hB
          have hP := hB
          generalize H1 = H at hP hS ⊢
          obtain ⟨fr_30, hS_22⟩ := hw_28
          have hsc922 := hS_22
          obtain ⟨ln22, wc22, fl22, fw22, fd22, fz22, fq22, s122, s222, s322, s422, s522, s622, s722, s822, s922, sa22, sb22⟩ := hsc922
          unfold SCO at s122
          refine lv_iconst (v := nI 0) hx hb dX5_put_95 (by decide +kernel) ?_
          refine lv_istore_n (lv' := [(2, .int (nI 0)), (0, .ref (ad 2097)), (1, .int (nI root))]) hx hb dX5_put_96 rfl hl (by decide) rfl (fun ls hl => ?_)
          have loop_31 : ∀ (k9 : Nat) (i : Nat) (g_33 : Nat → va_E) (fr_34 : ∀ k, (k < 24 ∨ (26 ≤ k ∧ k < 2097) ∨ 2103 ≤ k) → g_33 k = g_29 k), 300 - i < k9 → (i ≤ 250) → (AW ad cA g_33) → (SCM ad cA g_33 L.length) → ∀ (H : Heap) (locs : List Loc) (ls : Array Slot), va_P (dC, dI) vwCl (wo ad NSc g_33) H → va_S A s.heap H locs → lv_has ls 3 [(0, .ref (ad 2097)), (1, .int (nI root)), (2, .int (nI i))] → W p l e (headSpec wd_W5_put ({ frames := 90, cells := 0, slots := 0, locals := 1800 })).room s m ([.ref (ad 2097), .int (nI root)] : List Value).toArray below meth c H locs (0) (0) (MQ below (va_Qi (fun (r : Int32) => fun (u : Nat → va_E) => match u with | g2 => (∀ k, k < 24 ∨ (26 ≤ k ∧ k < 2082) ∨ (2083 ≤ k ∧ k < 2097) ∨ 2103 ≤ k → g2 k = g k) ∧ AW ad cA g2 ∧ MRK cA g2 ∧ SCE ad cA g2) (fun (u : Nat → va_E) (t : State) => va_P (dC, dI) vwCl (wo ad NSc u) t.heap) A) ([.ref (ad 2097), .int (nI root)] : List Value).toArray s (0) (0) A) (F0 m 97 ls []) := by
            intro k9
            induction k9 with
            | zero => intro i g_33 fr_34 h9; exact absurd h9 (Nat.not_lt_zero _)
            | succ k9 ih_32 =>
              intro i g_33 fr_34 h9 hi hAL2 hSq H locs ls hP hS hl
              have hsc9q := hSq
              obtain ⟨lnq, wcq, flq, fwq, fdq, fzq, fqq, s1q, s2q, s3q, s4q, s5q, s6q, s7q, s8q, s9q, saq, sbq⟩ := hsc9q
              unfold SCO at s1q
              refine lv_iload_n hx hb dX5_put_97 rfl (lv_at hl 2 rfl) ?_
              refine lv_sipush (v := nI 250) hx hb dX5_put_98 (by decide +kernel) ?_
              refine lv_icmp_ge (tgt := 149) hx hb dX5_put_101 (by decide) (fun c_35 => ?_) (fun c_35 => ?_)
              · have c_35 := (nI_leI (a := 250) (b := i) (by decide) (by omega)).mp c_35
                refine lv_aload_n hx hb dX5_put_149 rfl (lv_at hl 0 rfl) ?_
                refine m_get (D := (dC, dI)) (v := .int lnq) (C := RX5) (T := TX5) (N := 9) hx hb hts bk0 hown hK hP 2097 (by decide) s1q rfl 1 (by decide) (hts (.fieldLink RX5 65 "GradientDesk$Script" "length" "I") (List.mem_of_getElem? (i := 7) rfl)) (fun _ h9 => h9) rfl dX5_put_150 ?_
                have f_36 : g_33 2082 = .inl (cA 2082, 200, .inl (fun j => nI (mk2_4 j))) := (fr_34 2082 (by omega)).trans ((fr_30 2082 (by omega)).trans ((fr_21 2082 (by omega)).trans ((fr_18 2082 (by omega)).trans ((fr_9 2082 (by omega)).trans h82b))))
                refine W.widen (k := 0) (n := 0) (by omega) (by omega) ?_
                exact W.iret (v := lnq) hx hb hr (fun t9 ht9 hW9 => ⟨⟨lnq, g_33, rfl, ⟨(fun (k : Nat) (hk : k < 24 ∨ (26 ≤ k ∧ k < 2082) ∨ (2083 ≤ k ∧ k < 2097) ∨ 2103 ≤ k) => (fr_34 k (by omega)).trans ((fr_30 k (by omega)).trans ((fr_21 k (by omega)).trans ((fr_18 k (by omega)).trans ((fr_9 k (by omega)).trans ((fr_5 k (by omega)).trans (rfl))))))), hAL2, ⟨mk2_4, f_36, hmbb⟩, ⟨_, hSq⟩⟩, by show va_P (dC, dI) vwCl _ t9.heap; rw [ht9]; exact hP⟩, hS.F ht9⟩) hS.2.2 dX5_put_153
              · have c_35 := mt (nI_leI (a := 250) (b := i) (by decide) (by omega)).mpr c_35
                refine lv_aload_n hx hb dX5_put_104 rfl (lv_at hl 0 rfl) ?_
                refine m_get (D := (dC, dI)) (v := .int (nI wcq)) (C := RX5) (T := TX5) (N := 9) hx hb hts bk0 hown hK hP 2097 (by decide) s1q rfl 8 (by decide) (hts (.fieldLink RX5 69 "GradientDesk$Script" "waitingCount" "I") (List.mem_of_getElem? (i := 8) rfl)) (fun _ h9 => h9) rfl dX5_put_105 ?_
                refine lv_if_le (tgt := 149) hx hb dX5_put_108 (by decide) (fun c_37 => ?_) (fun c_37 => ?_)
                · have c_37 := (nI_leI (a := wcq) (b := 0) (by omega) (by decide)).mp c_37
                  refine lv_aload_n hx hb dX5_put_149 rfl (lv_at hl 0 rfl) ?_
                  refine m_get (D := (dC, dI)) (v := .int lnq) (C := RX5) (T := TX5) (N := 9) hx hb hts bk0 hown hK hP 2097 (by decide) s1q rfl 1 (by decide) (hts (.fieldLink RX5 65 "GradientDesk$Script" "length" "I") (List.mem_of_getElem? (i := 7) rfl)) (fun _ h9 => h9) rfl dX5_put_150 ?_
                  have f_38 : g_33 2082 = .inl (cA 2082, 200, .inl (fun j => nI (mk2_4 j))) := (fr_34 2082 (by omega)).trans ((fr_30 2082 (by omega)).trans ((fr_21 2082 (by omega)).trans ((fr_18 2082 (by omega)).trans ((fr_9 2082 (by omega)).trans h82b))))
                  refine W.widen (k := 0) (n := 0) (by omega) (by omega) ?_
                  exact W.iret (v := lnq) hx hb hr (fun t9 ht9 hW9 => ⟨⟨lnq, g_33, rfl, ⟨(fun (k : Nat) (hk : k < 24 ∨ (26 ≤ k ∧ k < 2082) ∨ (2083 ≤ k ∧ k < 2097) ∨ 2103 ≤ k) => (fr_34 k (by omega)).trans ((fr_30 k (by omega)).trans ((fr_21 k (by omega)).trans ((fr_18 k (by omega)).trans ((fr_9 k (by omega)).trans ((fr_5 k (by omega)).trans (rfl))))))), hAL2, ⟨mk2_4, f_38, hmbb⟩, ⟨_, hSq⟩⟩, by show va_P (dC, dI) vwCl _ t9.heap; rw [ht9]; exact hP⟩, hS.F ht9⟩) hS.2.2 dX5_put_153
                · have c_37 := mt (nI_leI (a := wcq) (b := 0) (by omega) (by decide)).mpr c_37
                  refine lv_aload_n hx hb dX5_put_111 rfl (lv_at hl 0 rfl) ?_
                  refine lv_dup hx hb dX5_put_112 rfl ?_
                  refine m_get (D := (dC, dI)) (v := .int (nI wcq)) (C := RX5) (T := TX5) (N := 9) hx hb hts bk0 hown hK hP 2097 (by decide) s1q rfl 8 (by decide) (hts (.fieldLink RX5 69 "GradientDesk$Script" "waitingCount" "I") (List.mem_of_getElem? (i := 8) rfl)) (fun _ h9 => h9) rfl dX5_put_113 ?_
                  refine lv_iconst (v := nI 1) hx hb dX5_put_116 (by decide +kernel) ?_
                  refine lv_isub hx hb dX5_put_117 ?_
                  refine lv_topi (fun x_39 e_40 => ?_)
                  obtain rfl : x_39 = nI (wcq - 1) := e_40.trans (pk_sub (show 1 ≤ wcq by omega))
                  refine m_put (D := (dC, dI)) (v := .int (nI (wcq - 1))) (tv := .int) (C := RX5) (T := TX5) (N := 9) hx hb hts bk0 tyX5 tyX5_ok nmX5 hown hK hP hD hS 2097 (by decide) s1q rfl 8 (by decide) (hts (.fieldLink RX5 69 "GradientDesk$Script" "waitingCount" "I") (List.mem_of_getElem? (i := 8) rfl)) (fun _ h9 => h9) rfl (by decide +kernel) rfl rfl (Nat.le_of_ble_eq_true rfl) dX5_put_118 (fun H locs g_41 f_42 fr_43 hP hS => ?_)
                  have f_42 : g_41 2097 = .inr (8, [.ref (ad 2098), .int lnq, .ref (ad 2080), .ref (ad 2099), .ref (ad 2100), .ref (ad 2101), .ref (ad 2102), .ref (ad (2 * 12)), .int (nI (wcq - 1))]) := f_42
                  refine lv_aload_n hx hb dX5_put_121 rfl (lv_at hl 0 rfl) ?_
                  refine lv_aload_n hx hb dX5_put_122 rfl (lv_at hl 0 rfl) ?_
                  refine m_get (D := (dC, dI)) (v := .ref (ad 2100)) (C := RX5) (T := TX5) (N := 9) hx hb hts bk0 hown hK hP 2097 (by decide) f_42 rfl 4 (by decide) (hts (.fieldLink RX5 19 "GradientDesk$Script" "waiting" "[I") (List.mem_of_getElem? (i := 13) rfl)) (fun _ h9 => h9) rfl dX5_put_123 ?_
                  refine lv_aload_n hx hb dX5_put_126 rfl (lv_at hl 0 rfl) ?_
                  refine m_get (D := (dC, dI)) (v := .int (nI (wcq - 1))) (C := RX5) (T := TX5) (N := 9) hx hb hts bk0 hown hK hP 2097 (by decide) f_42 rfl 8 (by decide) (hts (.fieldLink RX5 69 "GradientDesk$Script" "waitingCount" "I") (List.mem_of_getElem? (i := 8) rfl)) (fun _ h9 => h9) rfl dX5_put_127 ?_
                  have f_44 : g_41 2100 = .inl (cA 2100, 250, .inl (fun j => nI (fwq j))) := (fr_43 2100 (by omega)).trans s7q
                  refine m_iald hx hb hK hP 2100 (by decide) rfl f_44 (i := wcq - 1) (by omega) (by decide) dX5_put_130 ?_
                  refine lv_aload_n hx hb dX5_put_131 rfl (lv_at hl 0 rfl) ?_
                  refine m_get (D := (dC, dI)) (v := .ref (ad 2101)) (C := RX5) (T := TX5) (N := 9) hx hb hts bk0 hown hK hP 2097 (by decide) f_42 rfl 5 (by decide) (hts (.fieldLink RX5 22 "GradientDesk$Script" "places" "[I") (List.mem_of_getElem? (i := 14) rfl)) (fun _ h9 => h9) rfl dX5_put_132 ?_
                  refine lv_aload_n hx hb dX5_put_135 rfl (lv_at hl 0 rfl) ?_
                  refine m_get (D := (dC, dI)) (v := .int (nI (wcq - 1))) (C := RX5) (T := TX5) (N := 9) hx hb hts bk0 hown hK hP 2097 (by decide) f_42 rfl 8 (by decide) (hts (.fieldLink RX5 69 "GradientDesk$Script" "waitingCount" "I") (List.mem_of_getElem? (i := 8) rfl)) (fun _ h9 => h9) rfl dX5_put_136 ?_
                  have f_45 : g_41 2101 = .inl (cA 2101, 250, .inl fqq) := (fr_43 2101 (by omega)).trans s8q
                  refine m_iald hx hb hK hP 2101 (by decide) rfl f_45 (i := wcq - 1) (by omega) (by decide) dX5_put_139 ?_
                  refine lv_topi (fun x_46 e_47 => ?_)
                  have hAW_51 : AW ad cA g_41 := AW.keep hAL2 (fun (k : Nat) (hk : k < 2076) => (fr_43 k (by omega)).trans (rfl))
                  have hC_50 : CS ad cA g_41 L := CS.same hC hAW_51 (fun (k : Nat) (hk : (76 ≤ k ∧ k < 876) ∨ k = 2077 ∨ k = 2107 ∨ k = 2080 ∨ k = 2081 ∨ (2117 ≤ k ∧ k < 2517)) => (fr_43 k (by omega)).trans ((fr_34 k (by omega)).trans ((fr_30 k (by omega)).trans ((fr_21 k (by omega)).trans ((fr_18 k (by omega)).trans ((fr_9 k (by omega)).trans ((fr_5 k (by omega)).trans (rfl))))))))
                  have f_52 : g_41 2098 = .inl (cA 2098, 250, .inl (fun j => nI (flq j))) := (fr_43 2098 (by omega)).trans s4q
                  have f_53 : g_41 2099 = .inl (cA 2099, 200, .inl fzq) := (fr_43 2099 (by omega)).trans s6q
                  have f_54 : g_41 2102 = .inl (cA 2102, 135, .inl (fun j => nI (fdq j))) := (fr_43 2102 (by omega)).trans s9q
                  have hS1 : SCM ad cA g_41 L.length := ⟨lnq, wcq - 1, flq, fwq, fdq, fzq, fqq, f_42, s2q, (by omega), f_52, s5q, f_53, f_44, f_45, f_54, saq, (fun j hj => sbq j (by omega))⟩
                  refine va_callv (va_runV (As := [.int (nI (fwq (wcq - 1))), .int x_46]) (rest := []) ⟨hx, hb, hml, hown, hts⟩ (c_W5_piece l dC dI A ad cA g_41 L (fwq (wcq - 1)) x_46 hC_50 hWf hS1 (sbq _ (by omega))) (cwV 2 hts (goodIn_app (goodIn_r [Cond.methodLink RX5 76 yX5_putPiece, Cond.instanceMethod yX5_putPiece, Cond.selects RX5 yX5_putPiece yX5_putPiece, Cond.initialized RX5] [15, 16, 17, 12] rfl rfl) (goodIn_sub (fun w9 h9 => bk3 w9 h9) gw_W5_piece)) rfl rfl rfl (by decide +kernel) ⟨Nat.le_of_ble_eq_true rfl, Nat.le_of_ble_eq_true rfl⟩) ⟨fun a U g mk q => ⟨q.1, q.2.1, q.2.2.1, LY.moved (u := U) (U := U.calling g mk a) (Vm.Alike.refl U.vm) q.2.2.2⟩, va_recv hK hP (ci := 8) (q0 := 2097) rfl (wo_at (by decide) f_42), fun U hU hW => ⟨rfl, by rw [hU]; exact fun q h => hA q (Nat.le_trans hS.1 h), by rw [hU]; exact hP, LY.moved hW.alike hL⟩⟩ rfl rfl hl.1 rfl (lv_room (Nat.le_of_ble_eq_true rfl)) dX5_put_140 ⟨(Nat.le_of_ble_eq_true rfl), (Nat.le_of_ble_eq_true rfl)⟩) hS (fun q _ h => h) (fun q h => h) (fun u8 t8 H1 locs ht8 hvm8 hw_55 hB hz1 hk1 hS => ?_)
                  obtain ⟨g_56, rfl⟩ : ∃ z, z = u8 := ⟨_, rfl⟩
                  try dsimp only at hw_55 hB
                  rw [ht8] at hB
                  have hP := hB
                  generalize H1 = H at hP hS ⊢
                  obtain ⟨fr_57, hS_48, hAW_49⟩ := hw_55
                  have hsc948 := hS_48
                  obtain ⟨ln48, wc48, fl48, fw48, fd48, fz48, fq48, s148, s248, s348, s448, s548, s648, s748, s848, s948, sa48, sb48⟩ := hsc948
                  unfold SCO at s148
                  refine lv_iinc (v := nI (i + 1)) (lv' := [(2, .int (nI (i + 1))), (0, .ref (ad 2097)), (1, .int (nI root))]) hx hb dX5_put_143 hl (k := 2) rfl (nI_add i 1) (by decide) rfl (fun ls hl => ?_)
                  refine lv_goto (tgt := 97) hx hb dX5_put_146 (by decide) ?_
                  exact ih_32 (i + 1) g_56 (fun (k : Nat) (hk : k < 24 ∨ (26 ≤ k ∧ k < 2097) ∨ 2103 ≤ k) => (fr_57 k (by omega)).trans ((fr_43 k (by omega)).trans ((fr_34 k (by omega)).trans (rfl)))) (by omega) (by omega) hAW_49 hS_48 _ _ _ hP hS (lv_sub (l' := [(0, .ref (ad 2097)), (1, .int (nI root)), (2, .int (nI (i + 1)))]) hl [1, 2, 0] rfl)
          have hAW_60 : AW ad cA g_29 := AW.keep hAL (fun (k : Nat) (hk : k < 2076) => (fr_30 k (by omega)).trans ((fr_21 k (by omega)).trans ((fr_18 k (by omega)).trans (rfl))))
          exact loop_31 _ 0 g_29 (fun (k : Nat) (hk : k < 24 ∨ (26 ≤ k ∧ k < 2097) ∨ 2103 ≤ k) => rfl) (Nat.lt_succ_self _) (by omega) hAW_60 hS_22 _ _ _ hP hS (lv_sub (l' := [(0, .ref (ad 2097)), (1, .int (nI root)), (2, .int (nI 0))]) hl [1, 2, 0] rfl)
        · have c_13 := mt (k_le x_11 (nI 250)).mpr c_13
          rw [show (nI 250).toInt = 250 from by decide] at c_13
          refine lv_bipush (v := -3) hx hb dX5_put_71 (by decide +kernel) ?_
          have f_61 : g_8 2082 = .inl (cA 2082, 200, .inl (fun j => nI (mk2_4 j))) := (fr_9 2082 (by omega)).trans h82b
          refine W.widen (k := 0) (n := 0) (by omega) (by omega) ?_
          exact W.iret (v := -3) hx hb hr (fun t9 ht9 hW9 => ⟨⟨-3, g_8, rfl, ⟨(fun (k : Nat) (hk : k < 24 ∨ (26 ≤ k ∧ k < 2082) ∨ (2083 ≤ k ∧ k < 2097) ∨ 2103 ≤ k) => (fr_9 k (by omega)).trans ((fr_5 k (by omega)).trans (rfl))), hAL, ⟨mk2_4, f_61, hmbb⟩, ⟨_, ⟨lnl, wcl, fll, fwl, fdl, fzl, fql, s1l, s2l, s3l, s4l, s5l, s6l, s7l, s8l, s9l, sal, sbl⟩⟩⟩, by show va_P (dC, dI) vwCl _ t9.heap; rw [ht9]; exact hP⟩, hS.F ht9⟩) hS.2.2 dX5_put_73
      · have c_10 := mt (nI_ltI (a := root) (b := i) (by omega) (by omega)).mpr c_10
        refine lv_aload_n hx hb dX5_put_16 rfl (lv_at hl 0 rfl) ?_
        refine m_get (D := (dC, dI)) (v := .ref (ad 2080)) (C := RX5) (T := TX5) (N := 9) hx hb hts bk0 hown hK hP 2097 (by decide) s1l rfl 2 (by decide) (hts (.fieldLink RX5 37 "GradientDesk$Script" "shelf" "LGradientDesk$Shelf;") (List.mem_of_getElem? (i := 1) rfl)) (fun _ h9 => h9) rfl dX5_put_17 ?_
        have f_62 : g_8 2080 = .inr (9, [.ref (ad 2081), .ref (ad 2082), .int (nI L.length), .ref (ad 2083), .ref (ad 2077), .ref (ad 2107), .ref (ad (2 * 6))]) := (fr_9 2080 (by omega)).trans ((fr_5 2080 (by omega)).trans hO)
        refine m_get (D := (dC, dI)) (v := .ref (ad 2082)) (C := RX6) (T := TX6) (N := 7) hx hb hts bk4 hown hK hP 2080 (by decide) f_62 rfl 1 (by decide) (hts (.fieldLink RX5 47 "GradientDesk$Shelf" "marked" "[Z") (List.mem_of_getElem? (i := 18) rfl)) (fun _ h9 => h9) rfl dX5_put_20 ?_
        refine lv_iload_n hx hb dX5_put_23 rfl (lv_at hl 2 rfl) ?_
        have f_63 : g_8 2082 = .inl (cA 2082, 200, .inl (fun j => nI (mk2_4 j))) := (fr_9 2082 (by omega)).trans h82b
        refine m_zald hx hb hK hP 2082 (by decide) rfl f_63 (i := i) (by omega) (by decide) dX5_put_24 ?_
        have b_64 := hmbb i
        refine lv_if_eq (tgt := 53) hx hb dX5_put_25 (by decide) (fun c_65 => ?_) (fun c_65 => ?_)
        · have c_65 := (nI_eq (a := (mk2_4 i)) (b := 0) (by omega) (by decide)).mp c_65
          refine lv_iinc (v := nI (i + 1)) (lv' := [(2, .int (nI (i + 1))), (0, .ref (ad 2097)), (1, .int (nI root))]) hx hb dX5_put_53 hl (k := 2) rfl (nI_add i 1) (by decide) rfl (fun ls hl => ?_)
          refine lv_goto (tgt := 11) hx hb dX5_put_56 (by decide) ?_
          exact ih_7 (i + 1) g_8 (fun (k : Nat) (hk : k < 24 ∨ (26 ≤ k ∧ k ≠ 2099 ∧ k ≠ 2102)) => (fr_9 k (by omega)).trans (rfl)) (by omega) (by omega) hAL (⟨lnl, wcl, fll, fwl, fdl, fzl, fql, s1l, s2l, s3l, s4l, s5l, s6l, s7l, s8l, s9l, sal, sbl⟩) _ _ _ hP hS (lv_sub (l' := [(0, .ref (ad 2097)), (1, .int (nI root)), (2, .int (nI (i + 1)))]) hl [1, 2, 0] rfl)
        · have c_65 := mt (nI_eq (a := (mk2_4 i)) (b := 0) (by omega) (by decide)).mpr c_65
          refine lv_aload_n hx hb dX5_put_28 rfl (lv_at hl 0 rfl) ?_
          refine m_get (D := (dC, dI)) (v := .ref (ad 2099)) (C := RX5) (T := TX5) (N := 9) hx hb hts bk0 hown hK hP 2097 (by decide) s1l rfl 3 (by decide) (hts (.fieldLink RX5 15 "GradientDesk$Script" "lengths" "[I") (List.mem_of_getElem? (i := 6) rfl)) (fun _ h9 => h9) rfl dX5_put_29 ?_
          refine lv_iload_n hx hb dX5_put_32 rfl (lv_at hl 2 rfl) ?_
          refine lv_aload_n hx hb dX5_put_33 rfl (lv_at hl 0 rfl) ?_
          refine lv_aload_n hx hb dX5_put_34 rfl (lv_at hl 0 rfl) ?_
          refine m_get (D := (dC, dI)) (v := .ref (ad 2080)) (C := RX5) (T := TX5) (N := 9) hx hb hts bk0 hown hK hP 2097 (by decide) s1l rfl 2 (by decide) (hts (.fieldLink RX5 37 "GradientDesk$Script" "shelf" "LGradientDesk$Shelf;") (List.mem_of_getElem? (i := 1) rfl)) (fun _ h9 => h9) rfl dX5_put_35 ?_
          refine m_get (D := (dC, dI)) (v := .ref (ad 2081)) (C := RX6) (T := TX6) (N := 7) hx hb hts bk4 hown hK hP 2080 (by decide) f_62 rfl 0 (by decide) (hts (.fieldLink RX5 51 "GradientDesk$Shelf" "parts" "[LGradientDesk$Part;") (List.mem_of_getElem? (i := 19) rfl)) (fun _ h9 => h9) rfl dX5_put_38 ?_
          refine lv_iload_n hx hb dX5_put_41 rfl (lv_at hl 2 rfl) ?_
          have f_68 : g_8 2081 = .inl (cA 2081, 200, .inr (.inr (.inr (.inr (fun j => some (ad (2117 + 2 * j))))))) := (fr_9 2081 (by omega)).trans ((fr_5 2081 (by omega)).trans hPa)
          refine m_aald hx hb hK hP 2081 (by decide) rfl f_68 (i := i) (v := ad (2117 + 2 * i)) (by omega) (by decide) rfl dX5_put_42 ?_
          have hC_71 : CS ad cA g_8 L := CS.same hC hAL (fun (k : Nat) (hk : (76 ≤ k ∧ k < 876) ∨ k = 2077 ∨ k = 2107 ∨ k = 2080 ∨ k = 2081 ∨ (2117 ≤ k ∧ k < 2517)) => (fr_9 k (by omega)).trans ((fr_5 k (by omega)).trans (rfl)))
          refine va_calli (va_runV (As := [.ref (ad (2117 + 2 * i))]) (rest := [.int (nI i), .ref (ad 2099)]) ⟨hx, hb, hml, hown, hts⟩ (c_W5_len l dC dI A ad cA g_8 L M0 i hC_71 hWf hSl (by omega)) (cwV 1 hts (goodIn_app (goodIn_r [Cond.methodLink RX5 55 yX5_lengthOf, Cond.instanceMethod yX5_lengthOf, Cond.selects RX5 yX5_lengthOf yX5_lengthOf, Cond.initialized RX5] [20, 21, 22, 12] rfl rfl) (goodIn_sub (fun w9 h9 => bk5 w9 h9) gw_W5_len)) rfl rfl rfl (by decide +kernel) ⟨Nat.le_of_ble_eq_true rfl, Nat.le_of_ble_eq_true rfl⟩) ⟨fun a U g mk q => ⟨q.1, q.2.1, q.2.2.1, LY.moved (u := U) (U := U.calling g mk a) (Vm.Alike.refl U.vm) q.2.2.2⟩, va_recv hK hP (ci := 8) (q0 := 2097) rfl (wo_at (by decide) s1l), fun U hU hW => ⟨rfl, by rw [hU]; exact fun q h => hA q (Nat.le_trans hS.1 h), by rw [hU]; exact hP, LY.moved hW.alike hL⟩⟩ rfl rfl hl.1 rfl (lv_room (Nat.le_of_ble_eq_true rfl)) dX5_put_43 ⟨(Nat.le_of_ble_eq_true rfl), (Nat.le_of_ble_eq_true rfl)⟩) hS (fun q _ h => h) (fun q h => h) (fun r_72 u8 t8 H1 locs ht8 hvm8 hw_73 hB hz1 hk1 hS => ?_)
          obtain ⟨g_74, rfl⟩ : ∃ z, z = u8 := ⟨_, rfl⟩
          try dsimp only at hw_73 hB
          rw [ht8] at hB
          have hP := hB
          generalize H1 = H at hP hS ⊢
          obtain ⟨fr_75, hS_69, hAW_70⟩ := hw_73
          have hsc969 := hS_69
          obtain ⟨ln69, wc69, fl69, fw69, fd69, fz69, fq69, s169, s269, s369, s469, s569, s669, s769, s869, s969, sa69, sb69⟩ := hsc969
          unfold SCO at s169
          refine lv_sipush (v := nI 251) hx hb dX5_put_46 (by decide +kernel) ?_
          refine va_mmin hx hb (by rw [hml]; exact hl.1.symm) hown (hts (.methodLink RX5 59 Lib.Math.min.name) (List.mem_of_getElem? (i := 23) rfl)) (hts (.static Lib.Math.min.name) (List.mem_of_getElem? (i := 24) rfl)) (hts (.initialized "java/lang/Math") (List.mem_of_getElem? (i := 25) rfl)) (hts (.code Lib.Math.min.name Lib.Math.min.code 2 (some .int)) (List.mem_of_getElem? (i := 26) rfl)) (Nat.le_of_ble_eq_true rfl) (Nat.le_of_ble_eq_true rfl) (Nat.le_of_ble_eq_true rfl) (Nat.le_of_ble_eq_true rfl) dX5_put_49 ?_
          refine lv_topi (fun x_76 e_77 => ?_)
          refine m_iast hx hb hK hP hD hS 2099 (by decide) rfl s669 (i := i) (x := x_76) (by omega) (by decide) dX5_put_52 (fun H locs g_78 f_79 fr_80 hP hS => ?_)
          have f_79 : g_78 2099 = .inl (cA 2099, 200, .inl (upd fz69 i x_76)) := f_79
          refine lv_iinc (v := nI (i + 1)) (lv' := [(2, .int (nI (i + 1))), (0, .ref (ad 2097)), (1, .int (nI root))]) hx hb dX5_put_53 hl (k := 2) rfl (nI_add i 1) (by decide) rfl (fun ls hl => ?_)
          refine lv_goto (tgt := 11) hx hb dX5_put_56 (by decide) ?_
          have hAW_83 : AW ad cA g_78 := AW.keep hAW_70 (fun (k : Nat) (hk : k < 2076) => (fr_80 k (by omega)).trans (rfl))
          have f_84 : g_78 2097 = .inr (8, [.ref (ad 2098), .int ln69, .ref (ad 2080), .ref (ad 2099), .ref (ad 2100), .ref (ad 2101), .ref (ad 2102), .ref (ad (2 * 12)), .int (nI wc69)]) := (fr_80 2097 (by omega)).trans s169
          have f_85 : g_78 2098 = .inl (cA 2098, 250, .inl (fun j => nI (fl69 j))) := (fr_80 2098 (by omega)).trans s469
          have f_86 : g_78 2100 = .inl (cA 2100, 250, .inl (fun j => nI (fw69 j))) := (fr_80 2100 (by omega)).trans s769
          have f_87 : g_78 2101 = .inl (cA 2101, 250, .inl fq69) := (fr_80 2101 (by omega)).trans s869
          have f_88 : g_78 2102 = .inl (cA 2102, 135, .inl (fun j => nI (fd69 j))) := (fr_80 2102 (by omega)).trans s969
          exact ih_7 (i + 1) g_78 (fun (k : Nat) (hk : k < 24 ∨ (26 ≤ k ∧ k ≠ 2099 ∧ k ≠ 2102)) => (fr_80 k (by omega)).trans ((fr_75 k (by omega)).trans ((fr_9 k (by omega)).trans (rfl)))) (by omega) (by omega) hAW_83 (⟨ln69, wc69, fl69, fw69, fd69, upd fz69 i x_76, fq69, f_84, s269, s369, f_85, s569, f_79, f_86, f_87, f_88, sa69, sb69⟩) _ _ _ hP hS (lv_sub (l' := [(0, .ref (ad 2097)), (1, .int (nI root)), (2, .int (nI (i + 1)))]) hl [1, 2, 0] rfl)
  have hAW_89 : AW ad cA g_3 := AW.keep hW (fun (k : Nat) (hk : k < 2076) => (fr_5 k (by omega)).trans (rfl))
  exact loop_6 _ 0 g_3 (fun (k : Nat) (hk : k < 24 ∨ (26 ≤ k ∧ k ≠ 2099 ∧ k ≠ 2102)) => rfl) (Nat.lt_succ_self _) (by omega) hAW_89 hSm _ _ _ hP hS (lv_sub (l' := [(0, .ref (ad 2097)), (1, .int (nI root)), (2, .int (nI 0))]) hl [1, 2, 0] rfl)
