section
def wd_W5_lenN : List Cond := .code yX5_lengthOfNumber cX5_lengthOfNumber 3 (some .int) :: (([.fieldLink RX5 98 "GradientDesk$Fraction" "top" "LGradientDesk$Whole;", .methodLink RX5 103 yX5_findDigits, .instanceMethod yX5_findDigits, .selects RX5 yX5_findDigits yX5_findDigits, .initialized RX5, .fieldLink RX5 107 "GradientDesk$Whole" "below" "Z", .fieldLink RX5 111 "GradientDesk$Fraction" "bottom" "LGradientDesk$Whole;", .methodLink RX5 114 yX8_isOne, .instanceMethod yX8_isOne, .selects RX8 yX8_isOne yX8_isOne, .initialized RX8] : List Cond) ++ (u_ws RX2 TX2 2 ++ (wd_W5_find ++ (u_ws RX8 TX8 3 ++ (wd_X8_isOne ++ ([]))))))
theorem gw_W5_lenN : wd_W5_lenN.all goodWord = true := k_allc rfl (k_all (by decide +kernel) (k_all (gu_X2) (k_all (gw_W5_find) (k_all (gu_X8) (k_all (gw_X8_isOne) (rfl))))))
set_option maxHeartbeats 4000000 in
set_option maxRecDepth 100000 in
theorem c_W5_lenN (l : Launch) (dC : Nat → ClassId) (dI : Nat → Nat → Nat) (A : Nat → Prop) (ad : Nat → Nat) (cA : Nat → ClassId) (g : Nat → va_E) (L : List PD) (M : Nat) (i : Nat) (hC : CS ad cA g L) (hWf : WFL L) (hSc : SCM ad cA g M) (hi : i < 200) : Met l yX5_lengthOfNumber wd_W5_lenN ({ frames := 50, cells := 0, slots := 0, locals := 1000 }) (va_Pc [.ref (ad 2097), .ref (ad (2118 + 2 * i))] (PR NSc tyc dC dI A ad cA g)) (va_Qi (fun (r : Int32) => fun (u : Nat → va_E) => match u with | g2 => (∀ k, k < 24 ∨ (26 ≤ k ∧ k ≠ 2102) → g2 k = g k) ∧ SCM ad cA g2 M ∧ AW ad cA g2) (fun (u : Nat → va_E) (t : State) => va_P (dC, dI) vwCl (wo ad NSc u) t.heap) A) (0) (0) A := by
  refine Met.ofW (cc := cX5_lengthOfNumber) (maxL := 3) (ret := (some .int)) (by decide) rfl ?_
  intro p e s m args below meth c s₁ B hml hv
  obtain ⟨rfl, hA, hP, hL⟩ := hv
  have hx := B.exec
  have hb := B.bytes
  have hr := B.returns
  have hts := atoms_spec (ws := wd_W5_lenN) B.pre
  have hown : s.vm.findClass RX5 = some m.cls := findClass_of_methodNamed B.named
  have hlocks := B.notSynchronized
  have hK := hL.1
  have hD : ∀ g, va_D A (wo ad NSc g) := fun g => wo_D hL.2.1 hL.2.2 g
  have hS : va_S A s.heap s.heap [] := va_S.rf
  have bk0 : ∀ w ∈ u_ws RX2 TX2 2, w ∈ wd_W5_lenN := fun _ h => List.mem_cons_of_mem _ (List.mem_append_right _ (List.mem_append_left _ h))
  have bk1 : ∀ w ∈ wd_W5_find, w ∈ wd_W5_lenN := fun _ h => List.mem_cons_of_mem _ (List.mem_append_right _ (List.mem_append_right _ (List.mem_append_left _ h)))
  have bk2 : ∀ w ∈ u_ws RX8 TX8 3, w ∈ wd_W5_lenN := fun _ h => List.mem_cons_of_mem _ (List.mem_append_right _ (List.mem_append_right _ (List.mem_append_right _ (List.mem_append_left _ h))))
  have bk3 : ∀ w ∈ wd_X8_isOne, w ∈ wd_W5_lenN := fun _ h => List.mem_cons_of_mem _ (List.mem_append_right _ (List.mem_append_right _ (List.mem_append_right _ (List.mem_append_right _ (List.mem_append_left _ h)))))
  have hl := lv_entry ([.ref (ad 2097), .ref (ad (2118 + 2 * i))]) (n := 3) (Nat.le_of_ble_eq_true rfl)
  rw [lg_entry_eq]
  generalize (lg_sl ([.ref (ad 2097), .ref (ad (2118 + 2 * i))]) ++ List.replicate (3 - (lg_sl ([.ref (ad 2097), .ref (ad (2118 + 2 * i))])).length) Slot.unset).toArray = ls at hl ⊢
  have hl : lv_has ls 3 [(0, .ref (ad 2097)), (1, .ref (ad (2118 + 2 * i)))] := hl
  have hC0 := hC
  obtain ⟨hLn, hW, ⟨hAr, hWk, hPa, hFr⟩, hO, pt, hPt, hM⟩ := hC0
  unfold CSO at hO
  have hpb := hPt.2
  have hq_1 := hFr i (by omega)
  have hsc9 := hSc
  obtain ⟨ln, wc, fl, fw, fd, fz, fq, s1, s2, s3, s4, s5, s6, s7, s8, s9, sa, sb⟩ := hsc9
  unfold SCO at s1
  refine lv_aload_n hx hb dX5_lengthOfNumber_0 rfl (lv_at hl 0 rfl) ?_
  refine lv_aload_n hx hb dX5_lengthOfNumber_1 rfl (lv_at hl 1 rfl) ?_
  refine m_get (D := (dC, dI)) (v := .ref (ad (2 * (38 + 2 * i)))) (C := RX2) (T := TX2) (N := 2) hx hb hts bk0 hown hK hP (2118 + 2 * i) (ns_q (by omega)) hq_1 rfl 0 (by decide) (hts (.fieldLink RX5 98 "GradientDesk$Fraction" "top" "LGradientDesk$Whole;") (List.mem_of_getElem? (i := 1) rfl)) (fun _ h9 => h9) rfl dX5_lengthOfNumber_2 ?_
  refine va_calli (va_runV (As := [.ref (ad (2 * (38 + 2 * i)))]) (rest := []) ⟨hx, hb, hml, hown, hts⟩ (c_W5_find l dC dI A ad cA g M (38 + 2 * i) hW hSc (by omega)) (cwV 1 hts (goodIn_app (goodIn_r [Cond.methodLink RX5 103 yX5_findDigits, Cond.instanceMethod yX5_findDigits, Cond.selects RX5 yX5_findDigits yX5_findDigits, Cond.initialized RX5] [2, 3, 4, 5] rfl rfl) (goodIn_sub (fun w9 h9 => bk1 w9 h9) gw_W5_find)) rfl rfl rfl (by decide +kernel) ⟨Nat.le_of_ble_eq_true rfl, Nat.le_of_ble_eq_true rfl⟩) ⟨fun a U g mk q => ⟨q.1, q.2.1, q.2.2.1, LY.moved (u := U) (U := U.calling g mk a) (Vm.Alike.refl U.vm) q.2.2.2⟩, va_recv hK hP (ci := 8) (q0 := 2097) rfl (wo_at (by decide) s1), fun U hU hW => ⟨rfl, by rw [hU]; exact fun q h => hA q (Nat.le_trans hS.1 h), by rw [hU]; exact hP, LY.moved hW.alike hL⟩⟩ rfl rfl hl.1 rfl (lv_room (Nat.le_of_ble_eq_true rfl)) dX5_lengthOfNumber_5 ⟨(Nat.le_of_ble_eq_true rfl), (Nat.le_of_ble_eq_true rfl)⟩) hS (fun q _ h => h) (fun q h => h) (fun r_5 u8 t8 H1 locs ht8 hvm8 hw_6 hB hz1 hk1 hS => ?_)
  obtain ⟨g_7, z_8⟩ := u8
  try dsimp only at hw_6 hB
  rw [ht8] at hB
  have hP := hB
  generalize H1 = H at hP hS ⊢
  obtain ⟨fr_9, hS_2, hAW_3, hr_4, hz12, hz22⟩ := hw_6
  subst hr_4
  have hsc92 := hS_2
  obtain ⟨ln2, wc2, fl2, fw2, fd2, fz2, fq2, s12, s22, s32, s42, s52, s62, s72, s82, s92, sa2, sb2⟩ := hsc92
  unfold SCO at s12
  refine lv_aload_n hx hb dX5_lengthOfNumber_8 rfl (lv_at hl 1 rfl) ?_
  have f_10 : g_7 (2118 + 2 * i) = .inr (5, [.ref (ad (2 * (38 + 2 * i))), .ref (ad (2 * (39 + 2 * i)))]) := (fr_9 (2118 + 2 * i) (by omega)).trans hq_1
  refine m_get (D := (dC, dI)) (v := .ref (ad (2 * (38 + 2 * i)))) (C := RX2) (T := TX2) (N := 2) hx hb hts bk0 hown hK hP (2118 + 2 * i) (ns_q (by omega)) f_10 rfl 0 (by decide) (hts (.fieldLink RX5 98 "GradientDesk$Fraction" "top" "LGradientDesk$Whole;") (List.mem_of_getElem? (i := 1) rfl)) (fun _ h9 => h9) rfl dX5_lengthOfNumber_9 ?_
  obtain ⟨mw_11, sw_11, nw_11, fw_11, aw_11, bw_11, cw_11, dw_11, ew_11⟩ := hAW_3 (38 + 2 * i) (by omega)
  have qw_11 : mw_11 ≤ 4096 := by rw [dw_11]; exact rmc_le _
  refine m_get (D := (dC, dI)) (v := .int (nI nw_11)) (C := RX8) (T := TX8) (N := 3) hx hb hts bk2 hown hK hP (2 * (38 + 2 * i)) (ns_w (by omega)) aw_11 rfl 2 (by decide) (hts (.fieldLink RX5 107 "GradientDesk$Whole" "below" "Z") (List.mem_of_getElem? (i := 6) rfl)) (fun _ h9 => h9) rfl dX5_lengthOfNumber_12 ?_
  refine lv_if_eq (tgt := 22) hx hb dX5_lengthOfNumber_15 (by decide) (fun c_12 => ?_) (fun c_12 => ?_)
  · have c_12 := (nI_eq (a := nw_11) (b := 0) (by omega) (by decide)).mp c_12
    refine lv_iconst (v := nI 0) hx hb dX5_lengthOfNumber_22 (by decide +kernel) ?_
    refine lv_iadd hx hb dX5_lengthOfNumber_23 ?_
    refine lv_topi (fun x_13 e_14 => ?_)
    obtain rfl : x_13 = nI z_8 := e_14.trans (nI_add z_8 0)
    refine lv_istore_n (lv' := [(2, .int (nI z_8)), (0, .ref (ad 2097)), (1, .ref (ad (2118 + 2 * i)))]) hx hb dX5_lengthOfNumber_24 rfl hl (by decide) rfl (fun ls hl => ?_)
    refine lv_aload_n hx hb dX5_lengthOfNumber_25 rfl (lv_at hl 2 rfl) ?_
    refine m_get (D := (dC, dI)) (v := .ref (ad (2 * (39 + 2 * i)))) (C := RX2) (T := TX2) (N := 2) hx hb hts bk0 hown hK hP (2118 + 2 * i) (ns_q (by omega)) f_10 rfl 1 (by decide) (hts (.fieldLink RX5 111 "GradientDesk$Fraction" "bottom" "LGradientDesk$Whole;") (List.mem_of_getElem? (i := 7) rfl)) (fun _ h9 => h9) rfl dX5_lengthOfNumber_26 ?_
    obtain ⟨mw_15, sw_15, nw_15, fw_15, aw_15, bw_15, cw_15, dw_15, ew_15⟩ := hAW_3 (39 + 2 * i) (by omega)
    have qw_15 : mw_15 ≤ 4096 := by rw [dw_15]; exact rmc_le _
    refine va_calli (va_runV (As := []) (rest := []) ⟨hx, hb, hml, hown, hts⟩ (c_X8_isOne l dC dI A ad cA g_7 (39 + 2 * i) hAW_3 (by omega)) (cwV 0 hts (goodIn_app (goodIn_r [Cond.methodLink RX5 114 yX8_isOne, Cond.instanceMethod yX8_isOne, Cond.selects RX8 yX8_isOne yX8_isOne, Cond.initialized RX8] [8, 9, 10, 11] rfl rfl) (goodIn_sub (fun w9 h9 => bk3 w9 h9) gw_X8_isOne)) rfl rfl rfl (by decide +kernel) ⟨Nat.le_of_ble_eq_true rfl, Nat.le_of_ble_eq_true rfl⟩) ⟨fun a U g mk q => ⟨q.1, q.2.1, q.2.2.1, LY.moved (u := U) (U := U.calling g mk a) (Vm.Alike.refl U.vm) q.2.2.2⟩, va_recv hK hP (ci := 11) (q0 := (2 * (39 + 2 * i))) rfl (wo_at (ns_w (by omega)) aw_15), fun U hU hW => ⟨rfl, by rw [hU]; exact fun q h => hA q (Nat.le_trans hS.1 h), by rw [hU]; exact hP, LY.moved hW.alike hL⟩⟩ rfl rfl hl.1 rfl (lv_room (Nat.le_of_ble_eq_true rfl)) dX5_lengthOfNumber_29 ⟨(Nat.le_of_ble_eq_true rfl), (Nat.le_of_ble_eq_true rfl)⟩) hS (fun q _ h => h) (fun q h => h) (fun r_17 u8 t8 H1 locs ht8 hvm8 hw_18 hB hz1 hk1 hS => ?_)
    obtain ⟨⟩ := u8
    try dsimp only at hw_18 hB
    rw [ht8] at hB
    have hP := hB
    generalize H1 = H at hP hS ⊢
    obtain ⟨b_16, hb_16, rfl⟩ := hw_18
    refine lv_if_eq (tgt := 39) hx hb dX5_lengthOfNumber_32 (by decide) (fun c_19 => ?_) (fun c_19 => ?_)
    · have c_19 := (nI_eq (a := b_16) (b := 0) (by omega) (by decide)).mp c_19
      refine lv_iload_n hx hb dX5_lengthOfNumber_39 rfl (lv_at hl 0 rfl) ?_
      refine lv_iconst (v := nI 1) hx hb dX5_lengthOfNumber_40 (by decide +kernel) ?_
      refine lv_iadd hx hb dX5_lengthOfNumber_41 ?_
      refine lv_topi (fun x_20 e_21 => ?_)
      obtain rfl : x_20 = nI (z_8 + 1) := e_21.trans (nI_add z_8 1)
      refine lv_aload_n hx hb dX5_lengthOfNumber_42 rfl (lv_at hl 1 rfl) ?_
      refine lv_aload_n hx hb dX5_lengthOfNumber_43 rfl (lv_at hl 2 rfl) ?_
      refine m_get (D := (dC, dI)) (v := .ref (ad (2 * (39 + 2 * i)))) (C := RX2) (T := TX2) (N := 2) hx hb hts bk0 hown hK hP (2118 + 2 * i) (ns_q (by omega)) f_10 rfl 1 (by decide) (hts (.fieldLink RX5 111 "GradientDesk$Fraction" "bottom" "LGradientDesk$Whole;") (List.mem_of_getElem? (i := 7) rfl)) (fun _ h9 => h9) rfl dX5_lengthOfNumber_44 ?_
      refine va_calli (va_runV (As := [.ref (ad (2 * (39 + 2 * i)))]) (rest := [.int (nI (z_8 + 1))]) ⟨hx, hb, hml, hown, hts⟩ (c_W5_find l dC dI A ad cA g_7 M (39 + 2 * i) hAW_3 hS_2 (by omega)) (cwV 1 hts (goodIn_app (goodIn_r [Cond.methodLink RX5 103 yX5_findDigits, Cond.instanceMethod yX5_findDigits, Cond.selects RX5 yX5_findDigits yX5_findDigits, Cond.initialized RX5] [2, 3, 4, 5] rfl rfl) (goodIn_sub (fun w9 h9 => bk1 w9 h9) gw_W5_find)) rfl rfl rfl (by decide +kernel) ⟨Nat.le_of_ble_eq_true rfl, Nat.le_of_ble_eq_true rfl⟩) ⟨fun a U g mk q => ⟨q.1, q.2.1, q.2.2.1, LY.moved (u := U) (U := U.calling g mk a) (Vm.Alike.refl U.vm) q.2.2.2⟩, va_recv hK hP (ci := 8) (q0 := 2097) rfl (wo_at (by decide) s12), fun U hU hW => ⟨rfl, by rw [hU]; exact fun q h => hA q (Nat.le_trans hS.1 h), by rw [hU]; exact hP, LY.moved hW.alike hL⟩⟩ rfl rfl hl.1 rfl (lv_room (Nat.le_of_ble_eq_true rfl)) dX5_lengthOfNumber_47 ⟨(Nat.le_of_ble_eq_true rfl), (Nat.le_of_ble_eq_true rfl)⟩) hS (fun q _ h => h) (fun q h => h) (fun r_25 u8 t8 H1 locs ht8 hvm8 hw_26 hB hz1 hk1 hS => ?_)
      obtain ⟨g_27, z_28⟩ := u8
      try dsimp only at hw_26 hB
      rw [ht8] at hB
      have hP := hB
      generalize H1 = H at hP hS ⊢
      obtain ⟨fr_29, hS_22, hAW_23, hr_24, hz122, hz222⟩ := hw_26
      subst hr_24
      have hsc922 := hS_22
      obtain ⟨ln22, wc22, fl22, fw22, fd22, fz22, fq22, s122, s222, s322, s422, s522, s622, s722, s822, s922, sa22, sb22⟩ := hsc922
      unfold SCO at s122
      refine lv_iadd hx hb dX5_lengthOfNumber_50 ?_
      refine lv_topi (fun x_30 e_31 => ?_)
      obtain rfl : x_30 = nI (z_8 + 1 + z_28) := e_31.trans (nI_add (z_8 + 1) z_28)
      refine W.widen (k := 0) (n := 0) (by omega) (by omega) ?_
      exact W.iret (v := nI (z_8 + 1 + z_28)) hx hb hr (fun t9 ht9 hW9 => ⟨⟨nI (z_8 + 1 + z_28), g_27, rfl, ⟨(fun (k : Nat) (hk : k < 24 ∨ (26 ≤ k ∧ k ≠ 2102)) => (fr_29 k (by omega)).trans ((fr_9 k (by omega)).trans (rfl))), hS_22, hAW_23⟩, by show va_P (dC, dI) vwCl _ t9.heap; rw [ht9]; exact hP⟩, hS.F ht9⟩) hS.2.2 dX5_lengthOfNumber_51
    · have c_19 := mt (nI_eq (a := b_16) (b := 0) (by omega) (by decide)).mpr c_19
      refine lv_iload_n hx hb dX5_lengthOfNumber_35 rfl (lv_at hl 0 rfl) ?_
      refine lv_goto (tgt := 51) hx hb dX5_lengthOfNumber_36 (by decide) ?_
      refine W.widen (k := 0) (n := 0) (by omega) (by omega) ?_
      exact W.iret (v := nI z_8) hx hb hr (fun t9 ht9 hW9 => ⟨⟨nI z_8, g_7, rfl, ⟨(fun (k : Nat) (hk : k < 24 ∨ (26 ≤ k ∧ k ≠ 2102)) => (fr_9 k (by omega)).trans (rfl)), hS_2, hAW_3⟩, by show va_P (dC, dI) vwCl _ t9.heap; rw [ht9]; exact hP⟩, hS.F ht9⟩) hS.2.2 dX5_lengthOfNumber_51
  · have c_12 := mt (nI_eq (a := nw_11) (b := 0) (by omega) (by decide)).mpr c_12
    refine lv_iconst (v := nI 1) hx hb dX5_lengthOfNumber_18 (by decide +kernel) ?_
    refine lv_goto (tgt := 23) hx hb dX5_lengthOfNumber_19 (by decide) ?_
    refine lv_iadd hx hb dX5_lengthOfNumber_23 ?_
    refine lv_topi (fun x_32 e_33 => ?_)
    obtain rfl : x_32 = nI (z_8 + 1) := e_33.trans (nI_add z_8 1)
    refine lv_istore_n (lv' := [(2, .int (nI (z_8 + 1))), (0, .ref (ad 2097)), (1, .ref (ad (2118 + 2 * i)))]) hx hb dX5_lengthOfNumber_24 rfl hl (by decide) rfl (fun ls hl => ?_)
    refine lv_aload_n hx hb dX5_lengthOfNumber_25 rfl (lv_at hl 2 rfl) ?_
    refine m_get (D := (dC, dI)) (v := .ref (ad (2 * (39 + 2 * i)))) (C := RX2) (T := TX2) (N := 2) hx hb hts bk0 hown hK hP (2118 + 2 * i) (ns_q (by omega)) f_10 rfl 1 (by decide) (hts (.fieldLink RX5 111 "GradientDesk$Fraction" "bottom" "LGradientDesk$Whole;") (List.mem_of_getElem? (i := 7) rfl)) (fun _ h9 => h9) rfl dX5_lengthOfNumber_26 ?_
    obtain ⟨mw_34, sw_34, nw_34, fw_34, aw_34, bw_34, cw_34, dw_34, ew_34⟩ := hAW_3 (39 + 2 * i) (by omega)
    have qw_34 : mw_34 ≤ 4096 := by rw [dw_34]; exact rmc_le _
    refine va_calli (va_runV (As := []) (rest := []) ⟨hx, hb, hml, hown, hts⟩ (c_X8_isOne l dC dI A ad cA g_7 (39 + 2 * i) hAW_3 (by omega)) (cwV 0 hts (goodIn_app (goodIn_r [Cond.methodLink RX5 114 yX8_isOne, Cond.instanceMethod yX8_isOne, Cond.selects RX8 yX8_isOne yX8_isOne, Cond.initialized RX8] [8, 9, 10, 11] rfl rfl) (goodIn_sub (fun w9 h9 => bk3 w9 h9) gw_X8_isOne)) rfl rfl rfl (by decide +kernel) ⟨Nat.le_of_ble_eq_true rfl, Nat.le_of_ble_eq_true rfl⟩) ⟨fun a U g mk q => ⟨q.1, q.2.1, q.2.2.1, LY.moved (u := U) (U := U.calling g mk a) (Vm.Alike.refl U.vm) q.2.2.2⟩, va_recv hK hP (ci := 11) (q0 := (2 * (39 + 2 * i))) rfl (wo_at (ns_w (by omega)) aw_34), fun U hU hW => ⟨rfl, by rw [hU]; exact fun q h => hA q (Nat.le_trans hS.1 h), by rw [hU]; exact hP, LY.moved hW.alike hL⟩⟩ rfl rfl hl.1 rfl (lv_room (Nat.le_of_ble_eq_true rfl)) dX5_lengthOfNumber_29 ⟨(Nat.le_of_ble_eq_true rfl), (Nat.le_of_ble_eq_true rfl)⟩) hS (fun q _ h => h) (fun q h => h) (fun r_36 u8 t8 H1 locs ht8 hvm8 hw_37 hB hz1 hk1 hS => ?_)
    obtain ⟨⟩ := u8
    try dsimp only at hw_37 hB
    rw [ht8] at hB
    have hP := hB
    generalize H1 = H at hP hS ⊢
    obtain ⟨b_35, hb_35, rfl⟩ := hw_37
    refine lv_if_eq (tgt := 39) hx hb dX5_lengthOfNumber_32 (by decide) (fun c_38 => ?_) (fun c_38 => ?_)
    · have c_38 := (nI_eq (a := b_35) (b := 0) (by omega) (by decide)).mp c_38
      refine lv_iload_n hx hb dX5_lengthOfNumber_39 rfl (lv_at hl 0 rfl) ?_
      refine lv_iconst (v := nI 1) hx hb dX5_lengthOfNumber_40 (by decide +kernel) ?_
      refine lv_iadd hx hb dX5_lengthOfNumber_41 ?_
      refine lv_topi (fun x_39 e_40 => ?_)
      obtain rfl : x_39 = nI (z_8 + 1 + 1) := e_40.trans (nI_add (z_8 + 1) 1)
      refine lv_aload_n hx hb dX5_lengthOfNumber_42 rfl (lv_at hl 1 rfl) ?_
      refine lv_aload_n hx hb dX5_lengthOfNumber_43 rfl (lv_at hl 2 rfl) ?_
      refine m_get (D := (dC, dI)) (v := .ref (ad (2 * (39 + 2 * i)))) (C := RX2) (T := TX2) (N := 2) hx hb hts bk0 hown hK hP (2118 + 2 * i) (ns_q (by omega)) f_10 rfl 1 (by decide) (hts (.fieldLink RX5 111 "GradientDesk$Fraction" "bottom" "LGradientDesk$Whole;") (List.mem_of_getElem? (i := 7) rfl)) (fun _ h9 => h9) rfl dX5_lengthOfNumber_44 ?_
      refine va_calli (va_runV (As := [.ref (ad (2 * (39 + 2 * i)))]) (rest := [.int (nI (z_8 + 1 + 1))]) ⟨hx, hb, hml, hown, hts⟩ (c_W5_find l dC dI A ad cA g_7 M (39 + 2 * i) hAW_3 hS_2 (by omega)) (cwV 1 hts (goodIn_app (goodIn_r [Cond.methodLink RX5 103 yX5_findDigits, Cond.instanceMethod yX5_findDigits, Cond.selects RX5 yX5_findDigits yX5_findDigits, Cond.initialized RX5] [2, 3, 4, 5] rfl rfl) (goodIn_sub (fun w9 h9 => bk1 w9 h9) gw_W5_find)) rfl rfl rfl (by decide +kernel) ⟨Nat.le_of_ble_eq_true rfl, Nat.le_of_ble_eq_true rfl⟩) ⟨fun a U g mk q => ⟨q.1, q.2.1, q.2.2.1, LY.moved (u := U) (U := U.calling g mk a) (Vm.Alike.refl U.vm) q.2.2.2⟩, va_recv hK hP (ci := 8) (q0 := 2097) rfl (wo_at (by decide) s12), fun U hU hW => ⟨rfl, by rw [hU]; exact fun q h => hA q (Nat.le_trans hS.1 h), by rw [hU]; exact hP, LY.moved hW.alike hL⟩⟩ rfl rfl hl.1 rfl (lv_room (Nat.le_of_ble_eq_true rfl)) dX5_lengthOfNumber_47 ⟨(Nat.le_of_ble_eq_true rfl), (Nat.le_of_ble_eq_true rfl)⟩) hS (fun q _ h => h) (fun q h => h) (fun r_44 u8 t8 H1 locs ht8 hvm8 hw_45 hB hz1 hk1 hS => ?_)
      obtain ⟨g_46, z_47⟩ := u8
      try dsimp only at hw_45 hB
      rw [ht8] at hB
      have hP := hB
      generalize H1 = H at hP hS ⊢
      obtain ⟨fr_48, hS_41, hAW_42, hr_43, hz141, hz241⟩ := hw_45
      subst hr_43
      have hsc941 := hS_41
      obtain ⟨ln41, wc41, fl41, fw41, fd41, fz41, fq41, s141, s241, s341, s441, s541, s641, s741, s841, s941, sa41, sb41⟩ := hsc941
      unfold SCO at s141
      refine lv_iadd hx hb dX5_lengthOfNumber_50 ?_
      refine lv_topi (fun x_49 e_50 => ?_)
      obtain rfl : x_49 = nI (z_8 + 1 + 1 + z_47) := e_50.trans (nI_add (z_8 + 1 + 1) z_47)
      refine W.widen (k := 0) (n := 0) (by omega) (by omega) ?_
      exact W.iret (v := nI (z_8 + 1 + 1 + z_47)) hx hb hr (fun t9 ht9 hW9 => ⟨⟨nI (z_8 + 1 + 1 + z_47), g_46, rfl, ⟨(fun (k : Nat) (hk : k < 24 ∨ (26 ≤ k ∧ k ≠ 2102)) => (fr_48 k (by omega)).trans ((fr_9 k (by omega)).trans (rfl))), hS_41, hAW_42⟩, by show va_P (dC, dI) vwCl _ t9.heap; rw [ht9]; exact hP⟩, hS.F ht9⟩) hS.2.2 dX5_lengthOfNumber_51
    · have c_38 := mt (nI_eq (a := b_35) (b := 0) (by omega) (by decide)).mpr c_38
      refine lv_iload_n hx hb dX5_lengthOfNumber_35 rfl (lv_at hl 0 rfl) ?_
      refine lv_goto (tgt := 51) hx hb dX5_lengthOfNumber_36 (by decide) ?_
      refine W.widen (k := 0) (n := 0) (by omega) (by omega) ?_
      exact W.iret (v := nI (z_8 + 1)) hx hb hr (fun t9 ht9 hW9 => ⟨⟨nI (z_8 + 1), g_7, rfl, ⟨(fun (k : Nat) (hk : k < 24 ∨ (26 ≤ k ∧ k ≠ 2102)) => (fr_9 k (by omega)).trans (rfl)), hS_2, hAW_3⟩, by show va_P (dC, dI) vwCl _ t9.heap; rw [ht9]; exact hP⟩, hS.F ht9⟩) hS.2.2 dX5_lengthOfNumber_51
def wd_W5_len : List Cond := .code yX5_lengthOf cX5_lengthOf 2 (some .int) :: (([.fieldLink RX5 79 "GradientDesk$Part" "sort" "I", .fieldLink RX5 84 "GradientDesk$Part" "number" "LGradientDesk$Fraction;", .methodLink RX5 88 yX5_lengthOfNumber, .instanceMethod yX5_lengthOfNumber, .selects RX5 yX5_lengthOfNumber yX5_lengthOfNumber, .initialized RX5, .fieldLink RX5 15 "GradientDesk$Script" "lengths" "[I", .fieldLink RX5 92 "GradientDesk$Part" "first" "I", .fieldLink RX5 95 "GradientDesk$Part" "second" "I"] : List Cond) ++ (u_ws RX3 TX3 7 ++ (wd_W5_lenN ++ (u_ws RX5 TX5 9 ++ ([])))))
theorem gw_W5_len : wd_W5_len.all goodWord = true := k_allc rfl (k_all (by decide +kernel) (k_all (gu_X3) (k_all (gw_W5_lenN) (k_all (gu_X5) (rfl)))))
set_option maxHeartbeats 4000000 in
set_option maxRecDepth 100000 in
theorem c_W5_len (l : Launch) (dC : Nat → ClassId) (dI : Nat → Nat → Nat) (A : Nat → Prop) (ad : Nat → Nat) (cA : Nat → ClassId) (g : Nat → va_E) (L : List PD) (M : Nat) (i : Nat) (hC : CS ad cA g L) (hWf : WFL L) (hSc : SCM ad cA g M) (hi : i < L.length) : Met l yX5_lengthOf wd_W5_len ({ frames := 60, cells := 0, slots := 0, locals := 1200 }) (va_Pc [.ref (ad 2097), .ref (ad (2117 + 2 * i))] (PR NSc tyc dC dI A ad cA g)) (va_Qi (fun (r : Int32) => fun (u : Nat → va_E) => match u with | g2 => (∀ k, k < 24 ∨ (26 ≤ k ∧ k ≠ 2102) → g2 k = g k) ∧ SCM ad cA g2 M ∧ AW ad cA g2) (fun (u : Nat → va_E) (t : State) => va_P (dC, dI) vwCl (wo ad NSc u) t.heap) A) (0) (0) A := by
  refine Met.ofW (cc := cX5_lengthOf) (maxL := 2) (ret := (some .int)) (by decide) rfl ?_
  intro p e s m args below meth c s₁ B hml hv
  obtain ⟨rfl, hA, hP, hL⟩ := hv
  have hx := B.exec
  have hb := B.bytes
  have hr := B.returns
  have hts := atoms_spec (ws := wd_W5_len) B.pre
  have hown : s.vm.findClass RX5 = some m.cls := findClass_of_methodNamed B.named
  have hlocks := B.notSynchronized
  have hK := hL.1
  have hD : ∀ g, va_D A (wo ad NSc g) := fun g => wo_D hL.2.1 hL.2.2 g
  have hS : va_S A s.heap s.heap [] := va_S.rf
  have bk0 : ∀ w ∈ u_ws RX3 TX3 7, w ∈ wd_W5_len := fun _ h => List.mem_cons_of_mem _ (List.mem_append_right _ (List.mem_append_left _ h))
  have bk1 : ∀ w ∈ wd_W5_lenN, w ∈ wd_W5_len := fun _ h => List.mem_cons_of_mem _ (List.mem_append_right _ (List.mem_append_right _ (List.mem_append_left _ h)))
  have bk2 : ∀ w ∈ u_ws RX5 TX5 9, w ∈ wd_W5_len := fun _ h => List.mem_cons_of_mem _ (List.mem_append_right _ (List.mem_append_right _ (List.mem_append_right _ (List.mem_append_left _ h))))
  have hl := lv_entry ([.ref (ad 2097), .ref (ad (2117 + 2 * i))]) (n := 2) (Nat.le_of_ble_eq_true rfl)
  rw [lg_entry_eq]
  generalize (lg_sl ([.ref (ad 2097), .ref (ad (2117 + 2 * i))]) ++ List.replicate (2 - (lg_sl ([.ref (ad 2097), .ref (ad (2117 + 2 * i))])).length) Slot.unset).toArray = ls at hl ⊢
  have hl : lv_has ls 2 [(0, .ref (ad 2097)), (1, .ref (ad (2117 + 2 * i)))] := hl
  have hC0 := hC
  obtain ⟨hLn, hW, ⟨hAr, hWk, hPa, hFr⟩, hO, pt, hPt, hM⟩ := hC0
  unfold CSO at hO
  have hpb := hPt.2
  obtain ⟨a0i, a1i, a2i, a3i, a4i, a5i, a6i⟩ := hM i hi
  obtain ⟨w1i, w2i, w3i, w4i, w5i, -⟩ := hWf i hi
  have hpi : g (2117 + 2 * i) = .inr (6, [.ref (ad (2118 + 2 * i)), .int (nI ((gd L i).1)), .int (iI ((gd L i).2.1)), .int (iI ((gd L i).2.2.1)), .int (nI ((gd L i).2.2.2.1)), .int (nI ((gd L i).2.2.2.2.1)), .int (nI ((gd L i).2.2.2.2.2.1))]) := by rw [hPt.1 i (by clear a6i; omega), a0i, a1i, a2i, a3i, a4i, a5i, nI_iI, nI_iI, nI_iI, nI_iI]
  obtain ⟨fni, hfni⟩ : ∃ z : Prop, z = ((gd L i).1 = 0 → CMN ad cA g (gd L i) i) := ⟨_, rfl⟩
  rw [← hfni] at a6i
  have hq_1 := hFr i (by omega)
  have hsc9 := hSc
  obtain ⟨ln, wc, fl, fw, fd, fz, fq, s1, s2, s3, s4, s5, s6, s7, s8, s9, sa, sb⟩ := hsc9
  unfold SCO at s1
  refine lv_aload_n hx hb dX5_lengthOf_0 rfl (lv_at hl 1 rfl) ?_
  refine m_get (D := (dC, dI)) (v := .int (nI ((gd L i).1))) (C := RX3) (T := TX3) (N := 7) hx hb hts bk0 hown hK hP (2117 + 2 * i) (ns_p (by omega)) hpi rfl 1 (by decide) (hts (.fieldLink RX5 79 "GradientDesk$Part" "sort" "I") (List.mem_of_getElem? (i := 1) rfl)) (fun _ h9 => h9) rfl dX5_lengthOf_1 ?_
  rcases (show ((gd L i).1) = 0 ∨ ((gd L i).1) = 1 ∨ ((gd L i).1) = 2 ∨ ((gd L i).1) = 3 ∨ ((gd L i).1) = 4 ∨ 4 < ((gd L i).1) by omega) with hsw | hsw | hsw | hsw | hsw | hsw
  · refine lv_tableIn (x := nI ((gd L i).1)) (off := 36) (tgt := 40) hx hb dX5_lengthOf_4 (by rw [hsw]; decide) (by rw [hsw]; decide) (by rw [hsw]; decide) (by decide) ?_
    refine lv_aload_n hx hb dX5_lengthOf_40 rfl (lv_at hl 0 rfl) ?_
    refine lv_aload_n hx hb dX5_lengthOf_41 rfl (lv_at hl 1 rfl) ?_
    refine m_get (D := (dC, dI)) (v := .ref (ad (2118 + 2 * i))) (C := RX3) (T := TX3) (N := 7) hx hb hts bk0 hown hK hP (2117 + 2 * i) (ns_p (by omega)) hpi rfl 0 (by decide) (hts (.fieldLink RX5 84 "GradientDesk$Part" "number" "LGradientDesk$Fraction;") (List.mem_of_getElem? (i := 2) rfl)) (fun _ h9 => h9) rfl dX5_lengthOf_42 ?_
    refine va_calli (va_runV (As := [.ref (ad (2118 + 2 * i))]) (rest := []) ⟨hx, hb, hml, hown, hts⟩ (c_W5_lenN l dC dI A ad cA g L M i hC hWf hSc (by omega)) (cwV 1 hts (goodIn_app (goodIn_r [Cond.methodLink RX5 88 yX5_lengthOfNumber, Cond.instanceMethod yX5_lengthOfNumber, Cond.selects RX5 yX5_lengthOfNumber yX5_lengthOfNumber, Cond.initialized RX5] [3, 4, 5, 6] rfl rfl) (goodIn_sub (fun w9 h9 => bk1 w9 h9) gw_W5_lenN)) rfl rfl rfl (by decide +kernel) ⟨Nat.le_of_ble_eq_true rfl, Nat.le_of_ble_eq_true rfl⟩) ⟨fun a U g mk q => ⟨q.1, q.2.1, q.2.2.1, LY.moved (u := U) (U := U.calling g mk a) (Vm.Alike.refl U.vm) q.2.2.2⟩, va_recv hK hP (ci := 8) (q0 := 2097) rfl (wo_at (by decide) s1), fun U hU hW => ⟨rfl, by rw [hU]; exact fun q h => hA q (Nat.le_trans hS.1 h), by rw [hU]; exact hP, LY.moved hW.alike hL⟩⟩ rfl rfl hl.1 rfl (lv_room (Nat.le_of_ble_eq_true rfl)) dX5_lengthOf_45 ⟨(Nat.le_of_ble_eq_true rfl), (Nat.le_of_ble_eq_true rfl)⟩) hS (fun q _ h => h) (fun q h => h) (fun r_4 u8 t8 H1 locs ht8 hvm8 hw_5 hB hz1 hk1 hS => ?_)
    obtain ⟨g_6, rfl⟩ : ∃ z, z = u8 := ⟨_, rfl⟩
    try dsimp only at hw_5 hB
    rw [ht8] at hB
    have hP := hB
    generalize H1 = H at hP hS ⊢
    obtain ⟨fr_7, hS_2, hAW_3⟩ := hw_5
    have hsc92 := hS_2
    obtain ⟨ln2, wc2, fl2, fw2, fd2, fz2, fq2, s12, s22, s32, s42, s52, s62, s72, s82, s92, sa2, sb2⟩ := hsc92
    unfold SCO at s12
    refine W.widen (k := 0) (n := 0) (by omega) (by omega) ?_
    exact W.iret (v := r_4) hx hb hr (fun t9 ht9 hW9 => ⟨⟨r_4, g_6, rfl, ⟨(fun (k : Nat) (hk : k < 24 ∨ (26 ≤ k ∧ k ≠ 2102)) => (fr_7 k (by omega)).trans (rfl)), hS_2, hAW_3⟩, by show va_P (dC, dI) vwCl _ t9.heap; rw [ht9]; exact hP⟩, hS.F ht9⟩) hS.2.2 dX5_lengthOf_48
  · refine lv_tableIn (x := nI ((gd L i).1)) (off := 45) (tgt := 49) hx hb dX5_lengthOf_4 (by rw [hsw]; decide) (by rw [hsw]; decide) (by rw [hsw]; decide) (by decide) ?_
    refine lv_iconst (v := nI 1) hx hb dX5_lengthOf_49 (by decide +kernel) ?_
    refine W.widen (k := 0) (n := 0) (by omega) (by omega) ?_
    exact W.iret (v := nI 1) hx hb hr (fun t9 ht9 hW9 => ⟨⟨nI 1, g, rfl, ⟨(fun (k : Nat) (hk : k < 24 ∨ (26 ≤ k ∧ k ≠ 2102)) => rfl), hSc, hW⟩, by show va_P (dC, dI) vwCl _ t9.heap; rw [ht9]; exact hP⟩, hS.F ht9⟩) hS.2.2 dX5_lengthOf_50
  · refine lv_tableIn (x := nI ((gd L i).1)) (off := 59) (tgt := 63) hx hb dX5_lengthOf_4 (by rw [hsw]; decide) (by rw [hsw]; decide) (by rw [hsw]; decide) (by decide) ?_
    refine lv_aload_n hx hb dX5_lengthOf_63 rfl (lv_at hl 0 rfl) ?_
    refine m_get (D := (dC, dI)) (v := .ref (ad 2099)) (C := RX5) (T := TX5) (N := 9) hx hb hts bk2 hown hK hP 2097 (by decide) s1 rfl 3 (by decide) (hts (.fieldLink RX5 15 "GradientDesk$Script" "lengths" "[I") (List.mem_of_getElem? (i := 7) rfl)) (fun _ h9 => h9) rfl dX5_lengthOf_64 ?_
    refine lv_aload_n hx hb dX5_lengthOf_67 rfl (lv_at hl 1 rfl) ?_
    refine m_get (D := (dC, dI)) (v := .int (iI ((gd L i).2.1))) (C := RX3) (T := TX3) (N := 7) hx hb hts bk0 hown hK hP (2117 + 2 * i) (ns_p (by omega)) hpi rfl 2 (by decide) (hts (.fieldLink RX5 92 "GradientDesk$Part" "first" "I") (List.mem_of_getElem? (i := 8) rfl)) (fun _ h9 => h9) rfl dX5_lengthOf_68 ?_
    obtain ⟨oa, hoa, eoa⟩ := hWf.op1 hi (by omega)
    refine lv_topi (fun x_8 e_9 => ?_)
    obtain rfl : x_8 = nI oa := e_9.trans (by rw [eoa]; exact (nI_iI _).symm)
    refine m_iald hx hb hK hP 2099 (by decide) rfl s6 (i := oa) (by omega) (by decide) dX5_lengthOf_71 ?_
    refine lv_topi (fun x_10 e_11 => ?_)
    refine lv_aload_n hx hb dX5_lengthOf_72 rfl (lv_at hl 0 rfl) ?_
    refine m_get (D := (dC, dI)) (v := .ref (ad 2099)) (C := RX5) (T := TX5) (N := 9) hx hb hts bk2 hown hK hP 2097 (by decide) s1 rfl 3 (by decide) (hts (.fieldLink RX5 15 "GradientDesk$Script" "lengths" "[I") (List.mem_of_getElem? (i := 7) rfl)) (fun _ h9 => h9) rfl dX5_lengthOf_73 ?_
    refine lv_aload_n hx hb dX5_lengthOf_76 rfl (lv_at hl 1 rfl) ?_
    refine m_get (D := (dC, dI)) (v := .int (iI ((gd L i).2.2.1))) (C := RX3) (T := TX3) (N := 7) hx hb hts bk0 hown hK hP (2117 + 2 * i) (ns_p (by omega)) hpi rfl 3 (by decide) (hts (.fieldLink RX5 95 "GradientDesk$Part" "second" "I") (List.mem_of_getElem? (i := 9) rfl)) (fun _ h9 => h9) rfl dX5_lengthOf_77 ?_
    obtain ⟨ob, hob, eob⟩ := hWf.op2 hi (by omega)
    refine lv_topi (fun x_12 e_13 => ?_)
    obtain rfl : x_12 = nI ob := e_13.trans (by rw [eob]; exact (nI_iI _).symm)
    refine m_iald hx hb hK hP 2099 (by decide) rfl s6 (i := ob) (by omega) (by decide) dX5_lengthOf_80 ?_
    refine lv_topi (fun x_14 e_15 => ?_)
    refine lv_iadd hx hb dX5_lengthOf_81 ?_
    refine lv_topi (fun x_16 e_17 => ?_)
    refine lv_iconst (v := nI 3) hx hb dX5_lengthOf_82 (by decide +kernel) ?_
    refine lv_iadd hx hb dX5_lengthOf_83 ?_
    refine lv_topi (fun x_18 e_19 => ?_)
    refine W.widen (k := 0) (n := 0) (by omega) (by omega) ?_
    exact W.iret (v := x_18) hx hb hr (fun t9 ht9 hW9 => ⟨⟨x_18, g, rfl, ⟨(fun (k : Nat) (hk : k < 24 ∨ (26 ≤ k ∧ k ≠ 2102)) => rfl), hSc, hW⟩, by show va_P (dC, dI) vwCl _ t9.heap; rw [ht9]; exact hP⟩, hS.F ht9⟩) hS.2.2 dX5_lengthOf_84
  · refine lv_tableIn (x := nI ((gd L i).1)) (off := 59) (tgt := 63) hx hb dX5_lengthOf_4 (by rw [hsw]; decide) (by rw [hsw]; decide) (by rw [hsw]; decide) (by decide) ?_
    refine lv_aload_n hx hb dX5_lengthOf_63 rfl (lv_at hl 0 rfl) ?_
    refine m_get (D := (dC, dI)) (v := .ref (ad 2099)) (C := RX5) (T := TX5) (N := 9) hx hb hts bk2 hown hK hP 2097 (by decide) s1 rfl 3 (by decide) (hts (.fieldLink RX5 15 "GradientDesk$Script" "lengths" "[I") (List.mem_of_getElem? (i := 7) rfl)) (fun _ h9 => h9) rfl dX5_lengthOf_64 ?_
    refine lv_aload_n hx hb dX5_lengthOf_67 rfl (lv_at hl 1 rfl) ?_
    refine m_get (D := (dC, dI)) (v := .int (iI ((gd L i).2.1))) (C := RX3) (T := TX3) (N := 7) hx hb hts bk0 hown hK hP (2117 + 2 * i) (ns_p (by omega)) hpi rfl 2 (by decide) (hts (.fieldLink RX5 92 "GradientDesk$Part" "first" "I") (List.mem_of_getElem? (i := 8) rfl)) (fun _ h9 => h9) rfl dX5_lengthOf_68 ?_
    obtain ⟨oa, hoa, eoa⟩ := hWf.op1 hi (by omega)
    refine lv_topi (fun x_20 e_21 => ?_)
    obtain rfl : x_20 = nI oa := e_21.trans (by rw [eoa]; exact (nI_iI _).symm)
    refine m_iald hx hb hK hP 2099 (by decide) rfl s6 (i := oa) (by omega) (by decide) dX5_lengthOf_71 ?_
    refine lv_topi (fun x_22 e_23 => ?_)
    refine lv_aload_n hx hb dX5_lengthOf_72 rfl (lv_at hl 0 rfl) ?_
    refine m_get (D := (dC, dI)) (v := .ref (ad 2099)) (C := RX5) (T := TX5) (N := 9) hx hb hts bk2 hown hK hP 2097 (by decide) s1 rfl 3 (by decide) (hts (.fieldLink RX5 15 "GradientDesk$Script" "lengths" "[I") (List.mem_of_getElem? (i := 7) rfl)) (fun _ h9 => h9) rfl dX5_lengthOf_73 ?_
    refine lv_aload_n hx hb dX5_lengthOf_76 rfl (lv_at hl 1 rfl) ?_
    refine m_get (D := (dC, dI)) (v := .int (iI ((gd L i).2.2.1))) (C := RX3) (T := TX3) (N := 7) hx hb hts bk0 hown hK hP (2117 + 2 * i) (ns_p (by omega)) hpi rfl 3 (by decide) (hts (.fieldLink RX5 95 "GradientDesk$Part" "second" "I") (List.mem_of_getElem? (i := 9) rfl)) (fun _ h9 => h9) rfl dX5_lengthOf_77 ?_
    obtain ⟨ob, hob, eob⟩ := hWf.op2 hi (by omega)
    refine lv_topi (fun x_24 e_25 => ?_)
    obtain rfl : x_24 = nI ob := e_25.trans (by rw [eob]; exact (nI_iI _).symm)
    refine m_iald hx hb hK hP 2099 (by decide) rfl s6 (i := ob) (by omega) (by decide) dX5_lengthOf_80 ?_
    refine lv_topi (fun x_26 e_27 => ?_)
    refine lv_iadd hx hb dX5_lengthOf_81 ?_
    refine lv_topi (fun x_28 e_29 => ?_)
    refine lv_iconst (v := nI 3) hx hb dX5_lengthOf_82 (by decide +kernel) ?_
    refine lv_iadd hx hb dX5_lengthOf_83 ?_
    refine lv_topi (fun x_30 e_31 => ?_)
    refine W.widen (k := 0) (n := 0) (by omega) (by omega) ?_
    exact W.iret (v := x_30) hx hb hr (fun t9 ht9 hW9 => ⟨⟨x_30, g, rfl, ⟨(fun (k : Nat) (hk : k < 24 ∨ (26 ≤ k ∧ k ≠ 2102)) => rfl), hSc, hW⟩, by show va_P (dC, dI) vwCl _ t9.heap; rw [ht9]; exact hP⟩, hS.F ht9⟩) hS.2.2 dX5_lengthOf_84
  · refine lv_tableIn (x := nI ((gd L i).1)) (off := 47) (tgt := 51) hx hb dX5_lengthOf_4 (by rw [hsw]; decide) (by rw [hsw]; decide) (by rw [hsw]; decide) (by decide) ?_
    refine lv_aload_n hx hb dX5_lengthOf_51 rfl (lv_at hl 0 rfl) ?_
    refine m_get (D := (dC, dI)) (v := .ref (ad 2099)) (C := RX5) (T := TX5) (N := 9) hx hb hts bk2 hown hK hP 2097 (by decide) s1 rfl 3 (by decide) (hts (.fieldLink RX5 15 "GradientDesk$Script" "lengths" "[I") (List.mem_of_getElem? (i := 7) rfl)) (fun _ h9 => h9) rfl dX5_lengthOf_52 ?_
    refine lv_aload_n hx hb dX5_lengthOf_55 rfl (lv_at hl 1 rfl) ?_
    refine m_get (D := (dC, dI)) (v := .int (iI ((gd L i).2.1))) (C := RX3) (T := TX3) (N := 7) hx hb hts bk0 hown hK hP (2117 + 2 * i) (ns_p (by omega)) hpi rfl 2 (by decide) (hts (.fieldLink RX5 92 "GradientDesk$Part" "first" "I") (List.mem_of_getElem? (i := 8) rfl)) (fun _ h9 => h9) rfl dX5_lengthOf_56 ?_
    obtain ⟨oa, hoa, eoa⟩ := hWf.op1 hi (by omega)
    refine lv_topi (fun x_32 e_33 => ?_)
    obtain rfl : x_32 = nI oa := e_33.trans (by rw [eoa]; exact (nI_iI _).symm)
    refine m_iald hx hb hK hP 2099 (by decide) rfl s6 (i := oa) (by omega) (by decide) dX5_lengthOf_59 ?_
    refine lv_topi (fun x_34 e_35 => ?_)
    refine lv_iconst (v := nI 2) hx hb dX5_lengthOf_60 (by decide +kernel) ?_
    refine lv_iadd hx hb dX5_lengthOf_61 ?_
    refine lv_topi (fun x_36 e_37 => ?_)
    refine W.widen (k := 0) (n := 0) (by omega) (by omega) ?_
    exact W.iret (v := x_36) hx hb hr (fun t9 ht9 hW9 => ⟨⟨x_36, g, rfl, ⟨(fun (k : Nat) (hk : k < 24 ∨ (26 ≤ k ∧ k ≠ 2102)) => rfl), hSc, hW⟩, by show va_P (dC, dI) vwCl _ t9.heap; rw [ht9]; exact hP⟩, hS.F ht9⟩) hS.2.2 dX5_lengthOf_62
  · refine lv_tableOut (x := nI ((gd L i).1)) (tgt := 63) hx hb dX5_lengthOf_4 (Or.inr (by rw [nI_toInt (by omega)]; omega)) (by decide) ?_
    refine lv_aload_n hx hb dX5_lengthOf_63 rfl (lv_at hl 0 rfl) ?_
    refine m_get (D := (dC, dI)) (v := .ref (ad 2099)) (C := RX5) (T := TX5) (N := 9) hx hb hts bk2 hown hK hP 2097 (by decide) s1 rfl 3 (by decide) (hts (.fieldLink RX5 15 "GradientDesk$Script" "lengths" "[I") (List.mem_of_getElem? (i := 7) rfl)) (fun _ h9 => h9) rfl dX5_lengthOf_64 ?_
    refine lv_aload_n hx hb dX5_lengthOf_67 rfl (lv_at hl 1 rfl) ?_
    refine m_get (D := (dC, dI)) (v := .int (iI ((gd L i).2.1))) (C := RX3) (T := TX3) (N := 7) hx hb hts bk0 hown hK hP (2117 + 2 * i) (ns_p (by omega)) hpi rfl 2 (by decide) (hts (.fieldLink RX5 92 "GradientDesk$Part" "first" "I") (List.mem_of_getElem? (i := 8) rfl)) (fun _ h9 => h9) rfl dX5_lengthOf_68 ?_
    obtain ⟨oa, hoa, eoa⟩ := hWf.op1 hi (by omega)
    refine lv_topi (fun x_38 e_39 => ?_)
    obtain rfl : x_38 = nI oa := e_39.trans (by rw [eoa]; exact (nI_iI _).symm)
    refine m_iald hx hb hK hP 2099 (by decide) rfl s6 (i := oa) (by omega) (by decide) dX5_lengthOf_71 ?_
    refine lv_topi (fun x_40 e_41 => ?_)
    refine lv_aload_n hx hb dX5_lengthOf_72 rfl (lv_at hl 0 rfl) ?_
    refine m_get (D := (dC, dI)) (v := .ref (ad 2099)) (C := RX5) (T := TX5) (N := 9) hx hb hts bk2 hown hK hP 2097 (by decide) s1 rfl 3 (by decide) (hts (.fieldLink RX5 15 "GradientDesk$Script" "lengths" "[I") (List.mem_of_getElem? (i := 7) rfl)) (fun _ h9 => h9) rfl dX5_lengthOf_73 ?_
    refine lv_aload_n hx hb dX5_lengthOf_76 rfl (lv_at hl 1 rfl) ?_
    refine m_get (D := (dC, dI)) (v := .int (iI ((gd L i).2.2.1))) (C := RX3) (T := TX3) (N := 7) hx hb hts bk0 hown hK hP (2117 + 2 * i) (ns_p (by omega)) hpi rfl 3 (by decide) (hts (.fieldLink RX5 95 "GradientDesk$Part" "second" "I") (List.mem_of_getElem? (i := 9) rfl)) (fun _ h9 => h9) rfl dX5_lengthOf_77 ?_
    obtain ⟨ob, hob, eob⟩ := hWf.op2 hi (by omega)
    refine lv_topi (fun x_42 e_43 => ?_)
    obtain rfl : x_42 = nI ob := e_43.trans (by rw [eob]; exact (nI_iI _).symm)
    refine m_iald hx hb hK hP 2099 (by decide) rfl s6 (i := ob) (by omega) (by decide) dX5_lengthOf_80 ?_
    refine lv_topi (fun x_44 e_45 => ?_)
    refine lv_iadd hx hb dX5_lengthOf_81 ?_
    refine lv_topi (fun x_46 e_47 => ?_)
    refine lv_iconst (v := nI 3) hx hb dX5_lengthOf_82 (by decide +kernel) ?_
    refine lv_iadd hx hb dX5_lengthOf_83 ?_
    refine lv_topi (fun x_48 e_49 => ?_)
    refine W.widen (k := 0) (n := 0) (by omega) (by omega) ?_
    exact W.iret (v := x_48) hx hb hr (fun t9 ht9 hW9 => ⟨⟨x_48, g, rfl, ⟨(fun (k : Nat) (hk : k < 24 ∨ (26 ≤ k ∧ k ≠ 2102)) => rfl), hSc, hW⟩, by show va_P (dC, dI) vwCl _ t9.heap; rw [ht9]; exact hP⟩, hS.F ht9⟩) hS.2.2 dX5_lengthOf_84
def wd_W5_put : List Cond := .code yX5_put cX5_put 3 (some .int) :: (([.fieldLink RX5 37 "GradientDesk$Script" "shelf" "LGradientDesk$Shelf;", .methodLink RX5 41 yX6_mark, .instanceMethod yX6_mark, .selects RX6 yX6_mark yX6_mark, .initialized RX6, .fieldLink RX5 15 "GradientDesk$Script" "lengths" "[I", .fieldLink RX5 65 "GradientDesk$Script" "length" "I", .fieldLink RX5 69 "GradientDesk$Script" "waitingCount" "I", .methodLink RX5 72 yX5_await, .instanceMethod yX5_await, .selects RX5 yX5_await yX5_await, .initialized RX5, .fieldLink RX5 19 "GradientDesk$Script" "waiting" "[I", .fieldLink RX5 22 "GradientDesk$Script" "places" "[I", .methodLink RX5 76 yX5_putPiece, .instanceMethod yX5_putPiece, .selects RX5 yX5_putPiece yX5_putPiece, .fieldLink RX5 47 "GradientDesk$Shelf" "marked" "[Z", .fieldLink RX5 51 "GradientDesk$Shelf" "parts" "[LGradientDesk$Part;", .methodLink RX5 55 yX5_lengthOf, .instanceMethod yX5_lengthOf, .selects RX5 yX5_lengthOf yX5_lengthOf, .methodLink RX5 59 Lib.Math.min.name, .static Lib.Math.min.name, .initialized "java/lang/Math", .code Lib.Math.min.name Lib.Math.min.code 2 (some .int)] : List Cond) ++ (u_ws RX5 TX5 9 ++ (wd_V6_mark ++ (wd_W5_await ++ (wd_W5_piece ++ (u_ws RX6 TX6 7 ++ (wd_W5_len ++ ([]))))))))
theorem gw_W5_put : wd_W5_put.all goodWord = true := k_allc rfl (k_all (by decide +kernel) (k_all (gu_X5) (k_all (gw_V6_mark) (k_all (gw_W5_await) (k_all (gw_W5_piece) (k_all (gu_X6) (k_all (gw_W5_len) (rfl))))))))
set_option maxHeartbeats 4000000 in
set_option maxRecDepth 100000 in
theorem c_W5_put (l : Launch) (dC : Nat → ClassId) (dI : Nat → Nat → Nat) (A : Nat → Prop) (ad : Nat → Nat) (cA : Nat → ClassId) (g : Nat → va_E) (L : List PD) (root : Nat) (hC : CS ad cA g L) (hWf : WFL L) (hMk : MRK cA g) (hSe : SCE ad cA g) (hrt : root < L.length) : Met l yX5_put wd_W5_put ({ frames := 90, cells := 0, slots := 0, locals := 1800 }) (va_Pc [.ref (ad 2097), .int (nI root)] (PR NSc tyc dC dI A ad cA g)) (va_Qi (fun (r : Int32) => fun (u : Nat → va_E) => match u with | g2 => (∀ k, k < 24 ∨ (26 ≤ k ∧ k < 2082) ∨ (2083 ≤ k ∧ k < 2097) ∨ 2103 ≤ k → g2 k = g k) ∧ AW ad cA g2 ∧ MRK cA g2 ∧ SCE ad cA g2) (fun (u : Nat → va_E) (t : State) => va_P (dC, dI) vwCl (wo ad NSc u) t.heap) A) (0) (0) A := by
  refine Met.ofW (cc := cX5_put) (maxL := 3) (ret := (some .int)) (by decide) rfl ?_
  intro p e s m args below meth c s₁ B hml hv
  obtain ⟨rfl, hA, hP, hL⟩ := hv
  have hx := B.exec
  have hb := B.bytes
  have hr := B.returns
  have hts := atoms_spec (ws := wd_W5_put) B.pre
  have hown : s.vm.findClass RX5 = some m.cls := findClass_of_methodNamed B.named
  have hlocks := B.notSynchronized
  have hK := hL.1
  have hD : ∀ g, va_D A (wo ad NSc g) := fun g => wo_D hL.2.1 hL.2.2 g
  have hS : va_S A s.heap s.heap [] := va_S.rf
  have bk0 : ∀ w ∈ u_ws RX5 TX5 9, w ∈ wd_W5_put := fun _ h => List.mem_cons_of_mem _ (List.mem_append_right _ (List.mem_append_left _ h))
  have bk1 : ∀ w ∈ wd_V6_mark, w ∈ wd_W5_put := fun _ h => List.mem_cons_of_mem _ (List.mem_append_right _ (List.mem_append_right _ (List.mem_append_left _ h)))
  have bk2 : ∀ w ∈ wd_W5_await, w ∈ wd_W5_put := fun _ h => List.mem_cons_of_mem _ (List.mem_append_right _ (List.mem_append_right _ (List.mem_append_right _ (List.mem_append_left _ h))))
  have bk3 : ∀ w ∈ wd_W5_piece, w ∈ wd_W5_put := fun _ h => List.mem_cons_of_mem _ (List.mem_append_right _ (List.mem_append_right _ (List.mem_append_right _ (List.mem_append_right _ (List.mem_append_left _ h)))))
  have bk4 : ∀ w ∈ u_ws RX6 TX6 7, w ∈ wd_W5_put := fun _ h => List.mem_cons_of_mem _ (List.mem_append_right _ (List.mem_append_right _ (List.mem_append_right _ (List.mem_append_right _ (List.mem_append_right _ (List.mem_append_left _ h))))))
  have bk5 : ∀ w ∈ wd_W5_len, w ∈ wd_W5_put := fun _ h => List.mem_cons_of_mem _ (List.mem_append_right _ (List.mem_append_right _ (List.mem_append_right _ (List.mem_append_right _ (List.mem_append_right _ (List.mem_append_right _ (List.mem_append_left _ h)))))))
  have hl := lv_entry ([.ref (ad 2097), .int (nI root)]) (n := 3) (Nat.le_of_ble_eq_true rfl)
  rw [lg_entry_eq]
  generalize (lg_sl ([.ref (ad 2097), .int (nI root)]) ++ List.replicate (3 - (lg_sl ([.ref (ad 2097), .int (nI root)])).length) Slot.unset).toArray = ls at hl ⊢
  have hl : lv_has ls 3 [(0, .ref (ad 2097)), (1, .int (nI root))] := hl
  have hC0 := hC
  obtain ⟨hLn, hW, ⟨hAr, hWk, hPa, hFr⟩, hO, pt, hPt, hM⟩ := hC0
  unfold CSO at hO
  have hpb := hPt.2
  obtain ⟨mk0, h82, hmb⟩ := hMk
  obtain ⟨M0, hSc⟩ := hSe
  have hsc9 := hSc
  obtain ⟨ln, wc, fl, fw, fd, fz, fq, s1, s2, s3, s4, s5, s6, s7, s8, s9, sa, sb⟩ := hsc9
  unfold SCO at s1
  refine lv_aload_n hx hb dX5_put_0 rfl (lv_at hl 0 rfl) ?_
  refine m_get (D := (dC, dI)) (v := .ref (ad 2080)) (C := RX5) (T := TX5) (N := 9) hx hb hts bk0 hown hK hP 2097 (by decide) s1 rfl 2 (by decide) (hts (.fieldLink RX5 37 "GradientDesk$Script" "shelf" "LGradientDesk$Shelf;") (List.mem_of_getElem? (i := 1) rfl)) (fun _ h9 => h9) rfl dX5_put_1 ?_
  refine lv_iload_n hx hb dX5_put_4 rfl (lv_at hl 1 rfl) ?_
  refine va_calli (va_runV (As := [.int (nI root)]) (rest := []) ⟨hx, hb, hml, hown, hts⟩ (c_V6_mark l dC dI A ad cA g L root mk0 hC hWf hrt h82 hmb) (cwV 1 hts (goodIn_app (goodIn_r [Cond.methodLink RX5 41 yX6_mark, Cond.instanceMethod yX6_mark, Cond.selects RX6 yX6_mark yX6_mark, Cond.initialized RX6] [2, 3, 4, 5] rfl rfl) (goodIn_sub (fun w9 h9 => bk1 w9 h9) gw_V6_mark)) rfl rfl rfl (by decide +kernel) ⟨Nat.le_of_ble_eq_true rfl, Nat.le_of_ble_eq_true rfl⟩) ⟨fun a U g mk q => ⟨q.1, q.2.1, q.2.2.1, LY.moved (u := U) (U := U.calling g mk a) (Vm.Alike.refl U.vm) q.2.2.2⟩, va_recv hK hP (ci := 9) (q0 := 2080) rfl (wo_at (by decide) hO), fun U hU hW => ⟨rfl, by rw [hU]; exact fun q h => hA q (Nat.le_trans hS.1 h), by rw [hU]; exact hP, LY.moved hW.alike hL⟩⟩ rfl rfl hl.1 rfl (lv_room (Nat.le_of_ble_eq_true rfl)) dX5_put_5 ⟨(Nat.le_of_ble_eq_true rfl), (Nat.le_of_ble_eq_true rfl)⟩) hS (fun q _ h => h) (fun q h => h) (fun r_1 u8 t8 H1 locs ht8 hvm8 hw_2 hB hz1 hk1 hS => ?_)
  obtain ⟨g_3, mk2_4⟩ := u8
  try dsimp only at hw_2 hB
  rw [ht8] at hB
  have hP := hB
  generalize H1 = H at hP hS ⊢
  obtain ⟨fr_5, h82b, hmbb, -, -⟩ := hw_2
  have hSm := hSc.same (fun (k : Nat) (hk : 2097 ≤ k ∧ k ≤ 2102) => (fr_5 k (by omega)).trans (rfl))
  refine lv_pop hx hb dX5_put_8 rfl ?_
  refine lv_iconst (v := nI 0) hx hb dX5_put_9 (by decide +kernel) ?_
  refine lv_istore_n (lv' := [(2, .int (nI 0)), (0, .ref (ad 2097)), (1, .int (nI root))]) hx hb dX5_put_10 rfl hl (by decide) rfl (fun ls hl => ?_)
  have loop_6 : ∀ (k9 : Nat) (i : Nat) (g_8 : Nat → va_E) (fr_9 : ∀ k, (k < 24 ∨ (26 ≤ k ∧ k ≠ 2099 ∧ k ≠ 2102)) → g_8 k = g_3 k), 300 - i < k9 → (i ≤ root + 1) → (AW ad cA g_8) → (SCM ad cA g_8 M0) → ∀ (H : Heap) (locs : List Loc) (ls : Array Slot), va_P (dC, dI) vwCl (wo ad NSc g_8) H → va_S A s.heap H locs → lv_has ls 3 [(0, .ref (ad 2097)), (1, .int (nI root)), (2, .int (nI i))] → W p l e (headSpec wd_W5_put ({ frames := 90, cells := 0, slots := 0, locals := 1800 })).room s m ([.ref (ad 2097), .int (nI root)] : List Value).toArray below meth c H locs (0) (0) (MQ below (va_Qi (fun (r : Int32) => fun (u : Nat → va_E) => match u with | g2 => (∀ k, k < 24 ∨ (26 ≤ k ∧ k < 2082) ∨ (2083 ≤ k ∧ k < 2097) ∨ 2103 ≤ k → g2 k = g k) ∧ AW ad cA g2 ∧ MRK cA g2 ∧ SCE ad cA g2) (fun (u : Nat → va_E) (t : State) => va_P (dC, dI) vwCl (wo ad NSc u) t.heap) A) ([.ref (ad 2097), .int (nI root)] : List Value).toArray s (0) (0) A) (F0 m 11 ls []) := by
    intro k9
    induction k9 with
    | zero => intro i g_8 fr_9 h9; exact absurd h9 (Nat.not_lt_zero _)
    | succ k9 ih_7 =>
      intro i g_8 fr_9 h9 hi hAL hSl H locs ls hP hS hl
      have hsc9l := hSl
      obtain ⟨lnl, wcl, fll, fwl, fdl, fzl, fql, s1l, s2l, s3l, s4l, s5l, s6l, s7l, s8l, s9l, sal, sbl⟩ := hsc9l
      unfold SCO at s1l
      refine lv_iload_n hx hb dX5_put_11 rfl (lv_at hl 2 rfl) ?_
      refine lv_iload_n hx hb dX5_put_12 rfl (lv_at hl 1 rfl) ?_
      refine lv_icmp_gt (tgt := 59) hx hb dX5_put_13 (by decide) (fun c_10 => ?_) (fun c_10 => ?_)
      · have c_10 := (nI_ltI (a := root) (b := i) (by omega) (by omega)).mp c_10
        refine lv_aload_n hx hb dX5_put_59 rfl (lv_at hl 0 rfl) ?_
        refine m_get (D := (dC, dI)) (v := .ref (ad 2099)) (C := RX5) (T := TX5) (N := 9) hx hb hts bk0 hown hK hP 2097 (by decide) s1l rfl 3 (by decide) (hts (.fieldLink RX5 15 "GradientDesk$Script" "lengths" "[I") (List.mem_of_getElem? (i := 6) rfl)) (fun _ h9 => h9) rfl dX5_put_60 ?_
        refine lv_iload_n hx hb dX5_put_63 rfl (lv_at hl 1 rfl) ?_
        refine m_iald hx hb hK hP 2099 (by decide) rfl s6l (i := root) (by omega) (by decide) dX5_put_64 ?_
        refine lv_topi (fun x_11 e_12 => ?_)
        refine lv_sipush (v := nI 250) hx hb dX5_put_65 (by decide +kernel) ?_
        refine lv_icmp_le (tgt := 74) hx hb dX5_put_68 (by decide) (fun c_13 => ?_) (fun c_13 => ?_)
        · have c_13 := (k_le x_11 (nI 250)).mp c_13
          rw [show (nI 250).toInt = 250 from by decide] at c_13
          refine lv_aload_n hx hb dX5_put_74 rfl (lv_at hl 0 rfl) ?_
          refine lv_aload_n hx hb dX5_put_75 rfl (lv_at hl 0 rfl) ?_
          refine m_get (D := (dC, dI)) (v := .ref (ad 2099)) (C := RX5) (T := TX5) (N := 9) hx hb hts bk0 hown hK hP 2097 (by decide) s1l rfl 3 (by decide) (hts (.fieldLink RX5 15 "GradientDesk$Script" "lengths" "[I") (List.mem_of_getElem? (i := 6) rfl)) (fun _ h9 => h9) rfl dX5_put_76 ?_
          refine lv_iload_n hx hb dX5_put_79 rfl (lv_at hl 1 rfl) ?_
          refine m_iald hx hb hK hP 2099 (by decide) rfl s6l (i := root) (by omega) (by decide) dX5_put_80 ?_
          refine lv_topi (fun x_14 e_15 => ?_)
          have hln : x_14.toInt ≤ 250 := by rw [e_15, ← e_12]; omega
          refine m_put (D := (dC, dI)) (v := .int x_14) (tv := .int) (C := RX5) (T := TX5) (N := 9) hx hb hts bk0 tyX5 tyX5_ok nmX5 hown hK hP hD hS 2097 (by decide) s1l rfl 1 (by decide) (hts (.fieldLink RX5 65 "GradientDesk$Script" "length" "I") (List.mem_of_getElem? (i := 7) rfl)) (fun _ h9 => h9) rfl (by decide +kernel) rfl rfl (Nat.le_of_ble_eq_true rfl) dX5_put_81 (fun H locs g_16 f_17 fr_18 hP hS => ?_)
          have f_17 : g_16 2097 = .inr (8, [.ref (ad 2098), .int x_14, .ref (ad 2080), .ref (ad 2099), .ref (ad 2100), .ref (ad 2101), .ref (ad 2102), .ref (ad (2 * 12)), .int (nI wcl)]) := f_17
          refine lv_aload_n hx hb dX5_put_84 rfl (lv_at hl 0 rfl) ?_
          refine lv_iconst (v := nI 0) hx hb dX5_put_85 (by decide +kernel) ?_
          refine m_put (D := (dC, dI)) (v := .int (nI 0)) (tv := .int) (C := RX5) (T := TX5) (N := 9) hx hb hts bk0 tyX5 tyX5_ok nmX5 hown hK hP hD hS 2097 (by decide) f_17 rfl 8 (by decide) (hts (.fieldLink RX5 69 "GradientDesk$Script" "waitingCount" "I") (List.mem_of_getElem? (i := 8) rfl)) (fun _ h9 => h9) rfl (by decide +kernel) rfl rfl (Nat.le_of_ble_eq_true rfl) dX5_put_86 (fun H locs g_19 f_20 fr_21 hP hS => ?_)
          have f_20 : g_19 2097 = .inr (8, [.ref (ad 2098), .int x_14, .ref (ad 2080), .ref (ad 2099), .ref (ad 2100), .ref (ad 2101), .ref (ad 2102), .ref (ad (2 * 12)), .int (nI 0)]) := f_20
          refine lv_aload_n hx hb dX5_put_89 rfl (lv_at hl 0 rfl) ?_
          refine lv_iload_n hx hb dX5_put_90 rfl (lv_at hl 1 rfl) ?_
          refine lv_iconst (v := nI 0) hx hb dX5_put_91 (by decide +kernel) ?_
          have f_23 : g_19 2098 = .inl (cA 2098, 250, .inl (fun j => nI (fll j))) := (fr_21 2098 (by omega)).trans ((fr_18 2098 (by omega)).trans s4l)
          have f_24 : g_19 2099 = .inl (cA 2099, 200, .inl fzl) := (fr_21 2099 (by omega)).trans ((fr_18 2099 (by omega)).trans s6l)
          have f_25 : g_19 2100 = .inl (cA 2100, 250, .inl (fun j => nI (fwl j))) := (fr_21 2100 (by omega)).trans ((fr_18 2100 (by omega)).trans s7l)
          have f_26 : g_19 2101 = .inl (cA 2101, 250, .inl fql) := (fr_21 2101 (by omega)).trans ((fr_18 2101 (by omega)).trans s8l)
          have f_27 : g_19 2102 = .inl (cA 2102, 135, .inl (fun j => nI (fdl j))) := (fr_21 2102 (by omega)).trans ((fr_18 2102 (by omega)).trans s9l)
          have hS0 : SCM ad cA g_19 L.length := ⟨x_14, 0, fll, fwl, fdl, fzl, fql, f_20, hln, (by decide), f_23, s5l, f_24, f_25, f_26, f_27, sal, (fun j hj => absurd hj (Nat.not_lt_zero _))⟩
          refine va_callv (va_runV (As := [.int (nI root), .int (nI 0)]) (rest := []) ⟨hx, hb, hml, hown, hts⟩ (c_W5_await l dC dI A ad cA g_19 L.length root (nI 0) hS0 hrt) (cwV 2 hts (goodIn_app (goodIn_r [Cond.methodLink RX5 72 yX5_await, Cond.instanceMethod yX5_await, Cond.selects RX5 yX5_await yX5_await, Cond.initialized RX5] [9, 10, 11, 12] rfl rfl) (goodIn_sub (fun w9 h9 => bk2 w9 h9) gw_W5_await)) rfl rfl rfl (by decide +kernel) ⟨Nat.le_of_ble_eq_true rfl, Nat.le_of_ble_eq_true rfl⟩) ⟨fun a U g mk q => ⟨q.1, q.2.1, q.2.2.1, LY.moved (u := U) (U := U.calling g mk a) (Vm.Alike.refl U.vm) q.2.2.2⟩, va_recv hK hP (ci := 8) (q0 := 2097) rfl (wo_at (by decide) f_20), fun U hU hW => ⟨rfl, by rw [hU]; exact fun q h => hA q (Nat.le_trans hS.1 h), by rw [hU]; exact hP, LY.moved hW.alike hL⟩⟩ rfl rfl hl.1 rfl (lv_room (Nat.le_of_ble_eq_true rfl)) dX5_put_92 ⟨(Nat.le_of_ble_eq_true rfl), (Nat.le_of_ble_eq_true rfl)⟩) hS (fun q _ h => h) (fun q h => h) (fun u8 t8 H1 locs ht8 hvm8 hw_28 hB hz1 hk1 hS => ?_)
          obtain ⟨g_29, rfl⟩ : ∃ z, z = u8 := ⟨_, rfl⟩
          try dsimp only at hw_28 hB
          rw [ht8] at hB
          have hP := hB
          generalize H1 = H at hP hS ⊢
          obtain ⟨fr_30, hS_22⟩ := hw_28
          have hsc922 := hS_22
          obtain ⟨ln22, wc22, fl22, fw22, fd22, fz22, fq22, s122, s222, s322, s422, s522, s622, s722, s822, s922, sa22, sb22⟩ := hsc922
          unfold SCO at s122
          refine lv_iconst (v := nI 0) hx hb dX5_put_95 (by decide +kernel) ?_
          refine lv_istore_n (lv' := [(2, .int (nI 0)), (0, .ref (ad 2097)), (1, .int (nI root))]) hx hb dX5_put_96 rfl hl (by decide) rfl (fun ls hl => ?_)
          have loop_31 : ∀ (k9 : Nat) (i : Nat) (g_33 : Nat → va_E) (fr_34 : ∀ k, (k < 24 ∨ (26 ≤ k ∧ k < 2097) ∨ 2103 ≤ k) → g_33 k = g_29 k), 300 - i < k9 → (i ≤ 250) → (AW ad cA g_33) → (SCM ad cA g_33 L.length) → ∀ (H : Heap) (locs : List Loc) (ls : Array Slot), va_P (dC, dI) vwCl (wo ad NSc g_33) H → va_S A s.heap H locs → lv_has ls 3 [(0, .ref (ad 2097)), (1, .int (nI root)), (2, .int (nI i))] → W p l e (headSpec wd_W5_put ({ frames := 90, cells := 0, slots := 0, locals := 1800 })).room s m ([.ref (ad 2097), .int (nI root)] : List Value).toArray below meth c H locs (0) (0) (MQ below (va_Qi (fun (r : Int32) => fun (u : Nat → va_E) => match u with | g2 => (∀ k, k < 24 ∨ (26 ≤ k ∧ k < 2082) ∨ (2083 ≤ k ∧ k < 2097) ∨ 2103 ≤ k → g2 k = g k) ∧ AW ad cA g2 ∧ MRK cA g2 ∧ SCE ad cA g2) (fun (u : Nat → va_E) (t : State) => va_P (dC, dI) vwCl (wo ad NSc u) t.heap) A) ([.ref (ad 2097), .int (nI root)] : List Value).toArray s (0) (0) A) (F0 m 97 ls []) := by
            intro k9
            induction k9 with
            | zero => intro i g_33 fr_34 h9; exact absurd h9 (Nat.not_lt_zero _)
            | succ k9 ih_32 =>
              intro i g_33 fr_34 h9 hi hAL2 hSq H locs ls hP hS hl
              have hsc9q := hSq
              obtain ⟨lnq, wcq, flq, fwq, fdq, fzq, fqq, s1q, s2q, s3q, s4q, s5q, s6q, s7q, s8q, s9q, saq, sbq⟩ := hsc9q
              unfold SCO at s1q
              refine lv_iload_n hx hb dX5_put_97 rfl (lv_at hl 2 rfl) ?_
              refine lv_sipush (v := nI 250) hx hb dX5_put_98 (by decide +kernel) ?_
              refine lv_icmp_ge (tgt := 149) hx hb dX5_put_101 (by decide) (fun c_35 => ?_) (fun c_35 => ?_)
              · have c_35 := (nI_leI (a := 250) (b := i) (by decide) (by omega)).mp c_35
                refine lv_aload_n hx hb dX5_put_149 rfl (lv_at hl 0 rfl) ?_
                refine m_get (D := (dC, dI)) (v := .int lnq) (C := RX5) (T := TX5) (N := 9) hx hb hts bk0 hown hK hP 2097 (by decide) s1q rfl 1 (by decide) (hts (.fieldLink RX5 65 "GradientDesk$Script" "length" "I") (List.mem_of_getElem? (i := 7) rfl)) (fun _ h9 => h9) rfl dX5_put_150 ?_
                have f_36 : g_33 2082 = .inl (cA 2082, 200, .inl (fun j => nI (mk2_4 j))) := (fr_34 2082 (by omega)).trans ((fr_30 2082 (by omega)).trans ((fr_21 2082 (by omega)).trans ((fr_18 2082 (by omega)).trans ((fr_9 2082 (by omega)).trans h82b))))
                refine W.widen (k := 0) (n := 0) (by omega) (by omega) ?_
                exact W.iret (v := lnq) hx hb hr (fun t9 ht9 hW9 => ⟨⟨lnq, g_33, rfl, ⟨(fun (k : Nat) (hk : k < 24 ∨ (26 ≤ k ∧ k < 2082) ∨ (2083 ≤ k ∧ k < 2097) ∨ 2103 ≤ k) => (fr_34 k (by omega)).trans ((fr_30 k (by omega)).trans ((fr_21 k (by omega)).trans ((fr_18 k (by omega)).trans ((fr_9 k (by omega)).trans ((fr_5 k (by omega)).trans (rfl))))))), hAL2, ⟨mk2_4, f_36, hmbb⟩, ⟨_, hSq⟩⟩, by show va_P (dC, dI) vwCl _ t9.heap; rw [ht9]; exact hP⟩, hS.F ht9⟩) hS.2.2 dX5_put_153
              · have c_35 := mt (nI_leI (a := 250) (b := i) (by decide) (by omega)).mpr c_35
                refine lv_aload_n hx hb dX5_put_104 rfl (lv_at hl 0 rfl) ?_
                refine m_get (D := (dC, dI)) (v := .int (nI wcq)) (C := RX5) (T := TX5) (N := 9) hx hb hts bk0 hown hK hP 2097 (by decide) s1q rfl 8 (by decide) (hts (.fieldLink RX5 69 "GradientDesk$Script" "waitingCount" "I") (List.mem_of_getElem? (i := 8) rfl)) (fun _ h9 => h9) rfl dX5_put_105 ?_
                refine lv_if_le (tgt := 149) hx hb dX5_put_108 (by decide) (fun c_37 => ?_) (fun c_37 => ?_)
                · have c_37 := (nI_leI (a := wcq) (b := 0) (by omega) (by decide)).mp c_37
                  refine lv_aload_n hx hb dX5_put_149 rfl (lv_at hl 0 rfl) ?_
                  refine m_get (D := (dC, dI)) (v := .int lnq) (C := RX5) (T := TX5) (N := 9) hx hb hts bk0 hown hK hP 2097 (by decide) s1q rfl 1 (by decide) (hts (.fieldLink RX5 65 "GradientDesk$Script" "length" "I") (List.mem_of_getElem? (i := 7) rfl)) (fun _ h9 => h9) rfl dX5_put_150 ?_
                  have f_38 : g_33 2082 = .inl (cA 2082, 200, .inl (fun j => nI (mk2_4 j))) := (fr_34 2082 (by omega)).trans ((fr_30 2082 (by omega)).trans ((fr_21 2082 (by omega)).trans ((fr_18 2082 (by omega)).trans ((fr_9 2082 (by omega)).trans h82b))))
                  refine W.widen (k := 0) (n := 0) (by omega) (by omega) ?_
                  exact W.iret (v := lnq) hx hb hr (fun t9 ht9 hW9 => ⟨⟨lnq, g_33, rfl, ⟨(fun (k : Nat) (hk : k < 24 ∨ (26 ≤ k ∧ k < 2082) ∨ (2083 ≤ k ∧ k < 2097) ∨ 2103 ≤ k) => (fr_34 k (by omega)).trans ((fr_30 k (by omega)).trans ((fr_21 k (by omega)).trans ((fr_18 k (by omega)).trans ((fr_9 k (by omega)).trans ((fr_5 k (by omega)).trans (rfl))))))), hAL2, ⟨mk2_4, f_38, hmbb⟩, ⟨_, hSq⟩⟩, by show va_P (dC, dI) vwCl _ t9.heap; rw [ht9]; exact hP⟩, hS.F ht9⟩) hS.2.2 dX5_put_153
                · have c_37 := mt (nI_leI (a := wcq) (b := 0) (by omega) (by decide)).mpr c_37
                  refine lv_aload_n hx hb dX5_put_111 rfl (lv_at hl 0 rfl) ?_
                  refine lv_dup hx hb dX5_put_112 rfl ?_
                  refine m_get (D := (dC, dI)) (v := .int (nI wcq)) (C := RX5) (T := TX5) (N := 9) hx hb hts bk0 hown hK hP 2097 (by decide) s1q rfl 8 (by decide) (hts (.fieldLink RX5 69 "GradientDesk$Script" "waitingCount" "I") (List.mem_of_getElem? (i := 8) rfl)) (fun _ h9 => h9) rfl dX5_put_113 ?_
                  refine lv_iconst (v := nI 1) hx hb dX5_put_116 (by decide +kernel) ?_
                  refine lv_isub hx hb dX5_put_117 ?_
                  refine lv_topi (fun x_39 e_40 => ?_)
                  obtain rfl : x_39 = nI (wcq - 1) := e_40.trans (pk_sub (show 1 ≤ wcq by omega))
                  refine m_put (D := (dC, dI)) (v := .int (nI (wcq - 1))) (tv := .int) (C := RX5) (T := TX5) (N := 9) hx hb hts bk0 tyX5 tyX5_ok nmX5 hown hK hP hD hS 2097 (by decide) s1q rfl 8 (by decide) (hts (.fieldLink RX5 69 "GradientDesk$Script" "waitingCount" "I") (List.mem_of_getElem? (i := 8) rfl)) (fun _ h9 => h9) rfl (by decide +kernel) rfl rfl (Nat.le_of_ble_eq_true rfl) dX5_put_118 (fun H locs g_41 f_42 fr_43 hP hS => ?_)
                  have f_42 : g_41 2097 = .inr (8, [.ref (ad 2098), .int lnq, .ref (ad 2080), .ref (ad 2099), .ref (ad 2100), .ref (ad 2101), .ref (ad 2102), .ref (ad (2 * 12)), .int (nI (wcq - 1))]) := f_42
                  refine lv_aload_n hx hb dX5_put_121 rfl (lv_at hl 0 rfl) ?_
                  refine lv_aload_n hx hb dX5_put_122 rfl (lv_at hl 0 rfl) ?_
                  refine m_get (D := (dC, dI)) (v := .ref (ad 2100)) (C := RX5) (T := TX5) (N := 9) hx hb hts bk0 hown hK hP 2097 (by decide) f_42 rfl 4 (by decide) (hts (.fieldLink RX5 19 "GradientDesk$Script" "waiting" "[I") (List.mem_of_getElem? (i := 13) rfl)) (fun _ h9 => h9) rfl dX5_put_123 ?_
                  refine lv_aload_n hx hb dX5_put_126 rfl (lv_at hl 0 rfl) ?_
                  refine m_get (D := (dC, dI)) (v := .int (nI (wcq - 1))) (C := RX5) (T := TX5) (N := 9) hx hb hts bk0 hown hK hP 2097 (by decide) f_42 rfl 8 (by decide) (hts (.fieldLink RX5 69 "GradientDesk$Script" "waitingCount" "I") (List.mem_of_getElem? (i := 8) rfl)) (fun _ h9 => h9) rfl dX5_put_127 ?_
                  have f_44 : g_41 2100 = .inl (cA 2100, 250, .inl (fun j => nI (fwq j))) := (fr_43 2100 (by omega)).trans s7q
                  refine m_iald hx hb hK hP 2100 (by decide) rfl f_44 (i := wcq - 1) (by omega) (by decide) dX5_put_130 ?_
                  refine lv_aload_n hx hb dX5_put_131 rfl (lv_at hl 0 rfl) ?_
                  refine m_get (D := (dC, dI)) (v := .ref (ad 2101)) (C := RX5) (T := TX5) (N := 9) hx hb hts bk0 hown hK hP 2097 (by decide) f_42 rfl 5 (by decide) (hts (.fieldLink RX5 22 "GradientDesk$Script" "places" "[I") (List.mem_of_getElem? (i := 14) rfl)) (fun _ h9 => h9) rfl dX5_put_132 ?_
                  refine lv_aload_n hx hb dX5_put_135 rfl (lv_at hl 0 rfl) ?_
                  refine m_get (D := (dC, dI)) (v := .int (nI (wcq - 1))) (C := RX5) (T := TX5) (N := 9) hx hb hts bk0 hown hK hP 2097 (by decide) f_42 rfl 8 (by decide) (hts (.fieldLink RX5 69 "GradientDesk$Script" "waitingCount" "I") (List.mem_of_getElem? (i := 8) rfl)) (fun _ h9 => h9) rfl dX5_put_136 ?_
                  have f_45 : g_41 2101 = .inl (cA 2101, 250, .inl fqq) := (fr_43 2101 (by omega)).trans s8q
                  refine m_iald hx hb hK hP 2101 (by decide) rfl f_45 (i := wcq - 1) (by omega) (by decide) dX5_put_139 ?_
                  refine lv_topi (fun x_46 e_47 => ?_)
                  have hAW_51 : AW ad cA g_41 := AW.keep hAL2 (fun (k : Nat) (hk : k < 2076) => (fr_43 k (by omega)).trans (rfl))
                  have hC_50 : CS ad cA g_41 L := CS.same hC hAW_51 (fun (k : Nat) (hk : (76 ≤ k ∧ k < 876) ∨ k = 2077 ∨ k = 2107 ∨ k = 2080 ∨ k = 2081 ∨ (2117 ≤ k ∧ k < 2517)) => (fr_43 k (by omega)).trans ((fr_34 k (by omega)).trans ((fr_30 k (by omega)).trans ((fr_21 k (by omega)).trans ((fr_18 k (by omega)).trans ((fr_9 k (by omega)).trans ((fr_5 k (by omega)).trans (rfl))))))))
                  have f_52 : g_41 2098 = .inl (cA 2098, 250, .inl (fun j => nI (flq j))) := (fr_43 2098 (by omega)).trans s4q
                  have f_53 : g_41 2099 = .inl (cA 2099, 200, .inl fzq) := (fr_43 2099 (by omega)).trans s6q
                  have f_54 : g_41 2102 = .inl (cA 2102, 135, .inl (fun j => nI (fdq j))) := (fr_43 2102 (by omega)).trans s9q
                  have hS1 : SCM ad cA g_41 L.length := ⟨lnq, wcq - 1, flq, fwq, fdq, fzq, fqq, f_42, s2q, (by omega), f_52, s5q, f_53, f_44, f_45, f_54, saq, (fun j hj => sbq j (by omega))⟩
                  refine va_callv (va_runV (As := [.int (nI (fwq (wcq - 1))), .int x_46]) (rest := []) ⟨hx, hb, hml, hown, hts⟩ (c_W5_piece l dC dI A ad cA g_41 L (fwq (wcq - 1)) x_46 hC_50 hWf hS1 (sbq _ (by omega))) (cwV 2 hts (goodIn_app (goodIn_r [Cond.methodLink RX5 76 yX5_putPiece, Cond.instanceMethod yX5_putPiece, Cond.selects RX5 yX5_putPiece yX5_putPiece, Cond.initialized RX5] [15, 16, 17, 12] rfl rfl) (goodIn_sub (fun w9 h9 => bk3 w9 h9) gw_W5_piece)) rfl rfl rfl (by decide +kernel) ⟨Nat.le_of_ble_eq_true rfl, Nat.le_of_ble_eq_true rfl⟩) ⟨fun a U g mk q => ⟨q.1, q.2.1, q.2.2.1, LY.moved (u := U) (U := U.calling g mk a) (Vm.Alike.refl U.vm) q.2.2.2⟩, va_recv hK hP (ci := 8) (q0 := 2097) rfl (wo_at (by decide) f_42), fun U hU hW => ⟨rfl, by rw [hU]; exact fun q h => hA q (Nat.le_trans hS.1 h), by rw [hU]; exact hP, LY.moved hW.alike hL⟩⟩ rfl rfl hl.1 rfl (lv_room (Nat.le_of_ble_eq_true rfl)) dX5_put_140 ⟨(Nat.le_of_ble_eq_true rfl), (Nat.le_of_ble_eq_true rfl)⟩) hS (fun q _ h => h) (fun q h => h) (fun u8 t8 H1 locs ht8 hvm8 hw_55 hB hz1 hk1 hS => ?_)
                  obtain ⟨g_56, rfl⟩ : ∃ z, z = u8 := ⟨_, rfl⟩
                  try dsimp only at hw_55 hB
                  rw [ht8] at hB
                  have hP := hB
                  generalize H1 = H at hP hS ⊢
                  obtain ⟨fr_57, hS_48, hAW_49⟩ := hw_55
                  have hsc948 := hS_48
                  obtain ⟨ln48, wc48, fl48, fw48, fd48, fz48, fq48, s148, s248, s348, s448, s548, s648, s748, s848, s948, sa48, sb48⟩ := hsc948
                  unfold SCO at s148
                  refine lv_iinc (v := nI (i + 1)) (lv' := [(2, .int (nI (i + 1))), (0, .ref (ad 2097)), (1, .int (nI root))]) hx hb dX5_put_143 hl (k := 2) rfl (nI_add i 1) (by decide) rfl (fun ls hl => ?_)
                  refine lv_goto (tgt := 97) hx hb dX5_put_146 (by decide) ?_
                  exact ih_32 (i + 1) g_56 (fun (k : Nat) (hk : k < 24 ∨ (26 ≤ k ∧ k < 2097) ∨ 2103 ≤ k) => (fr_57 k (by omega)).trans ((fr_43 k (by omega)).trans ((fr_34 k (by omega)).trans (rfl)))) (by omega) (by omega) hAW_49 hS_48 _ _ _ hP hS (lv_sub (l' := [(0, .ref (ad 2097)), (1, .int (nI root)), (2, .int (nI (i + 1)))]) hl [1, 2, 0] rfl)
          have hAW_60 : AW ad cA g_29 := AW.keep hAL (fun (k : Nat) (hk : k < 2076) => (fr_30 k (by omega)).trans ((fr_21 k (by omega)).trans ((fr_18 k (by omega)).trans (rfl))))
          exact loop_31 _ 0 g_29 (fun (k : Nat) (hk : k < 24 ∨ (26 ≤ k ∧ k < 2097) ∨ 2103 ≤ k) => rfl) (Nat.lt_succ_self _) (by omega) hAW_60 hS_22 _ _ _ hP hS (lv_sub (l' := [(0, .ref (ad 2097)), (1, .int (nI root)), (2, .int (nI 0))]) hl [1, 2, 0] rfl)
        · have c_13 := mt (k_le x_11 (nI 250)).mpr c_13
          rw [show (nI 250).toInt = 250 from by decide] at c_13
          refine lv_bipush (v := -3) hx hb dX5_put_71 (by decide +kernel) ?_
          have f_61 : g_8 2082 = .inl (cA 2082, 200, .inl (fun j => nI (mk2_4 j))) := (fr_9 2082 (by omega)).trans h82b
          refine W.widen (k := 0) (n := 0) (by omega) (by omega) ?_
          exact W.iret (v := -3) hx hb hr (fun t9 ht9 hW9 => ⟨⟨-3, g_8, rfl, ⟨(fun (k : Nat) (hk : k < 24 ∨ (26 ≤ k ∧ k < 2082) ∨ (2083 ≤ k ∧ k < 2097) ∨ 2103 ≤ k) => (fr_9 k (by omega)).trans ((fr_5 k (by omega)).trans (rfl))), hAL, ⟨mk2_4, f_61, hmbb⟩, ⟨_, ⟨lnl, wcl, fll, fwl, fdl, fzl, fql, s1l, s2l, s3l, s4l, s5l, s6l, s7l, s8l, s9l, sal, sbl⟩⟩⟩, by show va_P (dC, dI) vwCl _ t9.heap; rw [ht9]; exact hP⟩, hS.F ht9⟩) hS.2.2 dX5_put_73
      · have c_10 := mt (nI_ltI (a := root) (b := i) (by omega) (by omega)).mpr c_10
        refine lv_aload_n hx hb dX5_put_16 rfl (lv_at hl 0 rfl) ?_
        refine m_get (D := (dC, dI)) (v := .ref (ad 2080)) (C := RX5) (T := TX5) (N := 9) hx hb hts bk0 hown hK hP 2097 (by decide) s1l rfl 2 (by decide) (hts (.fieldLink RX5 37 "GradientDesk$Script" "shelf" "LGradientDesk$Shelf;") (List.mem_of_getElem? (i := 1) rfl)) (fun _ h9 => h9) rfl dX5_put_17 ?_
        have f_62 : g_8 2080 = .inr (9, [.ref (ad 2081), .ref (ad 2082), .int (nI L.length), .ref (ad 2083), .ref (ad 2077), .ref (ad 2107), .ref (ad (2 * 6))]) := (fr_9 2080 (by omega)).trans ((fr_5 2080 (by omega)).trans hO)
        refine m_get (D := (dC, dI)) (v := .ref (ad 2082)) (C := RX6) (T := TX6) (N := 7) hx hb hts bk4 hown hK hP 2080 (by decide) f_62 rfl 1 (by decide) (hts (.fieldLink RX5 47 "GradientDesk$Shelf" "marked" "[Z") (List.mem_of_getElem? (i := 18) rfl)) (fun _ h9 => h9) rfl dX5_put_20 ?_
        refine lv_iload_n hx hb dX5_put_23 rfl (lv_at hl 2 rfl) ?_
        have f_63 : g_8 2082 = .inl (cA 2082, 200, .inl (fun j => nI (mk2_4 j))) := (fr_9 2082 (by omega)).trans h82b
        refine m_zald hx hb hK hP 2082 (by decide) rfl f_63 (i := i) (by omega) (by decide) dX5_put_24 ?_
        have b_64 := hmbb i
        refine lv_if_eq (tgt := 53) hx hb dX5_put_25 (by decide) (fun c_65 => ?_) (fun c_65 => ?_)
        · have c_65 := (nI_eq (a := (mk2_4 i)) (b := 0) (by omega) (by decide)).mp c_65
          refine lv_iinc (v := nI (i + 1)) (lv' := [(2, .int (nI (i + 1))), (0, .ref (ad 2097)), (1, .int (nI root))]) hx hb dX5_put_53 hl (k := 2) rfl (nI_add i 1) (by decide) rfl (fun ls hl => ?_)
          refine lv_goto (tgt := 11) hx hb dX5_put_56 (by decide) ?_
          exact ih_7 (i + 1) g_8 (fun (k : Nat) (hk : k < 24 ∨ (26 ≤ k ∧ k ≠ 2099 ∧ k ≠ 2102)) => (fr_9 k (by omega)).trans (rfl)) (by omega) (by omega) hAL (⟨lnl, wcl, fll, fwl, fdl, fzl, fql, s1l, s2l, s3l, s4l, s5l, s6l, s7l, s8l, s9l, sal, sbl⟩) _ _ _ hP hS (lv_sub (l' := [(0, .ref (ad 2097)), (1, .int (nI root)), (2, .int (nI (i + 1)))]) hl [1, 2, 0] rfl)
        · have c_65 := mt (nI_eq (a := (mk2_4 i)) (b := 0) (by omega) (by decide)).mpr c_65
          refine lv_aload_n hx hb dX5_put_28 rfl (lv_at hl 0 rfl) ?_
          refine m_get (D := (dC, dI)) (v := .ref (ad 2099)) (C := RX5) (T := TX5) (N := 9) hx hb hts bk0 hown hK hP 2097 (by decide) s1l rfl 3 (by decide) (hts (.fieldLink RX5 15 "GradientDesk$Script" "lengths" "[I") (List.mem_of_getElem? (i := 6) rfl)) (fun _ h9 => h9) rfl dX5_put_29 ?_
          refine lv_iload_n hx hb dX5_put_32 rfl (lv_at hl 2 rfl) ?_
          refine lv_aload_n hx hb dX5_put_33 rfl (lv_at hl 0 rfl) ?_
          refine lv_aload_n hx hb dX5_put_34 rfl (lv_at hl 0 rfl) ?_
          refine m_get (D := (dC, dI)) (v := .ref (ad 2080)) (C := RX5) (T := TX5) (N := 9) hx hb hts bk0 hown hK hP 2097 (by decide) s1l rfl 2 (by decide) (hts (.fieldLink RX5 37 "GradientDesk$Script" "shelf" "LGradientDesk$Shelf;") (List.mem_of_getElem? (i := 1) rfl)) (fun _ h9 => h9) rfl dX5_put_35 ?_
          refine m_get (D := (dC, dI)) (v := .ref (ad 2081)) (C := RX6) (T := TX6) (N := 7) hx hb hts bk4 hown hK hP 2080 (by decide) f_62 rfl 0 (by decide) (hts (.fieldLink RX5 51 "GradientDesk$Shelf" "parts" "[LGradientDesk$Part;") (List.mem_of_getElem? (i := 19) rfl)) (fun _ h9 => h9) rfl dX5_put_38 ?_
          refine lv_iload_n hx hb dX5_put_41 rfl (lv_at hl 2 rfl) ?_
          have f_68 : g_8 2081 = .inl (cA 2081, 200, .inr (.inr (.inr (.inr (fun j => some (ad (2117 + 2 * j))))))) := (fr_9 2081 (by omega)).trans ((fr_5 2081 (by omega)).trans hPa)
          refine m_aald hx hb hK hP 2081 (by decide) rfl f_68 (i := i) (v := ad (2117 + 2 * i)) (by omega) (by decide) rfl dX5_put_42 ?_
          have hC_71 : CS ad cA g_8 L := CS.same hC hAL (fun (k : Nat) (hk : (76 ≤ k ∧ k < 876) ∨ k = 2077 ∨ k = 2107 ∨ k = 2080 ∨ k = 2081 ∨ (2117 ≤ k ∧ k < 2517)) => (fr_9 k (by omega)).trans ((fr_5 k (by omega)).trans (rfl)))
          refine va_calli (va_runV (As := [.ref (ad (2117 + 2 * i))]) (rest := [.int (nI i), .ref (ad 2099)]) ⟨hx, hb, hml, hown, hts⟩ (c_W5_len l dC dI A ad cA g_8 L M0 i hC_71 hWf hSl (by omega)) (cwV 1 hts (goodIn_app (goodIn_r [Cond.methodLink RX5 55 yX5_lengthOf, Cond.instanceMethod yX5_lengthOf, Cond.selects RX5 yX5_lengthOf yX5_lengthOf, Cond.initialized RX5] [20, 21, 22, 12] rfl rfl) (goodIn_sub (fun w9 h9 => bk5 w9 h9) gw_W5_len)) rfl rfl rfl (by decide +kernel) ⟨Nat.le_of_ble_eq_true rfl, Nat.le_of_ble_eq_true rfl⟩) ⟨fun a U g mk q => ⟨q.1, q.2.1, q.2.2.1, LY.moved (u := U) (U := U.calling g mk a) (Vm.Alike.refl U.vm) q.2.2.2⟩, va_recv hK hP (ci := 8) (q0 := 2097) rfl (wo_at (by decide) s1l), fun U hU hW => ⟨rfl, by rw [hU]; exact fun q h => hA q (Nat.le_trans hS.1 h), by rw [hU]; exact hP, LY.moved hW.alike hL⟩⟩ rfl rfl hl.1 rfl (lv_room (Nat.le_of_ble_eq_true rfl)) dX5_put_43 ⟨(Nat.le_of_ble_eq_true rfl), (Nat.le_of_ble_eq_true rfl)⟩) hS (fun q _ h => h) (fun q h => h) (fun r_72 u8 t8 H1 locs ht8 hvm8 hw_73 hB hz1 hk1 hS => ?_)
          obtain ⟨g_74, rfl⟩ : ∃ z, z = u8 := ⟨_, rfl⟩
          try dsimp only at hw_73 hB
          rw [ht8] at hB
          have hP := hB
          generalize H1 = H at hP hS ⊢
          obtain ⟨fr_75, hS_69, hAW_70⟩ := hw_73
          have hsc969 := hS_69
          obtain ⟨ln69, wc69, fl69, fw69, fd69, fz69, fq69, s169, s269, s369, s469, s569, s669, s769, s869, s969, sa69, sb69⟩ := hsc969
          unfold SCO at s169
          refine lv_sipush (v := nI 251) hx hb dX5_put_46 (by decide +kernel) ?_
          refine va_mmin hx hb (by rw [hml]; exact hl.1.symm) hown (hts (.methodLink RX5 59 Lib.Math.min.name) (List.mem_of_getElem? (i := 23) rfl)) (hts (.static Lib.Math.min.name) (List.mem_of_getElem? (i := 24) rfl)) (hts (.initialized "java/lang/Math") (List.mem_of_getElem? (i := 25) rfl)) (hts (.code Lib.Math.min.name Lib.Math.min.code 2 (some .int)) (List.mem_of_getElem? (i := 26) rfl)) (Nat.le_of_ble_eq_true rfl) (Nat.le_of_ble_eq_true rfl) (Nat.le_of_ble_eq_true rfl) (Nat.le_of_ble_eq_true rfl) dX5_put_49 ?_
          refine lv_topi (fun x_76 e_77 => ?_)
          refine m_iast hx hb hK hP hD hS 2099 (by decide) rfl s669 (i := i) (x := x_76) (by omega) (by decide) dX5_put_52 (fun H locs g_78 f_79 fr_80 hP hS => ?_)
          have f_79 : g_78 2099 = .inl (cA 2099, 200, .inl (upd fz69 i x_76)) := f_79
          refine lv_iinc (v := nI (i + 1)) (lv' := [(2, .int (nI (i + 1))), (0, .ref (ad 2097)), (1, .int (nI root))]) hx hb dX5_put_53 hl (k := 2) rfl (nI_add i 1) (by decide) rfl (fun ls hl => ?_)
          refine lv_goto (tgt := 11) hx hb dX5_put_56 (by decide) ?_
          have hAW_83 : AW ad cA g_78 := AW.keep hAW_70 (fun (k : Nat) (hk : k < 2076) => (fr_80 k (by omega)).trans (rfl))
          have f_84 : g_78 2097 = .inr (8, [.ref (ad 2098), .int ln69, .ref (ad 2080), .ref (ad 2099), .ref (ad 2100), .ref (ad 2101), .ref (ad 2102), .ref (ad (2 * 12)), .int (nI wc69)]) := (fr_80 2097 (by omega)).trans s169
          have f_85 : g_78 2098 = .inl (cA 2098, 250, .inl (fun j => nI (fl69 j))) := (fr_80 2098 (by omega)).trans s469
          have f_86 : g_78 2100 = .inl (cA 2100, 250, .inl (fun j => nI (fw69 j))) := (fr_80 2100 (by omega)).trans s769
          have f_87 : g_78 2101 = .inl (cA 2101, 250, .inl fq69) := (fr_80 2101 (by omega)).trans s869
          have f_88 : g_78 2102 = .inl (cA 2102, 135, .inl (fun j => nI (fd69 j))) := (fr_80 2102 (by omega)).trans s969
          exact ih_7 (i + 1) g_78 (fun (k : Nat) (hk : k < 24 ∨ (26 ≤ k ∧ k ≠ 2099 ∧ k ≠ 2102)) => (fr_80 k (by omega)).trans ((fr_75 k (by omega)).trans ((fr_9 k (by omega)).trans (rfl)))) (by omega) (by omega) hAW_83 (⟨ln69, wc69, fl69, fw69, fd69, upd fz69 i x_76, fq69, f_84, s269, s369, f_85, s569, f_79, f_86, f_87, f_88, sa69, sb69⟩) _ _ _ hP hS (lv_sub (l' := [(0, .ref (ad 2097)), (1, .int (nI root)), (2, .int (nI (i + 1)))]) hl [1, 2, 0] rfl)
  have hAW_89 : AW ad cA g_3 := AW.keep hW (fun (k : Nat) (hk : k < 2076) => (fr_5 k (by omega)).trans (rfl))
  exact loop_6 _ 0 g_3 (fun (k : Nat) (hk : k < 24 ∨ (26 ≤ k ∧ k ≠ 2099 ∧ k ≠ 2102)) => rfl) (Nat.lt_succ_self _) (by omega) hAW_89 hSm _ _ _ hP hS (lv_sub (l' := [(0, .ref (ad 2097)), (1, .int (nI root)), (2, .int (nI 0))]) hl [1, 2, 0] rfl)
end
section
/-! the class between calls -/
theorem wP_grow {D : va_G} {cl : List vw_C} {ws : va_W} {H H2 : Heap} (h : va_P D cl ws H) (hk : ∀ q : Nat, q < H.size → H2[q]? = H[q]?) : va_P D cl ws H2 := h.kept (fun k q hq => hk q.1 (h k q hq).lt)
def CDO (ad : Nat → Nat) (g : Nat → va_E) (wp : Int32) : Prop := g 2076 = .inr (12, [.ref (ad 2077), .ref (ad 2078), .ref (ad 2080), .ref (ad 2084), .ref (ad 2090), .ref (ad 2097), .ref (ad 2103), .ref (ad 2108), .ref (ad 2104), .ref (ad 2105), .ref (ad 2106), .int wp])
def RDE (ad : Nat → Nat) (cA : Nat → ClassId) (g : Nat → va_E) : Prop := ∃ (oo : List Nat) (Q : List SP) (cu : Nat), RDS ad cA g oo Q cu
def OPR (cA : Nat → ClassId) (g : Nat → va_E) : Prop := ∃ f : Nat → Int, g 2089 = .inl (cA 2089, 128, .inl (fun j => iI (f j)))
def SLR (cA : Nat → ClassId) (g : Nat → va_E) : Prop := ∃ f : Nat → Int, g 2083 = .inl (cA 2083, 200, .inl (fun j => iI (f j)))
def NMS (cA : Nat → ClassId) (g : Nat → va_E) (L : List PD) (nm : Nat → Int) : Prop := g 2104 = .inl (cA 2104, 8, .inl (fun j => iI (nm j))) ∧ (∀ j, -1 ≤ nm j ∧ nm j ≤ 199) ∧ ∀ j, j < 8 → nm j < L.length
def PTS (cA : Nat → ClassId) (g : Nat → va_E) : Prop := ∃ fa fb : Nat → Int32, g 2105 = .inl (cA 2105, 3, .inl fa) ∧ g 2106 = .inl (cA 2106, 3, .inl fb)
def RSS (ad : Nat → Nat) (cA : Nat → ClassId) (g : Nat → va_E) : Prop := g 2103 = .inl (cA 2103, 8, .inr (.inr (.inr (.inr (fun j => some (ad (2109 + j))))))) ∧ g 2108 = .inr (5, [.ref (ad (2 * 7)), .ref (ad (2 * 8))]) ∧ ∀ j, j < 8 → g (2109 + j) = .inr (5, [.ref (ad (2 * (13 + 2 * j))), .ref (ad (2 * (14 + 2 * j)))])
/-- the class holds the parts L, the names nm, the text tx of ty signs, and has last found fault at wp -/
def CIS (ad : Nat → Nat) (cA : Nat → ClassId) (g : Nat → va_E) (L : List PD) (nm : Nat → Int) (tx : Nat → Nat) (ty : Nat) (wp : Int32) : Prop :=
  CDO ad g wp ∧ CS ad cA g L ∧ WFL L ∧ TXS ad cA g tx ty ∧ RDE ad cA g ∧ OPR cA g ∧ CRS ad cA g ∧ MRK cA g ∧ SCE ad cA g ∧ SLR cA g ∧ NMS cA g L nm ∧ PTS cA g ∧ RSS ad cA g
section CISS
variable {ad : Nat → Nat} {cA : Nat → ClassId} {g g2 : Nat → va_E} {L L2 : List PD} {nm nm2 : Nat → Int} {tx tx2 : Nat → Nat} {ty ty2 : Nat} {wp wp2 : Int32}
theorem CDO.same (h : CDO ad g wp) (hf : ∀ k, k = 2076 → g2 k = g k) : CDO ad g2 wp := (hf _ rfl).trans h
theorem RDE.same (h : RDE ad cA g) (hf : ∀ k, 2084 ≤ k ∧ k ≤ 2088 → g2 k = g k) : RDE ad cA g2 := by
  obtain ⟨oo, Q, cu, h⟩ := h
  exact ⟨oo, Q, cu, h.same hf⟩
theorem OPR.same (h : OPR cA g) (hf : ∀ k, k = 2089 → g2 k = g k) : OPR cA g2 := by
  obtain ⟨f, h⟩ := h
  exact ⟨f, (hf _ rfl).trans h⟩
theorem SLR.same (h : SLR cA g) (hf : ∀ k, k = 2083 → g2 k = g k) : SLR cA g2 := by
  obtain ⟨f, h⟩ := h
  exact ⟨f, (hf _ rfl).trans h⟩
theorem NMS.same (h : NMS cA g L nm) (hf : ∀ k, k = 2104 → g2 k = g k) : NMS cA g2 L nm := ⟨(hf _ rfl).trans h.1, h.2⟩
theorem NMS.le (h : NMS cA g L nm) (hl : L.length ≤ L2.length) : NMS cA g L2 nm := ⟨h.1, h.2.1, fun j hj => Int.lt_of_lt_of_le (h.2.2 j hj) (by omega)⟩
theorem PTS.same (h : PTS cA g) (hf : ∀ k, k = 2105 ∨ k = 2106 → g2 k = g k) : PTS cA g2 := by
  obtain ⟨fa, fb, h1, h2⟩ := h
  exact ⟨fa, fb, (hf _ (Or.inl rfl)).trans h1, (hf _ (Or.inr rfl)).trans h2⟩
theorem RSS.same (h : RSS ad cA g) (hf : ∀ k, k = 2103 ∨ (2108 ≤ k ∧ k < 2117) → g2 k = g k) : RSS ad cA g2 := ⟨(hf _ (by omega)).trans h.1, (hf _ (by omega)).trans h.2.1, fun j hj => (hf _ (by omega)).trans (h.2.2 j hj)⟩
theorem fr_r {j : Nat} (h : j < 8) : 2109 + j < NSc := by unfold NSc; omega
end CISS
end
section
def wd_W9_ckName : List Cond := .code yX9_checkName cX9_checkName 1 none :: (([.classLink RX9 90 "java/lang/IllegalArgumentException", .initialized "java/lang/IllegalArgumentException"] : List Cond) ++ ((vx_atS RX9 94 "java/lang/IllegalArgumentException" ["java/lang/RuntimeException", "java/lang/Exception"]).filter goodWord ++ ([])))
theorem gw_W9_ckName : wd_W9_ckName.all goodWord = true := k_allc rfl (k_all (by decide +kernel) (k_all (k_allf _ _) (rfl)))
set_option maxHeartbeats 4000000 in
set_option maxRecDepth 100000 in
theorem c_W9_ckName (l : Launch) (hlt : l.stackTraces = false) (dC : Nat → ClassId) (dI : Nat → Nat → Nat) (A : Nat → Prop) (ad : Nat → Nat) (cA : Nat → ClassId) (g : Nat → va_E) (v : Int32) : vx_Met l yX9_checkName wd_W9_ckName ({ frames := 10, cells := 1, slots := 6, locals := 200 }) (va_Pc [.int v] (fun U => PR NSc tyc dC dI A ad cA g U ∧ exF A U U.heap)) (va_Qv (fun (u : Unit) => match u with | () => 0 ≤ v.toInt ∧ v.toInt ≤ 7) (fun (u : Unit) (t : State) => va_P (dC, dI) vwCl (wo ad NSc g) t.heap) A) (vx_X (fun _ : Unit => True) (fun E _ t => (E = "java/lang/IllegalArgumentException" ∧ (v.toInt < 0 ∨ 7 < v.toInt)) ∧ va_P (dC, dI) vwCl (wo ad NSc g) t.heap) A) (1) (6) A := by
  refine vx_ofW (cc := cX9_checkName) (maxL := 1) (ret := none) (by decide) rfl ?_
  intro p e s m args below meth c s₁ B hml htb hv
  obtain ⟨rfl, ⟨hA, hP, hL⟩, hE⟩ := hv
  have hx := B.exec
  have hb := B.bytes
  have hr := B.returns
  have hts := atoms_spec (ws := wd_W9_ckName) B.pre
  have hown : s.vm.findClass RX9 = some m.cls := findClass_of_methodNamed B.named
  have hlocks := B.notSynchronized
  have hK := hL.1
  have hD : ∀ g, va_D A (wo ad NSc g) := fun g => wo_D hL.2.1 hL.2.2 g
  have hS : va_S A s.heap s.heap [] := va_S.rf
  have bk0 : ∀ w ∈ (vx_atS RX9 94 "java/lang/IllegalArgumentException" ["java/lang/RuntimeException", "java/lang/Exception"]).filter goodWord, w ∈ wd_W9_ckName := fun _ h => List.mem_cons_of_mem _ (List.mem_append_right _ (List.mem_append_left _ h))
  have hl := lv_entry ([.int v]) (n := 1) (Nat.le_of_ble_eq_true rfl)
  rw [lg_entry_eq]
  generalize (lg_sl ([.int v]) ++ List.replicate (1 - (lg_sl ([.int v])).length) Slot.unset).toArray = ls at hl ⊢
  have hl : lv_has ls 1 [(0, .int v)] := hl
  refine lv_iload_n hx hb dX9_checkName_0 rfl (lv_at hl 0 rfl) ?_
  refine lv_if_lt (tgt := 10) hx hb dX9_checkName_1 (by decide) (fun c_1 => ?_) (fun c_1 => ?_)
  · have c_1 := (k_lt v (nI 0)).mp c_1
    rw [show (nI 0).toInt = 0 from by decide] at c_1
    obtain ⟨sa_2, hstr_3⟩ := hE.2.2.1 (265, "a name is not 0 .. 7") (by decide +kernel)
    exact vx_throwSW (own := RX9) (cls := "java/lang/IllegalArgumentException") (text := "a name is not 0 .. 7") (names := ["java/lang/RuntimeException", "java/lang/Exception"]) (ik := 90) (is := 265) (ic := 94) (sa := sa_2) (A := A) hx hb hlt hown (by decide +kernel) (by decide +kernel) (hts (.classLink RX9 90 "java/lang/IllegalArgumentException") (List.mem_of_getElem? (i := 1) rfl)) (hts (.initialized "java/lang/IllegalArgumentException") (List.mem_of_getElem? (i := 2) rfl)) hstr_3 (vx_hat (B := [.declares (Bundle.initS "java/lang/RuntimeException"), .declares (Bundle.initS "java/lang/Exception"), .declares (Bundle.initS Bundle.tN), .castable "java/lang/IllegalArgumentException" "java/lang/IllegalArgumentException"]) (fun w hw => hts w (bk0 w hw)) (by decide +kernel) (vx_c (va_Nw.use rfl hE.2.2.2.1) (vx_c (va_Nw.use rfl hE.2.2.2.2.1) (vx_c (va_Nw.use rfl hE.2.2.2.2.2.1) (vx_c (va_Nw.use rfl hE.2.2.2.2.2.2.1) vx_n))))) (by decide +kernel) hE.1 hE.2.1 hS (by rw [hml]; exact hl.1) dX9_checkName_10 dX9_checkName_13 dX9_checkName_14 dX9_checkName_17 dX9_checkName_20 (fun x9 hx9 => (htb x9 hx9).elim) (Nat.le_of_ble_eq_true rfl) (Nat.le_of_ble_eq_true rfl) (Nat.le_of_ble_eq_true rfl) (Nat.le_of_ble_eq_true rfl) hlocks (fun t9 hvm9 h1 h2 => ⟨(), trivial, ⟨⟨rfl, by omega⟩, wP_grow hP h2⟩, k_F hS h1 h2⟩) hS.2.2 (Nat.le_of_ble_eq_true rfl) (Nat.le_of_ble_eq_true rfl)
  · have c_1 := mt (k_lt v (nI 0)).mpr c_1
    rw [show (nI 0).toInt = 0 from by decide] at c_1
    refine lv_iload_n hx hb dX9_checkName_4 rfl (lv_at hl 0 rfl) ?_
    refine lv_bipush (v := nI 8) hx hb dX9_checkName_5 (by decide +kernel) ?_
    refine lv_icmp_lt (tgt := 21) hx hb dX9_checkName_7 (by decide) (fun c_4 => ?_) (fun c_4 => ?_)
    · have c_4 := (k_lt v (nI 8)).mp c_4
      rw [show (nI 8).toInt = 8 from by decide] at c_4
      refine vx_ret ?_
      refine W.widen (k := 1) (n := 6) (by omega) (by omega) ?_
      exact W.vret hx hb hr (fun t9 ht9 hW9 => ⟨⟨(), rfl, (by omega), by show va_P (dC, dI) vwCl _ t9.heap; rw [ht9]; exact hP⟩, hS.F ht9⟩) hS.2.2 dX9_checkName_21
    · have c_4 := mt (k_lt v (nI 8)).mpr c_4
      rw [show (nI 8).toInt = 8 from by decide] at c_4
      obtain ⟨sa_5, hstr_6⟩ := hE.2.2.1 (265, "a name is not 0 .. 7") (by decide +kernel)
      exact vx_throwSW (own := RX9) (cls := "java/lang/IllegalArgumentException") (text := "a name is not 0 .. 7") (names := ["java/lang/RuntimeException", "java/lang/Exception"]) (ik := 90) (is := 265) (ic := 94) (sa := sa_5) (A := A) hx hb hlt hown (by decide +kernel) (by decide +kernel) (hts (.classLink RX9 90 "java/lang/IllegalArgumentException") (List.mem_of_getElem? (i := 1) rfl)) (hts (.initialized "java/lang/IllegalArgumentException") (List.mem_of_getElem? (i := 2) rfl)) hstr_6 (vx_hat (B := [.declares (Bundle.initS "java/lang/RuntimeException"), .declares (Bundle.initS "java/lang/Exception"), .declares (Bundle.initS Bundle.tN), .castable "java/lang/IllegalArgumentException" "java/lang/IllegalArgumentException"]) (fun w hw => hts w (bk0 w hw)) (by decide +kernel) (vx_c (va_Nw.use rfl hE.2.2.2.1) (vx_c (va_Nw.use rfl hE.2.2.2.2.1) (vx_c (va_Nw.use rfl hE.2.2.2.2.2.1) (vx_c (va_Nw.use rfl hE.2.2.2.2.2.2.1) vx_n))))) (by decide +kernel) hE.1 hE.2.1 hS (by rw [hml]; exact hl.1) dX9_checkName_10 dX9_checkName_13 dX9_checkName_14 dX9_checkName_17 dX9_checkName_20 (fun x9 hx9 => (htb x9 hx9).elim) (Nat.le_of_ble_eq_true rfl) (Nat.le_of_ble_eq_true rfl) (Nat.le_of_ble_eq_true rfl) (Nat.le_of_ble_eq_true rfl) hlocks (fun t9 hvm9 h1 h2 => ⟨(), trivial, ⟨⟨rfl, by omega⟩, wP_grow hP h2⟩, k_F hS h1 h2⟩) hS.2.2 (Nat.le_of_ble_eq_true rfl) (Nat.le_of_ble_eq_true rfl)
def wd_W9_ckVar : List Cond := .code yX9_checkVariable cX9_checkVariable 1 none :: (([.classLink RX9 90 "java/lang/IllegalArgumentException", .initialized "java/lang/IllegalArgumentException"] : List Cond) ++ ((vx_atS RX9 94 "java/lang/IllegalArgumentException" ["java/lang/RuntimeException", "java/lang/Exception"]).filter goodWord ++ ([])))
theorem gw_W9_ckVar : wd_W9_ckVar.all goodWord = true := k_allc rfl (k_all (by decide +kernel) (k_all (k_allf _ _) (rfl)))
set_option maxHeartbeats 4000000 in
set_option maxRecDepth 100000 in
theorem c_W9_ckVar (l : Launch) (hlt : l.stackTraces = false) (dC : Nat → ClassId) (dI : Nat → Nat → Nat) (A : Nat → Prop) (ad : Nat → Nat) (cA : Nat → ClassId) (g : Nat → va_E) (v : Int32) : vx_Met l yX9_checkVariable wd_W9_ckVar ({ frames := 10, cells := 1, slots := 6, locals := 200 }) (va_Pc [.int v] (fun U => PR NSc tyc dC dI A ad cA g U ∧ exF A U U.heap)) (va_Qv (fun (u : Unit) => match u with | () => 0 ≤ v.toInt ∧ v.toInt ≤ 2) (fun (u : Unit) (t : State) => va_P (dC, dI) vwCl (wo ad NSc g) t.heap) A) (vx_X (fun _ : Unit => True) (fun E _ t => (E = "java/lang/IllegalArgumentException" ∧ (v.toInt < 0 ∨ 2 < v.toInt)) ∧ va_P (dC, dI) vwCl (wo ad NSc g) t.heap) A) (1) (6) A := by
  refine vx_ofW (cc := cX9_checkVariable) (maxL := 1) (ret := none) (by decide) rfl ?_
  intro p e s m args below meth c s₁ B hml htb hv
  obtain ⟨rfl, ⟨hA, hP, hL⟩, hE⟩ := hv
  have hx := B.exec
  have hb := B.bytes
  have hr := B.returns
  have hts := atoms_spec (ws := wd_W9_ckVar) B.pre
  have hown : s.vm.findClass RX9 = some m.cls := findClass_of_methodNamed B.named
  have hlocks := B.notSynchronized
  have hK := hL.1
  have hD : ∀ g, va_D A (wo ad NSc g) := fun g => wo_D hL.2.1 hL.2.2 g
  have hS : va_S A s.heap s.heap [] := va_S.rf
  have bk0 : ∀ w ∈ (vx_atS RX9 94 "java/lang/IllegalArgumentException" ["java/lang/RuntimeException", "java/lang/Exception"]).filter goodWord, w ∈ wd_W9_ckVar := fun _ h => List.mem_cons_of_mem _ (List.mem_append_right _ (List.mem_append_left _ h))
  have hl := lv_entry ([.int v]) (n := 1) (Nat.le_of_ble_eq_true rfl)
  rw [lg_entry_eq]
  generalize (lg_sl ([.int v]) ++ List.replicate (1 - (lg_sl ([.int v])).length) Slot.unset).toArray = ls at hl ⊢
  have hl : lv_has ls 1 [(0, .int v)] := hl
  refine lv_iload_n hx hb dX9_checkVariable_0 rfl (lv_at hl 0 rfl) ?_
  refine lv_if_lt (tgt := 9) hx hb dX9_checkVariable_1 (by decide) (fun c_1 => ?_) (fun c_1 => ?_)
  · have c_1 := (k_lt v (nI 0)).mp c_1
    rw [show (nI 0).toInt = 0 from by decide] at c_1
    obtain ⟨sa_2, hstr_3⟩ := hE.2.2.1 (267, "there is no such variable") (by decide +kernel)
    exact vx_throwSW (own := RX9) (cls := "java/lang/IllegalArgumentException") (text := "there is no such variable") (names := ["java/lang/RuntimeException", "java/lang/Exception"]) (ik := 90) (is := 267) (ic := 94) (sa := sa_2) (A := A) hx hb hlt hown (by decide +kernel) (by decide +kernel) (hts (.classLink RX9 90 "java/lang/IllegalArgumentException") (List.mem_of_getElem? (i := 1) rfl)) (hts (.initialized "java/lang/IllegalArgumentException") (List.mem_of_getElem? (i := 2) rfl)) hstr_3 (vx_hat (B := [.declares (Bundle.initS "java/lang/RuntimeException"), .declares (Bundle.initS "java/lang/Exception"), .declares (Bundle.initS Bundle.tN), .castable "java/lang/IllegalArgumentException" "java/lang/IllegalArgumentException"]) (fun w hw => hts w (bk0 w hw)) (by decide +kernel) (vx_c (va_Nw.use rfl hE.2.2.2.1) (vx_c (va_Nw.use rfl hE.2.2.2.2.1) (vx_c (va_Nw.use rfl hE.2.2.2.2.2.1) (vx_c (va_Nw.use rfl hE.2.2.2.2.2.2.1) vx_n))))) (by decide +kernel) hE.1 hE.2.1 hS (by rw [hml]; exact hl.1) dX9_checkVariable_9 dX9_checkVariable_12 dX9_checkVariable_13 dX9_checkVariable_16 dX9_checkVariable_19 (fun x9 hx9 => (htb x9 hx9).elim) (Nat.le_of_ble_eq_true rfl) (Nat.le_of_ble_eq_true rfl) (Nat.le_of_ble_eq_true rfl) (Nat.le_of_ble_eq_true rfl) hlocks (fun t9 hvm9 h1 h2 => ⟨(), trivial, ⟨⟨rfl, by omega⟩, wP_grow hP h2⟩, k_F hS h1 h2⟩) hS.2.2 (Nat.le_of_ble_eq_true rfl) (Nat.le_of_ble_eq_true rfl)
  · have c_1 := mt (k_lt v (nI 0)).mpr c_1
    rw [show (nI 0).toInt = 0 from by decide] at c_1
    refine lv_iload_n hx hb dX9_checkVariable_4 rfl (lv_at hl 0 rfl) ?_
    refine lv_iconst (v := nI 3) hx hb dX9_checkVariable_5 (by decide +kernel) ?_
    refine lv_icmp_lt (tgt := 20) hx hb dX9_checkVariable_6 (by decide) (fun c_4 => ?_) (fun c_4 => ?_)
    · have c_4 := (k_lt v (nI 3)).mp c_4
      rw [show (nI 3).toInt = 3 from by decide] at c_4
      refine vx_ret ?_
      refine W.widen (k := 1) (n := 6) (by omega) (by omega) ?_
      exact W.vret hx hb hr (fun t9 ht9 hW9 => ⟨⟨(), rfl, (by omega), by show va_P (dC, dI) vwCl _ t9.heap; rw [ht9]; exact hP⟩, hS.F ht9⟩) hS.2.2 dX9_checkVariable_20
    · have c_4 := mt (k_lt v (nI 3)).mpr c_4
      rw [show (nI 3).toInt = 3 from by decide] at c_4
      obtain ⟨sa_5, hstr_6⟩ := hE.2.2.1 (267, "there is no such variable") (by decide +kernel)
      exact vx_throwSW (own := RX9) (cls := "java/lang/IllegalArgumentException") (text := "there is no such variable") (names := ["java/lang/RuntimeException", "java/lang/Exception"]) (ik := 90) (is := 267) (ic := 94) (sa := sa_5) (A := A) hx hb hlt hown (by decide +kernel) (by decide +kernel) (hts (.classLink RX9 90 "java/lang/IllegalArgumentException") (List.mem_of_getElem? (i := 1) rfl)) (hts (.initialized "java/lang/IllegalArgumentException") (List.mem_of_getElem? (i := 2) rfl)) hstr_6 (vx_hat (B := [.declares (Bundle.initS "java/lang/RuntimeException"), .declares (Bundle.initS "java/lang/Exception"), .declares (Bundle.initS Bundle.tN), .castable "java/lang/IllegalArgumentException" "java/lang/IllegalArgumentException"]) (fun w hw => hts w (bk0 w hw)) (by decide +kernel) (vx_c (va_Nw.use rfl hE.2.2.2.1) (vx_c (va_Nw.use rfl hE.2.2.2.2.1) (vx_c (va_Nw.use rfl hE.2.2.2.2.2.1) (vx_c (va_Nw.use rfl hE.2.2.2.2.2.2.1) vx_n))))) (by decide +kernel) hE.1 hE.2.1 hS (by rw [hml]; exact hl.1) dX9_checkVariable_9 dX9_checkVariable_12 dX9_checkVariable_13 dX9_checkVariable_16 dX9_checkVariable_19 (fun x9 hx9 => (htb x9 hx9).elim) (Nat.le_of_ble_eq_true rfl) (Nat.le_of_ble_eq_true rfl) (Nat.le_of_ble_eq_true rfl) (Nat.le_of_ble_eq_true rfl) hlocks (fun t9 hvm9 h1 h2 => ⟨(), trivial, ⟨⟨rfl, by omega⟩, wP_grow hP h2⟩, k_F hS h1 h2⟩) hS.2.2 (Nat.le_of_ble_eq_true rfl) (Nat.le_of_ble_eq_true rfl)
def wd_W9_ckStep : List Cond := .code yX9_checkStep cX9_checkStep 1 none :: (([.classLink RX9 90 "java/lang/IllegalArgumentException", .initialized "java/lang/IllegalArgumentException"] : List Cond) ++ ((vx_atS RX9 94 "java/lang/IllegalArgumentException" ["java/lang/RuntimeException", "java/lang/Exception"]).filter goodWord ++ ([])))
theorem gw_W9_ckStep : wd_W9_ckStep.all goodWord = true := k_allc rfl (k_all (by decide +kernel) (k_all (k_allf _ _) (rfl)))
set_option maxHeartbeats 4000000 in
set_option maxRecDepth 100000 in
theorem c_W9_ckStep (l : Launch) (hlt : l.stackTraces = false) (dC : Nat → ClassId) (dI : Nat → Nat → Nat) (A : Nat → Prop) (ad : Nat → Nat) (cA : Nat → ClassId) (g : Nat → va_E) (v : Int32) : vx_Met l yX9_checkStep wd_W9_ckStep ({ frames := 10, cells := 1, slots := 6, locals := 200 }) (va_Pc [.int v] (fun U => PR NSc tyc dC dI A ad cA g U ∧ exF A U U.heap)) (va_Qv (fun (u : Unit) => match u with | () => -999 ≤ v.toInt ∧ v.toInt ≤ 999) (fun (u : Unit) (t : State) => va_P (dC, dI) vwCl (wo ad NSc g) t.heap) A) (vx_X (fun _ : Unit => True) (fun E _ t => (E = "java/lang/IllegalArgumentException" ∧ (v.toInt < -999 ∨ 999 < v.toInt)) ∧ va_P (dC, dI) vwCl (wo ad NSc g) t.heap) A) (1) (6) A := by
  refine vx_ofW (cc := cX9_checkStep) (maxL := 1) (ret := none) (by decide) rfl ?_
  intro p e s m args below meth c s₁ B hml htb hv
  obtain ⟨rfl, ⟨hA, hP, hL⟩, hE⟩ := hv
  have hx := B.exec
  have hb := B.bytes
  have hr := B.returns
  have hts := atoms_spec (ws := wd_W9_ckStep) B.pre
  have hown : s.vm.findClass RX9 = some m.cls := findClass_of_methodNamed B.named
  have hlocks := B.notSynchronized
  have hK := hL.1
  have hD : ∀ g, va_D A (wo ad NSc g) := fun g => wo_D hL.2.1 hL.2.2 g
  have hS : va_S A s.heap s.heap [] := va_S.rf
  have bk0 : ∀ w ∈ (vx_atS RX9 94 "java/lang/IllegalArgumentException" ["java/lang/RuntimeException", "java/lang/Exception"]).filter goodWord, w ∈ wd_W9_ckStep := fun _ h => List.mem_cons_of_mem _ (List.mem_append_right _ (List.mem_append_left _ h))
  have hl := lv_entry ([.int v]) (n := 1) (Nat.le_of_ble_eq_true rfl)
  rw [lg_entry_eq]
  generalize (lg_sl ([.int v]) ++ List.replicate (1 - (lg_sl ([.int v])).length) Slot.unset).toArray = ls at hl ⊢
  have hl : lv_has ls 1 [(0, .int v)] := hl
  refine lv_iload_n hx hb dX9_checkStep_0 rfl (lv_at hl 0 rfl) ?_
  refine lv_sipush (v := -999) hx hb dX9_checkStep_1 (by decide +kernel) ?_
  refine lv_icmp_lt (tgt := 14) hx hb dX9_checkStep_4 (by decide) (fun c_1 => ?_) (fun c_1 => ?_)
  · have c_1 := (k_lt v (-999)).mp c_1
    rw [show ((-999 : Int32)).toInt = -999 from by decide] at c_1
    obtain ⟨sa_2, hstr_3⟩ := hE.2.2.1 (269, "x, y or z is not -999 .. 999") (by decide +kernel)
    exact vx_throwSW (own := RX9) (cls := "java/lang/IllegalArgumentException") (text := "x, y or z is not -999 .. 999") (names := ["java/lang/RuntimeException", "java/lang/Exception"]) (ik := 90) (is := 269) (ic := 94) (sa := sa_2) (A := A) hx hb hlt hown (by decide +kernel) (by decide +kernel) (hts (.classLink RX9 90 "java/lang/IllegalArgumentException") (List.mem_of_getElem? (i := 1) rfl)) (hts (.initialized "java/lang/IllegalArgumentException") (List.mem_of_getElem? (i := 2) rfl)) hstr_3 (vx_hat (B := [.declares (Bundle.initS "java/lang/RuntimeException"), .declares (Bundle.initS "java/lang/Exception"), .declares (Bundle.initS Bundle.tN), .castable "java/lang/IllegalArgumentException" "java/lang/IllegalArgumentException"]) (fun w hw => hts w (bk0 w hw)) (by decide +kernel) (vx_c (va_Nw.use rfl hE.2.2.2.1) (vx_c (va_Nw.use rfl hE.2.2.2.2.1) (vx_c (va_Nw.use rfl hE.2.2.2.2.2.1) (vx_c (va_Nw.use rfl hE.2.2.2.2.2.2.1) vx_n))))) (by decide +kernel) hE.1 hE.2.1 hS (by rw [hml]; exact hl.1) dX9_checkStep_14 dX9_checkStep_17 dX9_checkStep_18 dX9_checkStep_21 dX9_checkStep_24 (fun x9 hx9 => (htb x9 hx9).elim) (Nat.le_of_ble_eq_true rfl) (Nat.le_of_ble_eq_true rfl) (Nat.le_of_ble_eq_true rfl) (Nat.le_of_ble_eq_true rfl) hlocks (fun t9 hvm9 h1 h2 => ⟨(), trivial, ⟨⟨rfl, by omega⟩, wP_grow hP h2⟩, k_F hS h1 h2⟩) hS.2.2 (Nat.le_of_ble_eq_true rfl) (Nat.le_of_ble_eq_true rfl)
  · have c_1 := mt (k_lt v (-999)).mpr c_1
    rw [show ((-999 : Int32)).toInt = -999 from by decide] at c_1
    refine lv_iload_n hx hb dX9_checkStep_7 rfl (lv_at hl 0 rfl) ?_
    refine lv_sipush (v := nI 999) hx hb dX9_checkStep_8 (by decide +kernel) ?_
    refine lv_icmp_le (tgt := 25) hx hb dX9_checkStep_11 (by decide) (fun c_4 => ?_) (fun c_4 => ?_)
    · have c_4 := (k_le v (nI 999)).mp c_4
      rw [show (nI 999).toInt = 999 from by decide] at c_4
      refine vx_ret ?_
      refine W.widen (k := 1) (n := 6) (by omega) (by omega) ?_
      exact W.vret hx hb hr (fun t9 ht9 hW9 => ⟨⟨(), rfl, (by omega), by show va_P (dC, dI) vwCl _ t9.heap; rw [ht9]; exact hP⟩, hS.F ht9⟩) hS.2.2 dX9_checkStep_25
    · have c_4 := mt (k_le v (nI 999)).mpr c_4
      rw [show (nI 999).toInt = 999 from by decide] at c_4
      obtain ⟨sa_5, hstr_6⟩ := hE.2.2.1 (269, "x, y or z is not -999 .. 999") (by decide +kernel)
      exact vx_throwSW (own := RX9) (cls := "java/lang/IllegalArgumentException") (text := "x, y or z is not -999 .. 999") (names := ["java/lang/RuntimeException", "java/lang/Exception"]) (ik := 90) (is := 269) (ic := 94) (sa := sa_5) (A := A) hx hb hlt hown (by decide +kernel) (by decide +kernel) (hts (.classLink RX9 90 "java/lang/IllegalArgumentException") (List.mem_of_getElem? (i := 1) rfl)) (hts (.initialized "java/lang/IllegalArgumentException") (List.mem_of_getElem? (i := 2) rfl)) hstr_6 (vx_hat (B := [.declares (Bundle.initS "java/lang/RuntimeException"), .declares (Bundle.initS "java/lang/Exception"), .declares (Bundle.initS Bundle.tN), .castable "java/lang/IllegalArgumentException" "java/lang/IllegalArgumentException"]) (fun w hw => hts w (bk0 w hw)) (by decide +kernel) (vx_c (va_Nw.use rfl hE.2.2.2.1) (vx_c (va_Nw.use rfl hE.2.2.2.2.1) (vx_c (va_Nw.use rfl hE.2.2.2.2.2.1) (vx_c (va_Nw.use rfl hE.2.2.2.2.2.2.1) vx_n))))) (by decide +kernel) hE.1 hE.2.1 hS (by rw [hml]; exact hl.1) dX9_checkStep_14 dX9_checkStep_17 dX9_checkStep_18 dX9_checkStep_21 dX9_checkStep_24 (fun x9 hx9 => (htb x9 hx9).elim) (Nat.le_of_ble_eq_true rfl) (Nat.le_of_ble_eq_true rfl) (Nat.le_of_ble_eq_true rfl) (Nat.le_of_ble_eq_true rfl) hlocks (fun t9 hvm9 h1 h2 => ⟨(), trivial, ⟨⟨rfl, by omega⟩, wP_grow hP h2⟩, k_F hS h1 h2⟩) hS.2.2 (Nat.le_of_ble_eq_true rfl) (Nat.le_of_ble_eq_true rfl)
def wd_W9_ckSide : List Cond := .code yX9_checkSide cX9_checkSide 1 none :: (([.classLink RX9 90 "java/lang/IllegalArgumentException", .initialized "java/lang/IllegalArgumentException"] : List Cond) ++ ((vx_atS RX9 94 "java/lang/IllegalArgumentException" ["java/lang/RuntimeException", "java/lang/Exception"]).filter goodWord ++ ([])))
theorem gw_W9_ckSide : wd_W9_ckSide.all goodWord = true := k_allc rfl (k_all (by decide +kernel) (k_all (k_allf _ _) (rfl)))
set_option maxHeartbeats 4000000 in
set_option maxRecDepth 100000 in
theorem c_W9_ckSide (l : Launch) (hlt : l.stackTraces = false) (dC : Nat → ClassId) (dI : Nat → Nat → Nat) (A : Nat → Prop) (ad : Nat → Nat) (cA : Nat → ClassId) (g : Nat → va_E) (v : Int32) : vx_Met l yX9_checkSide wd_W9_ckSide ({ frames := 10, cells := 1, slots := 6, locals := 200 }) (va_Pc [.int v] (fun U => PR NSc tyc dC dI A ad cA g U ∧ exF A U U.heap)) (va_Qv (fun (u : Unit) => match u with | () => 0 ≤ v.toInt ∧ v.toInt ≤ 1) (fun (u : Unit) (t : State) => va_P (dC, dI) vwCl (wo ad NSc g) t.heap) A) (vx_X (fun _ : Unit => True) (fun E _ t => (E = "java/lang/IllegalArgumentException" ∧ (v.toInt < 0 ∨ 1 < v.toInt)) ∧ va_P (dC, dI) vwCl (wo ad NSc g) t.heap) A) (1) (6) A := by
  refine vx_ofW (cc := cX9_checkSide) (maxL := 1) (ret := none) (by decide) rfl ?_
  intro p e s m args below meth c s₁ B hml htb hv
  obtain ⟨rfl, ⟨hA, hP, hL⟩, hE⟩ := hv
  have hx := B.exec
  have hb := B.bytes
  have hr := B.returns
  have hts := atoms_spec (ws := wd_W9_ckSide) B.pre
  have hown : s.vm.findClass RX9 = some m.cls := findClass_of_methodNamed B.named
  have hlocks := B.notSynchronized
  have hK := hL.1
  have hD : ∀ g, va_D A (wo ad NSc g) := fun g => wo_D hL.2.1 hL.2.2 g
  have hS : va_S A s.heap s.heap [] := va_S.rf
  have bk0 : ∀ w ∈ (vx_atS RX9 94 "java/lang/IllegalArgumentException" ["java/lang/RuntimeException", "java/lang/Exception"]).filter goodWord, w ∈ wd_W9_ckSide := fun _ h => List.mem_cons_of_mem _ (List.mem_append_right _ (List.mem_append_left _ h))
  have hl := lv_entry ([.int v]) (n := 1) (Nat.le_of_ble_eq_true rfl)
  rw [lg_entry_eq]
  generalize (lg_sl ([.int v]) ++ List.replicate (1 - (lg_sl ([.int v])).length) Slot.unset).toArray = ls at hl ⊢
  have hl : lv_has ls 1 [(0, .int v)] := hl
  refine lv_iload_n hx hb dX9_checkSide_0 rfl (lv_at hl 0 rfl) ?_
  refine lv_if_lt (tgt := 9) hx hb dX9_checkSide_1 (by decide) (fun c_1 => ?_) (fun c_1 => ?_)
  · have c_1 := (k_lt v (nI 0)).mp c_1
    rw [show (nI 0).toInt = 0 from by decide] at c_1
    obtain ⟨sa_2, hstr_3⟩ := hE.2.2.1 (271, "which is not 0 or 1") (by decide +kernel)
    exact vx_throwSW (own := RX9) (cls := "java/lang/IllegalArgumentException") (text := "which is not 0 or 1") (names := ["java/lang/RuntimeException", "java/lang/Exception"]) (ik := 90) (is := 271) (ic := 94) (sa := sa_2) (A := A) hx hb hlt hown (by decide +kernel) (by decide +kernel) (hts (.classLink RX9 90 "java/lang/IllegalArgumentException") (List.mem_of_getElem? (i := 1) rfl)) (hts (.initialized "java/lang/IllegalArgumentException") (List.mem_of_getElem? (i := 2) rfl)) hstr_3 (vx_hat (B := [.declares (Bundle.initS "java/lang/RuntimeException"), .declares (Bundle.initS "java/lang/Exception"), .declares (Bundle.initS Bundle.tN), .castable "java/lang/IllegalArgumentException" "java/lang/IllegalArgumentException"]) (fun w hw => hts w (bk0 w hw)) (by decide +kernel) (vx_c (va_Nw.use rfl hE.2.2.2.1) (vx_c (va_Nw.use rfl hE.2.2.2.2.1) (vx_c (va_Nw.use rfl hE.2.2.2.2.2.1) (vx_c (va_Nw.use rfl hE.2.2.2.2.2.2.1) vx_n))))) (by decide +kernel) hE.1 hE.2.1 hS (by rw [hml]; exact hl.1) dX9_checkSide_9 dX9_checkSide_12 dX9_checkSide_13 dX9_checkSide_16 dX9_checkSide_19 (fun x9 hx9 => (htb x9 hx9).elim) (Nat.le_of_ble_eq_true rfl) (Nat.le_of_ble_eq_true rfl) (Nat.le_of_ble_eq_true rfl) (Nat.le_of_ble_eq_true rfl) hlocks (fun t9 hvm9 h1 h2 => ⟨(), trivial, ⟨⟨rfl, by omega⟩, wP_grow hP h2⟩, k_F hS h1 h2⟩) hS.2.2 (Nat.le_of_ble_eq_true rfl) (Nat.le_of_ble_eq_true rfl)
  · have c_1 := mt (k_lt v (nI 0)).mpr c_1
    rw [show (nI 0).toInt = 0 from by decide] at c_1
    refine lv_iload_n hx hb dX9_checkSide_4 rfl (lv_at hl 0 rfl) ?_
    refine lv_iconst (v := nI 1) hx hb dX9_checkSide_5 (by decide +kernel) ?_
    refine lv_icmp_le (tgt := 20) hx hb dX9_checkSide_6 (by decide) (fun c_4 => ?_) (fun c_4 => ?_)
    · have c_4 := (k_le v (nI 1)).mp c_4
      rw [show (nI 1).toInt = 1 from by decide] at c_4
      refine vx_ret ?_
      refine W.widen (k := 1) (n := 6) (by omega) (by omega) ?_
      exact W.vret hx hb hr (fun t9 ht9 hW9 => ⟨⟨(), rfl, (by omega), by show va_P (dC, dI) vwCl _ t9.heap; rw [ht9]; exact hP⟩, hS.F ht9⟩) hS.2.2 dX9_checkSide_20
    · have c_4 := mt (k_le v (nI 1)).mpr c_4
      rw [show (nI 1).toInt = 1 from by decide] at c_4
      obtain ⟨sa_5, hstr_6⟩ := hE.2.2.1 (271, "which is not 0 or 1") (by decide +kernel)
      exact vx_throwSW (own := RX9) (cls := "java/lang/IllegalArgumentException") (text := "which is not 0 or 1") (names := ["java/lang/RuntimeException", "java/lang/Exception"]) (ik := 90) (is := 271) (ic := 94) (sa := sa_5) (A := A) hx hb hlt hown (by decide +kernel) (by decide +kernel) (hts (.classLink RX9 90 "java/lang/IllegalArgumentException") (List.mem_of_getElem? (i := 1) rfl)) (hts (.initialized "java/lang/IllegalArgumentException") (List.mem_of_getElem? (i := 2) rfl)) hstr_6 (vx_hat (B := [.declares (Bundle.initS "java/lang/RuntimeException"), .declares (Bundle.initS "java/lang/Exception"), .declares (Bundle.initS Bundle.tN), .castable "java/lang/IllegalArgumentException" "java/lang/IllegalArgumentException"]) (fun w hw => hts w (bk0 w hw)) (by decide +kernel) (vx_c (va_Nw.use rfl hE.2.2.2.1) (vx_c (va_Nw.use rfl hE.2.2.2.2.1) (vx_c (va_Nw.use rfl hE.2.2.2.2.2.1) (vx_c (va_Nw.use rfl hE.2.2.2.2.2.2.1) vx_n))))) (by decide +kernel) hE.1 hE.2.1 hS (by rw [hml]; exact hl.1) dX9_checkSide_9 dX9_checkSide_12 dX9_checkSide_13 dX9_checkSide_16 dX9_checkSide_19 (fun x9 hx9 => (htb x9 hx9).elim) (Nat.le_of_ble_eq_true rfl) (Nat.le_of_ble_eq_true rfl) (Nat.le_of_ble_eq_true rfl) (Nat.le_of_ble_eq_true rfl) hlocks (fun t9 hvm9 h1 h2 => ⟨(), trivial, ⟨⟨rfl, by omega⟩, wP_grow hP h2⟩, k_F hS h1 h2⟩) hS.2.2 (Nat.le_of_ble_eq_true rfl) (Nat.le_of_ble_eq_true rfl)
def wd_W9_ckRes : List Cond := .code yX9_checkResult cX9_checkResult 1 none :: (([.classLink RX9 241 "java/lang/IndexOutOfBoundsException", .initialized "java/lang/IndexOutOfBoundsException"] : List Cond) ++ ((vx_atS RX9 245 "java/lang/IndexOutOfBoundsException" ["java/lang/RuntimeException", "java/lang/Exception"]).filter goodWord ++ ([])))
theorem gw_W9_ckRes : wd_W9_ckRes.all goodWord = true := k_allc rfl (k_all (by decide +kernel) (k_all (k_allf _ _) (rfl)))
set_option maxHeartbeats 4000000 in
set_option maxRecDepth 100000 in
theorem c_W9_ckRes (l : Launch) (hlt : l.stackTraces = false) (dC : Nat → ClassId) (dI : Nat → Nat → Nat) (A : Nat → Prop) (ad : Nat → Nat) (cA : Nat → ClassId) (g : Nat → va_E) (v : Int32) : vx_Met l yX9_checkResult wd_W9_ckRes ({ frames := 10, cells := 1, slots := 6, locals := 200 }) (va_Pc [.int v] (fun U => PR NSc tyc dC dI A ad cA g U ∧ exF A U U.heap)) (va_Qv (fun (u : Unit) => match u with | () => 0 ≤ v.toInt ∧ v.toInt ≤ 7) (fun (u : Unit) (t : State) => va_P (dC, dI) vwCl (wo ad NSc g) t.heap) A) (vx_X (fun _ : Unit => True) (fun E _ t => (E = "java/lang/IndexOutOfBoundsException" ∧ (v.toInt < 0 ∨ 7 < v.toInt)) ∧ va_P (dC, dI) vwCl (wo ad NSc g) t.heap) A) (1) (6) A := by
  refine vx_ofW (cc := cX9_checkResult) (maxL := 1) (ret := none) (by decide) rfl ?_
  intro p e s m args below meth c s₁ B hml htb hv
  obtain ⟨rfl, ⟨hA, hP, hL⟩, hE⟩ := hv
  have hx := B.exec
  have hb := B.bytes
  have hr := B.returns
  have hts := atoms_spec (ws := wd_W9_ckRes) B.pre
  have hown : s.vm.findClass RX9 = some m.cls := findClass_of_methodNamed B.named
  have hlocks := B.notSynchronized
  have hK := hL.1
  have hD : ∀ g, va_D A (wo ad NSc g) := fun g => wo_D hL.2.1 hL.2.2 g
  have hS : va_S A s.heap s.heap [] := va_S.rf
  have bk0 : ∀ w ∈ (vx_atS RX9 245 "java/lang/IndexOutOfBoundsException" ["java/lang/RuntimeException", "java/lang/Exception"]).filter goodWord, w ∈ wd_W9_ckRes := fun _ h => List.mem_cons_of_mem _ (List.mem_append_right _ (List.mem_append_left _ h))
  have hl := lv_entry ([.int v]) (n := 1) (Nat.le_of_ble_eq_true rfl)
  rw [lg_entry_eq]
  generalize (lg_sl ([.int v]) ++ List.replicate (1 - (lg_sl ([.int v])).length) Slot.unset).toArray = ls at hl ⊢
  have hl : lv_has ls 1 [(0, .int v)] := hl
  refine lv_iload_n hx hb dX9_checkResult_0 rfl (lv_at hl 0 rfl) ?_
  refine lv_if_lt (tgt := 10) hx hb dX9_checkResult_1 (by decide) (fun c_1 => ?_) (fun c_1 => ?_)
  · have c_1 := (k_lt v (nI 0)).mp c_1
    rw [show (nI 0).toInt = 0 from by decide] at c_1
    obtain ⟨sa_2, hstr_3⟩ := hE.2.2.1 (273, "there is no such result") (by decide +kernel)
    exact vx_throwSW (own := RX9) (cls := "java/lang/IndexOutOfBoundsException") (text := "there is no such result") (names := ["java/lang/RuntimeException", "java/lang/Exception"]) (ik := 241) (is := 273) (ic := 245) (sa := sa_2) (A := A) hx hb hlt hown (by decide +kernel) (by decide +kernel) (hts (.classLink RX9 241 "java/lang/IndexOutOfBoundsException") (List.mem_of_getElem? (i := 1) rfl)) (hts (.initialized "java/lang/IndexOutOfBoundsException") (List.mem_of_getElem? (i := 2) rfl)) hstr_3 (vx_hat (B := [.declares (Bundle.initS "java/lang/RuntimeException"), .declares (Bundle.initS "java/lang/Exception"), .declares (Bundle.initS Bundle.tN), .castable "java/lang/IndexOutOfBoundsException" "java/lang/IndexOutOfBoundsException"]) (fun w hw => hts w (bk0 w hw)) (by decide +kernel) (vx_c (va_Nw.use rfl hE.2.2.2.1) (vx_c (va_Nw.use rfl hE.2.2.2.2.1) (vx_c (va_Nw.use rfl hE.2.2.2.2.2.1) (vx_c (va_Nw.use rfl hE.2.2.2.2.2.2.2.2.1) vx_n))))) (by decide +kernel) hE.1 hE.2.1 hS (by rw [hml]; exact hl.1) dX9_checkResult_10 dX9_checkResult_13 dX9_checkResult_14 dX9_checkResult_17 dX9_checkResult_20 (fun x9 hx9 => (htb x9 hx9).elim) (Nat.le_of_ble_eq_true rfl) (Nat.le_of_ble_eq_true rfl) (Nat.le_of_ble_eq_true rfl) (Nat.le_of_ble_eq_true rfl) hlocks (fun t9 hvm9 h1 h2 => ⟨(), trivial, ⟨⟨rfl, by omega⟩, wP_grow hP h2⟩, k_F hS h1 h2⟩) hS.2.2 (Nat.le_of_ble_eq_true rfl) (Nat.le_of_ble_eq_true rfl)
  · have c_1 := mt (k_lt v (nI 0)).mpr c_1
    rw [show (nI 0).toInt = 0 from by decide] at c_1
    refine lv_iload_n hx hb dX9_checkResult_4 rfl (lv_at hl 0 rfl) ?_
    refine lv_bipush (v := nI 8) hx hb dX9_checkResult_5 (by decide +kernel) ?_
    refine lv_icmp_lt (tgt := 21) hx hb dX9_checkResult_7 (by decide) (fun c_4 => ?_) (fun c_4 => ?_)
    · have c_4 := (k_lt v (nI 8)).mp c_4
      rw [show (nI 8).toInt = 8 from by decide] at c_4
      refine vx_ret ?_
      refine W.widen (k := 1) (n := 6) (by omega) (by omega) ?_
      exact W.vret hx hb hr (fun t9 ht9 hW9 => ⟨⟨(), rfl, (by omega), by show va_P (dC, dI) vwCl _ t9.heap; rw [ht9]; exact hP⟩, hS.F ht9⟩) hS.2.2 dX9_checkResult_21
    · have c_4 := mt (k_lt v (nI 8)).mpr c_4
      rw [show (nI 8).toInt = 8 from by decide] at c_4
      obtain ⟨sa_5, hstr_6⟩ := hE.2.2.1 (273, "there is no such result") (by decide +kernel)
      exact vx_throwSW (own := RX9) (cls := "java/lang/IndexOutOfBoundsException") (text := "there is no such result") (names := ["java/lang/RuntimeException", "java/lang/Exception"]) (ik := 241) (is := 273) (ic := 245) (sa := sa_5) (A := A) hx hb hlt hown (by decide +kernel) (by decide +kernel) (hts (.classLink RX9 241 "java/lang/IndexOutOfBoundsException") (List.mem_of_getElem? (i := 1) rfl)) (hts (.initialized "java/lang/IndexOutOfBoundsException") (List.mem_of_getElem? (i := 2) rfl)) hstr_6 (vx_hat (B := [.declares (Bundle.initS "java/lang/RuntimeException"), .declares (Bundle.initS "java/lang/Exception"), .declares (Bundle.initS Bundle.tN), .castable "java/lang/IndexOutOfBoundsException" "java/lang/IndexOutOfBoundsException"]) (fun w hw => hts w (bk0 w hw)) (by decide +kernel) (vx_c (va_Nw.use rfl hE.2.2.2.1) (vx_c (va_Nw.use rfl hE.2.2.2.2.1) (vx_c (va_Nw.use rfl hE.2.2.2.2.2.1) (vx_c (va_Nw.use rfl hE.2.2.2.2.2.2.2.2.1) vx_n))))) (by decide +kernel) hE.1 hE.2.1 hS (by rw [hml]; exact hl.1) dX9_checkResult_10 dX9_checkResult_13 dX9_checkResult_14 dX9_checkResult_17 dX9_checkResult_20 (fun x9 hx9 => (htb x9 hx9).elim) (Nat.le_of_ble_eq_true rfl) (Nat.le_of_ble_eq_true rfl) (Nat.le_of_ble_eq_true rfl) (Nat.le_of_ble_eq_true rfl) hlocks (fun t9 hvm9 h1 h2 => ⟨(), trivial, ⟨⟨rfl, by omega⟩, wP_grow hP h2⟩, k_F hS h1 h2⟩) hS.2.2 (Nat.le_of_ble_eq_true rfl) (Nat.le_of_ble_eq_true rfl)
def wd_W9_ckPart : List Cond := .code yX9_checkPart cX9_checkPart 2 none :: (([.classLink RX9 241 "java/lang/IndexOutOfBoundsException", .initialized "java/lang/IndexOutOfBoundsException", .fieldLink RX9 28 "GradientDesk" "shelf" "LGradientDesk$Shelf;", .fieldLink RX9 122 "GradientDesk$Shelf" "count" "I"] : List Cond) ++ ((vx_atS RX9 245 "java/lang/IndexOutOfBoundsException" ["java/lang/RuntimeException", "java/lang/Exception"]).filter goodWord ++ (u_ws RX9 TX9 12 ++ (u_ws RX6 TX6 7 ++ ([])))))
theorem gw_W9_ckPart : wd_W9_ckPart.all goodWord = true := k_allc rfl (k_all (by decide +kernel) (k_all (k_allf _ _) (k_all (gu_X9) (k_all (gu_X6) (rfl)))))
set_option maxHeartbeats 4000000 in
set_option maxRecDepth 100000 in
theorem c_W9_ckPart (l : Launch) (hlt : l.stackTraces = false) (dC : Nat → ClassId) (dI : Nat → Nat → Nat) (A : Nat → Prop) (ad : Nat → Nat) (cA : Nat → ClassId) (g : Nat → va_E) (L : List PD) (nm : Nat → Int) (tx : Nat → Nat) (ty : Nat) (wp : Int32) (v : Int32) (hI : CIS ad cA g L nm tx ty wp) : vx_Met l yX9_checkPart wd_W9_ckPart ({ frames := 10, cells := 1, slots := 6, locals := 200 }) (va_Pc [.ref (ad 2076), .int v] (fun U => PR NSc tyc dC dI A ad cA g U ∧ exF A U U.heap)) (va_Qv (fun (u : Unit) => match u with | () => 0 ≤ v.toInt ∧ v.toInt < L.length) (fun (u : Unit) (t : State) => va_P (dC, dI) vwCl (wo ad NSc g) t.heap) A) (vx_X (fun _ : Unit => True) (fun E _ t => (E = "java/lang/IndexOutOfBoundsException" ∧ ¬ (0 ≤ v.toInt ∧ v.toInt < L.length)) ∧ va_P (dC, dI) vwCl (wo ad NSc g) t.heap) A) (1) (6) A := by
  refine vx_ofW (cc := cX9_checkPart) (maxL := 2) (ret := none) (by decide) rfl ?_
  intro p e s m args below meth c s₁ B hml htb hv
  obtain ⟨rfl, ⟨hA, hP, hL⟩, hE⟩ := hv
  have hx := B.exec
  have hb := B.bytes
  have hr := B.returns
  have hts := atoms_spec (ws := wd_W9_ckPart) B.pre
  have hown : s.vm.findClass RX9 = some m.cls := findClass_of_methodNamed B.named
  have hlocks := B.notSynchronized
  have hK := hL.1
  have hD : ∀ g, va_D A (wo ad NSc g) := fun g => wo_D hL.2.1 hL.2.2 g
  have hS : va_S A s.heap s.heap [] := va_S.rf
  have bk0 : ∀ w ∈ (vx_atS RX9 245 "java/lang/IndexOutOfBoundsException" ["java/lang/RuntimeException", "java/lang/Exception"]).filter goodWord, w ∈ wd_W9_ckPart := fun _ h => List.mem_cons_of_mem _ (List.mem_append_right _ (List.mem_append_left _ h))
  have bk1 : ∀ w ∈ u_ws RX9 TX9 12, w ∈ wd_W9_ckPart := fun _ h => List.mem_cons_of_mem _ (List.mem_append_right _ (List.mem_append_right _ (List.mem_append_left _ h)))
  have bk2 : ∀ w ∈ u_ws RX6 TX6 7, w ∈ wd_W9_ckPart := fun _ h => List.mem_cons_of_mem _ (List.mem_append_right _ (List.mem_append_right _ (List.mem_append_right _ (List.mem_append_left _ h))))
  have hl := lv_entry ([.ref (ad 2076), .int v]) (n := 2) (Nat.le_of_ble_eq_true rfl)
  rw [lg_entry_eq]
  generalize (lg_sl ([.ref (ad 2076), .int v]) ++ List.replicate (2 - (lg_sl ([.ref (ad 2076), .int v])).length) Slot.unset).toArray = ls at hl ⊢
  have hl : lv_has ls 2 [(0, .ref (ad 2076)), (1, .int v)] := hl
  have hi9 := hI
  obtain ⟨d0, hC, hWf, d3, d4, d5, d6, d7, d8, d9, da, db, dc⟩ := hi9
  unfold CDO at d0
  have hCo := hC
  obtain ⟨hLno, hWo, ⟨hAro, hWko, hPao, hFro⟩, hOo, pto, hPto, hMo⟩ := hCo
  unfold CSO at hOo
  have hpbo := hPto.2
  have hnl := hC.1
  obtain ⟨nA, nB, nC⟩ := id da
  obtain ⟨fa, fb, pA, pB⟩ := id db
  have hcr9c := d6
  obtain ⟨y0c, y1c, y2c, y3c, y4c, ⟨ftc, y5c⟩, fhc, y6c⟩ := hcr9c
  obtain ⟨Mx, hSm⟩ := id d8
  have hsc9z := hSm
  obtain ⟨lnz, wcz, flz, fwz, fdz, fzz, fqz, s1z, s2z, s3z, s4z, s5z, s6z, s7z, s8z, s9z, saz, sbz⟩ := hsc9z
  unfold SCO at s1z
  refine lv_iload_n hx hb dX9_checkPart_0 rfl (lv_at hl 1 rfl) ?_
  refine lv_if_lt (tgt := 15) hx hb dX9_checkPart_1 (by decide) (fun c_1 => ?_) (fun c_1 => ?_)
  · have c_1 := (k_lt v (nI 0)).mp c_1
    rw [show (nI 0).toInt = 0 from by decide] at c_1
    obtain ⟨sa_2, hstr_3⟩ := hE.2.2.1 (275, "there is no such part") (by decide +kernel)
    exact vx_throwSW (own := RX9) (cls := "java/lang/IndexOutOfBoundsException") (text := "there is no such part") (names := ["java/lang/RuntimeException", "java/lang/Exception"]) (ik := 241) (is := 275) (ic := 245) (sa := sa_2) (A := A) hx hb hlt hown (by decide +kernel) (by decide +kernel) (hts (.classLink RX9 241 "java/lang/IndexOutOfBoundsException") (List.mem_of_getElem? (i := 1) rfl)) (hts (.initialized "java/lang/IndexOutOfBoundsException") (List.mem_of_getElem? (i := 2) rfl)) hstr_3 (vx_hat (B := [.declares (Bundle.initS "java/lang/RuntimeException"), .declares (Bundle.initS "java/lang/Exception"), .declares (Bundle.initS Bundle.tN), .castable "java/lang/IndexOutOfBoundsException" "java/lang/IndexOutOfBoundsException"]) (fun w hw => hts w (bk0 w hw)) (by decide +kernel) (vx_c (va_Nw.use rfl hE.2.2.2.1) (vx_c (va_Nw.use rfl hE.2.2.2.2.1) (vx_c (va_Nw.use rfl hE.2.2.2.2.2.1) (vx_c (va_Nw.use rfl hE.2.2.2.2.2.2.2.2.1) vx_n))))) (by decide +kernel) hE.1 hE.2.1 hS (by rw [hml]; exact hl.1) dX9_checkPart_15 dX9_checkPart_18 dX9_checkPart_19 dX9_checkPart_22 dX9_checkPart_25 (fun x9 hx9 => (htb x9 hx9).elim) (Nat.le_of_ble_eq_true rfl) (Nat.le_of_ble_eq_true rfl) (Nat.le_of_ble_eq_true rfl) (Nat.le_of_ble_eq_true rfl) hlocks (fun t9 hvm9 h1 h2 => ⟨(), trivial, ⟨⟨rfl, by omega⟩, wP_grow hP h2⟩, k_F hS h1 h2⟩) hS.2.2 (Nat.le_of_ble_eq_true rfl) (Nat.le_of_ble_eq_true rfl)
  · have c_1 := mt (k_lt v (nI 0)).mpr c_1
    rw [show (nI 0).toInt = 0 from by decide] at c_1
    refine lv_iload_n hx hb dX9_checkPart_4 rfl (lv_at hl 1 rfl) ?_
    refine lv_aload_n hx hb dX9_checkPart_5 rfl (lv_at hl 0 rfl) ?_
    refine m_get (D := (dC, dI)) (v := .ref (ad 2080)) (C := RX9) (T := TX9) (N := 12) hx hb hts bk1 hown hK hP 2076 (by decide) d0 rfl 2 (by decide) (hts (.fieldLink RX9 28 "GradientDesk" "shelf" "LGradientDesk$Shelf;") (List.mem_of_getElem? (i := 3) rfl)) (fun _ h9 => h9) rfl dX9_checkPart_6 ?_
    refine m_get (D := (dC, dI)) (v := .int (nI L.length)) (C := RX6) (T := TX6) (N := 7) hx hb hts bk2 hown hK hP 2080 (by decide) hOo rfl 2 (by decide) (hts (.fieldLink RX9 122 "GradientDesk$Shelf" "count" "I") (List.mem_of_getElem? (i := 4) rfl)) (fun _ h9 => h9) rfl dX9_checkPart_9 ?_
    refine lv_icmp_lt (tgt := 26) hx hb dX9_checkPart_12 (by decide) (fun c_4 => ?_) (fun c_4 => ?_)
    · have c_4 := (k_lt v (nI L.length)).mp c_4
      rw [nI_toInt (show L.length < 2 ^ 31 by omega)] at c_4
      refine vx_ret ?_
      refine W.widen (k := 1) (n := 6) (by omega) (by omega) ?_
      exact W.vret hx hb hr (fun t9 ht9 hW9 => ⟨⟨(), rfl, (by omega), by show va_P (dC, dI) vwCl _ t9.heap; rw [ht9]; exact hP⟩, hS.F ht9⟩) hS.2.2 dX9_checkPart_26
    · have c_4 := mt (k_lt v (nI L.length)).mpr c_4
      rw [nI_toInt (show L.length < 2 ^ 31 by omega)] at c_4
      obtain ⟨sa_5, hstr_6⟩ := hE.2.2.1 (275, "there is no such part") (by decide +kernel)
      exact vx_throwSW (own := RX9) (cls := "java/lang/IndexOutOfBoundsException") (text := "there is no such part") (names := ["java/lang/RuntimeException", "java/lang/Exception"]) (ik := 241) (is := 275) (ic := 245) (sa := sa_5) (A := A) hx hb hlt hown (by decide +kernel) (by decide +kernel) (hts (.classLink RX9 241 "java/lang/IndexOutOfBoundsException") (List.mem_of_getElem? (i := 1) rfl)) (hts (.initialized "java/lang/IndexOutOfBoundsException") (List.mem_of_getElem? (i := 2) rfl)) hstr_6 (vx_hat (B := [.declares (Bundle.initS "java/lang/RuntimeException"), .declares (Bundle.initS "java/lang/Exception"), .declares (Bundle.initS Bundle.tN), .castable "java/lang/IndexOutOfBoundsException" "java/lang/IndexOutOfBoundsException"]) (fun w hw => hts w (bk0 w hw)) (by decide +kernel) (vx_c (va_Nw.use rfl hE.2.2.2.1) (vx_c (va_Nw.use rfl hE.2.2.2.2.1) (vx_c (va_Nw.use rfl hE.2.2.2.2.2.1) (vx_c (va_Nw.use rfl hE.2.2.2.2.2.2.2.2.1) vx_n))))) (by decide +kernel) hE.1 hE.2.1 hS (by rw [hml]; exact hl.1) dX9_checkPart_15 dX9_checkPart_18 dX9_checkPart_19 dX9_checkPart_22 dX9_checkPart_25 (fun x9 hx9 => (htb x9 hx9).elim) (Nat.le_of_ble_eq_true rfl) (Nat.le_of_ble_eq_true rfl) (Nat.le_of_ble_eq_true rfl) (Nat.le_of_ble_eq_true rfl) hlocks (fun t9 hvm9 h1 h2 => ⟨(), trivial, ⟨⟨rfl, by omega⟩, wP_grow hP h2⟩, k_F hS h1 h2⟩) hS.2.2 (Nat.le_of_ble_eq_true rfl) (Nat.le_of_ble_eq_true rfl)
def wd_W9_ckKnown : List Cond := .code yX9_checkKnown cX9_checkKnown 2 none :: (([.fieldLink RX9 70 "GradientDesk" "names" "[I", .classLink RX9 277 "java/util/NoSuchElementException", .initialized "java/util/NoSuchElementException"] : List Cond) ++ (u_ws RX9 TX9 12 ++ ((k_atX RX9 281 "java/util/NoSuchElementException" 13 prog_37_method_4_code ["java/lang/RuntimeException", "java/lang/Exception"]).filter goodWord ++ ([]))))
theorem gw_W9_ckKnown : wd_W9_ckKnown.all goodWord = true := k_allc rfl (k_all (by decide +kernel) (k_all (gu_X9) (k_all (k_allf _ _) (rfl))))
set_option maxHeartbeats 4000000 in
set_option maxRecDepth 100000 in
theorem c_W9_ckKnown (l : Launch) (hlt : l.stackTraces = false) (dC : Nat → ClassId) (dI : Nat → Nat → Nat) (A : Nat → Prop) (ad : Nat → Nat) (cA : Nat → ClassId) (g : Nat → va_E) (L : List PD) (nm : Nat → Int) (tx : Nat → Nat) (ty : Nat) (wp : Int32) (vn : Nat) (hI : CIS ad cA g L nm tx ty wp) (hvn : vn ≤ 7) : vx_Met l yX9_checkKnown wd_W9_ckKnown ({ frames := 10, cells := 1, slots := 6, locals := 200 }) (va_Pc [.ref (ad 2076), .int (nI vn)] (fun U => PR NSc tyc dC dI A ad cA g U ∧ exF A U U.heap)) (va_Qv (fun (u : Unit) => match u with | () => 0 ≤ nm vn) (fun (u : Unit) (t : State) => va_P (dC, dI) vwCl (wo ad NSc g) t.heap) A) (vx_X (fun _ : Unit => True) (fun E _ t => (E = "java/util/NoSuchElementException" ∧ nm vn < 0) ∧ va_P (dC, dI) vwCl (wo ad NSc g) t.heap) A) (1) (6) A := by
  refine vx_ofW (cc := cX9_checkKnown) (maxL := 2) (ret := none) (by decide) rfl ?_
  intro p e s m args below meth c s₁ B hml htb hv
  obtain ⟨rfl, ⟨hA, hP, hL⟩, hE⟩ := hv
  have hx := B.exec
  have hb := B.bytes
  have hr := B.returns
  have hts := atoms_spec (ws := wd_W9_ckKnown) B.pre
  have hown : s.vm.findClass RX9 = some m.cls := findClass_of_methodNamed B.named
  have hlocks := B.notSynchronized
  have hK := hL.1
  have hD : ∀ g, va_D A (wo ad NSc g) := fun g => wo_D hL.2.1 hL.2.2 g
  have hS : va_S A s.heap s.heap [] := va_S.rf
  have bk0 : ∀ w ∈ u_ws RX9 TX9 12, w ∈ wd_W9_ckKnown := fun _ h => List.mem_cons_of_mem _ (List.mem_append_right _ (List.mem_append_left _ h))
  have bk1 : ∀ w ∈ (k_atX RX9 281 "java/util/NoSuchElementException" 13 prog_37_method_4_code ["java/lang/RuntimeException", "java/lang/Exception"]).filter goodWord, w ∈ wd_W9_ckKnown := fun _ h => List.mem_cons_of_mem _ (List.mem_append_right _ (List.mem_append_right _ (List.mem_append_left _ h)))
  have hl := lv_entry ([.ref (ad 2076), .int (nI vn)]) (n := 2) (Nat.le_of_ble_eq_true rfl)
  rw [lg_entry_eq]
  generalize (lg_sl ([.ref (ad 2076), .int (nI vn)]) ++ List.replicate (2 - (lg_sl ([.ref (ad 2076), .int (nI vn)])).length) Slot.unset).toArray = ls at hl ⊢
  have hl : lv_has ls 2 [(0, .ref (ad 2076)), (1, .int (nI vn))] := hl
  have hi9 := hI
  obtain ⟨d0, hC, hWf, d3, d4, d5, d6, d7, d8, d9, da, db, dc⟩ := hi9
  unfold CDO at d0
  have hCo := hC
  obtain ⟨hLno, hWo, ⟨hAro, hWko, hPao, hFro⟩, hOo, pto, hPto, hMo⟩ := hCo
  unfold CSO at hOo
  have hpbo := hPto.2
  have hnl := hC.1
  obtain ⟨nA, nB, nC⟩ := id da
  obtain ⟨fa, fb, pA, pB⟩ := id db
  have hcr9c := d6
  obtain ⟨y0c, y1c, y2c, y3c, y4c, ⟨ftc, y5c⟩, fhc, y6c⟩ := hcr9c
  obtain ⟨Mx, hSm⟩ := id d8
  have hsc9z := hSm
  obtain ⟨lnz, wcz, flz, fwz, fdz, fzz, fqz, s1z, s2z, s3z, s4z, s5z, s6z, s7z, s8z, s9z, saz, sbz⟩ := hsc9z
  unfold SCO at s1z
  refine lv_aload_n hx hb dX9_checkKnown_0 rfl (lv_at hl 0 rfl) ?_
  refine m_get (D := (dC, dI)) (v := .ref (ad 2104)) (C := RX9) (T := TX9) (N := 12) hx hb hts bk0 hown hK hP 2076 (by decide) d0 rfl 8 (by decide) (hts (.fieldLink RX9 70 "GradientDesk" "names" "[I") (List.mem_of_getElem? (i := 1) rfl)) (fun _ h9 => h9) rfl dX9_checkKnown_1 ?_
  refine lv_iload_n hx hb dX9_checkKnown_4 rfl (lv_at hl 1 rfl) ?_
  refine m_iald hx hb hK hP 2104 (by decide) rfl nA (i := vn) (by omega) (by decide) dX9_checkKnown_5 ?_
  have b_1 := nB vn
  refine lv_iconst (v := -1) hx hb dX9_checkKnown_6 (by decide +kernel) ?_
  refine lv_icmp_ne (tgt := 21) hx hb dX9_checkKnown_7 (by decide) (fun c_2 => ?_) (fun c_2 => ?_)
  · have c_2 := mt (k_iEQ (a := nm vn) (b := (-1)) rfl (show (-1 : Int32) = iI (-1) from by decide) (by omega) (by omega)).mpr c_2
    refine vx_ret ?_
    refine W.widen (k := 1) (n := 6) (by omega) (by omega) ?_
    exact W.vret hx hb hr (fun t9 ht9 hW9 => ⟨⟨(), rfl, (by omega), by show va_P (dC, dI) vwCl _ t9.heap; rw [ht9]; exact hP⟩, hS.F ht9⟩) hS.2.2 dX9_checkKnown_21
  · have c_2 := (k_iEQ (a := nm vn) (b := (-1)) rfl (show (-1 : Int32) = iI (-1) from by decide) (by omega) (by omega)).mp c_2
    obtain ⟨sa_3, hstr_4⟩ := hE.2.2.1 (279, "there is no expression with this name") (by decide +kernel)
    exact k_throwX (ix := 13) (rx := prog_37_method_4_code) (own := RX9) (cls := "java/util/NoSuchElementException") (text := "there is no expression with this name") (names := ["java/lang/RuntimeException", "java/lang/Exception"]) (ik := 277) (is := 279) (ic := 281) (sa := sa_3) (A := A) (by decide +kernel) (by decide +kernel) (by decide +kernel) (by decide +kernel) hx hb hlt hown (by decide +kernel) (by decide +kernel) (hts (.classLink RX9 277 "java/util/NoSuchElementException") (List.mem_of_getElem? (i := 2) rfl)) (hts (.initialized "java/util/NoSuchElementException") (List.mem_of_getElem? (i := 3) rfl)) hstr_4 (vx_hat (B := [.declares (Bundle.initS "java/lang/RuntimeException"), .declares (Bundle.initS "java/lang/Exception"), .declares (Bundle.initS Bundle.tN), .castable "java/util/NoSuchElementException" "java/util/NoSuchElementException"]) (fun w hw => hts w (bk1 w hw)) (by decide +kernel) (vx_c (va_Nw.use rfl hE.2.2.2.1) (vx_c (va_Nw.use rfl hE.2.2.2.2.1) (vx_c (va_Nw.use rfl hE.2.2.2.2.2.1) (vx_c (va_Nw.use rfl hE.2.2.2.2.2.2.2.2.2.1) vx_n))))) (by decide +kernel) hE.1 hE.2.1 hS (by rw [hml]; exact hl.1) dX9_checkKnown_10 dX9_checkKnown_13 dX9_checkKnown_14 dX9_checkKnown_17 dX9_checkKnown_20 (fun x9 hx9 => (htb x9 hx9).elim) (Nat.le_of_ble_eq_true rfl) (Nat.le_of_ble_eq_true rfl) (Nat.le_of_ble_eq_true rfl) (Nat.le_of_ble_eq_true rfl) hlocks (fun t9 hvm9 h1 h2 => ⟨(), trivial, ⟨⟨rfl, by omega⟩, wP_grow hP h2⟩, k_F hS h1 h2⟩) hS.2.2 (Nat.le_of_ble_eq_true rfl) (Nat.le_of_ble_eq_true rfl)
def wd_W9_place : List Cond := .code yX9_place cX9_place 1 (some .int) :: (([.fieldLink RX9 86 "GradientDesk" "wrongPlace" "I"] : List Cond) ++ (u_ws RX9 TX9 12 ++ ([])))
theorem gw_W9_place : wd_W9_place.all goodWord = true := k_allc rfl (k_all (by decide +kernel) (k_all (gu_X9) (rfl)))
set_option maxHeartbeats 4000000 in
set_option maxRecDepth 100000 in
theorem c_W9_place (l : Launch) (dC : Nat → ClassId) (dI : Nat → Nat → Nat) (A : Nat → Prop) (ad : Nat → Nat) (cA : Nat → ClassId) (g : Nat → va_E) (L : List PD) (nm : Nat → Int) (tx : Nat → Nat) (ty : Nat) (wp : Int32) (hI : CIS ad cA g L nm tx ty wp) : Met l yX9_place wd_W9_place ({ frames := 10, cells := 0, slots := 0, locals := 200 }) (va_Pc [.ref (ad 2076)] (PR NSc tyc dC dI A ad cA g)) (va_Qi (fun (r : Int32) => fun (u : Unit) => match u with | () => r = wp) (fun (u : Unit) (t : State) => va_P (dC, dI) vwCl (wo ad NSc g) t.heap) A) (0) (0) A := by
  refine Met.ofW (cc := cX9_place) (maxL := 1) (ret := (some .int)) (by decide) rfl ?_
  intro p e s m args below meth c s₁ B hml hv
  obtain ⟨rfl, hA, hP, hL⟩ := hv
  have hx := B.exec
  have hb := B.bytes
  have hr := B.returns
  have hts := atoms_spec (ws := wd_W9_place) B.pre
  have hown : s.vm.findClass RX9 = some m.cls := findClass_of_methodNamed B.named
  have hlocks := B.notSynchronized
  have hK := hL.1
  have hD : ∀ g, va_D A (wo ad NSc g) := fun g => wo_D hL.2.1 hL.2.2 g
  have hS : va_S A s.heap s.heap [] := va_S.rf
  have bk0 : ∀ w ∈ u_ws RX9 TX9 12, w ∈ wd_W9_place := fun _ h => List.mem_cons_of_mem _ (List.mem_append_right _ (List.mem_append_left _ h))
  have hl := lv_entry ([.ref (ad 2076)]) (n := 1) (Nat.le_of_ble_eq_true rfl)
  rw [lg_entry_eq]
  generalize (lg_sl ([.ref (ad 2076)]) ++ List.replicate (1 - (lg_sl ([.ref (ad 2076)])).length) Slot.unset).toArray = ls at hl ⊢
  have hl : lv_has ls 1 [(0, .ref (ad 2076))] := hl
  have hi9 := hI
  obtain ⟨d0, hC, hWf, d3, d4, d5, d6, d7, d8, d9, da, db, dc⟩ := hi9
  unfold CDO at d0
  have hCo := hC
  obtain ⟨hLno, hWo, ⟨hAro, hWko, hPao, hFro⟩, hOo, pto, hPto, hMo⟩ := hCo
  unfold CSO at hOo
  have hpbo := hPto.2
  have hnl := hC.1
  obtain ⟨nA, nB, nC⟩ := id da
  obtain ⟨fa, fb, pA, pB⟩ := id db
  have hcr9c := d6
  obtain ⟨y0c, y1c, y2c, y3c, y4c, ⟨ftc, y5c⟩, fhc, y6c⟩ := hcr9c
  obtain ⟨Mx, hSm⟩ := id d8
  have hsc9z := hSm
  obtain ⟨lnz, wcz, flz, fwz, fdz, fzz, fqz, s1z, s2z, s3z, s4z, s5z, s6z, s7z, s8z, s9z, saz, sbz⟩ := hsc9z
  unfold SCO at s1z
  refine lv_aload_n hx hb dX9_place_0 rfl (lv_at hl 0 rfl) ?_
  refine m_get (D := (dC, dI)) (v := .int wp) (C := RX9) (T := TX9) (N := 12) hx hb hts bk0 hown hK hP 2076 (by decide) d0 rfl 11 (by decide) (hts (.fieldLink RX9 86 "GradientDesk" "wrongPlace" "I") (List.mem_of_getElem? (i := 1) rfl)) (fun _ h9 => h9) rfl dX9_place_1 ?_
  refine W.widen (k := 0) (n := 0) (by omega) (by omega) ?_
  exact W.iret (v := wp) hx hb hr (fun t9 ht9 hW9 => ⟨⟨wp, (), rfl, rfl, by show va_P (dC, dI) vwCl _ t9.heap; rw [ht9]; exact hP⟩, hS.F ht9⟩) hS.2.2 dX9_place_4
def wd_W9_made : List Cond := .code yX9_made cX9_made 1 (some .int) :: (([.fieldLink RX9 28 "GradientDesk" "shelf" "LGradientDesk$Shelf;", .fieldLink RX9 122 "GradientDesk$Shelf" "count" "I"] : List Cond) ++ (u_ws RX9 TX9 12 ++ (u_ws RX6 TX6 7 ++ ([]))))
theorem gw_W9_made : wd_W9_made.all goodWord = true := k_allc rfl (k_all (by decide +kernel) (k_all (gu_X9) (k_all (gu_X6) (rfl))))
set_option maxHeartbeats 4000000 in
set_option maxRecDepth 100000 in
theorem c_W9_made (l : Launch) (dC : Nat → ClassId) (dI : Nat → Nat → Nat) (A : Nat → Prop) (ad : Nat → Nat) (cA : Nat → ClassId) (g : Nat → va_E) (L : List PD) (nm : Nat → Int) (tx : Nat → Nat) (ty : Nat) (wp : Int32) (hI : CIS ad cA g L nm tx ty wp) : Met l yX9_made wd_W9_made ({ frames := 10, cells := 0, slots := 0, locals := 200 }) (va_Pc [.ref (ad 2076)] (PR NSc tyc dC dI A ad cA g)) (va_Qi (fun (r : Int32) => fun (u : Unit) => match u with | () => r = nI L.length) (fun (u : Unit) (t : State) => va_P (dC, dI) vwCl (wo ad NSc g) t.heap) A) (0) (0) A := by
  refine Met.ofW (cc := cX9_made) (maxL := 1) (ret := (some .int)) (by decide) rfl ?_
  intro p e s m args below meth c s₁ B hml hv
  obtain ⟨rfl, hA, hP, hL⟩ := hv
  have hx := B.exec
  have hb := B.bytes
  have hr := B.returns
  have hts := atoms_spec (ws := wd_W9_made) B.pre
  have hown : s.vm.findClass RX9 = some m.cls := findClass_of_methodNamed B.named
  have hlocks := B.notSynchronized
  have hK := hL.1
  have hD : ∀ g, va_D A (wo ad NSc g) := fun g => wo_D hL.2.1 hL.2.2 g
  have hS : va_S A s.heap s.heap [] := va_S.rf
  have bk0 : ∀ w ∈ u_ws RX9 TX9 12, w ∈ wd_W9_made := fun _ h => List.mem_cons_of_mem _ (List.mem_append_right _ (List.mem_append_left _ h))
  have bk1 : ∀ w ∈ u_ws RX6 TX6 7, w ∈ wd_W9_made := fun _ h => List.mem_cons_of_mem _ (List.mem_append_right _ (List.mem_append_right _ (List.mem_append_left _ h)))
  have hl := lv_entry ([.ref (ad 2076)]) (n := 1) (Nat.le_of_ble_eq_true rfl)
  rw [lg_entry_eq]
  generalize (lg_sl ([.ref (ad 2076)]) ++ List.replicate (1 - (lg_sl ([.ref (ad 2076)])).length) Slot.unset).toArray = ls at hl ⊢
  have hl : lv_has ls 1 [(0, .ref (ad 2076))] := hl
  have hi9 := hI
  obtain ⟨d0, hC, hWf, d3, d4, d5, d6, d7, d8, d9, da, db, dc⟩ := hi9
  unfold CDO at d0
  have hCo := hC
  obtain ⟨hLno, hWo, ⟨hAro, hWko, hPao, hFro⟩, hOo, pto, hPto, hMo⟩ := hCo
  unfold CSO at hOo
  have hpbo := hPto.2
  have hnl := hC.1
  obtain ⟨nA, nB, nC⟩ := id da
  obtain ⟨fa, fb, pA, pB⟩ := id db
  have hcr9c := d6
  obtain ⟨y0c, y1c, y2c, y3c, y4c, ⟨ftc, y5c⟩, fhc, y6c⟩ := hcr9c
  obtain ⟨Mx, hSm⟩ := id d8
  have hsc9z := hSm
  obtain ⟨lnz, wcz, flz, fwz, fdz, fzz, fqz, s1z, s2z, s3z, s4z, s5z, s6z, s7z, s8z, s9z, saz, sbz⟩ := hsc9z
  unfold SCO at s1z
  refine lv_aload_n hx hb dX9_made_0 rfl (lv_at hl 0 rfl) ?_
  refine m_get (D := (dC, dI)) (v := .ref (ad 2080)) (C := RX9) (T := TX9) (N := 12) hx hb hts bk0 hown hK hP 2076 (by decide) d0 rfl 2 (by decide) (hts (.fieldLink RX9 28 "GradientDesk" "shelf" "LGradientDesk$Shelf;") (List.mem_of_getElem? (i := 1) rfl)) (fun _ h9 => h9) rfl dX9_made_1 ?_
  refine m_get (D := (dC, dI)) (v := .int (nI L.length)) (C := RX6) (T := TX6) (N := 7) hx hb hts bk1 hown hK hP 2080 (by decide) hOo rfl 2 (by decide) (hts (.fieldLink RX9 122 "GradientDesk$Shelf" "count" "I") (List.mem_of_getElem? (i := 2) rfl)) (fun _ h9 => h9) rfl dX9_made_4 ?_
  refine W.widen (k := 0) (n := 0) (by omega) (by omega) ?_
  exact W.iret (v := nI L.length) hx hb hr (fun t9 ht9 hW9 => ⟨⟨nI L.length, (), rfl, rfl, by show va_P (dC, dI) vwCl _ t9.heap; rw [ht9]; exact hP⟩, hS.F ht9⟩) hS.2.2 dX9_made_7
end
section
def wd_W9_rval : List Cond := .code yX9_reckonValue cX9_reckonValue 3 none :: (([.fieldLink RX9 46 "GradientDesk" "course" "LGradientDesk$Course;", .fieldLink RX9 80 "GradientDesk" "pointTops" "[I", .fieldLink RX9 83 "GradientDesk" "pointBottoms" "[I", .methodLink RX9 282 yX1_goTo, .instanceMethod yX1_goTo, .selects RX1 yX1_goTo yX1_goTo, .initialized RX1, .methodLink RX9 286 yX1_followValues, .instanceMethod yX1_followValues, .selects RX1 yX1_followValues yX1_followValues, .fieldLink RX9 59 "GradientDesk" "results" "[LGradientDesk$Fraction;", .methodLink RX9 289 yX1_showValue, .instanceMethod yX1_showValue, .selects RX1 yX1_showValue yX1_showValue, .fieldLink RX9 10 "GradientDesk" "arithmetic" "LGradientDesk$Arithmetic;", .methodLink RX9 215 yX0_reduce, .instanceMethod yX0_reduce, .selects RX0 yX0_reduce yX0_reduce, .initialized RX0] : List Cond) ++ (u_ws RX9 TX9 12 ++ (wd_W1_goTo ++ (wd_W1_fvals ++ (wd_W1_showV ++ (wd_X0_reduce ++ ([])))))))
theorem gw_W9_rval : wd_W9_rval.all goodWord = true := k_allc rfl (k_all (by decide +kernel) (k_all (gu_X9) (k_all (gw_W1_goTo) (k_all (gw_W1_fvals) (k_all (gw_W1_showV) (k_all (gw_X0_reduce) (rfl)))))))
set_option maxHeartbeats 4000000 in
set_option maxRecDepth 100000 in
theorem c_W9_rval (l : Launch) (dC : Nat → ClassId) (dI : Nat → Nat → Nat) (A : Nat → Prop) (ad : Nat → Nat) (cA : Nat → ClassId) (g : Nat → va_E) (L : List PD) (nm : Nat → Int) (tx : Nat → Nat) (ty : Nat) (wp : Int32) (ex : Nat) (rr : Nat) (hI : CIS ad cA g L nm tx ty wp) (hex : ex < L.length) (hrr : rr < 8) : Met l yX9_reckonValue wd_W9_rval ({ frames := 80, cells := 0, slots := 0, locals := 1600 }) (va_Pc [.ref (ad 2076), .int (nI ex), .int (nI rr)] (PR NSc tyc dC dI A ad cA g)) (va_Qv (fun (u : Nat → va_E) => match u with | g2 => CIS ad cA g2 L nm tx ty wp) (fun (u : Nat → va_E) (t : State) => va_P (dC, dI) vwCl (wo ad NSc u) t.heap) A) (0) (0) A := by
  refine Met.ofW (cc := cX9_reckonValue) (maxL := 3) (ret := none) (by decide) rfl ?_
  intro p e s m args below meth c s₁ B hml hv
  obtain ⟨rfl, hA, hP, hL⟩ := hv
  have hx := B.exec
  have hb := B.bytes
  have hr := B.returns
  have hts := atoms_spec (ws := wd_W9_rval) B.pre
  have hown : s.vm.findClass RX9 = some m.cls := findClass_of_methodNamed B.named
  have hlocks := B.notSynchronized
  have hK := hL.1
  have hD : ∀ g, va_D A (wo ad NSc g) := fun g => wo_D hL.2.1 hL.2.2 g
  have hS : va_S A s.heap s.heap [] := va_S.rf
  have bk0 : ∀ w ∈ u_ws RX9 TX9 12, w ∈ wd_W9_rval := fun _ h => List.mem_cons_of_mem _ (List.mem_append_right _ (List.mem_append_left _ h))
  have bk1 : ∀ w ∈ wd_W1_goTo, w ∈ wd_W9_rval := fun _ h => List.mem_cons_of_mem _ (List.mem_append_right _ (List.mem_append_right _ (List.mem_append_left _ h)))
  have bk2 : ∀ w ∈ wd_W1_fvals, w ∈ wd_W9_rval := fun _ h => List.mem_cons_of_mem _ (List.mem_append_right _ (List.mem_append_right _ (List.mem_append_right _ (List.mem_append_left _ h))))
  have bk3 : ∀ w ∈ wd_W1_showV, w ∈ wd_W9_rval := fun _ h => List.mem_cons_of_mem _ (List.mem_append_right _ (List.mem_append_right _ (List.mem_append_right _ (List.mem_append_right _ (List.mem_append_left _ h)))))
  have bk4 : ∀ w ∈ wd_X0_reduce, w ∈ wd_W9_rval := fun _ h => List.mem_cons_of_mem _ (List.mem_append_right _ (List.mem_append_right _ (List.mem_append_right _ (List.mem_append_right _ (List.mem_append_right _ (List.mem_append_left _ h))))))
  have hl := lv_entry ([.ref (ad 2076), .int (nI ex), .int (nI rr)]) (n := 3) (Nat.le_of_ble_eq_true rfl)
  rw [lg_entry_eq]
  generalize (lg_sl ([.ref (ad 2076), .int (nI ex), .int (nI rr)]) ++ List.replicate (3 - (lg_sl ([.ref (ad 2076), .int (nI ex), .int (nI rr)])).length) Slot.unset).toArray = ls at hl ⊢
  have hl : lv_has ls 3 [(0, .ref (ad 2076)), (1, .int (nI ex)), (2, .int (nI rr))] := hl
  have hi9 := hI
  obtain ⟨d0, hC, hWf, d3, d4, d5, d6, d7, d8, d9, da, db, dc⟩ := hi9
  unfold CDO at d0
  have hCo := hC
  obtain ⟨hLno, hWo, ⟨hAro, hWko, hPao, hFro⟩, hOo, pto, hPto, hMo⟩ := hCo
  unfold CSO at hOo
  have hpbo := hPto.2
  have hnl := hC.1
  obtain ⟨nA, nB, nC⟩ := id da
  obtain ⟨fa, fb, pA, pB⟩ := id db
  have hcr9c := d6
  obtain ⟨y0c, y1c, y2c, y3c, y4c, ⟨ftc, y5c⟩, fhc, y6c⟩ := hcr9c
  obtain ⟨Mx, hSm⟩ := id d8
  have hsc9z := hSm
  obtain ⟨lnz, wcz, flz, fwz, fdz, fzz, fqz, s1z, s2z, s3z, s4z, s5z, s6z, s7z, s8z, s9z, saz, sbz⟩ := hsc9z
  unfold SCO at s1z
  refine lv_aload_n hx hb dX9_reckonValue_0 rfl (lv_at hl 0 rfl) ?_
  refine m_get (D := (dC, dI)) (v := .ref (ad 2090)) (C := RX9) (T := TX9) (N := 12) hx hb hts bk0 hown hK hP 2076 (by decide) d0 rfl 4 (by decide) (hts (.fieldLink RX9 46 "GradientDesk" "course" "LGradientDesk$Course;") (List.mem_of_getElem? (i := 1) rfl)) (fun _ h9 => h9) rfl dX9_reckonValue_1 ?_
  refine lv_aload_n hx hb dX9_reckonValue_4 rfl (lv_at hl 0 rfl) ?_
  refine m_get (D := (dC, dI)) (v := .ref (ad 2105)) (C := RX9) (T := TX9) (N := 12) hx hb hts bk0 hown hK hP 2076 (by decide) d0 rfl 9 (by decide) (hts (.fieldLink RX9 80 "GradientDesk" "pointTops" "[I") (List.mem_of_getElem? (i := 2) rfl)) (fun _ h9 => h9) rfl dX9_reckonValue_5 ?_
  refine lv_aload_n hx hb dX9_reckonValue_8 rfl (lv_at hl 0 rfl) ?_
  refine m_get (D := (dC, dI)) (v := .ref (ad 2106)) (C := RX9) (T := TX9) (N := 12) hx hb hts bk0 hown hK hP 2076 (by decide) d0 rfl 10 (by decide) (hts (.fieldLink RX9 83 "GradientDesk" "pointBottoms" "[I") (List.mem_of_getElem? (i := 3) rfl)) (fun _ h9 => h9) rfl dX9_reckonValue_9 ?_
  refine va_callv (va_runV (As := [.ref (ad 2105), .ref (ad 2106)]) (rest := []) ⟨hx, hb, hml, hown, hts⟩ (c_W1_goTo l dC dI A ad cA g fa fb hWo d6 pA pB) (cwV 2 hts (goodIn_app (goodIn_r [Cond.methodLink RX9 282 yX1_goTo, Cond.instanceMethod yX1_goTo, Cond.selects RX1 yX1_goTo yX1_goTo, Cond.initialized RX1] [4, 5, 6, 7] rfl rfl) (goodIn_sub (fun w9 h9 => bk1 w9 h9) gw_W1_goTo)) rfl rfl rfl (by decide +kernel) ⟨Nat.le_of_ble_eq_true rfl, Nat.le_of_ble_eq_true rfl⟩) ⟨fun a U g mk q => ⟨q.1, q.2.1, q.2.2.1, LY.moved (u := U) (U := U.calling g mk a) (Vm.Alike.refl U.vm) q.2.2.2⟩, va_recv hK hP (ci := 4) (q0 := 2090) rfl (wo_at (by decide) y0c), fun U hU hW => ⟨rfl, by rw [hU]; exact fun q h => hA q (Nat.le_trans hS.1 h), by rw [hU]; exact hP, LY.moved hW.alike hL⟩⟩ rfl rfl hl.1 rfl (lv_room (Nat.le_of_ble_eq_true rfl)) dX9_reckonValue_12 ⟨(Nat.le_of_ble_eq_true rfl), (Nat.le_of_ble_eq_true rfl)⟩) hS (fun q _ h => h) (fun q h => h) (fun u8 t8 H1 locs ht8 hvm8 hw_3 hB hz1 hk1 hS => ?_)
  obtain ⟨g_4, rfl⟩ : ∃ z, z = u8 := ⟨_, rfl⟩
  try dsimp only at hw_3 hB
  rw [ht8] at hB
  have hP := hB
  generalize H1 = H at hP hS ⊢
  obtain ⟨fr_5, hAW_1, hCr_2⟩ := hw_3
  have hcr9g := hCr_2
  obtain ⟨y0g, y1g, y2g, y3g, y4g, ⟨ftg, y5g⟩, fhg, y6g⟩ := hcr9g
  refine lv_aload_n hx hb dX9_reckonValue_15 rfl (lv_at hl 0 rfl) ?_
  have f_6 : g_4 2076 = .inr (12, [.ref (ad 2077), .ref (ad 2078), .ref (ad 2080), .ref (ad 2084), .ref (ad 2090), .ref (ad 2097), .ref (ad 2103), .ref (ad 2108), .ref (ad 2104), .ref (ad 2105), .ref (ad 2106), .int wp]) := (fr_5 2076 (by omega)).trans d0
  refine m_get (D := (dC, dI)) (v := .ref (ad 2090)) (C := RX9) (T := TX9) (N := 12) hx hb hts bk0 hown hK hP 2076 (by decide) f_6 rfl 4 (by decide) (hts (.fieldLink RX9 46 "GradientDesk" "course" "LGradientDesk$Course;") (List.mem_of_getElem? (i := 1) rfl)) (fun _ h9 => h9) rfl dX9_reckonValue_16 ?_
  refine lv_iload_n hx hb dX9_reckonValue_19 rfl (lv_at hl 1 rfl) ?_
  have hC_9 : CS ad cA g_4 L := CS.same hC hAW_1 (fun (k : Nat) (hk : (76 ≤ k ∧ k < 876) ∨ k = 2077 ∨ k = 2107 ∨ k = 2080 ∨ k = 2081 ∨ (2117 ≤ k ∧ k < 2517)) => (fr_5 k (by omega)).trans (rfl))
  refine va_callv (va_runV (As := [.int (nI ex)]) (rest := []) ⟨hx, hb, hml, hown, hts⟩ (c_W1_fvals l dC dI A ad cA g_4 L ex hC_9 hWf hCr_2 (d7.same (fun (k : Nat) (hk : k = 2082) => (fr_5 k (by omega)).trans (rfl))) hex) (cwV 1 hts (goodIn_app (goodIn_r [Cond.methodLink RX9 286 yX1_followValues, Cond.instanceMethod yX1_followValues, Cond.selects RX1 yX1_followValues yX1_followValues, Cond.initialized RX1] [8, 9, 10, 7] rfl rfl) (goodIn_sub (fun w9 h9 => bk2 w9 h9) gw_W1_fvals)) rfl rfl rfl (by decide +kernel) ⟨Nat.le_of_ble_eq_true rfl, Nat.le_of_ble_eq_true rfl⟩) ⟨fun a U g mk q => ⟨q.1, q.2.1, q.2.2.1, LY.moved (u := U) (U := U.calling g mk a) (Vm.Alike.refl U.vm) q.2.2.2⟩, va_recv hK hP (ci := 4) (q0 := 2090) rfl (wo_at (by decide) y0g), fun U hU hW => ⟨rfl, by rw [hU]; exact fun q h => hA q (Nat.le_trans hS.1 h), by rw [hU]; exact hP, LY.moved hW.alike hL⟩⟩ rfl rfl hl.1 rfl (lv_room (Nat.le_of_ble_eq_true rfl)) dX9_reckonValue_20 ⟨(Nat.le_of_ble_eq_true rfl), (Nat.le_of_ble_eq_true rfl)⟩) hS (fun q _ h => h) (fun q h => h) (fun u8 t8 H1 locs ht8 hvm8 hw_10 hB hz1 hk1 hS => ?_)
  obtain ⟨g_11, rfl⟩ : ∃ z, z = u8 := ⟨_, rfl⟩
  try dsimp only at hw_10 hB
  rw [ht8] at hB
  have hP := hB
  generalize H1 = H at hP hS ⊢
  obtain ⟨fr_12, hAW_7, hMk_8⟩ := hw_10
  refine lv_aload_n hx hb dX9_reckonValue_23 rfl (lv_at hl 0 rfl) ?_
  have f_13 : g_11 2076 = .inr (12, [.ref (ad 2077), .ref (ad 2078), .ref (ad 2080), .ref (ad 2084), .ref (ad 2090), .ref (ad 2097), .ref (ad 2103), .ref (ad 2108), .ref (ad 2104), .ref (ad 2105), .ref (ad 2106), .int wp]) := (fr_12 2076 (by omega)).trans f_6
  refine m_get (D := (dC, dI)) (v := .ref (ad 2090)) (C := RX9) (T := TX9) (N := 12) hx hb hts bk0 hown hK hP 2076 (by decide) f_13 rfl 4 (by decide) (hts (.fieldLink RX9 46 "GradientDesk" "course" "LGradientDesk$Course;") (List.mem_of_getElem? (i := 1) rfl)) (fun _ h9 => h9) rfl dX9_reckonValue_24 ?_
  refine lv_iload_n hx hb dX9_reckonValue_27 rfl (lv_at hl 1 rfl) ?_
  refine lv_aload_n hx hb dX9_reckonValue_28 rfl (lv_at hl 0 rfl) ?_
  refine m_get (D := (dC, dI)) (v := .ref (ad 2103)) (C := RX9) (T := TX9) (N := 12) hx hb hts bk0 hown hK hP 2076 (by decide) f_13 rfl 6 (by decide) (hts (.fieldLink RX9 59 "GradientDesk" "results" "[LGradientDesk$Fraction;") (List.mem_of_getElem? (i := 11) rfl)) (fun _ h9 => h9) rfl dX9_reckonValue_29 ?_
  refine lv_iload_n hx hb dX9_reckonValue_32 rfl (lv_at hl 2 rfl) ?_
  have f_14 : g_11 2103 = .inl (cA 2103, 8, .inr (.inr (.inr (.inr (fun j => some (ad (2109 + j))))))) := (fr_12 2103 (by omega)).trans ((fr_5 2103 (by omega)).trans dc.1)
  refine m_aald hx hb hK hP 2103 (by decide) rfl f_14 (i := rr) (v := ad (2109 + rr)) (by omega) (by decide) rfl dX9_reckonValue_33 ?_
  have hC_16 : CS ad cA g_11 L := CS.same hC_9 hAW_7 (fun (k : Nat) (hk : (76 ≤ k ∧ k < 876) ∨ k = 2077 ∨ k = 2107 ∨ k = 2080 ∨ k = 2081 ∨ (2117 ≤ k ∧ k < 2517)) => (fr_12 k (by omega)).trans (rfl))
  have hr_17 := dc.2.2 rr (by omega)
  have f_18 : g_11 (2109 + rr) = .inr (5, [.ref (ad (2 * (13 + 2 * rr))), .ref (ad (2 * (14 + 2 * rr)))]) := (fr_12 (2109 + rr) (by omega)).trans ((fr_5 (2109 + rr) (by omega)).trans hr_17)
  have f_19 : g_11 2090 = .inr (4, [.ref (ad 2080), .ref (ad 2091), .ref (ad 2092), .ref (ad 2093), .ref (ad 2094), .ref (ad 2095), .ref (ad 2096), .ref (ad (2 * 9)), .ref (ad (2 * 10)), .ref (ad (2 * 11))]) := (fr_12 2090 (by omega)).trans y0g
  refine va_callv (va_runV (As := [.int (nI ex), .ref (ad (2109 + rr))]) (rest := []) ⟨hx, hb, hml, hown, hts⟩ (c_W1_showV l dC dI A ad cA g_11 L ex (2109 + rr) (13 + 2 * rr) (14 + 2 * rr) hC_16 hWf (hCr_2.same (fun (k : Nat) (hk : 2090 ≤ k ∧ k ≤ 2096) => (fr_12 k (by omega)).trans (rfl))) f_18 (⟨fr_r (by omega), by omega⟩) (by omega) hex (by omega)) (cwV 2 hts (goodIn_app (goodIn_r [Cond.methodLink RX9 289 yX1_showValue, Cond.instanceMethod yX1_showValue, Cond.selects RX1 yX1_showValue yX1_showValue, Cond.initialized RX1] [12, 13, 14, 7] rfl rfl) (goodIn_sub (fun w9 h9 => bk3 w9 h9) gw_W1_showV)) rfl rfl rfl (by decide +kernel) ⟨Nat.le_of_ble_eq_true rfl, Nat.le_of_ble_eq_true rfl⟩) ⟨fun a U g mk q => ⟨q.1, q.2.1, q.2.2.1, LY.moved (u := U) (U := U.calling g mk a) (Vm.Alike.refl U.vm) q.2.2.2⟩, va_recv hK hP (ci := 4) (q0 := 2090) rfl (wo_at (by decide) f_19), fun U hU hW => ⟨rfl, by rw [hU]; exact fun q h => hA q (Nat.le_trans hS.1 h), by rw [hU]; exact hP, LY.moved hW.alike hL⟩⟩ rfl rfl hl.1 rfl (lv_room (Nat.le_of_ble_eq_true rfl)) dX9_reckonValue_34 ⟨(Nat.le_of_ble_eq_true rfl), (Nat.le_of_ble_eq_true rfl)⟩) hS (fun q _ h => h) (fun q h => h) (fun u8 t8 H1 locs ht8 hvm8 hw_20 hB hz1 hk1 hS => ?_)
  obtain ⟨g_21, rfl⟩ : ∃ z, z = u8 := ⟨_, rfl⟩
  try dsimp only at hw_20 hB
  rw [ht8] at hB
  have hP := hB
  generalize H1 = H at hP hS ⊢
  obtain ⟨fr_22, hAW_15⟩ := hw_20
  refine lv_aload_n hx hb dX9_reckonValue_37 rfl (lv_at hl 0 rfl) ?_
  have f_23 : g_21 2076 = .inr (12, [.ref (ad 2077), .ref (ad 2078), .ref (ad 2080), .ref (ad 2084), .ref (ad 2090), .ref (ad 2097), .ref (ad 2103), .ref (ad 2108), .ref (ad 2104), .ref (ad 2105), .ref (ad 2106), .int wp]) := (fr_22 2076 (by omega)).trans f_13
  refine m_get (D := (dC, dI)) (v := .ref (ad 2077)) (C := RX9) (T := TX9) (N := 12) hx hb hts bk0 hown hK hP 2076 (by decide) f_23 rfl 0 (by decide) (hts (.fieldLink RX9 10 "GradientDesk" "arithmetic" "LGradientDesk$Arithmetic;") (List.mem_of_getElem? (i := 15) rfl)) (fun _ h9 => h9) rfl dX9_reckonValue_38 ?_
  refine lv_aload_n hx hb dX9_reckonValue_41 rfl (lv_at hl 0 rfl) ?_
  refine m_get (D := (dC, dI)) (v := .ref (ad 2103)) (C := RX9) (T := TX9) (N := 12) hx hb hts bk0 hown hK hP 2076 (by decide) f_23 rfl 6 (by decide) (hts (.fieldLink RX9 59 "GradientDesk" "results" "[LGradientDesk$Fraction;") (List.mem_of_getElem? (i := 11) rfl)) (fun _ h9 => h9) rfl dX9_reckonValue_42 ?_
  refine lv_iload_n hx hb dX9_reckonValue_45 rfl (lv_at hl 2 rfl) ?_
  have f_24 : g_21 2103 = .inl (cA 2103, 8, .inr (.inr (.inr (.inr (fun j => some (ad (2109 + j))))))) := (fr_22 2103 (by omega)).trans f_14
  refine m_aald hx hb hK hP 2103 (by decide) rfl f_24 (i := rr) (v := ad (2109 + rr)) (by omega) (by decide) rfl dX9_reckonValue_46 ?_
  have f_26 : g_21 2077 = .inr (3, [.ref (ad (2 * 0)), .ref (ad (2 * 1)), .ref (ad (2 * 2)), .ref (ad (2 * 3))]) := (fr_22 2077 (by omega)).trans ((fr_12 2077 (by omega)).trans ((fr_5 2077 (by omega)).trans hAro))
  have f_27 : g_21 (2109 + rr) = .inr (5, [.ref (ad (2 * (13 + 2 * rr))), .ref (ad (2 * (14 + 2 * rr)))]) := (fr_22 (2109 + rr) (by omega)).trans f_18
  refine va_callv (va_runV (As := [.ref (ad (2109 + rr))]) (rest := []) ⟨hx, hb, hml, hown, hts⟩ (c_X0_reduce l dC dI A ad cA g_21 (2109 + rr) (13 + 2 * rr) (14 + 2 * rr) hAW_15 f_26 f_27 (⟨fr_r (by omega), by omega⟩) (by omega)) (cwV 1 hts (goodIn_app (goodIn_r [Cond.methodLink RX9 215 yX0_reduce, Cond.instanceMethod yX0_reduce, Cond.selects RX0 yX0_reduce yX0_reduce, Cond.initialized RX0] [16, 17, 18, 19] rfl rfl) (goodIn_sub (fun w9 h9 => bk4 w9 h9) gw_X0_reduce)) rfl rfl rfl (by decide +kernel) ⟨Nat.le_of_ble_eq_true rfl, Nat.le_of_ble_eq_true rfl⟩) ⟨fun a U g mk q => ⟨q.1, q.2.1, q.2.2.1, LY.moved (u := U) (U := U.calling g mk a) (Vm.Alike.refl U.vm) q.2.2.2⟩, va_recv hK hP (ci := 3) (q0 := 2077) rfl (wo_at (by decide) f_26), fun U hU hW => ⟨rfl, by rw [hU]; exact fun q h => hA q (Nat.le_trans hS.1 h), by rw [hU]; exact hP, LY.moved hW.alike hL⟩⟩ rfl rfl hl.1 rfl (lv_room (Nat.le_of_ble_eq_true rfl)) dX9_reckonValue_47 ⟨(Nat.le_of_ble_eq_true rfl), (Nat.le_of_ble_eq_true rfl)⟩) hS (fun q _ h => h) (fun q h => h) (fun u8 t8 H1 locs ht8 hvm8 hw_28 hB hz1 hk1 hS => ?_)
  obtain ⟨g_29, rfl⟩ : ∃ z, z = u8 := ⟨_, rfl⟩
  try dsimp only at hw_28 hB
  rw [ht8] at hB
  have hP := hB
  generalize H1 = H at hP hS ⊢
  obtain ⟨fr_30, hAW_25⟩ := hw_28
  have f_31 : g_29 2076 = .inr (12, [.ref (ad 2077), .ref (ad 2078), .ref (ad 2080), .ref (ad 2084), .ref (ad 2090), .ref (ad 2097), .ref (ad 2103), .ref (ad 2108), .ref (ad 2104), .ref (ad 2105), .ref (ad 2106), .int wp]) := (fr_30 2076 (by omega)).trans f_23
  have hC_32 : CS ad cA g_29 L := CS.same hC_16 hAW_25 (fun (k : Nat) (hk : (76 ≤ k ∧ k < 876) ∨ k = 2077 ∨ k = 2107 ∨ k = 2080 ∨ k = 2081 ∨ (2117 ≤ k ∧ k < 2517)) => (fr_30 k (by omega)).trans ((fr_22 k (by omega)).trans (rfl)))
  refine W.widen (k := 0) (n := 0) (by omega) (by omega) ?_
  exact W.vret hx hb hr (fun t9 ht9 hW9 => ⟨⟨g_29, rfl, ⟨f_31, hC_32, hWf, (d3.same (fun (k : Nat) (hk : k = 2078 ∨ k = 2079) => (fr_30 k (by omega)).trans ((fr_22 k (by omega)).trans ((fr_12 k (by omega)).trans ((fr_5 k (by omega)).trans (rfl)))))), (d4.same (fun (k : Nat) (hk : 2084 ≤ k ∧ k ≤ 2088) => (fr_30 k (by omega)).trans ((fr_22 k (by omega)).trans ((fr_12 k (by omega)).trans ((fr_5 k (by omega)).trans (rfl)))))), (d5.same (fun (k : Nat) (hk : k = 2089) => (fr_30 k (by omega)).trans ((fr_22 k (by omega)).trans ((fr_12 k (by omega)).trans ((fr_5 k (by omega)).trans (rfl)))))), (hCr_2.same (fun (k : Nat) (hk : 2090 ≤ k ∧ k ≤ 2096) => (fr_30 k (by omega)).trans ((fr_22 k (by omega)).trans ((fr_12 k (by omega)).trans (rfl))))), (hMk_8.same (fun (k : Nat) (hk : k = 2082) => (fr_30 k (by omega)).trans ((fr_22 k (by omega)).trans (rfl)))), (d8.same (fun (k : Nat) (hk : 2097 ≤ k ∧ k ≤ 2102) => (fr_30 k (by omega)).trans ((fr_22 k (by omega)).trans ((fr_12 k (by omega)).trans ((fr_5 k (by omega)).trans (rfl)))))), (d9.same (fun (k : Nat) (hk : k = 2083) => (fr_30 k (by omega)).trans ((fr_22 k (by omega)).trans ((fr_12 k (by omega)).trans ((fr_5 k (by omega)).trans (rfl)))))), (da.same (fun (k : Nat) (hk : k = 2104) => (fr_30 k (by omega)).trans ((fr_22 k (by omega)).trans ((fr_12 k (by omega)).trans ((fr_5 k (by omega)).trans (rfl)))))), (db.same (fun (k : Nat) (hk : k = 2105 ∨ k = 2106) => (fr_30 k (by omega)).trans ((fr_22 k (by omega)).trans ((fr_12 k (by omega)).trans ((fr_5 k (by omega)).trans (rfl)))))), (dc.same (fun (k : Nat) (hk : k = 2103 ∨ (2108 ≤ k ∧ k < 2117)) => (fr_30 k (by omega)).trans ((fr_22 k (by omega)).trans ((fr_12 k (by omega)).trans ((fr_5 k (by omega)).trans (rfl))))))⟩, by show va_P (dC, dI) vwCl _ t9.heap; rw [ht9]; exact hP⟩, hS.F ht9⟩) hS.2.2 dX9_reckonValue_50
def wd_W9_rslp : List Cond := .code yX9_reckonSlope cX9_reckonSlope 6 none :: (([.fieldLink RX9 46 "GradientDesk" "course" "LGradientDesk$Course;", .methodLink RX9 293 yX1_head, .instanceMethod yX1_head, .selects RX1 yX1_head yX1_head, .initialized RX1, .methodLink RX9 297 yX1_followSlopes, .instanceMethod yX1_followSlopes, .selects RX1 yX1_followSlopes yX1_followSlopes, .fieldLink RX9 59 "GradientDesk" "results" "[LGradientDesk$Fraction;", .methodLink RX9 300 yX1_showSlope, .instanceMethod yX1_showSlope, .selects RX1 yX1_showSlope yX1_showSlope, .fieldLink RX9 10 "GradientDesk" "arithmetic" "LGradientDesk$Arithmetic;", .methodLink RX9 215 yX0_reduce, .instanceMethod yX0_reduce, .selects RX0 yX0_reduce yX0_reduce, .initialized RX0] : List Cond) ++ (u_ws RX9 TX9 12 ++ (wd_W1_head ++ (wd_W1_fslps ++ (wd_W1_showS ++ (wd_X0_reduce ++ ([])))))))
theorem gw_W9_rslp : wd_W9_rslp.all goodWord = true := k_allc rfl (k_all (by decide +kernel) (k_all (gu_X9) (k_all (gw_W1_head) (k_all (gw_W1_fslps) (k_all (gw_W1_showS) (k_all (gw_X0_reduce) (rfl)))))))
set_option maxHeartbeats 4000000 in
set_option maxRecDepth 100000 in
theorem c_W9_rslp (l : Launch) (dC : Nat → ClassId) (dI : Nat → Nat → Nat) (A : Nat → Prop) (ad : Nat → Nat) (cA : Nat → ClassId) (g : Nat → va_E) (L : List PD) (nm : Nat → Int) (tx : Nat → Nat) (ty : Nat) (wp : Int32) (ex : Nat) (v1 : Int32) (v2 : Int32) (v3 : Int32) (rr : Nat) (hI : CIS ad cA g L nm tx ty wp) (hex : ex < L.length) (hrr : rr < 8) : Met l yX9_reckonSlope wd_W9_rslp ({ frames := 80, cells := 0, slots := 0, locals := 1600 }) (va_Pc [.ref (ad 2076), .int (nI ex), .int v1, .int v2, .int v3, .int (nI rr)] (PR NSc tyc dC dI A ad cA g)) (va_Qv (fun (u : Nat → va_E) => match u with | g2 => CIS ad cA g2 L nm tx ty wp) (fun (u : Nat → va_E) (t : State) => va_P (dC, dI) vwCl (wo ad NSc u) t.heap) A) (0) (0) A := by
  refine Met.ofW (cc := cX9_reckonSlope) (maxL := 6) (ret := none) (by decide) rfl ?_
  intro p e s m args below meth c s₁ B hml hv
  obtain ⟨rfl, hA, hP, hL⟩ := hv
  have hx := B.exec
  have hb := B.bytes
  have hr := B.returns
  have hts := atoms_spec (ws := wd_W9_rslp) B.pre
  have hown : s.vm.findClass RX9 = some m.cls := findClass_of_methodNamed B.named
  have hlocks := B.notSynchronized
  have hK := hL.1
  have hD : ∀ g, va_D A (wo ad NSc g) := fun g => wo_D hL.2.1 hL.2.2 g
  have hS : va_S A s.heap s.heap [] := va_S.rf
  have bk0 : ∀ w ∈ u_ws RX9 TX9 12, w ∈ wd_W9_rslp := fun _ h => List.mem_cons_of_mem _ (List.mem_append_right _ (List.mem_append_left _ h))
  have bk1 : ∀ w ∈ wd_W1_head, w ∈ wd_W9_rslp := fun _ h => List.mem_cons_of_mem _ (List.mem_append_right _ (List.mem_append_right _ (List.mem_append_left _ h)))
  have bk2 : ∀ w ∈ wd_W1_fslps, w ∈ wd_W9_rslp := fun _ h => List.mem_cons_of_mem _ (List.mem_append_right _ (List.mem_append_right _ (List.mem_append_right _ (List.mem_append_left _ h))))
  have bk3 : ∀ w ∈ wd_W1_showS, w ∈ wd_W9_rslp := fun _ h => List.mem_cons_of_mem _ (List.mem_append_right _ (List.mem_append_right _ (List.mem_append_right _ (List.mem_append_right _ (List.mem_append_left _ h)))))
  have bk4 : ∀ w ∈ wd_X0_reduce, w ∈ wd_W9_rslp := fun _ h => List.mem_cons_of_mem _ (List.mem_append_right _ (List.mem_append_right _ (List.mem_append_right _ (List.mem_append_right _ (List.mem_append_right _ (List.mem_append_left _ h))))))
  have hl := lv_entry ([.ref (ad 2076), .int (nI ex), .int v1, .int v2, .int v3, .int (nI rr)]) (n := 6) (Nat.le_of_ble_eq_true rfl)
  rw [lg_entry_eq]
  generalize (lg_sl ([.ref (ad 2076), .int (nI ex), .int v1, .int v2, .int v3, .int (nI rr)]) ++ List.replicate (6 - (lg_sl ([.ref (ad 2076), .int (nI ex), .int v1, .int v2, .int v3, .int (nI rr)])).length) Slot.unset).toArray = ls at hl ⊢
  have hl : lv_has ls 6 [(0, .ref (ad 2076)), (1, .int (nI ex)), (2, .int v1), (3, .int v2), (4, .int v3), (5, .int (nI rr))] := hl
  have hi9 := hI
  obtain ⟨d0, hC, hWf, d3, d4, d5, d6, d7, d8, d9, da, db, dc⟩ := hi9
  unfold CDO at d0
  have hCo := hC
  obtain ⟨hLno, hWo, ⟨hAro, hWko, hPao, hFro⟩, hOo, pto, hPto, hMo⟩ := hCo
  unfold CSO at hOo
  have hpbo := hPto.2
  have hnl := hC.1
  obtain ⟨nA, nB, nC⟩ := id da
  obtain ⟨fa, fb, pA, pB⟩ := id db
  have hcr9c := d6
  obtain ⟨y0c, y1c, y2c, y3c, y4c, ⟨ftc, y5c⟩, fhc, y6c⟩ := hcr9c
  obtain ⟨Mx, hSm⟩ := id d8
  have hsc9z := hSm
  obtain ⟨lnz, wcz, flz, fwz, fdz, fzz, fqz, s1z, s2z, s3z, s4z, s5z, s6z, s7z, s8z, s9z, saz, sbz⟩ := hsc9z
  unfold SCO at s1z
  refine lv_aload_n hx hb dX9_reckonSlope_0 rfl (lv_at hl 0 rfl) ?_
  refine m_get (D := (dC, dI)) (v := .ref (ad 2090)) (C := RX9) (T := TX9) (N := 12) hx hb hts bk0 hown hK hP 2076 (by decide) d0 rfl 4 (by decide) (hts (.fieldLink RX9 46 "GradientDesk" "course" "LGradientDesk$Course;") (List.mem_of_getElem? (i := 1) rfl)) (fun _ h9 => h9) rfl dX9_reckonSlope_1 ?_
  refine lv_iload_n hx hb dX9_reckonSlope_4 rfl (lv_at hl 2 rfl) ?_
  refine lv_iload_n hx hb dX9_reckonSlope_5 rfl (lv_at hl 3 rfl) ?_
  refine lv_iload hx hb dX9_reckonSlope_6 (lv_at hl 4 rfl) ?_
  refine va_callv (va_runV (As := [.int v1, .int v2, .int v3]) (rest := []) ⟨hx, hb, hml, hown, hts⟩ (c_W1_head l dC dI A ad cA g v1 v2 v3 d6) (cwV 3 hts (goodIn_app (goodIn_r [Cond.methodLink RX9 293 yX1_head, Cond.instanceMethod yX1_head, Cond.selects RX1 yX1_head yX1_head, Cond.initialized RX1] [2, 3, 4, 5] rfl rfl) (goodIn_sub (fun w9 h9 => bk1 w9 h9) gw_W1_head)) rfl rfl rfl (by decide +kernel) ⟨Nat.le_of_ble_eq_true rfl, Nat.le_of_ble_eq_true rfl⟩) ⟨fun a U g mk q => ⟨q.1, q.2.1, q.2.2.1, LY.moved (u := U) (U := U.calling g mk a) (Vm.Alike.refl U.vm) q.2.2.2⟩, va_recv hK hP (ci := 4) (q0 := 2090) rfl (wo_at (by decide) y0c), fun U hU hW => ⟨rfl, by rw [hU]; exact fun q h => hA q (Nat.le_trans hS.1 h), by rw [hU]; exact hP, LY.moved hW.alike hL⟩⟩ rfl rfl hl.1 rfl (lv_room (Nat.le_of_ble_eq_true rfl)) dX9_reckonSlope_8 ⟨(Nat.le_of_ble_eq_true rfl), (Nat.le_of_ble_eq_true rfl)⟩) hS (fun q _ h => h) (fun q h => h) (fun u8 t8 H1 locs ht8 hvm8 hw_2 hB hz1 hk1 hS => ?_)
  obtain ⟨g_3, rfl⟩ : ∃ z, z = u8 := ⟨_, rfl⟩
  try dsimp only at hw_2 hB
  rw [ht8] at hB
  have hP := hB
  generalize H1 = H at hP hS ⊢
  obtain ⟨fr_4, hCr_1⟩ := hw_2
  have hcr9g := hCr_1
  obtain ⟨y0g, y1g, y2g, y3g, y4g, ⟨ftg, y5g⟩, fhg, y6g⟩ := hcr9g
  refine lv_aload_n hx hb dX9_reckonSlope_11 rfl (lv_at hl 0 rfl) ?_
  have f_5 : g_3 2076 = .inr (12, [.ref (ad 2077), .ref (ad 2078), .ref (ad 2080), .ref (ad 2084), .ref (ad 2090), .ref (ad 2097), .ref (ad 2103), .ref (ad 2108), .ref (ad 2104), .ref (ad 2105), .ref (ad 2106), .int wp]) := (fr_4 2076 (by omega)).trans d0
  refine m_get (D := (dC, dI)) (v := .ref (ad 2090)) (C := RX9) (T := TX9) (N := 12) hx hb hts bk0 hown hK hP 2076 (by decide) f_5 rfl 4 (by decide) (hts (.fieldLink RX9 46 "GradientDesk" "course" "LGradientDesk$Course;") (List.mem_of_getElem? (i := 1) rfl)) (fun _ h9 => h9) rfl dX9_reckonSlope_12 ?_
  refine lv_iload_n hx hb dX9_reckonSlope_15 rfl (lv_at hl 1 rfl) ?_
  have hAW_9 : AW ad cA g_3 := AW.keep hWo (fun (k : Nat) (hk : k < 2076) => (fr_4 k (by omega)).trans (rfl))
  have hC_8 : CS ad cA g_3 L := CS.same hC hAW_9 (fun (k : Nat) (hk : (76 ≤ k ∧ k < 876) ∨ k = 2077 ∨ k = 2107 ∨ k = 2080 ∨ k = 2081 ∨ (2117 ≤ k ∧ k < 2517)) => (fr_4 k (by omega)).trans (rfl))
  refine va_callv (va_runV (As := [.int (nI ex)]) (rest := []) ⟨hx, hb, hml, hown, hts⟩ (c_W1_fslps l dC dI A ad cA g_3 L ex hC_8 hWf hCr_1 (d7.same (fun (k : Nat) (hk : k = 2082) => (fr_4 k (by omega)).trans (rfl))) hex) (cwV 1 hts (goodIn_app (goodIn_r [Cond.methodLink RX9 297 yX1_followSlopes, Cond.instanceMethod yX1_followSlopes, Cond.selects RX1 yX1_followSlopes yX1_followSlopes, Cond.initialized RX1] [6, 7, 8, 5] rfl rfl) (goodIn_sub (fun w9 h9 => bk2 w9 h9) gw_W1_fslps)) rfl rfl rfl (by decide +kernel) ⟨Nat.le_of_ble_eq_true rfl, Nat.le_of_ble_eq_true rfl⟩) ⟨fun a U g mk q => ⟨q.1, q.2.1, q.2.2.1, LY.moved (u := U) (U := U.calling g mk a) (Vm.Alike.refl U.vm) q.2.2.2⟩, va_recv hK hP (ci := 4) (q0 := 2090) rfl (wo_at (by decide) y0g), fun U hU hW => ⟨rfl, by rw [hU]; exact fun q h => hA q (Nat.le_trans hS.1 h), by rw [hU]; exact hP, LY.moved hW.alike hL⟩⟩ rfl rfl hl.1 rfl (lv_room (Nat.le_of_ble_eq_true rfl)) dX9_reckonSlope_16 ⟨(Nat.le_of_ble_eq_true rfl), (Nat.le_of_ble_eq_true rfl)⟩) hS (fun q _ h => h) (fun q h => h) (fun u8 t8 H1 locs ht8 hvm8 hw_10 hB hz1 hk1 hS => ?_)
  obtain ⟨g_11, rfl⟩ : ∃ z, z = u8 := ⟨_, rfl⟩
  try dsimp only at hw_10 hB
  rw [ht8] at hB
  have hP := hB
  generalize H1 = H at hP hS ⊢
  obtain ⟨fr_12, hAW_6, hMk_7⟩ := hw_10
  refine lv_aload_n hx hb dX9_reckonSlope_19 rfl (lv_at hl 0 rfl) ?_
  have f_13 : g_11 2076 = .inr (12, [.ref (ad 2077), .ref (ad 2078), .ref (ad 2080), .ref (ad 2084), .ref (ad 2090), .ref (ad 2097), .ref (ad 2103), .ref (ad 2108), .ref (ad 2104), .ref (ad 2105), .ref (ad 2106), .int wp]) := (fr_12 2076 (by omega)).trans f_5
  refine m_get (D := (dC, dI)) (v := .ref (ad 2090)) (C := RX9) (T := TX9) (N := 12) hx hb hts bk0 hown hK hP 2076 (by decide) f_13 rfl 4 (by decide) (hts (.fieldLink RX9 46 "GradientDesk" "course" "LGradientDesk$Course;") (List.mem_of_getElem? (i := 1) rfl)) (fun _ h9 => h9) rfl dX9_reckonSlope_20 ?_
  refine lv_iload_n hx hb dX9_reckonSlope_23 rfl (lv_at hl 1 rfl) ?_
  refine lv_aload_n hx hb dX9_reckonSlope_24 rfl (lv_at hl 0 rfl) ?_
  refine m_get (D := (dC, dI)) (v := .ref (ad 2103)) (C := RX9) (T := TX9) (N := 12) hx hb hts bk0 hown hK hP 2076 (by decide) f_13 rfl 6 (by decide) (hts (.fieldLink RX9 59 "GradientDesk" "results" "[LGradientDesk$Fraction;") (List.mem_of_getElem? (i := 9) rfl)) (fun _ h9 => h9) rfl dX9_reckonSlope_25 ?_
  refine lv_iload hx hb dX9_reckonSlope_28 (lv_at hl 5 rfl) ?_
  have f_14 : g_11 2103 = .inl (cA 2103, 8, .inr (.inr (.inr (.inr (fun j => some (ad (2109 + j))))))) := (fr_12 2103 (by omega)).trans ((fr_4 2103 (by omega)).trans dc.1)
  refine m_aald hx hb hK hP 2103 (by decide) rfl f_14 (i := rr) (v := ad (2109 + rr)) (by omega) (by decide) rfl dX9_reckonSlope_30 ?_
  have hC_16 : CS ad cA g_11 L := CS.same hC_8 hAW_6 (fun (k : Nat) (hk : (76 ≤ k ∧ k < 876) ∨ k = 2077 ∨ k = 2107 ∨ k = 2080 ∨ k = 2081 ∨ (2117 ≤ k ∧ k < 2517)) => (fr_12 k (by omega)).trans (rfl))
  have hr_17 := dc.2.2 rr (by omega)
  have f_18 : g_11 (2109 + rr) = .inr (5, [.ref (ad (2 * (13 + 2 * rr))), .ref (ad (2 * (14 + 2 * rr)))]) := (fr_12 (2109 + rr) (by omega)).trans ((fr_4 (2109 + rr) (by omega)).trans hr_17)
  have f_19 : g_11 2090 = .inr (4, [.ref (ad 2080), .ref (ad 2091), .ref (ad 2092), .ref (ad 2093), .ref (ad 2094), .ref (ad 2095), .ref (ad 2096), .ref (ad (2 * 9)), .ref (ad (2 * 10)), .ref (ad (2 * 11))]) := (fr_12 2090 (by omega)).trans y0g
  refine va_callv (va_runV (As := [.int (nI ex), .ref (ad (2109 + rr))]) (rest := []) ⟨hx, hb, hml, hown, hts⟩ (c_W1_showS l dC dI A ad cA g_11 L ex (2109 + rr) (13 + 2 * rr) (14 + 2 * rr) hC_16 hWf (hCr_1.same (fun (k : Nat) (hk : 2090 ≤ k ∧ k ≤ 2096) => (fr_12 k (by omega)).trans (rfl))) f_18 (⟨fr_r (by omega), by omega⟩) (by omega) hex (by omega)) (cwV 2 hts (goodIn_app (goodIn_r [Cond.methodLink RX9 300 yX1_showSlope, Cond.instanceMethod yX1_showSlope, Cond.selects RX1 yX1_showSlope yX1_showSlope, Cond.initialized RX1] [10, 11, 12, 5] rfl rfl) (goodIn_sub (fun w9 h9 => bk3 w9 h9) gw_W1_showS)) rfl rfl rfl (by decide +kernel) ⟨Nat.le_of_ble_eq_true rfl, Nat.le_of_ble_eq_true rfl⟩) ⟨fun a U g mk q => ⟨q.1, q.2.1, q.2.2.1, LY.moved (u := U) (U := U.calling g mk a) (Vm.Alike.refl U.vm) q.2.2.2⟩, va_recv hK hP (ci := 4) (q0 := 2090) rfl (wo_at (by decide) f_19), fun U hU hW => ⟨rfl, by rw [hU]; exact fun q h => hA q (Nat.le_trans hS.1 h), by rw [hU]; exact hP, LY.moved hW.alike hL⟩⟩ rfl rfl hl.1 rfl (lv_room (Nat.le_of_ble_eq_true rfl)) dX9_reckonSlope_31 ⟨(Nat.le_of_ble_eq_true rfl), (Nat.le_of_ble_eq_true rfl)⟩) hS (fun q _ h => h) (fun q h => h) (fun u8 t8 H1 locs ht8 hvm8 hw_20 hB hz1 hk1 hS => ?_)
  obtain ⟨g_21, rfl⟩ : ∃ z, z = u8 := ⟨_, rfl⟩
  try dsimp only at hw_20 hB
  rw [ht8] at hB
  have hP := hB
  generalize H1 = H at hP hS ⊢
  obtain ⟨fr_22, hAW_15⟩ := hw_20
  refine lv_aload_n hx hb dX9_reckonSlope_34 rfl (lv_at hl 0 rfl) ?_
  have f_23 : g_21 2076 = .inr (12, [.ref (ad 2077), .ref (ad 2078), .ref (ad 2080), .ref (ad 2084), .ref (ad 2090), .ref (ad 2097), .ref (ad 2103), .ref (ad 2108), .ref (ad 2104), .ref (ad 2105), .ref (ad 2106), .int wp]) := (fr_22 2076 (by omega)).trans f_13
  refine m_get (D := (dC, dI)) (v := .ref (ad 2077)) (C := RX9) (T := TX9) (N := 12) hx hb hts bk0 hown hK hP 2076 (by decide) f_23 rfl 0 (by decide) (hts (.fieldLink RX9 10 "GradientDesk" "arithmetic" "LGradientDesk$Arithmetic;") (List.mem_of_getElem? (i := 13) rfl)) (fun _ h9 => h9) rfl dX9_reckonSlope_35 ?_
  refine lv_aload_n hx hb dX9_reckonSlope_38 rfl (lv_at hl 0 rfl) ?_
  refine m_get (D := (dC, dI)) (v := .ref (ad 2103)) (C := RX9) (T := TX9) (N := 12) hx hb hts bk0 hown hK hP 2076 (by decide) f_23 rfl 6 (by decide) (hts (.fieldLink RX9 59 "GradientDesk" "results" "[LGradientDesk$Fraction;") (List.mem_of_getElem? (i := 9) rfl)) (fun _ h9 => h9) rfl dX9_reckonSlope_39 ?_
  refine lv_iload hx hb dX9_reckonSlope_42 (lv_at hl 5 rfl) ?_
  have f_24 : g_21 2103 = .inl (cA 2103, 8, .inr (.inr (.inr (.inr (fun j => some (ad (2109 + j))))))) := (fr_22 2103 (by omega)).trans f_14
  refine m_aald hx hb hK hP 2103 (by decide) rfl f_24 (i := rr) (v := ad (2109 + rr)) (by omega) (by decide) rfl dX9_reckonSlope_44 ?_
  have f_26 : g_21 2077 = .inr (3, [.ref (ad (2 * 0)), .ref (ad (2 * 1)), .ref (ad (2 * 2)), .ref (ad (2 * 3))]) := (fr_22 2077 (by omega)).trans ((fr_12 2077 (by omega)).trans ((fr_4 2077 (by omega)).trans hAro))
  have f_27 : g_21 (2109 + rr) = .inr (5, [.ref (ad (2 * (13 + 2 * rr))), .ref (ad (2 * (14 + 2 * rr)))]) := (fr_22 (2109 + rr) (by omega)).trans f_18
  refine va_callv (va_runV (As := [.ref (ad (2109 + rr))]) (rest := []) ⟨hx, hb, hml, hown, hts⟩ (c_X0_reduce l dC dI A ad cA g_21 (2109 + rr) (13 + 2 * rr) (14 + 2 * rr) hAW_15 f_26 f_27 (⟨fr_r (by omega), by omega⟩) (by omega)) (cwV 1 hts (goodIn_app (goodIn_r [Cond.methodLink RX9 215 yX0_reduce, Cond.instanceMethod yX0_reduce, Cond.selects RX0 yX0_reduce yX0_reduce, Cond.initialized RX0] [14, 15, 16, 17] rfl rfl) (goodIn_sub (fun w9 h9 => bk4 w9 h9) gw_X0_reduce)) rfl rfl rfl (by decide +kernel) ⟨Nat.le_of_ble_eq_true rfl, Nat.le_of_ble_eq_true rfl⟩) ⟨fun a U g mk q => ⟨q.1, q.2.1, q.2.2.1, LY.moved (u := U) (U := U.calling g mk a) (Vm.Alike.refl U.vm) q.2.2.2⟩, va_recv hK hP (ci := 3) (q0 := 2077) rfl (wo_at (by decide) f_26), fun U hU hW => ⟨rfl, by rw [hU]; exact fun q h => hA q (Nat.le_trans hS.1 h), by rw [hU]; exact hP, LY.moved hW.alike hL⟩⟩ rfl rfl hl.1 rfl (lv_room (Nat.le_of_ble_eq_true rfl)) dX9_reckonSlope_45 ⟨(Nat.le_of_ble_eq_true rfl), (Nat.le_of_ble_eq_true rfl)⟩) hS (fun q _ h => h) (fun q h => h) (fun u8 t8 H1 locs ht8 hvm8 hw_28 hB hz1 hk1 hS => ?_)
  obtain ⟨g_29, rfl⟩ : ∃ z, z = u8 := ⟨_, rfl⟩
  try dsimp only at hw_28 hB
  rw [ht8] at hB
  have hP := hB
  generalize H1 = H at hP hS ⊢
  obtain ⟨fr_30, hAW_25⟩ := hw_28
  have f_31 : g_29 2076 = .inr (12, [.ref (ad 2077), .ref (ad 2078), .ref (ad 2080), .ref (ad 2084), .ref (ad 2090), .ref (ad 2097), .ref (ad 2103), .ref (ad 2108), .ref (ad 2104), .ref (ad 2105), .ref (ad 2106), .int wp]) := (fr_30 2076 (by omega)).trans f_23
  have hC_32 : CS ad cA g_29 L := CS.same hC_16 hAW_25 (fun (k : Nat) (hk : (76 ≤ k ∧ k < 876) ∨ k = 2077 ∨ k = 2107 ∨ k = 2080 ∨ k = 2081 ∨ (2117 ≤ k ∧ k < 2517)) => (fr_30 k (by omega)).trans ((fr_22 k (by omega)).trans (rfl)))
  refine W.widen (k := 0) (n := 0) (by omega) (by omega) ?_
  exact W.vret hx hb hr (fun t9 ht9 hW9 => ⟨⟨g_29, rfl, ⟨f_31, hC_32, hWf, (d3.same (fun (k : Nat) (hk : k = 2078 ∨ k = 2079) => (fr_30 k (by omega)).trans ((fr_22 k (by omega)).trans ((fr_12 k (by omega)).trans ((fr_4 k (by omega)).trans (rfl)))))), (d4.same (fun (k : Nat) (hk : 2084 ≤ k ∧ k ≤ 2088) => (fr_30 k (by omega)).trans ((fr_22 k (by omega)).trans ((fr_12 k (by omega)).trans ((fr_4 k (by omega)).trans (rfl)))))), (d5.same (fun (k : Nat) (hk : k = 2089) => (fr_30 k (by omega)).trans ((fr_22 k (by omega)).trans ((fr_12 k (by omega)).trans ((fr_4 k (by omega)).trans (rfl)))))), (hCr_1.same (fun (k : Nat) (hk : 2090 ≤ k ∧ k ≤ 2096) => (fr_30 k (by omega)).trans ((fr_22 k (by omega)).trans ((fr_12 k (by omega)).trans (rfl))))), (hMk_7.same (fun (k : Nat) (hk : k = 2082) => (fr_30 k (by omega)).trans ((fr_22 k (by omega)).trans (rfl)))), (d8.same (fun (k : Nat) (hk : 2097 ≤ k ∧ k ≤ 2102) => (fr_30 k (by omega)).trans ((fr_22 k (by omega)).trans ((fr_12 k (by omega)).trans ((fr_4 k (by omega)).trans (rfl)))))), (d9.same (fun (k : Nat) (hk : k = 2083) => (fr_30 k (by omega)).trans ((fr_22 k (by omega)).trans ((fr_12 k (by omega)).trans ((fr_4 k (by omega)).trans (rfl)))))), (da.same (fun (k : Nat) (hk : k = 2104) => (fr_30 k (by omega)).trans ((fr_22 k (by omega)).trans ((fr_12 k (by omega)).trans ((fr_4 k (by omega)).trans (rfl)))))), (db.same (fun (k : Nat) (hk : k = 2105 ∨ k = 2106) => (fr_30 k (by omega)).trans ((fr_22 k (by omega)).trans ((fr_12 k (by omega)).trans ((fr_4 k (by omega)).trans (rfl)))))), (dc.same (fun (k : Nat) (hk : k = 2103 ∨ (2108 ≤ k ∧ k < 2117)) => (fr_30 k (by omega)).trans ((fr_22 k (by omega)).trans ((fr_12 k (by omega)).trans ((fr_4 k (by omega)).trans (rfl))))))⟩, by show va_P (dC, dI) vwCl _ t9.heap; rw [ht9]; exact hP⟩, hS.F ht9⟩) hS.2.2 dX9_reckonSlope_48
end
section
/-- fewer parts are held -/
theorem CS.cut {ad : Nat → Nat} {cA : Nat → ClassId} {g g2 : Nat → va_E} {L M : List PD} (h : CS ad cA g M) (hE : LE L M) (hO : CSO ad g2 L.length) (hW : AW ad cA g2) (hf : ∀ k, ((76 ≤ k ∧ k < 876) ∨ k = 2077 ∨ k = 2107 ∨ k = 2081 ∨ (2117 ≤ k ∧ k < 2517)) → g2 k = g k) : CS ad cA g2 L := by
  obtain ⟨hl, -, hX, -, pt, hP, hM⟩ := h
  have hle := hE.1
  refine ⟨by omega, hW, hX.same (fun k hk => hf k (by rcases hk with h | h | h | ⟨i, hi, rfl⟩ <;> omega)), hO, pt, ⟨fun i hi => (hf _ (by omega)).trans (hP.1 i hi), hP.2⟩, fun i hi => ?_⟩
  obtain ⟨m0, m1, m2, m3, m4, m5, m6⟩ := hM i (by omega)
  rw [hE.2 i hi] at m0 m1 m2 m3 m4 m5 m6
  exact ⟨m0, m1, m2, m3, m4, m5, fun h9 => (m6 h9).same (fun k hk => hf k (by clear m6; omega))⟩
theorem LE.nil {L : List PD} : LE [] L := ⟨Nat.zero_le _, fun i hi => absurd hi (Nat.not_lt_zero _)⟩
end
