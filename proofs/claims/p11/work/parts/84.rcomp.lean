def wd_X10_compare : List Cond := .code yX10_compare cX10_compare 4 (some .int) :: (([.methodLink RX10 266 yX10_noResult, .instanceMethod yX10_noResult, .selects RX10 yX10_noResult yX10_noResult, .initialized RX10, .fieldLink RX10 78 "GradientDeskModel" "thrown" "I", .methodLink RX10 136 yX10_copyFraction, .instanceMethod yX10_copyFraction, .selects RX10 yX10_copyFraction yX10_copyFraction, .methodLink RX10 130 yX10_times, .instanceMethod yX10_times, .selects RX10 yX10_times yX10_times, .fieldLink RX10 18 "GradientDeskModel" "below" "[Z", .methodLink RX10 100 yX10_compareSizes, .instanceMethod yX10_compareSizes, .selects RX10 yX10_compareSizes yX10_compareSizes] : List Cond) ++ (wd_X10_noResult ++ (u_ws RX10 TX10 29 ++ (wd_X10_copyFraction ++ (wd_X10_times ++ (wd_X10_compareSizes ++ ([])))))))
theorem gw_X10_compare : wd_X10_compare.all goodWord = true := k_allc rfl (k_all (by decide +kernel) (k_all (gw_X10_noResult) (k_all (gu_X10) (k_all (gw_X10_copyFraction) (k_all (gw_X10_times) (k_all (gw_X10_compareSizes) (rfl)))))))
set_option maxHeartbeats 4000000 in
set_option maxRecDepth 100000 in
theorem c_X10_compare (l : Launch) (dC : Nat → ClassId) (dI : Nat → Nat → Nat) (A : Nat → Prop) (ad : Nat → Nat) (cA : Nat → ClassId) (g : Nat → va_E) (x : Nat → Int32) (L : List PD) (nm : Nat → Int) (tx : Nat → Nat) (ty : Nat) (wr : List Int) (v : Int32) (w1 : Int32) (hI : RIE ad cA g x L nm tx ty wr) : Met l yX10_compare wd_X10_compare ({ frames := 50, cells := 0, slots := 0, locals := 1000 }) (va_Pc [.ref (ad 0), .int v, .int w1] (PR NSr tyr dC dI A ad cA g)) (va_Qi (fun (r : Int32) => fun (u : (Nat → va_E) × (Nat → Int32)) => match u with | (g2, x2) => RIE ad cA g2 x2 L nm tx ty wr ∧ x2 2 = x 2 ∧ (x2 0 = nI 0 ∨ x2 0 = nI 1 ∨ x2 0 = nI 2)) (fun (u : (Nat → va_E) × (Nat → Int32)) (t : State) => va_P (dC, dI) vwCl (wo ad NSr u.1) t.heap) A) (0) (0) A := by
  refine Met.ofW (cc := cX10_compare) (maxL := 4) (ret := (some .int)) (by decide) rfl ?_
  intro p e s m args below meth c s₁ B hml hv
  obtain ⟨rfl, hA, hP, hL⟩ := hv
  have hx := B.exec
  have hb := B.bytes
  have hr := B.returns
  have hts := atoms_spec (ws := wd_X10_compare) B.pre
  have hown : s.vm.findClass RX10 = some m.cls := findClass_of_methodNamed B.named
  have hlocks := B.notSynchronized
  have hK := hL.1
  have hD : ∀ g, va_D A (wo ad NSr g) := fun g => wo_D hL.2.1 hL.2.2 g
  have hS : va_S A s.heap s.heap [] := va_S.rf
  have bk0 : ∀ w ∈ wd_X10_noResult, w ∈ wd_X10_compare := fun _ h => List.mem_cons_of_mem _ (List.mem_append_right _ (List.mem_append_left _ h))
  have bk1 : ∀ w ∈ u_ws RX10 TX10 29, w ∈ wd_X10_compare := fun _ h => List.mem_cons_of_mem _ (List.mem_append_right _ (List.mem_append_right _ (List.mem_append_left _ h)))
  have bk2 : ∀ w ∈ wd_X10_copyFraction, w ∈ wd_X10_compare := fun _ h => List.mem_cons_of_mem _ (List.mem_append_right _ (List.mem_append_right _ (List.mem_append_right _ (List.mem_append_left _ h))))
  have bk3 : ∀ w ∈ wd_X10_times, w ∈ wd_X10_compare := fun _ h => List.mem_cons_of_mem _ (List.mem_append_right _ (List.mem_append_right _ (List.mem_append_right _ (List.mem_append_right _ (List.mem_append_left _ h)))))
  have bk4 : ∀ w ∈ wd_X10_compareSizes, w ∈ wd_X10_compare := fun _ h => List.mem_cons_of_mem _ (List.mem_append_right _ (List.mem_append_right _ (List.mem_append_right _ (List.mem_append_right _ (List.mem_append_right _ (List.mem_append_left _ h))))))
  have hl := lv_entry ([.ref (ad 0), .int v, .int w1]) (n := 4) (Nat.le_of_ble_eq_true rfl)
  rw [lg_entry_eq]
  generalize (lg_sl ([.ref (ad 0), .int v, .int w1]) ++ List.replicate (4 - (lg_sl ([.ref (ad 0), .int v, .int w1])).length) Slot.unset).toArray = ls at hl ⊢
  have hl : lv_has ls 4 [(0, .ref (ad 0)), (1, .int v), (2, .int w1)] := hl
  obtain ⟨pf, qf, pt, hI0⟩ := hI
  have hI1 := hI0
  obtain ⟨hF, hPt, hM, hW, hL2, hmd, hTx, hty, hty2, hwr, hwr2, hVO, hBd⟩ := hI1
  have hVO0 := hVO
  have hPt0 := hPt
  have hTx0 := hTx
  have hF0 := hF
  obtain ⟨vf, hV, hq⟩ := hF
  have hc_1 := hV
  obtain ⟨pnz_2, lnz_2, bnz_2, hRz_2, hvz_2⟩ := hc_1
  obtain ⟨r_3, r_4, r_5, r_6, r_7, r_8, r_9⟩ := hRz_2
  obtain ⟨p_10, p_11, p_12, p_13, p_14, p_15, hpt_16⟩ := hPt
  obtain ⟨t4, t4b, t11, t11b, t11c⟩ := hTx
  obtain ⟨⟨rc, v12, v12b⟩, ⟨f13, v13⟩, ⟨f14, v14⟩, ⟨f15, v15⟩, ⟨f16, v16⟩, ⟨f17, v17⟩, ⟨f18, v18⟩, ⟨f19, v19⟩⟩ := hVO
  refine lv_aload_n hx hb dX10_compare_0 rfl (lv_at hl 0 rfl) ?_
  refine lv_aload_n hx hb dX10_compare_1 rfl (lv_at hl 0 rfl) ?_
  refine lv_iload_n hx hb dX10_compare_2 rfl (lv_at hl 1 rfl) ?_
  refine va_calli (va_runV (As := [.int v]) (rest := [.ref (ad 0)]) ⟨hx, hb, hml, hown, hts⟩ (c_X10_noResult l dC dI A ad cA g v ) (cwV 1 hts (goodIn_app (goodIn_r [Cond.methodLink RX10 266 yX10_noResult, Cond.instanceMethod yX10_noResult, Cond.selects RX10 yX10_noResult yX10_noResult, Cond.initialized RX10] [1, 2, 3, 4] rfl rfl) (goodIn_sub (fun w9 h9 => bk0 w9 h9) gw_X10_noResult)) rfl rfl rfl (by decide +kernel) ⟨Nat.le_of_ble_eq_true rfl, Nat.le_of_ble_eq_true rfl⟩) ⟨fun a U g mk q => ⟨q.1, q.2.1, q.2.2.1, LY.moved (u := U) (U := U.calling g mk a) (Vm.Alike.refl U.vm) q.2.2.2⟩, va_recv hK hP (ci := 13) (q0 := 0) rfl (wo_at (by decide) r_3), fun U hU hW => ⟨rfl, by rw [hU]; exact fun q h => hA q (Nat.le_trans hS.1 h), by rw [hU]; exact hP, LY.moved hW.alike hL⟩⟩ rfl rfl hl.1 rfl (lv_room (Nat.le_of_ble_eq_true rfl)) dX10_compare_3 ⟨(Nat.le_of_ble_eq_true rfl), (Nat.le_of_ble_eq_true rfl)⟩) hS (fun q _ h => h) (fun q h => h) (fun r_17 u8 t8 H1 locs ht8 hvm8 hw_18 hB hz1 hk1 hS => ?_)
  obtain ⟨⟩ := u8
  try dsimp only at hw_18 hB
  rw [ht8] at hB
  have hP := hB
  generalize H1 = H at hP hS ⊢
  rcases hw_18 with ⟨rfl, hnrv⟩ | ⟨rfl, hnrv⟩
  · skip
    refine lv_if_ne (tgt := 17) hx hb dX10_compare_6 (by decide) (fun c_19 => absurd c_19 (by decide)) (fun c_19 => ?_)
    refine lv_aload_n hx hb dX10_compare_9 rfl (lv_at hl 0 rfl) ?_
    refine lv_iload_n hx hb dX10_compare_10 rfl (lv_at hl 2 rfl) ?_
    refine va_calli (va_runV (As := [.int w1]) (rest := [.ref (ad 0)]) ⟨hx, hb, hml, hown, hts⟩ (c_X10_noResult l dC dI A ad cA g w1 ) (cwV 1 hts (goodIn_app (goodIn_r [Cond.methodLink RX10 266 yX10_noResult, Cond.instanceMethod yX10_noResult, Cond.selects RX10 yX10_noResult yX10_noResult, Cond.initialized RX10] [1, 2, 3, 4] rfl rfl) (goodIn_sub (fun w9 h9 => bk0 w9 h9) gw_X10_noResult)) rfl rfl rfl (by decide +kernel) ⟨Nat.le_of_ble_eq_true rfl, Nat.le_of_ble_eq_true rfl⟩) ⟨fun a U g mk q => ⟨q.1, q.2.1, q.2.2.1, LY.moved (u := U) (U := U.calling g mk a) (Vm.Alike.refl U.vm) q.2.2.2⟩, va_recv hK hP (ci := 13) (q0 := 0) rfl (wo_at (by decide) r_3), fun U hU hW => ⟨rfl, by rw [hU]; exact fun q h => hA q (Nat.le_trans hS.1 h), by rw [hU]; exact hP, LY.moved hW.alike hL⟩⟩ rfl rfl hl.1 rfl (lv_room (Nat.le_of_ble_eq_true rfl)) dX10_compare_11 ⟨(Nat.le_of_ble_eq_true rfl), (Nat.le_of_ble_eq_true rfl)⟩) hS (fun q _ h => h) (fun q h => h) (fun r_20 u8 t8 H1 locs ht8 hvm8 hw_21 hB hz1 hk1 hS => ?_)
    obtain ⟨⟩ := u8
    try dsimp only at hw_21 hB
    rw [ht8] at hB
    have hP := hB
    generalize H1 = H at hP hS ⊢
    rcases hw_21 with ⟨rfl, hnrw1⟩ | ⟨rfl, hnrw1⟩
    · skip
      refine lv_if_eq (tgt := 21) hx hb dX10_compare_14 (by decide) (fun c_22 => ?_) (fun c_22 => absurd c_22 (by decide))
      refine lv_iconst (v := nI 0) hx hb dX10_compare_21 (by decide +kernel) ?_
      refine m_put (D := (dC, dI)) (v := .int (nI 0)) (tv := .int) (C := RX10) (T := TX10) (N := 29) hx hb hts bk1 tyX10 tyX10_ok nmX10 hown hK hP hD hS 0 (by decide) r_3 rfl 0 (by decide) (hts (.fieldLink RX10 78 "GradientDeskModel" "thrown" "I") (List.mem_of_getElem? (i := 5) rfl)) (fun _ h9 => h9) rfl (by decide +kernel) rfl rfl (Nat.le_of_ble_eq_true rfl) dX10_compare_22 (fun H locs g_23 f_24 fr_25 hP hS => ?_)
      have f_24 : g_23 0 = .inr (13, Rob ad (va_up x 0 (nI 0))) := f_24
      refine lv_aload_n hx hb dX10_compare_25 rfl (lv_at hl 0 rfl) ?_
      refine m_get (D := (dC, dI)) (v := .int (nI 0)) (C := RX10) (T := TX10) (N := 29) hx hb hts bk1 hown hK hP 0 (by decide) f_24 rfl 0 (by decide) (hts (.fieldLink RX10 78 "GradientDeskModel" "thrown" "I") (List.mem_of_getElem? (i := 5) rfl)) (fun _ h9 => h9) (congrArg (fun z => some (Value.int z)) (show (va_up x 0 (nI 0)) 0 = (nI 0) from rfl)) dX10_compare_26 ?_
      refine lv_if_le (tgt := 34) hx hb dX10_compare_29 (by decide) (fun c_26 => ?_) (fun c_26 => absurd c_26 (by decide))
      obtain ⟨an, han, ean, -⟩ := k_nat (x := v) (by omega)
      subst han
      obtain ⟨cn, hcn, ecn, -⟩ := k_nat (x := w1) (by omega)
      subst hcn
      refine lv_aload_n hx hb dX10_compare_34 rfl (lv_at hl 0 rfl) ?_
      refine lv_sipush (v := nI 1012) hx hb dX10_compare_35 (by decide +kernel) ?_
      refine lv_sipush (v := nI 1000) hx hb dX10_compare_38 (by decide +kernel) ?_
      refine lv_iload_n hx hb dX10_compare_41 rfl (lv_at hl 1 rfl) ?_
      refine lv_iadd hx hb dX10_compare_42 ?_
      refine lv_topi (fun x_27 e_28 => ?_)
      obtain rfl : x_27 = nI (1000 + an) := e_28.trans (nI_add 1000 an)
      have hF1 : RF ad cA g_23 (va_up x 0 (nI 0)) pf qf := hF0.setx (fun (k : Nat) (hk : k = 1 ∨ k = 2 ∨ k = 3) => (fr_25 k (by omega)).trans (rfl)) f_24 rfl
      refine va_callv (va_runV (As := [.int (nI 1012), .int (nI (1000 + an))]) (rest := []) ⟨hx, hb, hml, hown, hts⟩ (c_X10_copyFraction l dC dI A ad cA g_23 (va_up x 0 (nI 0)) pf qf 1012 (1000 + an) hF1 (by decide) (by omega)) (cwV 2 hts (goodIn_app (goodIn_r [Cond.methodLink RX10 136 yX10_copyFraction, Cond.instanceMethod yX10_copyFraction, Cond.selects RX10 yX10_copyFraction yX10_copyFraction, Cond.initialized RX10] [6, 7, 8, 4] rfl rfl) (goodIn_sub (fun w9 h9 => bk2 w9 h9) gw_X10_copyFraction)) rfl rfl rfl (by decide +kernel) ⟨Nat.le_of_ble_eq_true rfl, Nat.le_of_ble_eq_true rfl⟩) ⟨fun a U g mk q => ⟨q.1, q.2.1, q.2.2.1, LY.moved (u := U) (U := U.calling g mk a) (Vm.Alike.refl U.vm) q.2.2.2⟩, va_recv hK hP (ci := 13) (q0 := 0) rfl (wo_at (by decide) f_24), fun U hU hW => ⟨rfl, by rw [hU]; exact fun q h => hA q (Nat.le_trans hS.1 h), by rw [hU]; exact hP, LY.moved hW.alike hL⟩⟩ rfl rfl hl.1 rfl (lv_room (Nat.le_of_ble_eq_true rfl)) dX10_compare_43 ⟨(Nat.le_of_ble_eq_true rfl), (Nat.le_of_ble_eq_true rfl)⟩) hS (fun q _ h => h) (fun q h => h) (fun u8 t8 H1 locs ht8 hvm8 hw_29 hB hz1 hk1 hS => ?_)
      obtain ⟨g_30, rfl⟩ : ∃ z, z = u8 := ⟨_, rfl⟩
      try dsimp only at hw_29 hB
      rw [ht8] at hB
      have hP := hB
      generalize H1 = H at hP hS ⊢
      obtain ⟨fr_31, hF2⟩ := hw_29
      refine lv_aload_n hx hb dX10_compare_46 rfl (lv_at hl 0 rfl) ?_
      refine lv_sipush (v := nI 1013) hx hb dX10_compare_47 (by decide +kernel) ?_
      refine lv_sipush (v := nI 1000) hx hb dX10_compare_50 (by decide +kernel) ?_
      refine lv_iload_n hx hb dX10_compare_53 rfl (lv_at hl 2 rfl) ?_
      refine lv_iadd hx hb dX10_compare_54 ?_
      refine lv_topi (fun x_32 e_33 => ?_)
      obtain rfl : x_32 = nI (1000 + cn) := e_33.trans (nI_add 1000 cn)
      have f_34 : g_30 0 = .inr (13, Rob ad (va_up x 0 (nI 0))) := (fr_31 0 (by omega)).trans f_24
      refine va_callv (va_runV (As := [.int (nI 1013), .int (nI (1000 + cn))]) (rest := []) ⟨hx, hb, hml, hown, hts⟩ (c_X10_copyFraction l dC dI A ad cA g_30 (va_up x 0 (nI 0)) (va_up pf 1012 (pf (1000 + an))) (va_up qf 1012 (qf (1000 + an))) 1013 (1000 + cn) hF2 (by decide) (by omega)) (cwV 2 hts (goodIn_app (goodIn_r [Cond.methodLink RX10 136 yX10_copyFraction, Cond.instanceMethod yX10_copyFraction, Cond.selects RX10 yX10_copyFraction yX10_copyFraction, Cond.initialized RX10] [6, 7, 8, 4] rfl rfl) (goodIn_sub (fun w9 h9 => bk2 w9 h9) gw_X10_copyFraction)) rfl rfl rfl (by decide +kernel) ⟨Nat.le_of_ble_eq_true rfl, Nat.le_of_ble_eq_true rfl⟩) ⟨fun a U g mk q => ⟨q.1, q.2.1, q.2.2.1, LY.moved (u := U) (U := U.calling g mk a) (Vm.Alike.refl U.vm) q.2.2.2⟩, va_recv hK hP (ci := 13) (q0 := 0) rfl (wo_at (by decide) f_34), fun U hU hW => ⟨rfl, by rw [hU]; exact fun q h => hA q (Nat.le_trans hS.1 h), by rw [hU]; exact hP, LY.moved hW.alike hL⟩⟩ rfl rfl hl.1 rfl (lv_room (Nat.le_of_ble_eq_true rfl)) dX10_compare_55 ⟨(Nat.le_of_ble_eq_true rfl), (Nat.le_of_ble_eq_true rfl)⟩) hS (fun q _ h => h) (fun q h => h) (fun u8 t8 H1 locs ht8 hvm8 hw_35 hB hz1 hk1 hS => ?_)
      obtain ⟨g_36, rfl⟩ : ∃ z, z = u8 := ⟨_, rfl⟩
      try dsimp only at hw_35 hB
      rw [ht8] at hB
      have hP := hB
      generalize H1 = H at hP hS ⊢
      obtain ⟨fr_37, hF3⟩ := hw_35
      obtain ⟨p3, hp3⟩ : ∃ z9, z9 = va_up (va_up pf 1012 (pf (1000 + an))) 1013 ((va_up pf 1012 (pf (1000 + an))) (1000 + cn)) := ⟨_, rfl⟩
      obtain ⟨q3, hq3⟩ : ∃ z9, z9 = va_up (va_up qf 1012 (qf (1000 + an))) 1013 ((va_up qf 1012 (qf (1000 + an))) (1000 + cn)) := ⟨_, rfl⟩
      rw [← hp3, ← hq3] at hF3
      have b12 : (p3 1012).natAbs < 2 ^ 1000 ∧ q3 1012 < 2 ^ 1000 := by rw [show p3 1012 = pf (1000 + an) by rw [hp3]; exact (va_up_ne _ _ (by decide)).trans (va_up_self _ _ _), show q3 1012 = qf (1000 + an) by rw [hq3]; exact (va_up_ne _ _ (by decide)).trans (va_up_self _ _ _)]; exact hBd.1 an (by omega)
      have b13 : (p3 1013).natAbs < 2 ^ 1000 ∧ q3 1013 < 2 ^ 1000 := by rw [show p3 1013 = pf (1000 + cn) by rw [hp3]; exact (va_up_self _ _ _).trans (va_up_ne _ _ (by omega)), show q3 1013 = qf (1000 + cn) by rw [hq3]; exact (va_up_self _ _ _).trans (va_up_ne _ _ (by omega))]; exact hBd.1 cn (by omega)
      have hO3 : ∀ f, f ≠ 1012 → f ≠ 1013 → p3 f = pf f ∧ q3 f = qf f := fun f h1 h2 => by rw [hp3, hq3, va_up_ne _ _ h2, va_up_ne _ _ h2, va_up_ne _ _ h1, va_up_ne _ _ h1]; exact ⟨rfl, rfl⟩
      refine lv_aload_n hx hb dX10_compare_58 rfl (lv_at hl 0 rfl) ?_
      refine lv_sipush (v := nI 2064) hx hb dX10_compare_59 (by decide +kernel) ?_
      refine lv_sipush (v := nI 2024) hx hb dX10_compare_62 (by decide +kernel) ?_
      refine lv_sipush (v := nI 2027) hx hb dX10_compare_65 (by decide +kernel) ?_
      have hF3c := hF3
      obtain ⟨vf3, hV3, hw3⟩ := hF3c
      have k24 := k_24
      have e24 : (vf3 2024).natAbs = (p3 1012).natAbs := congrArg Int.natAbs (hw3 1012 (by decide)).1
      have e26 : (vf3 2026).natAbs = (p3 1013).natAbs := congrArg Int.natAbs (hw3 1013 (by decide)).1
      have e25 : (vf3 2025).natAbs = q3 1012 := by have h9 : vf3 2025 = ((q3 1012 : Nat) : Int) := (hw3 1012 (by decide)).2.1; omega
      have e27 : (vf3 2027).natAbs = q3 1013 := by have h9 : vf3 2027 = ((q3 1013 : Nat) : Int) := (hw3 1013 (by decide)).2.1; omega
      have f_38 : g_36 0 = .inr (13, Rob ad (va_up x 0 (nI 0))) := (fr_37 0 (by omega)).trans f_34
      refine va_callv (va_runV (As := [.int (nI 2064), .int (nI 2024), .int (nI 2027)]) (rest := []) ⟨hx, hb, hml, hown, hts⟩ (c_X10_times l dC dI A ad cA g_36 (va_up x 0 (nI 0)) vf3 2064 2024 2027 hV3 (by decide) (by decide) (by decide) (by rw [e24, e27]; have := k_m24 (k_1012 b12).1 (k_1012 b13).2; omega)) (cwV 3 hts (goodIn_app (goodIn_r [Cond.methodLink RX10 130 yX10_times, Cond.instanceMethod yX10_times, Cond.selects RX10 yX10_times yX10_times, Cond.initialized RX10] [9, 10, 11, 4] rfl rfl) (goodIn_sub (fun w9 h9 => bk3 w9 h9) gw_X10_times)) rfl rfl rfl (by decide +kernel) ⟨Nat.le_of_ble_eq_true rfl, Nat.le_of_ble_eq_true rfl⟩) ⟨fun a U g mk q => ⟨q.1, q.2.1, q.2.2.1, LY.moved (u := U) (U := U.calling g mk a) (Vm.Alike.refl U.vm) q.2.2.2⟩, va_recv hK hP (ci := 13) (q0 := 0) rfl (wo_at (by decide) f_38), fun U hU hW => ⟨rfl, by rw [hU]; exact fun q h => hA q (Nat.le_trans hS.1 h), by rw [hU]; exact hP, LY.moved hW.alike hL⟩⟩ rfl rfl hl.1 rfl (lv_room (Nat.le_of_ble_eq_true rfl)) dX10_compare_68 ⟨(Nat.le_of_ble_eq_true rfl), (Nat.le_of_ble_eq_true rfl)⟩) hS (fun q _ h => h) (fun q h => h) (fun u8 t8 H1 locs ht8 hvm8 hw_39 hB hz1 hk1 hS => ?_)
      obtain ⟨g_40, rfl⟩ : ∃ z, z = u8 := ⟨_, rfl⟩
      try dsimp only at hw_39 hB
      rw [ht8] at hB
      have hP := hB
      generalize H1 = H at hP hS ⊢
      obtain ⟨fr_41, hV4⟩ := hw_39
      obtain ⟨vf4, ev4⟩ : ∃ z9, z9 = va_up vf3 2064 (vf3 2024 * vf3 2027) := ⟨_, rfl⟩
      rw [← ev4] at hV4
      have o4 : ∀ j, j ≠ 2064 → vf4 j = vf3 j := fun j hj => by rw [ev4]; exact va_up_ne _ _ hj
      refine lv_aload_n hx hb dX10_compare_71 rfl (lv_at hl 0 rfl) ?_
      refine lv_sipush (v := nI 2065) hx hb dX10_compare_72 (by decide +kernel) ?_
      refine lv_sipush (v := nI 2026) hx hb dX10_compare_75 (by decide +kernel) ?_
      refine lv_sipush (v := nI 2025) hx hb dX10_compare_78 (by decide +kernel) ?_
      have f_42 : g_40 0 = .inr (13, Rob ad (va_up x 0 (nI 0))) := (fr_41 0 (by omega)).trans f_38
      refine va_callv (va_runV (As := [.int (nI 2065), .int (nI 2026), .int (nI 2025)]) (rest := []) ⟨hx, hb, hml, hown, hts⟩ (c_X10_times l dC dI A ad cA g_40 (va_up x 0 (nI 0)) vf4 2065 2026 2025 hV4 (by decide) (by decide) (by decide) (by rw [o4 2026 (by decide), o4 2025 (by decide), e26, e25]; have := k_m24 (k_1012 b13).1 (k_1012 b12).2; omega)) (cwV 3 hts (goodIn_app (goodIn_r [Cond.methodLink RX10 130 yX10_times, Cond.instanceMethod yX10_times, Cond.selects RX10 yX10_times yX10_times, Cond.initialized RX10] [9, 10, 11, 4] rfl rfl) (goodIn_sub (fun w9 h9 => bk3 w9 h9) gw_X10_times)) rfl rfl rfl (by decide +kernel) ⟨Nat.le_of_ble_eq_true rfl, Nat.le_of_ble_eq_true rfl⟩) ⟨fun a U g mk q => ⟨q.1, q.2.1, q.2.2.1, LY.moved (u := U) (U := U.calling g mk a) (Vm.Alike.refl U.vm) q.2.2.2⟩, va_recv hK hP (ci := 13) (q0 := 0) rfl (wo_at (by decide) f_42), fun U hU hW => ⟨rfl, by rw [hU]; exact fun q h => hA q (Nat.le_trans hS.1 h), by rw [hU]; exact hP, LY.moved hW.alike hL⟩⟩ rfl rfl hl.1 rfl (lv_room (Nat.le_of_ble_eq_true rfl)) dX10_compare_81 ⟨(Nat.le_of_ble_eq_true rfl), (Nat.le_of_ble_eq_true rfl)⟩) hS (fun q _ h => h) (fun q h => h) (fun u8 t8 H1 locs ht8 hvm8 hw_43 hB hz1 hk1 hS => ?_)
      obtain ⟨g_44, rfl⟩ : ∃ z, z = u8 := ⟨_, rfl⟩
      try dsimp only at hw_43 hB
      rw [ht8] at hB
      have hP := hB
      generalize H1 = H at hP hS ⊢
      obtain ⟨fr_45, hV5⟩ := hw_43
      obtain ⟨vf5, ev5⟩ : ∃ z9, z9 = va_up vf4 2065 (vf4 2026 * vf4 2025) := ⟨_, rfl⟩
      rw [← ev5] at hV5
      have o5 : ∀ j, j < 2060 → vf5 j = vf3 j := fun j hj => by rw [ev5]; exact (va_up_ne _ _ (by omega)).trans (o4 j (by omega))
      have hF5 : RF ad cA g_44 (va_up x 0 (nI 0)) p3 q3 := ⟨vf5, hV5, fun f hf => by rw [o5 (2 * f) (by omega), o5 (2 * f + 1) (by omega)]; exact hw3 f hf⟩
      have hc_46 := hV5
      obtain ⟨pnz_47, lnz_47, bnz_47, hRz_47, hvz_47⟩ := hc_46
      obtain ⟨r_48, r_49, r_50, r_51, r_52, r_53, r_54⟩ := hRz_47
      refine lv_aload_n hx hb dX10_compare_84 rfl (lv_at hl 0 rfl) ?_
      refine m_get (D := (dC, dI)) (v := .ref (ad 3)) (C := RX10) (T := TX10) (N := 29) hx hb hts bk1 hown hK hP 0 (by decide) r_48 rfl 3 (by decide) (hts (.fieldLink RX10 18 "GradientDeskModel" "below" "[Z") (List.mem_of_getElem? (i := 12) rfl)) (fun _ h9 => h9) rfl dX10_compare_85 ?_
      refine lv_sipush (v := nI 2064) hx hb dX10_compare_88 (by decide +kernel) ?_
      refine m_zald hx hb hK hP 3 (by decide) rfl r_51 (i := 2064) (by decide) (by decide) dX10_compare_91 ?_
      have b_55 := r_54 2064
      refine lv_aload_n hx hb dX10_compare_92 rfl (lv_at hl 0 rfl) ?_
      refine m_get (D := (dC, dI)) (v := .ref (ad 3)) (C := RX10) (T := TX10) (N := 29) hx hb hts bk1 hown hK hP 0 (by decide) r_48 rfl 3 (by decide) (hts (.fieldLink RX10 18 "GradientDeskModel" "below" "[Z") (List.mem_of_getElem? (i := 12) rfl)) (fun _ h9 => h9) rfl dX10_compare_93 ?_
      refine lv_sipush (v := nI 2065) hx hb dX10_compare_96 (by decide +kernel) ?_
      refine m_zald hx hb hK hP 3 (by decide) rfl r_51 (i := 2065) (by decide) (by decide) dX10_compare_99 ?_
      have b_56 := r_54 2065
      refine lv_icmp_eq (tgt := 120) hx hb dX10_compare_100 (by decide) (fun c_57 => ?_) (fun c_57 => ?_)
      · have c_57 := (nI_eq (a := (bnz_47 2064)) (b := (bnz_47 2065)) (by omega) (by omega)).mp c_57
        refine lv_aload_n hx hb dX10_compare_120 rfl (lv_at hl 0 rfl) ?_
        refine lv_sipush (v := nI 2064) hx hb dX10_compare_121 (by decide +kernel) ?_
        refine lv_sipush (v := nI 2065) hx hb dX10_compare_124 (by decide +kernel) ?_
        refine va_calli (va_runV (As := [.int (nI 2064), .int (nI 2065)]) (rest := []) ⟨hx, hb, hml, hown, hts⟩ (c_X10_compareSizes l dC dI A ad cA g_44 (va_up x 0 (nI 0)) vf5 2064 2065 hV5 (by decide) (by decide)) (cwV 2 hts (goodIn_app (goodIn_r [Cond.methodLink RX10 100 yX10_compareSizes, Cond.instanceMethod yX10_compareSizes, Cond.selects RX10 yX10_compareSizes yX10_compareSizes, Cond.initialized RX10] [13, 14, 15, 4] rfl rfl) (goodIn_sub (fun w9 h9 => bk4 w9 h9) gw_X10_compareSizes)) rfl rfl rfl (by decide +kernel) ⟨Nat.le_of_ble_eq_true rfl, Nat.le_of_ble_eq_true rfl⟩) ⟨fun a U g mk q => ⟨q.1, q.2.1, q.2.2.1, LY.moved (u := U) (U := U.calling g mk a) (Vm.Alike.refl U.vm) q.2.2.2⟩, va_recv hK hP (ci := 13) (q0 := 0) rfl (wo_at (by decide) r_48), fun U hU hW => ⟨rfl, by rw [hU]; exact fun q h => hA q (Nat.le_trans hS.1 h), by rw [hU]; exact hP, LY.moved hW.alike hL⟩⟩ rfl rfl hl.1 rfl (lv_room (Nat.le_of_ble_eq_true rfl)) dX10_compare_127 ⟨(Nat.le_of_ble_eq_true rfl), (Nat.le_of_ble_eq_true rfl)⟩) hS (fun q _ h => h) (fun q h => h) (fun r_58 u8 t8 H1 locs ht8 hvm8 hw_59 hB hz1 hk1 hS => ?_)
        obtain ⟨⟩ := u8
        try dsimp only at hw_59 hB
        rw [ht8] at hB
        have hP := hB
        generalize H1 = H at hP hS ⊢
        refine lv_istore_n (lv' := [(3, .int r_58), (0, .ref (ad 0)), (1, .int (nI an)), (2, .int (nI cn))]) hx hb dX10_compare_130 rfl hl (by decide) rfl (fun ls hl => ?_)
        refine lv_aload_n hx hb dX10_compare_131 rfl (lv_at hl 1 rfl) ?_
        refine m_get (D := (dC, dI)) (v := .ref (ad 3)) (C := RX10) (T := TX10) (N := 29) hx hb hts bk1 hown hK hP 0 (by decide) r_48 rfl 3 (by decide) (hts (.fieldLink RX10 18 "GradientDeskModel" "below" "[Z") (List.mem_of_getElem? (i := 12) rfl)) (fun _ h9 => h9) rfl dX10_compare_132 ?_
        refine lv_sipush (v := nI 2064) hx hb dX10_compare_135 (by decide +kernel) ?_
        refine m_zald hx hb hK hP 3 (by decide) rfl r_51 (i := 2064) (by decide) (by decide) dX10_compare_138 ?_
        have b_60 := r_54 2064
        refine lv_if_eq (tgt := 147) hx hb dX10_compare_139 (by decide) (fun c_61 => ?_) (fun c_61 => ?_)
        · have c_61 := (nI_eq (a := (bnz_47 2064)) (b := 0) (by omega) (by decide)).mp c_61
          refine lv_iload_n hx hb dX10_compare_147 rfl (lv_at hl 0 rfl) ?_
          refine W.widen (k := 0) (n := 0) (by omega) (by omega) ?_
          exact W.iret (v := r_58) hx hb hr (fun t9 ht9 hW9 => ⟨⟨r_58, (g_44, va_up x 0 (nI 0)), rfl, ⟨RI.num hI0 hF5 (fun (k : Nat) (hk : (4 ≤ k ∧ k ≤ 11) ∨ k = 16) => (fr_45 k (by omega)).trans ((fr_41 k (by omega)).trans ((fr_37 k (by omega)).trans ((fr_31 k (by omega)).trans ((fr_25 k (by omega)).trans (rfl)))))) (hVO0.same (fun (k : Nat) (hk : 12 ≤ k ∧ k ≤ 19) => (fr_45 k (by omega)).trans ((fr_41 k (by omega)).trans ((fr_37 k (by omega)).trans ((fr_31 k (by omega)).trans ((fr_25 k (by omega)).trans (rfl))))))) (va_up_ne _ _ (by decide)) (va_up_ne _ _ (by decide)) (va_up_ne _ _ (by decide)) (fun f hf => hO3 f (by omega) (by omega)) (hBd.res (fun r9 h9 => Or.inl (hO3 _ (by omega) (by omega))) (fun v9 h9 => Or.inl (hO3 _ (by omega) (by omega)))), (va_up_ne _ _ (by decide)), Or.inl (va_up_self _ _ _)⟩, by show va_P (dC, dI) vwCl _ t9.heap; rw [ht9]; exact hP⟩, hS.F ht9⟩) hS.2.2 dX10_compare_148
        · have c_61 := mt (nI_eq (a := (bnz_47 2064)) (b := 0) (by omega) (by decide)).mpr c_61
          refine lv_iload_n hx hb dX10_compare_142 rfl (lv_at hl 0 rfl) ?_
          refine lv_ineg hx hb dX10_compare_143 ?_
          refine lv_topi (fun x_62 e_63 => ?_)
          refine lv_goto (tgt := 148) hx hb dX10_compare_144 (by decide) ?_
          refine W.widen (k := 0) (n := 0) (by omega) (by omega) ?_
          exact W.iret (v := x_62) hx hb hr (fun t9 ht9 hW9 => ⟨⟨x_62, (g_44, va_up x 0 (nI 0)), rfl, ⟨RI.num hI0 hF5 (fun (k : Nat) (hk : (4 ≤ k ∧ k ≤ 11) ∨ k = 16) => (fr_45 k (by omega)).trans ((fr_41 k (by omega)).trans ((fr_37 k (by omega)).trans ((fr_31 k (by omega)).trans ((fr_25 k (by omega)).trans (rfl)))))) (hVO0.same (fun (k : Nat) (hk : 12 ≤ k ∧ k ≤ 19) => (fr_45 k (by omega)).trans ((fr_41 k (by omega)).trans ((fr_37 k (by omega)).trans ((fr_31 k (by omega)).trans ((fr_25 k (by omega)).trans (rfl))))))) (va_up_ne _ _ (by decide)) (va_up_ne _ _ (by decide)) (va_up_ne _ _ (by decide)) (fun f hf => hO3 f (by omega) (by omega)) (hBd.res (fun r9 h9 => Or.inl (hO3 _ (by omega) (by omega))) (fun v9 h9 => Or.inl (hO3 _ (by omega) (by omega)))), (va_up_ne _ _ (by decide)), Or.inl (va_up_self _ _ _)⟩, by show va_P (dC, dI) vwCl _ t9.heap; rw [ht9]; exact hP⟩, hS.F ht9⟩) hS.2.2 dX10_compare_148
      · have c_57 := mt (nI_eq (a := (bnz_47 2064)) (b := (bnz_47 2065)) (by omega) (by omega)).mpr c_57
        refine lv_aload_n hx hb dX10_compare_103 rfl (lv_at hl 0 rfl) ?_
        refine m_get (D := (dC, dI)) (v := .ref (ad 3)) (C := RX10) (T := TX10) (N := 29) hx hb hts bk1 hown hK hP 0 (by decide) r_48 rfl 3 (by decide) (hts (.fieldLink RX10 18 "GradientDeskModel" "below" "[Z") (List.mem_of_getElem? (i := 12) rfl)) (fun _ h9 => h9) rfl dX10_compare_104 ?_
        refine lv_sipush (v := nI 2064) hx hb dX10_compare_107 (by decide +kernel) ?_
        refine m_zald hx hb hK hP 3 (by decide) rfl r_51 (i := 2064) (by decide) (by decide) dX10_compare_110 ?_
        have b_64 := r_54 2064
        refine lv_if_eq (tgt := 118) hx hb dX10_compare_111 (by decide) (fun c_65 => ?_) (fun c_65 => ?_)
        · have c_65 := (nI_eq (a := (bnz_47 2064)) (b := 0) (by omega) (by decide)).mp c_65
          refine lv_iconst (v := nI 1) hx hb dX10_compare_118 (by decide +kernel) ?_
          refine W.widen (k := 0) (n := 0) (by omega) (by omega) ?_
          exact W.iret (v := nI 1) hx hb hr (fun t9 ht9 hW9 => ⟨⟨nI 1, (g_44, va_up x 0 (nI 0)), rfl, ⟨RI.num hI0 hF5 (fun (k : Nat) (hk : (4 ≤ k ∧ k ≤ 11) ∨ k = 16) => (fr_45 k (by omega)).trans ((fr_41 k (by omega)).trans ((fr_37 k (by omega)).trans ((fr_31 k (by omega)).trans ((fr_25 k (by omega)).trans (rfl)))))) (hVO0.same (fun (k : Nat) (hk : 12 ≤ k ∧ k ≤ 19) => (fr_45 k (by omega)).trans ((fr_41 k (by omega)).trans ((fr_37 k (by omega)).trans ((fr_31 k (by omega)).trans ((fr_25 k (by omega)).trans (rfl))))))) (va_up_ne _ _ (by decide)) (va_up_ne _ _ (by decide)) (va_up_ne _ _ (by decide)) (fun f hf => hO3 f (by omega) (by omega)) (hBd.res (fun r9 h9 => Or.inl (hO3 _ (by omega) (by omega))) (fun v9 h9 => Or.inl (hO3 _ (by omega) (by omega)))), (va_up_ne _ _ (by decide)), Or.inl (va_up_self _ _ _)⟩, by show va_P (dC, dI) vwCl _ t9.heap; rw [ht9]; exact hP⟩, hS.F ht9⟩) hS.2.2 dX10_compare_119
        · have c_65 := mt (nI_eq (a := (bnz_47 2064)) (b := 0) (by omega) (by decide)).mpr c_65
          refine lv_iconst (v := -1) hx hb dX10_compare_114 (by decide +kernel) ?_
          refine lv_goto (tgt := 119) hx hb dX10_compare_115 (by decide) ?_
          refine W.widen (k := 0) (n := 0) (by omega) (by omega) ?_
          exact W.iret (v := -1) hx hb hr (fun t9 ht9 hW9 => ⟨⟨-1, (g_44, va_up x 0 (nI 0)), rfl, ⟨RI.num hI0 hF5 (fun (k : Nat) (hk : (4 ≤ k ∧ k ≤ 11) ∨ k = 16) => (fr_45 k (by omega)).trans ((fr_41 k (by omega)).trans ((fr_37 k (by omega)).trans ((fr_31 k (by omega)).trans ((fr_25 k (by omega)).trans (rfl)))))) (hVO0.same (fun (k : Nat) (hk : 12 ≤ k ∧ k ≤ 19) => (fr_45 k (by omega)).trans ((fr_41 k (by omega)).trans ((fr_37 k (by omega)).trans ((fr_31 k (by omega)).trans ((fr_25 k (by omega)).trans (rfl))))))) (va_up_ne _ _ (by decide)) (va_up_ne _ _ (by decide)) (va_up_ne _ _ (by decide)) (fun f hf => hO3 f (by omega) (by omega)) (hBd.res (fun r9 h9 => Or.inl (hO3 _ (by omega) (by omega))) (fun v9 h9 => Or.inl (hO3 _ (by omega) (by omega)))), (va_up_ne _ _ (by decide)), Or.inl (va_up_self _ _ _)⟩, by show va_P (dC, dI) vwCl _ t9.heap; rw [ht9]; exact hP⟩, hS.F ht9⟩) hS.2.2 dX10_compare_119
    · skip
      refine lv_if_eq (tgt := 21) hx hb dX10_compare_14 (by decide) (fun c_66 => absurd c_66 (by decide)) (fun c_66 => ?_)
      refine lv_iconst (v := nI 1) hx hb dX10_compare_17 (by decide +kernel) ?_
      refine lv_goto (tgt := 22) hx hb dX10_compare_18 (by decide) ?_
      refine m_put (D := (dC, dI)) (v := .int (nI 1)) (tv := .int) (C := RX10) (T := TX10) (N := 29) hx hb hts bk1 tyX10 tyX10_ok nmX10 hown hK hP hD hS 0 (by decide) r_3 rfl 0 (by decide) (hts (.fieldLink RX10 78 "GradientDeskModel" "thrown" "I") (List.mem_of_getElem? (i := 5) rfl)) (fun _ h9 => h9) rfl (by decide +kernel) rfl rfl (Nat.le_of_ble_eq_true rfl) dX10_compare_22 (fun H locs g_67 f_68 fr_69 hP hS => ?_)
      have f_68 : g_67 0 = .inr (13, Rob ad (va_up x 0 (nI 1))) := f_68
      refine lv_aload_n hx hb dX10_compare_25 rfl (lv_at hl 0 rfl) ?_
      refine m_get (D := (dC, dI)) (v := .int (nI 1)) (C := RX10) (T := TX10) (N := 29) hx hb hts bk1 hown hK hP 0 (by decide) f_68 rfl 0 (by decide) (hts (.fieldLink RX10 78 "GradientDeskModel" "thrown" "I") (List.mem_of_getElem? (i := 5) rfl)) (fun _ h9 => h9) (congrArg (fun z => some (Value.int z)) (show (va_up x 0 (nI 1)) 0 = (nI 1) from rfl)) dX10_compare_26 ?_
      refine lv_if_le (tgt := 34) hx hb dX10_compare_29 (by decide) (fun c_70 => absurd c_70 (by decide)) (fun c_70 => ?_)
      refine lv_iconst (v := nI 0) hx hb dX10_compare_32 (by decide +kernel) ?_
      refine W.widen (k := 0) (n := 0) (by omega) (by omega) ?_
      exact W.iret (v := nI 0) hx hb hr (fun t9 ht9 hW9 => ⟨⟨nI 0, (g_67, va_up x 0 (nI 1)), rfl, ⟨RI.num hI0 (hF0.setx (fun (k : Nat) (hk : k = 1 ∨ k = 2 ∨ k = 3) => (fr_69 k (by omega)).trans (rfl)) f_68 rfl) (fun (k : Nat) (hk : (4 ≤ k ∧ k ≤ 11) ∨ k = 16) => (fr_69 k (by omega)).trans (rfl)) (hVO0.same (fun (k : Nat) (hk : 12 ≤ k ∧ k ≤ 19) => (fr_69 k (by omega)).trans (rfl))) (va_up_ne _ _ (by decide)) (va_up_ne _ _ (by decide)) (va_up_ne _ _ (by decide)) (fun _ _ => ⟨rfl, rfl⟩) hBd, (va_up_ne _ _ (by decide)), Or.inr (Or.inl (va_up_self _ _ _))⟩, by show va_P (dC, dI) vwCl _ t9.heap; rw [ht9]; exact hP⟩, hS.F ht9⟩) hS.2.2 dX10_compare_33
  · skip
    refine lv_if_ne (tgt := 17) hx hb dX10_compare_6 (by decide) (fun c_71 => ?_) (fun c_71 => absurd c_71 (by decide))
    refine lv_iconst (v := nI 1) hx hb dX10_compare_17 (by decide +kernel) ?_
    refine lv_goto (tgt := 22) hx hb dX10_compare_18 (by decide) ?_
    refine m_put (D := (dC, dI)) (v := .int (nI 1)) (tv := .int) (C := RX10) (T := TX10) (N := 29) hx hb hts bk1 tyX10 tyX10_ok nmX10 hown hK hP hD hS 0 (by decide) r_3 rfl 0 (by decide) (hts (.fieldLink RX10 78 "GradientDeskModel" "thrown" "I") (List.mem_of_getElem? (i := 5) rfl)) (fun _ h9 => h9) rfl (by decide +kernel) rfl rfl (Nat.le_of_ble_eq_true rfl) dX10_compare_22 (fun H locs g_72 f_73 fr_74 hP hS => ?_)
    have f_73 : g_72 0 = .inr (13, Rob ad (va_up x 0 (nI 1))) := f_73
    refine lv_aload_n hx hb dX10_compare_25 rfl (lv_at hl 0 rfl) ?_
    refine m_get (D := (dC, dI)) (v := .int (nI 1)) (C := RX10) (T := TX10) (N := 29) hx hb hts bk1 hown hK hP 0 (by decide) f_73 rfl 0 (by decide) (hts (.fieldLink RX10 78 "GradientDeskModel" "thrown" "I") (List.mem_of_getElem? (i := 5) rfl)) (fun _ h9 => h9) (congrArg (fun z => some (Value.int z)) (show (va_up x 0 (nI 1)) 0 = (nI 1) from rfl)) dX10_compare_26 ?_
    refine lv_if_le (tgt := 34) hx hb dX10_compare_29 (by decide) (fun c_75 => absurd c_75 (by decide)) (fun c_75 => ?_)
    refine lv_iconst (v := nI 0) hx hb dX10_compare_32 (by decide +kernel) ?_
    refine W.widen (k := 0) (n := 0) (by omega) (by omega) ?_
    exact W.iret (v := nI 0) hx hb hr (fun t9 ht9 hW9 => ⟨⟨nI 0, (g_72, va_up x 0 (nI 1)), rfl, ⟨RI.num hI0 (hF0.setx (fun (k : Nat) (hk : k = 1 ∨ k = 2 ∨ k = 3) => (fr_74 k (by omega)).trans (rfl)) f_73 rfl) (fun (k : Nat) (hk : (4 ≤ k ∧ k ≤ 11) ∨ k = 16) => (fr_74 k (by omega)).trans (rfl)) (hVO0.same (fun (k : Nat) (hk : 12 ≤ k ∧ k ≤ 19) => (fr_74 k (by omega)).trans (rfl))) (va_up_ne _ _ (by decide)) (va_up_ne _ _ (by decide)) (va_up_ne _ _ (by decide)) (fun _ _ => ⟨rfl, rfl⟩) hBd, (va_up_ne _ _ (by decide)), Or.inr (Or.inl (va_up_self _ _ _))⟩, by show va_P (dC, dI) vwCl _ t9.heap; rw [ht9]; exact hP⟩, hS.F ht9⟩) hS.2.2 dX10_compare_33
