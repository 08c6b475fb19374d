def wd_X10_reduce : List Cond := .code yX10_reduce cX10_reduce 2 none :: (([.fieldLink RX10 14 "GradientDeskModel" "length" "[I", .methodLink RX10 124 yX10_divisor, .instanceMethod yX10_divisor, .selects RX10 yX10_divisor yX10_divisor, .initialized RX10, .methodLink RX10 127 yX10_divideByG, .instanceMethod yX10_divideByG, .selects RX10 yX10_divideByG yX10_divideByG, .methodLink RX10 87 yX10_piece, .instanceMethod yX10_piece, .selects RX10 yX10_piece yX10_piece, .methodLink RX10 74 yX10_assign, .instanceMethod yX10_assign, .selects RX10 yX10_assign yX10_assign] : List Cond) ++ (u_ws RX10 TX10 29 ++ (wd_X10_divisor ++ (wd_X10_divideByG ++ (wd_X10_piece ++ (wd_X10_assign ++ ([])))))))
theorem gw_X10_reduce : wd_X10_reduce.all goodWord = true := k_allc rfl (k_all (by decide +kernel) (k_all (gu_X10) (k_all (gw_X10_divisor) (k_all (gw_X10_divideByG) (k_all (gw_X10_piece) (k_all (gw_X10_assign) (rfl)))))))
set_option maxHeartbeats 4000000 in
set_option maxRecDepth 100000 in
theorem c_X10_reduce (l : Launch) (dC : Nat → ClassId) (dI : Nat → Nat → Nat) (A : Nat → Prop) (ad : Nat → Nat) (cA : Nat → ClassId) (g : Nat → va_E) (x : Nat → Int32) (vf : Nat → Int) (f : Nat) (q9 : Nat) (hV : RV ad cA g x vf) (hf : f < 1030) (hq9 : vf (2 * f + 1) = (q9 : Int)) (hq0 : 0 < q9) (hq8 : q9 * 2 < 4294967296 ^ 80) : Met l yX10_reduce wd_X10_reduce ({ frames := 50, cells := 0, slots := 0, locals := 1000 }) (va_Pc [.ref (ad 0), .int (nI f)] (PR NSr tyr dC dI A ad cA g)) (va_Qv (fun (u : (Nat → va_E) × (Nat → Int)) => match u with | (g2, vf2) => (∀ k, k ≠ 1 ∧ k ≠ 2 ∧ k ≠ 3 → g2 k = g k) ∧ RV ad cA g2 x vf2 ∧ vf2 (2 * f) = rdp (vf (2 * f)) q9 ∧ vf2 (2 * f + 1) = (rdq (vf (2 * f)) q9 : Int) ∧ (∀ j, j < 2060 → j ≠ 2 * f → j ≠ 2 * f + 1 → vf2 j = vf j)) (fun (u : (Nat → va_E) × (Nat → Int)) (t : State) => va_P (dC, dI) vwCl (wo ad NSr u.1) t.heap) A) (0) (0) A := by
  refine Met.ofW (cc := cX10_reduce) (maxL := 2) (ret := none) (by decide) rfl ?_
  intro p e s m args below meth c s₁ B hml hv
  obtain ⟨rfl, hA, hP, hL⟩ := hv
  have hx := B.exec
  have hb := B.bytes
  have hr := B.returns
  have hts := atoms_spec (ws := wd_X10_reduce) B.pre
  have hown : s.vm.findClass RX10 = some m.cls := findClass_of_methodNamed B.named
  have hlocks := B.notSynchronized
  have hK := hL.1
  have hD : ∀ g, va_D A (wo ad NSr g) := fun g => wo_D hL.2.1 hL.2.2 g
  have hS : va_S A s.heap s.heap [] := va_S.rf
  have bk0 : ∀ w ∈ u_ws RX10 TX10 29, w ∈ wd_X10_reduce := fun _ h => List.mem_cons_of_mem _ (List.mem_append_right _ (List.mem_append_left _ h))
  have bk1 : ∀ w ∈ wd_X10_divisor, w ∈ wd_X10_reduce := fun _ h => List.mem_cons_of_mem _ (List.mem_append_right _ (List.mem_append_right _ (List.mem_append_left _ h)))
  have bk2 : ∀ w ∈ wd_X10_divideByG, w ∈ wd_X10_reduce := fun _ h => List.mem_cons_of_mem _ (List.mem_append_right _ (List.mem_append_right _ (List.mem_append_right _ (List.mem_append_left _ h))))
  have bk3 : ∀ w ∈ wd_X10_piece, w ∈ wd_X10_reduce := fun _ h => List.mem_cons_of_mem _ (List.mem_append_right _ (List.mem_append_right _ (List.mem_append_right _ (List.mem_append_right _ (List.mem_append_left _ h)))))
  have bk4 : ∀ w ∈ wd_X10_assign, w ∈ wd_X10_reduce := fun _ h => List.mem_cons_of_mem _ (List.mem_append_right _ (List.mem_append_right _ (List.mem_append_right _ (List.mem_append_right _ (List.mem_append_right _ (List.mem_append_left _ h))))))
  have hl := lv_entry ([.ref (ad 0), .int (nI f)]) (n := 2) (Nat.le_of_ble_eq_true rfl)
  rw [lg_entry_eq]
  generalize (lg_sl ([.ref (ad 0), .int (nI f)]) ++ List.replicate (2 - (lg_sl ([.ref (ad 0), .int (nI f)])).length) Slot.unset).toArray = ls at hl ⊢
  have hl : lv_has ls 2 [(0, .ref (ad 0)), (1, .int (nI f))] := hl
  have hc_1 := hV
  obtain ⟨pnz_2, lnz_2, bnz_2, hRz_2, hvz_2⟩ := hc_1
  obtain ⟨r_3, r_4, r_5, r_6, r_7, r_8, r_9⟩ := hRz_2
  have hz0 := (hvz_2 (2 * f) (by omega)).zero
  have hl0 := r_8 (2 * f)
  refine lv_aload_n hx hb dX10_reduce_0 rfl (lv_at hl 0 rfl) ?_
  refine m_get (D := (dC, dI)) (v := .ref (ad 2)) (C := RX10) (T := TX10) (N := 29) hx hb hts bk0 hown hK hP 0 (by decide) r_3 rfl 2 (by decide) (hts (.fieldLink RX10 14 "GradientDeskModel" "length" "[I") (List.mem_of_getElem? (i := 1) rfl)) (fun _ h9 => h9) rfl dX10_reduce_1 ?_
  refine lv_iconst (v := nI 2) hx hb dX10_reduce_4 (by decide +kernel) ?_
  refine lv_iload_n hx hb dX10_reduce_5 rfl (lv_at hl 1 rfl) ?_
  refine lv_imul hx hb dX10_reduce_6 ?_
  refine lv_topi (fun x_10 e_11 => ?_)
  obtain rfl : x_10 = nI (2 * f) := e_11.trans (pk_mul 2 f)
  refine m_iald hx hb hK hP 2 (by decide) rfl r_5 (i := 2 * f) (by omega) (by decide) dX10_reduce_7 ?_
  have b_12 := r_8 (2 * f)
  refine lv_if_ne (tgt := 22) hx hb dX10_reduce_8 (by decide) (fun c_13 => ?_) (fun c_13 => ?_)
  · have c_13 := mt (nI_eq (a := (lnz_2 (2 * f))) (b := 0) (by omega) (by decide)).mpr c_13
    refine lv_aload_n hx hb dX10_reduce_22 rfl (lv_at hl 0 rfl) ?_
    refine lv_iconst (v := nI 2) hx hb dX10_reduce_23 (by decide +kernel) ?_
    refine lv_iload_n hx hb dX10_reduce_24 rfl (lv_at hl 1 rfl) ?_
    refine lv_imul hx hb dX10_reduce_25 ?_
    refine lv_topi (fun x_14 e_15 => ?_)
    obtain rfl : x_14 = nI (2 * f) := e_15.trans (pk_mul 2 f)
    refine lv_iconst (v := nI 2) hx hb dX10_reduce_26 (by decide +kernel) ?_
    refine lv_iload_n hx hb dX10_reduce_27 rfl (lv_at hl 1 rfl) ?_
    refine lv_imul hx hb dX10_reduce_28 ?_
    refine lv_topi (fun x_16 e_17 => ?_)
    obtain rfl : x_16 = nI (2 * f) := e_17.trans (pk_mul 2 f)
    refine lv_iconst (v := nI 1) hx hb dX10_reduce_29 (by decide +kernel) ?_
    refine lv_iadd hx hb dX10_reduce_30 ?_
    refine lv_topi (fun x_18 e_19 => ?_)
    obtain rfl : x_18 = nI (2 * f + 1) := e_19.trans (nI_add (2 * f) 1)
    have hvn : vf (2 * f) ≠ 0 := fun h9 => absurd (hz0.mpr h9) (by omega)
    refine va_callv (va_runV (As := [.int (nI (2 * f)), .int (nI (2 * f + 1))]) (rest := []) ⟨hx, hb, hml, hown, hts⟩ (c_X10_divisor l dC dI A ad cA g x vf (2 * f) (2 * f + 1) hV (by omega) (by omega) hvn (by omega)) (cwV 2 hts (goodIn_app (goodIn_r [Cond.methodLink RX10 124 yX10_divisor, Cond.instanceMethod yX10_divisor, Cond.selects RX10 yX10_divisor yX10_divisor, Cond.initialized RX10] [2, 3, 4, 5] rfl rfl) (goodIn_sub (fun w9 h9 => bk1 w9 h9) gw_X10_divisor)) rfl rfl rfl (by decide +kernel) ⟨Nat.le_of_ble_eq_true rfl, Nat.le_of_ble_eq_true rfl⟩) ⟨fun a U g mk q => ⟨q.1, q.2.1, q.2.2.1, LY.moved (u := U) (U := U.calling g mk a) (Vm.Alike.refl U.vm) q.2.2.2⟩, va_recv hK hP (ci := 13) (q0 := 0) rfl (wo_at (by decide) r_3), fun U hU hW => ⟨rfl, by rw [hU]; exact fun q h => hA q (Nat.le_trans hS.1 h), by rw [hU]; exact hP, LY.moved hW.alike hL⟩⟩ rfl rfl hl.1 rfl (lv_room (Nat.le_of_ble_eq_true rfl)) dX10_reduce_31 ⟨(Nat.le_of_ble_eq_true rfl), (Nat.le_of_ble_eq_true rfl)⟩) hS (fun q _ h => h) (fun q h => h) (fun u8 t8 H1 locs ht8 hvm8 hw_20 hB hz1 hk1 hS => ?_)
    obtain ⟨g_21, vf2_22⟩ := u8
    try dsimp only at hw_20 hB
    rw [ht8] at hB
    have hP := hB
    generalize H1 = H at hP hS ⊢
    obtain ⟨fr_23, hVd, hGd, hOd⟩ := hw_20
    obtain ⟨D9, hD9⟩ : ∃ z, z = Nat.gcd (vf (2 * f)).natAbs q9 := ⟨_, rfl⟩
    rw [show (vf (2 * f + 1)).natAbs = q9 from by omega, ← hD9] at hGd
    have hDp : 0 < D9 := by rw [hD9]; exact Nat.gcd_pos_of_pos_right _ hq0
    have hDl : D9 ≤ q9 := by rw [hD9]; exact Nat.gcd_le_right _ hq0
    have hd1 : D9 ∣ (vf (2 * f)).natAbs := by rw [hD9]; exact Nat.gcd_dvd_left _ _
    have hd2 : D9 ∣ q9 := by rw [hD9]; exact Nat.gcd_dvd_right _ _
    have hc_24 := hVd
    obtain ⟨pnz_25, lnz_25, bnz_25, hRz_25, hvz_25⟩ := hc_24
    obtain ⟨r_26, r_27, r_28, r_29, r_30, r_31, r_32⟩ := hRz_25
    have hvG := hvz_25 2060 (by decide)
    have lG := hvG.1
    refine lv_aload_n hx hb dX10_reduce_34 rfl (lv_at hl 0 rfl) ?_
    refine m_get (D := (dC, dI)) (v := .ref (ad 2)) (C := RX10) (T := TX10) (N := 29) hx hb hts bk0 hown hK hP 0 (by decide) r_26 rfl 2 (by decide) (hts (.fieldLink RX10 14 "GradientDeskModel" "length" "[I") (List.mem_of_getElem? (i := 1) rfl)) (fun _ h9 => h9) rfl dX10_reduce_35 ?_
    refine lv_sipush (v := nI 2060) hx hb dX10_reduce_38 (by decide +kernel) ?_
    refine m_iald hx hb hK hP 2 (by decide) rfl r_28 (i := 2060) (by decide) (by decide) dX10_reduce_41 ?_
    have b_33 := r_31 2060
    refine lv_iconst (v := nI 1) hx hb dX10_reduce_42 (by decide +kernel) ?_
    refine lv_icmp_gt (tgt := 59) hx hb dX10_reduce_43 (by decide) (fun c_34 => ?_) (fun c_34 => ?_)
    · have c_34 := (nI_ltI (a := 1) (b := (lnz_25 2060)) (by decide) (by omega)).mp c_34
      refine lv_aload_n hx hb dX10_reduce_59 rfl (lv_at hl 0 rfl) ?_
      refine lv_iconst (v := nI 2) hx hb dX10_reduce_60 (by decide +kernel) ?_
      refine lv_iload_n hx hb dX10_reduce_61 rfl (lv_at hl 1 rfl) ?_
      refine lv_imul hx hb dX10_reduce_62 ?_
      refine lv_topi (fun x_35 e_36 => ?_)
      obtain rfl : x_35 = nI (2 * f) := e_36.trans (pk_mul 2 f)
      refine va_callv (va_runV (As := [.int (nI (2 * f))]) (rest := []) ⟨hx, hb, hml, hown, hts⟩ (c_X10_divideByG l dC dI A ad cA g_21 x vf2_22 (2 * f) D9 hVd (by omega) hGd hDp (by rw [hOd _ (by omega) (by omega)]; exact hd1) (by omega)) (cwV 1 hts (goodIn_app (goodIn_r [Cond.methodLink RX10 127 yX10_divideByG, Cond.instanceMethod yX10_divideByG, Cond.selects RX10 yX10_divideByG yX10_divideByG, Cond.initialized RX10] [6, 7, 8, 5] rfl rfl) (goodIn_sub (fun w9 h9 => bk2 w9 h9) gw_X10_divideByG)) rfl rfl rfl (by decide +kernel) ⟨Nat.le_of_ble_eq_true rfl, Nat.le_of_ble_eq_true rfl⟩) ⟨fun a U g mk q => ⟨q.1, q.2.1, q.2.2.1, LY.moved (u := U) (U := U.calling g mk a) (Vm.Alike.refl U.vm) q.2.2.2⟩, va_recv hK hP (ci := 13) (q0 := 0) rfl (wo_at (by decide) r_26), fun U hU hW => ⟨rfl, by rw [hU]; exact fun q h => hA q (Nat.le_trans hS.1 h), by rw [hU]; exact hP, LY.moved hW.alike hL⟩⟩ rfl rfl hl.1 rfl (lv_room (Nat.le_of_ble_eq_true rfl)) dX10_reduce_63 ⟨(Nat.le_of_ble_eq_true rfl), (Nat.le_of_ble_eq_true rfl)⟩) hS (fun q _ h => h) (fun q h => h) (fun u8 t8 H1 locs ht8 hvm8 hw_38 hB hz1 hk1 hS => ?_)
      obtain ⟨g_39, vf2_40⟩ := u8
      try dsimp only at hw_38 hB
      rw [ht8] at hB
      have hP := hB
      generalize H1 = H at hP hS ⊢
      obtain ⟨fr_41, hVe, hUe, hOe⟩ := hw_38
      refine lv_aload_n hx hb dX10_reduce_66 rfl (lv_at hl 0 rfl) ?_
      refine lv_iconst (v := nI 2) hx hb dX10_reduce_67 (by decide +kernel) ?_
      refine lv_iload_n hx hb dX10_reduce_68 rfl (lv_at hl 1 rfl) ?_
      refine lv_imul hx hb dX10_reduce_69 ?_
      refine lv_topi (fun x_42 e_43 => ?_)
      obtain rfl : x_42 = nI (2 * f) := e_43.trans (pk_mul 2 f)
      refine lv_iconst (v := nI 1) hx hb dX10_reduce_70 (by decide +kernel) ?_
      refine lv_iadd hx hb dX10_reduce_71 ?_
      refine lv_topi (fun x_44 e_45 => ?_)
      obtain rfl : x_44 = nI (2 * f + 1) := e_45.trans (nI_add (2 * f) 1)
      have f_47 : g_39 0 = .inr (13, Rob ad x) := (fr_41 0 (by omega)).trans r_26
      refine va_callv (va_runV (As := [.int (nI (2 * f + 1))]) (rest := []) ⟨hx, hb, hml, hown, hts⟩ (c_X10_divideByG l dC dI A ad cA g_39 x vf2_40 (2 * f + 1) D9 hVe (by omega) (by rw [hOe _ (by omega) (by decide) (by decide)]; exact hGd) hDp (by rw [hOe _ (by omega) (by omega) (by omega), hOd _ (by omega) (by omega), hq9]; exact hd2) (by omega)) (cwV 1 hts (goodIn_app (goodIn_r [Cond.methodLink RX10 127 yX10_divideByG, Cond.instanceMethod yX10_divideByG, Cond.selects RX10 yX10_divideByG yX10_divideByG, Cond.initialized RX10] [6, 7, 8, 5] rfl rfl) (goodIn_sub (fun w9 h9 => bk2 w9 h9) gw_X10_divideByG)) rfl rfl rfl (by decide +kernel) ⟨Nat.le_of_ble_eq_true rfl, Nat.le_of_ble_eq_true rfl⟩) ⟨fun a U g mk q => ⟨q.1, q.2.1, q.2.2.1, LY.moved (u := U) (U := U.calling g mk a) (Vm.Alike.refl U.vm) q.2.2.2⟩, va_recv hK hP (ci := 13) (q0 := 0) rfl (wo_at (by decide) f_47), fun U hU hW => ⟨rfl, by rw [hU]; exact fun q h => hA q (Nat.le_trans hS.1 h), by rw [hU]; exact hP, LY.moved hW.alike hL⟩⟩ rfl rfl hl.1 rfl (lv_room (Nat.le_of_ble_eq_true rfl)) dX10_reduce_72 ⟨(Nat.le_of_ble_eq_true rfl), (Nat.le_of_ble_eq_true rfl)⟩) hS (fun q _ h => h) (fun q h => h) (fun u8 t8 H1 locs ht8 hvm8 hw_48 hB hz1 hk1 hS => ?_)
      obtain ⟨g_49, vf2_50⟩ := u8
      try dsimp only at hw_48 hB
      rw [ht8] at hB
      have hP := hB
      generalize H1 = H at hP hS ⊢
      obtain ⟨fr_51, hVk, hUk, hOk⟩ := hw_48
      refine W.widen (k := 0) (n := 0) (by omega) (by omega) ?_
      exact W.vret hx hb hr (fun t9 ht9 hW9 => ⟨⟨(g_49, vf2_50), rfl, ⟨(fun (k : Nat) (hk : k ≠ 1 ∧ k ≠ 2 ∧ k ≠ 3) => (fr_51 k (by omega)).trans ((fr_41 k (by omega)).trans ((fr_23 k (by omega)).trans (rfl)))), hVk, by rw [hOk _ (by omega) (by omega) (by omega), hUe, hOd _ (by omega) (by omega), hD9]; rfl, by rw [hUk, hOe _ (by omega) (by omega) (by omega), hOd _ (by omega) (by omega), hq9, hD9]; rfl, fun j h1 h2 h3 => by rw [hOk j h3 (by omega) (by omega), hOe j h2 (by omega) (by omega), hOd j (by omega) (by omega)]⟩, by show va_P (dC, dI) vwCl _ t9.heap; rw [ht9]; exact hP⟩, hS.F ht9⟩) hS.2.2 dX10_reduce_75
    · have c_34 := mt (nI_ltI (a := 1) (b := (lnz_25 2060)) (by decide) (by omega)).mpr c_34
      refine lv_aload_n hx hb dX10_reduce_46 rfl (lv_at hl 0 rfl) ?_
      refine lv_sipush (v := nI 2060) hx hb dX10_reduce_47 (by decide +kernel) ?_
      refine lv_iconst (v := nI 0) hx hb dX10_reduce_50 (by decide +kernel) ?_
      have hR_52 : RN ad cA g_21 x pnz_25 lnz_25 bnz_25 := ⟨r_26, r_27, r_28, r_29, r_30, r_31, r_32⟩
      refine va_calll (va_runV (As := [.int (nI 2060), .int (nI 0)]) (rest := []) ⟨hx, hb, hml, hown, hts⟩ (c_X10_piece l dC dI A ad cA g_21 x pnz_25 lnz_25 bnz_25 2060 0 hR_52 (by omega) lG (by omega)) (cwV 2 hts (goodIn_app (goodIn_r [Cond.methodLink RX10 87 yX10_piece, Cond.instanceMethod yX10_piece, Cond.selects RX10 yX10_piece yX10_piece, Cond.initialized RX10] [9, 10, 11, 5] rfl rfl) (goodIn_sub (fun w9 h9 => bk3 w9 h9) gw_X10_piece)) rfl rfl rfl (by decide +kernel) ⟨Nat.le_of_ble_eq_true rfl, Nat.le_of_ble_eq_true rfl⟩) ⟨fun a U g mk q => ⟨q.1, q.2.1, q.2.2.1, LY.moved (u := U) (U := U.calling g mk a) (Vm.Alike.refl U.vm) q.2.2.2⟩, va_recv hK hP (ci := 13) (q0 := 0) rfl (wo_at (by decide) r_26), fun U hU hW => ⟨rfl, by rw [hU]; exact fun q h => hA q (Nat.le_trans hS.1 h), by rw [hU]; exact hP, LY.moved hW.alike hL⟩⟩ rfl rfl hl.1 rfl (lv_room (Nat.le_of_ble_eq_true rfl)) dX10_reduce_51 ⟨(Nat.le_of_ble_eq_true rfl), (Nat.le_of_ble_eq_true rfl)⟩) hS (fun q _ h => h) (fun q h => h) (fun r_53 u8 t8 H1 locs ht8 hvm8 hw_54 hB hz1 hk1 hS => ?_)
      obtain ⟨⟩ := u8
      try dsimp only at hw_54 hB
      rw [ht8] at hB
      have hP := hB
      generalize H1 = H at hP hS ⊢
      obtain rfl := hw_54
      rw [show pc9 pnz_25 lnz_25 2060 0 = dgt D9 0 from (by rw [hvG.pc 0, hGd]; congr 1)]
      obtain ⟨n_55, hn_55⟩ : ∃ z, z = dgt D9 0 := ⟨_, rfl⟩
      rw [← hn_55]
      have bn_55 : n_55 < 4294967296 := by rw [hn_55]; exact dgt_lt _ _
      refine lv_lconst (v := lN 1) hx hb dX10_reduce_54 (by decide +kernel) ?_
      refine W.lcmp hx hb dX10_reduce_55 ?_
      refine lv_if_eq (tgt := 75) hx hb dX10_reduce_56 (by decide) (fun c_56 => ?_) (fun c_56 => ?_)
      · have c_56 := (pk_lEQ (a := n_55) (b := 1) (by omega) (by decide)).mp ((k_cmp_eq (lN n_55) (lN 1)).mp c_56)
        have hD1 : D9 = 1 := by have h9 : D9 < 4294967296 := k_one hvG hGd (by omega); rw [dgt_0] at hn_55; omega
        rw [hD1] at hD9
        obtain ⟨ho1, ho2⟩ := rd_one hD9.symm
        refine W.widen (k := 0) (n := 0) (by omega) (by omega) ?_
        exact W.vret hx hb hr (fun t9 ht9 hW9 => ⟨⟨(g_21, vf2_22), rfl, ⟨(fun (k : Nat) (hk : k ≠ 1 ∧ k ≠ 2 ∧ k ≠ 3) => (fr_23 k (by omega)).trans (rfl)), hVd, by rw [hOd _ (by omega) (by omega), ho1], by rw [hOd _ (by omega) (by omega), hq9, ho2], fun j h1 h2 h3 => hOd j (by omega) (by omega)⟩, by show va_P (dC, dI) vwCl _ t9.heap; rw [ht9]; exact hP⟩, hS.F ht9⟩) hS.2.2 dX10_reduce_75
      · have c_56 := mt (pk_lEQ (a := n_55) (b := 1) (by omega) (by decide)).mpr (mt (k_cmp_eq (lN n_55) (lN 1)).mpr c_56)
        refine lv_aload_n hx hb dX10_reduce_59 rfl (lv_at hl 0 rfl) ?_
        refine lv_iconst (v := nI 2) hx hb dX10_reduce_60 (by decide +kernel) ?_
        refine lv_iload_n hx hb dX10_reduce_61 rfl (lv_at hl 1 rfl) ?_
        refine lv_imul hx hb dX10_reduce_62 ?_
        refine lv_topi (fun x_57 e_58 => ?_)
        obtain rfl : x_57 = nI (2 * f) := e_58.trans (pk_mul 2 f)
        refine va_callv (va_runV (As := [.int (nI (2 * f))]) (rest := []) ⟨hx, hb, hml, hown, hts⟩ (c_X10_divideByG l dC dI A ad cA g_21 x vf2_22 (2 * f) D9 hVd (by omega) hGd hDp (by rw [hOd _ (by omega) (by omega)]; exact hd1) (by omega)) (cwV 1 hts (goodIn_app (goodIn_r [Cond.methodLink RX10 127 yX10_divideByG, Cond.instanceMethod yX10_divideByG, Cond.selects RX10 yX10_divideByG yX10_divideByG, Cond.initialized RX10] [6, 7, 8, 5] rfl rfl) (goodIn_sub (fun w9 h9 => bk2 w9 h9) gw_X10_divideByG)) rfl rfl rfl (by decide +kernel) ⟨Nat.le_of_ble_eq_true rfl, Nat.le_of_ble_eq_true rfl⟩) ⟨fun a U g mk q => ⟨q.1, q.2.1, q.2.2.1, LY.moved (u := U) (U := U.calling g mk a) (Vm.Alike.refl U.vm) q.2.2.2⟩, va_recv hK hP (ci := 13) (q0 := 0) rfl (wo_at (by decide) r_26), fun U hU hW => ⟨rfl, by rw [hU]; exact fun q h => hA q (Nat.le_trans hS.1 h), by rw [hU]; exact hP, LY.moved hW.alike hL⟩⟩ rfl rfl hl.1 rfl (lv_room (Nat.le_of_ble_eq_true rfl)) dX10_reduce_63 ⟨(Nat.le_of_ble_eq_true rfl), (Nat.le_of_ble_eq_true rfl)⟩) hS (fun q _ h => h) (fun q h => h) (fun u8 t8 H1 locs ht8 hvm8 hw_60 hB hz1 hk1 hS => ?_)
        obtain ⟨g_61, vf2_62⟩ := u8
        try dsimp only at hw_60 hB
        rw [ht8] at hB
        have hP := hB
        generalize H1 = H at hP hS ⊢
        obtain ⟨fr_63, hVe, hUe, hOe⟩ := hw_60
        refine lv_aload_n hx hb dX10_reduce_66 rfl (lv_at hl 0 rfl) ?_
        refine lv_iconst (v := nI 2) hx hb dX10_reduce_67 (by decide +kernel) ?_
        refine lv_iload_n hx hb dX10_reduce_68 rfl (lv_at hl 1 rfl) ?_
        refine lv_imul hx hb dX10_reduce_69 ?_
        refine lv_topi (fun x_64 e_65 => ?_)
        obtain rfl : x_64 = nI (2 * f) := e_65.trans (pk_mul 2 f)
        refine lv_iconst (v := nI 1) hx hb dX10_reduce_70 (by decide +kernel) ?_
        refine lv_iadd hx hb dX10_reduce_71 ?_
        refine lv_topi (fun x_66 e_67 => ?_)
        obtain rfl : x_66 = nI (2 * f + 1) := e_67.trans (nI_add (2 * f) 1)
        have f_69 : g_61 0 = .inr (13, Rob ad x) := (fr_63 0 (by omega)).trans r_26
        refine va_callv (va_runV (As := [.int (nI (2 * f + 1))]) (rest := []) ⟨hx, hb, hml, hown, hts⟩ (c_X10_divideByG l dC dI A ad cA g_61 x vf2_62 (2 * f + 1) D9 hVe (by omega) (by rw [hOe _ (by omega) (by decide) (by decide)]; exact hGd) hDp (by rw [hOe _ (by omega) (by omega) (by omega), hOd _ (by omega) (by omega), hq9]; exact hd2) (by omega)) (cwV 1 hts (goodIn_app (goodIn_r [Cond.methodLink RX10 127 yX10_divideByG, Cond.instanceMethod yX10_divideByG, Cond.selects RX10 yX10_divideByG yX10_divideByG, Cond.initialized RX10] [6, 7, 8, 5] rfl rfl) (goodIn_sub (fun w9 h9 => bk2 w9 h9) gw_X10_divideByG)) rfl rfl rfl (by decide +kernel) ⟨Nat.le_of_ble_eq_true rfl, Nat.le_of_ble_eq_true rfl⟩) ⟨fun a U g mk q => ⟨q.1, q.2.1, q.2.2.1, LY.moved (u := U) (U := U.calling g mk a) (Vm.Alike.refl U.vm) q.2.2.2⟩, va_recv hK hP (ci := 13) (q0 := 0) rfl (wo_at (by decide) f_69), fun U hU hW => ⟨rfl, by rw [hU]; exact fun q h => hA q (Nat.le_trans hS.1 h), by rw [hU]; exact hP, LY.moved hW.alike hL⟩⟩ rfl rfl hl.1 rfl (lv_room (Nat.le_of_ble_eq_true rfl)) dX10_reduce_72 ⟨(Nat.le_of_ble_eq_true rfl), (Nat.le_of_ble_eq_true rfl)⟩) hS (fun q _ h => h) (fun q h => h) (fun u8 t8 H1 locs ht8 hvm8 hw_70 hB hz1 hk1 hS => ?_)
        obtain ⟨g_71, vf2_72⟩ := u8
        try dsimp only at hw_70 hB
        rw [ht8] at hB
        have hP := hB
        generalize H1 = H at hP hS ⊢
        obtain ⟨fr_73, hVk, hUk, hOk⟩ := hw_70
        refine W.widen (k := 0) (n := 0) (by omega) (by omega) ?_
        exact W.vret hx hb hr (fun t9 ht9 hW9 => ⟨⟨(g_71, vf2_72), rfl, ⟨(fun (k : Nat) (hk : k ≠ 1 ∧ k ≠ 2 ∧ k ≠ 3) => (fr_73 k (by omega)).trans ((fr_63 k (by omega)).trans ((fr_23 k (by omega)).trans (rfl)))), hVk, by rw [hOk _ (by omega) (by omega) (by omega), hUe, hOd _ (by omega) (by omega), hD9]; rfl, by rw [hUk, hOe _ (by omega) (by omega) (by omega), hOd _ (by omega) (by omega), hq9, hD9]; rfl, fun j h1 h2 h3 => by rw [hOk j h3 (by omega) (by omega), hOe j h2 (by omega) (by omega), hOd j (by omega) (by omega)]⟩, by show va_P (dC, dI) vwCl _ t9.heap; rw [ht9]; exact hP⟩, hS.F ht9⟩) hS.2.2 dX10_reduce_75
  · have c_13 := (nI_eq (a := (lnz_2 (2 * f))) (b := 0) (by omega) (by decide)).mp c_13
    refine lv_aload_n hx hb dX10_reduce_11 rfl (lv_at hl 0 rfl) ?_
    refine lv_iconst (v := nI 2) hx hb dX10_reduce_12 (by decide +kernel) ?_
    refine lv_iload_n hx hb dX10_reduce_13 rfl (lv_at hl 1 rfl) ?_
    refine lv_imul hx hb dX10_reduce_14 ?_
    refine lv_topi (fun x_74 e_75 => ?_)
    obtain rfl : x_74 = nI (2 * f) := e_75.trans (pk_mul 2 f)
    refine lv_iconst (v := nI 1) hx hb dX10_reduce_15 (by decide +kernel) ?_
    refine lv_iadd hx hb dX10_reduce_16 ?_
    refine lv_topi (fun x_76 e_77 => ?_)
    obtain rfl : x_76 = nI (2 * f + 1) := e_77.trans (nI_add (2 * f) 1)
    refine lv_lconst (v := lN 1) hx hb dX10_reduce_17 (by decide +kernel) ?_
    have hvz : vf (2 * f) = 0 := hz0.mp (by omega)
    refine va_callv (va_runV (As := [.int (nI (2 * f + 1)), .long (lN 1)]) (rest := []) ⟨hx, hb, hml, hown, hts⟩ (c_X10_assign l dC dI A ad cA g x vf (2 * f + 1) (lN 1) 1 hV (by omega) (by decide) (by decide)) (cwV 2 hts (goodIn_app (goodIn_r [Cond.methodLink RX10 74 yX10_assign, Cond.instanceMethod yX10_assign, Cond.selects RX10 yX10_assign yX10_assign, Cond.initialized RX10] [12, 13, 14, 5] rfl rfl) (goodIn_sub (fun w9 h9 => bk4 w9 h9) gw_X10_assign)) rfl rfl rfl (by decide +kernel) ⟨Nat.le_of_ble_eq_true rfl, Nat.le_of_ble_eq_true rfl⟩) ⟨fun a U g mk q => ⟨q.1, q.2.1, q.2.2.1, LY.moved (u := U) (U := U.calling g mk a) (Vm.Alike.refl U.vm) q.2.2.2⟩, va_recv hK hP (ci := 13) (q0 := 0) rfl (wo_at (by decide) r_3), fun U hU hW => ⟨rfl, by rw [hU]; exact fun q h => hA q (Nat.le_trans hS.1 h), by rw [hU]; exact hP, LY.moved hW.alike hL⟩⟩ rfl rfl hl.1 rfl (lv_room (Nat.le_of_ble_eq_true rfl)) dX10_reduce_18 ⟨(Nat.le_of_ble_eq_true rfl), (Nat.le_of_ble_eq_true rfl)⟩) hS (fun q _ h => h) (fun q h => h) (fun u8 t8 H1 locs ht8 hvm8 hw_79 hB hz1 hk1 hS => ?_)
    obtain ⟨g_80, rfl⟩ : ∃ z, z = u8 := ⟨_, rfl⟩
    try dsimp only at hw_79 hB
    rw [ht8] at hB
    have hP := hB
    generalize H1 = H at hP hS ⊢
    obtain ⟨fr_81, hV_78⟩ := hw_79
    obtain ⟨vf_82, evf_82⟩ : ∃ z9, z9 = va_up vf (2 * f + 1) (1) := ⟨_, rfl⟩
    rw [← evf_82] at hV_78
    have uvf_82 : vf_82 (2 * f + 1) = 1 := by rw [evf_82]; exact va_up_self _ _ _
    have ovf_82 : ∀ j, j ≠ 2 * f + 1 → vf_82 j = vf j := fun j hj => by rw [evf_82]; exact va_up_ne _ _ hj
    refine W.widen (k := 0) (n := 0) (by omega) (by omega) ?_
    exact W.vret hx hb hr (fun t9 ht9 hW9 => ⟨⟨(g_80, vf_82), rfl, ⟨(fun (k : Nat) (hk : k ≠ 1 ∧ k ≠ 2 ∧ k ≠ 3) => (fr_81 k (by omega)).trans (rfl)), hV_78, by rw [ovf_82 _ (by omega), hvz, (rd_zero hq0).1], by rw [uvf_82, hvz, (rd_zero hq0).2]; rfl, fun j h1 h2 h3 => ovf_82 j h3⟩, by show va_P (dC, dI) vwCl _ t9.heap; rw [ht9]; exact hP⟩, hS.F ht9⟩) hS.2.2 dX10_reduce_21
def wd_X10_copyFraction : List Cond := .code yX10_copyFraction cX10_copyFraction 3 none :: (([.methodLink RX10 92 yX10_copy, .instanceMethod yX10_copy, .selects RX10 yX10_copy yX10_copy, .initialized RX10] : List Cond) ++ (wd_X10_copy ++ ([])))
theorem gw_X10_copyFraction : wd_X10_copyFraction.all goodWord = true := k_allc rfl (k_all (by decide +kernel) (k_all (gw_X10_copy) (rfl)))
set_option maxHeartbeats 4000000 in
set_option maxRecDepth 100000 in
theorem c_X10_copyFraction (l : Launch) (dC : Nat → ClassId) (dI : Nat → Nat → Nat) (A : Nat → Prop) (ad : Nat → Nat) (cA : Nat → ClassId) (g : Nat → va_E) (x : Nat → Int32) (pf : Nat → Int) (qf : Nat → Nat) (t : Nat) (a : Nat) (hF : RF ad cA g x pf qf) (ht : t < 1030) (ia : a < 1030) : Met l yX10_copyFraction wd_X10_copyFraction ({ frames := 20, cells := 0, slots := 0, locals := 400 }) (va_Pc [.ref (ad 0), .int (nI t), .int (nI a)] (PR NSr tyr dC dI A ad cA g)) (va_Qv (fun (u : Nat → va_E) => match u with | g2 => (∀ k, k ≠ 1 ∧ k ≠ 2 ∧ k ≠ 3 → g2 k = g k) ∧ RF ad cA g2 x (va_up pf t (pf a)) (va_up qf t (qf a))) (fun (u : Nat → va_E) (t : State) => va_P (dC, dI) vwCl (wo ad NSr u) t.heap) A) (0) (0) A := by
  refine Met.ofW (cc := cX10_copyFraction) (maxL := 3) (ret := none) (by decide) rfl ?_
  intro p e s m args below meth c s₁ B hml hv
  obtain ⟨rfl, hA, hP, hL⟩ := hv
  have hx := B.exec
  have hb := B.bytes
  have hr := B.returns
  have hts := atoms_spec (ws := wd_X10_copyFraction) B.pre
  have hown : s.vm.findClass RX10 = some m.cls := findClass_of_methodNamed B.named
  have hlocks := B.notSynchronized
  have hK := hL.1
  have hD : ∀ g, va_D A (wo ad NSr g) := fun g => wo_D hL.2.1 hL.2.2 g
  have hS : va_S A s.heap s.heap [] := va_S.rf
  have bk0 : ∀ w ∈ wd_X10_copy, w ∈ wd_X10_copyFraction := fun _ h => List.mem_cons_of_mem _ (List.mem_append_right _ (List.mem_append_left _ h))
  have hl := lv_entry ([.ref (ad 0), .int (nI t), .int (nI a)]) (n := 3) (Nat.le_of_ble_eq_true rfl)
  rw [lg_entry_eq]
  generalize (lg_sl ([.ref (ad 0), .int (nI t), .int (nI a)]) ++ List.replicate (3 - (lg_sl ([.ref (ad 0), .int (nI t), .int (nI a)])).length) Slot.unset).toArray = ls at hl ⊢
  have hl : lv_has ls 3 [(0, .ref (ad 0)), (1, .int (nI t)), (2, .int (nI a))] := hl
  obtain ⟨vf, hV, hq⟩ := hF
  have hc_1 := hV
  obtain ⟨pnz_2, lnz_2, bnz_2, hRz_2, hvz_2⟩ := hc_1
  obtain ⟨r_3, r_4, r_5, r_6, r_7, r_8, r_9⟩ := hRz_2
  refine lv_aload_n hx hb dX10_copyFraction_0 rfl (lv_at hl 0 rfl) ?_
  refine lv_iconst (v := nI 2) hx hb dX10_copyFraction_1 (by decide +kernel) ?_
  refine lv_iload_n hx hb dX10_copyFraction_2 rfl (lv_at hl 1 rfl) ?_
  refine lv_imul hx hb dX10_copyFraction_3 ?_
  refine lv_topi (fun x_10 e_11 => ?_)
  obtain rfl : x_10 = nI (2 * t) := e_11.trans (pk_mul 2 t)
  refine lv_iconst (v := nI 2) hx hb dX10_copyFraction_4 (by decide +kernel) ?_
  refine lv_iload_n hx hb dX10_copyFraction_5 rfl (lv_at hl 2 rfl) ?_
  refine lv_imul hx hb dX10_copyFraction_6 ?_
  refine lv_topi (fun x_12 e_13 => ?_)
  obtain rfl : x_12 = nI (2 * a) := e_13.trans (pk_mul 2 a)
  have hc_14 := hV
  obtain ⟨pnz_15, lnz_15, bnz_15, hRz_15, hvz_15⟩ := hc_14
  obtain ⟨r_16, r_17, r_18, r_19, r_20, r_21, r_22⟩ := hRz_15
  have l80 := (hvz_15 (2 * a) (by omega)).1
  have hR_26 : RN ad cA g x pnz_15 lnz_15 bnz_15 := ⟨r_16, r_17, r_18, r_19, r_20, r_21, r_22⟩
  refine va_callv (va_runV (As := [.int (nI (2 * t)), .int (nI (2 * a))]) (rest := []) ⟨hx, hb, hml, hown, hts⟩ (c_X10_copy l dC dI A ad cA g x pnz_15 lnz_15 bnz_15 (2 * t) (2 * a) hR_26 (by omega) (by omega) l80) (cwV 2 hts (goodIn_app (goodIn_r [Cond.methodLink RX10 92 yX10_copy, Cond.instanceMethod yX10_copy, Cond.selects RX10 yX10_copy yX10_copy, Cond.initialized RX10] [1, 2, 3, 4] rfl rfl) (goodIn_sub (fun w9 h9 => bk0 w9 h9) gw_X10_copy)) rfl rfl rfl (by decide +kernel) ⟨Nat.le_of_ble_eq_true rfl, Nat.le_of_ble_eq_true rfl⟩) ⟨fun a U g mk q => ⟨q.1, q.2.1, q.2.2.1, LY.moved (u := U) (U := U.calling g mk a) (Vm.Alike.refl U.vm) q.2.2.2⟩, va_recv hK hP (ci := 13) (q0 := 0) rfl (wo_at (by decide) r_16), fun U hU hW => ⟨rfl, by rw [hU]; exact fun q h => hA q (Nat.le_trans hS.1 h), by rw [hU]; exact hP, LY.moved hW.alike hL⟩⟩ rfl rfl hl.1 rfl (lv_room (Nat.le_of_ble_eq_true rfl)) dX10_copyFraction_7 ⟨(Nat.le_of_ble_eq_true rfl), (Nat.le_of_ble_eq_true rfl)⟩) hS (fun q _ h => h) (fun q h => h) (fun u8 t8 H1 locs ht8 hvm8 hw_27 hB hz1 hk1 hS => ?_)
  obtain ⟨g_28, pn2_29⟩ := u8
  try dsimp only at hw_27 hB
  rw [ht8] at hB
  have hP := hB
  generalize H1 = H at hP hS ⊢
  obtain ⟨fr_30, hR_23, h_24, h_25⟩ := hw_27
  have hV_31 : RV ad cA g_28 x (va_up vf (2 * t) (vf (2 * a))) := RV.copy hR_23 hvz_15 (by omega) h_24 h_25
  obtain ⟨vf_32, evf_32⟩ : ∃ z9, z9 = va_up vf (2 * t) (vf (2 * a)) := ⟨_, rfl⟩
  rw [← evf_32] at hV_31
  have uvf_32 : vf_32 (2 * t) = vf (2 * a) := by rw [evf_32]; exact va_up_self _ _ _
  have ovf_32 : ∀ j, j ≠ 2 * t → vf_32 j = vf j := fun j hj => by rw [evf_32]; exact va_up_ne _ _ hj
  have hc_33 := hV_31
  obtain ⟨pnz_34, lnz_34, bnz_34, hRz_34, hvz_34⟩ := hc_33
  obtain ⟨r_35, r_36, r_37, r_38, r_39, r_40, r_41⟩ := hRz_34
  refine lv_aload_n hx hb dX10_copyFraction_10 rfl (lv_at hl 0 rfl) ?_
  refine lv_iconst (v := nI 2) hx hb dX10_copyFraction_11 (by decide +kernel) ?_
  refine lv_iload_n hx hb dX10_copyFraction_12 rfl (lv_at hl 1 rfl) ?_
  refine lv_imul hx hb dX10_copyFraction_13 ?_
  refine lv_topi (fun x_42 e_43 => ?_)
  obtain rfl : x_42 = nI (2 * t) := e_43.trans (pk_mul 2 t)
  refine lv_iconst (v := nI 1) hx hb dX10_copyFraction_14 (by decide +kernel) ?_
  refine lv_iadd hx hb dX10_copyFraction_15 ?_
  refine lv_topi (fun x_44 e_45 => ?_)
  obtain rfl : x_44 = nI (2 * t + 1) := e_45.trans (nI_add (2 * t) 1)
  refine lv_iconst (v := nI 2) hx hb dX10_copyFraction_16 (by decide +kernel) ?_
  refine lv_iload_n hx hb dX10_copyFraction_17 rfl (lv_at hl 2 rfl) ?_
  refine lv_imul hx hb dX10_copyFraction_18 ?_
  refine lv_topi (fun x_46 e_47 => ?_)
  obtain rfl : x_46 = nI (2 * a) := e_47.trans (pk_mul 2 a)
  refine lv_iconst (v := nI 1) hx hb dX10_copyFraction_19 (by decide +kernel) ?_
  refine lv_iadd hx hb dX10_copyFraction_20 ?_
  refine lv_topi (fun x_48 e_49 => ?_)
  obtain rfl : x_48 = nI (2 * a + 1) := e_49.trans (nI_add (2 * a) 1)
  have hc_50 := hV_31
  obtain ⟨pnz_51, lnz_51, bnz_51, hRz_51, hvz_51⟩ := hc_50
  obtain ⟨r_52, r_53, r_54, r_55, r_56, r_57, r_58⟩ := hRz_51
  have l80 := (hvz_51 (2 * a + 1) (by omega)).1
  have hR_62 : RN ad cA g_28 x pnz_51 lnz_51 bnz_51 := ⟨r_52, r_53, r_54, r_55, r_56, r_57, r_58⟩
  refine va_callv (va_runV (As := [.int (nI (2 * t + 1)), .int (nI (2 * a + 1))]) (rest := []) ⟨hx, hb, hml, hown, hts⟩ (c_X10_copy l dC dI A ad cA g_28 x pnz_51 lnz_51 bnz_51 (2 * t + 1) (2 * a + 1) hR_62 (by omega) (by omega) l80) (cwV 2 hts (goodIn_app (goodIn_r [Cond.methodLink RX10 92 yX10_copy, Cond.instanceMethod yX10_copy, Cond.selects RX10 yX10_copy yX10_copy, Cond.initialized RX10] [1, 2, 3, 4] rfl rfl) (goodIn_sub (fun w9 h9 => bk0 w9 h9) gw_X10_copy)) rfl rfl rfl (by decide +kernel) ⟨Nat.le_of_ble_eq_true rfl, Nat.le_of_ble_eq_true rfl⟩) ⟨fun a U g mk q => ⟨q.1, q.2.1, q.2.2.1, LY.moved (u := U) (U := U.calling g mk a) (Vm.Alike.refl U.vm) q.2.2.2⟩, va_recv hK hP (ci := 13) (q0 := 0) rfl (wo_at (by decide) r_52), fun U hU hW => ⟨rfl, by rw [hU]; exact fun q h => hA q (Nat.le_trans hS.1 h), by rw [hU]; exact hP, LY.moved hW.alike hL⟩⟩ rfl rfl hl.1 rfl (lv_room (Nat.le_of_ble_eq_true rfl)) dX10_copyFraction_21 ⟨(Nat.le_of_ble_eq_true rfl), (Nat.le_of_ble_eq_true rfl)⟩) hS (fun q _ h => h) (fun q h => h) (fun u8 t8 H1 locs ht8 hvm8 hw_63 hB hz1 hk1 hS => ?_)
  obtain ⟨g_64, pn2_65⟩ := u8
  try dsimp only at hw_63 hB
  rw [ht8] at hB
  have hP := hB
  generalize H1 = H at hP hS ⊢
  obtain ⟨fr_66, hR_59, h_60, h_61⟩ := hw_63
  have hV_67 : RV ad cA g_64 x (va_up vf_32 (2 * t + 1) (vf_32 (2 * a + 1))) := RV.copy hR_59 hvz_51 (by omega) h_60 h_61
  obtain ⟨vf_68, evf_68⟩ : ∃ z9, z9 = va_up vf_32 (2 * t + 1) (vf_32 (2 * a + 1)) := ⟨_, rfl⟩
  rw [← evf_68] at hV_67
  have uvf_68 : vf_68 (2 * t + 1) = vf_32 (2 * a + 1) := by rw [evf_68]; exact va_up_self _ _ _
  have ovf_68 : ∀ j, j ≠ 2 * t + 1 → vf_68 j = vf_32 j := fun j hj => by rw [evf_68]; exact va_up_ne _ _ hj
  have hc_69 := hV_67
  obtain ⟨pnz_70, lnz_70, bnz_70, hRz_70, hvz_70⟩ := hc_69
  obtain ⟨r_71, r_72, r_73, r_74, r_75, r_76, r_77⟩ := hRz_70
  obtain ⟨hqa1, hqa2, hqa3⟩ := hq a ia
  refine W.widen (k := 0) (n := 0) (by omega) (by omega) ?_
  exact W.vret hx hb hr (fun t9 ht9 hW9 => ⟨⟨g_64, rfl, ⟨(fun (k : Nat) (hk : k ≠ 1 ∧ k ≠ 2 ∧ k ≠ 3) => (fr_66 k (by omega)).trans ((fr_30 k (by omega)).trans (rfl))), RF.up hV_67 hq (fun f9 h1 h2 => ⟨by rw [ovf_68 _ (by omega), ovf_32 _ (by omega)], by rw [ovf_68 _ (by omega), ovf_32 _ (by omega)]⟩) (by rw [ovf_68 _ (by omega), uvf_32]; exact hqa1) (by rw [uvf_68, ovf_32 _ (by omega)]; exact hqa2) hqa3⟩, by show va_P (dC, dI) vwCl _ t9.heap; rw [ht9]; exact hP⟩, hS.F ht9⟩) hS.2.2 dX10_copyFraction_24
def wd_X10_setFraction : List Cond := .code yX10_setFraction cX10_setFraction 6 none :: (([.methodLink RX10 74 yX10_assign, .instanceMethod yX10_assign, .selects RX10 yX10_assign yX10_assign, .initialized RX10, .methodLink RX10 121 yX10_reduce, .instanceMethod yX10_reduce, .selects RX10 yX10_reduce yX10_reduce] : List Cond) ++ (wd_X10_assign ++ (wd_X10_reduce ++ ([]))))
theorem gw_X10_setFraction : wd_X10_setFraction.all goodWord = true := k_allc rfl (k_all (by decide +kernel) (k_all (gw_X10_assign) (k_all (gw_X10_reduce) (rfl))))
set_option maxHeartbeats 4000000 in
set_option maxRecDepth 100000 in
theorem c_X10_setFraction (l : Launch) (dC : Nat → ClassId) (dI : Nat → Nat → Nat) (A : Nat → Prop) (ad : Nat → Nat) (cA : Nat → ClassId) (g : Nat → va_E) (x : Nat → Int32) (pf : Nat → Int) (qf : Nat → Nat) (t : Nat) (v : Int64) (u : Int64) (z : Int) (n : Nat) (hF : RF ad cA g x pf qf) (ht : t < 1030) (hz : v.toInt = z) (hz2 : z.natAbs < 2 ^ 62) (hn : u.toInt = (n : Int)) (hn0 : 0 < n) (hn2 : n < 2 ^ 62) : Met l yX10_setFraction wd_X10_setFraction ({ frames := 60, cells := 0, slots := 0, locals := 1200 }) (va_Pc [.ref (ad 0), .int (nI t), .long v, .long u] (PR NSr tyr dC dI A ad cA g)) (va_Qv (fun (u : Nat → va_E) => match u with | g2 => (∀ k, k ≠ 1 ∧ k ≠ 2 ∧ k ≠ 3 → g2 k = g k) ∧ RF ad cA g2 x (va_up pf t (rdp z n)) (va_up qf t (rdq z n))) (fun (u : Nat → va_E) (t : State) => va_P (dC, dI) vwCl (wo ad NSr u) t.heap) A) (0) (0) A := by
  refine Met.ofW (cc := cX10_setFraction) (maxL := 6) (ret := none) (by decide) rfl ?_
  intro p e s m args below meth c s₁ B hml hv
  obtain ⟨rfl, hA, hP, hL⟩ := hv
  have hx := B.exec
  have hb := B.bytes
  have hr := B.returns
  have hts := atoms_spec (ws := wd_X10_setFraction) B.pre
  have hown : s.vm.findClass RX10 = some m.cls := findClass_of_methodNamed B.named
  have hlocks := B.notSynchronized
  have hK := hL.1
  have hD : ∀ g, va_D A (wo ad NSr g) := fun g => wo_D hL.2.1 hL.2.2 g
  have hS : va_S A s.heap s.heap [] := va_S.rf
  have bk0 : ∀ w ∈ wd_X10_assign, w ∈ wd_X10_setFraction := fun _ h => List.mem_cons_of_mem _ (List.mem_append_right _ (List.mem_append_left _ h))
  have bk1 : ∀ w ∈ wd_X10_reduce, w ∈ wd_X10_setFraction := fun _ h => List.mem_cons_of_mem _ (List.mem_append_right _ (List.mem_append_right _ (List.mem_append_left _ h)))
  have hl := lv_entry ([.ref (ad 0), .int (nI t), .long v, .long u]) (n := 6) (Nat.le_of_ble_eq_true rfl)
  rw [lg_entry_eq]
  generalize (lg_sl ([.ref (ad 0), .int (nI t), .long v, .long u]) ++ List.replicate (6 - (lg_sl ([.ref (ad 0), .int (nI t), .long v, .long u])).length) Slot.unset).toArray = ls at hl ⊢
  have hl : lv_has ls 6 [(0, .ref (ad 0)), (1, .int (nI t)), (2, .long v), (4, .long u)] := hl
  obtain ⟨vf, hV, hq⟩ := hF
  have hc_1 := hV
  obtain ⟨pnz_2, lnz_2, bnz_2, hRz_2, hvz_2⟩ := hc_1
  obtain ⟨r_3, r_4, r_5, r_6, r_7, r_8, r_9⟩ := hRz_2
  refine lv_aload_n hx hb dX10_setFraction_0 rfl (lv_at hl 0 rfl) ?_
  refine lv_iconst (v := nI 2) hx hb dX10_setFraction_1 (by decide +kernel) ?_
  refine lv_iload_n hx hb dX10_setFraction_2 rfl (lv_at hl 1 rfl) ?_
  refine lv_imul hx hb dX10_setFraction_3 ?_
  refine lv_topi (fun x_10 e_11 => ?_)
  obtain rfl : x_10 = nI (2 * t) := e_11.trans (pk_mul 2 t)
  refine lv_lload_n hx hb dX10_setFraction_4 rfl (lv_at hl 2 rfl) ?_
  refine va_callv (va_runV (As := [.int (nI (2 * t)), .long v]) (rest := []) ⟨hx, hb, hml, hown, hts⟩ (c_X10_assign l dC dI A ad cA g x vf (2 * t) v z hV (by omega) hz hz2) (cwV 2 hts (goodIn_app (goodIn_r [Cond.methodLink RX10 74 yX10_assign, Cond.instanceMethod yX10_assign, Cond.selects RX10 yX10_assign yX10_assign, Cond.initialized RX10] [1, 2, 3, 4] rfl rfl) (goodIn_sub (fun w9 h9 => bk0 w9 h9) gw_X10_assign)) rfl rfl rfl (by decide +kernel) ⟨Nat.le_of_ble_eq_true rfl, Nat.le_of_ble_eq_true rfl⟩) ⟨fun a U g mk q => ⟨q.1, q.2.1, q.2.2.1, LY.moved (u := U) (U := U.calling g mk a) (Vm.Alike.refl U.vm) q.2.2.2⟩, va_recv hK hP (ci := 13) (q0 := 0) rfl (wo_at (by decide) r_3), fun U hU hW => ⟨rfl, by rw [hU]; exact fun q h => hA q (Nat.le_trans hS.1 h), by rw [hU]; exact hP, LY.moved hW.alike hL⟩⟩ rfl rfl hl.1 rfl (lv_room (Nat.le_of_ble_eq_true rfl)) dX10_setFraction_5 ⟨(Nat.le_of_ble_eq_true rfl), (Nat.le_of_ble_eq_true rfl)⟩) hS (fun q _ h => h) (fun q h => h) (fun u8 t8 H1 locs ht8 hvm8 hw_13 hB hz1 hk1 hS => ?_)
  obtain ⟨g_14, rfl⟩ : ∃ z, z = u8 := ⟨_, rfl⟩
  try dsimp only at hw_13 hB
  rw [ht8] at hB
  have hP := hB
  generalize H1 = H at hP hS ⊢
  obtain ⟨fr_15, hV_12⟩ := hw_13
  obtain ⟨vf_16, evf_16⟩ : ∃ z9, z9 = va_up vf (2 * t) (z) := ⟨_, rfl⟩
  rw [← evf_16] at hV_12
  have uvf_16 : vf_16 (2 * t) = z := by rw [evf_16]; exact va_up_self _ _ _
  have ovf_16 : ∀ j, j ≠ 2 * t → vf_16 j = vf j := fun j hj => by rw [evf_16]; exact va_up_ne _ _ hj
  refine lv_aload_n hx hb dX10_setFraction_8 rfl (lv_at hl 0 rfl) ?_
  refine lv_iconst (v := nI 2) hx hb dX10_setFraction_9 (by decide +kernel) ?_
  refine lv_iload_n hx hb dX10_setFraction_10 rfl (lv_at hl 1 rfl) ?_
  refine lv_imul hx hb dX10_setFraction_11 ?_
  refine lv_topi (fun x_17 e_18 => ?_)
  obtain rfl : x_17 = nI (2 * t) := e_18.trans (pk_mul 2 t)
  refine lv_iconst (v := nI 1) hx hb dX10_setFraction_12 (by decide +kernel) ?_
  refine lv_iadd hx hb dX10_setFraction_13 ?_
  refine lv_topi (fun x_19 e_20 => ?_)
  obtain rfl : x_19 = nI (2 * t + 1) := e_20.trans (nI_add (2 * t) 1)
  refine lv_lload hx hb dX10_setFraction_14 (lv_at hl 3 rfl) ?_
  have f_22 : g_14 0 = .inr (13, Rob ad x) := (fr_15 0 (by omega)).trans r_3
  refine va_callv (va_runV (As := [.int (nI (2 * t + 1)), .long u]) (rest := []) ⟨hx, hb, hml, hown, hts⟩ (c_X10_assign l dC dI A ad cA g_14 x vf_16 (2 * t + 1) u (n : Int) hV_12 (by omega) hn (by omega)) (cwV 2 hts (goodIn_app (goodIn_r [Cond.methodLink RX10 74 yX10_assign, Cond.instanceMethod yX10_assign, Cond.selects RX10 yX10_assign yX10_assign, Cond.initialized RX10] [1, 2, 3, 4] rfl rfl) (goodIn_sub (fun w9 h9 => bk0 w9 h9) gw_X10_assign)) rfl rfl rfl (by decide +kernel) ⟨Nat.le_of_ble_eq_true rfl, Nat.le_of_ble_eq_true rfl⟩) ⟨fun a U g mk q => ⟨q.1, q.2.1, q.2.2.1, LY.moved (u := U) (U := U.calling g mk a) (Vm.Alike.refl U.vm) q.2.2.2⟩, va_recv hK hP (ci := 13) (q0 := 0) rfl (wo_at (by decide) f_22), fun U hU hW => ⟨rfl, by rw [hU]; exact fun q h => hA q (Nat.le_trans hS.1 h), by rw [hU]; exact hP, LY.moved hW.alike hL⟩⟩ rfl rfl hl.1 rfl (lv_room (Nat.le_of_ble_eq_true rfl)) dX10_setFraction_16 ⟨(Nat.le_of_ble_eq_true rfl), (Nat.le_of_ble_eq_true rfl)⟩) hS (fun q _ h => h) (fun q h => h) (fun u8 t8 H1 locs ht8 hvm8 hw_23 hB hz1 hk1 hS => ?_)
  obtain ⟨g_24, rfl⟩ : ∃ z, z = u8 := ⟨_, rfl⟩
  try dsimp only at hw_23 hB
  rw [ht8] at hB
  have hP := hB
  generalize H1 = H at hP hS ⊢
  obtain ⟨fr_25, hV_21⟩ := hw_23
  obtain ⟨vf_26, evf_26⟩ : ∃ z9, z9 = va_up vf_16 (2 * t + 1) ((n : Int)) := ⟨_, rfl⟩
  rw [← evf_26] at hV_21
  have uvf_26 : vf_26 (2 * t + 1) = (n : Int) := by rw [evf_26]; exact va_up_self _ _ _
  have ovf_26 : ∀ j, j ≠ 2 * t + 1 → vf_26 j = vf_16 j := fun j hj => by rw [evf_26]; exact va_up_ne _ _ hj
  refine lv_aload_n hx hb dX10_setFraction_19 rfl (lv_at hl 0 rfl) ?_
  refine lv_iload_n hx hb dX10_setFraction_20 rfl (lv_at hl 1 rfl) ?_
  have hs1 : vf_26 (2 * t) = z := by rw [ovf_26 _ (by omega), uvf_16]
  have hs2 : vf_26 (2 * t + 1) = (n : Int) := uvf_26
  have f_27 : g_24 0 = .inr (13, Rob ad x) := (fr_25 0 (by omega)).trans f_22
  refine va_callv (va_runV (As := [.int (nI t)]) (rest := []) ⟨hx, hb, hml, hown, hts⟩ (c_X10_reduce l dC dI A ad cA g_24 x vf_26 t n hV_21 ht hs2 hn0 (by omega)) (cwV 1 hts (goodIn_app (goodIn_r [Cond.methodLink RX10 121 yX10_reduce, Cond.instanceMethod yX10_reduce, Cond.selects RX10 yX10_reduce yX10_reduce, Cond.initialized RX10] [5, 6, 7, 4] rfl rfl) (goodIn_sub (fun w9 h9 => bk1 w9 h9) gw_X10_reduce)) rfl rfl rfl (by decide +kernel) ⟨Nat.le_of_ble_eq_true rfl, Nat.le_of_ble_eq_true rfl⟩) ⟨fun a U g mk q => ⟨q.1, q.2.1, q.2.2.1, LY.moved (u := U) (U := U.calling g mk a) (Vm.Alike.refl U.vm) q.2.2.2⟩, va_recv hK hP (ci := 13) (q0 := 0) rfl (wo_at (by decide) f_27), fun U hU hW => ⟨rfl, by rw [hU]; exact fun q h => hA q (Nat.le_trans hS.1 h), by rw [hU]; exact hP, LY.moved hW.alike hL⟩⟩ rfl rfl hl.1 rfl (lv_room (Nat.le_of_ble_eq_true rfl)) dX10_setFraction_21 ⟨(Nat.le_of_ble_eq_true rfl), (Nat.le_of_ble_eq_true rfl)⟩) hS (fun q _ h => h) (fun q h => h) (fun u8 t8 H1 locs ht8 hvm8 hw_28 hB hz1 hk1 hS => ?_)
  obtain ⟨g_29, vf2_30⟩ := u8
  try dsimp only at hw_28 hB
  rw [ht8] at hB
  have hP := hB
  generalize H1 = H at hP hS ⊢
  obtain ⟨fr_31, hVr, hr1, hr2, hr3⟩ := hw_28
  rw [hs1] at hr1 hr2
  refine W.widen (k := 0) (n := 0) (by omega) (by omega) ?_
  exact W.vret hx hb hr (fun t9 ht9 hW9 => ⟨⟨g_29, rfl, ⟨(fun (k : Nat) (hk : k ≠ 1 ∧ k ≠ 2 ∧ k ≠ 3) => (fr_31 k (by omega)).trans ((fr_25 k (by omega)).trans ((fr_15 k (by omega)).trans (rfl)))), RF.up hVr hq (fun f9 h1 h2 => ⟨by rw [hr3 _ (by omega) (by omega) (by omega), ovf_26 _ (by omega), ovf_16 _ (by omega)], by rw [hr3 _ (by omega) (by omega) (by omega), ovf_26 _ (by omega), ovf_16 _ (by omega)]⟩) hr1 hr2 (rd_red z hn0)⟩, by show va_P (dC, dI) vwCl _ t9.heap; rw [ht9]; exact hP⟩, hS.F ht9⟩) hS.2.2 dX10_setFraction_24
def wd_X10_timesFractions : List Cond := .code yX10_timesFractions cX10_timesFractions 4 none :: (([.methodLink RX10 130 yX10_times, .instanceMethod yX10_times, .selects RX10 yX10_times yX10_times, .initialized RX10, .methodLink RX10 121 yX10_reduce, .instanceMethod yX10_reduce, .selects RX10 yX10_reduce yX10_reduce, .methodLink RX10 136 yX10_copyFraction, .instanceMethod yX10_copyFraction, .selects RX10 yX10_copyFraction yX10_copyFraction] : List Cond) ++ (wd_X10_times ++ (wd_X10_reduce ++ (wd_X10_copyFraction ++ ([])))))
theorem gw_X10_timesFractions : wd_X10_timesFractions.all goodWord = true := k_allc rfl (k_all (by decide +kernel) (k_all (gw_X10_times) (k_all (gw_X10_reduce) (k_all (gw_X10_copyFraction) (rfl)))))
set_option maxHeartbeats 4000000 in
set_option maxRecDepth 100000 in
theorem c_X10_timesFractions (l : Launch) (dC : Nat → ClassId) (dI : Nat → Nat → Nat) (A : Nat → Prop) (ad : Nat → Nat) (cA : Nat → ClassId) (g : Nat → va_E) (x : Nat → Int32) (pf : Nat → Int) (qf : Nat → Nat) (t : Nat) (a : Nat) (b : Nat) (hF : RF ad cA g x pf qf) (ht : t < 1016) (ia : a < 1016) (ib : b < 1016) (ba : (pf a).natAbs < 2 ^ 1200 ∧ qf a < 2 ^ 1200) (bb : (pf b).natAbs < 2 ^ 1200 ∧ qf b < 2 ^ 1200) : Met l yX10_timesFractions wd_X10_timesFractions ({ frames := 70, cells := 0, slots := 0, locals := 1400 }) (va_Pc [.ref (ad 0), .int (nI t), .int (nI a), .int (nI b)] (PR NSr tyr dC dI A ad cA g)) (va_Qv (fun (u : (Nat → va_E) × (Nat → Int) × (Nat → Nat)) => match u with | (g2, pf2, qf2) => (∀ k, k ≠ 1 ∧ k ≠ 2 ∧ k ≠ 3 → g2 k = g k) ∧ RF ad cA g2 x pf2 qf2 ∧ pf2 t = rdp (pf a * pf b) (qf a * qf b) ∧ qf2 t = rdq (pf a * pf b) (qf a * qf b) ∧ (∀ f, f ≠ t → f ≠ 1016 → pf2 f = pf f ∧ qf2 f = qf f)) (fun (u : (Nat → va_E) × (Nat → Int) × (Nat → Nat)) (t : State) => va_P (dC, dI) vwCl (wo ad NSr u.1) t.heap) A) (0) (0) A := by
  refine Met.ofW (cc := cX10_timesFractions) (maxL := 4) (ret := none) (by decide) rfl ?_
  intro p e s m args below meth c s₁ B hml hv
  obtain ⟨rfl, hA, hP, hL⟩ := hv
  have hx := B.exec
  have hb := B.bytes
  have hr := B.returns
  have hts := atoms_spec (ws := wd_X10_timesFractions) B.pre
  have hown : s.vm.findClass RX10 = some m.cls := findClass_of_methodNamed B.named
  have hlocks := B.notSynchronized
  have hK := hL.1
  have hD : ∀ g, va_D A (wo ad NSr g) := fun g => wo_D hL.2.1 hL.2.2 g
  have hS : va_S A s.heap s.heap [] := va_S.rf
  have bk0 : ∀ w ∈ wd_X10_times, w ∈ wd_X10_timesFractions := fun _ h => List.mem_cons_of_mem _ (List.mem_append_right _ (List.mem_append_left _ h))
  have bk1 : ∀ w ∈ wd_X10_reduce, w ∈ wd_X10_timesFractions := fun _ h => List.mem_cons_of_mem _ (List.mem_append_right _ (List.mem_append_right _ (List.mem_append_left _ h)))
  have bk2 : ∀ w ∈ wd_X10_copyFraction, w ∈ wd_X10_timesFractions := fun _ h => List.mem_cons_of_mem _ (List.mem_append_right _ (List.mem_append_right _ (List.mem_append_right _ (List.mem_append_left _ h))))
  have hl := lv_entry ([.ref (ad 0), .int (nI t), .int (nI a), .int (nI b)]) (n := 4) (Nat.le_of_ble_eq_true rfl)
  rw [lg_entry_eq]
  generalize (lg_sl ([.ref (ad 0), .int (nI t), .int (nI a), .int (nI b)]) ++ List.replicate (4 - (lg_sl ([.ref (ad 0), .int (nI t), .int (nI a), .int (nI b)])).length) Slot.unset).toArray = ls at hl ⊢
  have hl : lv_has ls 4 [(0, .ref (ad 0)), (1, .int (nI t)), (2, .int (nI a)), (3, .int (nI b))] := hl
  obtain ⟨vf, hV, hq⟩ := hF
  have hc_1 := hV
  obtain ⟨pnz_2, lnz_2, bnz_2, hRz_2, hvz_2⟩ := hc_1
  obtain ⟨r_3, r_4, r_5, r_6, r_7, r_8, r_9⟩ := hRz_2
  obtain ⟨a1, a2, a3⟩ := hq a (by omega)
  obtain ⟨b1, b2, b3⟩ := hq b (by omega)
  have a0 := a3.1
  have b0 := b3.1
  have n1 : (vf (2 * a)).natAbs = (pf a).natAbs := by rw [a1]
  have n2 : (vf (2 * a + 1)).natAbs = qf a := by omega
  have n3 : (vf (2 * b)).natAbs = (pf b).natAbs := by rw [b1]
  have n4 : (vf (2 * b + 1)).natAbs = qf b := by omega
  have k24 := k_24
  refine lv_aload_n hx hb dX10_timesFractions_0 rfl (lv_at hl 0 rfl) ?_
  refine lv_sipush (v := nI 2032) hx hb dX10_timesFractions_1 (by decide +kernel) ?_
  refine lv_iconst (v := nI 2) hx hb dX10_timesFractions_4 (by decide +kernel) ?_
  refine lv_iload_n hx hb dX10_timesFractions_5 rfl (lv_at hl 2 rfl) ?_
  refine lv_imul hx hb dX10_timesFractions_6 ?_
  refine lv_topi (fun x_10 e_11 => ?_)
  obtain rfl : x_10 = nI (2 * a) := e_11.trans (pk_mul 2 a)
  refine lv_iconst (v := nI 2) hx hb dX10_timesFractions_7 (by decide +kernel) ?_
  refine lv_iload_n hx hb dX10_timesFractions_8 rfl (lv_at hl 3 rfl) ?_
  refine lv_imul hx hb dX10_timesFractions_9 ?_
  refine lv_topi (fun x_12 e_13 => ?_)
  obtain rfl : x_12 = nI (2 * b) := e_13.trans (pk_mul 2 b)
  refine va_callv (va_runV (As := [.int (nI 2032), .int (nI (2 * a)), .int (nI (2 * b))]) (rest := []) ⟨hx, hb, hml, hown, hts⟩ (c_X10_times l dC dI A ad cA g x vf 2032 (2 * a) (2 * b) hV (by decide) (by omega) (by omega) (by rw [n1, n3]; have := k_m24 ba.1 bb.1; omega)) (cwV 3 hts (goodIn_app (goodIn_r [Cond.methodLink RX10 130 yX10_times, Cond.instanceMethod yX10_times, Cond.selects RX10 yX10_times yX10_times, Cond.initialized RX10] [1, 2, 3, 4] rfl rfl) (goodIn_sub (fun w9 h9 => bk0 w9 h9) gw_X10_times)) rfl rfl rfl (by decide +kernel) ⟨Nat.le_of_ble_eq_true rfl, Nat.le_of_ble_eq_true rfl⟩) ⟨fun a U g mk q => ⟨q.1, q.2.1, q.2.2.1, LY.moved (u := U) (U := U.calling g mk a) (Vm.Alike.refl U.vm) q.2.2.2⟩, va_recv hK hP (ci := 13) (q0 := 0) rfl (wo_at (by decide) r_3), fun U hU hW => ⟨rfl, by rw [hU]; exact fun q h => hA q (Nat.le_trans hS.1 h), by rw [hU]; exact hP, LY.moved hW.alike hL⟩⟩ rfl rfl hl.1 rfl (lv_room (Nat.le_of_ble_eq_true rfl)) dX10_timesFractions_10 ⟨(Nat.le_of_ble_eq_true rfl), (Nat.le_of_ble_eq_true rfl)⟩) hS (fun q _ h => h) (fun q h => h) (fun u8 t8 H1 locs ht8 hvm8 hw_15 hB hz1 hk1 hS => ?_)
  obtain ⟨g_16, rfl⟩ : ∃ z, z = u8 := ⟨_, rfl⟩
  try dsimp only at hw_15 hB
  rw [ht8] at hB
  have hP := hB
  generalize H1 = H at hP hS ⊢
  obtain ⟨fr_17, hV_14⟩ := hw_15
  obtain ⟨vf_18, evf_18⟩ : ∃ z9, z9 = va_up vf 2032 (vf (2 * a) * vf (2 * b)) := ⟨_, rfl⟩
  rw [← evf_18] at hV_14
  have uvf_18 : vf_18 2032 = vf (2 * a) * vf (2 * b) := by rw [evf_18]; exact va_up_self _ _ _
  have ovf_18 : ∀ j, j ≠ 2032 → vf_18 j = vf j := fun j hj => by rw [evf_18]; exact va_up_ne _ _ hj
  refine lv_aload_n hx hb dX10_timesFractions_13 rfl (lv_at hl 0 rfl) ?_
  refine lv_sipush (v := nI 2033) hx hb dX10_timesFractions_14 (by decide +kernel) ?_
  refine lv_iconst (v := nI 2) hx hb dX10_timesFractions_17 (by decide +kernel) ?_
  refine lv_iload_n hx hb dX10_timesFractions_18 rfl (lv_at hl 2 rfl) ?_
  refine lv_imul hx hb dX10_timesFractions_19 ?_
  refine lv_topi (fun x_19 e_20 => ?_)
  obtain rfl : x_19 = nI (2 * a) := e_20.trans (pk_mul 2 a)
  refine lv_iconst (v := nI 1) hx hb dX10_timesFractions_20 (by decide +kernel) ?_
  refine lv_iadd hx hb dX10_timesFractions_21 ?_
  refine lv_topi (fun x_21 e_22 => ?_)
  obtain rfl : x_21 = nI (2 * a + 1) := e_22.trans (nI_add (2 * a) 1)
  refine lv_iconst (v := nI 2) hx hb dX10_timesFractions_22 (by decide +kernel) ?_
  refine lv_iload_n hx hb dX10_timesFractions_23 rfl (lv_at hl 3 rfl) ?_
  refine lv_imul hx hb dX10_timesFractions_24 ?_
  refine lv_topi (fun x_23 e_24 => ?_)
  obtain rfl : x_23 = nI (2 * b) := e_24.trans (pk_mul 2 b)
  refine lv_iconst (v := nI 1) hx hb dX10_timesFractions_25 (by decide +kernel) ?_
  refine lv_iadd hx hb dX10_timesFractions_26 ?_
  refine lv_topi (fun x_25 e_26 => ?_)
  obtain rfl : x_25 = nI (2 * b + 1) := e_26.trans (nI_add (2 * b) 1)
  have f_28 : g_16 0 = .inr (13, Rob ad x) := (fr_17 0 (by omega)).trans r_3
  refine va_callv (va_runV (As := [.int (nI 2033), .int (nI (2 * a + 1)), .int (nI (2 * b + 1))]) (rest := []) ⟨hx, hb, hml, hown, hts⟩ (c_X10_times l dC dI A ad cA g_16 x vf_18 2033 (2 * a + 1) (2 * b + 1) hV_14 (by decide) (by omega) (by omega) (by rw [ovf_18 _ (by omega), ovf_18 _ (by omega), n2, n4]; have := k_m24 ba.2 bb.2; omega)) (cwV 3 hts (goodIn_app (goodIn_r [Cond.methodLink RX10 130 yX10_times, Cond.instanceMethod yX10_times, Cond.selects RX10 yX10_times yX10_times, Cond.initialized RX10] [1, 2, 3, 4] rfl rfl) (goodIn_sub (fun w9 h9 => bk0 w9 h9) gw_X10_times)) rfl rfl rfl (by decide +kernel) ⟨Nat.le_of_ble_eq_true rfl, Nat.le_of_ble_eq_true rfl⟩) ⟨fun a U g mk q => ⟨q.1, q.2.1, q.2.2.1, LY.moved (u := U) (U := U.calling g mk a) (Vm.Alike.refl U.vm) q.2.2.2⟩, va_recv hK hP (ci := 13) (q0 := 0) rfl (wo_at (by decide) f_28), fun U hU hW => ⟨rfl, by rw [hU]; exact fun q h => hA q (Nat.le_trans hS.1 h), by rw [hU]; exact hP, LY.moved hW.alike hL⟩⟩ rfl rfl hl.1 rfl (lv_room (Nat.le_of_ble_eq_true rfl)) dX10_timesFractions_27 ⟨(Nat.le_of_ble_eq_true rfl), (Nat.le_of_ble_eq_true rfl)⟩) hS (fun q _ h => h) (fun q h => h) (fun u8 t8 H1 locs ht8 hvm8 hw_29 hB hz1 hk1 hS => ?_)
  obtain ⟨g_30, rfl⟩ : ∃ z, z = u8 := ⟨_, rfl⟩
  try dsimp only at hw_29 hB
  rw [ht8] at hB
  have hP := hB
  generalize H1 = H at hP hS ⊢
  obtain ⟨fr_31, hV_27⟩ := hw_29
  obtain ⟨vf_32, evf_32⟩ : ∃ z9, z9 = va_up vf_18 2033 (vf_18 (2 * a + 1) * vf_18 (2 * b + 1)) := ⟨_, rfl⟩
  rw [← evf_32] at hV_27
  have uvf_32 : vf_32 2033 = vf_18 (2 * a + 1) * vf_18 (2 * b + 1) := by rw [evf_32]; exact va_up_self _ _ _
  have ovf_32 : ∀ j, j ≠ 2033 → vf_32 j = vf_18 j := fun j hj => by rw [evf_32]; exact va_up_ne _ _ hj
  refine lv_aload_n hx hb dX10_timesFractions_30 rfl (lv_at hl 0 rfl) ?_
  refine lv_sipush (v := nI 1016) hx hb dX10_timesFractions_31 (by decide +kernel) ?_
  have hsn : vf_32 (2 * 1016) = pf a * pf b := by rw [ovf_32 _ (by decide), uvf_18, a1, b1]
  have hsd : vf_32 (2 * 1016 + 1) = ((qf a * qf b : Nat) : Int) := by rw [show 2 * 1016 + 1 = 2033 from rfl, uvf_32, ovf_18 _ (by omega), ovf_18 _ (by omega), a2, b2, Int.natCast_mul]
  have hd0 : 0 < qf a * qf b := Nat.mul_pos a0 b0
  have hd8 := k_m24 ba.2 bb.2
  have f_33 : g_30 0 = .inr (13, Rob ad x) := (fr_31 0 (by omega)).trans f_28
  refine va_callv (va_runV (As := [.int (nI 1016)]) (rest := []) ⟨hx, hb, hml, hown, hts⟩ (c_X10_reduce l dC dI A ad cA g_30 x vf_32 1016 (qf a * qf b) hV_27 (by decide) hsd hd0 (by omega)) (cwV 1 hts (goodIn_app (goodIn_r [Cond.methodLink RX10 121 yX10_reduce, Cond.instanceMethod yX10_reduce, Cond.selects RX10 yX10_reduce yX10_reduce, Cond.initialized RX10] [5, 6, 7, 4] rfl rfl) (goodIn_sub (fun w9 h9 => bk1 w9 h9) gw_X10_reduce)) rfl rfl rfl (by decide +kernel) ⟨Nat.le_of_ble_eq_true rfl, Nat.le_of_ble_eq_true rfl⟩) ⟨fun a U g mk q => ⟨q.1, q.2.1, q.2.2.1, LY.moved (u := U) (U := U.calling g mk a) (Vm.Alike.refl U.vm) q.2.2.2⟩, va_recv hK hP (ci := 13) (q0 := 0) rfl (wo_at (by decide) f_33), fun U hU hW => ⟨rfl, by rw [hU]; exact fun q h => hA q (Nat.le_trans hS.1 h), by rw [hU]; exact hP, LY.moved hW.alike hL⟩⟩ rfl rfl hl.1 rfl (lv_room (Nat.le_of_ble_eq_true rfl)) dX10_timesFractions_34 ⟨(Nat.le_of_ble_eq_true rfl), (Nat.le_of_ble_eq_true rfl)⟩) hS (fun q _ h => h) (fun q h => h) (fun u8 t8 H1 locs ht8 hvm8 hw_34 hB hz1 hk1 hS => ?_)
  obtain ⟨g_35, vf2_36⟩ := u8
  try dsimp only at hw_34 hB
  rw [ht8] at hB
  have hP := hB
  generalize H1 = H at hP hS ⊢
  obtain ⟨fr_37, hVr, hr1, hr2, hr3⟩ := hw_34
  rw [hsn] at hr1 hr2
  refine lv_aload_n hx hb dX10_timesFractions_37 rfl (lv_at hl 0 rfl) ?_
  refine lv_iload_n hx hb dX10_timesFractions_38 rfl (lv_at hl 1 rfl) ?_
  refine lv_sipush (v := nI 1016) hx hb dX10_timesFractions_39 (by decide +kernel) ?_
  have hF2 : RF ad cA g_35 x (va_up pf 1016 (rdp (pf a * pf b) (qf a * qf b))) (va_up qf 1016 (rdq (pf a * pf b) (qf a * qf b))) := RF.up hVr hq (fun f9 h1 h2 => ⟨by rw [hr3 _ (by omega) (by omega) (by omega), ovf_32 _ (by omega), ovf_18 _ (by omega)], by rw [hr3 _ (by omega) (by omega) (by omega), ovf_32 _ (by omega), ovf_18 _ (by omega)]⟩) hr1 hr2 (rd_red _ hd0)
  have f_38 : g_35 0 = .inr (13, Rob ad x) := (fr_37 0 (by omega)).trans f_33
  refine va_callv (va_runV (As := [.int (nI t), .int (nI 1016)]) (rest := []) ⟨hx, hb, hml, hown, hts⟩ (c_X10_copyFraction l dC dI A ad cA g_35 x (va_up pf 1016 (rdp (pf a * pf b) (qf a * qf b))) (va_up qf 1016 (rdq (pf a * pf b) (qf a * qf b))) t 1016 hF2 (by omega) (by decide)) (cwV 2 hts (goodIn_app (goodIn_r [Cond.methodLink RX10 136 yX10_copyFraction, Cond.instanceMethod yX10_copyFraction, Cond.selects RX10 yX10_copyFraction yX10_copyFraction, Cond.initialized RX10] [8, 9, 10, 4] rfl rfl) (goodIn_sub (fun w9 h9 => bk2 w9 h9) gw_X10_copyFraction)) rfl rfl rfl (by decide +kernel) ⟨Nat.le_of_ble_eq_true rfl, Nat.le_of_ble_eq_true rfl⟩) ⟨fun a U g mk q => ⟨q.1, q.2.1, q.2.2.1, LY.moved (u := U) (U := U.calling g mk a) (Vm.Alike.refl U.vm) q.2.2.2⟩, va_recv hK hP (ci := 13) (q0 := 0) rfl (wo_at (by decide) f_38), fun U hU hW => ⟨rfl, by rw [hU]; exact fun q h => hA q (Nat.le_trans hS.1 h), by rw [hU]; exact hP, LY.moved hW.alike hL⟩⟩ rfl rfl hl.1 rfl (lv_room (Nat.le_of_ble_eq_true rfl)) dX10_timesFractions_42 ⟨(Nat.le_of_ble_eq_true rfl), (Nat.le_of_ble_eq_true rfl)⟩) hS (fun q _ h => h) (fun q h => h) (fun u8 t8 H1 locs ht8 hvm8 hw_39 hB hz1 hk1 hS => ?_)
  obtain ⟨g_40, rfl⟩ : ∃ z, z = u8 := ⟨_, rfl⟩
  try dsimp only at hw_39 hB
  rw [ht8] at hB
  have hP := hB
  generalize H1 = H at hP hS ⊢
  obtain ⟨fr_41, hF3⟩ := hw_39
  refine W.widen (k := 0) (n := 0) (by omega) (by omega) ?_
  exact W.vret hx hb hr (fun t9 ht9 hW9 => ⟨⟨(g_40, va_up (va_up pf 1016 (rdp (pf a * pf b) (qf a * qf b))) t (va_up pf 1016 (rdp (pf a * pf b) (qf a * qf b)) 1016), va_up (va_up qf 1016 (rdq (pf a * pf b) (qf a * qf b))) t (va_up qf 1016 (rdq (pf a * pf b) (qf a * qf b)) 1016)), rfl, ⟨(fun (k : Nat) (hk : k ≠ 1 ∧ k ≠ 2 ∧ k ≠ 3) => (fr_41 k (by omega)).trans ((fr_37 k (by omega)).trans ((fr_31 k (by omega)).trans ((fr_17 k (by omega)).trans (rfl))))), hF3, by rw [va_up_self, va_up_self], by rw [va_up_self, va_up_self], fun f9 h1 h2 => ⟨by rw [va_up_ne _ _ h1, va_up_ne _ _ h2], by rw [va_up_ne _ _ h1, va_up_ne _ _ h2]⟩⟩, by show va_P (dC, dI) vwCl _ t9.heap; rw [ht9]; exact hP⟩, hS.F ht9⟩) hS.2.2 dX10_timesFractions_45
def wd_X10_addFractions : List Cond := .code yX10_addFractions cX10_addFractions 4 none :: (([.methodLink RX10 130 yX10_times, .instanceMethod yX10_times, .selects RX10 yX10_times yX10_times, .initialized RX10, .methodLink RX10 133 yX10_add, .instanceMethod yX10_add, .selects RX10 yX10_add yX10_add, .methodLink RX10 121 yX10_reduce, .instanceMethod yX10_reduce, .selects RX10 yX10_reduce yX10_reduce, .methodLink RX10 136 yX10_copyFraction, .instanceMethod yX10_copyFraction, .selects RX10 yX10_copyFraction yX10_copyFraction] : List Cond) ++ (wd_X10_times ++ (wd_X10_add ++ (wd_X10_reduce ++ (wd_X10_copyFraction ++ ([]))))))
theorem gw_X10_addFractions : wd_X10_addFractions.all goodWord = true := k_allc rfl (k_all (by decide +kernel) (k_all (gw_X10_times) (k_all (gw_X10_add) (k_all (gw_X10_reduce) (k_all (gw_X10_copyFraction) (rfl))))))
set_option maxHeartbeats 4000000 in
set_option maxRecDepth 100000 in
theorem c_X10_addFractions (l : Launch) (dC : Nat → ClassId) (dI : Nat → Nat → Nat) (A : Nat → Prop) (ad : Nat → Nat) (cA : Nat → ClassId) (g : Nat → va_E) (x : Nat → Int32) (pf : Nat → Int) (qf : Nat → Nat) (t : Nat) (a : Nat) (b : Nat) (hF : RF ad cA g x pf qf) (ht : t < 1016) (ia : a < 1016) (ib : b < 1016) (ba : (pf a).natAbs < 2 ^ 1200 ∧ qf a < 2 ^ 1200) (bb : (pf b).natAbs < 2 ^ 1200 ∧ qf b < 2 ^ 1200) : Met l yX10_addFractions wd_X10_addFractions ({ frames := 70, cells := 0, slots := 0, locals := 1400 }) (va_Pc [.ref (ad 0), .int (nI t), .int (nI a), .int (nI b)] (PR NSr tyr dC dI A ad cA g)) (va_Qv (fun (u : (Nat → va_E) × (Nat → Int) × (Nat → Nat)) => match u with | (g2, pf2, qf2) => (∀ k, k ≠ 1 ∧ k ≠ 2 ∧ k ≠ 3 → g2 k = g k) ∧ RF ad cA g2 x pf2 qf2 ∧ pf2 t = rdp (pf a * qf b + pf b * qf a) (qf a * qf b) ∧ qf2 t = rdq (pf a * qf b + pf b * qf a) (qf a * qf b) ∧ (∀ f, f ≠ t → f ≠ 1016 → pf2 f = pf f ∧ qf2 f = qf f)) (fun (u : (Nat → va_E) × (Nat → Int) × (Nat → Nat)) (t : State) => va_P (dC, dI) vwCl (wo ad NSr u.1) t.heap) A) (0) (0) A := by
  refine Met.ofW (cc := cX10_addFractions) (maxL := 4) (ret := none) (by decide) rfl ?_
  intro p e s m args below meth c s₁ B hml hv
  obtain ⟨rfl, hA, hP, hL⟩ := hv
  have hx := B.exec
  have hb := B.bytes
  have hr := B.returns
  have hts := atoms_spec (ws := wd_X10_addFractions) B.pre
  have hown : s.vm.findClass RX10 = some m.cls := findClass_of_methodNamed B.named
  have hlocks := B.notSynchronized
  have hK := hL.1
  have hD : ∀ g, va_D A (wo ad NSr g) := fun g => wo_D hL.2.1 hL.2.2 g
  have hS : va_S A s.heap s.heap [] := va_S.rf
  have bk0 : ∀ w ∈ wd_X10_times, w ∈ wd_X10_addFractions := fun _ h => List.mem_cons_of_mem _ (List.mem_append_right _ (List.mem_append_left _ h))
  have bk1 : ∀ w ∈ wd_X10_add, w ∈ wd_X10_addFractions := fun _ h => List.mem_cons_of_mem _ (List.mem_append_right _ (List.mem_append_right _ (List.mem_append_left _ h)))
  have bk2 : ∀ w ∈ wd_X10_reduce, w ∈ wd_X10_addFractions := fun _ h => List.mem_cons_of_mem _ (List.mem_append_right _ (List.mem_append_right _ (List.mem_append_right _ (List.mem_append_left _ h))))
  have bk3 : ∀ w ∈ wd_X10_copyFraction, w ∈ wd_X10_addFractions := fun _ h => List.mem_cons_of_mem _ (List.mem_append_right _ (List.mem_append_right _ (List.mem_append_right _ (List.mem_append_right _ (List.mem_append_left _ h)))))
  have hl := lv_entry ([.ref (ad 0), .int (nI t), .int (nI a), .int (nI b)]) (n := 4) (Nat.le_of_ble_eq_true rfl)
  rw [lg_entry_eq]
  generalize (lg_sl ([.ref (ad 0), .int (nI t), .int (nI a), .int (nI b)]) ++ List.replicate (4 - (lg_sl ([.ref (ad 0), .int (nI t), .int (nI a), .int (nI b)])).length) Slot.unset).toArray = ls at hl ⊢
  have hl : lv_has ls 4 [(0, .ref (ad 0)), (1, .int (nI t)), (2, .int (nI a)), (3, .int (nI b))] := hl
  obtain ⟨vf, hV, hq⟩ := hF
  have hc_1 := hV
  obtain ⟨pnz_2, lnz_2, bnz_2, hRz_2, hvz_2⟩ := hc_1
  obtain ⟨r_3, r_4, r_5, r_6, r_7, r_8, r_9⟩ := hRz_2
  obtain ⟨a1, a2, a3⟩ := hq a (by omega)
  obtain ⟨b1, b2, b3⟩ := hq b (by omega)
  have a0 := a3.1
  have b0 := b3.1
  have n1 : (vf (2 * a)).natAbs = (pf a).natAbs := by rw [a1]
  have n2 : (vf (2 * a + 1)).natAbs = qf a := by omega
  have n3 : (vf (2 * b)).natAbs = (pf b).natAbs := by rw [b1]
  have n4 : (vf (2 * b + 1)).natAbs = qf b := by omega
  have k24 := k_24
  refine lv_aload_n hx hb dX10_addFractions_0 rfl (lv_at hl 0 rfl) ?_
  refine lv_sipush (v := nI 2064) hx hb dX10_addFractions_1 (by decide +kernel) ?_
  refine lv_iconst (v := nI 2) hx hb dX10_addFractions_4 (by decide +kernel) ?_
  refine lv_iload_n hx hb dX10_addFractions_5 rfl (lv_at hl 2 rfl) ?_
  refine lv_imul hx hb dX10_addFractions_6 ?_
  refine lv_topi (fun x_10 e_11 => ?_)
  obtain rfl : x_10 = nI (2 * a) := e_11.trans (pk_mul 2 a)
  refine lv_iconst (v := nI 2) hx hb dX10_addFractions_7 (by decide +kernel) ?_
  refine lv_iload_n hx hb dX10_addFractions_8 rfl (lv_at hl 3 rfl) ?_
  refine lv_imul hx hb dX10_addFractions_9 ?_
  refine lv_topi (fun x_12 e_13 => ?_)
  obtain rfl : x_12 = nI (2 * b) := e_13.trans (pk_mul 2 b)
  refine lv_iconst (v := nI 1) hx hb dX10_addFractions_10 (by decide +kernel) ?_
  refine lv_iadd hx hb dX10_addFractions_11 ?_
  refine lv_topi (fun x_14 e_15 => ?_)
  obtain rfl : x_14 = nI (2 * b + 1) := e_15.trans (nI_add (2 * b) 1)
  refine va_callv (va_runV (As := [.int (nI 2064), .int (nI (2 * a)), .int (nI (2 * b + 1))]) (rest := []) ⟨hx, hb, hml, hown, hts⟩ (c_X10_times l dC dI A ad cA g x vf 2064 (2 * a) (2 * b + 1) hV (by decide) (by omega) (by omega) (by rw [n1, n4]; have := k_m24 ba.1 bb.2; omega)) (cwV 3 hts (goodIn_app (goodIn_r [Cond.methodLink RX10 130 yX10_times, Cond.instanceMethod yX10_times, Cond.selects RX10 yX10_times yX10_times, Cond.initialized RX10] [1, 2, 3, 4] rfl rfl) (goodIn_sub (fun w9 h9 => bk0 w9 h9) gw_X10_times)) rfl rfl rfl (by decide +kernel) ⟨Nat.le_of_ble_eq_true rfl, Nat.le_of_ble_eq_true rfl⟩) ⟨fun a U g mk q => ⟨q.1, q.2.1, q.2.2.1, LY.moved (u := U) (U := U.calling g mk a) (Vm.Alike.refl U.vm) q.2.2.2⟩, va_recv hK hP (ci := 13) (q0 := 0) rfl (wo_at (by decide) r_3), fun U hU hW => ⟨rfl, by rw [hU]; exact fun q h => hA q (Nat.le_trans hS.1 h), by rw [hU]; exact hP, LY.moved hW.alike hL⟩⟩ rfl rfl hl.1 rfl (lv_room (Nat.le_of_ble_eq_true rfl)) dX10_addFractions_12 ⟨(Nat.le_of_ble_eq_true rfl), (Nat.le_of_ble_eq_true rfl)⟩) hS (fun q _ h => h) (fun q h => h) (fun u8 t8 H1 locs ht8 hvm8 hw_17 hB hz1 hk1 hS => ?_)
  obtain ⟨g_18, rfl⟩ : ∃ z, z = u8 := ⟨_, rfl⟩
  try dsimp only at hw_17 hB
  rw [ht8] at hB
  have hP := hB
  generalize H1 = H at hP hS ⊢
  obtain ⟨fr_19, hV_16⟩ := hw_17
  obtain ⟨vf_20, evf_20⟩ : ∃ z9, z9 = va_up vf 2064 (vf (2 * a) * vf (2 * b + 1)) := ⟨_, rfl⟩
  rw [← evf_20] at hV_16
  have uvf_20 : vf_20 2064 = vf (2 * a) * vf (2 * b + 1) := by rw [evf_20]; exact va_up_self _ _ _
  have ovf_20 : ∀ j, j ≠ 2064 → vf_20 j = vf j := fun j hj => by rw [evf_20]; exact va_up_ne _ _ hj
  refine lv_aload_n hx hb dX10_addFractions_15 rfl (lv_at hl 0 rfl) ?_
  refine lv_sipush (v := nI 2065) hx hb dX10_addFractions_16 (by decide +kernel) ?_
  refine lv_iconst (v := nI 2) hx hb dX10_addFractions_19 (by decide +kernel) ?_
  refine lv_iload_n hx hb dX10_addFractions_20 rfl (lv_at hl 3 rfl) ?_
  refine lv_imul hx hb dX10_addFractions_21 ?_
  refine lv_topi (fun x_21 e_22 => ?_)
  obtain rfl : x_21 = nI (2 * b) := e_22.trans (pk_mul 2 b)
  refine lv_iconst (v := nI 2) hx hb dX10_addFractions_22 (by decide +kernel) ?_
  refine lv_iload_n hx hb dX10_addFractions_23 rfl (lv_at hl 2 rfl) ?_
  refine lv_imul hx hb dX10_addFractions_24 ?_
  refine lv_topi (fun x_23 e_24 => ?_)
  obtain rfl : x_23 = nI (2 * a) := e_24.trans (pk_mul 2 a)
  refine lv_iconst (v := nI 1) hx hb dX10_addFractions_25 (by decide +kernel) ?_
  refine lv_iadd hx hb dX10_addFractions_26 ?_
  refine lv_topi (fun x_25 e_26 => ?_)
  obtain rfl : x_25 = nI (2 * a + 1) := e_26.trans (nI_add (2 * a) 1)
  have f_28 : g_18 0 = .inr (13, Rob ad x) := (fr_19 0 (by omega)).trans r_3
  refine va_callv (va_runV (As := [.int (nI 2065), .int (nI (2 * b)), .int (nI (2 * a + 1))]) (rest := []) ⟨hx, hb, hml, hown, hts⟩ (c_X10_times l dC dI A ad cA g_18 x vf_20 2065 (2 * b) (2 * a + 1) hV_16 (by decide) (by omega) (by omega) (by rw [ovf_20 _ (by omega), ovf_20 _ (by omega), n3, n2]; have := k_m24 bb.1 ba.2; omega)) (cwV 3 hts (goodIn_app (goodIn_r [Cond.methodLink RX10 130 yX10_times, Cond.instanceMethod yX10_times, Cond.selects RX10 yX10_times yX10_times, Cond.initialized RX10] [1, 2, 3, 4] rfl rfl) (goodIn_sub (fun w9 h9 => bk0 w9 h9) gw_X10_times)) rfl rfl rfl (by decide +kernel) ⟨Nat.le_of_ble_eq_true rfl, Nat.le_of_ble_eq_true rfl⟩) ⟨fun a U g mk q => ⟨q.1, q.2.1, q.2.2.1, LY.moved (u := U) (U := U.calling g mk a) (Vm.Alike.refl U.vm) q.2.2.2⟩, va_recv hK hP (ci := 13) (q0 := 0) rfl (wo_at (by decide) f_28), fun U hU hW => ⟨rfl, by rw [hU]; exact fun q h => hA q (Nat.le_trans hS.1 h), by rw [hU]; exact hP, LY.moved hW.alike hL⟩⟩ rfl rfl hl.1 rfl (lv_room (Nat.le_of_ble_eq_true rfl)) dX10_addFractions_27 ⟨(Nat.le_of_ble_eq_true rfl), (Nat.le_of_ble_eq_true rfl)⟩) hS (fun q _ h => h) (fun q h => h) (fun u8 t8 H1 locs ht8 hvm8 hw_29 hB hz1 hk1 hS => ?_)
  obtain ⟨g_30, rfl⟩ : ∃ z, z = u8 := ⟨_, rfl⟩
  try dsimp only at hw_29 hB
  rw [ht8] at hB
  have hP := hB
  generalize H1 = H at hP hS ⊢
  obtain ⟨fr_31, hV_27⟩ := hw_29
  obtain ⟨vf_32, evf_32⟩ : ∃ z9, z9 = va_up vf_20 2065 (vf_20 (2 * b) * vf_20 (2 * a + 1)) := ⟨_, rfl⟩
  rw [← evf_32] at hV_27
  have uvf_32 : vf_32 2065 = vf_20 (2 * b) * vf_20 (2 * a + 1) := by rw [evf_32]; exact va_up_self _ _ _
  have ovf_32 : ∀ j, j ≠ 2065 → vf_32 j = vf_20 j := fun j hj => by rw [evf_32]; exact va_up_ne _ _ hj
  refine lv_aload_n hx hb dX10_addFractions_30 rfl (lv_at hl 0 rfl) ?_
  refine lv_sipush (v := nI 2033) hx hb dX10_addFractions_31 (by decide +kernel) ?_
  refine lv_iconst (v := nI 2) hx hb dX10_addFractions_34 (by decide +kernel) ?_
  refine lv_iload_n hx hb dX10_addFractions_35 rfl (lv_at hl 2 rfl) ?_
  refine lv_imul hx hb dX10_addFractions_36 ?_
  refine lv_topi (fun x_33 e_34 => ?_)
  obtain rfl : x_33 = nI (2 * a) := e_34.trans (pk_mul 2 a)
  refine lv_iconst (v := nI 1) hx hb dX10_addFractions_37 (by decide +kernel) ?_
  refine lv_iadd hx hb dX10_addFractions_38 ?_
  refine lv_topi (fun x_35 e_36 => ?_)
  obtain rfl : x_35 = nI (2 * a + 1) := e_36.trans (nI_add (2 * a) 1)
  refine lv_iconst (v := nI 2) hx hb dX10_addFractions_39 (by decide +kernel) ?_
  refine lv_iload_n hx hb dX10_addFractions_40 rfl (lv_at hl 3 rfl) ?_
  refine lv_imul hx hb dX10_addFractions_41 ?_
  refine lv_topi (fun x_37 e_38 => ?_)
  obtain rfl : x_37 = nI (2 * b) := e_38.trans (pk_mul 2 b)
  refine lv_iconst (v := nI 1) hx hb dX10_addFractions_42 (by decide +kernel) ?_
  refine lv_iadd hx hb dX10_addFractions_43 ?_
  refine lv_topi (fun x_39 e_40 => ?_)
  obtain rfl : x_39 = nI (2 * b + 1) := e_40.trans (nI_add (2 * b) 1)
  have f_42 : g_30 0 = .inr (13, Rob ad x) := (fr_31 0 (by omega)).trans f_28
  refine va_callv (va_runV (As := [.int (nI 2033), .int (nI (2 * a + 1)), .int (nI (2 * b + 1))]) (rest := []) ⟨hx, hb, hml, hown, hts⟩ (c_X10_times l dC dI A ad cA g_30 x vf_32 2033 (2 * a + 1) (2 * b + 1) hV_27 (by decide) (by omega) (by omega) (by rw [ovf_32 _ (by omega), ovf_20 _ (by omega), ovf_32 _ (by omega), ovf_20 _ (by omega), n2, n4]; have := k_m24 ba.2 bb.2; omega)) (cwV 3 hts (goodIn_app (goodIn_r [Cond.methodLink RX10 130 yX10_times, Cond.instanceMethod yX10_times, Cond.selects RX10 yX10_times yX10_times, Cond.initialized RX10] [1, 2, 3, 4] rfl rfl) (goodIn_sub (fun w9 h9 => bk0 w9 h9) gw_X10_times)) rfl rfl rfl (by decide +kernel) ⟨Nat.le_of_ble_eq_true rfl, Nat.le_of_ble_eq_true rfl⟩) ⟨fun a U g mk q => ⟨q.1, q.2.1, q.2.2.1, LY.moved (u := U) (U := U.calling g mk a) (Vm.Alike.refl U.vm) q.2.2.2⟩, va_recv hK hP (ci := 13) (q0 := 0) rfl (wo_at (by decide) f_42), fun U hU hW => ⟨rfl, by rw [hU]; exact fun q h => hA q (Nat.le_trans hS.1 h), by rw [hU]; exact hP, LY.moved hW.alike hL⟩⟩ rfl rfl hl.1 rfl (lv_room (Nat.le_of_ble_eq_true rfl)) dX10_addFractions_44 ⟨(Nat.le_of_ble_eq_true rfl), (Nat.le_of_ble_eq_true rfl)⟩) hS (fun q _ h => h) (fun q h => h) (fun u8 t8 H1 locs ht8 hvm8 hw_43 hB hz1 hk1 hS => ?_)
  obtain ⟨g_44, rfl⟩ : ∃ z, z = u8 := ⟨_, rfl⟩
  try dsimp only at hw_43 hB
  rw [ht8] at hB
  have hP := hB
  generalize H1 = H at hP hS ⊢
  obtain ⟨fr_45, hV_41⟩ := hw_43
  obtain ⟨vf_46, evf_46⟩ : ∃ z9, z9 = va_up vf_32 2033 (vf_32 (2 * a + 1) * vf_32 (2 * b + 1)) := ⟨_, rfl⟩
  rw [← evf_46] at hV_41
  have uvf_46 : vf_46 2033 = vf_32 (2 * a + 1) * vf_32 (2 * b + 1) := by rw [evf_46]; exact va_up_self _ _ _
  have ovf_46 : ∀ j, j ≠ 2033 → vf_46 j = vf_32 j := fun j hj => by rw [evf_46]; exact va_up_ne _ _ hj
  refine lv_aload_n hx hb dX10_addFractions_47 rfl (lv_at hl 0 rfl) ?_
  refine lv_sipush (v := nI 2032) hx hb dX10_addFractions_48 (by decide +kernel) ?_
  refine lv_sipush (v := nI 2064) hx hb dX10_addFractions_51 (by decide +kernel) ?_
  refine lv_sipush (v := nI 2065) hx hb dX10_addFractions_54 (by decide +kernel) ?_
  have hL9 : vf_46 2064 = pf a * qf b := by rw [ovf_46 _ (by decide), ovf_32 _ (by decide), uvf_20, a1, b2]
  have hR9 : vf_46 2065 = pf b * qf a := by rw [ovf_46 _ (by decide), uvf_32, ovf_20 _ (by omega), ovf_20 _ (by omega), b1, a2]
  have hL8 : (vf_46 2064).natAbs < 2 ^ 2400 := by rw [hL9, Int.natAbs_mul, Int.natAbs_natCast]; exact k_m24 ba.1 bb.2
  have hR8 : (vf_46 2065).natAbs < 2 ^ 2400 := by rw [hR9, Int.natAbs_mul, Int.natAbs_natCast]; exact k_m24 bb.1 ba.2
  have f_48 : g_44 0 = .inr (13, Rob ad x) := (fr_45 0 (by omega)).trans f_42
  refine va_callv (va_runV (As := [.int (nI 2032), .int (nI 2064), .int (nI 2065)]) (rest := []) ⟨hx, hb, hml, hown, hts⟩ (c_X10_add l dC dI A ad cA g_44 x vf_46 2032 2064 2065 hV_41 (by decide) (by decide) (by decide) (by omega)) (cwV 3 hts (goodIn_app (goodIn_r [Cond.methodLink RX10 133 yX10_add, Cond.instanceMethod yX10_add, Cond.selects RX10 yX10_add yX10_add, Cond.initialized RX10] [5, 6, 7, 4] rfl rfl) (goodIn_sub (fun w9 h9 => bk1 w9 h9) gw_X10_add)) rfl rfl rfl (by decide +kernel) ⟨Nat.le_of_ble_eq_true rfl, Nat.le_of_ble_eq_true rfl⟩) ⟨fun a U g mk q => ⟨q.1, q.2.1, q.2.2.1, LY.moved (u := U) (U := U.calling g mk a) (Vm.Alike.refl U.vm) q.2.2.2⟩, va_recv hK hP (ci := 13) (q0 := 0) rfl (wo_at (by decide) f_48), fun U hU hW => ⟨rfl, by rw [hU]; exact fun q h => hA q (Nat.le_trans hS.1 h), by rw [hU]; exact hP, LY.moved hW.alike hL⟩⟩ rfl rfl hl.1 rfl (lv_room (Nat.le_of_ble_eq_true rfl)) dX10_addFractions_57 ⟨(Nat.le_of_ble_eq_true rfl), (Nat.le_of_ble_eq_true rfl)⟩) hS (fun q _ h => h) (fun q h => h) (fun u8 t8 H1 locs ht8 hvm8 hw_49 hB hz1 hk1 hS => ?_)
  obtain ⟨g_50, rfl⟩ : ∃ z, z = u8 := ⟨_, rfl⟩
  try dsimp only at hw_49 hB
  rw [ht8] at hB
  have hP := hB
  generalize H1 = H at hP hS ⊢
  obtain ⟨fr_51, hV_47⟩ := hw_49
  obtain ⟨vf_52, evf_52⟩ : ∃ z9, z9 = va_up vf_46 2032 (vf_46 2064 + vf_46 2065) := ⟨_, rfl⟩
  rw [← evf_52] at hV_47
  have uvf_52 : vf_52 2032 = vf_46 2064 + vf_46 2065 := by rw [evf_52]; exact va_up_self _ _ _
  have ovf_52 : ∀ j, j ≠ 2032 → vf_52 j = vf_46 j := fun j hj => by rw [evf_52]; exact va_up_ne _ _ hj
  refine lv_aload_n hx hb dX10_addFractions_60 rfl (lv_at hl 0 rfl) ?_
  refine lv_sipush (v := nI 1016) hx hb dX10_addFractions_61 (by decide +kernel) ?_
  have hsn : vf_52 (2 * 1016) = pf a * qf b + pf b * qf a := by rw [show 2 * 1016 = 2032 from rfl, uvf_52, hL9, hR9]
  have hsd : vf_52 (2 * 1016 + 1) = ((qf a * qf b : Nat) : Int) := by rw [show 2 * 1016 + 1 = 2033 from rfl, ovf_52 _ (by decide), uvf_46, ovf_32 _ (by omega), ovf_20 _ (by omega), ovf_32 _ (by omega), ovf_20 _ (by omega), a2, b2, Int.natCast_mul]
  have hd0 : 0 < qf a * qf b := Nat.mul_pos a0 b0
  have hd8 := k_m24 ba.2 bb.2
  have f_53 : g_50 0 = .inr (13, Rob ad x) := (fr_51 0 (by omega)).trans f_48
  refine va_callv (va_runV (As := [.int (nI 1016)]) (rest := []) ⟨hx, hb, hml, hown, hts⟩ (c_X10_reduce l dC dI A ad cA g_50 x vf_52 1016 (qf a * qf b) hV_47 (by decide) hsd hd0 (by omega)) (cwV 1 hts (goodIn_app (goodIn_r [Cond.methodLink RX10 121 yX10_reduce, Cond.instanceMethod yX10_reduce, Cond.selects RX10 yX10_reduce yX10_reduce, Cond.initialized RX10] [8, 9, 10, 4] rfl rfl) (goodIn_sub (fun w9 h9 => bk2 w9 h9) gw_X10_reduce)) rfl rfl rfl (by decide +kernel) ⟨Nat.le_of_ble_eq_true rfl, Nat.le_of_ble_eq_true rfl⟩) ⟨fun a U g mk q => ⟨q.1, q.2.1, q.2.2.1, LY.moved (u := U) (U := U.calling g mk a) (Vm.Alike.refl U.vm) q.2.2.2⟩, va_recv hK hP (ci := 13) (q0 := 0) rfl (wo_at (by decide) f_53), fun U hU hW => ⟨rfl, by rw [hU]; exact fun q h => hA q (Nat.le_trans hS.1 h), by rw [hU]; exact hP, LY.moved hW.alike hL⟩⟩ rfl rfl hl.1 rfl (lv_room (Nat.le_of_ble_eq_true rfl)) dX10_addFractions_64 ⟨(Nat.le_of_ble_eq_true rfl), (Nat.le_of_ble_eq_true rfl)⟩) hS (fun q _ h => h) (fun q h => h) (fun u8 t8 H1 locs ht8 hvm8 hw_54 hB hz1 hk1 hS => ?_)
  obtain ⟨g_55, vf2_56⟩ := u8
  try dsimp only at hw_54 hB
  rw [ht8] at hB
  have hP := hB
  generalize H1 = H at hP hS ⊢
  obtain ⟨fr_57, hVr, hr1, hr2, hr3⟩ := hw_54
  rw [hsn] at hr1 hr2
  refine lv_aload_n hx hb dX10_addFractions_67 rfl (lv_at hl 0 rfl) ?_
  refine lv_iload_n hx hb dX10_addFractions_68 rfl (lv_at hl 1 rfl) ?_
  refine lv_sipush (v := nI 1016) hx hb dX10_addFractions_69 (by decide +kernel) ?_
  have hF2 : RF ad cA g_55 x (va_up pf 1016 (rdp (pf a * qf b + pf b * qf a) (qf a * qf b))) (va_up qf 1016 (rdq (pf a * qf b + pf b * qf a) (qf a * qf b))) := RF.up hVr hq (fun f9 h1 h2 => ⟨by rw [hr3 _ (by omega) (by omega) (by omega), ovf_52 _ (by omega), ovf_46 _ (by omega), ovf_32 _ (by omega), ovf_20 _ (by omega)], by rw [hr3 _ (by omega) (by omega) (by omega), ovf_52 _ (by omega), ovf_46 _ (by omega), ovf_32 _ (by omega), ovf_20 _ (by omega)]⟩) hr1 hr2 (rd_red _ hd0)
  have f_58 : g_55 0 = .inr (13, Rob ad x) := (fr_57 0 (by omega)).trans f_53
  refine va_callv (va_runV (As := [.int (nI t), .int (nI 1016)]) (rest := []) ⟨hx, hb, hml, hown, hts⟩ (c_X10_copyFraction l dC dI A ad cA g_55 x (va_up pf 1016 (rdp (pf a * qf b + pf b * qf a) (qf a * qf b))) (va_up qf 1016 (rdq (pf a * qf b + pf b * qf a) (qf a * qf b))) t 1016 hF2 (by omega) (by decide)) (cwV 2 hts (goodIn_app (goodIn_r [Cond.methodLink RX10 136 yX10_copyFraction, Cond.instanceMethod yX10_copyFraction, Cond.selects RX10 yX10_copyFraction yX10_copyFraction, Cond.initialized RX10] [11, 12, 13, 4] rfl rfl) (goodIn_sub (fun w9 h9 => bk3 w9 h9) gw_X10_copyFraction)) rfl rfl rfl (by decide +kernel) ⟨Nat.le_of_ble_eq_true rfl, Nat.le_of_ble_eq_true rfl⟩) ⟨fun a U g mk q => ⟨q.1, q.2.1, q.2.2.1, LY.moved (u := U) (U := U.calling g mk a) (Vm.Alike.refl U.vm) q.2.2.2⟩, va_recv hK hP (ci := 13) (q0 := 0) rfl (wo_at (by decide) f_58), fun U hU hW => ⟨rfl, by rw [hU]; exact fun q h => hA q (Nat.le_trans hS.1 h), by rw [hU]; exact hP, LY.moved hW.alike hL⟩⟩ rfl rfl hl.1 rfl (lv_room (Nat.le_of_ble_eq_true rfl)) dX10_addFractions_72 ⟨(Nat.le_of_ble_eq_true rfl), (Nat.le_of_ble_eq_true rfl)⟩) hS (fun q _ h => h) (fun q h => h) (fun u8 t8 H1 locs ht8 hvm8 hw_59 hB hz1 hk1 hS => ?_)
  obtain ⟨g_60, rfl⟩ : ∃ z, z = u8 := ⟨_, rfl⟩
  try dsimp only at hw_59 hB
  rw [ht8] at hB
  have hP := hB
  generalize H1 = H at hP hS ⊢
  obtain ⟨fr_61, hF3⟩ := hw_59
  refine W.widen (k := 0) (n := 0) (by omega) (by omega) ?_
  exact W.vret hx hb hr (fun t9 ht9 hW9 => ⟨⟨(g_60, va_up (va_up pf 1016 (rdp (pf a * qf b + pf b * qf a) (qf a * qf b))) t (va_up pf 1016 (rdp (pf a * qf b + pf b * qf a) (qf a * qf b)) 1016), va_up (va_up qf 1016 (rdq (pf a * qf b + pf b * qf a) (qf a * qf b))) t (va_up qf 1016 (rdq (pf a * qf b + pf b * qf a) (qf a * qf b)) 1016)), rfl, ⟨(fun (k : Nat) (hk : k ≠ 1 ∧ k ≠ 2 ∧ k ≠ 3) => (fr_61 k (by omega)).trans ((fr_57 k (by omega)).trans ((fr_51 k (by omega)).trans ((fr_45 k (by omega)).trans ((fr_31 k (by omega)).trans ((fr_19 k (by omega)).trans (rfl))))))), hF3, by rw [va_up_self, va_up_self], by rw [va_up_self, va_up_self], fun f9 h1 h2 => ⟨by rw [va_up_ne _ _ h1, va_up_ne _ _ h2], by rw [va_up_ne _ _ h1, va_up_ne _ _ h2]⟩⟩, by show va_P (dC, dI) vwCl _ t9.heap; rw [ht9]; exact hP⟩, hS.F ht9⟩) hS.2.2 dX10_addFractions_75
