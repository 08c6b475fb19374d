section
def wd_X10_reduce : List Cond := .code yX10_reduce cX10_reduce 2 none :: (([.fieldLink RX10 14 "GradientDeskModel" "length" "[I", .methodLink RX10 124 yX10_divisor, .instanceMethod yX10_divisor, .selects RX10 yX10_divisor yX10_divisor, .initialized RX10, .methodLink RX10 127 yX10_divideByG, .instanceMethod yX10_divideByG, .selects RX10 yX10_divideByG yX10_divideByG, .methodLink RX10 87 yX10_piece, .instanceMethod yX10_piece, .selects RX10 yX10_piece yX10_piece, .methodLink RX10 74 yX10_assign, .instanceMethod yX10_assign, .selects RX10 yX10_assign yX10_assign] : List Cond) ++ (u_ws RX10 TX10 29 ++ (wd_X10_divisor ++ (wd_X10_divideByG ++ (wd_X10_piece ++ (wd_X10_assign ++ ([])))))))
theorem gw_X10_reduce : wd_X10_reduce.all goodWord = true := k_allc rfl (k_all (by decide +kernel) (k_all (gu_X10) (k_all (gw_X10_divisor) (k_all (gw_X10_divideByG) (k_all (gw_X10_piece) (k_all (gw_X10_assign) (rfl)))))))
set_option maxHeartbeats 4000000 in
set_option maxRecDepth 100000 in
theorem c_X10_reduce (l : Launch) (dC : Nat → ClassId) (dI : Nat → Nat → Nat) (A : Nat → Prop) (ad : Nat → Nat) (cA : Nat → ClassId) (g : Nat → va_E) (x : Nat → Int32) (vf : Nat → Int) (f : Nat) (q9 : Nat) (hV : RV ad cA g x vf) (hf : f < 1030) (hq9 : vf (2 * f + 1) = (q9 : Int)) (hq0 : 0 < q9) (hq8 : q9 * 2 < 4294967296 ^ 80) : Met l yX10_reduce wd_X10_reduce ({ frames := 50, cells := 0, slots := 0, locals := 1000 }) (va_Pc [.ref (ad 0), .int (nI f)] (PR NSr tyr dC dI A ad cA g)) (va_Qv (fun (u : (Nat → va_E) × (Nat → Int)) => match u with | (g2, vf2) => (∀ k, k ≠ 1 ∧ k ≠ 2 ∧ k ≠ 3 → g2 k = g k) ∧ RV ad cA g2 x vf2 ∧ vf2 (2 * f) = rdp (vf (2 * f)) q9 ∧ vf2 (2 * f + 1) = (rdq (vf (2 * f)) q9 : Int) ∧ (∀ j, j < 2060 → j ≠ 2 * f → j ≠ 2 * f + 1 → vf2 j = vf j)) (fun (u : (Nat → va_E) × (Nat → Int)) (t : State) => va_P (dC, dI) vwCl (wo ad NSr u.1) t.heap) A) (0) (0) A := by
  refine Met.ofW (cc := cX10_reduce) (maxL := 2) (ret := none) (by decide) rfl ?_
  intro p e s m args below meth c s₁ B hml hv
  obtain ⟨rfl, hA, hP, hL⟩ := hv
  have hx := B.exec
  have hb := B.bytes
  have hr := B.returns
  have hts := atoms_spec (ws := wd_X10_reduce) B.pre
  have hown : s.vm.findClass RX10 = some m.cls := findClass_of_methodNamed B.named
  have hlocks := B.notSynchronized
  have hK := hL.1
  have hD : ∀ g, va_D A (wo ad NSr g) := fun g => wo_D hL.2.1 hL.2.2 g
  have hS : va_S A s.heap s.heap [] := va_S.rf
  have bk0 : ∀ w ∈ u_ws RX10 TX10 29, w ∈ wd_X10_reduce := fun _ h => List.mem_cons_of_mem _ (List.mem_append_right _ (List.mem_append_left _ h))
  have bk1 : ∀ w ∈ wd_X10_divisor, w ∈ wd_X10_reduce := fun _ h => List.mem_cons_of_mem _ (List.mem_append_right _ (List.mem_append_right _ (List.mem_append_left _ h)))
  have bk2 : ∀ w ∈ wd_X10_divideByG, w ∈ wd_X10_reduce := fun _ h => List.mem_cons_of_mem _ (List.mem_append_right _ (List.mem_append_right _ (List.mem_append_right _ (List.mem_append_left _ h))))
  have bk3 : ∀ w ∈ wd_X10_piece, w ∈ wd_X10_reduce := fun _ h => List.mem_cons_of_mem _ (List.mem_append_right _ (List.mem_append_right _ (List.mem_append_right _ (List.mem_append_right _ (List.mem_append_left _ h)))))
  have bk4 : ∀ w ∈ wd_X10_assign, w ∈ wd_X10_reduce := fun _ h => List.mem_cons_of_mem _ (List.mem_append_right _ (List.mem_append_right _ (List.mem_append_right _ (List.mem_append_right _ (List.mem_append_right _ (List.mem_append_left _ h))))))
  have hl := lv_entry ([.ref (ad 0), .int (nI f)]) (n := 2) (Nat.le_of_ble_eq_true rfl)
  rw [lg_entry_eq]
  generalize (lg_sl ([.ref (ad 0), .int (nI f)]) ++ List.replicate (2 - (lg_sl ([.ref (ad 0), .int (nI f)])).length) Slot.unset).toArray = ls at hl ⊢
  have hl : lv_has ls 2 [(0, .ref (ad 0)), (1, .int (nI f))] := hl
  have hc_1 := hV
  obtain ⟨pnz_2, lnz_2, bnz_2, hRz_2, hvz_2⟩ := hc_1
  obtain ⟨r_3, r_4, r_5, r_6, r_7, r_8, r_9⟩ := hRz_2
  have hz0 := (hvz_2 (2 * f) (by omega)).zero
  have hl0 := r_8 (2 * f)
  refine lv_aload_n hx hb dX10_reduce_0 rfl (lv_at hl 0 rfl) ?_
  refine m_get (D := (dC, dI)) (v := .ref (ad 2)) (C := RX10) (T := TX10) (N := 29) hx hb hts bk0 hown hK hP 0 (by decide) r_3 rfl 2 (by decide) (hts (.fieldLink RX10 14 "GradientDeskModel" "length" "[I") (List.mem_of_getElem? (i := 1) rfl)) (fun _ h9 => h9) rfl dX10_reduce_1 ?_
  refine lv_iconst (v := nI 2) hx hb dX10_reduce_4 (by decide +kernel) ?_
  refine lv_iload_n hx hb dX10_reduce_5 rfl (lv_at hl 1 rfl) ?_
  refine lv_imul hx hb dX10_reduce_6 ?_
  refine lv_topi (fun x_10 e_11 => ?_)
  obtain rfl : x_10 = nI (2 * f) := e_11.trans (pk_mul 2 f)
  refine m_iald hx hb hK hP 2 (by decide) rfl r_5 (i := 2 * f) (by omega) (by decide) dX10_reduce_7 ?_
  have b_12 := r_8 (2 * f)
  refine lv_if_ne (tgt := 22) hx hb dX10_reduce_8 (by decide) (fun c_13 => ?_) (fun c_13 => ?_)
  · have c_13 := mt (nI_eq (a := (lnz_2 (2 * f))) (b := 0) (by omega) (by decide)).mpr c_13
    refine lv_aload_n hx hb dX10_reduce_22 rfl (lv_at hl 0 rfl) ?_
    refine lv_iconst (v := nI 2) hx hb dX10_reduce_23 (by decide +kernel) ?_
    refine lv_iload_n hx hb dX10_reduce_24 rfl (lv_at hl 1 rfl) ?_
    refine lv_imul hx hb dX10_reduce_25 ?_
    refine lv_topi (fun x_14 e_15 => ?_)
    obtain rfl : x_14 = nI (2 * f) := e_15.trans (pk_mul 2 f)
    refine lv_iconst (v := nI 2) hx hb dX10_reduce_26 (by decide +kernel) ?_
    refine lv_iload_n hx hb dX10_reduce_27 rfl (lv_at hl 1 rfl) ?_
    refine lv_imul hx hb dX10_reduce_28 ?_
    refine lv_topi (fun x_16 e_17 => ?_)
    obtain rfl : x_16 = nI (2 * f) := e_17.trans (pk_mul 2 f)
    refine lv_iconst (v := nI 1) hx hb dX10_reduce_29 (by decide +kernel) ?_
    refine lv_iadd hx hb dX10_reduce_30 ?_
    refine lv_topi (fun x_18 e_19 => ?_)
    obtain rfl : x_18 = nI (2 * f + 1) := e_19.trans (nI_add (2 * f) 1)
    have hvn : vf (2 * f) ≠ 0 := fun h9 => absurd (hz0.mpr h9) (by omega)
    refine va_callv (va_runV (As := [.int (nI (2 * f)), .int (nI (2 * f + 1))]) (rest := []) ⟨hx, hb, hml, hown, hts⟩ (c_X10_divisor l dC dI A ad cA g x vf (2 * f) (2 * f + 1) hV (by omega) (by omega) hvn (by omega)) (cwV 2 hts (goodIn_app (goodIn_r [Cond.methodLink RX10 124 yX10_divisor, Cond.instanceMethod yX10_divisor, Cond.selects RX10 yX10_divisor yX10_divisor, Cond.initialized RX10] [2, 3, 4, 5] rfl rfl) (goodIn_sub (fun w9 h9 => bk1 w9 h9) gw_X10_divisor)) rfl rfl rfl (by decide +kernel) ⟨Nat.le_of_ble_eq_true rfl, Nat.le_of_ble_eq_true rfl⟩) ⟨fun a U g mk q => ⟨q.1, q.2.1, q.2.2.1, LY.moved (u := U) (U := U.calling g mk a) (Vm.Alike.refl U.vm) q.2.2.2⟩, va_recv hK hP (ci := 13) (q0 := 0) rfl (wo_at (by decide) r_3), fun U hU hW => ⟨rfl, by rw [hU]; exact fun q h => hA q (Nat.le_trans hS.1 h), by rw [hU]; exact hP, LY.moved hW.alike hL⟩⟩ rfl rfl hl.1 rfl (lv_room (Nat.le_of_ble_eq_true rfl)) dX10_reduce_31 ⟨(Nat.le_of_ble_eq_true rfl), (Nat.le_of_ble_eq_true rfl)⟩) hS (fun q _ h => h) (fun q h => h) (fun u8 t8 H1 locs ht8 hvm8 hw_20 hB hz1 hk1 hS => ?_)
    obtain ⟨g_21, vf2_22⟩ := u8
    try dsimp only at hw_20 hB
    rw [ht8] at hB
    have hP := hB
    generalize H1 = H at hP hS ⊢
    obtain ⟨fr_23, hVd, hGd, hOd⟩ := hw_20
    obtain ⟨D9, hD9⟩ : ∃ z, z = Nat.gcd (vf (2 * f)).natAbs q9 := ⟨_, rfl⟩
    rw [show (vf (2 * f + 1)).natAbs = q9 from by omega, ← hD9] at hGd
    have hDp : 0 < D9 := by rw [hD9]; exact Nat.gcd_pos_of_pos_right _ hq0
    have hDl : D9 ≤ q9 := by rw [hD9]; exact Nat.gcd_le_right _ hq0
    have hd1 : D9 ∣ (vf (2 * f)).natAbs := by rw [hD9]; exact Nat.gcd_dvd_left _ _
    have hd2 : D9 ∣ q9 := by rw [hD9]; exact Nat.gcd_dvd_right _ _
    have hc_24 := hVd
    obtain ⟨pnz_25, lnz_25, bnz_25, hRz_25, hvz_25⟩ := hc_24
    obtain ⟨r_26, r_27, r_28, r_29, r_30, r_31, r_32⟩ := hRz_25
    have hvG := hvz_25 2060 (by decide)
    have lG := hvG.1
    refine lv_aload_n hx hb dX10_reduce_34 rfl (lv_at hl 0 rfl) ?_
    refine m_get (D := (dC, dI)) (v := .ref (ad 2)) (C := RX10) (T := TX10) (N := 29) hx hb hts bk0 hown hK hP 0 (by decide) r_26 rfl 2 (by decide) (hts (.fieldLink RX10 14 "GradientDeskModel" "length" "[I") (List.mem_of_getElem? (i := 1) rfl)) (fun _ h9 => h9) rfl dX10_reduce_35 ?_
    refine lv_sipush (v := nI 2060) hx hb dX10_reduce_38 (by decide +kernel) ?_
    refine m_iald hx hb hK hP 2 (by decide) rfl r_28 (i := 2060) (by decide) (by decide) dX10_reduce_41 ?_
    have b_33 := r_31 2060
    refine lv_iconst (v := nI 1) hx hb dX10_reduce_42 (by decide +kernel) ?_
    refine lv_icmp_gt (tgt := 59) hx hb dX10_reduce_43 (by decide) (fun c_34 => ?_) (fun c_34 => ?_)
    · have c_34 := (nI_ltI (a := 1) (b := (lnz_25 2060)) (by decide) (by omega)).mp c_34
      refine lv_aload_n hx hb dX10_reduce_59 rfl (lv_at hl 0 rfl) ?_
      refine lv_iconst (v := nI 2) hx hb dX10_reduce_60 (by decide +kernel) ?_
      refine lv_iload_n hx hb dX10_reduce_61 rfl (lv_at hl 1 rfl) ?_
      refine lv_imul hx hb dX10_reduce_62 ?_
      refine lv_topi (fun x_35 e_36 => ?_)
      obtain rfl : x_35 = nI (2 * f) := e_36.trans (pk_mul 2 f)
      refine va_callv (va_runV (As := [.int (nI (2 * f))]) (rest := []) ⟨hx, hb, hml, hown, hts⟩ (c_X10_divideByG l dC dI A ad cA g_21 x vf2_22 (2 * f) D9 hVd (by omega) hGd hDp (by rw [hOd _ (by omega) (by omega)]; exact hd1) (by omega)) (cwV 1 hts (goodIn_app (goodIn_r [Cond.methodLink RX10 127 yX10_divideByG, Cond.instanceMethod yX10_divideByG, Cond.selects RX10 yX10_divideByG yX10_divideByG, Cond.initialized RX10] [6, 7, 8, 5] rfl rfl) (goodIn_sub (fun w9 h9 => bk2 w9 h9) gw_X10_divideByG)) rfl rfl rfl (by decide +kernel) ⟨Nat.le_of_ble_eq_true rfl, Nat.le_of_ble_eq_true rfl⟩) ⟨fun a U g mk q => ⟨q.1, q.2.1, q.2.2.1, LY.moved (u := U) (U := U.calling g mk a) (Vm.Alike.refl U.vm) q.2.2.2⟩, va_recv hK hP (ci := 13) (q0 := 0) rfl (wo_at (by decide) r_26), fun U hU hW => ⟨rfl, by rw [hU]; exact fun q h => hA q (Nat.le_trans hS.1 h), by rw [hU]; exact hP, LY.moved hW.alike hL⟩⟩ rfl rfl hl.1 rfl (lv_room (Nat.le_of_ble_eq_true rfl)) dX10_reduce_63 ⟨(Nat.le_of_ble_eq_true rfl), (Nat.le_of_ble_eq_true rfl)⟩) hS (fun q _ h => h) (fun q h => h) (fun u8 t8 H1 locs ht8 hvm8 hw_38 hB hz1 hk1 hS => ?_)
      obtain ⟨g_39, vf2_40⟩ := u8
      try dsimp only at hw_38 hB
      rw [ht8] at hB
      have hP := hB
      generalize H1 = H at hP hS ⊢
      obtain ⟨fr_41, hVe, hUe, hOe⟩ := hw_38
      refine lv_aload_n hx hb dX10_reduce_66 rfl (lv_at hl 0 rfl) ?_
      refine lv_iconst (v := nI 2) hx hb dX10_reduce_67 (by decide +kernel) ?_
      refine lv_iload_n hx hb dX10_reduce_68 rfl (lv_at hl 1 rfl) ?_
      refine lv_imul hx hb dX10_reduce_69 ?_
      refine lv_topi (fun x_42 e_43 => ?_)
      obtain rfl : x_42 = nI (2 * f) := e_43.trans (pk_mul 2 f)
      refine lv_iconst (v := nI 1) hx hb dX10_reduce_70 (by decide +kernel) ?_
      refine lv_iadd hx hb dX10_reduce_71 ?_
      refine lv_topi (fun x_44 e_45 => ?_)
      obtain rfl : x_44 = nI (2 * f + 1) := e_45.trans (nI_add (2 * f) 1)
      have f_47 : g_39 0 = .inr (13, Rob ad x) := (fr_41 0 (by omega)).trans r_26
      refine va_callv (va_runV (As := [.int (nI (2 * f + 1))]) (rest := []) ⟨hx, hb, hml, hown, hts⟩ (c_X10_divideByG l dC dI A ad cA g_39 x vf2_40 (2 * f + 1) D9 hVe (by omega) (by rw [hOe _ (by omega) (by decide) (by decide)]; exact hGd) hDp (by rw [hOe _ (by omega) (by omega) (by omega), hOd _ (by omega) (by omega), hq9]; exact hd2) (by omega)) (cwV 1 hts (goodIn_app (goodIn_r [Cond.methodLink RX10 127 yX10_divideByG, Cond.instanceMethod yX10_divideByG, Cond.selects RX10 yX10_divideByG yX10_divideByG, Cond.initialized RX10] [6, 7, 8, 5] rfl rfl) (goodIn_sub (fun w9 h9 => bk2 w9 h9) gw_X10_divideByG)) rfl rfl rfl (by decide +kernel) ⟨Nat.le_of_ble_eq_true rfl, Nat.le_of_ble_eq_true rfl⟩) ⟨fun a U g mk q => ⟨q.1, q.2.1, q.2.2.1, LY.moved (u := U) (U := U.calling g mk a) (Vm.Alike.refl U.vm) q.2.2.2⟩, va_recv hK hP (ci := 13) (q0 := 0) rfl (wo_at (by decide) f_47), fun U hU hW => ⟨rfl, by rw [hU]; exact fun q h => hA q (Nat.le_trans hS.1 h), by rw [hU]; exact hP, LY.moved hW.alike hL⟩⟩ rfl rfl hl.1 rfl (lv_room (Nat.le_of_ble_eq_true rfl)) dX10_reduce_72 ⟨(Nat.le_of_ble_eq_true rfl), (Nat.le_of_ble_eq_true rfl)⟩) hS (fun q _ h => h) (fun q h => h) (fun u8 t8 H1 locs ht8 hvm8 hw_48 hB hz1 hk1 hS => ?_)
      obtain ⟨g_49, vf2_50⟩ := u8
      try dsimp only at hw_48 hB
      rw [ht8] at hB
      have hP := hB
      generalize H1 = H at hP hS ⊢
      obtain ⟨fr_51, hVk, hUk, hOk⟩ := hw_48
      refine W.widen (k := 0) (n := 0) (by omega) (by omega) ?_
      exact W.vret hx hb hr (fun t9 ht9 hW9 => ⟨⟨(g_49, vf2_50), rfl, ⟨(fun (k : Nat) (hk : k ≠ 1 ∧ k ≠ 2 ∧ k ≠ 3) => (fr_51 k (by omega)).trans ((fr_41 k (by omega)).trans ((fr_23 k (by omega)).trans (rfl)))), hVk, by rw [hOk _ (by omega) (by omega) (by omega), hUe, hOd _ (by omega) (by omega), hD9]; rfl, by rw [hUk, hOe _ (by omega) (by omega) (by omega), hOd _ (by omega) (by omega), hq9, hD9]; rfl, fun j h1 h2 h3 => by rw [hOk j h3 (by omega) (by omega), hOe j h2 (by omega) (by omega), hOd j (by omega) (by omega)]⟩, by show va_P (dC, dI) vwCl _ t9.heap; rw [ht9]; exact hP⟩, hS.F ht9⟩) hS.2.2 dX10_reduce_75
    · have c_34 := mt (nI_ltI (a := 1) (b := (lnz_25 2060)) (by decide) (by omega)).mpr c_34
      refine lv_aload_n hx hb dX10_reduce_46 rfl (lv_at hl 0 rfl) ?_
      refine lv_sipush (v := nI 2060) hx hb dX10_reduce_47 (by decide +kernel) ?_
      refine lv_iconst (v := nI 0) hx hb dX10_reduce_50 (by decide +kernel) ?_
      have hR_52 : RN ad cA g_21 x pnz_25 lnz_25 bnz_25 := ⟨r_26, r_27, r_28, r_29, r_30, r_31, r_32⟩
      refine va_calll (va_runV (As := [.int (nI 2060), .int (nI 0)]) (rest := []) ⟨hx, hb, hml, hown, hts⟩ (c_X10_piece l dC dI A ad cA g_21 x pnz_25 lnz_25 bnz_25 2060 0 hR_52 (by omega) lG (by omega)) (cwV 2 hts (goodIn_app (goodIn_r [Cond.methodLink RX10 87 yX10_piece, Cond.instanceMethod yX10_piece, Cond.selects RX10 yX10_piece yX10_piece, Cond.initialized RX10] [9, 10, 11, 5] rfl rfl) (goodIn_sub (fun w9 h9 => bk3 w9 h9) gw_X10_piece)) rfl rfl rfl (by decide +kernel) ⟨Nat.le_of_ble_eq_true rfl, Nat.le_of_ble_eq_true rfl⟩) ⟨fun a U g mk q => ⟨q.1, q.2.1, q.2.2.1, LY.moved (u := U) (U := U.calling g mk a) (Vm.Alike.refl U.vm) q.2.2.2⟩, va_recv hK hP (ci := 13) (q0 := 0) rfl (wo_at (by decide) r_26), fun U hU hW => ⟨rfl, by rw [hU]; exact fun q h => hA q (Nat.le_trans hS.1 h), by rw [hU]; exact hP, LY.moved hW.alike hL⟩⟩ rfl rfl hl.1 rfl (lv_room (Nat.le_of_ble_eq_true rfl)) dX10_reduce_51 ⟨(Nat.le_of_ble_eq_true rfl), (Nat.le_of_ble_eq_true rfl)⟩) hS (fun q _ h => h) (fun q h => h) (fun r_53 u8 t8 H1 locs ht8 hvm8 hw_54 hB hz1 hk1 hS => ?_)
      obtain ⟨⟩ := u8
      try dsimp only at hw_54 hB
      rw [ht8] at hB
      have hP := hB
      generalize H1 = H at hP hS ⊢
      obtain rfl := hw_54
      rw [show pc9 pnz_25 lnz_25 2060 0 = dgt D9 0 from (by rw [hvG.pc 0, hGd]; congr 1)]
      obtain ⟨n_55, hn_55⟩ : ∃ z, z = dgt D9 0 := ⟨_, rfl⟩
      rw [← hn_55]
      have bn_55 : n_55 < 4294967296 := by rw [hn_55]; exact dgt_lt _ _
      refine lv_lconst (v := lN 1) hx hb dX10_reduce_54 (by decide +kernel) ?_
      refine W.lcmp hx hb dX10_reduce_55 ?_
      refine lv_if_eq (tgt := 75) hx hb dX10_reduce_56 (by decide) (fun c_56 => ?_) (fun c_56 => ?_)
      · have c_56 := (pk_lEQ (a := n_55) (b := 1) (by omega) (by decide)).mp ((k_cmp_eq (lN n_55) (lN 1)).mp c_56)
        have hD1 : D9 = 1 := by have h9 : D9 < 4294967296 := k_one hvG hGd (by omega); rw [dgt_0] at hn_55; omega
        rw [hD1] at hD9
        obtain ⟨ho1, ho2⟩ := rd_one hD9.symm
        refine W.widen (k := 0) (n := 0) (by omega) (by omega) ?_
        exact W.vret hx hb hr (fun t9 ht9 hW9 => ⟨⟨(g_21, vf2_22), rfl, ⟨(fun (k : Nat) (hk : k ≠ 1 ∧ k ≠ 2 ∧ k ≠ 3) => (fr_23 k (by omega)).trans (rfl)), hVd, by rw [hOd _ (by omega) (by omega), ho1], by rw [hOd _ (by omega) (by omega), hq9, ho2], fun j h1 h2 h3 => hOd j (by omega) (by omega)⟩, by show va_P (dC, dI) vwCl _ t9.heap; rw [ht9]; exact hP⟩, hS.F ht9⟩) hS.2.2 dX10_reduce_75
      · have c_56 := mt (pk_lEQ (a := n_55) (b := 1) (by omega) (by decide)).mpr (mt (k_cmp_eq (lN n_55) (lN 1)).mpr c_56)
        refine lv_aload_n hx hb dX10_reduce_59 rfl (lv_at hl 0 rfl) ?_
        refine lv_iconst (v := nI 2) hx hb dX10_reduce_60 (by decide +kernel) ?_
        refine lv_iload_n hx hb dX10_reduce_61 rfl (lv_at hl 1 rfl) ?_
        refine lv_imul hx hb dX10_reduce_62 ?_
        refine lv_topi (fun x_57 e_58 => ?_)
        obtain rfl : x_57 = nI (2 * f) := e_58.trans (pk_mul 2 f)
        refine va_callv (va_runV (As := [.int (nI (2 * f))]) (rest := []) ⟨hx, hb, hml, hown, hts⟩ (c_X10_divideByG l dC dI A ad cA g_21 x vf2_22 (2 * f) D9 hVd (by omega) hGd hDp (by rw [hOd _ (by omega) (by omega)]; exact hd1) (by omega)) (cwV 1 hts (goodIn_app (goodIn_r [Cond.methodLink RX10 127 yX10_divideByG, Cond.instanceMethod yX10_divideByG, Cond.selects RX10 yX10_divideByG yX10_divideByG, Cond.initialized RX10] [6, 7, 8, 5] rfl rfl) (goodIn_sub (fun w9 h9 => bk2 w9 h9) gw_X10_divideByG)) rfl rfl rfl (by decide +kernel) ⟨Nat.le_of_ble_eq_true rfl, Nat.le_of_ble_eq_true rfl⟩) ⟨fun a U g mk q => ⟨q.1, q.2.1, q.2.2.1, LY.moved (u := U) (U := U.calling g mk a) (Vm.Alike.refl U.vm) q.2.2.2⟩, va_recv hK hP (ci := 13) (q0 := 0) rfl (wo_at (by decide) r_26), fun U hU hW => ⟨rfl, by rw [hU]; exact fun q h => hA q (Nat.le_trans hS.1 h), by rw [hU]; exact hP, LY.moved hW.alike hL⟩⟩ rfl rfl hl.1 rfl (lv_room (Nat.le_of_ble_eq_true rfl)) dX10_reduce_63 ⟨(Nat.le_of_ble_eq_true rfl), (Nat.le_of_ble_eq_true rfl)⟩) hS (fun q _ h => h) (fun q h => h) (fun u8 t8 H1 locs ht8 hvm8 hw_60 hB hz1 hk1 hS => ?_)
        obtain ⟨g_61, vf2_62⟩ := u8
        try dsimp only at hw_60 hB
        rw [ht8] at hB
        have hP := hB
        generalize H1 = H at hP hS ⊢
        obtain ⟨fr_63, hVe, hUe, hOe⟩ := hw_60
        refine lv_aload_n hx hb dX10_reduce_66 rfl (lv_at hl 0 rfl) ?_
        refine lv_iconst (v := nI 2) hx hb dX10_reduce_67 (by decide +kernel) ?_
        refine lv_iload_n hx hb dX10_reduce_68 rfl (lv_at hl 1 rfl) ?_
        refine lv_imul hx hb dX10_reduce_69 ?_
        refine lv_topi (fun x_64 e_65 => ?_)
        obtain rfl : x_64 = nI (2 * f) := e_65.trans (pk_mul 2 f)
        refine lv_iconst (v := nI 1) hx hb dX10_reduce_70 (by decide +kernel) ?_
        refine lv_iadd hx hb dX10_reduce_71 ?_
        refine lv_topi (fun x_66 e_67 => ?_)
        obtain rfl : x_66 = nI (2 * f + 1) := e_67.trans (nI_add (2 * f) 1)
        have f_69 : g_61 0 = .inr (13, Rob ad x) := (fr_63 0 (by omega)).trans r_26
        refine va_callv (va_runV (As := [.int (nI (2 * f + 1))]) (rest := []) ⟨hx, hb, hml, hown, hts⟩ (c_X10_divideByG l dC dI A ad cA g_61 x vf2_62 (2 * f + 1) D9 hVe (by omega) (by rw [hOe _ (by omega) (by decide) (by decide)]; exact hGd) hDp (by rw [hOe _ (by omega) (by omega) (by omega), hOd _ (by omega) (by omega), hq9]; exact hd2) (by omega)) (cwV 1 hts (goodIn_app (goodIn_r [Cond.methodLink RX10 127 yX10_divideByG, Cond.instanceMethod yX10_divideByG, Cond.selects RX10 yX10_divideByG yX10_divideByG, Cond.initialized RX10] [6, 7, 8, 5] rfl rfl) (goodIn_sub (fun w9 h9 => bk2 w9 h9) gw_X10_divideByG)) rfl rfl rfl (by decide +kernel) ⟨Nat.le_of_ble_eq_true rfl, Nat.le_of_ble_eq_true rfl⟩) ⟨fun a U g mk q => ⟨q.1, q.2.1, q.2.2.1, LY.moved (u := U) (U := U.calling g mk a) (Vm.Alike.refl U.vm) q.2.2.2⟩, va_recv hK hP (ci := 13) (q0 := 0) rfl (wo_at (by decide) f_69), fun U hU hW => ⟨rfl, by rw [hU]; exact fun q h => hA q (Nat.le_trans hS.1 h), by rw [hU]; exact hP, LY.moved hW.alike hL⟩⟩ rfl rfl hl.1 rfl (lv_room (Nat.le_of_ble_eq_true rfl)) dX10_reduce_72 ⟨(Nat.le_of_ble_eq_true rfl), (Nat.le_of_ble_eq_true rfl)⟩) hS (fun q _ h => h) (fun q h => h) (fun u8 t8 H1 locs ht8 hvm8 hw_70 hB hz1 hk1 hS => ?_)
        obtain ⟨g_71, vf2_72⟩ := u8
        try dsimp only at hw_70 hB
        rw [ht8] at hB
        have hP := hB
        generalize H1 = H at hP hS ⊢
        obtain ⟨fr_73, hVk, hUk, hOk⟩ := hw_70
        refine W.widen (k := 0) (n := 0) (by omega) (by omega) ?_
        exact W.vret hx hb hr (fun t9 ht9 hW9 => ⟨⟨(g_71, vf2_72), rfl, ⟨(fun (k : Nat) (hk : k ≠ 1 ∧ k ≠ 2 ∧ k ≠ 3) => (fr_73 k (by omega)).trans ((fr_63 k (by omega)).trans ((fr_23 k (by omega)).trans (rfl)))), hVk, by rw [hOk _ (by omega) (by omega) (by omega), hUe, hOd _ (by omega) (by omega), hD9]; rfl, by rw [hUk, hOe _ (by omega) (by omega) (by omega), hOd _ (by omega) (by omega), hq9, hD9]; rfl, fun j h1 h2 h3 => by rw [hOk j h3 (by omega) (by omega), hOe j h2 (by omega) (by omega), hOd j (by omega) (by omega)]⟩, by show va_P (dC, dI) vwCl _ t9.heap; rw [ht9]; exact hP⟩, hS.F ht9⟩) hS.2.2 dX10_reduce_75
  · have c_13 := (nI_eq (a := (lnz_2 (2 * f))) (b := 0) (by omega) (by decide)).mp c_13
    refine lv_aload_n hx hb dX10_reduce_11 rfl (lv_at hl 0 rfl) ?_
    refine lv_iconst (v := nI 2) hx hb dX10_reduce_12 (by decide +kernel) ?_
    refine lv_iload_n hx hb dX10_reduce_13 rfl (lv_at hl 1 rfl) ?_
    refine lv_imul hx hb dX10_reduce_14 ?_
    refine lv_topi (fun x_74 e_75 => ?_)
    obtain rfl : x_74 = nI (2 * f) := e_75.trans (pk_mul 2 f)
    refine lv_iconst (v := nI 1) hx hb dX10_reduce_15 (by decide +kernel) ?_
    refine lv_iadd hx hb dX10_reduce_16 ?_
    refine lv_topi (fun x_76 e_77 => ?_)
    obtain rfl : x_76 = nI (2 * f + 1) := e_77.trans (nI_add (2 * f) 1)
    refine lv_lconst (v := lN 1) hx hb dX10_reduce_17 (by decide +kernel) ?_
    have hvz : vf (2 * f) = 0 := hz0.mp (by omega)
    refine va_callv (va_runV (As := [.int (nI (2 * f + 1)), .long (lN 1)]) (rest := []) ⟨hx, hb, hml, hown, hts⟩ (c_X10_assign l dC dI A ad cA g x vf (2 * f + 1) (lN 1) 1 hV (by omega) (by decide) (by decide)) (cwV 2 hts (goodIn_app (goodIn_r [Cond.methodLink RX10 74 yX10_assign, Cond.instanceMethod yX10_assign, Cond.selects RX10 yX10_assign yX10_assign, Cond.initialized RX10] [12, 13, 14, 5] rfl rfl) (goodIn_sub (fun w9 h9 => bk4 w9 h9) gw_X10_assign)) rfl rfl rfl (by decide +kernel) ⟨Nat.le_of_ble_eq_true rfl, Nat.le_of_ble_eq_true rfl⟩) ⟨fun a U g mk q => ⟨q.1, q.2.1, q.2.2.1, LY.moved (u := U) (U := U.calling g mk a) (Vm.Alike.refl U.vm) q.2.2.2⟩, va_recv hK hP (ci := 13) (q0 := 0) rfl (wo_at (by decide) r_3), fun U hU hW => ⟨rfl, by rw [hU]; exact fun q h => hA q (Nat.le_trans hS.1 h), by rw [hU]; exact hP, LY.moved hW.alike hL⟩⟩ rfl rfl hl.1 rfl (lv_room (Nat.le_of_ble_eq_true rfl)) dX10_reduce_18 ⟨(Nat.le_of_ble_eq_true rfl), (Nat.le_of_ble_eq_true rfl)⟩) hS (fun q _ h => h) (fun q h => h) (fun u8 t8 H1 locs ht8 hvm8 hw_79 hB hz1 hk1 hS => ?_)
    obtain ⟨g_80, rfl⟩ : ∃ z, z = u8 := ⟨_, rfl⟩
    try dsimp only at hw_79 hB
    rw [ht8] at hB
    have hP := hB
    generalize H1 = H at hP hS ⊢
    obtain ⟨fr_81, hV_78⟩ := hw_79
    obtain ⟨vf_82, evf_82⟩ : ∃ z9, z9 = va_up vf (2 * f + 1) (1) := ⟨_, rfl⟩
    rw [← evf_82] at hV_78
    have uvf_82 : vf_82 (2 * f + 1) = 1 := by rw [evf_82]; exact va_up_self _ _ _
    have ovf_82 : ∀ j, j ≠ 2 * f + 1 → vf_82 j = vf j := fun j hj => by rw [evf_82]; exact va_up_ne _ _ hj
    refine W.widen (k := 0) (n := 0) (by omega) (by omega) ?_
    exact W.vret hx hb hr (fun t9 ht9 hW9 => ⟨⟨(g_80, vf_82), rfl, ⟨(fun (k : Nat) (hk : k ≠ 1 ∧ k ≠ 2 ∧ k ≠ 3) => (fr_81 k (by omega)).trans (rfl)), hV_78, by rw [ovf_82 _ (by omega), hvz, (rd_zero hq0).1], by rw [uvf_82, hvz, (rd_zero hq0).2]; rfl, fun j h1 h2 h3 => ovf_82 j h3⟩, by show va_P (dC, dI) vwCl _ t9.heap; rw [ht9]; exact hP⟩, hS.F ht9⟩) hS.2.2 dX10_reduce_21
def wd_X10_copyFraction : List Cond := .code yX10_copyFraction cX10_copyFraction 3 none :: (([.methodLink RX10 92 yX10_copy, .instanceMethod yX10_copy, .selects RX10 yX10_copy yX10_copy, .initialized RX10] : List Cond) ++ (wd_X10_copy ++ ([])))
theorem gw_X10_copyFraction : wd_X10_copyFraction.all goodWord = true := k_allc rfl (k_all (by decide +kernel) (k_all (gw_X10_copy) (rfl)))
set_option maxHeartbeats 4000000 in
set_option maxRecDepth 100000 in
theorem c_X10_copyFraction (l : Launch) (dC : Nat → ClassId) (dI : Nat → Nat → Nat) (A : Nat → Prop) (ad : Nat → Nat) (cA : Nat → ClassId) (g : Nat → va_E) (x : Nat → Int32) (pf : Nat → Int) (qf : Nat → Nat) (t : Nat) (a : Nat) (hF : RF ad cA g x pf qf) (ht : t < 1030) (ia : a < 1030) : Met l yX10_copyFraction wd_X10_copyFraction ({ frames := 20, cells := 0, slots := 0, locals := 400 }) (va_Pc [.ref (ad 0), .int (nI t), .int (nI a)] (PR NSr tyr dC dI A ad cA g)) (va_Qv (fun (u : Nat → va_E) => match u with | g2 => (∀ k, k ≠ 1 ∧ k ≠ 2 ∧ k ≠ 3 → g2 k = g k) ∧ RF ad cA g2 x (va_up pf t (pf a)) (va_up qf t (qf a))) (fun (u : Nat → va_E) (t : State) => va_P (dC, dI) vwCl (wo ad NSr u) t.heap) A) (0) (0) A := by
  refine Met.ofW (cc := cX10_copyFraction) (maxL := 3) (ret := none) (by decide) rfl ?_
  intro p e s m args below meth c s₁ B hml hv
  obtain ⟨rfl, hA, hP, hL⟩ := hv
  have hx := B.exec
  have hb := B.bytes
  have hr := B.returns
  have hts := atoms_spec (ws := wd_X10_copyFraction) B.pre
  have hown : s.vm.findClass RX10 = some m.cls := findClass_of_methodNamed B.named
  have hlocks := B.notSynchronized
  have hK := hL.1
  have hD : ∀ g, va_D A (wo ad NSr g) := fun g => wo_D hL.2.1 hL.2.2 g
  have hS : va_S A s.heap s.heap [] := va_S.rf
  have bk0 : ∀ w ∈ wd_X10_copy, w ∈ wd_X10_copyFraction := fun _ h => List.mem_cons_of_mem _ (List.mem_append_right _ (List.mem_append_left _ h))
  have hl := lv_entry ([.ref (ad 0), .int (nI t), .int (nI a)]) (n := 3) (Nat.le_of_ble_eq_true rfl)
  rw [lg_entry_eq]
  generalize (lg_sl ([.ref (ad 0), .int (nI t), .int (nI a)]) ++ List.replicate (3 - (lg_sl ([.ref (ad 0), .int (nI t), .int (nI a)])).length) Slot.unset).toArray = ls at hl ⊢
  have hl : lv_has ls 3 [(0, .ref (ad 0)), (1, .int (nI t)), (2, .int (nI a))] := hl
  obtain ⟨vf, hV, hq⟩ := hF
  have hc_1 := hV
  obtain ⟨pnz_2, lnz_2, bnz_2, hRz_2, hvz_2⟩ := hc_1
  obtain ⟨r_3, r_4, r_5, r_6, r_7, r_8, r_9⟩ := hRz_2
  refine lv_aload_n hx hb dX10_copyFraction_0 rfl (lv_at hl 0 rfl) ?_
  refine lv_iconst (v := nI 2) hx hb dX10_copyFraction_1 (by decide +kernel) ?_
  refine lv_iload_n hx hb dX10_copyFraction_2 rfl (lv_at hl 1 rfl) ?_
  refine lv_imul hx hb dX10_copyFraction_3 ?_
  refine lv_topi (fun x_10 e_11 => ?_)
  obtain rfl : x_10 = nI (2 * t) := e_11.trans (pk_mul 2 t)
  refine lv_iconst (v := nI 2) hx hb dX10_copyFraction_4 (by decide +kernel) ?_
  refine lv_iload_n hx hb dX10_copyFraction_5 rfl (lv_at hl 2 rfl) ?_
  refine lv_imul hx hb dX10_copyFraction_6 ?_
  refine lv_topi (fun x_12 e_13 => ?_)
  obtain rfl : x_12 = nI (2 * a) := e_13.trans (pk_mul 2 a)
  have hc_14 := hV
  obtain ⟨pnz_15, lnz_15, bnz_15, hRz_15, hvz_15⟩ := hc_14
  obtain ⟨r_16, r_17, r_18, r_19, r_20, r_21, r_22⟩ := hRz_15
  have l80 := (hvz_15 (2 * a) (by omega)).1
  have hR_26 : RN ad cA g x pnz_15 lnz_15 bnz_15 := ⟨r_16, r_17, r_18, r_19, r_20, r_21, r_22⟩
  refine va_callv (va_runV (As := [.int (nI (2 * t)), .int (nI (2 * a))]) (rest := []) ⟨hx, hb, hml, hown, hts⟩ (c_X10_copy l dC dI A ad cA g x pnz_15 lnz_15 bnz_15 (2 * t) (2 * a) hR_26 (by omega) (by omega) l80) (cwV 2 hts (goodIn_app (goodIn_r [Cond.methodLink RX10 92 yX10_copy, Cond.instanceMethod yX10_copy, Cond.selects RX10 yX10_copy yX10_copy, Cond.initialized RX10] [1, 2, 3, 4] rfl rfl) (goodIn_sub (fun w9 h9 => bk0 w9 h9) gw_X10_copy)) rfl rfl rfl (by decide +kernel) ⟨Nat.le_of_ble_eq_true rfl, Nat.le_of_ble_eq_true rfl⟩) ⟨fun a U g mk q => ⟨q.1, q.2.1, q.2.2.1, LY.moved (u := U) (U := U.calling g mk a) (Vm.Alike.refl U.vm) q.2.2.2⟩, va_recv hK hP (ci := 13) (q0 := 0) rfl (wo_at (by decide) r_16), fun U hU hW => ⟨rfl, by rw [hU]; exact fun q h => hA q (Nat.le_trans hS.1 h), by rw [hU]; exact hP, LY.moved hW.alike hL⟩⟩ rfl rfl hl.1 rfl (lv_room (Nat.le_of_ble_eq_true rfl)) dX10_copyFraction_7 ⟨(Nat.le_of_ble_eq_true rfl), (Nat.le_of_ble_eq_true rfl)⟩) hS (fun q _ h => h) (fun q h => h) (fun u8 t8 H1 locs ht8 hvm8 hw_27 hB hz1 hk1 hS => ?_)
  obtain ⟨g_28, pn2_29⟩ := u8
  try dsimp only at hw_27 hB
  rw [ht8] at hB
  have hP := hB
  generalize H1 = H at hP hS ⊢
  obtain ⟨fr_30, hR_23, h_24, h_25⟩ := hw_27
  have hV_31 : RV ad cA g_28 x (va_up vf (2 * t) (vf (2 * a))) := RV.copy hR_23 hvz_15 (by omega) h_24 h_25
  obtain ⟨vf_32, evf_32⟩ : ∃ z9, z9 = va_up vf (2 * t) (vf (2 * a)) := ⟨_, rfl⟩
  rw [← evf_32] at hV_31
  have uvf_32 : vf_32 (2 * t) = vf (2 * a) := by rw [evf_32]; exact va_up_self _ _ _
  have ovf_32 : ∀ j, j ≠ 2 * t → vf_32 j = vf j := fun j hj => by rw [evf_32]; exact va_up_ne _ _ hj
  have hc_33 := hV_31
  obtain ⟨pnz_34, lnz_34, bnz_34, hRz_34, hvz_34⟩ := hc_33
  obtain ⟨r_35, r_36, r_37, r_38, r_39, r_40, r_41⟩ := hRz_34
  refine lv_aload_n hx hb dX10_copyFraction_10 rfl (lv_at hl 0 rfl) ?_
  refine lv_iconst (v := nI 2) hx hb dX10_copyFraction_11 (by decide +kernel) ?_
  refine lv_iload_n hx hb dX10_copyFraction_12 rfl (lv_at hl 1 rfl) ?_
  refine lv_imul hx hb dX10_copyFraction_13 ?_
  refine lv_topi (fun x_42 e_43 => ?_)
  obtain rfl : x_42 = nI (2 * t) := e_43.trans (pk_mul 2 t)
  refine lv_iconst (v := nI 1) hx hb dX10_copyFraction_14 (by decide +kernel) ?_
  refine lv_iadd hx hb dX10_copyFraction_15 ?_
  refine lv_topi (fun x_44 e_45 => ?_)
  obtain rfl : x_44 = nI (2 * t + 1) := e_45.trans (nI_add (2 * t) 1)
  refine lv_iconst (v := nI 2) hx hb dX10_copyFraction_16 (by decide +kernel) ?_
  refine lv_iload_n hx hb dX10_copyFraction_17 rfl (lv_at hl 2 rfl) ?_
  refine lv_imul hx hb dX10_copyFraction_18 ?_
  refine lv_topi (fun x_46 e_47 => ?_)
  obtain rfl : x_46 = nI (2 * a) := e_47.trans (pk_mul 2 a)
  refine lv_iconst (v := nI 1) hx hb dX10_copyFraction_19 (by decide +kernel) ?_
  refine lv_iadd hx hb dX10_copyFraction_20 ?_
  refine lv_topi (fun x_48 e_49 => ?_)
  obtain rfl : x_48 = nI (2 * a + 1) := e_49.trans (nI_add (2 * a) 1)
  have hc_50 := hV_31
  obtain ⟨pnz_51, lnz_51, bnz_51, hRz_51, hvz_51⟩ := hc_50
  obtain ⟨r_52, r_53, r_54, r_55, r_56, r_57, r_58⟩ := hRz_51
  have l80 := (hvz_51 (2 * a + 1) (by omega)).1
  have hR_62 : RN ad cA g_28 x pnz_51 lnz_51 bnz_51 := ⟨r_52, r_53, r_54, r_55, r_56, r_57, r_58⟩
  refine va_callv (va_runV (As := [.int (nI (2 * t + 1)), .int (nI (2 * a + 1))]) (rest := []) ⟨hx, hb, hml, hown, hts⟩ (c_X10_copy l dC dI A ad cA g_28 x pnz_51 lnz_51 bnz_51 (2 * t + 1) (2 * a + 1) hR_62 (by omega) (by omega) l80) (cwV 2 hts (goodIn_app (goodIn_r [Cond.methodLink RX10 92 yX10_copy, Cond.instanceMethod yX10_copy, Cond.selects RX10 yX10_copy yX10_copy, Cond.initialized RX10] [1, 2, 3, 4] rfl rfl) (goodIn_sub (fun w9 h9 => bk0 w9 h9) gw_X10_copy)) rfl rfl rfl (by decide +kernel) ⟨Nat.le_of_ble_eq_true rfl, Nat.le_of_ble_eq_true rfl⟩) ⟨fun a U g mk q => ⟨q.1, q.2.1, q.2.2.1, LY.moved (u := U) (U := U.calling g mk a) (Vm.Alike.refl U.vm) q.2.2.2⟩, va_recv hK hP (ci := 13) (q0 := 0) rfl (wo_at (by decide) r_52), fun U hU hW => ⟨rfl, by rw [hU]; exact fun q h => hA q (Nat.le_trans hS.1 h), by rw [hU]; exact hP, LY.moved hW.alike hL⟩⟩ rfl rfl hl.1 rfl (lv_room (Nat.le_of_ble_eq_true rfl)) dX10_copyFraction_21 ⟨(Nat.le_of_ble_eq_true rfl), (Nat.le_of_ble_eq_true rfl)⟩) hS (fun q _ h => h) (fun q h => h) (fun u8 t8 H1 locs ht8 hvm8 hw_63 hB hz1 hk1 hS => ?_)
  obtain ⟨g_64, pn2_65⟩ := u8
  try dsimp only at hw_63 hB
  rw [ht8] at hB
  have hP := hB
  generalize H1 = H at hP hS ⊢
  obtain ⟨fr_66, hR_59, h_60, h_61⟩ := hw_63
  have hV_67 : RV ad cA g_64 x (va_up vf_32 (2 * t + 1) (vf_32 (2 * a + 1))) := RV.copy hR_59 hvz_51 (by omega) h_60 h_61
  obtain ⟨vf_68, evf_68⟩ : ∃ z9, z9 = va_up vf_32 (2 * t + 1) (vf_32 (2 * a + 1)) := ⟨_, rfl⟩
  rw [← evf_68] at hV_67
  have uvf_68 : vf_68 (2 * t + 1) = vf_32 (2 * a + 1) := by rw [evf_68]; exact va_up_self _ _ _
  have ovf_68 : ∀ j, j ≠ 2 * t + 1 → vf_68 j = vf_32 j := fun j hj => by rw [evf_68]; exact va_up_ne _ _ hj
  have hc_69 := hV_67
  obtain ⟨pnz_70, lnz_70, bnz_70, hRz_70, hvz_70⟩ := hc_69
  obtain ⟨r_71, r_72, r_73, r_74, r_75, r_76, r_77⟩ := hRz_70
  obtain ⟨hqa1, hqa2, hqa3⟩ := hq a ia
  refine W.widen (k := 0) (n := 0) (by omega) (by omega) ?_
  exact W.vret hx hb hr (fun t9 ht9 hW9 => ⟨⟨g_64, rfl, ⟨(fun (k : Nat) (hk : k ≠ 1 ∧ k ≠ 2 ∧ k ≠ 3) => (fr_66 k (by omega)).trans ((fr_30 k (by omega)).trans (rfl))), RF.up hV_67 hq (fun f9 h1 h2 => ⟨by rw [ovf_68 _ (by omega), ovf_32 _ (by omega)], by rw [ovf_68 _ (by omega), ovf_32 _ (by omega)]⟩) (by rw [ovf_68 _ (by omega), uvf_32]; exact hqa1) (by rw [uvf_68, ovf_32 _ (by omega)]; exact hqa2) hqa3⟩, by show va_P (dC, dI) vwCl _ t9.heap; rw [ht9]; exact hP⟩, hS.F ht9⟩) hS.2.2 dX10_copyFraction_24
def wd_X10_setFraction : List Cond := .code yX10_setFraction cX10_setFraction 6 none :: (([.methodLink RX10 74 yX10_assign, .instanceMethod yX10_assign, .selects RX10 yX10_assign yX10_assign, .initialized RX10, .methodLink RX10 121 yX10_reduce, .instanceMethod yX10_reduce, .selects RX10 yX10_reduce yX10_reduce] : List Cond) ++ (wd_X10_assign ++ (wd_X10_reduce ++ ([]))))
theorem gw_X10_setFraction : wd_X10_setFraction.all goodWord = true := k_allc rfl (k_all (by decide +kernel) (k_all (gw_X10_assign) (k_all (gw_X10_reduce) (rfl))))
set_option maxHeartbeats 4000000 in
set_option maxRecDepth 100000 in
theorem c_X10_setFraction (l : Launch) (dC : Nat → ClassId) (dI : Nat → Nat → Nat) (A : Nat → Prop) (ad : Nat → Nat) (cA : Nat → ClassId) (g : Nat → va_E) (x : Nat → Int32) (pf : Nat → Int) (qf : Nat → Nat) (t : Nat) (v : Int64) (u : Int64) (z : Int) (n : Nat) (hF : RF ad cA g x pf qf) (ht : t < 1030) (hz : v.toInt = z) (hz2 : z.natAbs < 2 ^ 62) (hn : u.toInt = (n : Int)) (hn0 : 0 < n) (hn2 : n < 2 ^ 62) : Met l yX10_setFraction wd_X10_setFraction ({ frames := 60, cells := 0, slots := 0, locals := 1200 }) (va_Pc [.ref (ad 0), .int (nI t), .long v, .long u] (PR NSr tyr dC dI A ad cA g)) (va_Qv (fun (u : Nat → va_E) => match u with | g2 => (∀ k, k ≠ 1 ∧ k ≠ 2 ∧ k ≠ 3 → g2 k = g k) ∧ RF ad cA g2 x (va_up pf t (rdp z n)) (va_up qf t (rdq z n))) (fun (u : Nat → va_E) (t : State) => va_P (dC, dI) vwCl (wo ad NSr u) t.heap) A) (0) (0) A := by
  refine Met.ofW (cc := cX10_setFraction) (maxL := 6) (ret := none) (by decide) rfl ?_
  intro p e s m args below meth c s₁ B hml hv
  obtain ⟨rfl, hA, hP, hL⟩ := hv
  have hx := B.exec
  have hb := B.bytes
  have hr := B.returns
  have hts := atoms_spec (ws := wd_X10_setFraction) B.pre
  have hown : s.vm.findClass RX10 = some m.cls := findClass_of_methodNamed B.named
  have hlocks := B.notSynchronized
  have hK := hL.1
  have hD : ∀ g, va_D A (wo ad NSr g) := fun g => wo_D hL.2.1 hL.2.2 g
  have hS : va_S A s.heap s.heap [] := va_S.rf
  have bk0 : ∀ w ∈ wd_X10_assign, w ∈ wd_X10_setFraction := fun _ h => List.mem_cons_of_mem _ (List.mem_append_right _ (List.mem_append_left _ h))
  have bk1 : ∀ w ∈ wd_X10_reduce, w ∈ wd_X10_setFraction := fun _ h => List.mem_cons_of_mem _ (List.mem_append_right _ (List.mem_append_right _ (List.mem_append_left _ h)))
  have hl := lv_entry ([.ref (ad 0), .int (nI t), .long v, .long u]) (n := 6) (Nat.le_of_ble_eq_true rfl)
  rw [lg_entry_eq]
  generalize (lg_sl ([.ref (ad 0), .int (nI t), .long v, .long u]) ++ List.replicate (6 - (lg_sl ([.ref (ad 0), .int (nI t), .long v, .long u])).length) Slot.unset).toArray = ls at hl ⊢
  have hl : lv_has ls 6 [(0, .ref (ad 0)), (1, .int (nI t)), (2, .long v), (4, .long u)] := hl
  obtain ⟨vf, hV, hq⟩ := hF
  have hc_1 := hV
  obtain ⟨pnz_2, lnz_2, bnz_2, hRz_2, hvz_2⟩ := hc_1
  obtain ⟨r_3, r_4, r_5, r_6, r_7, r_8, r_9⟩ := hRz_2
  refine lv_aload_n hx hb dX10_setFraction_0 rfl (lv_at hl 0 rfl) ?_
  refine lv_iconst (v := nI 2) hx hb dX10_setFraction_1 (by decide +kernel) ?_
  refine lv_iload_n hx hb dX10_setFraction_2 rfl (lv_at hl 1 rfl) ?_
  refine lv_imul hx hb dX10_setFraction_3 ?_
  refine lv_topi (fun x_10 e_11 => ?_)
  obtain rfl : x_10 = nI (2 * t) := e_11.trans (pk_mul 2 t)
  refine lv_lload_n hx hb dX10_setFraction_4 rfl (lv_at hl 2 rfl) ?_
  refine va_callv (va_runV (As := [.int (nI (2 * t)), .long v]) (rest := []) ⟨hx, hb, hml, hown, hts⟩ (c_X10_assign l dC dI A ad cA g x vf (2 * t) v z hV (by omega) hz hz2) (cwV 2 hts (goodIn_app (goodIn_r [Cond.methodLink RX10 74 yX10_assign, Cond.instanceMethod yX10_assign, Cond.selects RX10 yX10_assign yX10_assign, Cond.initialized RX10] [1, 2, 3, 4] rfl rfl) (goodIn_sub (fun w9 h9 => bk0 w9 h9) gw_X10_assign)) rfl rfl rfl (by decide +kernel) ⟨Nat.le_of_ble_eq_true rfl, Nat.le_of_ble_eq_true rfl⟩) ⟨fun a U g mk q => ⟨q.1, q.2.1, q.2.2.1, LY.moved (u := U) (U := U.calling g mk a) (Vm.Alike.refl U.vm) q.2.2.2⟩, va_recv hK hP (ci := 13) (q0 := 0) rfl (wo_at (by decide) r_3), fun U hU hW => ⟨rfl, by rw [hU]; exact fun q h => hA q (Nat.le_trans hS.1 h), by rw [hU]; exact hP, LY.moved hW.alike hL⟩⟩ rfl rfl hl.1 rfl (lv_room (Nat.le_of_ble_eq_true rfl)) dX10_setFraction_5 ⟨(Nat.le_of_ble_eq_true rfl), (Nat.le_of_ble_eq_true rfl)⟩) hS (fun q _ h => h) (fun q h => h) (fun u8 t8 H1 locs ht8 hvm8 hw_13 hB hz1 hk1 hS => ?_)
  obtain ⟨g_14, rfl⟩ : ∃ z, z = u8 := ⟨_, rfl⟩
  try dsimp only at hw_13 hB
  rw [ht8] at hB
  have hP := hB
  generalize H1 = H at hP hS ⊢
  obtain ⟨fr_15, hV_12⟩ := hw_13
  obtain ⟨vf_16, evf_16⟩ : ∃ z9, z9 = va_up vf (2 * t) (z) := ⟨_, rfl⟩
  rw [← evf_16] at hV_12
  have uvf_16 : vf_16 (2 * t) = z := by rw [evf_16]; exact va_up_self _ _ _
  have ovf_16 : ∀ j, j ≠ 2 * t → vf_16 j = vf j := fun j hj => by rw [evf_16]; exact va_up_ne _ _ hj
  refine lv_aload_n hx hb dX10_setFraction_8 rfl (lv_at hl 0 rfl) ?_
  refine lv_iconst (v := nI 2) hx hb dX10_setFraction_9 (by decide +kernel) ?_
  refine lv_iload_n hx hb dX10_setFraction_10 rfl (lv_at hl 1 rfl) ?_
  refine lv_imul hx hb dX10_setFraction_11 ?_
  refine lv_topi (fun x_17 e_18 => ?_)
  obtain rfl : x_17 = nI (2 * t) := e_18.trans (pk_mul 2 t)
  refine lv_iconst (v := nI 1) hx hb dX10_setFraction_12 (by decide +kernel) ?_
  refine lv_iadd hx hb dX10_setFraction_13 ?_
  refine lv_topi (fun x_19 e_20 => ?_)
  obtain rfl : x_19 = nI (2 * t + 1) := e_20.trans (nI_add (2 * t) 1)
  refine lv_lload hx hb dX10_setFraction_14 (lv_at hl 3 rfl) ?_
  have f_22 : g_14 0 = .inr (13, Rob ad x) := (fr_15 0 (by omega)).trans r_3
  refine va_callv (va_runV (As := [.int (nI (2 * t + 1)), .long u]) (rest := []) ⟨hx, hb, hml, hown, hts⟩ (c_X10_assign l dC dI A ad cA g_14 x vf_16 (2 * t + 1) u (n : Int) hV_12 (by omega) hn (by omega)) (cwV 2 hts (goodIn_app (goodIn_r [Cond.methodLink RX10 74 yX10_assign, Cond.instanceMethod yX10_assign, Cond.selects RX10 yX10_assign yX10_assign, Cond.initialized RX10] [1, 2, 3, 4] rfl rfl) (goodIn_sub (fun w9 h9 => bk0 w9 h9) gw_X10_assign)) rfl rfl rfl (by decide +kernel) ⟨Nat.le_of_ble_eq_true rfl, Nat.le_of_ble_eq_true rfl⟩) ⟨fun a U g mk q => ⟨q.1, q.2.1, q.2.2.1, LY.moved (u := U) (U := U.calling g mk a) (Vm.Alike.refl U.vm) q.2.2.2⟩, va_recv hK hP (ci := 13) (q0 := 0) rfl (wo_at (by decide) f_22), fun U hU hW => ⟨rfl, by rw [hU]; exact fun q h => hA q (Nat.le_trans hS.1 h), by rw [hU]; exact hP, LY.moved hW.alike hL⟩⟩ rfl rfl hl.1 rfl (lv_room (Nat.le_of_ble_eq_true rfl)) dX10_setFraction_16 ⟨(Nat.le_of_ble_eq_true rfl), (Nat.le_of_ble_eq_true rfl)⟩) hS (fun q _ h => h) (fun q h => h) (fun u8 t8 H1 locs ht8 hvm8 hw_23 hB hz1 hk1 hS => ?_)
  obtain ⟨g_24, rfl⟩ : ∃ z, z = u8 := ⟨_, rfl⟩
  try dsimp only at hw_23 hB
  rw [ht8] at hB
  have hP := hB
  generalize H1 = H at hP hS ⊢
  obtain ⟨fr_25, hV_21⟩ := hw_23
  obtain ⟨vf_26, evf_26⟩ : ∃ z9, z9 = va_up vf_16 (2 * t + 1) ((n : Int)) := ⟨_, rfl⟩
  rw [← evf_26] at hV_21
  have uvf_26 : vf_26 (2 * t + 1) = (n : Int) := by rw [evf_26]; exact va_up_self _ _ _
  have ovf_26 : ∀ j, j ≠ 2 * t + 1 → vf_26 j = vf_16 j := fun j hj => by rw [evf_26]; exact va_up_ne _ _ hj
  refine lv_aload_n hx hb dX10_setFraction_19 rfl (lv_at hl 0 rfl) ?_
  refine lv_iload_n hx hb dX10_setFraction_20 rfl (lv_at hl 1 rfl) ?_
  have hs1 : vf_26 (2 * t) = z := by rw [ovf_26 _ (by omega), uvf_16]
  have hs2 : vf_26 (2 * t + 1) = (n : Int) := uvf_26
  have f_27 : g_24 0 = .inr (13, Rob ad x) := (fr_25 0 (by omega)).trans f_22
  refine va_callv (va_runV (As := [.int (nI t)]) (rest := []) ⟨hx, hb, hml, hown, hts⟩ (c_X10_reduce l dC dI A ad cA g_24 x vf_26 t n hV_21 ht hs2 hn0 (by omega)) (cwV 1 hts (goodIn_app (goodIn_r [Cond.methodLink RX10 121 yX10_reduce, Cond.instanceMethod yX10_reduce, Cond.selects RX10 yX10_reduce yX10_reduce, Cond.initialized RX10] [5, 6, 7, 4] rfl rfl) (goodIn_sub (fun w9 h9 => bk1 w9 h9) gw_X10_reduce)) rfl rfl rfl (by decide +kernel) ⟨Nat.le_of_ble_eq_true rfl, Nat.le_of_ble_eq_true rfl⟩) ⟨fun a U g mk q => ⟨q.1, q.2.1, q.2.2.1, LY.moved (u := U) (U := U.calling g mk a) (Vm.Alike.refl U.vm) q.2.2.2⟩, va_recv hK hP (ci := 13) (q0 := 0) rfl (wo_at (by decide) f_27), fun U hU hW => ⟨rfl, by rw [hU]; exact fun q h => hA q (Nat.le_trans hS.1 h), by rw [hU]; exact hP, LY.moved hW.alike hL⟩⟩ rfl rfl hl.1 rfl (lv_room (Nat.le_of_ble_eq_true rfl)) dX10_setFraction_21 ⟨(Nat.le_of_ble_eq_true rfl), (Nat.le_of_ble_eq_true rfl)⟩) hS (fun q _ h => h) (fun q h => h) (fun u8 t8 H1 locs ht8 hvm8 hw_28 hB hz1 hk1 hS => ?_)
  obtain ⟨g_29, vf2_30⟩ := u8
  try dsimp only at hw_28 hB
  rw [ht8] at hB
  have hP := hB
  generalize H1 = H at hP hS ⊢
  obtain ⟨fr_31, hVr, hr1, hr2, hr3⟩ := hw_28
  rw [hs1] at hr1 hr2
  refine W.widen (k := 0) (n := 0) (by omega) (by omega) ?_
  exact W.vret hx hb hr (fun t9 ht9 hW9 => ⟨⟨g_29, rfl, ⟨(fun (k : Nat) (hk : k ≠ 1 ∧ k ≠ 2 ∧ k ≠ 3) => (fr_31 k (by omega)).trans ((fr_25 k (by omega)).trans ((fr_15 k (by omega)).trans (rfl)))), RF.up hVr hq (fun f9 h1 h2 => ⟨by rw [hr3 _ (by omega) (by omega) (by omega), ovf_26 _ (by omega), ovf_16 _ (by omega)], by rw [hr3 _ (by omega) (by omega) (by omega), ovf_26 _ (by omega), ovf_16 _ (by omega)]⟩) hr1 hr2 (rd_red z hn0)⟩, by show va_P (dC, dI) vwCl _ t9.heap; rw [ht9]; exact hP⟩, hS.F ht9⟩) hS.2.2 dX10_setFraction_24
def wd_X10_timesFractions : List Cond := .code yX10_timesFractions cX10_timesFractions 4 none :: (([.methodLink RX10 130 yX10_times, .instanceMethod yX10_times, .selects RX10 yX10_times yX10_times, .initialized RX10, .methodLink RX10 121 yX10_reduce, .instanceMethod yX10_reduce, .selects RX10 yX10_reduce yX10_reduce, .methodLink RX10 136 yX10_copyFraction, .instanceMethod yX10_copyFraction, .selects RX10 yX10_copyFraction yX10_copyFraction] : List Cond) ++ (wd_X10_times ++ (wd_X10_reduce ++ (wd_X10_copyFraction ++ ([])))))
theorem gw_X10_timesFractions : wd_X10_timesFractions.all goodWord = true := k_allc rfl (k_all (by decide +kernel) (k_all (gw_X10_times) (k_all (gw_X10_reduce) (k_all (gw_X10_copyFraction) (rfl)))))
set_option maxHeartbeats 4000000 in
set_option maxRecDepth 100000 in
theorem c_X10_timesFractions (l : Launch) (dC : Nat → ClassId) (dI : Nat → Nat → Nat) (A : Nat → Prop) (ad : Nat → Nat) (cA : Nat → ClassId) (g : Nat → va_E) (x : Nat → Int32) (pf : Nat → Int) (qf : Nat → Nat) (t : Nat) (a : Nat) (b : Nat) (hF : RF ad cA g x pf qf) (ht : t < 1016) (ia : a < 1016) (ib : b < 1016) (ba : (pf a).natAbs < 2 ^ 1200 ∧ qf a < 2 ^ 1200) (bb : (pf b).natAbs < 2 ^ 1200 ∧ qf b < 2 ^ 1200) : Met l yX10_timesFractions wd_X10_timesFractions ({ frames := 70, cells := 0, slots := 0, locals := 1400 }) (va_Pc [.ref (ad 0), .int (nI t), .int (nI a), .int (nI b)] (PR NSr tyr dC dI A ad cA g)) (va_Qv (fun (u : (Nat → va_E) × (Nat → Int) × (Nat → Nat)) => match u with | (g2, pf2, qf2) => (∀ k, k ≠ 1 ∧ k ≠ 2 ∧ k ≠ 3 → g2 k = g k) ∧ RF ad cA g2 x pf2 qf2 ∧ pf2 t = rdp (pf a * pf b) (qf a * qf b) ∧ qf2 t = rdq (pf a * pf b) (qf a * qf b) ∧ (∀ f, f ≠ t → f ≠ 1016 → pf2 f = pf f ∧ qf2 f = qf f)) (fun (u : (Nat → va_E) × (Nat → Int) × (Nat → Nat)) (t : State) => va_P (dC, dI) vwCl (wo ad NSr u.1) t.heap) A) (0) (0) A := by
  refine Met.ofW (cc := cX10_timesFractions) (maxL := 4) (ret := none) (by decide) rfl ?_
  intro p e s m args below meth c s₁ B hml hv
  obtain ⟨rfl, hA, hP, hL⟩ := hv
  have hx := B.exec
  have hb := B.bytes
  have hr := B.returns
  have hts := atoms_spec (ws := wd_X10_timesFractions) B.pre
  have hown : s.vm.findClass RX10 = some m.cls := findClass_of_methodNamed B.named
  have hlocks := B.notSynchronized
  have hK := hL.1
  have hD : ∀ g, va_D A (wo ad NSr g) := fun g => wo_D hL.2.1 hL.2.2 g
  have hS : va_S A s.heap s.heap [] := va_S.rf
  have bk0 : ∀ w ∈ wd_X10_times, w ∈ wd_X10_timesFractions := fun _ h => List.mem_cons_of_mem _ (List.mem_append_right _ (List.mem_append_left _ h))
  have bk1 : ∀ w ∈ wd_X10_reduce, w ∈ wd_X10_timesFractions := fun _ h => List.mem_cons_of_mem _ (List.mem_append_right _ (List.mem_append_right _ (List.mem_append_left _ h)))
  have bk2 : ∀ w ∈ wd_X10_copyFraction, w ∈ wd_X10_timesFractions := fun _ h => List.mem_cons_of_mem _ (List.mem_append_right _ (List.mem_append_right _ (List.mem_append_right _ (List.mem_append_left _ h))))
  have hl := lv_entry ([.ref (ad 0), .int (nI t), .int (nI a), .int (nI b)]) (n := 4) (Nat.le_of_ble_eq_true rfl)
  rw [lg_entry_eq]
  generalize (lg_sl ([.ref (ad 0), .int (nI t), .int (nI a), .int (nI b)]) ++ List.replicate (4 - (lg_sl ([.ref (ad 0), .int (nI t), .int (nI a), .int (nI b)])).length) Slot.unset).toArray = ls at hl ⊢
  have hl : lv_has ls 4 [(0, .ref (ad 0)), (1, .int (nI t)), (2, .int (nI a)), (3, .int (nI b))] := hl
  obtain ⟨vf, hV, hq⟩ := hF
  have hc_1 := hV
  obtain ⟨pnz_2, lnz_2, bnz_2, hRz_2, hvz_2⟩ := hc_1
  obtain ⟨r_3, r_4, r_5, r_6, r_7, r_8, r_9⟩ := hRz_2
  obtain ⟨a1, a2, a3⟩ := hq a (by omega)
  obtain ⟨b1, b2, b3⟩ := hq b (by omega)
  have a0 := a3.1
  have b0 := b3.1
  have n1 : (vf (2 * a)).natAbs = (pf a).natAbs := by rw [a1]
  have n2 : (vf (2 * a + 1)).natAbs = qf a := by omega
  have n3 : (vf (2 * b)).natAbs = (pf b).natAbs := by rw [b1]
  have n4 : (vf (2 * b + 1)).natAbs = qf b := by omega
  have k24 := k_24
  refine lv_aload_n hx hb dX10_timesFractions_0 rfl (lv_at hl 0 rfl) ?_
  refine lv_sipush (v := nI 2032) hx hb dX10_timesFractions_1 (by decide +kernel) ?_
  refine lv_iconst (v := nI 2) hx hb dX10_timesFractions_4 (by decide +kernel) ?_
  refine lv_iload_n hx hb dX10_timesFractions_5 rfl (lv_at hl 2 rfl) ?_
  refine lv_imul hx hb dX10_timesFractions_6 ?_
  refine lv_topi (fun x_10 e_11 => ?_)
  obtain rfl : x_10 = nI (2 * a) := e_11.trans (pk_mul 2 a)
  refine lv_iconst (v := nI 2) hx hb dX10_timesFractions_7 (by decide +kernel) ?_
  refine lv_iload_n hx hb dX10_timesFractions_8 rfl (lv_at hl 3 rfl) ?_
  refine lv_imul hx hb dX10_timesFractions_9 ?_
  refine lv_topi (fun x_12 e_13 => ?_)
  obtain rfl : x_12 = nI (2 * b) := e_13.trans (pk_mul 2 b)
  refine va_callv (va_runV (As := [.int (nI 2032), .int (nI (2 * a)), .int (nI (2 * b))]) (rest := []) ⟨hx, hb, hml, hown, hts⟩ (c_X10_times l dC dI A ad cA g x vf 2032 (2 * a) (2 * b) hV (by decide) (by omega) (by omega) (by rw [n1, n3]; have := k_m24 ba.1 bb.1; omega)) (cwV 3 hts (goodIn_app (goodIn_r [Cond.methodLink RX10 130 yX10_times, Cond.instanceMethod yX10_times, Cond.selects RX10 yX10_times yX10_times, Cond.initialized RX10] [1, 2, 3, 4] rfl rfl) (goodIn_sub (fun w9 h9 => bk0 w9 h9) gw_X10_times)) rfl rfl rfl (by decide +kernel) ⟨Nat.le_of_ble_eq_true rfl, Nat.le_of_ble_eq_true rfl⟩) ⟨fun a U g mk q => ⟨q.1, q.2.1, q.2.2.1, LY.moved (u := U) (U := U.calling g mk a) (Vm.Alike.refl U.vm) q.2.2.2⟩, va_recv hK hP (ci := 13) (q0 := 0) rfl (wo_at (by decide) r_3), fun U hU hW => ⟨rfl, by rw [hU]; exact fun q h => hA q (Nat.le_trans hS.1 h), by rw [hU]; exact hP, LY.moved hW.alike hL⟩⟩ rfl rfl hl.1 rfl (lv_room (Nat.le_of_ble_eq_true rfl)) dX10_timesFractions_10 ⟨(Nat.le_of_ble_eq_true rfl), (Nat.le_of_ble_eq_true rfl)⟩) hS (fun q _ h => h) (fun q h => h) (fun u8 t8 H1 locs ht8 hvm8 hw_15 hB hz1 hk1 hS => ?_)
  obtain ⟨g_16, rfl⟩ : ∃ z, z = u8 := ⟨_, rfl⟩
  try dsimp only at hw_15 hB
  rw [ht8] at hB
  have hP := hB
  generalize H1 = H at hP hS ⊢
  obtain ⟨fr_17, hV_14⟩ := hw_15
  obtain ⟨vf_18, evf_18⟩ : ∃ z9, z9 = va_up vf 2032 (vf (2 * a) * vf (2 * b)) := ⟨_, rfl⟩
  rw [← evf_18] at hV_14
  have uvf_18 : vf_18 2032 = vf (2 * a) * vf (2 * b) := by rw [evf_18]; exact va_up_self _ _ _
  have ovf_18 : ∀ j, j ≠ 2032 → vf_18 j = vf j := fun j hj => by rw [evf_18]; exact va_up_ne _ _ hj
  refine lv_aload_n hx hb dX10_timesFractions_13 rfl (lv_at hl 0 rfl) ?_
  refine lv_sipush (v := nI 2033) hx hb dX10_timesFractions_14 (by decide +kernel) ?_
  refine lv_iconst (v := nI 2) hx hb dX10_timesFractions_17 (by decide +kernel) ?_
  refine lv_iload_n hx hb dX10_timesFractions_18 rfl (lv_at hl 2 rfl) ?_
  refine lv_imul hx hb dX10_timesFractions_19 ?_
  refine lv_topi (fun x_19 e_20 => ?_)
  obtain rfl : x_19 = nI (2 * a) := e_20.trans (pk_mul 2 a)
  refine lv_iconst (v := nI 1) hx hb dX10_timesFractions_20 (by decide +kernel) ?_
  refine lv_iadd hx hb dX10_timesFractions_21 ?_
  refine lv_topi (fun x_21 e_22 => ?_)
  obtain rfl : x_21 = nI (2 * a + 1) := e_22.trans (nI_add (2 * a) 1)
  refine lv_iconst (v := nI 2) hx hb dX10_timesFractions_22 (by decide +kernel) ?_
  refine lv_iload_n hx hb dX10_timesFractions_23 rfl (lv_at hl 3 rfl) ?_
  refine lv_imul hx hb dX10_timesFractions_24 ?_
  refine lv_topi (fun x_23 e_24 => ?_)
  obtain rfl : x_23 = nI (2 * b) := e_24.trans (pk_mul 2 b)
  refine lv_iconst (v := nI 1) hx hb dX10_timesFractions_25 (by decide +kernel) ?_
  refine lv_iadd hx hb dX10_timesFractions_26 ?_
  refine lv_topi (fun x_25 e_26 => ?_)
  obtain rfl : x_25 = nI (2 * b + 1) := e_26.trans (nI_add (2 * b) 1)
  have f_28 : g_16 0 = .inr (13, Rob ad x) := (fr_17 0 (by omega)).trans r_3
  refine va_callv (va_runV (As := [.int (nI 2033), .int (nI (2 * a + 1)), .int (nI (2 * b + 1))]) (rest := []) ⟨hx, hb, hml, hown, hts⟩ (c_X10_times l dC dI A ad cA g_16 x vf_18 2033 (2 * a + 1) (2 * b + 1) hV_14 (by decide) (by omega) (by omega) (by rw [ovf_18 _ (by omega), ovf_18 _ (by omega), n2, n4]; have := k_m24 ba.2 bb.2; omega)) (cwV 3 hts (goodIn_app (goodIn_r [Cond.methodLink RX10 130 yX10_times, Cond.instanceMethod yX10_times, Cond.selects RX10 yX10_times yX10_times, Cond.initialized RX10] [1, 2, 3, 4] rfl rfl) (goodIn_sub (fun w9 h9 => bk0 w9 h9) gw_X10_times)) rfl rfl rfl (by decide +kernel) ⟨Nat.le_of_ble_eq_true rfl, Nat.le_of_ble_eq_true rfl⟩) ⟨fun a U g mk q => ⟨q.1, q.2.1, q.2.2.1, LY.moved (u := U) (U := U.calling g mk a) (Vm.Alike.refl U.vm) q.2.2.2⟩, va_recv hK hP (ci := 13) (q0 := 0) rfl (wo_at (by decide) f_28), fun U hU hW => ⟨rfl, by rw [hU]; exact fun q h => hA q (Nat.le_trans hS.1 h), by rw [hU]; exact hP, LY.moved hW.alike hL⟩⟩ rfl rfl hl.1 rfl (lv_room (Nat.le_of_ble_eq_true rfl)) dX10_timesFractions_27 ⟨(Nat.le_of_ble_eq_true rfl), (Nat.le_of_ble_eq_true rfl)⟩) hS (fun q _ h => h) (fun q h => h) (fun u8 t8 H1 locs ht8 hvm8 hw_29 hB hz1 hk1 hS => ?_)
  obtain ⟨g_30, rfl⟩ : ∃ z, z = u8 := ⟨_, rfl⟩
  try dsimp only at hw_29 hB
  rw [ht8] at hB
  have hP := hB
  generalize H1 = H at hP hS ⊢
  obtain ⟨fr_31, hV_27⟩ := hw_29
  obtain ⟨vf_32, evf_32⟩ : ∃ z9, z9 = va_up vf_18 2033 (vf_18 (2 * a + 1) * vf_18 (2 * b + 1)) := ⟨_, rfl⟩
  rw [← evf_32] at hV_27
  have uvf_32 : vf_32 2033 = vf_18 (2 * a + 1) * vf_18 (2 * b + 1) := by rw [evf_32]; exact va_up_self _ _ _
  have ovf_32 : ∀ j, j ≠ 2033 → vf_32 j = vf_18 j := fun j hj => by rw [evf_32]; exact va_up_ne _ _ hj
  refine lv_aload_n hx hb dX10_timesFractions_30 rfl (lv_at hl 0 rfl) ?_
  refine lv_sipush (v := nI 1016) hx hb dX10_timesFractions_31 (by decide +kernel) ?_
  have hsn : vf_32 (2 * 1016) = pf a * pf b := by rw [ovf_32 _ (by decide), uvf_18, a1, b1]
  have hsd : vf_32 (2 * 1016 + 1) = ((qf a * qf b : Nat) : Int) := by rw [show 2 * 1016 + 1 = 2033 from rfl, uvf_32, ovf_18 _ (by omega), ovf_18 _ (by omega), a2, b2, Int.natCast_mul]
  have hd0 : 0 < qf a * qf b := Nat.mul_pos a0 b0
  have hd8 := k_m24 ba.2 bb.2
  have f_33 : g_30 0 = .inr (13, Rob ad x) := (fr_31 0 (by omega)).trans f_28
  refine va_callv (va_runV (As := [.int (nI 1016)]) (rest := []) ⟨hx, hb, hml, hown, hts⟩ (c_X10_reduce l dC dI A ad cA g_30 x vf_32 1016 (qf a * qf b) hV_27 (by decide) hsd hd0 (by omega)) (cwV 1 hts (goodIn_app (goodIn_r [Cond.methodLink RX10 121 yX10_reduce, Cond.instanceMethod yX10_reduce, Cond.selects RX10 yX10_reduce yX10_reduce, Cond.initialized RX10] [5, 6, 7, 4] rfl rfl) (goodIn_sub (fun w9 h9 => bk1 w9 h9) gw_X10_reduce)) rfl rfl rfl (by decide +kernel) ⟨Nat.le_of_ble_eq_true rfl, Nat.le_of_ble_eq_true rfl⟩) ⟨fun a U g mk q => ⟨q.1, q.2.1, q.2.2.1, LY.moved (u := U) (U := U.calling g mk a) (Vm.Alike.refl U.vm) q.2.2.2⟩, va_recv hK hP (ci := 13) (q0 := 0) rfl (wo_at (by decide) f_33), fun U hU hW => ⟨rfl, by rw [hU]; exact fun q h => hA q (Nat.le_trans hS.1 h), by rw [hU]; exact hP, LY.moved hW.alike hL⟩⟩ rfl rfl hl.1 rfl (lv_room (Nat.le_of_ble_eq_true rfl)) dX10_timesFractions_34 ⟨(Nat.le_of_ble_eq_true rfl), (Nat.le_of_ble_eq_true rfl)⟩) hS (fun q _ h => h) (fun q h => h) (fun u8 t8 H1 locs ht8 hvm8 hw_34 hB hz1 hk1 hS => ?_)
  obtain ⟨g_35, vf2_36⟩ := u8
  try dsimp only at hw_34 hB
  rw [ht8] at hB
  have hP := hB
  generalize H1 = H at hP hS ⊢
  obtain ⟨fr_37, hVr, hr1, hr2, hr3⟩ := hw_34
  rw [hsn] at hr1 hr2
  refine lv_aload_n hx hb dX10_timesFractions_37 rfl (lv_at hl 0 rfl) ?_
  refine lv_iload_n hx hb dX10_timesFractions_38 rfl (lv_at hl 1 rfl) ?_
  refine lv_sipush (v := nI 1016) hx hb dX10_timesFractions_39 (by decide +kernel) ?_
  have hF2 : RF ad cA g_35 x (va_up pf 1016 (rdp (pf a * pf b) (qf a * qf b))) (va_up qf 1016 (rdq (pf a * pf b) (qf a * qf b))) := RF.up hVr hq (fun f9 h1 h2 => ⟨by rw [hr3 _ (by omega) (by omega) (by omega), ovf_32 _ (by omega), ovf_18 _ (by omega)], by rw [hr3 _ (by omega) (by omega) (by omega), ovf_32 _ (by omega), ovf_18 _ (by omega)]⟩) hr1 hr2 (rd_red _ hd0)
  have f_38 : g_35 0 = .inr (13, Rob ad x) := (fr_37 0 (by omega)).trans f_33
  refine va_callv (va_runV (As := [.int (nI t), .int (nI 1016)]) (rest := []) ⟨hx, hb, hml, hown, hts⟩ (c_X10_copyFraction l dC dI A ad cA g_35 x (va_up pf 1016 (rdp (pf a * pf b) (qf a * qf b))) (va_up qf 1016 (rdq (pf a * pf b) (qf a * qf b))) t 1016 hF2 (by omega) (by decide)) (cwV 2 hts (goodIn_app (goodIn_r [Cond.methodLink RX10 136 yX10_copyFraction, Cond.instanceMethod yX10_copyFraction, Cond.selects RX10 yX10_copyFraction yX10_copyFraction, Cond.initialized RX10] [8, 9, 10, 4] rfl rfl) (goodIn_sub (fun w9 h9 => bk2 w9 h9) gw_X10_copyFraction)) rfl rfl rfl (by decide +kernel) ⟨Nat.le_of_ble_eq_true rfl, Nat.le_of_ble_eq_true rfl⟩) ⟨fun a U g mk q => ⟨q.1, q.2.1, q.2.2.1, LY.moved (u := U) (U := U.calling g mk a) (Vm.Alike.refl U.vm) q.2.2.2⟩, va_recv hK hP (ci := 13) (q0 := 0) rfl (wo_at (by decide) f_38), fun U hU hW => ⟨rfl, by rw [hU]; exact fun q h => hA q (Nat.le_trans hS.1 h), by rw [hU]; exact hP, LY.moved hW.alike hL⟩⟩ rfl rfl hl.1 rfl (lv_room (Nat.le_of_ble_eq_true rfl)) dX10_timesFractions_42 ⟨(Nat.le_of_ble_eq_true rfl), (Nat.le_of_ble_eq_true rfl)⟩) hS (fun q _ h => h) (fun q h => h) (fun u8 t8 H1 locs ht8 hvm8 hw_39 hB hz1 hk1 hS => ?_)
  obtain ⟨g_40, rfl⟩ : ∃ z, z = u8 := ⟨_, rfl⟩
  try dsimp only at hw_39 hB
  rw [ht8] at hB
  have hP := hB
  generalize H1 = H at hP hS ⊢
  obtain ⟨fr_41, hF3⟩ := hw_39
  refine W.widen (k := 0) (n := 0) (by omega) (by omega) ?_
  exact W.vret hx hb hr (fun t9 ht9 hW9 => ⟨⟨(g_40, va_up (va_up pf 1016 (rdp (pf a * pf b) (qf a * qf b))) t (va_up pf 1016 (rdp (pf a * pf b) (qf a * qf b)) 1016), va_up (va_up qf 1016 (rdq (pf a * pf b) (qf a * qf b))) t (va_up qf 1016 (rdq (pf a * pf b) (qf a * qf b)) 1016)), rfl, ⟨(fun (k : Nat) (hk : k ≠ 1 ∧ k ≠ 2 ∧ k ≠ 3) => (fr_41 k (by omega)).trans ((fr_37 k (by omega)).trans ((fr_31 k (by omega)).trans ((fr_17 k (by omega)).trans (rfl))))), hF3, by rw [va_up_self, va_up_self], by rw [va_up_self, va_up_self], fun f9 h1 h2 => ⟨by rw [va_up_ne _ _ h1, va_up_ne _ _ h2], by rw [va_up_ne _ _ h1, va_up_ne _ _ h2]⟩⟩, by show va_P (dC, dI) vwCl _ t9.heap; rw [ht9]; exact hP⟩, hS.F ht9⟩) hS.2.2 dX10_timesFractions_45
def wd_X10_addFractions : List Cond := .code yX10_addFractions cX10_addFractions 4 none :: (([.methodLink RX10 130 yX10_times, .instanceMethod yX10_times, .selects RX10 yX10_times yX10_times, .initialized RX10, .methodLink RX10 133 yX10_add, .instanceMethod yX10_add, .selects RX10 yX10_add yX10_add, .methodLink RX10 121 yX10_reduce, .instanceMethod yX10_reduce, .selects RX10 yX10_reduce yX10_reduce, .methodLink RX10 136 yX10_copyFraction, .instanceMethod yX10_copyFraction, .selects RX10 yX10_copyFraction yX10_copyFraction] : List Cond) ++ (wd_X10_times ++ (wd_X10_add ++ (wd_X10_reduce ++ (wd_X10_copyFraction ++ ([]))))))
theorem gw_X10_addFractions : wd_X10_addFractions.all goodWord = true := k_allc rfl (k_all (by decide +kernel) (k_all (gw_X10_times) (k_all (gw_X10_add) (k_all (gw_X10_reduce) (k_all (gw_X10_copyFraction) (rfl))))))
set_option maxHeartbeats 4000000 in
set_option maxRecDepth 100000 in
theorem c_X10_addFractions (l : Launch) (dC : Nat → ClassId) (dI : Nat → Nat → Nat) (A : Nat → Prop) (ad : Nat → Nat) (cA : Nat → ClassId) (g : Nat → va_E) (x : Nat → Int32) (pf : Nat → Int) (qf : Nat → Nat) (t : Nat) (a : Nat) (b : Nat) (hF : RF ad cA g x pf qf) (ht : t < 1016) (ia : a < 1016) (ib : b < 1016) (ba : (pf a).natAbs < 2 ^ 1200 ∧ qf a < 2 ^ 1200) (bb : (pf b).natAbs < 2 ^ 1200 ∧ qf b < 2 ^ 1200) : Met l yX10_addFractions wd_X10_addFractions ({ frames := 70, cells := 0, slots := 0, locals := 1400 }) (va_Pc [.ref (ad 0), .int (nI t), .int (nI a), .int (nI b)] (PR NSr tyr dC dI A ad cA g)) (va_Qv (fun (u : (Nat → va_E) × (Nat → Int) × (Nat → Nat)) => match u with | (g2, pf2, qf2) => (∀ k, k ≠ 1 ∧ k ≠ 2 ∧ k ≠ 3 → g2 k = g k) ∧ RF ad cA g2 x pf2 qf2 ∧ pf2 t = rdp (pf a * qf b + pf b * qf a) (qf a * qf b) ∧ qf2 t = rdq (pf a * qf b + pf b * qf a) (qf a * qf b) ∧ (∀ f, f ≠ t → f ≠ 1016 → pf2 f = pf f ∧ qf2 f = qf f)) (fun (u : (Nat → va_E) × (Nat → Int) × (Nat → Nat)) (t : State) => va_P (dC, dI) vwCl (wo ad NSr u.1) t.heap) A) (0) (0) A := by
  refine Met.ofW (cc := cX10_addFractions) (maxL := 4) (ret := none) (by decide) rfl ?_
  intro p e s m args below meth c s₁ B hml hv
  obtain ⟨rfl, hA, hP, hL⟩ := hv
  have hx := B.exec
  have hb := B.bytes
  have hr := B.returns
  have hts := atoms_spec (ws := wd_X10_addFractions) B.pre
  have hown : s.vm.findClass RX10 = some m.cls := findClass_of_methodNamed B.named
  have hlocks := B.notSynchronized
  have hK := hL.1
  have hD : ∀ g, va_D A (wo ad NSr g) := fun g => wo_D hL.2.1 hL.2.2 g
  have hS : va_S A s.heap s.heap [] := va_S.rf
  have bk0 : ∀ w ∈ wd_X10_times, w ∈ wd_X10_addFractions := fun _ h => List.mem_cons_of_mem _ (List.mem_append_right _ (List.mem_append_left _ h))
  have bk1 : ∀ w ∈ wd_X10_add, w ∈ wd_X10_addFractions := fun _ h => List.mem_cons_of_mem _ (List.mem_append_right _ (List.mem_append_right _ (List.mem_append_left _ h)))
  have bk2 : ∀ w ∈ wd_X10_reduce, w ∈ wd_X10_addFractions := fun _ h => List.mem_cons_of_mem _ (List.mem_append_right _ (List.mem_append_right _ (List.mem_append_right _ (List.mem_append_left _ h))))
  have bk3 : ∀ w ∈ wd_X10_copyFraction, w ∈ wd_X10_addFractions := fun _ h => List.mem_cons_of_mem _ (List.mem_append_right _ (List.mem_append_right _ (List.mem_append_right _ (List.mem_append_right _ (List.mem_append_left _ h)))))
  have hl := lv_entry ([.ref (ad 0), .int (nI t), .int (nI a), .int (nI b)]) (n := 4) (Nat.le_of_ble_eq_true rfl)
  rw [lg_entry_eq]
  generalize (lg_sl ([.ref (ad 0), .int (nI t), .int (nI a), .int (nI b)]) ++ List.replicate (4 - (lg_sl ([.ref (ad 0), .int (nI t), .int (nI a), .int (nI b)])).length) Slot.unset).toArray = ls at hl ⊢
  have hl : lv_has ls 4 [(0, .ref (ad 0)), (1, .int (nI t)), (2, .int (nI a)), (3, .int (nI b))] := hl
  obtain ⟨vf, hV, hq⟩ := hF
  have hc_1 := hV
  obtain ⟨pnz_2, lnz_2, bnz_2, hRz_2, hvz_2⟩ := hc_1
  obtain ⟨r_3, r_4, r_5, r_6, r_7, r_8, r_9⟩ := hRz_2
  obtain ⟨a1, a2, a3⟩ := hq a (by omega)
  obtain ⟨b1, b2, b3⟩ := hq b (by omega)
  have a0 := a3.1
  have b0 := b3.1
  have n1 : (vf (2 * a)).natAbs = (pf a).natAbs := by rw [a1]
  have n2 : (vf (2 * a + 1)).natAbs = qf a := by omega
  have n3 : (vf (2 * b)).natAbs = (pf b).natAbs := by rw [b1]
  have n4 : (vf (2 * b + 1)).natAbs = qf b := by omega
  have k24 := k_24
  refine lv_aload_n hx hb dX10_addFractions_0 rfl (lv_at hl 0 rfl) ?_
  refine lv_sipush (v := nI 2064) hx hb dX10_addFractions_1 (by decide +kernel) ?_
  refine lv_iconst (v := nI 2) hx hb dX10_addFractions_4 (by decide +kernel) ?_
  refine lv_iload_n hx hb dX10_addFractions_5 rfl (lv_at hl 2 rfl) ?_
  refine lv_imul hx hb dX10_addFractions_6 ?_
  refine lv_topi (fun x_10 e_11 => ?_)
  obtain rfl : x_10 = nI (2 * a) := e_11.trans (pk_mul 2 a)
  refine lv_iconst (v := nI 2) hx hb dX10_addFractions_7 (by decide +kernel) ?_
  refine lv_iload_n hx hb dX10_addFractions_8 rfl (lv_at hl 3 rfl) ?_
  refine lv_imul hx hb dX10_addFractions_9 ?_
  refine lv_topi (fun x_12 e_13 => ?_)
  obtain rfl : x_12 = nI (2 * b) := e_13.trans (pk_mul 2 b)
  refine lv_iconst (v := nI 1) hx hb dX10_addFractions_10 (by decide +kernel) ?_
  refine lv_iadd hx hb dX10_addFractions_11 ?_
  refine lv_topi (fun x_14 e_15 => ?_)
  obtain rfl : x_14 = nI (2 * b + 1) := e_15.trans (nI_add (2 * b) 1)
  refine va_callv (va_runV (As := [.int (nI 2064), .int (nI (2 * a)), .int (nI (2 * b + 1))]) (rest := []) ⟨hx, hb, hml, hown, hts⟩ (c_X10_times l dC dI A ad cA g x vf 2064 (2 * a) (2 * b + 1) hV (by decide) (by omega) (by omega) (by rw [n1, n4]; have := k_m24 ba.1 bb.2; omega)) (cwV 3 hts (goodIn_app (goodIn_r [Cond.methodLink RX10 130 yX10_times, Cond.instanceMethod yX10_times, Cond.selects RX10 yX10_times yX10_times, Cond.initialized RX10] [1, 2, 3, 4] rfl rfl) (goodIn_sub (fun w9 h9 => bk0 w9 h9) gw_X10_times)) rfl rfl rfl (by decide +kernel) ⟨Nat.le_of_ble_eq_true rfl, Nat.le_of_ble_eq_true rfl⟩) ⟨fun a U g mk q => ⟨q.1, q.2.1, q.2.2.1, LY.moved (u := U) (U := U.calling g mk a) (Vm.Alike.refl U.vm) q.2.2.2⟩, va_recv hK hP (ci := 13) (q0 := 0) rfl (wo_at (by decide) r_3), fun U hU hW => ⟨rfl, by rw [hU]; exact fun q h => hA q (Nat.le_trans hS.1 h), by rw [hU]; exact hP, LY.moved hW.alike hL⟩⟩ rfl rfl hl.1 rfl (lv_room (Nat.le_of_ble_eq_true rfl)) dX10_addFractions_12 ⟨(Nat.le_of_ble_eq_true rfl), (Nat.le_of_ble_eq_true rfl)⟩) hS (fun q _ h => h) (fun q h => h) (fun u8 t8 H1 locs ht8 hvm8 hw_17 hB hz1 hk1 hS => ?_)
  obtain ⟨g_18, rfl⟩ : ∃ z, z = u8 := ⟨_, rfl⟩
  try dsimp only at hw_17 hB
  rw [ht8] at hB
  have hP := hB
  generalize H1 = H at hP hS ⊢
  obtain ⟨fr_19, hV_16⟩ := hw_17
  obtain ⟨vf_20, evf_20⟩ : ∃ z9, z9 = va_up vf 2064 (vf (2 * a) * vf (2 * b + 1)) := ⟨_, rfl⟩
  rw [← evf_20] at hV_16
  have uvf_20 : vf_20 2064 = vf (2 * a) * vf (2 * b + 1) := by rw [evf_20]; exact va_up_self _ _ _
  have ovf_20 : ∀ j, j ≠ 2064 → vf_20 j = vf j := fun j hj => by rw [evf_20]; exact va_up_ne _ _ hj
  refine lv_aload_n hx hb dX10_addFractions_15 rfl (lv_at hl 0 rfl) ?_
  refine lv_sipush (v := nI 2065) hx hb dX10_addFractions_16 (by decide +kernel) ?_
  refine lv_iconst (v := nI 2) hx hb dX10_addFractions_19 (by decide +kernel) ?_
  refine lv_iload_n hx hb dX10_addFractions_20 rfl (lv_at hl 3 rfl) ?_
  refine lv_imul hx hb dX10_addFractions_21 ?_
  refine lv_topi (fun x_21 e_22 => ?_)
  obtain rfl : x_21 = nI (2 * b) := e_22.trans (pk_mul 2 b)
  refine lv_iconst (v := nI 2) hx hb dX10_addFractions_22 (by decide +kernel) ?_
  refine lv_iload_n hx hb dX10_addFractions_23 rfl (lv_at hl 2 rfl) ?_
  refine lv_imul hx hb dX10_addFractions_24 ?_
  refine lv_topi (fun x_23 e_24 => ?_)
  obtain rfl : x_23 = nI (2 * a) := e_24.trans (pk_mul 2 a)
  refine lv_iconst (v := nI 1) hx hb dX10_addFractions_25 (by decide +kernel) ?_
  refine lv_iadd hx hb dX10_addFractions_26 ?_
  refine lv_topi (fun x_25 e_26 => ?_)
  obtain rfl : x_25 = nI (2 * a + 1) := e_26.trans (nI_add (2 * a) 1)
  have f_28 : g_18 0 = .inr (13, Rob ad x) := (fr_19 0 (by omega)).trans r_3
  refine va_callv (va_runV (As := [.int (nI 2065), .int (nI (2 * b)), .int (nI (2 * a + 1))]) (rest := []) ⟨hx, hb, hml, hown, hts⟩ (c_X10_times l dC dI A ad cA g_18 x vf_20 2065 (2 * b) (2 * a + 1) hV_16 (by decide) (by omega) (by omega) (by rw [ovf_20 _ (by omega), ovf_20 _ (by omega), n3, n2]; have := k_m24 bb.1 ba.2; omega)) (cwV 3 hts (goodIn_app (goodIn_r [Cond.methodLink RX10 130 yX10_times, Cond.instanceMethod yX10_times, Cond.selects RX10 yX10_times yX10_times, Cond.initialized RX10] [1, 2, 3, 4] rfl rfl) (goodIn_sub (fun w9 h9 => bk0 w9 h9) gw_X10_times)) rfl rfl rfl (by decide +kernel) ⟨Nat.le_of_ble_eq_true rfl, Nat.le_of_ble_eq_true rfl⟩) ⟨fun a U g mk q => ⟨q.1, q.2.1, q.2.2.1, LY.moved (u := U) (U := U.calling g mk a) (Vm.Alike.refl U.vm) q.2.2.2⟩, va_recv hK hP (ci := 13) (q0 := 0) rfl (wo_at (by decide) f_28), fun U hU hW => ⟨rfl, by rw [hU]; exact fun q h => hA q (Nat.le_trans hS.1 h), by rw [hU]; exact hP, LY.moved hW.alike hL⟩⟩ rfl rfl hl.1 rfl (lv_room (Nat.le_of_ble_eq_true rfl)) dX10_addFractions_27 ⟨(Nat.le_of_ble_eq_true rfl), (Nat.le_of_ble_eq_true rfl)⟩) hS (fun q _ h => h) (fun q h => h) (fun u8 t8 H1 locs ht8 hvm8 hw_29 hB hz1 hk1 hS => ?_)
  obtain ⟨g_30, rfl⟩ : ∃ z, z = u8 := ⟨_, rfl⟩
  try dsimp only at hw_29 hB
  rw [ht8] at hB
  have hP := hB
  generalize H1 = H at hP hS ⊢
  obtain ⟨fr_31, hV_27⟩ := hw_29
  obtain ⟨vf_32, evf_32⟩ : ∃ z9, z9 = va_up vf_20 2065 (vf_20 (2 * b) * vf_20 (2 * a + 1)) := ⟨_, rfl⟩
  rw [← evf_32] at hV_27
  have uvf_32 : vf_32 2065 = vf_20 (2 * b) * vf_20 (2 * a + 1) := by rw [evf_32]; exact va_up_self _ _ _
  have ovf_32 : ∀ j, j ≠ 2065 → vf_32 j = vf_20 j := fun j hj => by rw [evf_32]; exact va_up_ne _ _ hj
  refine lv_aload_n hx hb dX10_addFractions_30 rfl (lv_at hl 0 rfl) ?_
  refine lv_sipush (v := nI 2033) hx hb dX10_addFractions_31 (by decide +kernel) ?_
  refine lv_iconst (v := nI 2) hx hb dX10_addFractions_34 (by decide +kernel) ?_
  refine lv_iload_n hx hb dX10_addFractions_35 rfl (lv_at hl 2 rfl) ?_
  refine lv_imul hx hb dX10_addFractions_36 ?_
  refine lv_topi (fun x_33 e_34 => ?_)
  obtain rfl : x_33 = nI (2 * a) := e_34.trans (pk_mul 2 a)
  refine lv_iconst (v := nI 1) hx hb dX10_addFractions_37 (by decide +kernel) ?_
  refine lv_iadd hx hb dX10_addFractions_38 ?_
  refine lv_topi (fun x_35 e_36 => ?_)
  obtain rfl : x_35 = nI (2 * a + 1) := e_36.trans (nI_add (2 * a) 1)
  refine lv_iconst (v := nI 2) hx hb dX10_addFractions_39 (by decide +kernel) ?_
  refine lv_iload_n hx hb dX10_addFractions_40 rfl (lv_at hl 3 rfl) ?_
  refine lv_imul hx hb dX10_addFractions_41 ?_
  refine lv_topi (fun x_37 e_38 => ?_)
  obtain rfl : x_37 = nI (2 * b) := e_38.trans (pk_mul 2 b)
  refine lv_iconst (v := nI 1) hx hb dX10_addFractions_42 (by decide +kernel) ?_
  refine lv_iadd hx hb dX10_addFractions_43 ?_
  refine lv_topi (fun x_39 e_40 => ?_)
  obtain rfl : x_39 = nI (2 * b + 1) := e_40.trans (nI_add (2 * b) 1)
  have f_42 : g_30 0 = .inr (13, Rob ad x) := (fr_31 0 (by omega)).trans f_28
  refine va_callv (va_runV (As := [.int (nI 2033), .int (nI (2 * a + 1)), .int (nI (2 * b + 1))]) (rest := []) ⟨hx, hb, hml, hown, hts⟩ (c_X10_times l dC dI A ad cA g_30 x vf_32 2033 (2 * a + 1) (2 * b + 1) hV_27 (by decide) (by omega) (by omega) (by rw [ovf_32 _ (by omega), ovf_20 _ (by omega), ovf_32 _ (by omega), ovf_20 _ (by omega), n2, n4]; have := k_m24 ba.2 bb.2; omega)) (cwV 3 hts (goodIn_app (goodIn_r [Cond.methodLink RX10 130 yX10_times, Cond.instanceMethod yX10_times, Cond.selects RX10 yX10_times yX10_times, Cond.initialized RX10] [1, 2, 3, 4] rfl rfl) (goodIn_sub (fun w9 h9 => bk0 w9 h9) gw_X10_times)) rfl rfl rfl (by decide +kernel) ⟨Nat.le_of_ble_eq_true rfl, Nat.le_of_ble_eq_true rfl⟩) ⟨fun a U g mk q => ⟨q.1, q.2.1, q.2.2.1, LY.moved (u := U) (U := U.calling g mk a) (Vm.Alike.refl U.vm) q.2.2.2⟩, va_recv hK hP (ci := 13) (q0 := 0) rfl (wo_at (by decide) f_42), fun U hU hW => ⟨rfl, by rw [hU]; exact fun q h => hA q (Nat.le_trans hS.1 h), by rw [hU]; exact hP, LY.moved hW.alike hL⟩⟩ rfl rfl hl.1 rfl (lv_room (Nat.le_of_ble_eq_true rfl)) dX10_addFractions_44 ⟨(Nat.le_of_ble_eq_true rfl), (Nat.le_of_ble_eq_true rfl)⟩) hS (fun q _ h => h) (fun q h => h) (fun u8 t8 H1 locs ht8 hvm8 hw_43 hB hz1 hk1 hS => ?_)
  obtain ⟨g_44, rfl⟩ : ∃ z, z = u8 := ⟨_, rfl⟩
  try dsimp only at hw_43 hB
  rw [ht8] at hB
  have hP := hB
  generalize H1 = H at hP hS ⊢
  obtain ⟨fr_45, hV_41⟩ := hw_43
  obtain ⟨vf_46, evf_46⟩ : ∃ z9, z9 = va_up vf_32 2033 (vf_32 (2 * a + 1) * vf_32 (2 * b + 1)) := ⟨_, rfl⟩
  rw [← evf_46] at hV_41
  have uvf_46 : vf_46 2033 = vf_32 (2 * a + 1) * vf_32 (2 * b + 1) := by rw [evf_46]; exact va_up_self _ _ _
  have ovf_46 : ∀ j, j ≠ 2033 → vf_46 j = vf_32 j := fun j hj => by rw [evf_46]; exact va_up_ne _ _ hj
  refine lv_aload_n hx hb dX10_addFractions_47 rfl (lv_at hl 0 rfl) ?_
  refine lv_sipush (v := nI 2032) hx hb dX10_addFractions_48 (by decide +kernel) ?_
  refine lv_sipush (v := nI 2064) hx hb dX10_addFractions_51 (by decide +kernel) ?_
  refine lv_sipush (v := nI 2065) hx hb dX10_addFractions_54 (by decide +kernel) ?_
  have hL9 : vf_46 2064 = pf a * qf b := by rw [ovf_46 _ (by decide), ovf_32 _ (by decide), uvf_20, a1, b2]
  have hR9 : vf_46 2065 = pf b * qf a := by rw [ovf_46 _ (by decide), uvf_32, ovf_20 _ (by omega), ovf_20 _ (by omega), b1, a2]
  have hL8 : (vf_46 2064).natAbs < 2 ^ 2400 := by rw [hL9, Int.natAbs_mul, Int.natAbs_natCast]; exact k_m24 ba.1 bb.2
  have hR8 : (vf_46 2065).natAbs < 2 ^ 2400 := by rw [hR9, Int.natAbs_mul, Int.natAbs_natCast]; exact k_m24 bb.1 ba.2
  have f_48 : g_44 0 = .inr (13, Rob ad x) := (fr_45 0 (by omega)).trans f_42
  refine va_callv (va_runV (As := [.int (nI 2032), .int (nI 2064), .int (nI 2065)]) (rest := []) ⟨hx, hb, hml, hown, hts⟩ (c_X10_add l dC dI A ad cA g_44 x vf_46 2032 2064 2065 hV_41 (by decide) (by decide) (by decide) (by omega)) (cwV 3 hts (goodIn_app (goodIn_r [Cond.methodLink RX10 133 yX10_add, Cond.instanceMethod yX10_add, Cond.selects RX10 yX10_add yX10_add, Cond.initialized RX10] [5, 6, 7, 4] rfl rfl) (goodIn_sub (fun w9 h9 => bk1 w9 h9) gw_X10_add)) rfl rfl rfl (by decide +kernel) ⟨Nat.le_of_ble_eq_true rfl, Nat.le_of_ble_eq_true rfl⟩) ⟨fun a U g mk q => ⟨q.1, q.2.1, q.2.2.1, LY.moved (u := U) (U := U.calling g mk a) (Vm.Alike.refl U.vm) q.2.2.2⟩, va_recv hK hP (ci := 13) (q0 := 0) rfl (wo_at (by decide) f_48), fun U hU hW => ⟨rfl, by rw [hU]; exact fun q h => hA q (Nat.le_trans hS.1 h), by rw [hU]; exact hP, LY.moved hW.alike hL⟩⟩ rfl rfl hl.1 rfl (lv_room (Nat.le_of_ble_eq_true rfl)) dX10_addFractions_57 ⟨(Nat.le_of_ble_eq_true rfl), (Nat.le_of_ble_eq_true rfl)⟩) hS (fun q _ h => h) (fun q h => h) (fun u8 t8 H1 locs ht8 hvm8 hw_49 hB hz1 hk1 hS => ?_)
  obtain ⟨g_50, rfl⟩ : ∃ z, z = u8 := ⟨_, rfl⟩
  try dsimp only at hw_49 hB
  rw [ht8] at hB
  have hP := hB
  generalize H1 = H at hP hS ⊢
  obtain ⟨fr_51, hV_47⟩ := hw_49
  obtain ⟨vf_52, evf_52⟩ : ∃ z9, z9 = va_up vf_46 2032 (vf_46 2064 + vf_46 2065) := ⟨_, rfl⟩
  rw [← evf_52] at hV_47
  have uvf_52 : vf_52 2032 = vf_46 2064 + vf_46 2065 := by rw [evf_52]; exact va_up_self _ _ _
  have ovf_52 : ∀ j, j ≠ 2032 → vf_52 j = vf_46 j := fun j hj => by rw [evf_52]; exact va_up_ne _ _ hj
  refine lv_aload_n hx hb dX10_addFractions_60 rfl (lv_at hl 0 rfl) ?_
  refine lv_sipush (v := nI 1016) hx hb dX10_addFractions_61 (by decide +kernel) ?_
  have hsn : vf_52 (2 * 1016) = pf a * qf b + pf b * qf a := by rw [show 2 * 1016 = 2032 from rfl, uvf_52, hL9, hR9]
  have hsd : vf_52 (2 * 1016 + 1) = ((qf a * qf b : Nat) : Int) := by rw [show 2 * 1016 + 1 = 2033 from rfl, ovf_52 _ (by decide), uvf_46, ovf_32 _ (by omega), ovf_20 _ (by omega), ovf_32 _ (by omega), ovf_20 _ (by omega), a2, b2, Int.natCast_mul]
  have hd0 : 0 < qf a * qf b := Nat.mul_pos a0 b0
  have hd8 := k_m24 ba.2 bb.2
  have f_53 : g_50 0 = .inr (13, Rob ad x) := (fr_51 0 (by omega)).trans f_48
  refine va_callv (va_runV (As := [.int (nI 1016)]) (rest := []) ⟨hx, hb, hml, hown, hts⟩ (c_X10_reduce l dC dI A ad cA g_50 x vf_52 1016 (qf a * qf b) hV_47 (by decide) hsd hd0 (by omega)) (cwV 1 hts (goodIn_app (goodIn_r [Cond.methodLink RX10 121 yX10_reduce, Cond.instanceMethod yX10_reduce, Cond.selects RX10 yX10_reduce yX10_reduce, Cond.initialized RX10] [8, 9, 10, 4] rfl rfl) (goodIn_sub (fun w9 h9 => bk2 w9 h9) gw_X10_reduce)) rfl rfl rfl (by decide +kernel) ⟨Nat.le_of_ble_eq_true rfl, Nat.le_of_ble_eq_true rfl⟩) ⟨fun a U g mk q => ⟨q.1, q.2.1, q.2.2.1, LY.moved (u := U) (U := U.calling g mk a) (Vm.Alike.refl U.vm) q.2.2.2⟩, va_recv hK hP (ci := 13) (q0 := 0) rfl (wo_at (by decide) f_53), fun U hU hW => ⟨rfl, by rw [hU]; exact fun q h => hA q (Nat.le_trans hS.1 h), by rw [hU]; exact hP, LY.moved hW.alike hL⟩⟩ rfl rfl hl.1 rfl (lv_room (Nat.le_of_ble_eq_true rfl)) dX10_addFractions_64 ⟨(Nat.le_of_ble_eq_true rfl), (Nat.le_of_ble_eq_true rfl)⟩) hS (fun q _ h => h) (fun q h => h) (fun u8 t8 H1 locs ht8 hvm8 hw_54 hB hz1 hk1 hS => ?_)
  obtain ⟨g_55, vf2_56⟩ := u8
  try dsimp only at hw_54 hB
  rw [ht8] at hB
  have hP := hB
  generalize H1 = H at hP hS ⊢
  obtain ⟨fr_57, hVr, hr1, hr2, hr3⟩ := hw_54
  rw [hsn] at hr1 hr2
  refine lv_aload_n hx hb dX10_addFractions_67 rfl (lv_at hl 0 rfl) ?_
  refine lv_iload_n hx hb dX10_addFractions_68 rfl (lv_at hl 1 rfl) ?_
  refine lv_sipush (v := nI 1016) hx hb dX10_addFractions_69 (by decide +kernel) ?_
  have hF2 : RF ad cA g_55 x (va_up pf 1016 (rdp (pf a * qf b + pf b * qf a) (qf a * qf b))) (va_up qf 1016 (rdq (pf a * qf b + pf b * qf a) (qf a * qf b))) := RF.up hVr hq (fun f9 h1 h2 => ⟨by rw [hr3 _ (by omega) (by omega) (by omega), ovf_52 _ (by omega), ovf_46 _ (by omega), ovf_32 _ (by omega), ovf_20 _ (by omega)], by rw [hr3 _ (by omega) (by omega) (by omega), ovf_52 _ (by omega), ovf_46 _ (by omega), ovf_32 _ (by omega), ovf_20 _ (by omega)]⟩) hr1 hr2 (rd_red _ hd0)
  have f_58 : g_55 0 = .inr (13, Rob ad x) := (fr_57 0 (by omega)).trans f_53
  refine va_callv (va_runV (As := [.int (nI t), .int (nI 1016)]) (rest := []) ⟨hx, hb, hml, hown, hts⟩ (c_X10_copyFraction l dC dI A ad cA g_55 x (va_up pf 1016 (rdp (pf a * qf b + pf b * qf a) (qf a * qf b))) (va_up qf 1016 (rdq (pf a * qf b + pf b * qf a) (qf a * qf b))) t 1016 hF2 (by omega) (by decide)) (cwV 2 hts (goodIn_app (goodIn_r [Cond.methodLink RX10 136 yX10_copyFraction, Cond.instanceMethod yX10_copyFraction, Cond.selects RX10 yX10_copyFraction yX10_copyFraction, Cond.initialized RX10] [11, 12, 13, 4] rfl rfl) (goodIn_sub (fun w9 h9 => bk3 w9 h9) gw_X10_copyFraction)) rfl rfl rfl (by decide +kernel) ⟨Nat.le_of_ble_eq_true rfl, Nat.le_of_ble_eq_true rfl⟩) ⟨fun a U g mk q => ⟨q.1, q.2.1, q.2.2.1, LY.moved (u := U) (U := U.calling g mk a) (Vm.Alike.refl U.vm) q.2.2.2⟩, va_recv hK hP (ci := 13) (q0 := 0) rfl (wo_at (by decide) f_58), fun U hU hW => ⟨rfl, by rw [hU]; exact fun q h => hA q (Nat.le_trans hS.1 h), by rw [hU]; exact hP, LY.moved hW.alike hL⟩⟩ rfl rfl hl.1 rfl (lv_room (Nat.le_of_ble_eq_true rfl)) dX10_addFractions_72 ⟨(Nat.le_of_ble_eq_true rfl), (Nat.le_of_ble_eq_true rfl)⟩) hS (fun q _ h => h) (fun q h => h) (fun u8 t8 H1 locs ht8 hvm8 hw_59 hB hz1 hk1 hS => ?_)
  obtain ⟨g_60, rfl⟩ : ∃ z, z = u8 := ⟨_, rfl⟩
  try dsimp only at hw_59 hB
  rw [ht8] at hB
  have hP := hB
  generalize H1 = H at hP hS ⊢
  obtain ⟨fr_61, hF3⟩ := hw_59
  refine W.widen (k := 0) (n := 0) (by omega) (by omega) ?_
  exact W.vret hx hb hr (fun t9 ht9 hW9 => ⟨⟨(g_60, va_up (va_up pf 1016 (rdp (pf a * qf b + pf b * qf a) (qf a * qf b))) t (va_up pf 1016 (rdp (pf a * qf b + pf b * qf a) (qf a * qf b)) 1016), va_up (va_up qf 1016 (rdq (pf a * qf b + pf b * qf a) (qf a * qf b))) t (va_up qf 1016 (rdq (pf a * qf b + pf b * qf a) (qf a * qf b)) 1016)), rfl, ⟨(fun (k : Nat) (hk : k ≠ 1 ∧ k ≠ 2 ∧ k ≠ 3) => (fr_61 k (by omega)).trans ((fr_57 k (by omega)).trans ((fr_51 k (by omega)).trans ((fr_45 k (by omega)).trans ((fr_31 k (by omega)).trans ((fr_19 k (by omega)).trans (rfl))))))), hF3, by rw [va_up_self, va_up_self], by rw [va_up_self, va_up_self], fun f9 h1 h2 => ⟨by rw [va_up_ne _ _ h1, va_up_ne _ _ h2], by rw [va_up_ne _ _ h1, va_up_ne _ _ h2]⟩⟩, by show va_P (dC, dI) vwCl _ t9.heap; rw [ht9]; exact hP⟩, hS.F ht9⟩) hS.2.2 dX10_addFractions_75
end
section
/-! ints as whole numbers -/
def iI (z : Int) : Int32 := Int32.ofInt z
theorem nI_iI (n : Nat) : nI n = iI ((n : Nat) : Int) := (Int32.ofInt_eq_ofNat).symm
theorem iI_toInt {z : Int} (h : -2147483648 ≤ z ∧ z < 2147483648) : (iI z).toInt = z := by
  exact Int32.toInt_ofInt_of_le (show -2 ^ 31 ≤ z by omega) (show z < 2 ^ 31 by omega)
theorem iI_addP {x y : Int32} {a b : Int} (ha : x = iI a) (hb : y = iI b) : x + y = iI (a + b) := by
  rw [ha, hb]; exact (Int32.ofInt_add a b).symm
theorem iI_subP {x y : Int32} {a b : Int} (ha : x = iI a) (hb : y = iI b) : x - y = iI (a - b) := by
  rw [ha, hb]; exact (Int32.ofInt_sub a b).symm
theorem iI_mulP {x y : Int32} {a b : Int} (ha : x = iI a) (hb : y = iI b) : x * y = iI (a * b) := by
  rw [ha, hb]; exact (Int32.ofInt_mul a b).symm
theorem k_iLT {x y : Int32} {a b : Int} (ha : x = iI a) (hb : y = iI b) (h1 : -2147483648 ≤ a ∧ a < 2147483648) (h2 : -2147483648 ≤ b ∧ b < 2147483648) : x < y ↔ a < b := by
  rw [k_lt, ha, hb, iI_toInt h1, iI_toInt h2]
theorem k_iLE {x y : Int32} {a b : Int} (ha : x = iI a) (hb : y = iI b) (h1 : -2147483648 ≤ a ∧ a < 2147483648) (h2 : -2147483648 ≤ b ∧ b < 2147483648) : x ≤ y ↔ a ≤ b := by
  rw [k_le, ha, hb, iI_toInt h1, iI_toInt h2]
theorem k_iEQ {x y : Int32} {a b : Int} (ha : x = iI a) (hb : y = iI b) (h1 : -2147483648 ≤ a ∧ a < 2147483648) (h2 : -2147483648 ≤ b ∧ b < 2147483648) : x = y ↔ a = b := by
  rw [← Int32.toInt_inj, ha, hb, iI_toInt h1, iI_toInt h2]
theorem k_updZ {p : Nat → Int} {i : Nat} {v : Int} : upd (fun j => iI (p j)) i (iI v) = fun j => iI (va_up p i v j) := by
  funext j; by_cases h : j = i
  · subst h; rw [pk_us, va_up_self]
  · rw [pk_un h, va_up_ne _ _ h]
theorem k_up_in {p : Nat → Int} {i : Nat} {v lo hi : Int} (h : ∀ j, lo ≤ p j ∧ p j ≤ hi) (hv : lo ≤ v ∧ v ≤ hi) : ∀ j, lo ≤ va_up p i v j ∧ va_up p i v j ≤ hi := by
  intro j; by_cases h9 : j = i
  · subst h9; rw [va_up_self]; exact hv
  · rw [va_up_ne _ _ h9]; exact h j
/-! parts: sort, first, second, degree, n, d, and a number's p and q -/
abbrev PD : Type := Nat × Int × Int × Nat × Nat × Nat × Int × Nat
def pd0 : PD := (0, -1, -1, 0, 1, 0, 0, 1)
def gd (L : List PD) (i : Nat) : PD := (L[i]?).getD pd0
/-- what says the same -/
def pky (d e : PD) : Bool := d.1 == e.1 && d.2.1 == e.2.1 && d.2.2.1 == e.2.2.1 && (d.1 != 0 || (d.2.2.2.2.2.2.1 == e.2.2.2.2.2.2.1 && d.2.2.2.2.2.2.2 == e.2.2.2.2.2.2.2))
def keepL (L : List PD) (d : PD) : Int × List PD :=
  if 8 < d.2.2.2.1 ∨ 400 < d.2.2.2.2.1 ∨ 400 < d.2.2.2.2.2.1 then (-3, L)
  else if L.findIdx (fun e => pky e d) < L.length then ((L.findIdx (fun e => pky e d) : Nat), L)
  else if L.length = 200 then (-4, L) else ((L.length : Nat), L ++ [d])
/-- the arrays hold the parts -/
def MT (L : List PD) (pt : Nat → Nat → Int) (pf : Nat → Int) (qf : Nat → Nat) : Prop := ∀ i, i < L.length → pt 0 i = ((gd L i).1 : Nat) ∧ pt 1 i = (gd L i).2.1 ∧ pt 2 i = (gd L i).2.2.1 ∧ pt 3 i = ((gd L i).2.2.2.1 : Nat) ∧ pt 4 i = ((gd L i).2.2.2.2.1 : Nat) ∧ pt 5 i = ((gd L i).2.2.2.2.2.1 : Nat) ∧ ((gd L i).1 = 0 → pf i = (gd L i).2.2.2.2.2.2.1 ∧ qf i = (gd L i).2.2.2.2.2.2.2)
def PTF (cA : Nat → ClassId) (g : Nat → va_E) (pt : Nat → Nat → Int) : Prop := g 5 = .inl (cA 5, 201, .inl (fun j => iI (pt 0 j))) ∧ g 6 = .inl (cA 6, 201, .inl (fun j => iI (pt 1 j))) ∧ g 7 = .inl (cA 7, 201, .inl (fun j => iI (pt 2 j))) ∧ g 8 = .inl (cA 8, 201, .inl (fun j => iI (pt 3 j))) ∧ g 9 = .inl (cA 9, 201, .inl (fun j => iI (pt 4 j))) ∧ g 10 = .inl (cA 10, 201, .inl (fun j => iI (pt 5 j))) ∧ ∀ k j, -1 ≤ pt k j ∧ pt k j ≤ 20000
theorem findIdx_at {L : List PD} {q : PD → Bool} {i : Nat} (hi : i < L.length) (h : q (gd L i) = true) (hn : ∀ j, j < i → q (gd L j) = false) : L.findIdx q = i := by
  rw [List.findIdx_eq hi]
  have e : ∀ j (hj : j < L.length), gd L j = L[j] := fun j hj => by unfold gd; rw [List.getElem?_eq_getElem hj]; rfl
  refine ⟨by rw [← e i hi]; exact h, fun j hj => ?_⟩
  have := hn j hj
  rw [e j (by omega)] at this
  exact this
theorem findIdx_no {L : List PD} {q : PD → Bool} (hn : ∀ j, j < L.length → q (gd L j) = false) : ¬ L.findIdx q < L.length := by
  intro h
  have h1 := List.findIdx_getElem (xs := L) (p := q) (w := h)
  have h2 := hn _ h
  unfold gd at h2
  rw [List.getElem?_eq_getElem h] at h2
  simp only [Option.getD_some] at h2
  rw [h1] at h2; exact absurd h2 (by decide)
theorem gd_app {L : List PD} {d : PD} {i : Nat} (h : i < L.length) : gd (L ++ [d]) i = gd L i := by
  unfold gd; rw [List.getElem?_append_left h]
theorem gd_new {L : List PD} {d : PD} : gd (L ++ [d]) L.length = d := by
  unfold gd; rw [List.getElem?_append_right (Nat.le_refl _), Nat.sub_self]; rfl
theorem k_len1 {pn ln bn : Nat → Nat} {j : Nat} {v : Int} (h : VAL pn ln bn j v) : (ln j ≤ 1 ↔ v.natAbs < 4294967296) := by
  constructor
  · intro hl
    have h1 := h.lt
    have h2 : 4294967296 ^ ln j ≤ 4294967296 ^ 1 := Nat.pow_le_pow_right (by decide) hl
    rw [Nat.pow_one] at h2
    omega
  · intro hv
    exact h.2.1.le_of (by rw [Nat.pow_one]; exact hv)
end
section
def wd_X10_areSame : List Cond := .code yX10_areSame cX10_areSame 3 (some .boolean) :: (([.fieldLink RX10 18 "GradientDeskModel" "below" "[Z", .methodLink RX10 100 yX10_compareSizes, .instanceMethod yX10_compareSizes, .selects RX10 yX10_compareSizes yX10_compareSizes, .initialized RX10] : List Cond) ++ (u_ws RX10 TX10 29 ++ (wd_X10_compareSizes ++ ([]))))
theorem gw_X10_areSame : wd_X10_areSame.all goodWord = true := k_allc rfl (k_all (by decide +kernel) (k_all (gu_X10) (k_all (gw_X10_compareSizes) (rfl))))
set_option maxHeartbeats 4000000 in
set_option maxRecDepth 100000 in
theorem c_X10_areSame (l : Launch) (dC : Nat → ClassId) (dI : Nat → Nat → Nat) (A : Nat → Prop) (ad : Nat → Nat) (cA : Nat → ClassId) (g : Nat → va_E) (x : Nat → Int32) (pf : Nat → Int) (qf : Nat → Nat) (a : Nat) (b : Nat) (hF : RF ad cA g x pf qf) (ia : a < 1030) (ib : b < 1030) : Met l yX10_areSame wd_X10_areSame ({ frames := 40, cells := 0, slots := 0, locals := 800 }) (va_Pc [.ref (ad 0), .int (nI a), .int (nI b)] (PR NSr tyr dC dI A ad cA g)) (va_Qi (fun (r : Int32) => fun (u : Unit) => match u with | () => (r = nI 1 ∧ pf a = pf b ∧ qf a = qf b) ∨ (r = nI 0 ∧ ¬ (pf a = pf b ∧ qf a = qf b))) (fun (u : Unit) (t : State) => va_P (dC, dI) vwCl (wo ad NSr g) t.heap) A) (0) (0) A := by
  refine Met.ofW (cc := cX10_areSame) (maxL := 3) (ret := (some .boolean)) (by decide) rfl ?_
  intro p e s m args below meth c s₁ B hml hv
  obtain ⟨rfl, hA, hP, hL⟩ := hv
  have hx := B.exec
  have hb := B.bytes
  have hr := B.returns
  have hts := atoms_spec (ws := wd_X10_areSame) B.pre
  have hown : s.vm.findClass RX10 = some m.cls := findClass_of_methodNamed B.named
  have hlocks := B.notSynchronized
  have hK := hL.1
  have hD : ∀ g, va_D A (wo ad NSr g) := fun g => wo_D hL.2.1 hL.2.2 g
  have hS : va_S A s.heap s.heap [] := va_S.rf
  have bk0 : ∀ w ∈ u_ws RX10 TX10 29, w ∈ wd_X10_areSame := fun _ h => List.mem_cons_of_mem _ (List.mem_append_right _ (List.mem_append_left _ h))
  have bk1 : ∀ w ∈ wd_X10_compareSizes, w ∈ wd_X10_areSame := fun _ h => List.mem_cons_of_mem _ (List.mem_append_right _ (List.mem_append_right _ (List.mem_append_left _ h)))
  have hl := lv_entry ([.ref (ad 0), .int (nI a), .int (nI b)]) (n := 3) (Nat.le_of_ble_eq_true rfl)
  rw [lg_entry_eq]
  generalize (lg_sl ([.ref (ad 0), .int (nI a), .int (nI b)]) ++ List.replicate (3 - (lg_sl ([.ref (ad 0), .int (nI a), .int (nI b)])).length) Slot.unset).toArray = ls at hl ⊢
  have hl : lv_has ls 3 [(0, .ref (ad 0)), (1, .int (nI a)), (2, .int (nI b))] := hl
  have hF0 := hF
  obtain ⟨vf, hV, hq⟩ := hF
  have hc_1 := hV
  obtain ⟨pnz_2, lnz_2, bnz_2, hRz_2, hvz_2⟩ := hc_1
  obtain ⟨r_3, r_4, r_5, r_6, r_7, r_8, r_9⟩ := hRz_2
  obtain ⟨a1, a2, a3⟩ := hq a ia
  have sa := (hvz_2 (2 * a) (by omega)).2.2
  have ta := r_9 (2 * a)
  obtain ⟨b1, b2, b3⟩ := hq b ib
  have sb := (hvz_2 (2 * b) (by omega)).2.2
  have tb := r_9 (2 * b)
  refine lv_aload_n hx hb dX10_areSame_0 rfl (lv_at hl 0 rfl) ?_
  refine m_get (D := (dC, dI)) (v := .ref (ad 3)) (C := RX10) (T := TX10) (N := 29) hx hb hts bk0 hown hK hP 0 (by decide) r_3 rfl 3 (by decide) (hts (.fieldLink RX10 18 "GradientDeskModel" "below" "[Z") (List.mem_of_getElem? (i := 1) rfl)) (fun _ h9 => h9) rfl dX10_areSame_1 ?_
  refine lv_iconst (v := nI 2) hx hb dX10_areSame_4 (by decide +kernel) ?_
  refine lv_iload_n hx hb dX10_areSame_5 rfl (lv_at hl 1 rfl) ?_
  refine lv_imul hx hb dX10_areSame_6 ?_
  refine lv_topi (fun x_10 e_11 => ?_)
  obtain rfl : x_10 = nI (2 * a) := e_11.trans (pk_mul 2 a)
  refine m_zald hx hb hK hP 3 (by decide) rfl r_6 (i := 2 * a) (by omega) (by decide) dX10_areSame_7 ?_
  have b_12 := r_9 (2 * a)
  refine lv_aload_n hx hb dX10_areSame_8 rfl (lv_at hl 0 rfl) ?_
  refine m_get (D := (dC, dI)) (v := .ref (ad 3)) (C := RX10) (T := TX10) (N := 29) hx hb hts bk0 hown hK hP 0 (by decide) r_3 rfl 3 (by decide) (hts (.fieldLink RX10 18 "GradientDeskModel" "below" "[Z") (List.mem_of_getElem? (i := 1) rfl)) (fun _ h9 => h9) rfl dX10_areSame_9 ?_
  refine lv_iconst (v := nI 2) hx hb dX10_areSame_12 (by decide +kernel) ?_
  refine lv_iload_n hx hb dX10_areSame_13 rfl (lv_at hl 2 rfl) ?_
  refine lv_imul hx hb dX10_areSame_14 ?_
  refine lv_topi (fun x_13 e_14 => ?_)
  obtain rfl : x_13 = nI (2 * b) := e_14.trans (pk_mul 2 b)
  refine m_zald hx hb hK hP 3 (by decide) rfl r_6 (i := 2 * b) (by omega) (by decide) dX10_areSame_15 ?_
  have b_15 := r_9 (2 * b)
  refine lv_icmp_ne (tgt := 53) hx hb dX10_areSame_16 (by decide) (fun c_16 => ?_) (fun c_16 => ?_)
  · have c_16 := mt (nI_eq (a := (bnz_2 (2 * a))) (b := (bnz_2 (2 * b))) (by omega) (by omega)).mpr c_16
    refine lv_iconst (v := nI 0) hx hb dX10_areSame_53 (by decide +kernel) ?_
    refine W.widen (k := 0) (n := 0) (by omega) (by omega) ?_
    exact W.zret (v := nI 0) hx hb hr (by decide +kernel) (fun t9 ht9 hW9 => ⟨⟨nI 0, (), rfl, Or.inr ⟨rfl, by omega⟩, by show va_P (dC, dI) vwCl _ t9.heap; rw [ht9]; exact hP⟩, hS.F ht9⟩) hS.2.2 dX10_areSame_54
  · have c_16 := (nI_eq (a := (bnz_2 (2 * a))) (b := (bnz_2 (2 * b))) (by omega) (by omega)).mp c_16
    refine lv_aload_n hx hb dX10_areSame_19 rfl (lv_at hl 0 rfl) ?_
    refine lv_iconst (v := nI 2) hx hb dX10_areSame_20 (by decide +kernel) ?_
    refine lv_iload_n hx hb dX10_areSame_21 rfl (lv_at hl 1 rfl) ?_
    refine lv_imul hx hb dX10_areSame_22 ?_
    refine lv_topi (fun x_17 e_18 => ?_)
    obtain rfl : x_17 = nI (2 * a) := e_18.trans (pk_mul 2 a)
    refine lv_iconst (v := nI 2) hx hb dX10_areSame_23 (by decide +kernel) ?_
    refine lv_iload_n hx hb dX10_areSame_24 rfl (lv_at hl 2 rfl) ?_
    refine lv_imul hx hb dX10_areSame_25 ?_
    refine lv_topi (fun x_19 e_20 => ?_)
    obtain rfl : x_19 = nI (2 * b) := e_20.trans (pk_mul 2 b)
    refine va_calli (va_runV (As := [.int (nI (2 * a)), .int (nI (2 * b))]) (rest := []) ⟨hx, hb, hml, hown, hts⟩ (c_X10_compareSizes l dC dI A ad cA g x vf (2 * a) (2 * b) hV (by omega) (by omega)) (cwV 2 hts (goodIn_app (goodIn_r [Cond.methodLink RX10 100 yX10_compareSizes, Cond.instanceMethod yX10_compareSizes, Cond.selects RX10 yX10_compareSizes yX10_compareSizes, Cond.initialized RX10] [2, 3, 4, 5] rfl rfl) (goodIn_sub (fun w9 h9 => bk1 w9 h9) gw_X10_compareSizes)) rfl rfl rfl (by decide +kernel) ⟨Nat.le_of_ble_eq_true rfl, Nat.le_of_ble_eq_true rfl⟩) ⟨fun a U g mk q => ⟨q.1, q.2.1, q.2.2.1, LY.moved (u := U) (U := U.calling g mk a) (Vm.Alike.refl U.vm) q.2.2.2⟩, va_recv hK hP (ci := 13) (q0 := 0) rfl (wo_at (by decide) r_3), fun U hU hW => ⟨rfl, by rw [hU]; exact fun q h => hA q (Nat.le_trans hS.1 h), by rw [hU]; exact hP, LY.moved hW.alike hL⟩⟩ rfl rfl hl.1 rfl (lv_room (Nat.le_of_ble_eq_true rfl)) dX10_areSame_26 ⟨(Nat.le_of_ble_eq_true rfl), (Nat.le_of_ble_eq_true rfl)⟩) hS (fun q _ h => h) (fun q h => h) (fun r_21 u8 t8 H1 locs ht8 hvm8 hw_22 hB hz1 hk1 hS => ?_)
    obtain ⟨⟩ := u8
    try dsimp only at hw_22 hB
    rw [ht8] at hB
    have hP := hB
    generalize H1 = H at hP hS ⊢
    rcases hw_22 with ⟨rfl, hc1⟩ | ⟨rfl, hc1⟩ | ⟨rfl, hc1⟩
    · skip
      refine lv_if_ne (tgt := 53) hx hb dX10_areSame_29 (by decide) (fun c_23 => ?_) (fun c_23 => absurd c_23 (by decide))
      refine lv_iconst (v := nI 0) hx hb dX10_areSame_53 (by decide +kernel) ?_
      refine W.widen (k := 0) (n := 0) (by omega) (by omega) ?_
      exact W.zret (v := nI 0) hx hb hr (by decide +kernel) (fun t9 ht9 hW9 => ⟨⟨nI 0, (), rfl, Or.inr ⟨rfl, by omega⟩, by show va_P (dC, dI) vwCl _ t9.heap; rw [ht9]; exact hP⟩, hS.F ht9⟩) hS.2.2 dX10_areSame_54
    · skip
      refine lv_if_ne (tgt := 53) hx hb dX10_areSame_29 (by decide) (fun c_24 => absurd c_24 (by decide)) (fun c_24 => ?_)
      refine lv_aload_n hx hb dX10_areSame_32 rfl (lv_at hl 0 rfl) ?_
      refine lv_iconst (v := nI 2) hx hb dX10_areSame_33 (by decide +kernel) ?_
      refine lv_iload_n hx hb dX10_areSame_34 rfl (lv_at hl 1 rfl) ?_
      refine lv_imul hx hb dX10_areSame_35 ?_
      refine lv_topi (fun x_25 e_26 => ?_)
      obtain rfl : x_25 = nI (2 * a) := e_26.trans (pk_mul 2 a)
      refine lv_iconst (v := nI 1) hx hb dX10_areSame_36 (by decide +kernel) ?_
      refine lv_iadd hx hb dX10_areSame_37 ?_
      refine lv_topi (fun x_27 e_28 => ?_)
      obtain rfl : x_27 = nI (2 * a + 1) := e_28.trans (nI_add (2 * a) 1)
      refine lv_iconst (v := nI 2) hx hb dX10_areSame_38 (by decide +kernel) ?_
      refine lv_iload_n hx hb dX10_areSame_39 rfl (lv_at hl 2 rfl) ?_
      refine lv_imul hx hb dX10_areSame_40 ?_
      refine lv_topi (fun x_29 e_30 => ?_)
      obtain rfl : x_29 = nI (2 * b) := e_30.trans (pk_mul 2 b)
      refine lv_iconst (v := nI 1) hx hb dX10_areSame_41 (by decide +kernel) ?_
      refine lv_iadd hx hb dX10_areSame_42 ?_
      refine lv_topi (fun x_31 e_32 => ?_)
      obtain rfl : x_31 = nI (2 * b + 1) := e_32.trans (nI_add (2 * b) 1)
      refine va_calli (va_runV (As := [.int (nI (2 * a + 1)), .int (nI (2 * b + 1))]) (rest := []) ⟨hx, hb, hml, hown, hts⟩ (c_X10_compareSizes l dC dI A ad cA g x vf (2 * a + 1) (2 * b + 1) hV (by omega) (by omega)) (cwV 2 hts (goodIn_app (goodIn_r [Cond.methodLink RX10 100 yX10_compareSizes, Cond.instanceMethod yX10_compareSizes, Cond.selects RX10 yX10_compareSizes yX10_compareSizes, Cond.initialized RX10] [2, 3, 4, 5] rfl rfl) (goodIn_sub (fun w9 h9 => bk1 w9 h9) gw_X10_compareSizes)) rfl rfl rfl (by decide +kernel) ⟨Nat.le_of_ble_eq_true rfl, Nat.le_of_ble_eq_true rfl⟩) ⟨fun a U g mk q => ⟨q.1, q.2.1, q.2.2.1, LY.moved (u := U) (U := U.calling g mk a) (Vm.Alike.refl U.vm) q.2.2.2⟩, va_recv hK hP (ci := 13) (q0 := 0) rfl (wo_at (by decide) r_3), fun U hU hW => ⟨rfl, by rw [hU]; exact fun q h => hA q (Nat.le_trans hS.1 h), by rw [hU]; exact hP, LY.moved hW.alike hL⟩⟩ rfl rfl hl.1 rfl (lv_room (Nat.le_of_ble_eq_true rfl)) dX10_areSame_43 ⟨(Nat.le_of_ble_eq_true rfl), (Nat.le_of_ble_eq_true rfl)⟩) hS (fun q _ h => h) (fun q h => h) (fun r_33 u8 t8 H1 locs ht8 hvm8 hw_34 hB hz1 hk1 hS => ?_)
      obtain ⟨⟩ := u8
      try dsimp only at hw_34 hB
      rw [ht8] at hB
      have hP := hB
      generalize H1 = H at hP hS ⊢
      rcases hw_34 with ⟨rfl, hc2⟩ | ⟨rfl, hc2⟩ | ⟨rfl, hc2⟩
      · skip
        refine lv_if_ne (tgt := 53) hx hb dX10_areSame_46 (by decide) (fun c_35 => ?_) (fun c_35 => absurd c_35 (by decide))
        refine lv_iconst (v := nI 0) hx hb dX10_areSame_53 (by decide +kernel) ?_
        refine W.widen (k := 0) (n := 0) (by omega) (by omega) ?_
        exact W.zret (v := nI 0) hx hb hr (by decide +kernel) (fun t9 ht9 hW9 => ⟨⟨nI 0, (), rfl, Or.inr ⟨rfl, by omega⟩, by show va_P (dC, dI) vwCl _ t9.heap; rw [ht9]; exact hP⟩, hS.F ht9⟩) hS.2.2 dX10_areSame_54
      · skip
        refine lv_if_ne (tgt := 53) hx hb dX10_areSame_46 (by decide) (fun c_36 => absurd c_36 (by decide)) (fun c_36 => ?_)
        refine lv_iconst (v := nI 1) hx hb dX10_areSame_49 (by decide +kernel) ?_
        refine lv_goto (tgt := 54) hx hb dX10_areSame_50 (by decide) ?_
        refine W.widen (k := 0) (n := 0) (by omega) (by omega) ?_
        exact W.zret (v := nI 1) hx hb hr (by decide +kernel) (fun t9 ht9 hW9 => ⟨⟨nI 1, (), rfl, Or.inl ⟨rfl, by omega⟩, by show va_P (dC, dI) vwCl _ t9.heap; rw [ht9]; exact hP⟩, hS.F ht9⟩) hS.2.2 dX10_areSame_54
      · skip
        refine lv_if_ne (tgt := 53) hx hb dX10_areSame_46 (by decide) (fun c_37 => ?_) (fun c_37 => absurd c_37 (by decide))
        refine lv_iconst (v := nI 0) hx hb dX10_areSame_53 (by decide +kernel) ?_
        refine W.widen (k := 0) (n := 0) (by omega) (by omega) ?_
        exact W.zret (v := nI 0) hx hb hr (by decide +kernel) (fun t9 ht9 hW9 => ⟨⟨nI 0, (), rfl, Or.inr ⟨rfl, by omega⟩, by show va_P (dC, dI) vwCl _ t9.heap; rw [ht9]; exact hP⟩, hS.F ht9⟩) hS.2.2 dX10_areSame_54
    · skip
      refine lv_if_ne (tgt := 53) hx hb dX10_areSame_29 (by decide) (fun c_38 => ?_) (fun c_38 => absurd c_38 (by decide))
      refine lv_iconst (v := nI 0) hx hb dX10_areSame_53 (by decide +kernel) ?_
      refine W.widen (k := 0) (n := 0) (by omega) (by omega) ?_
      exact W.zret (v := nI 0) hx hb hr (by decide +kernel) (fun t9 ht9 hW9 => ⟨⟨nI 0, (), rfl, Or.inr ⟨rfl, by omega⟩, by show va_P (dC, dI) vwCl _ t9.heap; rw [ht9]; exact hP⟩, hS.F ht9⟩) hS.2.2 dX10_areSame_54
def wd_X10_is : List Cond := .code yX10_is cX10_is 4 (some .boolean) :: (([.fieldLink RX10 14 "GradientDeskModel" "length" "[I", .methodLink RX10 87 yX10_piece, .instanceMethod yX10_piece, .selects RX10 yX10_piece yX10_piece, .initialized RX10, .fieldLink RX10 18 "GradientDeskModel" "below" "[Z"] : List Cond) ++ (u_ws RX10 TX10 29 ++ (wd_X10_piece ++ ([]))))
theorem gw_X10_is : wd_X10_is.all goodWord = true := k_allc rfl (k_all (by decide +kernel) (k_all (gu_X10) (k_all (gw_X10_piece) (rfl))))
set_option maxHeartbeats 4000000 in
set_option maxRecDepth 100000 in
theorem c_X10_is (l : Launch) (dC : Nat → ClassId) (dI : Nat → Nat → Nat) (A : Nat → Prop) (ad : Nat → Nat) (cA : Nat → ClassId) (g : Nat → va_E) (x : Nat → Int32) (pf : Nat → Int) (qf : Nat → Nat) (a : Nat) (v9 : Nat) (hF : RF ad cA g x pf qf) (ia : a < 1030) (hv9 : v9 ≤ 1) : Met l yX10_is wd_X10_is ({ frames := 30, cells := 0, slots := 0, locals := 600 }) (va_Pc [.ref (ad 0), .int (nI a), .long (lN v9)] (PR NSr tyr dC dI A ad cA g)) (va_Qi (fun (r : Int32) => fun (u : Unit) => match u with | () => (r = nI 1 ∧ pf a = (v9 : Int) ∧ qf a = 1) ∨ (r = nI 0 ∧ ¬ (pf a = (v9 : Int) ∧ qf a = 1))) (fun (u : Unit) (t : State) => va_P (dC, dI) vwCl (wo ad NSr g) t.heap) A) (0) (0) A := by
  refine Met.ofW (cc := cX10_is) (maxL := 4) (ret := (some .boolean)) (by decide) rfl ?_
  intro p e s m args below meth c s₁ B hml hv
  obtain ⟨rfl, hA, hP, hL⟩ := hv
  have hx := B.exec
  have hb := B.bytes
  have hr := B.returns
  have hts := atoms_spec (ws := wd_X10_is) B.pre
  have hown : s.vm.findClass RX10 = some m.cls := findClass_of_methodNamed B.named
  have hlocks := B.notSynchronized
  have hK := hL.1
  have hD : ∀ g, va_D A (wo ad NSr g) := fun g => wo_D hL.2.1 hL.2.2 g
  have hS : va_S A s.heap s.heap [] := va_S.rf
  have bk0 : ∀ w ∈ u_ws RX10 TX10 29, w ∈ wd_X10_is := fun _ h => List.mem_cons_of_mem _ (List.mem_append_right _ (List.mem_append_left _ h))
  have bk1 : ∀ w ∈ wd_X10_piece, w ∈ wd_X10_is := fun _ h => List.mem_cons_of_mem _ (List.mem_append_right _ (List.mem_append_right _ (List.mem_append_left _ h)))
  have hl := lv_entry ([.ref (ad 0), .int (nI a), .long (lN v9)]) (n := 4) (Nat.le_of_ble_eq_true rfl)
  rw [lg_entry_eq]
  generalize (lg_sl ([.ref (ad 0), .int (nI a), .long (lN v9)]) ++ List.replicate (4 - (lg_sl ([.ref (ad 0), .int (nI a), .long (lN v9)])).length) Slot.unset).toArray = ls at hl ⊢
  have hl : lv_has ls 4 [(0, .ref (ad 0)), (1, .int (nI a)), (2, .long (lN v9))] := hl
  have hF0 := hF
  obtain ⟨vf, hV, hq⟩ := hF
  have hc_1 := hV
  obtain ⟨pnz_2, lnz_2, bnz_2, hRz_2, hvz_2⟩ := hc_1
  obtain ⟨r_3, r_4, r_5, r_6, r_7, r_8, r_9⟩ := hRz_2
  obtain ⟨a1, a2, a3⟩ := hq a ia
  have a0 := a3.1
  have hn := hvz_2 (2 * a) (by omega)
  have hd := hvz_2 (2 * a + 1) (by omega)
  rw [a1] at hn
  rw [a2] at hd
  have ln9 := hn.1
  have ld9 := hd.1
  have sn9 := hn.2.2
  have tb9 := r_9 (2 * a)
  have zn9 := hn.zero
  have zd9 := hd.zero
  have on9 := k_len1 hn
  have od9 := k_len1 hd
  refine lv_aload_n hx hb dX10_is_0 rfl (lv_at hl 0 rfl) ?_
  refine m_get (D := (dC, dI)) (v := .ref (ad 2)) (C := RX10) (T := TX10) (N := 29) hx hb hts bk0 hown hK hP 0 (by decide) r_3 rfl 2 (by decide) (hts (.fieldLink RX10 14 "GradientDeskModel" "length" "[I") (List.mem_of_getElem? (i := 1) rfl)) (fun _ h9 => h9) rfl dX10_is_1 ?_
  refine lv_iconst (v := nI 2) hx hb dX10_is_4 (by decide +kernel) ?_
  refine lv_iload_n hx hb dX10_is_5 rfl (lv_at hl 1 rfl) ?_
  refine lv_imul hx hb dX10_is_6 ?_
  refine lv_topi (fun x_10 e_11 => ?_)
  obtain rfl : x_10 = nI (2 * a) := e_11.trans (pk_mul 2 a)
  refine lv_iconst (v := nI 1) hx hb dX10_is_7 (by decide +kernel) ?_
  refine lv_iadd hx hb dX10_is_8 ?_
  refine lv_topi (fun x_12 e_13 => ?_)
  obtain rfl : x_12 = nI (2 * a + 1) := e_13.trans (nI_add (2 * a) 1)
  refine m_iald hx hb hK hP 2 (by decide) rfl r_5 (i := 2 * a + 1) (by omega) (by decide) dX10_is_9 ?_
  have b_14 := r_8 (2 * a + 1)
  refine lv_iconst (v := nI 1) hx hb dX10_is_10 (by decide +kernel) ?_
  refine lv_icmp_ne (tgt := 85) hx hb dX10_is_11 (by decide) (fun c_15 => ?_) (fun c_15 => ?_)
  · have c_15 := mt (nI_eq (a := (lnz_2 (2 * a + 1))) (b := 1) (by omega) (by decide)).mpr c_15
    refine lv_iconst (v := nI 0) hx hb dX10_is_85 (by decide +kernel) ?_
    refine W.widen (k := 0) (n := 0) (by omega) (by omega) ?_
    exact W.zret (v := nI 0) hx hb hr (by decide +kernel) (fun t9 ht9 hW9 => ⟨⟨nI 0, (), rfl, Or.inr ⟨rfl, by omega⟩, by show va_P (dC, dI) vwCl _ t9.heap; rw [ht9]; exact hP⟩, hS.F ht9⟩) hS.2.2 dX10_is_86
  · have c_15 := (nI_eq (a := (lnz_2 (2 * a + 1))) (b := 1) (by omega) (by decide)).mp c_15
    refine lv_aload_n hx hb dX10_is_14 rfl (lv_at hl 0 rfl) ?_
    refine lv_iconst (v := nI 2) hx hb dX10_is_15 (by decide +kernel) ?_
    refine lv_iload_n hx hb dX10_is_16 rfl (lv_at hl 1 rfl) ?_
    refine lv_imul hx hb dX10_is_17 ?_
    refine lv_topi (fun x_16 e_17 => ?_)
    obtain rfl : x_16 = nI (2 * a) := e_17.trans (pk_mul 2 a)
    refine lv_iconst (v := nI 1) hx hb dX10_is_18 (by decide +kernel) ?_
    refine lv_iadd hx hb dX10_is_19 ?_
    refine lv_topi (fun x_18 e_19 => ?_)
    obtain rfl : x_18 = nI (2 * a + 1) := e_19.trans (nI_add (2 * a) 1)
    refine lv_iconst (v := nI 0) hx hb dX10_is_20 (by decide +kernel) ?_
    have hR_20 : RN ad cA g x pnz_2 lnz_2 bnz_2 := ⟨r_3, r_4, r_5, r_6, r_7, r_8, r_9⟩
    refine va_calll (va_runV (As := [.int (nI (2 * a + 1)), .int (nI 0)]) (rest := []) ⟨hx, hb, hml, hown, hts⟩ (c_X10_piece l dC dI A ad cA g x pnz_2 lnz_2 bnz_2 (2 * a + 1) 0 hR_20 (by omega) ld9 (by omega)) (cwV 2 hts (goodIn_app (goodIn_r [Cond.methodLink RX10 87 yX10_piece, Cond.instanceMethod yX10_piece, Cond.selects RX10 yX10_piece yX10_piece, Cond.initialized RX10] [2, 3, 4, 5] rfl rfl) (goodIn_sub (fun w9 h9 => bk1 w9 h9) gw_X10_piece)) rfl rfl rfl (by decide +kernel) ⟨Nat.le_of_ble_eq_true rfl, Nat.le_of_ble_eq_true rfl⟩) ⟨fun a U g mk q => ⟨q.1, q.2.1, q.2.2.1, LY.moved (u := U) (U := U.calling g mk a) (Vm.Alike.refl U.vm) q.2.2.2⟩, va_recv hK hP (ci := 13) (q0 := 0) rfl (wo_at (by decide) r_3), fun U hU hW => ⟨rfl, by rw [hU]; exact fun q h => hA q (Nat.le_trans hS.1 h), by rw [hU]; exact hP, LY.moved hW.alike hL⟩⟩ rfl rfl hl.1 rfl (lv_room (Nat.le_of_ble_eq_true rfl)) dX10_is_21 ⟨(Nat.le_of_ble_eq_true rfl), (Nat.le_of_ble_eq_true rfl)⟩) hS (fun q _ h => h) (fun q h => h) (fun r_21 u8 t8 H1 locs ht8 hvm8 hw_22 hB hz1 hk1 hS => ?_)
    obtain ⟨⟩ := u8
    try dsimp only at hw_22 hB
    rw [ht8] at hB
    have hP := hB
    generalize H1 = H at hP hS ⊢
    obtain rfl := hw_22
    rw [show pc9 pnz_2 lnz_2 (2 * a + 1) 0 = dgt ((qf a : Int)).natAbs 0 from hd.pc 0]
    obtain ⟨n_23, hn_23⟩ : ∃ z, z = dgt ((qf a : Int)).natAbs 0 := ⟨_, rfl⟩
    rw [← hn_23]
    rw [dgt_0] at hn_23
    have bn_23 : n_23 < 4294967296 := by rw [hn_23]; exact Nat.mod_lt _ (by decide)
    refine lv_lconst (v := lN 1) hx hb dX10_is_24 (by decide +kernel) ?_
    refine W.lcmp hx hb dX10_is_25 ?_
    refine lv_if_ne (tgt := 85) hx hb dX10_is_26 (by decide) (fun c_24 => ?_) (fun c_24 => ?_)
    · have c_24 := mt (pk_lEQ (a := n_23) (b := 1) (by omega) (by decide)).mpr (mt (k_cmp_eq (lN n_23) (lN 1)).mpr c_24)
      refine lv_iconst (v := nI 0) hx hb dX10_is_85 (by decide +kernel) ?_
      refine W.widen (k := 0) (n := 0) (by omega) (by omega) ?_
      exact W.zret (v := nI 0) hx hb hr (by decide +kernel) (fun t9 ht9 hW9 => ⟨⟨nI 0, (), rfl, Or.inr ⟨rfl, by omega⟩, by show va_P (dC, dI) vwCl _ t9.heap; rw [ht9]; exact hP⟩, hS.F ht9⟩) hS.2.2 dX10_is_86
    · have c_24 := (pk_lEQ (a := n_23) (b := 1) (by omega) (by decide)).mp ((k_cmp_eq (lN n_23) (lN 1)).mp c_24)
      refine lv_aload_n hx hb dX10_is_29 rfl (lv_at hl 0 rfl) ?_
      refine m_get (D := (dC, dI)) (v := .ref (ad 2)) (C := RX10) (T := TX10) (N := 29) hx hb hts bk0 hown hK hP 0 (by decide) r_3 rfl 2 (by decide) (hts (.fieldLink RX10 14 "GradientDeskModel" "length" "[I") (List.mem_of_getElem? (i := 1) rfl)) (fun _ h9 => h9) rfl dX10_is_30 ?_
      refine lv_iconst (v := nI 2) hx hb dX10_is_33 (by decide +kernel) ?_
      refine lv_iload_n hx hb dX10_is_34 rfl (lv_at hl 1 rfl) ?_
      refine lv_imul hx hb dX10_is_35 ?_
      refine lv_topi (fun x_25 e_26 => ?_)
      obtain rfl : x_25 = nI (2 * a) := e_26.trans (pk_mul 2 a)
      refine m_iald hx hb hK hP 2 (by decide) rfl r_5 (i := 2 * a) (by omega) (by decide) dX10_is_36 ?_
      have b_27 := r_8 (2 * a)
      refine lv_lload_n hx hb dX10_is_37 rfl (lv_at hl 2 rfl) ?_
      refine lv_lconst (v := lN 0) hx hb dX10_is_38 (by decide +kernel) ?_
      refine W.lcmp hx hb dX10_is_39 ?_
      refine lv_if_ne (tgt := 47) hx hb dX10_is_40 (by decide) (fun c_28 => ?_) (fun c_28 => ?_)
      · have c_28 := mt (pk_lEQ (a := v9) (b := 0) (by omega) (by decide)).mpr (mt (k_cmp_eq (lN v9) (lN 0)).mpr c_28)
        refine lv_iconst (v := nI 1) hx hb dX10_is_47 (by decide +kernel) ?_
        refine lv_icmp_ne (tgt := 85) hx hb dX10_is_48 (by decide) (fun c_29 => ?_) (fun c_29 => ?_)
        · have c_29 := mt (nI_eq (a := (lnz_2 (2 * a))) (b := 1) (by omega) (by decide)).mpr c_29
          refine lv_iconst (v := nI 0) hx hb dX10_is_85 (by decide +kernel) ?_
          refine W.widen (k := 0) (n := 0) (by omega) (by omega) ?_
          exact W.zret (v := nI 0) hx hb hr (by decide +kernel) (fun t9 ht9 hW9 => ⟨⟨nI 0, (), rfl, Or.inr ⟨rfl, by omega⟩, by show va_P (dC, dI) vwCl _ t9.heap; rw [ht9]; exact hP⟩, hS.F ht9⟩) hS.2.2 dX10_is_86
        · have c_29 := (nI_eq (a := (lnz_2 (2 * a))) (b := 1) (by omega) (by decide)).mp c_29
          refine lv_lload_n hx hb dX10_is_51 rfl (lv_at hl 2 rfl) ?_
          refine lv_lconst (v := lN 0) hx hb dX10_is_52 (by decide +kernel) ?_
          refine W.lcmp hx hb dX10_is_53 ?_
          refine lv_if_eq (tgt := 81) hx hb dX10_is_54 (by decide) (fun c_30 => ?_) (fun c_30 => ?_)
          · have c_30 := (pk_lEQ (a := v9) (b := 0) (by omega) (by decide)).mp ((k_cmp_eq (lN v9) (lN 0)).mp c_30)
            refine lv_iconst (v := nI 1) hx hb dX10_is_81 (by decide +kernel) ?_
            refine lv_goto (tgt := 86) hx hb dX10_is_82 (by decide) ?_
            refine W.widen (k := 0) (n := 0) (by omega) (by omega) ?_
            exact W.zret (v := nI 1) hx hb hr (by decide +kernel) (fun t9 ht9 hW9 => ⟨⟨nI 1, (), rfl, Or.inl ⟨rfl, by omega⟩, by show va_P (dC, dI) vwCl _ t9.heap; rw [ht9]; exact hP⟩, hS.F ht9⟩) hS.2.2 dX10_is_86
          · have c_30 := mt (pk_lEQ (a := v9) (b := 0) (by omega) (by decide)).mpr (mt (k_cmp_eq (lN v9) (lN 0)).mpr c_30)
            refine lv_aload_n hx hb dX10_is_57 rfl (lv_at hl 0 rfl) ?_
            refine lv_iconst (v := nI 2) hx hb dX10_is_58 (by decide +kernel) ?_
            refine lv_iload_n hx hb dX10_is_59 rfl (lv_at hl 1 rfl) ?_
            refine lv_imul hx hb dX10_is_60 ?_
            refine lv_topi (fun x_31 e_32 => ?_)
            obtain rfl : x_31 = nI (2 * a) := e_32.trans (pk_mul 2 a)
            refine lv_iconst (v := nI 0) hx hb dX10_is_61 (by decide +kernel) ?_
            have hR_33 : RN ad cA g x pnz_2 lnz_2 bnz_2 := ⟨r_3, r_4, r_5, r_6, r_7, r_8, r_9⟩
            refine va_calll (va_runV (As := [.int (nI (2 * a)), .int (nI 0)]) (rest := []) ⟨hx, hb, hml, hown, hts⟩ (c_X10_piece l dC dI A ad cA g x pnz_2 lnz_2 bnz_2 (2 * a) 0 hR_33 (by omega) ln9 (by omega)) (cwV 2 hts (goodIn_app (goodIn_r [Cond.methodLink RX10 87 yX10_piece, Cond.instanceMethod yX10_piece, Cond.selects RX10 yX10_piece yX10_piece, Cond.initialized RX10] [2, 3, 4, 5] rfl rfl) (goodIn_sub (fun w9 h9 => bk1 w9 h9) gw_X10_piece)) rfl rfl rfl (by decide +kernel) ⟨Nat.le_of_ble_eq_true rfl, Nat.le_of_ble_eq_true rfl⟩) ⟨fun a U g mk q => ⟨q.1, q.2.1, q.2.2.1, LY.moved (u := U) (U := U.calling g mk a) (Vm.Alike.refl U.vm) q.2.2.2⟩, va_recv hK hP (ci := 13) (q0 := 0) rfl (wo_at (by decide) r_3), fun U hU hW => ⟨rfl, by rw [hU]; exact fun q h => hA q (Nat.le_trans hS.1 h), by rw [hU]; exact hP, LY.moved hW.alike hL⟩⟩ rfl rfl hl.1 rfl (lv_room (Nat.le_of_ble_eq_true rfl)) dX10_is_62 ⟨(Nat.le_of_ble_eq_true rfl), (Nat.le_of_ble_eq_true rfl)⟩) hS (fun q _ h => h) (fun q h => h) (fun r_34 u8 t8 H1 locs ht8 hvm8 hw_35 hB hz1 hk1 hS => ?_)
            obtain ⟨⟩ := u8
            try dsimp only at hw_35 hB
            rw [ht8] at hB
            have hP := hB
            generalize H1 = H at hP hS ⊢
            obtain rfl := hw_35
            rw [show pc9 pnz_2 lnz_2 (2 * a) 0 = dgt (pf a).natAbs 0 from hn.pc 0]
            obtain ⟨n_36, hn_36⟩ : ∃ z, z = dgt (pf a).natAbs 0 := ⟨_, rfl⟩
            rw [← hn_36]
            rw [dgt_0] at hn_36
            have bn_36 : n_36 < 4294967296 := by rw [hn_36]; exact Nat.mod_lt _ (by decide)
            refine lv_lload_n hx hb dX10_is_65 rfl (lv_at hl 2 rfl) ?_
            refine W.lcmp hx hb dX10_is_66 ?_
            refine lv_if_ne (tgt := 85) hx hb dX10_is_67 (by decide) (fun c_37 => ?_) (fun c_37 => ?_)
            · have c_37 := mt (pk_lEQ (a := n_36) (b := v9) (by omega) (by omega)).mpr (mt (k_cmp_eq (lN n_36) (lN v9)).mpr c_37)
              refine lv_iconst (v := nI 0) hx hb dX10_is_85 (by decide +kernel) ?_
              refine W.widen (k := 0) (n := 0) (by omega) (by omega) ?_
              exact W.zret (v := nI 0) hx hb hr (by decide +kernel) (fun t9 ht9 hW9 => ⟨⟨nI 0, (), rfl, Or.inr ⟨rfl, by omega⟩, by show va_P (dC, dI) vwCl _ t9.heap; rw [ht9]; exact hP⟩, hS.F ht9⟩) hS.2.2 dX10_is_86
            · have c_37 := (pk_lEQ (a := n_36) (b := v9) (by omega) (by omega)).mp ((k_cmp_eq (lN n_36) (lN v9)).mp c_37)
              refine lv_aload_n hx hb dX10_is_70 rfl (lv_at hl 0 rfl) ?_
              refine m_get (D := (dC, dI)) (v := .ref (ad 3)) (C := RX10) (T := TX10) (N := 29) hx hb hts bk0 hown hK hP 0 (by decide) r_3 rfl 3 (by decide) (hts (.fieldLink RX10 18 "GradientDeskModel" "below" "[Z") (List.mem_of_getElem? (i := 6) rfl)) (fun _ h9 => h9) rfl dX10_is_71 ?_
              refine lv_iconst (v := nI 2) hx hb dX10_is_74 (by decide +kernel) ?_
              refine lv_iload_n hx hb dX10_is_75 rfl (lv_at hl 1 rfl) ?_
              refine lv_imul hx hb dX10_is_76 ?_
              refine lv_topi (fun x_38 e_39 => ?_)
              obtain rfl : x_38 = nI (2 * a) := e_39.trans (pk_mul 2 a)
              refine m_zald hx hb hK hP 3 (by decide) rfl r_6 (i := 2 * a) (by omega) (by decide) dX10_is_77 ?_
              have b_40 := r_9 (2 * a)
              refine lv_if_ne (tgt := 85) hx hb dX10_is_78 (by decide) (fun c_41 => ?_) (fun c_41 => ?_)
              · have c_41 := mt (nI_eq (a := (bnz_2 (2 * a))) (b := 0) (by omega) (by decide)).mpr c_41
                refine lv_iconst (v := nI 0) hx hb dX10_is_85 (by decide +kernel) ?_
                refine W.widen (k := 0) (n := 0) (by omega) (by omega) ?_
                exact W.zret (v := nI 0) hx hb hr (by decide +kernel) (fun t9 ht9 hW9 => ⟨⟨nI 0, (), rfl, Or.inr ⟨rfl, by omega⟩, by show va_P (dC, dI) vwCl _ t9.heap; rw [ht9]; exact hP⟩, hS.F ht9⟩) hS.2.2 dX10_is_86
              · have c_41 := (nI_eq (a := (bnz_2 (2 * a))) (b := 0) (by omega) (by decide)).mp c_41
                refine lv_iconst (v := nI 1) hx hb dX10_is_81 (by decide +kernel) ?_
                refine lv_goto (tgt := 86) hx hb dX10_is_82 (by decide) ?_
                refine W.widen (k := 0) (n := 0) (by omega) (by omega) ?_
                exact W.zret (v := nI 1) hx hb hr (by decide +kernel) (fun t9 ht9 hW9 => ⟨⟨nI 1, (), rfl, Or.inl ⟨rfl, by omega⟩, by show va_P (dC, dI) vwCl _ t9.heap; rw [ht9]; exact hP⟩, hS.F ht9⟩) hS.2.2 dX10_is_86
      · have c_28 := (pk_lEQ (a := v9) (b := 0) (by omega) (by decide)).mp ((k_cmp_eq (lN v9) (lN 0)).mp c_28)
        refine lv_iconst (v := nI 0) hx hb dX10_is_43 (by decide +kernel) ?_
        refine lv_goto (tgt := 48) hx hb dX10_is_44 (by decide) ?_
        refine lv_icmp_ne (tgt := 85) hx hb dX10_is_48 (by decide) (fun c_42 => ?_) (fun c_42 => ?_)
        · have c_42 := mt (nI_eq (a := (lnz_2 (2 * a))) (b := 0) (by omega) (by decide)).mpr c_42
          refine lv_iconst (v := nI 0) hx hb dX10_is_85 (by decide +kernel) ?_
          refine W.widen (k := 0) (n := 0) (by omega) (by omega) ?_
          exact W.zret (v := nI 0) hx hb hr (by decide +kernel) (fun t9 ht9 hW9 => ⟨⟨nI 0, (), rfl, Or.inr ⟨rfl, by omega⟩, by show va_P (dC, dI) vwCl _ t9.heap; rw [ht9]; exact hP⟩, hS.F ht9⟩) hS.2.2 dX10_is_86
        · have c_42 := (nI_eq (a := (lnz_2 (2 * a))) (b := 0) (by omega) (by decide)).mp c_42
          refine lv_lload_n hx hb dX10_is_51 rfl (lv_at hl 2 rfl) ?_
          refine lv_lconst (v := lN 0) hx hb dX10_is_52 (by decide +kernel) ?_
          refine W.lcmp hx hb dX10_is_53 ?_
          refine lv_if_eq (tgt := 81) hx hb dX10_is_54 (by decide) (fun c_43 => ?_) (fun c_43 => ?_)
          · have c_43 := (pk_lEQ (a := v9) (b := 0) (by omega) (by decide)).mp ((k_cmp_eq (lN v9) (lN 0)).mp c_43)
            refine lv_iconst (v := nI 1) hx hb dX10_is_81 (by decide +kernel) ?_
            refine lv_goto (tgt := 86) hx hb dX10_is_82 (by decide) ?_
            refine W.widen (k := 0) (n := 0) (by omega) (by omega) ?_
            exact W.zret (v := nI 1) hx hb hr (by decide +kernel) (fun t9 ht9 hW9 => ⟨⟨nI 1, (), rfl, Or.inl ⟨rfl, by omega⟩, by show va_P (dC, dI) vwCl _ t9.heap; rw [ht9]; exact hP⟩, hS.F ht9⟩) hS.2.2 dX10_is_86
          · have c_43 := mt (pk_lEQ (a := v9) (b := 0) (by omega) (by decide)).mpr (mt (k_cmp_eq (lN v9) (lN 0)).mpr c_43)
            refine lv_aload_n hx hb dX10_is_57 rfl (lv_at hl 0 rfl) ?_
            refine lv_iconst (v := nI 2) hx hb dX10_is_58 (by decide +kernel) ?_
            refine lv_iload_n hx hb dX10_is_59 rfl (lv_at hl 1 rfl) ?_
            refine lv_imul hx hb dX10_is_60 ?_
            refine lv_topi (fun x_44 e_45 => ?_)
            obtain rfl : x_44 = nI (2 * a) := e_45.trans (pk_mul 2 a)
            refine lv_iconst (v := nI 0) hx hb dX10_is_61 (by decide +kernel) ?_
            have hR_46 : RN ad cA g x pnz_2 lnz_2 bnz_2 := ⟨r_3, r_4, r_5, r_6, r_7, r_8, r_9⟩
            refine va_calll (va_runV (As := [.int (nI (2 * a)), .int (nI 0)]) (rest := []) ⟨hx, hb, hml, hown, hts⟩ (c_X10_piece l dC dI A ad cA g x pnz_2 lnz_2 bnz_2 (2 * a) 0 hR_46 (by omega) ln9 (by omega)) (cwV 2 hts (goodIn_app (goodIn_r [Cond.methodLink RX10 87 yX10_piece, Cond.instanceMethod yX10_piece, Cond.selects RX10 yX10_piece yX10_piece, Cond.initialized RX10] [2, 3, 4, 5] rfl rfl) (goodIn_sub (fun w9 h9 => bk1 w9 h9) gw_X10_piece)) rfl rfl rfl (by decide +kernel) ⟨Nat.le_of_ble_eq_true rfl, Nat.le_of_ble_eq_true rfl⟩) ⟨fun a U g mk q => ⟨q.1, q.2.1, q.2.2.1, LY.moved (u := U) (U := U.calling g mk a) (Vm.Alike.refl U.vm) q.2.2.2⟩, va_recv hK hP (ci := 13) (q0 := 0) rfl (wo_at (by decide) r_3), fun U hU hW => ⟨rfl, by rw [hU]; exact fun q h => hA q (Nat.le_trans hS.1 h), by rw [hU]; exact hP, LY.moved hW.alike hL⟩⟩ rfl rfl hl.1 rfl (lv_room (Nat.le_of_ble_eq_true rfl)) dX10_is_62 ⟨(Nat.le_of_ble_eq_true rfl), (Nat.le_of_ble_eq_true rfl)⟩) hS (fun q _ h => h) (fun q h => h) (fun r_47 u8 t8 H1 locs ht8 hvm8 hw_48 hB hz1 hk1 hS => ?_)
            obtain ⟨⟩ := u8
            try dsimp only at hw_48 hB
            rw [ht8] at hB
            have hP := hB
            generalize H1 = H at hP hS ⊢
            obtain rfl := hw_48
            rw [show pc9 pnz_2 lnz_2 (2 * a) 0 = dgt (pf a).natAbs 0 from hn.pc 0]
            obtain ⟨n_49, hn_49⟩ : ∃ z, z = dgt (pf a).natAbs 0 := ⟨_, rfl⟩
            rw [← hn_49]
            rw [dgt_0] at hn_49
            have bn_49 : n_49 < 4294967296 := by rw [hn_49]; exact Nat.mod_lt _ (by decide)
            refine lv_lload_n hx hb dX10_is_65 rfl (lv_at hl 2 rfl) ?_
            refine W.lcmp hx hb dX10_is_66 ?_
            refine lv_if_ne (tgt := 85) hx hb dX10_is_67 (by decide) (fun c_50 => ?_) (fun c_50 => ?_)
            · have c_50 := mt (pk_lEQ (a := n_49) (b := v9) (by omega) (by omega)).mpr (mt (k_cmp_eq (lN n_49) (lN v9)).mpr c_50)
              refine lv_iconst (v := nI 0) hx hb dX10_is_85 (by decide +kernel) ?_
              refine W.widen (k := 0) (n := 0) (by omega) (by omega) ?_
              exact W.zret (v := nI 0) hx hb hr (by decide +kernel) (fun t9 ht9 hW9 => ⟨⟨nI 0, (), rfl, Or.inr ⟨rfl, by omega⟩, by show va_P (dC, dI) vwCl _ t9.heap; rw [ht9]; exact hP⟩, hS.F ht9⟩) hS.2.2 dX10_is_86
            · have c_50 := (pk_lEQ (a := n_49) (b := v9) (by omega) (by omega)).mp ((k_cmp_eq (lN n_49) (lN v9)).mp c_50)
              refine lv_aload_n hx hb dX10_is_70 rfl (lv_at hl 0 rfl) ?_
              refine m_get (D := (dC, dI)) (v := .ref (ad 3)) (C := RX10) (T := TX10) (N := 29) hx hb hts bk0 hown hK hP 0 (by decide) r_3 rfl 3 (by decide) (hts (.fieldLink RX10 18 "GradientDeskModel" "below" "[Z") (List.mem_of_getElem? (i := 6) rfl)) (fun _ h9 => h9) rfl dX10_is_71 ?_
              refine lv_iconst (v := nI 2) hx hb dX10_is_74 (by decide +kernel) ?_
              refine lv_iload_n hx hb dX10_is_75 rfl (lv_at hl 1 rfl) ?_
              refine lv_imul hx hb dX10_is_76 ?_
              refine lv_topi (fun x_51 e_52 => ?_)
              obtain rfl : x_51 = nI (2 * a) := e_52.trans (pk_mul 2 a)
              refine m_zald hx hb hK hP 3 (by decide) rfl r_6 (i := 2 * a) (by omega) (by decide) dX10_is_77 ?_
              have b_53 := r_9 (2 * a)
              refine lv_if_ne (tgt := 85) hx hb dX10_is_78 (by decide) (fun c_54 => ?_) (fun c_54 => ?_)
              · have c_54 := mt (nI_eq (a := (bnz_2 (2 * a))) (b := 0) (by omega) (by decide)).mpr c_54
                refine lv_iconst (v := nI 0) hx hb dX10_is_85 (by decide +kernel) ?_
                refine W.widen (k := 0) (n := 0) (by omega) (by omega) ?_
                exact W.zret (v := nI 0) hx hb hr (by decide +kernel) (fun t9 ht9 hW9 => ⟨⟨nI 0, (), rfl, Or.inr ⟨rfl, by omega⟩, by show va_P (dC, dI) vwCl _ t9.heap; rw [ht9]; exact hP⟩, hS.F ht9⟩) hS.2.2 dX10_is_86
              · have c_54 := (nI_eq (a := (bnz_2 (2 * a))) (b := 0) (by omega) (by decide)).mp c_54
                refine lv_iconst (v := nI 1) hx hb dX10_is_81 (by decide +kernel) ?_
                refine lv_goto (tgt := 86) hx hb dX10_is_82 (by decide) ?_
                refine W.widen (k := 0) (n := 0) (by omega) (by omega) ?_
                exact W.zret (v := nI 1) hx hb hr (by decide +kernel) (fun t9 ht9 hW9 => ⟨⟨nI 1, (), rfl, Or.inl ⟨rfl, by omega⟩, by show va_P (dC, dI) vwCl _ t9.heap; rw [ht9]; exact hP⟩, hS.F ht9⟩) hS.2.2 dX10_is_86
end
section
theorem RN.setx {ad : Nat → Nat} {cA : Nat → ClassId} {g g2 : Nat → va_E} {x x2 : Nat → Int32} {pn ln bn : Nat → Nat} (h : RN ad cA g x pn ln bn) (hf : ∀ k, (k = 1 ∨ k = 2 ∨ k = 3) → g2 k = g k) (h0 : g2 0 = .inr (13, Rob ad x2)) : RN ad cA g2 x2 pn ln bn := by
  obtain ⟨a0, a1, a2, a3, a4⟩ := h
  exact ⟨h0, (hf 1 (by omega)).trans a1, (hf 2 (by omega)).trans a2, (hf 3 (by omega)).trans a3, a4⟩
theorem RV.setx {ad : Nat → Nat} {cA : Nat → ClassId} {g g2 : Nat → va_E} {x x2 : Nat → Int32} {vf : Nat → Int} (h : RV ad cA g x vf) (hf : ∀ k, (k = 1 ∨ k = 2 ∨ k = 3) → g2 k = g k) (h0 : g2 0 = .inr (13, Rob ad x2)) : RV ad cA g2 x2 vf := by
  obtain ⟨pn, ln, bn, a, b⟩ := h
  exact ⟨pn, ln, bn, a.setx hf h0, b⟩
theorem RF.setx {ad : Nat → Nat} {cA : Nat → ClassId} {g g2 : Nat → va_E} {x x2 : Nat → Int32} {pf : Nat → Int} {qf : Nat → Nat} (h : RF ad cA g x pf qf) (hf : ∀ k, (k = 1 ∨ k = 2 ∨ k = 3) → g2 k = g k) (h0 : g2 0 = .inr (13, Rob ad x2)) (_ : (0 : Nat) = 0) : RF ad cA g2 x2 pf qf := by
  obtain ⟨vf, a, b⟩ := h
  exact ⟨vf, a.setx hf h0, b⟩
theorem k_nky {d e : PD} {a0 a1 a2 b0 b1 b2 : Int} (m0 : a0 = ((d.1 : Nat) : Int)) (m1 : a1 = d.2.1) (m2 : a2 = d.2.2.1) (h0 : b0 = ((e.1 : Nat) : Int)) (h1 : b1 = e.2.1) (h2 : b2 = e.2.2.1) (h : a0 = b0 → a1 = b1 → a2 = b2 → d.1 = 0 ∧ (d.2.2.2.2.2.2.1 = e.2.2.2.2.2.2.1 → d.2.2.2.2.2.2.2 = e.2.2.2.2.2.2.2 → False)) : pky d e = false := by
  unfold pky
  by_cases c0 : d.1 = e.1
  · by_cases c1 : d.2.1 = e.2.1
    · by_cases c2 : d.2.2.1 = e.2.2.1
      · obtain ⟨k1, k2⟩ := h (by rw [m0, h0, c0]) (by rw [m1, h1, c1]) (by rw [m2, h2, c2])
        by_cases c3 : d.2.2.2.2.2.2.1 = e.2.2.2.2.2.2.1
        · have c4 : ¬ d.2.2.2.2.2.2.2 = e.2.2.2.2.2.2.2 := fun c4 => k2 c3 c4
          simp [k1, c4]
        · simp [k1, c3]
      · simp [c2]
    · simp [c1]
  · simp [c0]
theorem k_ky {d e : PD} {a0 a1 a2 b0 b1 b2 : Int} (m0 : a0 = ((d.1 : Nat) : Int)) (m1 : a1 = d.2.1) (m2 : a2 = d.2.2.1) (h0 : b0 = ((e.1 : Nat) : Int)) (h1 : b1 = e.2.1) (h2 : b2 = e.2.2.1) (c0 : a0 = b0) (c1 : a1 = b1) (c2 : a2 = b2) (h : e.1 = 0 → d.2.2.2.2.2.2.1 = e.2.2.2.2.2.2.1 ∧ d.2.2.2.2.2.2.2 = e.2.2.2.2.2.2.2) : pky d e = true := by
  unfold pky
  have e0 : d.1 = e.1 := by omega
  have e1 : d.2.1 = e.2.1 := by rw [← m1, ← h1, c1]
  have e2 : d.2.2.1 = e.2.2.1 := by rw [← m2, ← h2, c2]
  by_cases c3 : e.1 = 0
  · obtain ⟨k1, k2⟩ := h c3
    simp [e0, e1, e2, k1, k2]
  · simp [e0, e1, e2, c3]
theorem keepL_big {L : List PD} {d : PD} (h : 8 < d.2.2.2.1 ∨ 400 < d.2.2.2.2.1 ∨ 400 < d.2.2.2.2.2.1) : keepL L d = (-3, L) := by unfold keepL; rw [if_pos h]
theorem keepL_old {L : List PD} {d : PD} {i : Nat} (h : ¬ (8 < d.2.2.2.1 ∨ 400 < d.2.2.2.2.1 ∨ 400 < d.2.2.2.2.2.1)) (hi : i < L.length) (hk : pky (gd L i) d = true) (hn : ∀ j, j < i → pky (gd L j) d = false) : keepL L d = (((i : Nat) : Int), L) := by
  have e := findIdx_at (q := fun e => pky e d) hi hk hn
  unfold keepL; rw [if_neg h, e, if_pos hi]
theorem keepL_full {L : List PD} {d : PD} (h : ¬ (8 < d.2.2.2.1 ∨ 400 < d.2.2.2.2.1 ∨ 400 < d.2.2.2.2.2.1)) (hl : L.length = 200) (hn : ∀ j, j < L.length → pky (gd L j) d = false) : keepL L d = (-4, L) := by
  unfold keepL; rw [if_neg h, if_neg (findIdx_no (q := fun e => pky e d) hn), if_pos hl]
theorem keepL_new {L : List PD} {d : PD} (h : ¬ (8 < d.2.2.2.1 ∨ 400 < d.2.2.2.2.1 ∨ 400 < d.2.2.2.2.2.1)) (hl : ¬ L.length = 200) (hn : ∀ j, j < L.length → pky (gd L j) d = false) : keepL L d = (((L.length : Nat) : Int), L ++ [d]) := by
  unfold keepL; rw [if_neg h, if_neg (findIdx_no (q := fun e => pky e d) hn), if_neg hl]
/-- behind a making: the answer is K.1 (or -1, and K.1 is the fault), the parts are K.2 -/
def MKP (ad : Nat → Nat) (cA : Nat → ClassId) (g2 : Nat → va_E) (x x2 : Nat → Int32) (pf : Nat → Int) (qf : Nat → Nat) (K : Int × List PD) (r : Int32) (pt2 : Nat → Nat → Int) (pf2 : Nat → Int) (qf2 : Nat → Nat) : Prop :=
  RF ad cA g2 x2 pf2 qf2 ∧ PTF cA g2 pt2 ∧ MT K.2 pt2 pf2 qf2 ∧ K.2.length ≤ 200 ∧ x2 3 = nI K.2.length ∧ (∀ j, j ≠ 3 → j ≠ 4 → x2 j = x j) ∧ (∀ f, 200 ≤ f → f < 1011 → pf2 f = pf f ∧ qf2 f = qf f) ∧ ((0 ≤ K.1 ∧ K.1 < K.2.length ∧ r = iI K.1 ∧ x2 4 = iI 0) ∨ (K.1 < 0 ∧ -4 ≤ K.1 ∧ r = -1 ∧ x2 4 = iI K.1))
section MKS
variable {ad : Nat → Nat} {cA : Nat → ClassId} {g2 : Nat → va_E} {x x2 : Nat → Int32} {pf pf2 : Nat → Int} {qf qf2 : Nat → Nat} {K : Int × List PD} {L : List PD} {pt : Nat → Nat → Int} {d : PD}
theorem MKP.bad {n : Int} (hK : K = (n, L)) (hn : n = -3 ∨ n = -4) (hF : RF ad cA g2 x2 pf qf) (hP : PTF cA g2 pt) (hM : MT L pt pf qf) (hl : L.length ≤ 200) (h3 : x2 3 = nI L.length) (hx : ∀ j, j ≠ 3 → j ≠ 4 → x2 j = x j) (h4 : x2 4 = iI n) : MKP ad cA g2 x x2 pf qf K (-1) pt pf qf := by
  subst hK
  exact ⟨hF, hP, hM, hl, h3, hx, fun _ _ _ => ⟨rfl, rfl⟩, Or.inr ⟨by show n < 0; omega, by show -4 ≤ n; omega, rfl, h4⟩⟩
theorem MKP.old {i : Nat} (hK : K = (((i : Nat) : Int), L)) (hi : i < L.length) (hF : RF ad cA g2 x pf qf) (hP : PTF cA g2 pt) (hM : MT L pt pf qf) (hl : L.length ≤ 200) (h3 : x 3 = nI L.length) (h4 : x 4 = iI 0) : MKP ad cA g2 x x pf qf K (nI i) pt pf qf := by
  subst hK
  exact ⟨hF, hP, hM, hl, h3, fun _ _ _ => rfl, fun _ _ _ => ⟨rfl, rfl⟩, Or.inl ⟨by show (0 : Int) ≤ i; omega, by show (i : Int) < L.length; omega, nI_iI i, h4⟩⟩
theorem MT.app (hM : MT L pt pf qf) (h0 : pt 0 L.length = (d.1 : Nat)) (h1 : pt 1 L.length = d.2.1) (h2 : pt 2 L.length = d.2.2.1) (h3 : pt 3 L.length = (d.2.2.2.1 : Nat)) (h4 : pt 4 L.length = (d.2.2.2.2.1 : Nat)) (h5 : pt 5 L.length = (d.2.2.2.2.2.1 : Nat)) (hn : d.1 = 0 → pf2 L.length = d.2.2.2.2.2.2.1 ∧ qf2 L.length = d.2.2.2.2.2.2.2) (ho : ∀ j, j ≠ L.length → pf2 j = pf j ∧ qf2 j = qf j) : MT (L ++ [d]) pt pf2 qf2 := by
  intro i hi
  rw [List.length_append] at hi
  by_cases h : i = L.length
  · subst h; rw [gd_new]; exact ⟨h0, h1, h2, h3, h4, h5, hn⟩
  · rw [gd_app (by simp at hi; omega)]
    obtain ⟨m0, m1, m2, m3, m4, m5, m6⟩ := hM i (by simp at hi; omega)
    exact ⟨m0, m1, m2, m3, m4, m5, fun h9 => by rw [(ho i h).1, (ho i h).2]; exact m6 h9⟩
theorem MKP.new (hK : K = (((L.length : Nat) : Int), L ++ [d])) (hl : L.length < 200) (hF : RF ad cA g2 x2 pf2 qf2) (hP : PTF cA g2 pt) (hM : MT (L ++ [d]) pt pf2 qf2) (h3 : x2 3 = nI (L.length + 1)) (hx : ∀ j, j ≠ 3 → j ≠ 4 → x2 j = x j) (ho : ∀ j, j ≠ L.length → pf2 j = pf j ∧ qf2 j = qf j) (h4 : x2 4 = iI 0) : MKP ad cA g2 x x2 pf qf K (nI L.length) pt pf2 qf2 := by
  subst hK
  have e : (L ++ [d]).length = L.length + 1 := by rw [List.length_append]; rfl
  exact ⟨hF, hP, hM, by show (L ++ [d]).length ≤ 200; omega, by show x2 3 = nI (L ++ [d]).length; rw [e]; exact h3, hx, fun f h1 h2 => ho f (by omega), Or.inl ⟨by show (0 : Int) ≤ L.length; omega, by show (L.length : Int) < (L ++ [d]).length; omega, nI_iI _, h4⟩⟩
end MKS
end
section
def wd_X10_keep : List Cond := .code yX10_keep cX10_keep 4 (some .int) :: (([.fieldLink RX10 146 "GradientDeskModel" "fault" "I", .fieldLink RX10 149 "GradientDeskModel" "made" "I", .fieldLink RX10 38 "GradientDeskModel" "degree" "[I", .fieldLink RX10 41 "GradientDeskModel" "sizeN" "[I", .fieldLink RX10 44 "GradientDeskModel" "sizeD" "[I", .fieldLink RX10 29 "GradientDeskModel" "sort" "[I", .methodLink RX10 136 yX10_copyFraction, .instanceMethod yX10_copyFraction, .selects RX10 yX10_copyFraction yX10_copyFraction, .initialized RX10, .fieldLink RX10 32 "GradientDeskModel" "first" "[I", .fieldLink RX10 35 "GradientDeskModel" "second" "[I", .methodLink RX10 152 yX10_areSame, .instanceMethod yX10_areSame, .selects RX10 yX10_areSame yX10_areSame] : List Cond) ++ (u_ws RX10 TX10 29 ++ (wd_X10_copyFraction ++ (wd_X10_areSame ++ ([])))))
theorem gw_X10_keep : wd_X10_keep.all goodWord = true := k_allc rfl (k_all (by decide +kernel) (k_all (gu_X10) (k_all (gw_X10_copyFraction) (k_all (gw_X10_areSame) (rfl)))))
set_option maxHeartbeats 4000000 in
set_option maxRecDepth 100000 in
theorem c_X10_keep (l : Launch) (dC : Nat → ClassId) (dI : Nat → Nat → Nat) (A : Nat → Prop) (ad : Nat → Nat) (cA : Nat → ClassId) (g : Nat → va_E) (x : Nat → Int32) (pf : Nat → Int) (qf : Nat → Nat) (pt : Nat → Nat → Int) (L : List PD) (ds : PD) (hF : RF ad cA g x pf qf) (hPt : PTF cA g pt) (hM : MT L pt pf qf) (hmd : x 3 = nI L.length) (hL2 : L.length ≤ 200) (hft : x 4 = iI 0) (hd0 : pt 0 L.length = (ds.1 : Nat)) (hd1 : pt 1 L.length = ds.2.1) (hd2 : pt 2 L.length = ds.2.2.1) (hd3 : pt 3 L.length = (ds.2.2.2.1 : Nat)) (hd4 : pt 4 L.length = (ds.2.2.2.2.1 : Nat)) (hd5 : pt 5 L.length = (ds.2.2.2.2.2.1 : Nat)) (hdn : ds.1 = 0 → pf 1011 = ds.2.2.2.2.2.2.1 ∧ qf 1011 = ds.2.2.2.2.2.2.2) : Met l yX10_keep wd_X10_keep ({ frames := 50, cells := 0, slots := 0, locals := 1000 }) (va_Pc [.ref (ad 0)] (PR NSr tyr dC dI A ad cA g)) (va_Qi (fun (r : Int32) => fun (u : (Nat → va_E) × (Nat → Int32) × (Nat → Nat → Int) × (Nat → Int) × (Nat → Nat)) => match u with | (g2, x2, pt2, pf2, qf2) => (∀ k, k ≠ 0 ∧ k ≠ 1 ∧ k ≠ 2 ∧ k ≠ 3 ∧ k ≠ 5 ∧ k ≠ 6 ∧ k ≠ 7 ∧ k ≠ 8 ∧ k ≠ 9 ∧ k ≠ 10 → g2 k = g k) ∧ MKP ad cA g2 x x2 pf qf (keepL L ds) r pt2 pf2 qf2) (fun (u : (Nat → va_E) × (Nat → Int32) × (Nat → Nat → Int) × (Nat → Int) × (Nat → Nat)) (t : State) => va_P (dC, dI) vwCl (wo ad NSr u.1) t.heap) A) (0) (0) A := by
  refine Met.ofW (cc := cX10_keep) (maxL := 4) (ret := (some .int)) (by decide) rfl ?_
  intro p e s m args below meth c s₁ B hml hv
  obtain ⟨rfl, hA, hP, hL⟩ := hv
  have hx := B.exec
  have hb := B.bytes
  have hr := B.returns
  have hts := atoms_spec (ws := wd_X10_keep) B.pre
  have hown : s.vm.findClass RX10 = some m.cls := findClass_of_methodNamed B.named
  have hlocks := B.notSynchronized
  have hK := hL.1
  have hD : ∀ g, va_D A (wo ad NSr g) := fun g => wo_D hL.2.1 hL.2.2 g
  have hS : va_S A s.heap s.heap [] := va_S.rf
  have bk0 : ∀ w ∈ u_ws RX10 TX10 29, w ∈ wd_X10_keep := fun _ h => List.mem_cons_of_mem _ (List.mem_append_right _ (List.mem_append_left _ h))
  have bk1 : ∀ w ∈ wd_X10_copyFraction, w ∈ wd_X10_keep := fun _ h => List.mem_cons_of_mem _ (List.mem_append_right _ (List.mem_append_right _ (List.mem_append_left _ h)))
  have bk2 : ∀ w ∈ wd_X10_areSame, w ∈ wd_X10_keep := fun _ h => List.mem_cons_of_mem _ (List.mem_append_right _ (List.mem_append_right _ (List.mem_append_right _ (List.mem_append_left _ h))))
  have hl := lv_entry ([.ref (ad 0)]) (n := 4) (Nat.le_of_ble_eq_true rfl)
  rw [lg_entry_eq]
  generalize (lg_sl ([.ref (ad 0)]) ++ List.replicate (4 - (lg_sl ([.ref (ad 0)])).length) Slot.unset).toArray = ls at hl ⊢
  have hl : lv_has ls 4 [(0, .ref (ad 0))] := hl
  have hF0 := hF
  obtain ⟨vf, hV, hq⟩ := hF
  have hc_1 := hV
  obtain ⟨pnz_2, lnz_2, bnz_2, hRz_2, hvz_2⟩ := hc_1
  obtain ⟨r_3, r_4, r_5, r_6, r_7, r_8, r_9⟩ := hRz_2
  obtain ⟨p_10, p_11, p_12, p_13, p_14, p_15, hpt_16⟩ := hPt
  have hb3 := hpt_16 3 L.length
  have hb4 := hpt_16 4 L.length
  have hb5 := hpt_16 5 L.length
  refine lv_aload_n hx hb dX10_keep_0 rfl (lv_at hl 0 rfl) ?_
  refine m_get (D := (dC, dI)) (v := .int (iI 0)) (C := RX10) (T := TX10) (N := 29) hx hb hts bk0 hown hK hP 0 (by decide) r_3 rfl 14 (by decide) (hts (.fieldLink RX10 146 "GradientDeskModel" "fault" "I") (List.mem_of_getElem? (i := 1) rfl)) (fun _ h9 => h9) (congrArg (fun z => some (Value.int z)) hft) dX10_keep_1 ?_
  refine lv_if_ge (tgt := 9) hx hb dX10_keep_4 (by decide) (fun c_17 => ?_) (fun c_17 => absurd (mt (k_iLE (a := 0) (b := 0) (show nI 0 = iI 0 from by decide) rfl (by omega) (by omega)).mpr c_17) (by omega))
  refine lv_aload_n hx hb dX10_keep_9 rfl (lv_at hl 0 rfl) ?_
  refine m_get (D := (dC, dI)) (v := .int (nI L.length)) (C := RX10) (T := TX10) (N := 29) hx hb hts bk0 hown hK hP 0 (by decide) r_3 rfl 13 (by decide) (hts (.fieldLink RX10 149 "GradientDeskModel" "made" "I") (List.mem_of_getElem? (i := 2) rfl)) (fun _ h9 => h9) (congrArg (fun z => some (Value.int z)) hmd) dX10_keep_10 ?_
  refine lv_istore_n (lv' := [(1, .int (nI L.length)), (0, .ref (ad 0))]) hx hb dX10_keep_13 rfl hl (by decide) rfl (fun ls hl => ?_)
  refine lv_aload_n hx hb dX10_keep_14 rfl (lv_at hl 1 rfl) ?_
  refine m_get (D := (dC, dI)) (v := .ref (ad 8)) (C := RX10) (T := TX10) (N := 29) hx hb hts bk0 hown hK hP 0 (by decide) r_3 rfl 10 (by decide) (hts (.fieldLink RX10 38 "GradientDeskModel" "degree" "[I") (List.mem_of_getElem? (i := 3) rfl)) (fun _ h9 => h9) rfl dX10_keep_15 ?_
  refine lv_iload_n hx hb dX10_keep_18 rfl (lv_at hl 0 rfl) ?_
  refine m_iald hx hb hK hP 8 (by decide) rfl p_13 (i := L.length) (by omega) (by decide) dX10_keep_19 ?_
  have b_18 := (hpt_16 3) L.length
  refine lv_bipush (v := nI 8) hx hb dX10_keep_20 (by decide +kernel) ?_
  refine lv_icmp_gt (tgt := 49) hx hb dX10_keep_22 (by decide) (fun c_19 => ?_) (fun c_19 => ?_)
  · have c_19 := (k_iLT (a := 8) (b := (pt 3) L.length) (show nI 8 = iI 8 from by decide) rfl (by omega) (by omega)).mp c_19
    refine lv_aload_n hx hb dX10_keep_49 rfl (lv_at hl 1 rfl) ?_
    refine lv_bipush (v := -3) hx hb dX10_keep_50 (by decide +kernel) ?_
    refine m_put (D := (dC, dI)) (v := .int (-3)) (tv := .int) (C := RX10) (T := TX10) (N := 29) hx hb hts bk0 tyX10 tyX10_ok nmX10 hown hK hP hD hS 0 (by decide) r_3 rfl 14 (by decide) (hts (.fieldLink RX10 146 "GradientDeskModel" "fault" "I") (List.mem_of_getElem? (i := 1) rfl)) (fun _ h9 => h9) rfl (by decide +kernel) rfl rfl (Nat.le_of_ble_eq_true rfl) dX10_keep_52 (fun H locs g_20 f_21 fr_22 hP hS => ?_)
    have f_21 : g_20 0 = .inr (13, Rob ad (va_up x 4 (-3))) := f_21
    refine lv_iconst (v := -1) hx hb dX10_keep_55 (by decide +kernel) ?_
    have f_23 : g_20 5 = .inl (cA 5, 201, .inl (fun j => iI ((pt 0) j))) := (fr_22 5 (by omega)).trans p_10
    have f_24 : g_20 6 = .inl (cA 6, 201, .inl (fun j => iI ((pt 1) j))) := (fr_22 6 (by omega)).trans p_11
    have f_25 : g_20 7 = .inl (cA 7, 201, .inl (fun j => iI ((pt 2) j))) := (fr_22 7 (by omega)).trans p_12
    have f_26 : g_20 8 = .inl (cA 8, 201, .inl (fun j => iI ((pt 3) j))) := (fr_22 8 (by omega)).trans p_13
    have f_27 : g_20 9 = .inl (cA 9, 201, .inl (fun j => iI ((pt 4) j))) := (fr_22 9 (by omega)).trans p_14
    have f_28 : g_20 10 = .inl (cA 10, 201, .inl (fun j => iI ((pt 5) j))) := (fr_22 10 (by omega)).trans p_15
    refine W.widen (k := 0) (n := 0) (by omega) (by omega) ?_
    exact W.iret (v := -1) hx hb hr (fun t9 ht9 hW9 => ⟨⟨-1, (g_20, va_up x 4 (-3), pt, pf, qf), rfl, ⟨(fun (k : Nat) (hk : k ≠ 0 ∧ k ≠ 1 ∧ k ≠ 2 ∧ k ≠ 3 ∧ k ≠ 5 ∧ k ≠ 6 ∧ k ≠ 7 ∧ k ≠ 8 ∧ k ≠ 9 ∧ k ≠ 10) => (fr_22 k (by omega)).trans (rfl)), MKP.bad (keepL_big (by omega)) (Or.inl rfl) (hF0.setx (fun (k : Nat) (hk : k = 1 ∨ k = 2 ∨ k = 3) => (fr_22 k (by omega)).trans (rfl)) f_21 rfl) ⟨f_23, f_24, f_25, f_26, f_27, f_28, hpt_16⟩ hM hL2 (by rw [va_up_ne _ _ (by decide)]; exact hmd) (fun j h3 h4 => va_up_ne _ _ h4) (by rw [va_up_self]; decide)⟩, by show va_P (dC, dI) vwCl _ t9.heap; rw [ht9]; exact hP⟩, hS.F ht9⟩) hS.2.2 dX10_keep_56
  · have c_19 := mt (k_iLT (a := 8) (b := (pt 3) L.length) (show nI 8 = iI 8 from by decide) rfl (by omega) (by omega)).mpr c_19
    refine lv_aload_n hx hb dX10_keep_25 rfl (lv_at hl 1 rfl) ?_
    refine m_get (D := (dC, dI)) (v := .ref (ad 9)) (C := RX10) (T := TX10) (N := 29) hx hb hts bk0 hown hK hP 0 (by decide) r_3 rfl 11 (by decide) (hts (.fieldLink RX10 41 "GradientDeskModel" "sizeN" "[I") (List.mem_of_getElem? (i := 4) rfl)) (fun _ h9 => h9) rfl dX10_keep_26 ?_
    refine lv_iload_n hx hb dX10_keep_29 rfl (lv_at hl 0 rfl) ?_
    refine m_iald hx hb hK hP 9 (by decide) rfl p_14 (i := L.length) (by omega) (by decide) dX10_keep_30 ?_
    have b_29 := (hpt_16 4) L.length
    refine lv_sipush (v := nI 400) hx hb dX10_keep_31 (by decide +kernel) ?_
    refine lv_icmp_gt (tgt := 49) hx hb dX10_keep_34 (by decide) (fun c_30 => ?_) (fun c_30 => ?_)
    · have c_30 := (k_iLT (a := 400) (b := (pt 4) L.length) (show nI 400 = iI 400 from by decide) rfl (by omega) (by omega)).mp c_30
      refine lv_aload_n hx hb dX10_keep_49 rfl (lv_at hl 1 rfl) ?_
      refine lv_bipush (v := -3) hx hb dX10_keep_50 (by decide +kernel) ?_
      refine m_put (D := (dC, dI)) (v := .int (-3)) (tv := .int) (C := RX10) (T := TX10) (N := 29) hx hb hts bk0 tyX10 tyX10_ok nmX10 hown hK hP hD hS 0 (by decide) r_3 rfl 14 (by decide) (hts (.fieldLink RX10 146 "GradientDeskModel" "fault" "I") (List.mem_of_getElem? (i := 1) rfl)) (fun _ h9 => h9) rfl (by decide +kernel) rfl rfl (Nat.le_of_ble_eq_true rfl) dX10_keep_52 (fun H locs g_31 f_32 fr_33 hP hS => ?_)
      have f_32 : g_31 0 = .inr (13, Rob ad (va_up x 4 (-3))) := f_32
      refine lv_iconst (v := -1) hx hb dX10_keep_55 (by decide +kernel) ?_
      have f_34 : g_31 5 = .inl (cA 5, 201, .inl (fun j => iI ((pt 0) j))) := (fr_33 5 (by omega)).trans p_10
      have f_35 : g_31 6 = .inl (cA 6, 201, .inl (fun j => iI ((pt 1) j))) := (fr_33 6 (by omega)).trans p_11
      have f_36 : g_31 7 = .inl (cA 7, 201, .inl (fun j => iI ((pt 2) j))) := (fr_33 7 (by omega)).trans p_12
      have f_37 : g_31 8 = .inl (cA 8, 201, .inl (fun j => iI ((pt 3) j))) := (fr_33 8 (by omega)).trans p_13
      have f_38 : g_31 9 = .inl (cA 9, 201, .inl (fun j => iI ((pt 4) j))) := (fr_33 9 (by omega)).trans p_14
      have f_39 : g_31 10 = .inl (cA 10, 201, .inl (fun j => iI ((pt 5) j))) := (fr_33 10 (by omega)).trans p_15
      refine W.widen (k := 0) (n := 0) (by omega) (by omega) ?_
      exact W.iret (v := -1) hx hb hr (fun t9 ht9 hW9 => ⟨⟨-1, (g_31, va_up x 4 (-3), pt, pf, qf), rfl, ⟨(fun (k : Nat) (hk : k ≠ 0 ∧ k ≠ 1 ∧ k ≠ 2 ∧ k ≠ 3 ∧ k ≠ 5 ∧ k ≠ 6 ∧ k ≠ 7 ∧ k ≠ 8 ∧ k ≠ 9 ∧ k ≠ 10) => (fr_33 k (by omega)).trans (rfl)), MKP.bad (keepL_big (by omega)) (Or.inl rfl) (hF0.setx (fun (k : Nat) (hk : k = 1 ∨ k = 2 ∨ k = 3) => (fr_33 k (by omega)).trans (rfl)) f_32 rfl) ⟨f_34, f_35, f_36, f_37, f_38, f_39, hpt_16⟩ hM hL2 (by rw [va_up_ne _ _ (by decide)]; exact hmd) (fun j h3 h4 => va_up_ne _ _ h4) (by rw [va_up_self]; decide)⟩, by show va_P (dC, dI) vwCl _ t9.heap; rw [ht9]; exact hP⟩, hS.F ht9⟩) hS.2.2 dX10_keep_56
    · have c_30 := mt (k_iLT (a := 400) (b := (pt 4) L.length) (show nI 400 = iI 400 from by decide) rfl (by omega) (by omega)).mpr c_30
      refine lv_aload_n hx hb dX10_keep_37 rfl (lv_at hl 1 rfl) ?_
      refine m_get (D := (dC, dI)) (v := .ref (ad 10)) (C := RX10) (T := TX10) (N := 29) hx hb hts bk0 hown hK hP 0 (by decide) r_3 rfl 12 (by decide) (hts (.fieldLink RX10 44 "GradientDeskModel" "sizeD" "[I") (List.mem_of_getElem? (i := 5) rfl)) (fun _ h9 => h9) rfl dX10_keep_38 ?_
      refine lv_iload_n hx hb dX10_keep_41 rfl (lv_at hl 0 rfl) ?_
      refine m_iald hx hb hK hP 10 (by decide) rfl p_15 (i := L.length) (by omega) (by decide) dX10_keep_42 ?_
      have b_40 := (hpt_16 5) L.length
      refine lv_sipush (v := nI 400) hx hb dX10_keep_43 (by decide +kernel) ?_
      refine lv_icmp_le (tgt := 57) hx hb dX10_keep_46 (by decide) (fun c_41 => ?_) (fun c_41 => ?_)
      · have c_41 := (k_iLE (a := (pt 5) L.length) (b := 400) rfl (show nI 400 = iI 400 from by decide) (by omega) (by omega)).mp c_41
        refine lv_iconst (v := nI 0) hx hb dX10_keep_57 (by decide +kernel) ?_
        refine lv_istore_n (lv' := [(2, .int (nI 0)), (1, .int (nI L.length)), (0, .ref (ad 0))]) hx hb dX10_keep_58 rfl hl (by decide) rfl (fun ls hl => ?_)
        have loop_42 : ∀ (k9 : Nat) (i : Nat), 300 - i < k9 → (i ≤ L.length) → (∀ j, j < i → pky (gd L j) ds = false) → ∀ (H : Heap) (locs : List Loc) (ls : Array Slot), va_P (dC, dI) vwCl (wo ad NSr g) H → va_S A s.heap H locs → lv_has ls 4 [(0, .ref (ad 0)), (1, .int (nI L.length)), (2, .int (nI i))] → W p l e (headSpec wd_X10_keep ({ frames := 50, cells := 0, slots := 0, locals := 1000 })).room s m ([.ref (ad 0)] : List Value).toArray below meth c H locs (0) (0) (MQ below (va_Qi (fun (r : Int32) => fun (u : (Nat → va_E) × (Nat → Int32) × (Nat → Nat → Int) × (Nat → Int) × (Nat → Nat)) => match u with | (g2, x2, pt2, pf2, qf2) => (∀ k, k ≠ 0 ∧ k ≠ 1 ∧ k ≠ 2 ∧ k ≠ 3 ∧ k ≠ 5 ∧ k ≠ 6 ∧ k ≠ 7 ∧ k ≠ 8 ∧ k ≠ 9 ∧ k ≠ 10 → g2 k = g k) ∧ MKP ad cA g2 x x2 pf qf (keepL L ds) r pt2 pf2 qf2) (fun (u : (Nat → va_E) × (Nat → Int32) × (Nat → Nat → Int) × (Nat → Int) × (Nat → Nat)) (t : State) => va_P (dC, dI) vwCl (wo ad NSr u.1) t.heap) A) ([.ref (ad 0)] : List Value).toArray s (0) (0) A) (F0 m 59 ls []) := by
          intro k9
          induction k9 with
          | zero => intro i h9; exact absurd h9 (Nat.not_lt_zero _)
          | succ k9 ih_43 =>
            intro i h9 hi hno H locs ls hP hS hl
            refine lv_iload_n hx hb dX10_keep_59 rfl (lv_at hl 2 rfl) ?_
            refine lv_aload_n hx hb dX10_keep_60 rfl (lv_at hl 0 rfl) ?_
            refine m_get (D := (dC, dI)) (v := .int (nI L.length)) (C := RX10) (T := TX10) (N := 29) hx hb hts bk0 hown hK hP 0 (by decide) r_3 rfl 13 (by decide) (hts (.fieldLink RX10 149 "GradientDeskModel" "made" "I") (List.mem_of_getElem? (i := 2) rfl)) (fun _ h9 => h9) (congrArg (fun z => some (Value.int z)) hmd) dX10_keep_61 ?_
            refine lv_icmp_ge (tgt := 150) hx hb dX10_keep_64 (by decide) (fun c_46 => ?_) (fun c_46 => ?_)
            · have c_46 := (nI_leI (a := L.length) (b := i) (by omega) (by omega)).mp c_46
              refine lv_aload_n hx hb dX10_keep_150 rfl (lv_at hl 0 rfl) ?_
              refine m_get (D := (dC, dI)) (v := .int (nI L.length)) (C := RX10) (T := TX10) (N := 29) hx hb hts bk0 hown hK hP 0 (by decide) r_3 rfl 13 (by decide) (hts (.fieldLink RX10 149 "GradientDeskModel" "made" "I") (List.mem_of_getElem? (i := 2) rfl)) (fun _ h9 => h9) (congrArg (fun z => some (Value.int z)) hmd) dX10_keep_151 ?_
              refine lv_sipush (v := nI 200) hx hb dX10_keep_154 (by decide +kernel) ?_
              refine lv_icmp_ne (tgt := 168) hx hb dX10_keep_157 (by decide) (fun c_47 => ?_) (fun c_47 => ?_)
              · have c_47 := mt (nI_eq (a := L.length) (b := 200) (by omega) (by decide)).mpr c_47
                refine lv_aload_n hx hb dX10_keep_168 rfl (lv_at hl 0 rfl) ?_
                refine m_get (D := (dC, dI)) (v := .ref (ad 5)) (C := RX10) (T := TX10) (N := 29) hx hb hts bk0 hown hK hP 0 (by decide) r_3 rfl 7 (by decide) (hts (.fieldLink RX10 29 "GradientDeskModel" "sort" "[I") (List.mem_of_getElem? (i := 6) rfl)) (fun _ h9 => h9) rfl dX10_keep_169 ?_
                refine lv_iload_n hx hb dX10_keep_172 rfl (lv_at hl 1 rfl) ?_
                refine m_iald hx hb hK hP 5 (by decide) rfl p_10 (i := L.length) (by omega) (by decide) dX10_keep_173 ?_
                have b_48 := (hpt_16 0) L.length
                refine lv_if_ne (tgt := 185) hx hb dX10_keep_174 (by decide) (fun c_49 => ?_) (fun c_49 => ?_)
                · have c_49 := mt (k_iEQ (a := (pt 0) L.length) (b := 0) rfl (show nI 0 = iI 0 from by decide) (by omega) (by omega)).mpr c_49
                  refine lv_aload_n hx hb dX10_keep_185 rfl (lv_at hl 0 rfl) ?_
                  refine lv_dup hx hb dX10_keep_186 rfl ?_
                  refine m_get (D := (dC, dI)) (v := .int (nI L.length)) (C := RX10) (T := TX10) (N := 29) hx hb hts bk0 hown hK hP 0 (by decide) r_3 rfl 13 (by decide) (hts (.fieldLink RX10 149 "GradientDeskModel" "made" "I") (List.mem_of_getElem? (i := 2) rfl)) (fun _ h9 => h9) (congrArg (fun z => some (Value.int z)) hmd) dX10_keep_187 ?_
                  refine lv_iconst (v := nI 1) hx hb dX10_keep_190 (by decide +kernel) ?_
                  refine lv_iadd hx hb dX10_keep_191 ?_
                  refine lv_topi (fun x_50 e_51 => ?_)
                  obtain rfl : x_50 = nI (L.length + 1) := e_51.trans (nI_add L.length 1)
                  refine m_put (D := (dC, dI)) (v := .int (nI (L.length + 1))) (tv := .int) (C := RX10) (T := TX10) (N := 29) hx hb hts bk0 tyX10 tyX10_ok nmX10 hown hK hP hD hS 0 (by decide) r_3 rfl 13 (by decide) (hts (.fieldLink RX10 149 "GradientDeskModel" "made" "I") (List.mem_of_getElem? (i := 2) rfl)) (fun _ h9 => h9) rfl (by decide +kernel) rfl rfl (Nat.le_of_ble_eq_true rfl) dX10_keep_192 (fun H locs g_52 f_53 fr_54 hP hS => ?_)
                  have f_53 : g_52 0 = .inr (13, Rob ad (va_up x 3 (nI (L.length + 1)))) := f_53
                  refine lv_iload_n hx hb dX10_keep_195 rfl (lv_at hl 1 rfl) ?_
                  have f_55 : g_52 5 = .inl (cA 5, 201, .inl (fun j => iI ((pt 0) j))) := (fr_54 5 (by omega)).trans p_10
                  have f_56 : g_52 6 = .inl (cA 6, 201, .inl (fun j => iI ((pt 1) j))) := (fr_54 6 (by omega)).trans p_11
                  have f_57 : g_52 7 = .inl (cA 7, 201, .inl (fun j => iI ((pt 2) j))) := (fr_54 7 (by omega)).trans p_12
                  have f_58 : g_52 8 = .inl (cA 8, 201, .inl (fun j => iI ((pt 3) j))) := (fr_54 8 (by omega)).trans p_13
                  have f_59 : g_52 9 = .inl (cA 9, 201, .inl (fun j => iI ((pt 4) j))) := (fr_54 9 (by omega)).trans p_14
                  have f_60 : g_52 10 = .inl (cA 10, 201, .inl (fun j => iI ((pt 5) j))) := (fr_54 10 (by omega)).trans p_15
                  have hMn : MT (L ++ [ds]) pt (pf) (qf) := MT.app hM hd0 hd1 hd2 hd3 hd4 hd5 (fun h9 => absurd h9 (by omega)) (fun _ _ => ⟨rfl, rfl⟩)
                  refine W.widen (k := 0) (n := 0) (by omega) (by omega) ?_
                  exact W.iret (v := nI L.length) hx hb hr (fun t9 ht9 hW9 => ⟨⟨nI L.length, (g_52, va_up x 3 (nI (L.length + 1)), pt, pf, qf), rfl, ⟨(fun (k : Nat) (hk : k ≠ 0 ∧ k ≠ 1 ∧ k ≠ 2 ∧ k ≠ 3 ∧ k ≠ 5 ∧ k ≠ 6 ∧ k ≠ 7 ∧ k ≠ 8 ∧ k ≠ 9 ∧ k ≠ 10) => (fr_54 k (by omega)).trans (rfl)), MKP.new (keepL_new (by omega) (by omega) (fun j hj => hno j (by omega))) (by omega) (hF0.setx (fun (k : Nat) (hk : k = 1 ∨ k = 2 ∨ k = 3) => (fr_54 k (by omega)).trans (rfl)) f_53 rfl) ⟨f_55, f_56, f_57, f_58, f_59, f_60, hpt_16⟩ hMn (by rw [va_up_self]) (fun j h3 h4 => va_up_ne _ _ h3) (fun _ _ => ⟨rfl, rfl⟩) (by rw [va_up_ne _ _ (by decide)]; exact hft)⟩, by show va_P (dC, dI) vwCl _ t9.heap; rw [ht9]; exact hP⟩, hS.F ht9⟩) hS.2.2 dX10_keep_196
                · have c_49 := (k_iEQ (a := (pt 0) L.length) (b := 0) rfl (show nI 0 = iI 0 from by decide) (by omega) (by omega)).mp c_49
                  refine lv_aload_n hx hb dX10_keep_177 rfl (lv_at hl 0 rfl) ?_
                  refine lv_iload_n hx hb dX10_keep_178 rfl (lv_at hl 1 rfl) ?_
                  refine lv_sipush (v := nI 1011) hx hb dX10_keep_179 (by decide +kernel) ?_
                  refine va_callv (va_runV (As := [.int (nI L.length), .int (nI 1011)]) (rest := []) ⟨hx, hb, hml, hown, hts⟩ (c_X10_copyFraction l dC dI A ad cA g x pf qf L.length 1011 hF0 (by omega) (by decide)) (cwV 2 hts (goodIn_app (goodIn_r [Cond.methodLink RX10 136 yX10_copyFraction, Cond.instanceMethod yX10_copyFraction, Cond.selects RX10 yX10_copyFraction yX10_copyFraction, Cond.initialized RX10] [7, 8, 9, 10] rfl rfl) (goodIn_sub (fun w9 h9 => bk1 w9 h9) gw_X10_copyFraction)) rfl rfl rfl (by decide +kernel) ⟨Nat.le_of_ble_eq_true rfl, Nat.le_of_ble_eq_true rfl⟩) ⟨fun a U g mk q => ⟨q.1, q.2.1, q.2.2.1, LY.moved (u := U) (U := U.calling g mk a) (Vm.Alike.refl U.vm) q.2.2.2⟩, va_recv hK hP (ci := 13) (q0 := 0) rfl (wo_at (by decide) r_3), fun U hU hW => ⟨rfl, by rw [hU]; exact fun q h => hA q (Nat.le_trans hS.1 h), by rw [hU]; exact hP, LY.moved hW.alike hL⟩⟩ rfl rfl hl.1 rfl (lv_room (Nat.le_of_ble_eq_true rfl)) dX10_keep_182 ⟨(Nat.le_of_ble_eq_true rfl), (Nat.le_of_ble_eq_true rfl)⟩) hS (fun q _ h => h) (fun q h => h) (fun u8 t8 H1 locs ht8 hvm8 hw_61 hB hz1 hk1 hS => ?_)
                  obtain ⟨g_62, rfl⟩ : ∃ z, z = u8 := ⟨_, rfl⟩
                  try dsimp only at hw_61 hB
                  rw [ht8] at hB
                  have hP := hB
                  generalize H1 = H at hP hS ⊢
                  obtain ⟨fr_63, hF2⟩ := hw_61
                  have hF3 := hF2
                  refine lv_aload_n hx hb dX10_keep_185 rfl (lv_at hl 0 rfl) ?_
                  refine lv_dup hx hb dX10_keep_186 rfl ?_
                  have f_64 : g_62 0 = .inr (13, Rob ad x) := (fr_63 0 (by omega)).trans r_3
                  refine m_get (D := (dC, dI)) (v := .int (nI L.length)) (C := RX10) (T := TX10) (N := 29) hx hb hts bk0 hown hK hP 0 (by decide) f_64 rfl 13 (by decide) (hts (.fieldLink RX10 149 "GradientDeskModel" "made" "I") (List.mem_of_getElem? (i := 2) rfl)) (fun _ h9 => h9) (congrArg (fun z => some (Value.int z)) hmd) dX10_keep_187 ?_
                  refine lv_iconst (v := nI 1) hx hb dX10_keep_190 (by decide +kernel) ?_
                  refine lv_iadd hx hb dX10_keep_191 ?_
                  refine lv_topi (fun x_65 e_66 => ?_)
                  obtain rfl : x_65 = nI (L.length + 1) := e_66.trans (nI_add L.length 1)
                  refine m_put (D := (dC, dI)) (v := .int (nI (L.length + 1))) (tv := .int) (C := RX10) (T := TX10) (N := 29) hx hb hts bk0 tyX10 tyX10_ok nmX10 hown hK hP hD hS 0 (by decide) f_64 rfl 13 (by decide) (hts (.fieldLink RX10 149 "GradientDeskModel" "made" "I") (List.mem_of_getElem? (i := 2) rfl)) (fun _ h9 => h9) rfl (by decide +kernel) rfl rfl (Nat.le_of_ble_eq_true rfl) dX10_keep_192 (fun H locs g_67 f_68 fr_69 hP hS => ?_)
                  have f_68 : g_67 0 = .inr (13, Rob ad (va_up x 3 (nI (L.length + 1)))) := f_68
                  refine lv_iload_n hx hb dX10_keep_195 rfl (lv_at hl 1 rfl) ?_
                  have f_70 : g_67 5 = .inl (cA 5, 201, .inl (fun j => iI ((pt 0) j))) := (fr_69 5 (by omega)).trans ((fr_63 5 (by omega)).trans p_10)
                  have f_71 : g_67 6 = .inl (cA 6, 201, .inl (fun j => iI ((pt 1) j))) := (fr_69 6 (by omega)).trans ((fr_63 6 (by omega)).trans p_11)
                  have f_72 : g_67 7 = .inl (cA 7, 201, .inl (fun j => iI ((pt 2) j))) := (fr_69 7 (by omega)).trans ((fr_63 7 (by omega)).trans p_12)
                  have f_73 : g_67 8 = .inl (cA 8, 201, .inl (fun j => iI ((pt 3) j))) := (fr_69 8 (by omega)).trans ((fr_63 8 (by omega)).trans p_13)
                  have f_74 : g_67 9 = .inl (cA 9, 201, .inl (fun j => iI ((pt 4) j))) := (fr_69 9 (by omega)).trans ((fr_63 9 (by omega)).trans p_14)
                  have f_75 : g_67 10 = .inl (cA 10, 201, .inl (fun j => iI ((pt 5) j))) := (fr_69 10 (by omega)).trans ((fr_63 10 (by omega)).trans p_15)
                  have hMn : MT (L ++ [ds]) pt (va_up pf L.length (pf 1011)) (va_up qf L.length (qf 1011)) := MT.app hM hd0 hd1 hd2 hd3 hd4 hd5 (fun h9 => ⟨by rw [va_up_self]; exact (hdn h9).1, by rw [va_up_self]; exact (hdn h9).2⟩) (fun j hj => ⟨va_up_ne _ _ hj, va_up_ne _ _ hj⟩)
                  refine W.widen (k := 0) (n := 0) (by omega) (by omega) ?_
                  exact W.iret (v := nI L.length) hx hb hr (fun t9 ht9 hW9 => ⟨⟨nI L.length, (g_67, va_up x 3 (nI (L.length + 1)), pt, va_up pf L.length (pf 1011), va_up qf L.length (qf 1011)), rfl, ⟨(fun (k : Nat) (hk : k ≠ 0 ∧ k ≠ 1 ∧ k ≠ 2 ∧ k ≠ 3 ∧ k ≠ 5 ∧ k ≠ 6 ∧ k ≠ 7 ∧ k ≠ 8 ∧ k ≠ 9 ∧ k ≠ 10) => (fr_69 k (by omega)).trans ((fr_63 k (by omega)).trans (rfl))), MKP.new (keepL_new (by omega) (by omega) (fun j hj => hno j (by omega))) (by omega) (hF3.setx (fun (k : Nat) (hk : k = 1 ∨ k = 2 ∨ k = 3) => (fr_69 k (by omega)).trans (rfl)) f_68 rfl) ⟨f_70, f_71, f_72, f_73, f_74, f_75, hpt_16⟩ hMn (by rw [va_up_self]) (fun j h3 h4 => va_up_ne _ _ h3) (fun j hj => ⟨va_up_ne _ _ hj, va_up_ne _ _ hj⟩) (by rw [va_up_ne _ _ (by decide)]; exact hft)⟩, by show va_P (dC, dI) vwCl _ t9.heap; rw [ht9]; exact hP⟩, hS.F ht9⟩) hS.2.2 dX10_keep_196
              · have c_47 := (nI_eq (a := L.length) (b := 200) (by omega) (by decide)).mp c_47
                refine lv_aload_n hx hb dX10_keep_160 rfl (lv_at hl 0 rfl) ?_
                refine lv_bipush (v := -4) hx hb dX10_keep_161 (by decide +kernel) ?_
                refine m_put (D := (dC, dI)) (v := .int (-4)) (tv := .int) (C := RX10) (T := TX10) (N := 29) hx hb hts bk0 tyX10 tyX10_ok nmX10 hown hK hP hD hS 0 (by decide) r_3 rfl 14 (by decide) (hts (.fieldLink RX10 146 "GradientDeskModel" "fault" "I") (List.mem_of_getElem? (i := 1) rfl)) (fun _ h9 => h9) rfl (by decide +kernel) rfl rfl (Nat.le_of_ble_eq_true rfl) dX10_keep_163 (fun H locs g_76 f_77 fr_78 hP hS => ?_)
                have f_77 : g_76 0 = .inr (13, Rob ad (va_up x 4 (-4))) := f_77
                refine lv_iconst (v := -1) hx hb dX10_keep_166 (by decide +kernel) ?_
                have f_79 : g_76 5 = .inl (cA 5, 201, .inl (fun j => iI ((pt 0) j))) := (fr_78 5 (by omega)).trans p_10
                have f_80 : g_76 6 = .inl (cA 6, 201, .inl (fun j => iI ((pt 1) j))) := (fr_78 6 (by omega)).trans p_11
                have f_81 : g_76 7 = .inl (cA 7, 201, .inl (fun j => iI ((pt 2) j))) := (fr_78 7 (by omega)).trans p_12
                have f_82 : g_76 8 = .inl (cA 8, 201, .inl (fun j => iI ((pt 3) j))) := (fr_78 8 (by omega)).trans p_13
                have f_83 : g_76 9 = .inl (cA 9, 201, .inl (fun j => iI ((pt 4) j))) := (fr_78 9 (by omega)).trans p_14
                have f_84 : g_76 10 = .inl (cA 10, 201, .inl (fun j => iI ((pt 5) j))) := (fr_78 10 (by omega)).trans p_15
                refine W.widen (k := 0) (n := 0) (by omega) (by omega) ?_
                exact W.iret (v := -1) hx hb hr (fun t9 ht9 hW9 => ⟨⟨-1, (g_76, va_up x 4 (-4), pt, pf, qf), rfl, ⟨(fun (k : Nat) (hk : k ≠ 0 ∧ k ≠ 1 ∧ k ≠ 2 ∧ k ≠ 3 ∧ k ≠ 5 ∧ k ≠ 6 ∧ k ≠ 7 ∧ k ≠ 8 ∧ k ≠ 9 ∧ k ≠ 10) => (fr_78 k (by omega)).trans (rfl)), MKP.bad (keepL_full (by omega) (by omega) (fun j hj => hno j (by omega))) (Or.inr rfl) (hF0.setx (fun (k : Nat) (hk : k = 1 ∨ k = 2 ∨ k = 3) => (fr_78 k (by omega)).trans (rfl)) f_77 rfl) ⟨f_79, f_80, f_81, f_82, f_83, f_84, hpt_16⟩ hM hL2 (by rw [va_up_ne _ _ (by decide)]; exact hmd) (fun j h3 h4 => va_up_ne _ _ h4) (by rw [va_up_self]; decide)⟩, by show va_P (dC, dI) vwCl _ t9.heap; rw [ht9]; exact hP⟩, hS.F ht9⟩) hS.2.2 dX10_keep_167
            · have c_46 := mt (nI_leI (a := L.length) (b := i) (by omega) (by omega)).mpr c_46
              obtain ⟨m0, m1, m2, m3, m4, m5, m6⟩ := hM i (by omega)
              refine lv_aload_n hx hb dX10_keep_67 rfl (lv_at hl 0 rfl) ?_
              refine m_get (D := (dC, dI)) (v := .ref (ad 5)) (C := RX10) (T := TX10) (N := 29) hx hb hts bk0 hown hK hP 0 (by decide) r_3 rfl 7 (by decide) (hts (.fieldLink RX10 29 "GradientDeskModel" "sort" "[I") (List.mem_of_getElem? (i := 6) rfl)) (fun _ h9 => h9) rfl dX10_keep_68 ?_
              refine lv_iload_n hx hb dX10_keep_71 rfl (lv_at hl 2 rfl) ?_
              refine m_iald hx hb hK hP 5 (by decide) rfl p_10 (i := i) (by omega) (by decide) dX10_keep_72 ?_
              have b_85 := (hpt_16 0) i
              refine lv_aload_n hx hb dX10_keep_73 rfl (lv_at hl 0 rfl) ?_
              refine m_get (D := (dC, dI)) (v := .ref (ad 5)) (C := RX10) (T := TX10) (N := 29) hx hb hts bk0 hown hK hP 0 (by decide) r_3 rfl 7 (by decide) (hts (.fieldLink RX10 29 "GradientDeskModel" "sort" "[I") (List.mem_of_getElem? (i := 6) rfl)) (fun _ h9 => h9) rfl dX10_keep_74 ?_
              refine lv_iload_n hx hb dX10_keep_77 rfl (lv_at hl 1 rfl) ?_
              refine m_iald hx hb hK hP 5 (by decide) rfl p_10 (i := L.length) (by omega) (by decide) dX10_keep_78 ?_
              have b_86 := (hpt_16 0) L.length
              refine lv_icmp_ne (tgt := 116) hx hb dX10_keep_79 (by decide) (fun c_87 => ?_) (fun c_87 => ?_)
              · have c_87 := mt (k_iEQ (a := (pt 0) i) (b := (pt 0) L.length) rfl rfl (by omega) (by omega)).mpr c_87
                refine lv_iconst (v := nI 0) hx hb dX10_keep_116 (by decide +kernel) ?_
                refine lv_istore_n (lv' := [(3, .int (nI 0)), (0, .ref (ad 0)), (1, .int (nI L.length)), (2, .int (nI i))]) hx hb dX10_keep_117 rfl hl (by decide) rfl (fun ls hl => ?_)
                refine lv_iload_n hx hb dX10_keep_118 rfl (lv_at hl 0 rfl) ?_
                refine lv_if_eq (tgt := 144) hx hb dX10_keep_119 (by decide) (fun c_88 => ?_) (fun c_88 => absurd c_88 (by decide))
                refine lv_iinc (v := nI (i + 1)) (lv' := [(2, .int (nI (i + 1))), (3, .int (nI 0)), (0, .ref (ad 0)), (1, .int (nI L.length))]) hx hb dX10_keep_144 hl (k := 3) rfl (nI_add i 1) (by decide) rfl (fun ls hl => ?_)
                refine lv_goto (tgt := 59) hx hb dX10_keep_147 (by decide) ?_
                exact ih_43 (i + 1) (by omega) (by omega) (fun j hj => by by_cases h9 : j = i; subst h9; exact (k_nky m0 m1 m2 hd0 hd1 hd2 (fun h0 h1 h2 => (by omega : False).elim)); exact hno j (by omega)) _ _ _ hP hS (lv_sub (l' := [(0, .ref (ad 0)), (1, .int (nI L.length)), (2, .int (nI (i + 1)))]) hl [2, 3, 0] rfl)
              · have c_87 := (k_iEQ (a := (pt 0) i) (b := (pt 0) L.length) rfl rfl (by omega) (by omega)).mp c_87
                refine lv_aload_n hx hb dX10_keep_82 rfl (lv_at hl 0 rfl) ?_
                refine m_get (D := (dC, dI)) (v := .ref (ad 6)) (C := RX10) (T := TX10) (N := 29) hx hb hts bk0 hown hK hP 0 (by decide) r_3 rfl 8 (by decide) (hts (.fieldLink RX10 32 "GradientDeskModel" "first" "[I") (List.mem_of_getElem? (i := 11) rfl)) (fun _ h9 => h9) rfl dX10_keep_83 ?_
                refine lv_iload_n hx hb dX10_keep_86 rfl (lv_at hl 2 rfl) ?_
                refine m_iald hx hb hK hP 6 (by decide) rfl p_11 (i := i) (by omega) (by decide) dX10_keep_87 ?_
                have b_91 := (hpt_16 1) i
                refine lv_aload_n hx hb dX10_keep_88 rfl (lv_at hl 0 rfl) ?_
                refine m_get (D := (dC, dI)) (v := .ref (ad 6)) (C := RX10) (T := TX10) (N := 29) hx hb hts bk0 hown hK hP 0 (by decide) r_3 rfl 8 (by decide) (hts (.fieldLink RX10 32 "GradientDeskModel" "first" "[I") (List.mem_of_getElem? (i := 11) rfl)) (fun _ h9 => h9) rfl dX10_keep_89 ?_
                refine lv_iload_n hx hb dX10_keep_92 rfl (lv_at hl 1 rfl) ?_
                refine m_iald hx hb hK hP 6 (by decide) rfl p_11 (i := L.length) (by omega) (by decide) dX10_keep_93 ?_
                have b_92 := (hpt_16 1) L.length
                refine lv_icmp_ne (tgt := 116) hx hb dX10_keep_94 (by decide) (fun c_93 => ?_) (fun c_93 => ?_)
                · have c_93 := mt (k_iEQ (a := (pt 1) i) (b := (pt 1) L.length) rfl rfl (by omega) (by omega)).mpr c_93
                  refine lv_iconst (v := nI 0) hx hb dX10_keep_116 (by decide +kernel) ?_
                  refine lv_istore_n (lv' := [(3, .int (nI 0)), (0, .ref (ad 0)), (1, .int (nI L.length)), (2, .int (nI i))]) hx hb dX10_keep_117 rfl hl (by decide) rfl (fun ls hl => ?_)
                  refine lv_iload_n hx hb dX10_keep_118 rfl (lv_at hl 0 rfl) ?_
                  refine lv_if_eq (tgt := 144) hx hb dX10_keep_119 (by decide) (fun c_94 => ?_) (fun c_94 => absurd c_94 (by decide))
                  refine lv_iinc (v := nI (i + 1)) (lv' := [(2, .int (nI (i + 1))), (3, .int (nI 0)), (0, .ref (ad 0)), (1, .int (nI L.length))]) hx hb dX10_keep_144 hl (k := 3) rfl (nI_add i 1) (by decide) rfl (fun ls hl => ?_)
                  refine lv_goto (tgt := 59) hx hb dX10_keep_147 (by decide) ?_
                  exact ih_43 (i + 1) (by omega) (by omega) (fun j hj => by by_cases h9 : j = i; subst h9; exact (k_nky m0 m1 m2 hd0 hd1 hd2 (fun h0 h1 h2 => (by omega : False).elim)); exact hno j (by omega)) _ _ _ hP hS (lv_sub (l' := [(0, .ref (ad 0)), (1, .int (nI L.length)), (2, .int (nI (i + 1)))]) hl [2, 3, 0] rfl)
                · have c_93 := (k_iEQ (a := (pt 1) i) (b := (pt 1) L.length) rfl rfl (by omega) (by omega)).mp c_93
                  refine lv_aload_n hx hb dX10_keep_97 rfl (lv_at hl 0 rfl) ?_
                  refine m_get (D := (dC, dI)) (v := .ref (ad 7)) (C := RX10) (T := TX10) (N := 29) hx hb hts bk0 hown hK hP 0 (by decide) r_3 rfl 9 (by decide) (hts (.fieldLink RX10 35 "GradientDeskModel" "second" "[I") (List.mem_of_getElem? (i := 12) rfl)) (fun _ h9 => h9) rfl dX10_keep_98 ?_
                  refine lv_iload_n hx hb dX10_keep_101 rfl (lv_at hl 2 rfl) ?_
                  refine m_iald hx hb hK hP 7 (by decide) rfl p_12 (i := i) (by omega) (by decide) dX10_keep_102 ?_
                  have b_97 := (hpt_16 2) i
                  refine lv_aload_n hx hb dX10_keep_103 rfl (lv_at hl 0 rfl) ?_
                  refine m_get (D := (dC, dI)) (v := .ref (ad 7)) (C := RX10) (T := TX10) (N := 29) hx hb hts bk0 hown hK hP 0 (by decide) r_3 rfl 9 (by decide) (hts (.fieldLink RX10 35 "GradientDeskModel" "second" "[I") (List.mem_of_getElem? (i := 12) rfl)) (fun _ h9 => h9) rfl dX10_keep_104 ?_
                  refine lv_iload_n hx hb dX10_keep_107 rfl (lv_at hl 1 rfl) ?_
                  refine m_iald hx hb hK hP 7 (by decide) rfl p_12 (i := L.length) (by omega) (by decide) dX10_keep_108 ?_
                  have b_98 := (hpt_16 2) L.length
                  refine lv_icmp_ne (tgt := 116) hx hb dX10_keep_109 (by decide) (fun c_99 => ?_) (fun c_99 => ?_)
                  · have c_99 := mt (k_iEQ (a := (pt 2) i) (b := (pt 2) L.length) rfl rfl (by omega) (by omega)).mpr c_99
                    refine lv_iconst (v := nI 0) hx hb dX10_keep_116 (by decide +kernel) ?_
                    refine lv_istore_n (lv' := [(3, .int (nI 0)), (0, .ref (ad 0)), (1, .int (nI L.length)), (2, .int (nI i))]) hx hb dX10_keep_117 rfl hl (by decide) rfl (fun ls hl => ?_)
                    refine lv_iload_n hx hb dX10_keep_118 rfl (lv_at hl 0 rfl) ?_
                    refine lv_if_eq (tgt := 144) hx hb dX10_keep_119 (by decide) (fun c_100 => ?_) (fun c_100 => absurd c_100 (by decide))
                    refine lv_iinc (v := nI (i + 1)) (lv' := [(2, .int (nI (i + 1))), (3, .int (nI 0)), (0, .ref (ad 0)), (1, .int (nI L.length))]) hx hb dX10_keep_144 hl (k := 3) rfl (nI_add i 1) (by decide) rfl (fun ls hl => ?_)
                    refine lv_goto (tgt := 59) hx hb dX10_keep_147 (by decide) ?_
                    exact ih_43 (i + 1) (by omega) (by omega) (fun j hj => by by_cases h9 : j = i; subst h9; exact (k_nky m0 m1 m2 hd0 hd1 hd2 (fun h0 h1 h2 => (by omega : False).elim)); exact hno j (by omega)) _ _ _ hP hS (lv_sub (l' := [(0, .ref (ad 0)), (1, .int (nI L.length)), (2, .int (nI (i + 1)))]) hl [2, 3, 0] rfl)
                  · have c_99 := (k_iEQ (a := (pt 2) i) (b := (pt 2) L.length) rfl rfl (by omega) (by omega)).mp c_99
                    refine lv_iconst (v := nI 1) hx hb dX10_keep_112 (by decide +kernel) ?_
                    refine lv_goto (tgt := 117) hx hb dX10_keep_113 (by decide) ?_
                    refine lv_istore_n (lv' := [(3, .int (nI 1)), (0, .ref (ad 0)), (1, .int (nI L.length)), (2, .int (nI i))]) hx hb dX10_keep_117 rfl hl (by decide) rfl (fun ls hl => ?_)
                    refine lv_iload_n hx hb dX10_keep_118 rfl (lv_at hl 0 rfl) ?_
                    refine lv_if_eq (tgt := 144) hx hb dX10_keep_119 (by decide) (fun c_103 => absurd c_103 (by decide)) (fun c_103 => ?_)
                    refine lv_aload_n hx hb dX10_keep_122 rfl (lv_at hl 1 rfl) ?_
                    refine m_get (D := (dC, dI)) (v := .ref (ad 5)) (C := RX10) (T := TX10) (N := 29) hx hb hts bk0 hown hK hP 0 (by decide) r_3 rfl 7 (by decide) (hts (.fieldLink RX10 29 "GradientDeskModel" "sort" "[I") (List.mem_of_getElem? (i := 6) rfl)) (fun _ h9 => h9) rfl dX10_keep_123 ?_
                    refine lv_iload_n hx hb dX10_keep_126 rfl (lv_at hl 3 rfl) ?_
                    refine m_iald hx hb hK hP 5 (by decide) rfl p_10 (i := i) (by omega) (by decide) dX10_keep_127 ?_
                    have b_104 := (hpt_16 0) i
                    refine lv_if_ne (tgt := 142) hx hb dX10_keep_128 (by decide) (fun c_105 => ?_) (fun c_105 => ?_)
                    · have c_105 := mt (k_iEQ (a := (pt 0) i) (b := 0) rfl (show nI 0 = iI 0 from by decide) (by omega) (by omega)).mpr c_105
                      refine lv_iload_n hx hb dX10_keep_142 rfl (lv_at hl 3 rfl) ?_
                      refine W.widen (k := 0) (n := 0) (by omega) (by omega) ?_
                      exact W.iret (v := nI i) hx hb hr (fun t9 ht9 hW9 => ⟨⟨nI i, (g, x, pt, pf, qf), rfl, ⟨(fun (k : Nat) (hk : k ≠ 0 ∧ k ≠ 1 ∧ k ≠ 2 ∧ k ≠ 3 ∧ k ≠ 5 ∧ k ≠ 6 ∧ k ≠ 7 ∧ k ≠ 8 ∧ k ≠ 9 ∧ k ≠ 10) => rfl), MKP.old (keepL_old (by omega) (by omega) (k_ky m0 m1 m2 hd0 hd1 hd2 (by omega) (by omega) (by omega) (fun h9 => absurd h9 (by omega))) hno) (by omega) hF0 ⟨p_10, p_11, p_12, p_13, p_14, p_15, hpt_16⟩ hM hL2 hmd hft⟩, by show va_P (dC, dI) vwCl _ t9.heap; rw [ht9]; exact hP⟩, hS.F ht9⟩) hS.2.2 dX10_keep_143
                    · have c_105 := (k_iEQ (a := (pt 0) i) (b := 0) rfl (show nI 0 = iI 0 from by decide) (by omega) (by omega)).mp c_105
                      refine lv_aload_n hx hb dX10_keep_131 rfl (lv_at hl 1 rfl) ?_
                      refine lv_iload_n hx hb dX10_keep_132 rfl (lv_at hl 3 rfl) ?_
                      refine lv_sipush (v := nI 1011) hx hb dX10_keep_133 (by decide +kernel) ?_
                      refine va_calli (va_runV (As := [.int (nI i), .int (nI 1011)]) (rest := []) ⟨hx, hb, hml, hown, hts⟩ (c_X10_areSame l dC dI A ad cA g x pf qf i 1011 hF0 (by omega) (by decide)) (cwV 2 hts (goodIn_app (goodIn_r [Cond.methodLink RX10 152 yX10_areSame, Cond.instanceMethod yX10_areSame, Cond.selects RX10 yX10_areSame yX10_areSame, Cond.initialized RX10] [13, 14, 15, 10] rfl rfl) (goodIn_sub (fun w9 h9 => bk2 w9 h9) gw_X10_areSame)) rfl rfl rfl (by decide +kernel) ⟨Nat.le_of_ble_eq_true rfl, Nat.le_of_ble_eq_true rfl⟩) ⟨fun a U g mk q => ⟨q.1, q.2.1, q.2.2.1, LY.moved (u := U) (U := U.calling g mk a) (Vm.Alike.refl U.vm) q.2.2.2⟩, va_recv hK hP (ci := 13) (q0 := 0) rfl (wo_at (by decide) r_3), fun U hU hW => ⟨rfl, by rw [hU]; exact fun q h => hA q (Nat.le_trans hS.1 h), by rw [hU]; exact hP, LY.moved hW.alike hL⟩⟩ rfl rfl hl.1 rfl (lv_room (Nat.le_of_ble_eq_true rfl)) dX10_keep_136 ⟨(Nat.le_of_ble_eq_true rfl), (Nat.le_of_ble_eq_true rfl)⟩) hS (fun q _ h => h) (fun q h => h) (fun r_106 u8 t8 H1 locs ht8 hvm8 hw_107 hB hz1 hk1 hS => ?_)
                      obtain ⟨⟩ := u8
                      try dsimp only at hw_107 hB
                      rw [ht8] at hB
                      have hP := hB
                      generalize H1 = H at hP hS ⊢
                      rcases hw_107 with ⟨rfl, hsm⟩ | ⟨rfl, hsm⟩
                      · skip
                        refine lv_if_eq (tgt := 144) hx hb dX10_keep_139 (by decide) (fun c_108 => absurd c_108 (by decide)) (fun c_108 => ?_)
                        refine lv_iload_n hx hb dX10_keep_142 rfl (lv_at hl 3 rfl) ?_
                        refine W.widen (k := 0) (n := 0) (by omega) (by omega) ?_
                        exact W.iret (v := nI i) hx hb hr (fun t9 ht9 hW9 => ⟨⟨nI i, (g, x, pt, pf, qf), rfl, ⟨(fun (k : Nat) (hk : k ≠ 0 ∧ k ≠ 1 ∧ k ≠ 2 ∧ k ≠ 3 ∧ k ≠ 5 ∧ k ≠ 6 ∧ k ≠ 7 ∧ k ≠ 8 ∧ k ≠ 9 ∧ k ≠ 10) => rfl), MKP.old (keepL_old (by omega) (by omega) (k_ky m0 m1 m2 hd0 hd1 hd2 (by omega) (by omega) (by omega) (fun h9 => ⟨by rw [← (m6 (by omega)).1, ← (hdn h9).1]; exact hsm.1, by rw [← (m6 (by omega)).2, ← (hdn h9).2]; exact hsm.2⟩)) hno) (by omega) hF0 ⟨p_10, p_11, p_12, p_13, p_14, p_15, hpt_16⟩ hM hL2 hmd hft⟩, by show va_P (dC, dI) vwCl _ t9.heap; rw [ht9]; exact hP⟩, hS.F ht9⟩) hS.2.2 dX10_keep_143
                      · skip
                        refine lv_if_eq (tgt := 144) hx hb dX10_keep_139 (by decide) (fun c_109 => ?_) (fun c_109 => absurd c_109 (by decide))
                        refine lv_iinc (v := nI (i + 1)) (lv' := [(2, .int (nI (i + 1))), (3, .int (nI 1)), (0, .ref (ad 0)), (1, .int (nI L.length))]) hx hb dX10_keep_144 hl (k := 3) rfl (nI_add i 1) (by decide) rfl (fun ls hl => ?_)
                        refine lv_goto (tgt := 59) hx hb dX10_keep_147 (by decide) ?_
                        exact ih_43 (i + 1) (by omega) (by omega) (fun j hj => by by_cases h9 : j = i; subst h9; exact (k_nky m0 m1 m2 hd0 hd1 hd2 (fun h0 h1 h2 => ⟨by omega, fun hp hq => hsm ⟨by rw [(m6 (by omega)).1, (hdn (by omega)).1]; exact hp, by rw [(m6 (by omega)).2, (hdn (by omega)).2]; exact hq⟩⟩)); exact hno j (by omega)) _ _ _ hP hS (lv_sub (l' := [(0, .ref (ad 0)), (1, .int (nI L.length)), (2, .int (nI (i + 1)))]) hl [2, 3, 0] rfl)
        exact loop_42 _ 0 (Nat.lt_succ_self _) (Nat.zero_le _) (fun j h => absurd h (by omega)) _ _ _ hP hS (lv_sub (l' := [(0, .ref (ad 0)), (1, .int (nI L.length)), (2, .int (nI 0))]) hl [2, 1, 0] rfl)
      · have c_41 := mt (k_iLE (a := (pt 5) L.length) (b := 400) rfl (show nI 400 = iI 400 from by decide) (by omega) (by omega)).mpr c_41
        refine lv_aload_n hx hb dX10_keep_49 rfl (lv_at hl 1 rfl) ?_
        refine lv_bipush (v := -3) hx hb dX10_keep_50 (by decide +kernel) ?_
        refine m_put (D := (dC, dI)) (v := .int (-3)) (tv := .int) (C := RX10) (T := TX10) (N := 29) hx hb hts bk0 tyX10 tyX10_ok nmX10 hown hK hP hD hS 0 (by decide) r_3 rfl 14 (by decide) (hts (.fieldLink RX10 146 "GradientDeskModel" "fault" "I") (List.mem_of_getElem? (i := 1) rfl)) (fun _ h9 => h9) rfl (by decide +kernel) rfl rfl (Nat.le_of_ble_eq_true rfl) dX10_keep_52 (fun H locs g_112 f_113 fr_114 hP hS => ?_)
        have f_113 : g_112 0 = .inr (13, Rob ad (va_up x 4 (-3))) := f_113
        refine lv_iconst (v := -1) hx hb dX10_keep_55 (by decide +kernel) ?_
        have f_115 : g_112 5 = .inl (cA 5, 201, .inl (fun j => iI ((pt 0) j))) := (fr_114 5 (by omega)).trans p_10
        have f_116 : g_112 6 = .inl (cA 6, 201, .inl (fun j => iI ((pt 1) j))) := (fr_114 6 (by omega)).trans p_11
        have f_117 : g_112 7 = .inl (cA 7, 201, .inl (fun j => iI ((pt 2) j))) := (fr_114 7 (by omega)).trans p_12
        have f_118 : g_112 8 = .inl (cA 8, 201, .inl (fun j => iI ((pt 3) j))) := (fr_114 8 (by omega)).trans p_13
        have f_119 : g_112 9 = .inl (cA 9, 201, .inl (fun j => iI ((pt 4) j))) := (fr_114 9 (by omega)).trans p_14
        have f_120 : g_112 10 = .inl (cA 10, 201, .inl (fun j => iI ((pt 5) j))) := (fr_114 10 (by omega)).trans p_15
        refine W.widen (k := 0) (n := 0) (by omega) (by omega) ?_
        exact W.iret (v := -1) hx hb hr (fun t9 ht9 hW9 => ⟨⟨-1, (g_112, va_up x 4 (-3), pt, pf, qf), rfl, ⟨(fun (k : Nat) (hk : k ≠ 0 ∧ k ≠ 1 ∧ k ≠ 2 ∧ k ≠ 3 ∧ k ≠ 5 ∧ k ≠ 6 ∧ k ≠ 7 ∧ k ≠ 8 ∧ k ≠ 9 ∧ k ≠ 10) => (fr_114 k (by omega)).trans (rfl)), MKP.bad (keepL_big (by omega)) (Or.inl rfl) (hF0.setx (fun (k : Nat) (hk : k = 1 ∨ k = 2 ∨ k = 3) => (fr_114 k (by omega)).trans (rfl)) f_113 rfl) ⟨f_115, f_116, f_117, f_118, f_119, f_120, hpt_16⟩ hM hL2 (by rw [va_up_ne _ _ (by decide)]; exact hmd) (fun j h3 h4 => va_up_ne _ _ h4) (by rw [va_up_self]; decide)⟩, by show va_P (dC, dI) vwCl _ t9.heap; rw [ht9]; exact hP⟩, hS.F ht9⟩) hS.2.2 dX10_keep_56
end
section
def onF (ft : Int) (L : List PD) (K : Int × List PD) : Int × List PD := if ft < 0 then (ft, L) else K
theorem onF_neg {ft : Int} {L : List PD} {K : Int × List PD} (h : ft < 0) : onF ft L K = (ft, L) := if_pos h
theorem onF_0 (L : List PD) (K : Int × List PD) : onF 0 L K = K := if_neg (by decide)
def numL (L : List PD) (p : Int) (q : Nat) : Int × List PD := keepL L (0, -1, -1, 0, if bl p.natAbs = 0 then 1 else bl p.natAbs, if bl q = 1 then 0 else bl q, p, q)
def isN (d : PD) (v : Int) : Bool := d.1 == 0 && (d.2.2.2.2.2.2.1 == v && d.2.2.2.2.2.2.2 == 1)
def sumL (L : List PD) (x y : Nat) : Int × List PD :=
  if (gd L x).1 = 0 ∧ (gd L y).1 = 0 then
    numL L (rdp ((gd L x).2.2.2.2.2.2.1 * (gd L y).2.2.2.2.2.2.2 + (gd L y).2.2.2.2.2.2.1 * (gd L x).2.2.2.2.2.2.2) ((gd L x).2.2.2.2.2.2.2 * (gd L y).2.2.2.2.2.2.2)) (rdq ((gd L x).2.2.2.2.2.2.1 * (gd L y).2.2.2.2.2.2.2 + (gd L y).2.2.2.2.2.2.1 * (gd L x).2.2.2.2.2.2.2) ((gd L x).2.2.2.2.2.2.2 * (gd L y).2.2.2.2.2.2.2))
  else if isN (gd L x) 0 = true then (((y : Nat) : Int), L) else if isN (gd L y) 0 = true then (((x : Nat) : Int), L)
  else keepL L (2, ((x : Nat) : Int), ((y : Nat) : Int), max (gd L x).2.2.2.1 (gd L y).2.2.2.1, 1 + max ((gd L x).2.2.2.2.1 + (gd L y).2.2.2.2.2.1) ((gd L y).2.2.2.2.1 + (gd L x).2.2.2.2.2.1), (gd L x).2.2.2.2.2.1 + (gd L y).2.2.2.2.2.1, 0, 1)
def prdL (L : List PD) (x y : Nat) : Int × List PD :=
  if (gd L x).1 = 0 ∧ (gd L y).1 = 0 then
    numL L (rdp ((gd L x).2.2.2.2.2.2.1 * (gd L y).2.2.2.2.2.2.1) ((gd L x).2.2.2.2.2.2.2 * (gd L y).2.2.2.2.2.2.2)) (rdq ((gd L x).2.2.2.2.2.2.1 * (gd L y).2.2.2.2.2.2.1) ((gd L x).2.2.2.2.2.2.2 * (gd L y).2.2.2.2.2.2.2))
  else if isN (gd L x) 0 = true then (((x : Nat) : Int), L) else if isN (gd L y) 0 = true then (((y : Nat) : Int), L)
  else if isN (gd L x) 1 = true then (((y : Nat) : Int), L) else if isN (gd L y) 1 = true then (((x : Nat) : Int), L)
  else keepL L (3, ((x : Nat) : Int), ((y : Nat) : Int), (gd L x).2.2.2.1 + (gd L y).2.2.2.1, (gd L x).2.2.2.2.1 + (gd L y).2.2.2.2.1 + 8, (gd L x).2.2.2.2.2.1 + (gd L y).2.2.2.2.2.1, 0, 1)
def powL (L : List PD) (x e : Nat) : Int × List PD :=
  if e = 0 then numL L 1 1 else if e = 1 then (((x : Nat) : Int), L) else if (gd L x).1 = 0 then numL L ((gd L x).2.2.2.2.2.2.1 ^ e) ((gd L x).2.2.2.2.2.2.2 ^ e)
  else keepL L (4, ((x : Nat) : Int), ((e : Nat) : Int), e * (gd L x).2.2.2.1, e * ((gd L x).2.2.2.2.1 + 8), e * (gd L x).2.2.2.2.2.1, 0, 1)
def varL (L : List PD) (v : Nat) : Int × List PD := keepL L (1, ((v : Nat) : Int), -1, 1, 1, 0, 0, 1)
/-- a list of parts as they are made -/
def WFD (L : List PD) (i : Nat) (d : PD) : Prop := d.1 ≤ 4 ∧ d.2.2.2.1 ≤ 8 ∧ 1 ≤ d.2.2.2.2.1 ∧ d.2.2.2.2.1 ≤ 400 ∧ d.2.2.2.2.2.1 ≤ 400 ∧ (d.1 ≠ 0 → 1 ≤ d.2.2.2.1) ∧
  (d.1 = 0 → d.2.2.2.1 = 0 ∧ bl d.2.2.2.2.2.2.1.natAbs ≤ d.2.2.2.2.1 ∧ (d.2.2.2.2.2.2.2 = 1 ∨ bl d.2.2.2.2.2.2.2 = d.2.2.2.2.2.1) ∧ Red d.2.2.2.2.2.2.1 d.2.2.2.2.2.2.2) ∧
  (d.1 = 1 → ∃ v : Nat, v ≤ 2 ∧ d.2.1 = (v : Int) ∧ d.2.2.2.1 = 1) ∧
  (d.1 = 2 → ∃ a b : Nat, a < i ∧ b < i ∧ d.2.1 = (a : Int) ∧ d.2.2.1 = (b : Int) ∧ d.2.2.2.1 = max (gd L a).2.2.2.1 (gd L b).2.2.2.1 ∧ d.2.2.2.2.1 = 1 + max ((gd L a).2.2.2.2.1 + (gd L b).2.2.2.2.2.1) ((gd L b).2.2.2.2.1 + (gd L a).2.2.2.2.2.1) ∧ d.2.2.2.2.2.1 = (gd L a).2.2.2.2.2.1 + (gd L b).2.2.2.2.2.1) ∧
  (d.1 = 3 → ∃ a b : Nat, a < i ∧ b < i ∧ d.2.1 = (a : Int) ∧ d.2.2.1 = (b : Int) ∧ d.2.2.2.1 = (gd L a).2.2.2.1 + (gd L b).2.2.2.1 ∧ d.2.2.2.2.1 = (gd L a).2.2.2.2.1 + (gd L b).2.2.2.2.1 + 8 ∧ d.2.2.2.2.2.1 = (gd L a).2.2.2.2.2.1 + (gd L b).2.2.2.2.2.1) ∧
  (d.1 = 4 → ∃ a n : Nat, a < i ∧ 2 ≤ n ∧ n ≤ 9 ∧ d.2.1 = (a : Int) ∧ d.2.2.1 = (n : Int) ∧ (gd L a).1 ≠ 0 ∧ d.2.2.2.1 = n * (gd L a).2.2.2.1 ∧ d.2.2.2.2.1 = n * ((gd L a).2.2.2.2.1 + 8) ∧ d.2.2.2.2.2.1 = n * (gd L a).2.2.2.2.2.1)
def WFL (L : List PD) : Prop := ∀ i, i < L.length → WFD L i (gd L i)
theorem WFD.mono {L M : List PD} {i : Nat} {d : PD} (h : WFD L i d) (he : ∀ j, j < i → gd M j = gd L j) : WFD M i d := by
  obtain ⟨h1, h2, h3, h4, h5, h6, h7, h8, h9, h10, h11⟩ := h
  refine ⟨h1, h2, h3, h4, h5, h6, h7, h8, fun k => ?_, fun k => ?_, fun k => ?_⟩
  · obtain ⟨a, b, ha, hb, r⟩ := h9 k; exact ⟨a, b, ha, hb, by rw [he a ha, he b hb]; exact r⟩
  · obtain ⟨a, b, ha, hb, r⟩ := h10 k; exact ⟨a, b, ha, hb, by rw [he a ha, he b hb]; exact r⟩
  · obtain ⟨a, n, ha, r⟩ := h11 k; exact ⟨a, n, ha, by rw [he a ha]; exact r⟩
theorem WFL.keep {L : List PD} {d : PD} (h : WFL L) (hd : ¬ (8 < d.2.2.2.1 ∨ 400 < d.2.2.2.2.1 ∨ 400 < d.2.2.2.2.2.1) → WFD L L.length d) : WFL (keepL L d).2 := by
  unfold keepL
  split
  · exact h
  · rename_i hb
    split
    · exact h
    · split
      · exact h
      · intro i hi
        show WFD (L ++ [d]) i (gd (L ++ [d]) i)
        have hi' : i < L.length + 1 := by have : (L ++ [d]).length = L.length + 1 := by rw [List.length_append]; rfl
                                          show i < L.length + 1; rw [← this]; exact hi
        by_cases e : i = L.length
        · subst e; rw [gd_new]; exact (hd hb).mono (fun j hj => gd_app hj)
        · rw [gd_app (by omega)]; exact (h i (by omega)).mono (fun j hj => gd_app (by omega))
theorem MKP.neg {ad : Nat → Nat} {cA : Nat → ClassId} {g2 : Nat → va_E} {x : Nat → Int32} {pf : Nat → Int} {qf : Nat → Nat} {K : Int × List PD} {L : List PD} {pt : Nat → Nat → Int} {n : Int} (hK : K = (n, L)) (hn : n < 0 ∧ -4 ≤ n) (hF : RF ad cA g2 x pf qf) (hP : PTF cA g2 pt) (hM : MT L pt pf qf) (hl : L.length ≤ 200) (h3 : x 3 = nI L.length) (h4 : x 4 = iI n) : MKP ad cA g2 x x pf qf K (-1) pt pf qf := by
  subst hK
  exact ⟨hF, hP, hM, hl, h3, fun _ _ _ => rfl, fun _ _ _ => ⟨rfl, rfl⟩, Or.inr ⟨hn.1, hn.2, rfl, h4⟩⟩
theorem MT.same {L : List PD} {pt pt2 : Nat → Nat → Int} {pf pf2 : Nat → Int} {qf qf2 : Nat → Nat} (h : MT L pt pf qf) (hp : ∀ k i, i < L.length → pt2 k i = pt k i) (hf : ∀ i, i < L.length → pf2 i = pf i ∧ qf2 i = qf i) : MT L pt2 pf2 qf2 := by
  intro i hi
  obtain ⟨m0, m1, m2, m3, m4, m5, m6⟩ := h i hi
  rw [hp _ i hi, hp _ i hi, hp _ i hi, hp _ i hi, hp _ i hi, hp _ i hi, (hf i hi).1, (hf i hi).2]
  exact ⟨m0, m1, m2, m3, m4, m5, m6⟩
theorem MKP.base {ad : Nat → Nat} {cA : Nat → ClassId} {g2 : Nat → va_E} {x x1 x2 : Nat → Int32} {pf pf1 pf2 : Nat → Int} {qf qf1 qf2 : Nat → Nat} {K : Int × List PD} {pt : Nat → Nat → Int} {r : Int32} (h : MKP ad cA g2 x1 x2 pf1 qf1 K r pt pf2 qf2) (hx : ∀ j, j ≠ 3 → j ≠ 4 → x1 j = x j) (ho : ∀ f, 200 ≤ f → f < 1011 → pf1 f = pf f ∧ qf1 f = qf f) : MKP ad cA g2 x x2 pf qf K r pt pf2 qf2 := by
  obtain ⟨a, b, c, d, e, f, g, i⟩ := h
  exact ⟨a, b, c, d, e, fun j h3 h4 => (f j h3 h4).trans (hx j h3 h4), fun j h1 h2 => ⟨(g j h1 h2).1.trans (ho j h1 h2).1, (g j h1 h2).2.trans (ho j h1 h2).2⟩, i⟩
theorem k_ptb {pq pt : Nat → Nat → Int} {f0 f1 f2 f3 f4 f5 : Nat → Int} (h : pq = fun k => if k = 0 then f0 else if k = 1 then f1 else if k = 2 then f2 else if k = 3 then f3 else if k = 4 then f4 else if k = 5 then f5 else pt k) (h0 : ∀ j, -1 ≤ f0 j ∧ f0 j ≤ 20000) (h1 : ∀ j, -1 ≤ f1 j ∧ f1 j ≤ 20000) (h2 : ∀ j, -1 ≤ f2 j ∧ f2 j ≤ 20000) (h3 : ∀ j, -1 ≤ f3 j ∧ f3 j ≤ 20000) (h4 : ∀ j, -1 ≤ f4 j ∧ f4 j ≤ 20000) (h5 : ∀ j, -1 ≤ f5 j ∧ f5 j ≤ 20000) (hp : ∀ k j, -1 ≤ pt k j ∧ pt k j ≤ 20000) (k j : Nat) : -1 ≤ pq k j ∧ pq k j ≤ 20000 := by
  rw [h]; show -1 ≤ (if k = 0 then f0 else if k = 1 then f1 else if k = 2 then f2 else if k = 3 then f3 else if k = 4 then f4 else if k = 5 then f5 else pt k) j ∧ (if k = 0 then f0 else if k = 1 then f1 else if k = 2 then f2 else if k = 3 then f3 else if k = 4 then f4 else if k = 5 then f5 else pt k) j ≤ 20000
  split
  · exact h0 j
  · split
    · exact h1 j
    · split
      · exact h2 j
      · split
        · exact h3 j
        · split
          · exact h4 j
          · split
            · exact h5 j
            · exact hp k j
theorem k_pto {pq pt : Nat → Nat → Int} {n i k : Nat} {a0 a1 a2 a3 a4 a5 : Int} (h : pq = fun k => if k = 0 then va_up (pt 0) n a0 else if k = 1 then va_up (pt 1) n a1 else if k = 2 then va_up (pt 2) n a2 else if k = 3 then va_up (pt 3) n a3 else if k = 4 then va_up (pt 4) n a4 else if k = 5 then va_up (pt 5) n a5 else pt k) (hi : i < n) : pq k i = pt k i := by
  rw [h]
  show (if k = 0 then va_up (pt 0) n a0 else if k = 1 then va_up (pt 1) n a1 else if k = 2 then va_up (pt 2) n a2 else if k = 3 then va_up (pt 3) n a3 else if k = 4 then va_up (pt 4) n a4 else if k = 5 then va_up (pt 5) n a5 else pt k) i = pt k i
  split
  · rename_i e; subst e; exact va_up_ne _ _ (by omega)
  · split
    · rename_i e; subst e; exact va_up_ne _ _ (by omega)
    · split
      · rename_i e; subst e; exact va_up_ne _ _ (by omega)
      · split
        · rename_i e; subst e; exact va_up_ne _ _ (by omega)
        · split
          · rename_i e; subst e; exact va_up_ne _ _ (by omega)
          · split
            · rename_i e; subst e; exact va_up_ne _ _ (by omega)
            · rfl
theorem k_isf {p v : Int} {q : Nat} (h : ¬ (p = v ∧ q = 1)) : ((0 : Nat) == 0 && (p == v && q == 1)) = false := by
  by_cases h1 : p = v
  · have h2 : ¬ q = 1 := fun h2 => h ⟨h1, h2⟩
    simp [h2]
  · simp [h1]
end
