section
def wd_X10_reckon : List Cond := .code yX10_reckon cX10_reckon 6 (some .boolean) :: (([.methodLink RX10 266 yX10_noResult, .instanceMethod yX10_noResult, .selects RX10 yX10_noResult yX10_noResult, .initialized RX10, .fieldLink RX10 78 "GradientDeskModel" "thrown" "I", .methodLink RX10 136 yX10_copyFraction, .instanceMethod yX10_copyFraction, .selects RX10 yX10_copyFraction yX10_copyFraction, .methodLink RX10 143 yX10_timesFractions, .instanceMethod yX10_timesFractions, .selects RX10 yX10_timesFractions yX10_timesFractions, .methodLink RX10 117 yX10_bitsOf, .instanceMethod yX10_bitsOf, .selects RX10 yX10_bitsOf yX10_bitsOf, .methodLink RX10 171 yX10_addFractions, .instanceMethod yX10_addFractions, .selects RX10 yX10_addFractions yX10_addFractions, .fieldLink RX10 18 "GradientDeskModel" "below" "[Z", .fieldLink RX10 14 "GradientDeskModel" "length" "[I"] : List Cond) ++ (wd_X10_noResult ++ (u_ws RX10 TX10 29 ++ (wd_X10_copyFraction ++ (wd_X10_timesFractions ++ (wd_X10_bitsOf ++ (wd_X10_addFractions ++ ([]))))))))
theorem gw_X10_reckon : wd_X10_reckon.all goodWord = true := k_allc rfl (k_all (by decide +kernel) (k_all (gw_X10_noResult) (k_all (gu_X10) (k_all (gw_X10_copyFraction) (k_all (gw_X10_timesFractions) (k_all (gw_X10_bitsOf) (k_all (gw_X10_addFractions) (rfl))))))))
set_option maxHeartbeats 4000000 in
set_option maxRecDepth 100000 in
theorem c_X10_reckon (l : Launch) (dC : Nat → ClassId) (dI : Nat → Nat → Nat) (A : Nat → Prop) (ad : Nat → Nat) (cA : Nat → ClassId) (g : Nat → va_E) (x : Nat → Int32) (L : List PD) (nm : Nat → Int) (tx : Nat → Nat) (ty : Nat) (wr : List Int) (v : Int32) (w1 : Int32) (w2 : Int32) (w3 : Int32) (hI : RIE ad cA g x L nm tx ty wr) : Met l yX10_reckon wd_X10_reckon ({ frames := 80, cells := 0, slots := 0, locals := 1600 }) (va_Pc [.ref (ad 0), .int v, .int w1, .int w2, .int w3] (PR NSr tyr dC dI A ad cA g)) (va_Qi (fun (r : Int32) => fun (u : (Nat → va_E) × (Nat → Int32)) => match u with | (g2, x2) => RIE ad cA g2 x2 L nm tx ty wr ∧ x2 2 = x 2 ∧ (x2 0 = nI 0 ∨ x2 0 = nI 1 ∨ x2 0 = nI 2)) (fun (u : (Nat → va_E) × (Nat → Int32)) (t : State) => va_P (dC, dI) vwCl (wo ad NSr u.1) t.heap) A) (0) (0) A := by
  refine Met.ofW (cc := cX10_reckon) (maxL := 6) (ret := (some .boolean)) (by decide) rfl ?_
  intro p e s m args below meth c s₁ B hml hv
  obtain ⟨rfl, hA, hP, hL⟩ := hv
  have hx := B.exec
  have hb := B.bytes
  have hr := B.returns
  have hts := atoms_spec (ws := wd_X10_reckon) B.pre
  have hown : s.vm.findClass RX10 = some m.cls := findClass_of_methodNamed B.named
  have hlocks := B.notSynchronized
  have hK := hL.1
  have hD : ∀ g, va_D A (wo ad NSr g) := fun g => wo_D hL.2.1 hL.2.2 g
  have hS : va_S A s.heap s.heap [] := va_S.rf
  have bk0 : ∀ w ∈ wd_X10_noResult, w ∈ wd_X10_reckon := fun _ h => List.mem_cons_of_mem _ (List.mem_append_right _ (List.mem_append_left _ h))
  have bk1 : ∀ w ∈ u_ws RX10 TX10 29, w ∈ wd_X10_reckon := fun _ h => List.mem_cons_of_mem _ (List.mem_append_right _ (List.mem_append_right _ (List.mem_append_left _ h)))
  have bk2 : ∀ w ∈ wd_X10_copyFraction, w ∈ wd_X10_reckon := fun _ h => List.mem_cons_of_mem _ (List.mem_append_right _ (List.mem_append_right _ (List.mem_append_right _ (List.mem_append_left _ h))))
  have bk3 : ∀ w ∈ wd_X10_timesFractions, w ∈ wd_X10_reckon := fun _ h => List.mem_cons_of_mem _ (List.mem_append_right _ (List.mem_append_right _ (List.mem_append_right _ (List.mem_append_right _ (List.mem_append_left _ h)))))
  have bk4 : ∀ w ∈ wd_X10_bitsOf, w ∈ wd_X10_reckon := fun _ h => List.mem_cons_of_mem _ (List.mem_append_right _ (List.mem_append_right _ (List.mem_append_right _ (List.mem_append_right _ (List.mem_append_right _ (List.mem_append_left _ h))))))
  have bk5 : ∀ w ∈ wd_X10_addFractions, w ∈ wd_X10_reckon := fun _ h => List.mem_cons_of_mem _ (List.mem_append_right _ (List.mem_append_right _ (List.mem_append_right _ (List.mem_append_right _ (List.mem_append_right _ (List.mem_append_right _ (List.mem_append_left _ h)))))))
  have hl := lv_entry ([.ref (ad 0), .int v, .int w1, .int w2, .int w3]) (n := 6) (Nat.le_of_ble_eq_true rfl)
  rw [lg_entry_eq]
  generalize (lg_sl ([.ref (ad 0), .int v, .int w1, .int w2, .int w3]) ++ List.replicate (6 - (lg_sl ([.ref (ad 0), .int v, .int w1, .int w2, .int w3])).length) Slot.unset).toArray = ls at hl ⊢
  have hl : lv_has ls 6 [(0, .ref (ad 0)), (1, .int v), (2, .int w1), (3, .int w2), (4, .int w3)] := hl
  obtain ⟨pf, qf, pt, hI0⟩ := hI
  have hI1 := hI0
  obtain ⟨hF, hPt, hM, hW, hL2, hmd, hTx, hty, hty2, hwr, hwr2, hVO, hBd⟩ := hI1
  have hVO0 := hVO
  have hPt0 := hPt
  have hTx0 := hTx
  have hF0 := hF
  obtain ⟨vf, hV, hq⟩ := hF
  have hc_1 := hV
  obtain ⟨pnz_2, lnz_2, bnz_2, hRz_2, hvz_2⟩ := hc_1
  obtain ⟨r_3, r_4, r_5, r_6, r_7, r_8, r_9⟩ := hRz_2
  obtain ⟨p_10, p_11, p_12, p_13, p_14, p_15, hpt_16⟩ := hPt
  obtain ⟨t4, t4b, t11, t11b, t11c⟩ := hTx
  obtain ⟨⟨rc, v12, v12b⟩, ⟨f13, v13⟩, ⟨f14, v14⟩, ⟨f15, v15⟩, ⟨f16, v16⟩, ⟨f17, v17⟩, ⟨f18, v18⟩, ⟨f19, v19⟩⟩ := hVO
  refine lv_aload_n hx hb dX10_reckon_0 rfl (lv_at hl 0 rfl) ?_
  refine lv_aload_n hx hb dX10_reckon_1 rfl (lv_at hl 0 rfl) ?_
  refine lv_iload_n hx hb dX10_reckon_2 rfl (lv_at hl 2 rfl) ?_
  refine va_calli (va_runV (As := [.int w1]) (rest := [.ref (ad 0)]) ⟨hx, hb, hml, hown, hts⟩ (c_X10_noResult l dC dI A ad cA g w1 ) (cwV 1 hts (goodIn_app (goodIn_r [Cond.methodLink RX10 266 yX10_noResult, Cond.instanceMethod yX10_noResult, Cond.selects RX10 yX10_noResult yX10_noResult, Cond.initialized RX10] [1, 2, 3, 4] rfl rfl) (goodIn_sub (fun w9 h9 => bk0 w9 h9) gw_X10_noResult)) rfl rfl rfl (by decide +kernel) ⟨Nat.le_of_ble_eq_true rfl, Nat.le_of_ble_eq_true rfl⟩) ⟨fun a U g mk q => ⟨q.1, q.2.1, q.2.2.1, LY.moved (u := U) (U := U.calling g mk a) (Vm.Alike.refl U.vm) q.2.2.2⟩, va_recv hK hP (ci := 13) (q0 := 0) rfl (wo_at (by decide) r_3), fun U hU hW => ⟨rfl, by rw [hU]; exact fun q h => hA q (Nat.le_trans hS.1 h), by rw [hU]; exact hP, LY.moved hW.alike hL⟩⟩ rfl rfl hl.1 rfl (lv_room (Nat.le_of_ble_eq_true rfl)) dX10_reckon_3 ⟨(Nat.le_of_ble_eq_true rfl), (Nat.le_of_ble_eq_true rfl)⟩) hS (fun q _ h => h) (fun q h => h) (fun r_17 u8 t8 H1 locs ht8 hvm8 hw_18 hB hz1 hk1 hS => ?_)
  obtain ⟨⟩ := u8
  try dsimp only at hw_18 hB
  rw [ht8] at hB
  have hP := hB
  generalize H1 = H at hP hS ⊢
  rcases hw_18 with ⟨rfl, hnrw1⟩ | ⟨rfl, hnrw1⟩
  · skip
    refine lv_if_ne (tgt := 26) hx hb dX10_reckon_6 (by decide) (fun c_19 => absurd c_19 (by decide)) (fun c_19 => ?_)
    refine lv_aload_n hx hb dX10_reckon_9 rfl (lv_at hl 0 rfl) ?_
    refine lv_iload_n hx hb dX10_reckon_10 rfl (lv_at hl 3 rfl) ?_
    refine va_calli (va_runV (As := [.int w2]) (rest := [.ref (ad 0)]) ⟨hx, hb, hml, hown, hts⟩ (c_X10_noResult l dC dI A ad cA g w2 ) (cwV 1 hts (goodIn_app (goodIn_r [Cond.methodLink RX10 266 yX10_noResult, Cond.instanceMethod yX10_noResult, Cond.selects RX10 yX10_noResult yX10_noResult, Cond.initialized RX10] [1, 2, 3, 4] rfl rfl) (goodIn_sub (fun w9 h9 => bk0 w9 h9) gw_X10_noResult)) rfl rfl rfl (by decide +kernel) ⟨Nat.le_of_ble_eq_true rfl, Nat.le_of_ble_eq_true rfl⟩) ⟨fun a U g mk q => ⟨q.1, q.2.1, q.2.2.1, LY.moved (u := U) (U := U.calling g mk a) (Vm.Alike.refl U.vm) q.2.2.2⟩, va_recv hK hP (ci := 13) (q0 := 0) rfl (wo_at (by decide) r_3), fun U hU hW => ⟨rfl, by rw [hU]; exact fun q h => hA q (Nat.le_trans hS.1 h), by rw [hU]; exact hP, LY.moved hW.alike hL⟩⟩ rfl rfl hl.1 rfl (lv_room (Nat.le_of_ble_eq_true rfl)) dX10_reckon_11 ⟨(Nat.le_of_ble_eq_true rfl), (Nat.le_of_ble_eq_true rfl)⟩) hS (fun q _ h => h) (fun q h => h) (fun r_20 u8 t8 H1 locs ht8 hvm8 hw_21 hB hz1 hk1 hS => ?_)
    obtain ⟨⟩ := u8
    try dsimp only at hw_21 hB
    rw [ht8] at hB
    have hP := hB
    generalize H1 = H at hP hS ⊢
    rcases hw_21 with ⟨rfl, hnrw2⟩ | ⟨rfl, hnrw2⟩
    · skip
      refine lv_if_ne (tgt := 26) hx hb dX10_reckon_14 (by decide) (fun c_22 => absurd c_22 (by decide)) (fun c_22 => ?_)
      refine lv_aload_n hx hb dX10_reckon_17 rfl (lv_at hl 0 rfl) ?_
      refine lv_iload hx hb dX10_reckon_18 (lv_at hl 4 rfl) ?_
      refine va_calli (va_runV (As := [.int w3]) (rest := [.ref (ad 0)]) ⟨hx, hb, hml, hown, hts⟩ (c_X10_noResult l dC dI A ad cA g w3 ) (cwV 1 hts (goodIn_app (goodIn_r [Cond.methodLink RX10 266 yX10_noResult, Cond.instanceMethod yX10_noResult, Cond.selects RX10 yX10_noResult yX10_noResult, Cond.initialized RX10] [1, 2, 3, 4] rfl rfl) (goodIn_sub (fun w9 h9 => bk0 w9 h9) gw_X10_noResult)) rfl rfl rfl (by decide +kernel) ⟨Nat.le_of_ble_eq_true rfl, Nat.le_of_ble_eq_true rfl⟩) ⟨fun a U g mk q => ⟨q.1, q.2.1, q.2.2.1, LY.moved (u := U) (U := U.calling g mk a) (Vm.Alike.refl U.vm) q.2.2.2⟩, va_recv hK hP (ci := 13) (q0 := 0) rfl (wo_at (by decide) r_3), fun U hU hW => ⟨rfl, by rw [hU]; exact fun q h => hA q (Nat.le_trans hS.1 h), by rw [hU]; exact hP, LY.moved hW.alike hL⟩⟩ rfl rfl hl.1 rfl (lv_room (Nat.le_of_ble_eq_true rfl)) dX10_reckon_20 ⟨(Nat.le_of_ble_eq_true rfl), (Nat.le_of_ble_eq_true rfl)⟩) hS (fun q _ h => h) (fun q h => h) (fun r_23 u8 t8 H1 locs ht8 hvm8 hw_24 hB hz1 hk1 hS => ?_)
      obtain ⟨⟩ := u8
      try dsimp only at hw_24 hB
      rw [ht8] at hB
      have hP := hB
      generalize H1 = H at hP hS ⊢
      rcases hw_24 with ⟨rfl, hnrw3⟩ | ⟨rfl, hnrw3⟩
      · skip
        refine lv_if_eq (tgt := 30) hx hb dX10_reckon_23 (by decide) (fun c_25 => ?_) (fun c_25 => absurd c_25 (by decide))
        refine lv_iload_n hx hb dX10_reckon_30 rfl (lv_at hl 1 rfl) ?_
        refine lv_if_lt (tgt := 39) hx hb dX10_reckon_31 (by decide) (fun c_26 => ?_) (fun c_26 => ?_)
        · have c_26 := (k_lt v (nI 0)).mp c_26
          rw [show (nI 0).toInt = 0 from by decide] at c_26
          refine lv_iconst (v := nI 2) hx hb dX10_reckon_39 (by decide +kernel) ?_
          refine lv_goto (tgt := 44) hx hb dX10_reckon_40 (by decide) ?_
          refine m_put (D := (dC, dI)) (v := .int (nI 2)) (tv := .int) (C := RX10) (T := TX10) (N := 29) hx hb hts bk1 tyX10 tyX10_ok nmX10 hown hK hP hD hS 0 (by decide) r_3 rfl 0 (by decide) (hts (.fieldLink RX10 78 "GradientDeskModel" "thrown" "I") (List.mem_of_getElem? (i := 5) rfl)) (fun _ h9 => h9) rfl (by decide +kernel) rfl rfl (Nat.le_of_ble_eq_true rfl) dX10_reckon_44 (fun H locs g_27 f_28 fr_29 hP hS => ?_)
          have f_28 : g_27 0 = .inr (13, Rob ad (va_up x 0 (nI 2))) := f_28
          refine lv_aload_n hx hb dX10_reckon_47 rfl (lv_at hl 0 rfl) ?_
          refine m_get (D := (dC, dI)) (v := .int (nI 2)) (C := RX10) (T := TX10) (N := 29) hx hb hts bk1 hown hK hP 0 (by decide) f_28 rfl 0 (by decide) (hts (.fieldLink RX10 78 "GradientDeskModel" "thrown" "I") (List.mem_of_getElem? (i := 5) rfl)) (fun _ h9 => h9) (congrArg (fun z => some (Value.int z)) (show (va_up x 0 (nI 2)) 0 = (nI 2) from rfl)) dX10_reckon_48 ?_
          refine lv_if_le (tgt := 56) hx hb dX10_reckon_51 (by decide) (fun c_30 => absurd c_30 (by decide)) (fun c_30 => ?_)
          refine lv_iconst (v := nI 0) hx hb dX10_reckon_54 (by decide +kernel) ?_
          refine W.widen (k := 0) (n := 0) (by omega) (by omega) ?_
          exact W.zret (v := nI 0) hx hb hr (by decide +kernel) (fun t9 ht9 hW9 => ⟨⟨nI 0, (g_27, va_up x 0 (nI 2)), rfl, ⟨RI.num hI0 (hF0.setx (fun (k : Nat) (hk : k = 1 ∨ k = 2 ∨ k = 3) => (fr_29 k (by omega)).trans (rfl)) f_28 rfl) (fun (k : Nat) (hk : (4 ≤ k ∧ k ≤ 11) ∨ k = 16) => (fr_29 k (by omega)).trans (rfl)) (hVO0.same (fun (k : Nat) (hk : 12 ≤ k ∧ k ≤ 19) => (fr_29 k (by omega)).trans (rfl))) (va_up_ne _ _ (by decide)) (va_up_ne _ _ (by decide)) (va_up_ne _ _ (by decide)) (fun _ _ => ⟨rfl, rfl⟩) hBd, (va_up_ne _ _ (by decide)), Or.inr (Or.inr (va_up_self _ _ _))⟩, by show va_P (dC, dI) vwCl _ t9.heap; rw [ht9]; exact hP⟩, hS.F ht9⟩) hS.2.2 dX10_reckon_55
        · have c_26 := mt (k_lt v (nI 0)).mpr c_26
          rw [show (nI 0).toInt = 0 from by decide] at c_26
          refine lv_iload_n hx hb dX10_reckon_34 rfl (lv_at hl 1 rfl) ?_
          refine lv_iconst (v := nI 2) hx hb dX10_reckon_35 (by decide +kernel) ?_
          refine lv_icmp_le (tgt := 43) hx hb dX10_reckon_36 (by decide) (fun c_31 => ?_) (fun c_31 => ?_)
          · have c_31 := (k_le v (nI 2)).mp c_31
            rw [show (nI 2).toInt = 2 from by decide] at c_31
            refine lv_iconst (v := nI 0) hx hb dX10_reckon_43 (by decide +kernel) ?_
            refine m_put (D := (dC, dI)) (v := .int (nI 0)) (tv := .int) (C := RX10) (T := TX10) (N := 29) hx hb hts bk1 tyX10 tyX10_ok nmX10 hown hK hP hD hS 0 (by decide) r_3 rfl 0 (by decide) (hts (.fieldLink RX10 78 "GradientDeskModel" "thrown" "I") (List.mem_of_getElem? (i := 5) rfl)) (fun _ h9 => h9) rfl (by decide +kernel) rfl rfl (Nat.le_of_ble_eq_true rfl) dX10_reckon_44 (fun H locs g_32 f_33 fr_34 hP hS => ?_)
            have f_33 : g_32 0 = .inr (13, Rob ad (va_up x 0 (nI 0))) := f_33
            refine lv_aload_n hx hb dX10_reckon_47 rfl (lv_at hl 0 rfl) ?_
            refine m_get (D := (dC, dI)) (v := .int (nI 0)) (C := RX10) (T := TX10) (N := 29) hx hb hts bk1 hown hK hP 0 (by decide) f_33 rfl 0 (by decide) (hts (.fieldLink RX10 78 "GradientDeskModel" "thrown" "I") (List.mem_of_getElem? (i := 5) rfl)) (fun _ h9 => h9) (congrArg (fun z => some (Value.int z)) (show (va_up x 0 (nI 0)) 0 = (nI 0) from rfl)) dX10_reckon_48 ?_
            refine lv_if_le (tgt := 56) hx hb dX10_reckon_51 (by decide) (fun c_35 => ?_) (fun c_35 => absurd c_35 (by decide))
            obtain ⟨on, hon, eon, -⟩ := k_nat (x := v) (by omega)
            subst hon
            obtain ⟨tn, htn, etn, -⟩ := k_nat (x := w1) (by omega)
            subst htn
            obtain ⟨an, han, ean, -⟩ := k_nat (x := w2) (by omega)
            subst han
            obtain ⟨cn, hcn, ecn, -⟩ := k_nat (x := w3) (by omega)
            subst hcn
            refine lv_aload_n hx hb dX10_reckon_56 rfl (lv_at hl 0 rfl) ?_
            refine lv_sipush (v := nI 1012) hx hb dX10_reckon_57 (by decide +kernel) ?_
            refine lv_sipush (v := nI 1000) hx hb dX10_reckon_60 (by decide +kernel) ?_
            refine lv_iload_n hx hb dX10_reckon_63 rfl (lv_at hl 3 rfl) ?_
            refine lv_iadd hx hb dX10_reckon_64 ?_
            refine lv_topi (fun x_36 e_37 => ?_)
            obtain rfl : x_36 = nI (1000 + an) := e_37.trans (nI_add 1000 an)
            have hF1 : RF ad cA g_32 (va_up x 0 (nI 0)) pf qf := hF0.setx (fun (k : Nat) (hk : k = 1 ∨ k = 2 ∨ k = 3) => (fr_34 k (by omega)).trans (rfl)) f_33 rfl
            refine va_callv (va_runV (As := [.int (nI 1012), .int (nI (1000 + an))]) (rest := []) ⟨hx, hb, hml, hown, hts⟩ (c_X10_copyFraction l dC dI A ad cA g_32 (va_up x 0 (nI 0)) pf qf 1012 (1000 + an) hF1 (by decide) (by omega)) (cwV 2 hts (goodIn_app (goodIn_r [Cond.methodLink RX10 136 yX10_copyFraction, Cond.instanceMethod yX10_copyFraction, Cond.selects RX10 yX10_copyFraction yX10_copyFraction, Cond.initialized RX10] [6, 7, 8, 4] rfl rfl) (goodIn_sub (fun w9 h9 => bk2 w9 h9) gw_X10_copyFraction)) rfl rfl rfl (by decide +kernel) ⟨Nat.le_of_ble_eq_true rfl, Nat.le_of_ble_eq_true rfl⟩) ⟨fun a U g mk q => ⟨q.1, q.2.1, q.2.2.1, LY.moved (u := U) (U := U.calling g mk a) (Vm.Alike.refl U.vm) q.2.2.2⟩, va_recv hK hP (ci := 13) (q0 := 0) rfl (wo_at (by decide) f_33), fun U hU hW => ⟨rfl, by rw [hU]; exact fun q h => hA q (Nat.le_trans hS.1 h), by rw [hU]; exact hP, LY.moved hW.alike hL⟩⟩ rfl rfl hl.1 rfl (lv_room (Nat.le_of_ble_eq_true rfl)) dX10_reckon_65 ⟨(Nat.le_of_ble_eq_true rfl), (Nat.le_of_ble_eq_true rfl)⟩) hS (fun q _ h => h) (fun q h => h) (fun u8 t8 H1 locs ht8 hvm8 hw_38 hB hz1 hk1 hS => ?_)
            obtain ⟨g_39, rfl⟩ : ∃ z, z = u8 := ⟨_, rfl⟩
            try dsimp only at hw_38 hB
            rw [ht8] at hB
            have hP := hB
            generalize H1 = H at hP hS ⊢
            obtain ⟨fr_40, hF2⟩ := hw_38
            refine lv_aload_n hx hb dX10_reckon_68 rfl (lv_at hl 0 rfl) ?_
            refine lv_sipush (v := nI 1013) hx hb dX10_reckon_69 (by decide +kernel) ?_
            refine lv_sipush (v := nI 1000) hx hb dX10_reckon_72 (by decide +kernel) ?_
            refine lv_iload hx hb dX10_reckon_75 (lv_at hl 4 rfl) ?_
            refine lv_iadd hx hb dX10_reckon_77 ?_
            refine lv_topi (fun x_41 e_42 => ?_)
            obtain rfl : x_41 = nI (1000 + cn) := e_42.trans (nI_add 1000 cn)
            have f_43 : g_39 0 = .inr (13, Rob ad (va_up x 0 (nI 0))) := (fr_40 0 (by omega)).trans f_33
            refine va_callv (va_runV (As := [.int (nI 1013), .int (nI (1000 + cn))]) (rest := []) ⟨hx, hb, hml, hown, hts⟩ (c_X10_copyFraction l dC dI A ad cA g_39 (va_up x 0 (nI 0)) (va_up pf 1012 (pf (1000 + an))) (va_up qf 1012 (qf (1000 + an))) 1013 (1000 + cn) hF2 (by decide) (by omega)) (cwV 2 hts (goodIn_app (goodIn_r [Cond.methodLink RX10 136 yX10_copyFraction, Cond.instanceMethod yX10_copyFraction, Cond.selects RX10 yX10_copyFraction yX10_copyFraction, Cond.initialized RX10] [6, 7, 8, 4] rfl rfl) (goodIn_sub (fun w9 h9 => bk2 w9 h9) gw_X10_copyFraction)) rfl rfl rfl (by decide +kernel) ⟨Nat.le_of_ble_eq_true rfl, Nat.le_of_ble_eq_true rfl⟩) ⟨fun a U g mk q => ⟨q.1, q.2.1, q.2.2.1, LY.moved (u := U) (U := U.calling g mk a) (Vm.Alike.refl U.vm) q.2.2.2⟩, va_recv hK hP (ci := 13) (q0 := 0) rfl (wo_at (by decide) f_43), fun U hU hW => ⟨rfl, by rw [hU]; exact fun q h => hA q (Nat.le_trans hS.1 h), by rw [hU]; exact hP, LY.moved hW.alike hL⟩⟩ rfl rfl hl.1 rfl (lv_room (Nat.le_of_ble_eq_true rfl)) dX10_reckon_78 ⟨(Nat.le_of_ble_eq_true rfl), (Nat.le_of_ble_eq_true rfl)⟩) hS (fun q _ h => h) (fun q h => h) (fun u8 t8 H1 locs ht8 hvm8 hw_44 hB hz1 hk1 hS => ?_)
            obtain ⟨g_45, rfl⟩ : ∃ z, z = u8 := ⟨_, rfl⟩
            try dsimp only at hw_44 hB
            rw [ht8] at hB
            have hP := hB
            generalize H1 = H at hP hS ⊢
            obtain ⟨fr_46, hF3⟩ := hw_44
            obtain ⟨p3, hp3⟩ : ∃ z9, z9 = va_up (va_up pf 1012 (pf (1000 + an))) 1013 ((va_up pf 1012 (pf (1000 + an))) (1000 + cn)) := ⟨_, rfl⟩
            obtain ⟨q3, hq3⟩ : ∃ z9, z9 = va_up (va_up qf 1012 (qf (1000 + an))) 1013 ((va_up qf 1012 (qf (1000 + an))) (1000 + cn)) := ⟨_, rfl⟩
            rw [← hp3, ← hq3] at hF3
            have b12 : (p3 1012).natAbs < 2 ^ 1000 ∧ q3 1012 < 2 ^ 1000 := by rw [show p3 1012 = pf (1000 + an) by rw [hp3]; exact (va_up_ne _ _ (by decide)).trans (va_up_self _ _ _), show q3 1012 = qf (1000 + an) by rw [hq3]; exact (va_up_ne _ _ (by decide)).trans (va_up_self _ _ _)]; exact hBd.1 an (by omega)
            have b13 : (p3 1013).natAbs < 2 ^ 1000 ∧ q3 1013 < 2 ^ 1000 := by rw [show p3 1013 = pf (1000 + cn) by rw [hp3]; exact (va_up_self _ _ _).trans (va_up_ne _ _ (by omega)), show q3 1013 = qf (1000 + cn) by rw [hq3]; exact (va_up_self _ _ _).trans (va_up_ne _ _ (by omega))]; exact hBd.1 cn (by omega)
            have hO3 : ∀ f, f ≠ 1012 → f ≠ 1013 → p3 f = pf f ∧ q3 f = qf f := fun f h1 h2 => by rw [hp3, hq3, va_up_ne _ _ h2, va_up_ne _ _ h2, va_up_ne _ _ h1, va_up_ne _ _ h1]; exact ⟨rfl, rfl⟩
            refine lv_iload_n hx hb dX10_reckon_81 rfl (lv_at hl 1 rfl) ?_
            refine lv_iconst (v := nI 1) hx hb dX10_reckon_82 (by decide +kernel) ?_
            refine lv_icmp_ne (tgt := 121) hx hb dX10_reckon_83 (by decide) (fun c_47 => ?_) (fun c_47 => ?_)
            · have c_47 := mt (nI_eq (a := on) (b := 1) (by omega) (by decide)).mpr c_47
              refine lv_iload_n hx hb dX10_reckon_121 rfl (lv_at hl 1 rfl) ?_
              refine lv_iconst (v := nI 2) hx hb dX10_reckon_122 (by decide +kernel) ?_
              refine lv_icmp_ge (tgt := 142) hx hb dX10_reckon_123 (by decide) (fun c_48 => ?_) (fun c_48 => ?_)
              · have c_48 := (nI_leI (a := 2) (b := on) (by decide) (by omega)).mp c_48
                refine lv_aload_n hx hb dX10_reckon_142 rfl (lv_at hl 0 rfl) ?_
                refine lv_sipush (v := nI 1015) hx hb dX10_reckon_143 (by decide +kernel) ?_
                refine lv_sipush (v := nI 1012) hx hb dX10_reckon_146 (by decide +kernel) ?_
                refine lv_sipush (v := nI 1013) hx hb dX10_reckon_149 (by decide +kernel) ?_
                have f_49 : g_45 0 = .inr (13, Rob ad (va_up x 0 (nI 0))) := (fr_46 0 (by omega)).trans f_43
                refine va_callv (va_runV (As := [.int (nI 1015), .int (nI 1012), .int (nI 1013)]) (rest := []) ⟨hx, hb, hml, hown, hts⟩ (c_X10_timesFractions l dC dI A ad cA g_45 (va_up x 0 (nI 0)) p3 q3 1015 1012 1013 hF3 (by decide) (by decide) (by decide) (k_1012 b12) (k_1012 b13)) (cwV 3 hts (goodIn_app (goodIn_r [Cond.methodLink RX10 143 yX10_timesFractions, Cond.instanceMethod yX10_timesFractions, Cond.selects RX10 yX10_timesFractions yX10_timesFractions, Cond.initialized RX10] [9, 10, 11, 4] rfl rfl) (goodIn_sub (fun w9 h9 => bk3 w9 h9) gw_X10_timesFractions)) rfl rfl rfl (by decide +kernel) ⟨Nat.le_of_ble_eq_true rfl, Nat.le_of_ble_eq_true rfl⟩) ⟨fun a U g mk q => ⟨q.1, q.2.1, q.2.2.1, LY.moved (u := U) (U := U.calling g mk a) (Vm.Alike.refl U.vm) q.2.2.2⟩, va_recv hK hP (ci := 13) (q0 := 0) rfl (wo_at (by decide) f_49), fun U hU hW => ⟨rfl, by rw [hU]; exact fun q h => hA q (Nat.le_trans hS.1 h), by rw [hU]; exact hP, LY.moved hW.alike hL⟩⟩ rfl rfl hl.1 rfl (lv_room (Nat.le_of_ble_eq_true rfl)) dX10_reckon_152 ⟨(Nat.le_of_ble_eq_true rfl), (Nat.le_of_ble_eq_true rfl)⟩) hS (fun q _ h => h) (fun q h => h) (fun u8 t8 H1 locs ht8 hvm8 hw_50 hB hz1 hk1 hS => ?_)
                obtain ⟨g_51, pf2_52, qf2_53⟩ := u8
                try dsimp only at hw_50 hB
                rw [ht8] at hB
                have hP := hB
                generalize H1 = H at hP hS ⊢
                obtain ⟨fr_54, hF5, -, -, ho5⟩ := hw_50
                have hO5 : ∀ f, f < 1012 → pf2_52 f = pf f ∧ qf2_53 f = qf f := fun f hf => ⟨(ho5 f (by omega) (by omega)).1.trans (hO3 f (by omega) (by omega)).1, (ho5 f (by omega) (by omega)).2.trans (hO3 f (by omega) (by omega)).2⟩
                have hF5c := hF5
                obtain ⟨vf5, hV5, hw5⟩ := hF5c
                have e51 : (vf5 2030).natAbs = (pf2_52 1015).natAbs := congrArg Int.natAbs (hw5 1015 (by decide)).1
                have e52 : (vf5 2031).natAbs = qf2_53 1015 := by have h9 : vf5 2031 = ((qf2_53 1015 : Nat) : Int) := (hw5 1015 (by decide)).2.1; omega
                refine lv_aload_n hx hb dX10_reckon_155 rfl (lv_at hl 0 rfl) ?_
                refine lv_sipush (v := nI 2030) hx hb dX10_reckon_156 (by decide +kernel) ?_
                have f_55 : g_51 0 = .inr (13, Rob ad (va_up x 0 (nI 0))) := (fr_54 0 (by omega)).trans f_49
                refine va_calli (va_runV (As := [.int (nI 2030)]) (rest := []) ⟨hx, hb, hml, hown, hts⟩ (c_X10_bitsOf l dC dI A ad cA g_51 (va_up x 0 (nI 0)) vf5 2030 hV5 (by decide)) (cwV 1 hts (goodIn_app (goodIn_r [Cond.methodLink RX10 117 yX10_bitsOf, Cond.instanceMethod yX10_bitsOf, Cond.selects RX10 yX10_bitsOf yX10_bitsOf, Cond.initialized RX10] [12, 13, 14, 4] rfl rfl) (goodIn_sub (fun w9 h9 => bk4 w9 h9) gw_X10_bitsOf)) rfl rfl rfl (by decide +kernel) ⟨Nat.le_of_ble_eq_true rfl, Nat.le_of_ble_eq_true rfl⟩) ⟨fun a U g mk q => ⟨q.1, q.2.1, q.2.2.1, LY.moved (u := U) (U := U.calling g mk a) (Vm.Alike.refl U.vm) q.2.2.2⟩, va_recv hK hP (ci := 13) (q0 := 0) rfl (wo_at (by decide) f_55), fun U hU hW => ⟨rfl, by rw [hU]; exact fun q h => hA q (Nat.le_trans hS.1 h), by rw [hU]; exact hP, LY.moved hW.alike hL⟩⟩ rfl rfl hl.1 rfl (lv_room (Nat.le_of_ble_eq_true rfl)) dX10_reckon_159 ⟨(Nat.le_of_ble_eq_true rfl), (Nat.le_of_ble_eq_true rfl)⟩) hS (fun q _ h => h) (fun q h => h) (fun r_56 u8 t8 H1 locs ht8 hvm8 hw_57 hB hz1 hk1 hS => ?_)
                obtain ⟨⟩ := u8
                try dsimp only at hw_57 hB
                rw [ht8] at hB
                have hP := hB
                generalize H1 = H at hP hS ⊢
                obtain rfl := hw_57
                rw [e51]
                obtain ⟨bp, hbp⟩ : ∃ z9, z9 = bl (pf2_52 1015).natAbs := ⟨_, rfl⟩
                rw [← hbp]
                have lbp : bp ≤ 2560 := by rw [hbp, ← e51]; obtain ⟨pn8, ln8, bn8, -, hv8⟩ := hV5; exact bl_le.mpr (by have h8 := (hv8 2030 (by decide)).lt80; rw [pw_two] at h8; exact h8)
                refine lv_sipush (v := nI 1000) hx hb dX10_reckon_162 (by decide +kernel) ?_
                refine lv_icmp_gt (tgt := 185) hx hb dX10_reckon_165 (by decide) (fun c_58 => ?_) (fun c_58 => ?_)
                · have c_58 := (nI_ltI (a := 1000) (b := bp) (by decide) (by omega)).mp c_58
                  refine lv_iconst (v := nI 0) hx hb dX10_reckon_185 (by decide +kernel) ?_
                  refine lv_istore (lv' := [(5, .int (nI 0)), (0, .ref (ad 0)), (1, .int (nI on)), (2, .int (nI tn)), (3, .int (nI an)), (4, .int (nI cn))]) hx hb dX10_reckon_186 hl (by decide) rfl (fun ls hl => ?_)
                  refine lv_iload hx hb dX10_reckon_188 (lv_at hl 0 rfl) ?_
                  refine lv_if_eq (tgt := 205) hx hb dX10_reckon_190 (by decide) (fun c_59 => ?_) (fun c_59 => absurd c_59 (by decide))
                  refine lv_iload hx hb dX10_reckon_205 (lv_at hl 0 rfl) ?_
                  refine W.widen (k := 0) (n := 0) (by omega) (by omega) ?_
                  exact W.zret (v := nI 0) hx hb hr (by decide +kernel) (fun t9 ht9 hW9 => ⟨⟨nI 0, (g_51, va_up x 0 (nI 0)), rfl, ⟨RI.num hI0 hF5 (fun (k : Nat) (hk : (4 ≤ k ∧ k ≤ 11) ∨ k = 16) => (fr_54 k (by omega)).trans ((fr_46 k (by omega)).trans ((fr_40 k (by omega)).trans ((fr_34 k (by omega)).trans (rfl))))) (hVO0.same (fun (k : Nat) (hk : 12 ≤ k ∧ k ≤ 19) => (fr_54 k (by omega)).trans ((fr_46 k (by omega)).trans ((fr_40 k (by omega)).trans ((fr_34 k (by omega)).trans (rfl)))))) (va_up_ne _ _ (by decide)) (va_up_ne _ _ (by decide)) (va_up_ne _ _ (by decide)) (fun f hf => hO5 f (by omega)) (hBd.res (fun r9 h9 => Or.inl (hO5 _ (by omega))) (fun v9 h9 => Or.inl (hO5 _ (by omega)))), (va_up_ne _ _ (by decide)), Or.inl (va_up_self _ _ _)⟩, by show va_P (dC, dI) vwCl _ t9.heap; rw [ht9]; exact hP⟩, hS.F ht9⟩) hS.2.2 dX10_reckon_207
                · have c_58 := mt (nI_ltI (a := 1000) (b := bp) (by decide) (by omega)).mpr c_58
                  refine lv_aload_n hx hb dX10_reckon_168 rfl (lv_at hl 0 rfl) ?_
                  refine lv_sipush (v := nI 2031) hx hb dX10_reckon_169 (by decide +kernel) ?_
                  refine va_calli (va_runV (As := [.int (nI 2031)]) (rest := []) ⟨hx, hb, hml, hown, hts⟩ (c_X10_bitsOf l dC dI A ad cA g_51 (va_up x 0 (nI 0)) vf5 2031 hV5 (by decide)) (cwV 1 hts (goodIn_app (goodIn_r [Cond.methodLink RX10 117 yX10_bitsOf, Cond.instanceMethod yX10_bitsOf, Cond.selects RX10 yX10_bitsOf yX10_bitsOf, Cond.initialized RX10] [12, 13, 14, 4] rfl rfl) (goodIn_sub (fun w9 h9 => bk4 w9 h9) gw_X10_bitsOf)) rfl rfl rfl (by decide +kernel) ⟨Nat.le_of_ble_eq_true rfl, Nat.le_of_ble_eq_true rfl⟩) ⟨fun a U g mk q => ⟨q.1, q.2.1, q.2.2.1, LY.moved (u := U) (U := U.calling g mk a) (Vm.Alike.refl U.vm) q.2.2.2⟩, va_recv hK hP (ci := 13) (q0 := 0) rfl (wo_at (by decide) f_55), fun U hU hW => ⟨rfl, by rw [hU]; exact fun q h => hA q (Nat.le_trans hS.1 h), by rw [hU]; exact hP, LY.moved hW.alike hL⟩⟩ rfl rfl hl.1 rfl (lv_room (Nat.le_of_ble_eq_true rfl)) dX10_reckon_172 ⟨(Nat.le_of_ble_eq_true rfl), (Nat.le_of_ble_eq_true rfl)⟩) hS (fun q _ h => h) (fun q h => h) (fun r_60 u8 t8 H1 locs ht8 hvm8 hw_61 hB hz1 hk1 hS => ?_)
                  obtain ⟨⟩ := u8
                  try dsimp only at hw_61 hB
                  rw [ht8] at hB
                  have hP := hB
                  generalize H1 = H at hP hS ⊢
                  obtain rfl := hw_61
                  rw [e52]
                  obtain ⟨bq, hbq⟩ : ∃ z9, z9 = bl (qf2_53 1015) := ⟨_, rfl⟩
                  rw [← hbq]
                  have lbq : bq ≤ 2560 := by rw [hbq, ← e52]; obtain ⟨pn8, ln8, bn8, -, hv8⟩ := hV5; exact bl_le.mpr (by have h8 := (hv8 2031 (by decide)).lt80; rw [pw_two] at h8; exact h8)
                  refine lv_sipush (v := nI 1000) hx hb dX10_reckon_175 (by decide +kernel) ?_
                  refine lv_icmp_gt (tgt := 185) hx hb dX10_reckon_178 (by decide) (fun c_62 => ?_) (fun c_62 => ?_)
                  · have c_62 := (nI_ltI (a := 1000) (b := bq) (by decide) (by omega)).mp c_62
                    refine lv_iconst (v := nI 0) hx hb dX10_reckon_185 (by decide +kernel) ?_
                    refine lv_istore (lv' := [(5, .int (nI 0)), (0, .ref (ad 0)), (1, .int (nI on)), (2, .int (nI tn)), (3, .int (nI an)), (4, .int (nI cn))]) hx hb dX10_reckon_186 hl (by decide) rfl (fun ls hl => ?_)
                    refine lv_iload hx hb dX10_reckon_188 (lv_at hl 0 rfl) ?_
                    refine lv_if_eq (tgt := 205) hx hb dX10_reckon_190 (by decide) (fun c_63 => ?_) (fun c_63 => absurd c_63 (by decide))
                    refine lv_iload hx hb dX10_reckon_205 (lv_at hl 0 rfl) ?_
                    refine W.widen (k := 0) (n := 0) (by omega) (by omega) ?_
                    exact W.zret (v := nI 0) hx hb hr (by decide +kernel) (fun t9 ht9 hW9 => ⟨⟨nI 0, (g_51, va_up x 0 (nI 0)), rfl, ⟨RI.num hI0 hF5 (fun (k : Nat) (hk : (4 ≤ k ∧ k ≤ 11) ∨ k = 16) => (fr_54 k (by omega)).trans ((fr_46 k (by omega)).trans ((fr_40 k (by omega)).trans ((fr_34 k (by omega)).trans (rfl))))) (hVO0.same (fun (k : Nat) (hk : 12 ≤ k ∧ k ≤ 19) => (fr_54 k (by omega)).trans ((fr_46 k (by omega)).trans ((fr_40 k (by omega)).trans ((fr_34 k (by omega)).trans (rfl)))))) (va_up_ne _ _ (by decide)) (va_up_ne _ _ (by decide)) (va_up_ne _ _ (by decide)) (fun f hf => hO5 f (by omega)) (hBd.res (fun r9 h9 => Or.inl (hO5 _ (by omega))) (fun v9 h9 => Or.inl (hO5 _ (by omega)))), (va_up_ne _ _ (by decide)), Or.inl (va_up_self _ _ _)⟩, by show va_P (dC, dI) vwCl _ t9.heap; rw [ht9]; exact hP⟩, hS.F ht9⟩) hS.2.2 dX10_reckon_207
                  · have c_62 := mt (nI_ltI (a := 1000) (b := bq) (by decide) (by omega)).mpr c_62
                    refine lv_iconst (v := nI 1) hx hb dX10_reckon_181 (by decide +kernel) ?_
                    refine lv_goto (tgt := 186) hx hb dX10_reckon_182 (by decide) ?_
                    refine lv_istore (lv' := [(5, .int (nI 1)), (0, .ref (ad 0)), (1, .int (nI on)), (2, .int (nI tn)), (3, .int (nI an)), (4, .int (nI cn))]) hx hb dX10_reckon_186 hl (by decide) rfl (fun ls hl => ?_)
                    refine lv_iload hx hb dX10_reckon_188 (lv_at hl 0 rfl) ?_
                    refine lv_if_eq (tgt := 205) hx hb dX10_reckon_190 (by decide) (fun c_64 => absurd c_64 (by decide)) (fun c_64 => ?_)
                    refine lv_aload_n hx hb dX10_reckon_193 rfl (lv_at hl 1 rfl) ?_
                    refine lv_sipush (v := nI 1000) hx hb dX10_reckon_194 (by decide +kernel) ?_
                    refine lv_iload_n hx hb dX10_reckon_197 rfl (lv_at hl 3 rfl) ?_
                    refine lv_iadd hx hb dX10_reckon_198 ?_
                    refine lv_topi (fun x_65 e_66 => ?_)
                    obtain rfl : x_65 = nI (1000 + tn) := e_66.trans (nI_add 1000 tn)
                    refine lv_sipush (v := nI 1015) hx hb dX10_reckon_199 (by decide +kernel) ?_
                    refine va_callv (va_runV (As := [.int (nI (1000 + tn)), .int (nI 1015)]) (rest := []) ⟨hx, hb, hml, hown, hts⟩ (c_X10_copyFraction l dC dI A ad cA g_51 (va_up x 0 (nI 0)) pf2_52 qf2_53 (1000 + tn) 1015 hF5 (by omega) (by decide)) (cwV 2 hts (goodIn_app (goodIn_r [Cond.methodLink RX10 136 yX10_copyFraction, Cond.instanceMethod yX10_copyFraction, Cond.selects RX10 yX10_copyFraction yX10_copyFraction, Cond.initialized RX10] [6, 7, 8, 4] rfl rfl) (goodIn_sub (fun w9 h9 => bk2 w9 h9) gw_X10_copyFraction)) rfl rfl rfl (by decide +kernel) ⟨Nat.le_of_ble_eq_true rfl, Nat.le_of_ble_eq_true rfl⟩) ⟨fun a U g mk q => ⟨q.1, q.2.1, q.2.2.1, LY.moved (u := U) (U := U.calling g mk a) (Vm.Alike.refl U.vm) q.2.2.2⟩, va_recv hK hP (ci := 13) (q0 := 0) rfl (wo_at (by decide) f_55), fun U hU hW => ⟨rfl, by rw [hU]; exact fun q h => hA q (Nat.le_trans hS.1 h), by rw [hU]; exact hP, LY.moved hW.alike hL⟩⟩ rfl rfl hl.1 rfl (lv_room (Nat.le_of_ble_eq_true rfl)) dX10_reckon_202 ⟨(Nat.le_of_ble_eq_true rfl), (Nat.le_of_ble_eq_true rfl)⟩) hS (fun q _ h => h) (fun q h => h) (fun u8 t8 H1 locs ht8 hvm8 hw_67 hB hz1 hk1 hS => ?_)
                    obtain ⟨g_68, rfl⟩ : ∃ z, z = u8 := ⟨_, rfl⟩
                    try dsimp only at hw_67 hB
                    rw [ht8] at hB
                    have hP := hB
                    generalize H1 = H at hP hS ⊢
                    obtain ⟨fr_69, hF6⟩ := hw_67
                    have b15 : (pf2_52 1015).natAbs < 2 ^ 1000 ∧ qf2_53 1015 < 2 ^ 1000 := ⟨bl_le.mp (by omega), bl_le.mp (by omega)⟩
                    refine lv_iload hx hb dX10_reckon_205 (lv_at hl 0 rfl) ?_
                    refine W.widen (k := 0) (n := 0) (by omega) (by omega) ?_
                    exact W.zret (v := nI 1) hx hb hr (by decide +kernel) (fun t9 ht9 hW9 => ⟨⟨nI 1, (g_68, va_up x 0 (nI 0)), rfl, ⟨RI.num hI0 hF6 (fun (k : Nat) (hk : (4 ≤ k ∧ k ≤ 11) ∨ k = 16) => (fr_69 k (by omega)).trans ((fr_54 k (by omega)).trans ((fr_46 k (by omega)).trans ((fr_40 k (by omega)).trans ((fr_34 k (by omega)).trans (rfl)))))) (hVO0.same (fun (k : Nat) (hk : 12 ≤ k ∧ k ≤ 19) => (fr_69 k (by omega)).trans ((fr_54 k (by omega)).trans ((fr_46 k (by omega)).trans ((fr_40 k (by omega)).trans ((fr_34 k (by omega)).trans (rfl))))))) (va_up_ne _ _ (by decide)) (va_up_ne _ _ (by decide)) (va_up_ne _ _ (by decide)) (fun f hf => ⟨(va_up_ne _ _ (by omega)).trans (hO5 f (by omega)).1, (va_up_ne _ _ (by omega)).trans (hO5 f (by omega)).2⟩) (hBd.res (fun r9 h9 => by by_cases h8 : r9 = tn; subst h8; exact Or.inr (by rw [va_up_self, va_up_self]; exact b15); exact Or.inl ⟨(va_up_ne _ _ (by omega)).trans (hO5 _ (by omega)).1, (va_up_ne _ _ (by omega)).trans (hO5 _ (by omega)).2⟩) (fun v9 h9 => Or.inl ⟨(va_up_ne _ _ (by omega)).trans (hO5 _ (by omega)).1, (va_up_ne _ _ (by omega)).trans (hO5 _ (by omega)).2⟩)), (va_up_ne _ _ (by decide)), Or.inl (va_up_self _ _ _)⟩, by show va_P (dC, dI) vwCl _ t9.heap; rw [ht9]; exact hP⟩, hS.F ht9⟩) hS.2.2 dX10_reckon_207
              · have c_48 := mt (nI_leI (a := 2) (b := on) (by decide) (by omega)).mpr c_48
                refine lv_aload_n hx hb dX10_reckon_126 rfl (lv_at hl 0 rfl) ?_
                refine lv_sipush (v := nI 1015) hx hb dX10_reckon_127 (by decide +kernel) ?_
                refine lv_sipush (v := nI 1012) hx hb dX10_reckon_130 (by decide +kernel) ?_
                refine lv_sipush (v := nI 1013) hx hb dX10_reckon_133 (by decide +kernel) ?_
                have f_70 : g_45 0 = .inr (13, Rob ad (va_up x 0 (nI 0))) := (fr_46 0 (by omega)).trans f_43
                refine va_callv (va_runV (As := [.int (nI 1015), .int (nI 1012), .int (nI 1013)]) (rest := []) ⟨hx, hb, hml, hown, hts⟩ (c_X10_addFractions l dC dI A ad cA g_45 (va_up x 0 (nI 0)) p3 q3 1015 1012 1013 hF3 (by decide) (by decide) (by decide) (k_1012 b12) (k_1012 b13)) (cwV 3 hts (goodIn_app (goodIn_r [Cond.methodLink RX10 171 yX10_addFractions, Cond.instanceMethod yX10_addFractions, Cond.selects RX10 yX10_addFractions yX10_addFractions, Cond.initialized RX10] [15, 16, 17, 4] rfl rfl) (goodIn_sub (fun w9 h9 => bk5 w9 h9) gw_X10_addFractions)) rfl rfl rfl (by decide +kernel) ⟨Nat.le_of_ble_eq_true rfl, Nat.le_of_ble_eq_true rfl⟩) ⟨fun a U g mk q => ⟨q.1, q.2.1, q.2.2.1, LY.moved (u := U) (U := U.calling g mk a) (Vm.Alike.refl U.vm) q.2.2.2⟩, va_recv hK hP (ci := 13) (q0 := 0) rfl (wo_at (by decide) f_70), fun U hU hW => ⟨rfl, by rw [hU]; exact fun q h => hA q (Nat.le_trans hS.1 h), by rw [hU]; exact hP, LY.moved hW.alike hL⟩⟩ rfl rfl hl.1 rfl (lv_room (Nat.le_of_ble_eq_true rfl)) dX10_reckon_136 ⟨(Nat.le_of_ble_eq_true rfl), (Nat.le_of_ble_eq_true rfl)⟩) hS (fun q _ h => h) (fun q h => h) (fun u8 t8 H1 locs ht8 hvm8 hw_71 hB hz1 hk1 hS => ?_)
                obtain ⟨g_72, pf2_73, qf2_74⟩ := u8
                try dsimp only at hw_71 hB
                rw [ht8] at hB
                have hP := hB
                generalize H1 = H at hP hS ⊢
                obtain ⟨fr_75, hF5, -, -, ho5⟩ := hw_71
                have hO5 : ∀ f, f < 1012 → pf2_73 f = pf f ∧ qf2_74 f = qf f := fun f hf => ⟨(ho5 f (by omega) (by omega)).1.trans (hO3 f (by omega) (by omega)).1, (ho5 f (by omega) (by omega)).2.trans (hO3 f (by omega) (by omega)).2⟩
                have hF5c := hF5
                obtain ⟨vf5, hV5, hw5⟩ := hF5c
                have e51 : (vf5 2030).natAbs = (pf2_73 1015).natAbs := congrArg Int.natAbs (hw5 1015 (by decide)).1
                have e52 : (vf5 2031).natAbs = qf2_74 1015 := by have h9 : vf5 2031 = ((qf2_74 1015 : Nat) : Int) := (hw5 1015 (by decide)).2.1; omega
                refine lv_goto (tgt := 155) hx hb dX10_reckon_139 (by decide) ?_
                refine lv_aload_n hx hb dX10_reckon_155 rfl (lv_at hl 0 rfl) ?_
                refine lv_sipush (v := nI 2030) hx hb dX10_reckon_156 (by decide +kernel) ?_
                have f_76 : g_72 0 = .inr (13, Rob ad (va_up x 0 (nI 0))) := (fr_75 0 (by omega)).trans f_70
                refine va_calli (va_runV (As := [.int (nI 2030)]) (rest := []) ⟨hx, hb, hml, hown, hts⟩ (c_X10_bitsOf l dC dI A ad cA g_72 (va_up x 0 (nI 0)) vf5 2030 hV5 (by decide)) (cwV 1 hts (goodIn_app (goodIn_r [Cond.methodLink RX10 117 yX10_bitsOf, Cond.instanceMethod yX10_bitsOf, Cond.selects RX10 yX10_bitsOf yX10_bitsOf, Cond.initialized RX10] [12, 13, 14, 4] rfl rfl) (goodIn_sub (fun w9 h9 => bk4 w9 h9) gw_X10_bitsOf)) rfl rfl rfl (by decide +kernel) ⟨Nat.le_of_ble_eq_true rfl, Nat.le_of_ble_eq_true rfl⟩) ⟨fun a U g mk q => ⟨q.1, q.2.1, q.2.2.1, LY.moved (u := U) (U := U.calling g mk a) (Vm.Alike.refl U.vm) q.2.2.2⟩, va_recv hK hP (ci := 13) (q0 := 0) rfl (wo_at (by decide) f_76), fun U hU hW => ⟨rfl, by rw [hU]; exact fun q h => hA q (Nat.le_trans hS.1 h), by rw [hU]; exact hP, LY.moved hW.alike hL⟩⟩ rfl rfl hl.1 rfl (lv_room (Nat.le_of_ble_eq_true rfl)) dX10_reckon_159 ⟨(Nat.le_of_ble_eq_true rfl), (Nat.le_of_ble_eq_true rfl)⟩) hS (fun q _ h => h) (fun q h => h) (fun r_77 u8 t8 H1 locs ht8 hvm8 hw_78 hB hz1 hk1 hS => ?_)
                obtain ⟨⟩ := u8
                try dsimp only at hw_78 hB
                rw [ht8] at hB
                have hP := hB
                generalize H1 = H at hP hS ⊢
                obtain rfl := hw_78
                rw [e51]
                obtain ⟨bp, hbp⟩ : ∃ z9, z9 = bl (pf2_73 1015).natAbs := ⟨_, rfl⟩
                rw [← hbp]
                have lbp : bp ≤ 2560 := by rw [hbp, ← e51]; obtain ⟨pn8, ln8, bn8, -, hv8⟩ := hV5; exact bl_le.mpr (by have h8 := (hv8 2030 (by decide)).lt80; rw [pw_two] at h8; exact h8)
                refine lv_sipush (v := nI 1000) hx hb dX10_reckon_162 (by decide +kernel) ?_
                refine lv_icmp_gt (tgt := 185) hx hb dX10_reckon_165 (by decide) (fun c_79 => ?_) (fun c_79 => ?_)
                · have c_79 := (nI_ltI (a := 1000) (b := bp) (by decide) (by omega)).mp c_79
                  refine lv_iconst (v := nI 0) hx hb dX10_reckon_185 (by decide +kernel) ?_
                  refine lv_istore (lv' := [(5, .int (nI 0)), (0, .ref (ad 0)), (1, .int (nI on)), (2, .int (nI tn)), (3, .int (nI an)), (4, .int (nI cn))]) hx hb dX10_reckon_186 hl (by decide) rfl (fun ls hl => ?_)
                  refine lv_iload hx hb dX10_reckon_188 (lv_at hl 0 rfl) ?_
                  refine lv_if_eq (tgt := 205) hx hb dX10_reckon_190 (by decide) (fun c_80 => ?_) (fun c_80 => absurd c_80 (by decide))
                  refine lv_iload hx hb dX10_reckon_205 (lv_at hl 0 rfl) ?_
                  refine W.widen (k := 0) (n := 0) (by omega) (by omega) ?_
                  exact W.zret (v := nI 0) hx hb hr (by decide +kernel) (fun t9 ht9 hW9 => ⟨⟨nI 0, (g_72, va_up x 0 (nI 0)), rfl, ⟨RI.num hI0 hF5 (fun (k : Nat) (hk : (4 ≤ k ∧ k ≤ 11) ∨ k = 16) => (fr_75 k (by omega)).trans ((fr_46 k (by omega)).trans ((fr_40 k (by omega)).trans ((fr_34 k (by omega)).trans (rfl))))) (hVO0.same (fun (k : Nat) (hk : 12 ≤ k ∧ k ≤ 19) => (fr_75 k (by omega)).trans ((fr_46 k (by omega)).trans ((fr_40 k (by omega)).trans ((fr_34 k (by omega)).trans (rfl)))))) (va_up_ne _ _ (by decide)) (va_up_ne _ _ (by decide)) (va_up_ne _ _ (by decide)) (fun f hf => hO5 f (by omega)) (hBd.res (fun r9 h9 => Or.inl (hO5 _ (by omega))) (fun v9 h9 => Or.inl (hO5 _ (by omega)))), (va_up_ne _ _ (by decide)), Or.inl (va_up_self _ _ _)⟩, by show va_P (dC, dI) vwCl _ t9.heap; rw [ht9]; exact hP⟩, hS.F ht9⟩) hS.2.2 dX10_reckon_207
                · have c_79 := mt (nI_ltI (a := 1000) (b := bp) (by decide) (by omega)).mpr c_79
                  refine lv_aload_n hx hb dX10_reckon_168 rfl (lv_at hl 0 rfl) ?_
                  refine lv_sipush (v := nI 2031) hx hb dX10_reckon_169 (by decide +kernel) ?_
                  refine va_calli (va_runV (As := [.int (nI 2031)]) (rest := []) ⟨hx, hb, hml, hown, hts⟩ (c_X10_bitsOf l dC dI A ad cA g_72 (va_up x 0 (nI 0)) vf5 2031 hV5 (by decide)) (cwV 1 hts (goodIn_app (goodIn_r [Cond.methodLink RX10 117 yX10_bitsOf, Cond.instanceMethod yX10_bitsOf, Cond.selects RX10 yX10_bitsOf yX10_bitsOf, Cond.initialized RX10] [12, 13, 14, 4] rfl rfl) (goodIn_sub (fun w9 h9 => bk4 w9 h9) gw_X10_bitsOf)) rfl rfl rfl (by decide +kernel) ⟨Nat.le_of_ble_eq_true rfl, Nat.le_of_ble_eq_true rfl⟩) ⟨fun a U g mk q => ⟨q.1, q.2.1, q.2.2.1, LY.moved (u := U) (U := U.calling g mk a) (Vm.Alike.refl U.vm) q.2.2.2⟩, va_recv hK hP (ci := 13) (q0 := 0) rfl (wo_at (by decide) f_76), fun U hU hW => ⟨rfl, by rw [hU]; exact fun q h => hA q (Nat.le_trans hS.1 h), by rw [hU]; exact hP, LY.moved hW.alike hL⟩⟩ rfl rfl hl.1 rfl (lv_room (Nat.le_of_ble_eq_true rfl)) dX10_reckon_172 ⟨(Nat.le_of_ble_eq_true rfl), (Nat.le_of_ble_eq_true rfl)⟩) hS (fun q _ h => h) (fun q h => h) (fun r_81 u8 t8 H1 locs ht8 hvm8 hw_82 hB hz1 hk1 hS => ?_)
                  obtain ⟨⟩ := u8
                  try dsimp only at hw_82 hB
                  rw [ht8] at hB
                  have hP := hB
                  generalize H1 = H at hP hS ⊢
                  obtain rfl := hw_82
                  rw [e52]
                  obtain ⟨bq, hbq⟩ : ∃ z9, z9 = bl (qf2_74 1015) := ⟨_, rfl⟩
                  rw [← hbq]
                  have lbq : bq ≤ 2560 := by rw [hbq, ← e52]; obtain ⟨pn8, ln8, bn8, -, hv8⟩ := hV5; exact bl_le.mpr (by have h8 := (hv8 2031 (by decide)).lt80; rw [pw_two] at h8; exact h8)
                  refine lv_sipush (v := nI 1000) hx hb dX10_reckon_175 (by decide +kernel) ?_
                  refine lv_icmp_gt (tgt := 185) hx hb dX10_reckon_178 (by decide) (fun c_83 => ?_) (fun c_83 => ?_)
                  · have c_83 := (nI_ltI (a := 1000) (b := bq) (by decide) (by omega)).mp c_83
                    refine lv_iconst (v := nI 0) hx hb dX10_reckon_185 (by decide +kernel) ?_
                    refine lv_istore (lv' := [(5, .int (nI 0)), (0, .ref (ad 0)), (1, .int (nI on)), (2, .int (nI tn)), (3, .int (nI an)), (4, .int (nI cn))]) hx hb dX10_reckon_186 hl (by decide) rfl (fun ls hl => ?_)
                    refine lv_iload hx hb dX10_reckon_188 (lv_at hl 0 rfl) ?_
                    refine lv_if_eq (tgt := 205) hx hb dX10_reckon_190 (by decide) (fun c_84 => ?_) (fun c_84 => absurd c_84 (by decide))
                    refine lv_iload hx hb dX10_reckon_205 (lv_at hl 0 rfl) ?_
                    refine W.widen (k := 0) (n := 0) (by omega) (by omega) ?_
                    exact W.zret (v := nI 0) hx hb hr (by decide +kernel) (fun t9 ht9 hW9 => ⟨⟨nI 0, (g_72, va_up x 0 (nI 0)), rfl, ⟨RI.num hI0 hF5 (fun (k : Nat) (hk : (4 ≤ k ∧ k ≤ 11) ∨ k = 16) => (fr_75 k (by omega)).trans ((fr_46 k (by omega)).trans ((fr_40 k (by omega)).trans ((fr_34 k (by omega)).trans (rfl))))) (hVO0.same (fun (k : Nat) (hk : 12 ≤ k ∧ k ≤ 19) => (fr_75 k (by omega)).trans ((fr_46 k (by omega)).trans ((fr_40 k (by omega)).trans ((fr_34 k (by omega)).trans (rfl)))))) (va_up_ne _ _ (by decide)) (va_up_ne _ _ (by decide)) (va_up_ne _ _ (by decide)) (fun f hf => hO5 f (by omega)) (hBd.res (fun r9 h9 => Or.inl (hO5 _ (by omega))) (fun v9 h9 => Or.inl (hO5 _ (by omega)))), (va_up_ne _ _ (by decide)), Or.inl (va_up_self _ _ _)⟩, by show va_P (dC, dI) vwCl _ t9.heap; rw [ht9]; exact hP⟩, hS.F ht9⟩) hS.2.2 dX10_reckon_207
                  · have c_83 := mt (nI_ltI (a := 1000) (b := bq) (by decide) (by omega)).mpr c_83
                    refine lv_iconst (v := nI 1) hx hb dX10_reckon_181 (by decide +kernel) ?_
                    refine lv_goto (tgt := 186) hx hb dX10_reckon_182 (by decide) ?_
                    refine lv_istore (lv' := [(5, .int (nI 1)), (0, .ref (ad 0)), (1, .int (nI on)), (2, .int (nI tn)), (3, .int (nI an)), (4, .int (nI cn))]) hx hb dX10_reckon_186 hl (by decide) rfl (fun ls hl => ?_)
                    refine lv_iload hx hb dX10_reckon_188 (lv_at hl 0 rfl) ?_
                    refine lv_if_eq (tgt := 205) hx hb dX10_reckon_190 (by decide) (fun c_85 => absurd c_85 (by decide)) (fun c_85 => ?_)
                    refine lv_aload_n hx hb dX10_reckon_193 rfl (lv_at hl 1 rfl) ?_
                    refine lv_sipush (v := nI 1000) hx hb dX10_reckon_194 (by decide +kernel) ?_
                    refine lv_iload_n hx hb dX10_reckon_197 rfl (lv_at hl 3 rfl) ?_
                    refine lv_iadd hx hb dX10_reckon_198 ?_
                    refine lv_topi (fun x_86 e_87 => ?_)
                    obtain rfl : x_86 = nI (1000 + tn) := e_87.trans (nI_add 1000 tn)
                    refine lv_sipush (v := nI 1015) hx hb dX10_reckon_199 (by decide +kernel) ?_
                    refine va_callv (va_runV (As := [.int (nI (1000 + tn)), .int (nI 1015)]) (rest := []) ⟨hx, hb, hml, hown, hts⟩ (c_X10_copyFraction l dC dI A ad cA g_72 (va_up x 0 (nI 0)) pf2_73 qf2_74 (1000 + tn) 1015 hF5 (by omega) (by decide)) (cwV 2 hts (goodIn_app (goodIn_r [Cond.methodLink RX10 136 yX10_copyFraction, Cond.instanceMethod yX10_copyFraction, Cond.selects RX10 yX10_copyFraction yX10_copyFraction, Cond.initialized RX10] [6, 7, 8, 4] rfl rfl) (goodIn_sub (fun w9 h9 => bk2 w9 h9) gw_X10_copyFraction)) rfl rfl rfl (by decide +kernel) ⟨Nat.le_of_ble_eq_true rfl, Nat.le_of_ble_eq_true rfl⟩) ⟨fun a U g mk q => ⟨q.1, q.2.1, q.2.2.1, LY.moved (u := U) (U := U.calling g mk a) (Vm.Alike.refl U.vm) q.2.2.2⟩, va_recv hK hP (ci := 13) (q0 := 0) rfl (wo_at (by decide) f_76), fun U hU hW => ⟨rfl, by rw [hU]; exact fun q h => hA q (Nat.le_trans hS.1 h), by rw [hU]; exact hP, LY.moved hW.alike hL⟩⟩ rfl rfl hl.1 rfl (lv_room (Nat.le_of_ble_eq_true rfl)) dX10_reckon_202 ⟨(Nat.le_of_ble_eq_true rfl), (Nat.le_of_ble_eq_true rfl)⟩) hS (fun q _ h => h) (fun q h => h) (fun u8 t8 H1 locs ht8 hvm8 hw_88 hB hz1 hk1 hS => ?_)
                    obtain ⟨g_89, rfl⟩ : ∃ z, z = u8 := ⟨_, rfl⟩
                    try dsimp only at hw_88 hB
                    rw [ht8] at hB
                    have hP := hB
                    generalize H1 = H at hP hS ⊢
                    obtain ⟨fr_90, hF6⟩ := hw_88
                    have b15 : (pf2_73 1015).natAbs < 2 ^ 1000 ∧ qf2_74 1015 < 2 ^ 1000 := ⟨bl_le.mp (by omega), bl_le.mp (by omega)⟩
                    refine lv_iload hx hb dX10_reckon_205 (lv_at hl 0 rfl) ?_
                    refine W.widen (k := 0) (n := 0) (by omega) (by omega) ?_
                    exact W.zret (v := nI 1) hx hb hr (by decide +kernel) (fun t9 ht9 hW9 => ⟨⟨nI 1, (g_89, va_up x 0 (nI 0)), rfl, ⟨RI.num hI0 hF6 (fun (k : Nat) (hk : (4 ≤ k ∧ k ≤ 11) ∨ k = 16) => (fr_90 k (by omega)).trans ((fr_75 k (by omega)).trans ((fr_46 k (by omega)).trans ((fr_40 k (by omega)).trans ((fr_34 k (by omega)).trans (rfl)))))) (hVO0.same (fun (k : Nat) (hk : 12 ≤ k ∧ k ≤ 19) => (fr_90 k (by omega)).trans ((fr_75 k (by omega)).trans ((fr_46 k (by omega)).trans ((fr_40 k (by omega)).trans ((fr_34 k (by omega)).trans (rfl))))))) (va_up_ne _ _ (by decide)) (va_up_ne _ _ (by decide)) (va_up_ne _ _ (by decide)) (fun f hf => ⟨(va_up_ne _ _ (by omega)).trans (hO5 f (by omega)).1, (va_up_ne _ _ (by omega)).trans (hO5 f (by omega)).2⟩) (hBd.res (fun r9 h9 => by by_cases h8 : r9 = tn; subst h8; exact Or.inr (by rw [va_up_self, va_up_self]; exact b15); exact Or.inl ⟨(va_up_ne _ _ (by omega)).trans (hO5 _ (by omega)).1, (va_up_ne _ _ (by omega)).trans (hO5 _ (by omega)).2⟩) (fun v9 h9 => Or.inl ⟨(va_up_ne _ _ (by omega)).trans (hO5 _ (by omega)).1, (va_up_ne _ _ (by omega)).trans (hO5 _ (by omega)).2⟩)), (va_up_ne _ _ (by decide)), Or.inl (va_up_self _ _ _)⟩, by show va_P (dC, dI) vwCl _ t9.heap; rw [ht9]; exact hP⟩, hS.F ht9⟩) hS.2.2 dX10_reckon_207
            · have c_47 := (nI_eq (a := on) (b := 1) (by omega) (by decide)).mp c_47
              have hF3c := hF3
              obtain ⟨vf3, hV3, hw3⟩ := hF3c
              have hc_91 := hV3
              obtain ⟨pnz_92, lnz_92, bnz_92, hRz_92, hvz_92⟩ := hc_91
              obtain ⟨r_93, r_94, r_95, r_96, r_97, r_98, r_99⟩ := hRz_92
              have z9 := (hvz_92 2026 (by decide)).zero
              have s9 := (hvz_92 2026 (by decide)).2.2
              have t9 := r_99 2026
              refine lv_aload_n hx hb dX10_reckon_86 rfl (lv_at hl 0 rfl) ?_
              refine m_get (D := (dC, dI)) (v := .ref (ad 3)) (C := RX10) (T := TX10) (N := 29) hx hb hts bk1 hown hK hP 0 (by decide) r_93 rfl 3 (by decide) (hts (.fieldLink RX10 18 "GradientDeskModel" "below" "[Z") (List.mem_of_getElem? (i := 18) rfl)) (fun _ h9 => h9) rfl dX10_reckon_87 ?_
              refine lv_sipush (v := nI 2026) hx hb dX10_reckon_90 (by decide +kernel) ?_
              refine lv_aload_n hx hb dX10_reckon_93 rfl (lv_at hl 0 rfl) ?_
              refine m_get (D := (dC, dI)) (v := .ref (ad 2)) (C := RX10) (T := TX10) (N := 29) hx hb hts bk1 hown hK hP 0 (by decide) r_93 rfl 2 (by decide) (hts (.fieldLink RX10 14 "GradientDeskModel" "length" "[I") (List.mem_of_getElem? (i := 19) rfl)) (fun _ h9 => h9) rfl dX10_reckon_94 ?_
              refine lv_sipush (v := nI 2026) hx hb dX10_reckon_97 (by decide +kernel) ?_
              refine m_iald hx hb hK hP 2 (by decide) rfl r_95 (i := 2026) (by decide) (by decide) dX10_reckon_100 ?_
              have b_100 := r_98 2026
              refine lv_if_le (tgt := 119) hx hb dX10_reckon_101 (by decide) (fun c_101 => ?_) (fun c_101 => ?_)
              · have c_101 := (nI_leI (a := (lnz_92 2026)) (b := 0) (by omega) (by decide)).mp c_101
                refine lv_iconst (v := nI 0) hx hb dX10_reckon_119 (by decide +kernel) ?_
                refine m_zast hx hb hK hP hD hS 3 (by decide) rfl r_96 (i := 2026) (x := nI 0) (y := nI 0) (by decide +kernel) (by decide) (by decide) dX10_reckon_120 (fun H locs g_102 f_103 fr_104 hP hS => ?_)
                rw [k_updI] at f_103
                have b_105 : ∀ j, (va_up bnz_92 2026 0) j < 2 := k_up_lt r_99 (by omega)
                have f_103 : g_102 3 = .inl (cA 3, 2068, .inl (fun j => nI ((va_up bnz_92 2026 0) j))) := f_103
                have f_106 : g_102 0 = .inr (13, Rob ad (va_up x 0 (nI 0))) := (fr_104 0 (by omega)).trans r_93
                have f_107 : g_102 1 = .inl (cA 1, 165440, .inr (.inl (fun j => lN (pnz_92 j)))) := (fr_104 1 (by omega)).trans r_94
                have f_108 : g_102 2 = .inl (cA 2, 2068, .inl (fun j => nI (lnz_92 j))) := (fr_104 2 (by omega)).trans r_95
                have hV4 : RV ad cA g_102 (va_up x 0 (nI 0)) (va_up vf3 2026 (-(vf3 2026))) := RV.sign (⟨f_106, f_107, f_108, f_103, r_97, r_98, b_105⟩ : RN ad cA g_102 (va_up x 0 (nI 0)) pnz_92 lnz_92 (va_up bnz_92 2026 0)) hvz_92 (by decide) (Int.natAbs_neg _) (by omega)
                have hF4 : RF ad cA g_102 (va_up x 0 (nI 0)) (va_up p3 1013 (-(p3 1013))) (va_up q3 1013 (q3 1013)) := RF.up hV4 hw3 (fun f hf hne => ⟨va_up_ne _ _ (by omega), va_up_ne _ _ (by omega)⟩) ((va_up_self _ _ _).trans (congrArg (fun z => -z) (hw3 1013 (by decide)).1)) ((va_up_ne _ _ (by decide)).trans (hw3 1013 (by decide)).2.1) ⟨(hw3 1013 (by decide)).2.2.1, by rw [Int.natAbs_neg]; exact (hw3 1013 (by decide)).2.2.2⟩
                obtain ⟨p4, hp4⟩ : ∃ z9, z9 = va_up p3 1013 (-(p3 1013)) := ⟨_, rfl⟩
                obtain ⟨q4, hq4⟩ : ∃ z9, z9 = va_up q3 1013 (q3 1013) := ⟨_, rfl⟩
                rw [← hp4, ← hq4] at hF4
                have b12 : (p4 1012).natAbs < 2 ^ 1000 ∧ q4 1012 < 2 ^ 1000 := by rw [hp4, hq4, va_up_ne _ _ (by decide), va_up_ne _ _ (by decide)]; exact b12
                have b13 : (p4 1013).natAbs < 2 ^ 1000 ∧ q4 1013 < 2 ^ 1000 := by rw [hp4, hq4, va_up_self, va_up_self, Int.natAbs_neg]; exact b13
                have hO3 : ∀ f, f ≠ 1012 → f ≠ 1013 → p4 f = pf f ∧ q4 f = qf f := fun f h1 h2 => by rw [hp4, hq4, va_up_ne _ _ h2, va_up_ne _ _ h2]; exact hO3 f h1 h2
                refine lv_iload_n hx hb dX10_reckon_121 rfl (lv_at hl 1 rfl) ?_
                refine lv_iconst (v := nI 2) hx hb dX10_reckon_122 (by decide +kernel) ?_
                refine lv_icmp_ge (tgt := 142) hx hb dX10_reckon_123 (by decide) (fun c_109 => ?_) (fun c_109 => ?_)
                · have c_109 := (nI_leI (a := 2) (b := on) (by decide) (by omega)).mp c_109
                  refine lv_aload_n hx hb dX10_reckon_142 rfl (lv_at hl 0 rfl) ?_
                  refine lv_sipush (v := nI 1015) hx hb dX10_reckon_143 (by decide +kernel) ?_
                  refine lv_sipush (v := nI 1012) hx hb dX10_reckon_146 (by decide +kernel) ?_
                  refine lv_sipush (v := nI 1013) hx hb dX10_reckon_149 (by decide +kernel) ?_
                  refine va_callv (va_runV (As := [.int (nI 1015), .int (nI 1012), .int (nI 1013)]) (rest := []) ⟨hx, hb, hml, hown, hts⟩ (c_X10_timesFractions l dC dI A ad cA g_102 (va_up x 0 (nI 0)) p4 q4 1015 1012 1013 hF4 (by decide) (by decide) (by decide) (k_1012 b12) (k_1012 b13)) (cwV 3 hts (goodIn_app (goodIn_r [Cond.methodLink RX10 143 yX10_timesFractions, Cond.instanceMethod yX10_timesFractions, Cond.selects RX10 yX10_timesFractions yX10_timesFractions, Cond.initialized RX10] [9, 10, 11, 4] rfl rfl) (goodIn_sub (fun w9 h9 => bk3 w9 h9) gw_X10_timesFractions)) rfl rfl rfl (by decide +kernel) ⟨Nat.le_of_ble_eq_true rfl, Nat.le_of_ble_eq_true rfl⟩) ⟨fun a U g mk q => ⟨q.1, q.2.1, q.2.2.1, LY.moved (u := U) (U := U.calling g mk a) (Vm.Alike.refl U.vm) q.2.2.2⟩, va_recv hK hP (ci := 13) (q0 := 0) rfl (wo_at (by decide) f_106), fun U hU hW => ⟨rfl, by rw [hU]; exact fun q h => hA q (Nat.le_trans hS.1 h), by rw [hU]; exact hP, LY.moved hW.alike hL⟩⟩ rfl rfl hl.1 rfl (lv_room (Nat.le_of_ble_eq_true rfl)) dX10_reckon_152 ⟨(Nat.le_of_ble_eq_true rfl), (Nat.le_of_ble_eq_true rfl)⟩) hS (fun q _ h => h) (fun q h => h) (fun u8 t8 H1 locs ht8 hvm8 hw_110 hB hz1 hk1 hS => ?_)
                  obtain ⟨g_111, pf2_112, qf2_113⟩ := u8
                  try dsimp only at hw_110 hB
                  rw [ht8] at hB
                  have hP := hB
                  generalize H1 = H at hP hS ⊢
                  obtain ⟨fr_114, hF5, -, -, ho5⟩ := hw_110
                  have hO5 : ∀ f, f < 1012 → pf2_112 f = pf f ∧ qf2_113 f = qf f := fun f hf => ⟨(ho5 f (by omega) (by omega)).1.trans (hO3 f (by omega) (by omega)).1, (ho5 f (by omega) (by omega)).2.trans (hO3 f (by omega) (by omega)).2⟩
                  have hF5c := hF5
                  obtain ⟨vf5, hV5, hw5⟩ := hF5c
                  have e51 : (vf5 2030).natAbs = (pf2_112 1015).natAbs := congrArg Int.natAbs (hw5 1015 (by decide)).1
                  have e52 : (vf5 2031).natAbs = qf2_113 1015 := by have h9 : vf5 2031 = ((qf2_113 1015 : Nat) : Int) := (hw5 1015 (by decide)).2.1; omega
                  refine lv_aload_n hx hb dX10_reckon_155 rfl (lv_at hl 0 rfl) ?_
                  refine lv_sipush (v := nI 2030) hx hb dX10_reckon_156 (by decide +kernel) ?_
                  have f_115 : g_111 0 = .inr (13, Rob ad (va_up x 0 (nI 0))) := (fr_114 0 (by omega)).trans f_106
                  refine va_calli (va_runV (As := [.int (nI 2030)]) (rest := []) ⟨hx, hb, hml, hown, hts⟩ (c_X10_bitsOf l dC dI A ad cA g_111 (va_up x 0 (nI 0)) vf5 2030 hV5 (by decide)) (cwV 1 hts (goodIn_app (goodIn_r [Cond.methodLink RX10 117 yX10_bitsOf, Cond.instanceMethod yX10_bitsOf, Cond.selects RX10 yX10_bitsOf yX10_bitsOf, Cond.initialized RX10] [12, 13, 14, 4] rfl rfl) (goodIn_sub (fun w9 h9 => bk4 w9 h9) gw_X10_bitsOf)) rfl rfl rfl (by decide +kernel) ⟨Nat.le_of_ble_eq_true rfl, Nat.le_of_ble_eq_true rfl⟩) ⟨fun a U g mk q => ⟨q.1, q.2.1, q.2.2.1, LY.moved (u := U) (U := U.calling g mk a) (Vm.Alike.refl U.vm) q.2.2.2⟩, va_recv hK hP (ci := 13) (q0 := 0) rfl (wo_at (by decide) f_115), fun U hU hW => ⟨rfl, by rw [hU]; exact fun q h => hA q (Nat.le_trans hS.1 h), by rw [hU]; exact hP, LY.moved hW.alike hL⟩⟩ rfl rfl hl.1 rfl (lv_room (Nat.le_of_ble_eq_true rfl)) dX10_reckon_159 ⟨(Nat.le_of_ble_eq_true rfl), (Nat.le_of_ble_eq_true rfl)⟩) hS (fun q _ h => h) (fun q h => h) (fun r_116 u8 t8 H1 locs ht8 hvm8 hw_117 hB hz1 hk1 hS => ?_)
                  obtain ⟨⟩ := u8
                  try dsimp only at hw_117 hB
                  rw [ht8] at hB
                  have hP := hB
                  generalize H1 = H at hP hS ⊢
                  obtain rfl := hw_117
                  rw [e51]
                  obtain ⟨bp, hbp⟩ : ∃ z9, z9 = bl (pf2_112 1015).natAbs := ⟨_, rfl⟩
                  rw [← hbp]
                  have lbp : bp ≤ 2560 := by rw [hbp, ← e51]; obtain ⟨pn8, ln8, bn8, -, hv8⟩ := hV5; exact bl_le.mpr (by have h8 := (hv8 2030 (by decide)).lt80; rw [pw_two] at h8; exact h8)
                  refine lv_sipush (v := nI 1000) hx hb dX10_reckon_162 (by decide +kernel) ?_
                  refine lv_icmp_gt (tgt := 185) hx hb dX10_reckon_165 (by decide) (fun c_118 => ?_) (fun c_118 => ?_)
                  · have c_118 := (nI_ltI (a := 1000) (b := bp) (by decide) (by omega)).mp c_118
                    refine lv_iconst (v := nI 0) hx hb dX10_reckon_185 (by decide +kernel) ?_
                    refine lv_istore (lv' := [(5, .int (nI 0)), (0, .ref (ad 0)), (1, .int (nI on)), (2, .int (nI tn)), (3, .int (nI an)), (4, .int (nI cn))]) hx hb dX10_reckon_186 hl (by decide) rfl (fun ls hl => ?_)
                    refine lv_iload hx hb dX10_reckon_188 (lv_at hl 0 rfl) ?_
                    refine lv_if_eq (tgt := 205) hx hb dX10_reckon_190 (by decide) (fun c_119 => ?_) (fun c_119 => absurd c_119 (by decide))
                    refine lv_iload hx hb dX10_reckon_205 (lv_at hl 0 rfl) ?_
                    refine W.widen (k := 0) (n := 0) (by omega) (by omega) ?_
                    exact W.zret (v := nI 0) hx hb hr (by decide +kernel) (fun t9 ht9 hW9 => ⟨⟨nI 0, (g_111, va_up x 0 (nI 0)), rfl, ⟨RI.num hI0 hF5 (fun (k : Nat) (hk : (4 ≤ k ∧ k ≤ 11) ∨ k = 16) => (fr_114 k (by omega)).trans ((fr_104 k (by omega)).trans ((fr_46 k (by omega)).trans ((fr_40 k (by omega)).trans ((fr_34 k (by omega)).trans (rfl)))))) (hVO0.same (fun (k : Nat) (hk : 12 ≤ k ∧ k ≤ 19) => (fr_114 k (by omega)).trans ((fr_104 k (by omega)).trans ((fr_46 k (by omega)).trans ((fr_40 k (by omega)).trans ((fr_34 k (by omega)).trans (rfl))))))) (va_up_ne _ _ (by decide)) (va_up_ne _ _ (by decide)) (va_up_ne _ _ (by decide)) (fun f hf => hO5 f (by omega)) (hBd.res (fun r9 h9 => Or.inl (hO5 _ (by omega))) (fun v9 h9 => Or.inl (hO5 _ (by omega)))), (va_up_ne _ _ (by decide)), Or.inl (va_up_self _ _ _)⟩, by show va_P (dC, dI) vwCl _ t9.heap; rw [ht9]; exact hP⟩, hS.F ht9⟩) hS.2.2 dX10_reckon_207
                  · have c_118 := mt (nI_ltI (a := 1000) (b := bp) (by decide) (by omega)).mpr c_118
                    refine lv_aload_n hx hb dX10_reckon_168 rfl (lv_at hl 0 rfl) ?_
                    refine lv_sipush (v := nI 2031) hx hb dX10_reckon_169 (by decide +kernel) ?_
                    refine va_calli (va_runV (As := [.int (nI 2031)]) (rest := []) ⟨hx, hb, hml, hown, hts⟩ (c_X10_bitsOf l dC dI A ad cA g_111 (va_up x 0 (nI 0)) vf5 2031 hV5 (by decide)) (cwV 1 hts (goodIn_app (goodIn_r [Cond.methodLink RX10 117 yX10_bitsOf, Cond.instanceMethod yX10_bitsOf, Cond.selects RX10 yX10_bitsOf yX10_bitsOf, Cond.initialized RX10] [12, 13, 14, 4] rfl rfl) (goodIn_sub (fun w9 h9 => bk4 w9 h9) gw_X10_bitsOf)) rfl rfl rfl (by decide +kernel) ⟨Nat.le_of_ble_eq_true rfl, Nat.le_of_ble_eq_true rfl⟩) ⟨fun a U g mk q => ⟨q.1, q.2.1, q.2.2.1, LY.moved (u := U) (U := U.calling g mk a) (Vm.Alike.refl U.vm) q.2.2.2⟩, va_recv hK hP (ci := 13) (q0 := 0) rfl (wo_at (by decide) f_115), fun U hU hW => ⟨rfl, by rw [hU]; exact fun q h => hA q (Nat.le_trans hS.1 h), by rw [hU]; exact hP, LY.moved hW.alike hL⟩⟩ rfl rfl hl.1 rfl (lv_room (Nat.le_of_ble_eq_true rfl)) dX10_reckon_172 ⟨(Nat.le_of_ble_eq_true rfl), (Nat.le_of_ble_eq_true rfl)⟩) hS (fun q _ h => h) (fun q h => h) (fun r_120 u8 t8 H1 locs ht8 hvm8 hw_121 hB hz1 hk1 hS => ?_)
                    obtain ⟨⟩ := u8
                    try dsimp only at hw_121 hB
                    rw [ht8] at hB
                    have hP := hB
                    generalize H1 = H at hP hS ⊢
                    obtain rfl := hw_121
                    rw [e52]
                    obtain ⟨bq, hbq⟩ : ∃ z9, z9 = bl (qf2_113 1015) := ⟨_, rfl⟩
                    rw [← hbq]
                    have lbq : bq ≤ 2560 := by rw [hbq, ← e52]; obtain ⟨pn8, ln8, bn8, -, hv8⟩ := hV5; exact bl_le.mpr (by have h8 := (hv8 2031 (by decide)).lt80; rw [pw_two] at h8; exact h8)
                    refine lv_sipush (v := nI 1000) hx hb dX10_reckon_175 (by decide +kernel) ?_
                    refine lv_icmp_gt (tgt := 185) hx hb dX10_reckon_178 (by decide) (fun c_122 => ?_) (fun c_122 => ?_)
                    · have c_122 := (nI_ltI (a := 1000) (b := bq) (by decide) (by omega)).mp c_122
                      refine lv_iconst (v := nI 0) hx hb dX10_reckon_185 (by decide +kernel) ?_
                      refine lv_istore (lv' := [(5, .int (nI 0)), (0, .ref (ad 0)), (1, .int (nI on)), (2, .int (nI tn)), (3, .int (nI an)), (4, .int (nI cn))]) hx hb dX10_reckon_186 hl (by decide) rfl (fun ls hl => ?_)
                      refine lv_iload hx hb dX10_reckon_188 (lv_at hl 0 rfl) ?_
                      refine lv_if_eq (tgt := 205) hx hb dX10_reckon_190 (by decide) (fun c_123 => ?_) (fun c_123 => absurd c_123 (by decide))
                      refine lv_iload hx hb dX10_reckon_205 (lv_at hl 0 rfl) ?_
                      refine W.widen (k := 0) (n := 0) (by omega) (by omega) ?_
                      exact W.zret (v := nI 0) hx hb hr (by decide +kernel) (fun t9 ht9 hW9 => ⟨⟨nI 0, (g_111, va_up x 0 (nI 0)), rfl, ⟨RI.num hI0 hF5 (fun (k : Nat) (hk : (4 ≤ k ∧ k ≤ 11) ∨ k = 16) => (fr_114 k (by omega)).trans ((fr_104 k (by omega)).trans ((fr_46 k (by omega)).trans ((fr_40 k (by omega)).trans ((fr_34 k (by omega)).trans (rfl)))))) (hVO0.same (fun (k : Nat) (hk : 12 ≤ k ∧ k ≤ 19) => (fr_114 k (by omega)).trans ((fr_104 k (by omega)).trans ((fr_46 k (by omega)).trans ((fr_40 k (by omega)).trans ((fr_34 k (by omega)).trans (rfl))))))) (va_up_ne _ _ (by decide)) (va_up_ne _ _ (by decide)) (va_up_ne _ _ (by decide)) (fun f hf => hO5 f (by omega)) (hBd.res (fun r9 h9 => Or.inl (hO5 _ (by omega))) (fun v9 h9 => Or.inl (hO5 _ (by omega)))), (va_up_ne _ _ (by decide)), Or.inl (va_up_self _ _ _)⟩, by show va_P (dC, dI) vwCl _ t9.heap; rw [ht9]; exact hP⟩, hS.F ht9⟩) hS.2.2 dX10_reckon_207
                    · have c_122 := mt (nI_ltI (a := 1000) (b := bq) (by decide) (by omega)).mpr c_122
                      refine lv_iconst (v := nI 1) hx hb dX10_reckon_181 (by decide +kernel) ?_
                      refine lv_goto (tgt := 186) hx hb dX10_reckon_182 (by decide) ?_
                      refine lv_istore (lv' := [(5, .int (nI 1)), (0, .ref (ad 0)), (1, .int (nI on)), (2, .int (nI tn)), (3, .int (nI an)), (4, .int (nI cn))]) hx hb dX10_reckon_186 hl (by decide) rfl (fun ls hl => ?_)
                      refine lv_iload hx hb dX10_reckon_188 (lv_at hl 0 rfl) ?_
                      refine lv_if_eq (tgt := 205) hx hb dX10_reckon_190 (by decide) (fun c_124 => absurd c_124 (by decide)) (fun c_124 => ?_)
                      refine lv_aload_n hx hb dX10_reckon_193 rfl (lv_at hl 1 rfl) ?_
                      refine lv_sipush (v := nI 1000) hx hb dX10_reckon_194 (by decide +kernel) ?_
                      refine lv_iload_n hx hb dX10_reckon_197 rfl (lv_at hl 3 rfl) ?_
                      refine lv_iadd hx hb dX10_reckon_198 ?_
                      refine lv_topi (fun x_125 e_126 => ?_)
                      obtain rfl : x_125 = nI (1000 + tn) := e_126.trans (nI_add 1000 tn)
                      refine lv_sipush (v := nI 1015) hx hb dX10_reckon_199 (by decide +kernel) ?_
                      refine va_callv (va_runV (As := [.int (nI (1000 + tn)), .int (nI 1015)]) (rest := []) ⟨hx, hb, hml, hown, hts⟩ (c_X10_copyFraction l dC dI A ad cA g_111 (va_up x 0 (nI 0)) pf2_112 qf2_113 (1000 + tn) 1015 hF5 (by omega) (by decide)) (cwV 2 hts (goodIn_app (goodIn_r [Cond.methodLink RX10 136 yX10_copyFraction, Cond.instanceMethod yX10_copyFraction, Cond.selects RX10 yX10_copyFraction yX10_copyFraction, Cond.initialized RX10] [6, 7, 8, 4] rfl rfl) (goodIn_sub (fun w9 h9 => bk2 w9 h9) gw_X10_copyFraction)) rfl rfl rfl (by decide +kernel) ⟨Nat.le_of_ble_eq_true rfl, Nat.le_of_ble_eq_true rfl⟩) ⟨fun a U g mk q => ⟨q.1, q.2.1, q.2.2.1, LY.moved (u := U) (U := U.calling g mk a) (Vm.Alike.refl U.vm) q.2.2.2⟩, va_recv hK hP (ci := 13) (q0 := 0) rfl (wo_at (by decide) f_115), fun U hU hW => ⟨rfl, by rw [hU]; exact fun q h => hA q (Nat.le_trans hS.1 h), by rw [hU]; exact hP, LY.moved hW.alike hL⟩⟩ rfl rfl hl.1 rfl (lv_room (Nat.le_of_ble_eq_true rfl)) dX10_reckon_202 ⟨(Nat.le_of_ble_eq_true rfl), (Nat.le_of_ble_eq_true rfl)⟩) hS (fun q _ h => h) (fun q h => h) (fun u8 t8 H1 locs ht8 hvm8 hw_127 hB hz1 hk1 hS => ?_)
                      obtain ⟨g_128, rfl⟩ : ∃ z, z = u8 := ⟨_, rfl⟩
                      try dsimp only at hw_127 hB
                      rw [ht8] at hB
                      have hP := hB
                      generalize H1 = H at hP hS ⊢
                      obtain ⟨fr_129, hF6⟩ := hw_127
                      have b15 : (pf2_112 1015).natAbs < 2 ^ 1000 ∧ qf2_113 1015 < 2 ^ 1000 := ⟨bl_le.mp (by omega), bl_le.mp (by omega)⟩
                      refine lv_iload hx hb dX10_reckon_205 (lv_at hl 0 rfl) ?_
                      refine W.widen (k := 0) (n := 0) (by omega) (by omega) ?_
                      exact W.zret (v := nI 1) hx hb hr (by decide +kernel) (fun t9 ht9 hW9 => ⟨⟨nI 1, (g_128, va_up x 0 (nI 0)), rfl, ⟨RI.num hI0 hF6 (fun (k : Nat) (hk : (4 ≤ k ∧ k ≤ 11) ∨ k = 16) => (fr_129 k (by omega)).trans ((fr_114 k (by omega)).trans ((fr_104 k (by omega)).trans ((fr_46 k (by omega)).trans ((fr_40 k (by omega)).trans ((fr_34 k (by omega)).trans (rfl))))))) (hVO0.same (fun (k : Nat) (hk : 12 ≤ k ∧ k ≤ 19) => (fr_129 k (by omega)).trans ((fr_114 k (by omega)).trans ((fr_104 k (by omega)).trans ((fr_46 k (by omega)).trans ((fr_40 k (by omega)).trans ((fr_34 k (by omega)).trans (rfl)))))))) (va_up_ne _ _ (by decide)) (va_up_ne _ _ (by decide)) (va_up_ne _ _ (by decide)) (fun f hf => ⟨(va_up_ne _ _ (by omega)).trans (hO5 f (by omega)).1, (va_up_ne _ _ (by omega)).trans (hO5 f (by omega)).2⟩) (hBd.res (fun r9 h9 => by by_cases h8 : r9 = tn; subst h8; exact Or.inr (by rw [va_up_self, va_up_self]; exact b15); exact Or.inl ⟨(va_up_ne _ _ (by omega)).trans (hO5 _ (by omega)).1, (va_up_ne _ _ (by omega)).trans (hO5 _ (by omega)).2⟩) (fun v9 h9 => Or.inl ⟨(va_up_ne _ _ (by omega)).trans (hO5 _ (by omega)).1, (va_up_ne _ _ (by omega)).trans (hO5 _ (by omega)).2⟩)), (va_up_ne _ _ (by decide)), Or.inl (va_up_self _ _ _)⟩, by show va_P (dC, dI) vwCl _ t9.heap; rw [ht9]; exact hP⟩, hS.F ht9⟩) hS.2.2 dX10_reckon_207
                · have c_109 := mt (nI_leI (a := 2) (b := on) (by decide) (by omega)).mpr c_109
                  refine lv_aload_n hx hb dX10_reckon_126 rfl (lv_at hl 0 rfl) ?_
                  refine lv_sipush (v := nI 1015) hx hb dX10_reckon_127 (by decide +kernel) ?_
                  refine lv_sipush (v := nI 1012) hx hb dX10_reckon_130 (by decide +kernel) ?_
                  refine lv_sipush (v := nI 1013) hx hb dX10_reckon_133 (by decide +kernel) ?_
                  refine va_callv (va_runV (As := [.int (nI 1015), .int (nI 1012), .int (nI 1013)]) (rest := []) ⟨hx, hb, hml, hown, hts⟩ (c_X10_addFractions l dC dI A ad cA g_102 (va_up x 0 (nI 0)) p4 q4 1015 1012 1013 hF4 (by decide) (by decide) (by decide) (k_1012 b12) (k_1012 b13)) (cwV 3 hts (goodIn_app (goodIn_r [Cond.methodLink RX10 171 yX10_addFractions, Cond.instanceMethod yX10_addFractions, Cond.selects RX10 yX10_addFractions yX10_addFractions, Cond.initialized RX10] [15, 16, 17, 4] rfl rfl) (goodIn_sub (fun w9 h9 => bk5 w9 h9) gw_X10_addFractions)) rfl rfl rfl (by decide +kernel) ⟨Nat.le_of_ble_eq_true rfl, Nat.le_of_ble_eq_true rfl⟩) ⟨fun a U g mk q => ⟨q.1, q.2.1, q.2.2.1, LY.moved (u := U) (U := U.calling g mk a) (Vm.Alike.refl U.vm) q.2.2.2⟩, va_recv hK hP (ci := 13) (q0 := 0) rfl (wo_at (by decide) f_106), fun U hU hW => ⟨rfl, by rw [hU]; exact fun q h => hA q (Nat.le_trans hS.1 h), by rw [hU]; exact hP, LY.moved hW.alike hL⟩⟩ rfl rfl hl.1 rfl (lv_room (Nat.le_of_ble_eq_true rfl)) dX10_reckon_136 ⟨(Nat.le_of_ble_eq_true rfl), (Nat.le_of_ble_eq_true rfl)⟩) hS (fun q _ h => h) (fun q h => h) (fun u8 t8 H1 locs ht8 hvm8 hw_130 hB hz1 hk1 hS => ?_)
                  obtain ⟨g_131, pf2_132, qf2_133⟩ := u8
                  try dsimp only at hw_130 hB
                  rw [ht8] at hB
                  have hP := hB
                  generalize H1 = H at hP hS ⊢
                  obtain ⟨fr_134, hF5, -, -, ho5⟩ := hw_130
                  have hO5 : ∀ f, f < 1012 → pf2_132 f = pf f ∧ qf2_133 f = qf f := fun f hf => ⟨(ho5 f (by omega) (by omega)).1.trans (hO3 f (by omega) (by omega)).1, (ho5 f (by omega) (by omega)).2.trans (hO3 f (by omega) (by omega)).2⟩
                  have hF5c := hF5
                  obtain ⟨vf5, hV5, hw5⟩ := hF5c
                  have e51 : (vf5 2030).natAbs = (pf2_132 1015).natAbs := congrArg Int.natAbs (hw5 1015 (by decide)).1
                  have e52 : (vf5 2031).natAbs = qf2_133 1015 := by have h9 : vf5 2031 = ((qf2_133 1015 : Nat) : Int) := (hw5 1015 (by decide)).2.1; omega
                  refine lv_goto (tgt := 155) hx hb dX10_reckon_139 (by decide) ?_
                  refine lv_aload_n hx hb dX10_reckon_155 rfl (lv_at hl 0 rfl) ?_
                  refine lv_sipush (v := nI 2030) hx hb dX10_reckon_156 (by decide +kernel) ?_
                  have f_135 : g_131 0 = .inr (13, Rob ad (va_up x 0 (nI 0))) := (fr_134 0 (by omega)).trans f_106
                  refine va_calli (va_runV (As := [.int (nI 2030)]) (rest := []) ⟨hx, hb, hml, hown, hts⟩ (c_X10_bitsOf l dC dI A ad cA g_131 (va_up x 0 (nI 0)) vf5 2030 hV5 (by decide)) (cwV 1 hts (goodIn_app (goodIn_r [Cond.methodLink RX10 117 yX10_bitsOf, Cond.instanceMethod yX10_bitsOf, Cond.selects RX10 yX10_bitsOf yX10_bitsOf, Cond.initialized RX10] [12, 13, 14, 4] rfl rfl) (goodIn_sub (fun w9 h9 => bk4 w9 h9) gw_X10_bitsOf)) rfl rfl rfl (by decide +kernel) ⟨Nat.le_of_ble_eq_true rfl, Nat.le_of_ble_eq_true rfl⟩) ⟨fun a U g mk q => ⟨q.1, q.2.1, q.2.2.1, LY.moved (u := U) (U := U.calling g mk a) (Vm.Alike.refl U.vm) q.2.2.2⟩, va_recv hK hP (ci := 13) (q0 := 0) rfl (wo_at (by decide) f_135), fun U hU hW => ⟨rfl, by rw [hU]; exact fun q h => hA q (Nat.le_trans hS.1 h), by rw [hU]; exact hP, LY.moved hW.alike hL⟩⟩ rfl rfl hl.1 rfl (lv_room (Nat.le_of_ble_eq_true rfl)) dX10_reckon_159 ⟨(Nat.le_of_ble_eq_true rfl), (Nat.le_of_ble_eq_true rfl)⟩) hS (fun q _ h => h) (fun q h => h) (fun r_136 u8 t8 H1 locs ht8 hvm8 hw_137 hB hz1 hk1 hS => ?_)
                  obtain ⟨⟩ := u8
                  try dsimp only at hw_137 hB
                  rw [ht8] at hB
                  have hP := hB
                  generalize H1 = H at hP hS ⊢
                  obtain rfl := hw_137
                  rw [e51]
                  obtain ⟨bp, hbp⟩ : ∃ z9, z9 = bl (pf2_132 1015).natAbs := ⟨_, rfl⟩
                  rw [← hbp]
                  have lbp : bp ≤ 2560 := by rw [hbp, ← e51]; obtain ⟨pn8, ln8, bn8, -, hv8⟩ := hV5; exact bl_le.mpr (by have h8 := (hv8 2030 (by decide)).lt80; rw [pw_two] at h8; exact h8)
                  refine lv_sipush (v := nI 1000) hx hb dX10_reckon_162 (by decide +kernel) ?_
                  refine lv_icmp_gt (tgt := 185) hx hb dX10_reckon_165 (by decide) (fun c_138 => ?_) (fun c_138 => ?_)
                  · have c_138 := (nI_ltI (a := 1000) (b := bp) (by decide) (by omega)).mp c_138
                    refine lv_iconst (v := nI 0) hx hb dX10_reckon_185 (by decide +kernel) ?_
                    refine lv_istore (lv' := [(5, .int (nI 0)), (0, .ref (ad 0)), (1, .int (nI on)), (2, .int (nI tn)), (3, .int (nI an)), (4, .int (nI cn))]) hx hb dX10_reckon_186 hl (by decide) rfl (fun ls hl => ?_)
                    refine lv_iload hx hb dX10_reckon_188 (lv_at hl 0 rfl) ?_
                    refine lv_if_eq (tgt := 205) hx hb dX10_reckon_190 (by decide) (fun c_139 => ?_) (fun c_139 => absurd c_139 (by decide))
                    refine lv_iload hx hb dX10_reckon_205 (lv_at hl 0 rfl) ?_
                    refine W.widen (k := 0) (n := 0) (by omega) (by omega) ?_
                    exact W.zret (v := nI 0) hx hb hr (by decide +kernel) (fun t9 ht9 hW9 => ⟨⟨nI 0, (g_131, va_up x 0 (nI 0)), rfl, ⟨RI.num hI0 hF5 (fun (k : Nat) (hk : (4 ≤ k ∧ k ≤ 11) ∨ k = 16) => (fr_134 k (by omega)).trans ((fr_104 k (by omega)).trans ((fr_46 k (by omega)).trans ((fr_40 k (by omega)).trans ((fr_34 k (by omega)).trans (rfl)))))) (hVO0.same (fun (k : Nat) (hk : 12 ≤ k ∧ k ≤ 19) => (fr_134 k (by omega)).trans ((fr_104 k (by omega)).trans ((fr_46 k (by omega)).trans ((fr_40 k (by omega)).trans ((fr_34 k (by omega)).trans (rfl))))))) (va_up_ne _ _ (by decide)) (va_up_ne _ _ (by decide)) (va_up_ne _ _ (by decide)) (fun f hf => hO5 f (by omega)) (hBd.res (fun r9 h9 => Or.inl (hO5 _ (by omega))) (fun v9 h9 => Or.inl (hO5 _ (by omega)))), (va_up_ne _ _ (by decide)), Or.inl (va_up_self _ _ _)⟩, by show va_P (dC, dI) vwCl _ t9.heap; rw [ht9]; exact hP⟩, hS.F ht9⟩) hS.2.2 dX10_reckon_207
                  · have c_138 := mt (nI_ltI (a := 1000) (b := bp) (by decide) (by omega)).mpr c_138
                    refine lv_aload_n hx hb dX10_reckon_168 rfl (lv_at hl 0 rfl) ?_
                    refine lv_sipush (v := nI 2031) hx hb dX10_reckon_169 (by decide +kernel) ?_
                    refine va_calli (va_runV (As := [.int (nI 2031)]) (rest := []) ⟨hx, hb, hml, hown, hts⟩ (c_X10_bitsOf l dC dI A ad cA g_131 (va_up x 0 (nI 0)) vf5 2031 hV5 (by decide)) (cwV 1 hts (goodIn_app (goodIn_r [Cond.methodLink RX10 117 yX10_bitsOf, Cond.instanceMethod yX10_bitsOf, Cond.selects RX10 yX10_bitsOf yX10_bitsOf, Cond.initialized RX10] [12, 13, 14, 4] rfl rfl) (goodIn_sub (fun w9 h9 => bk4 w9 h9) gw_X10_bitsOf)) rfl rfl rfl (by decide +kernel) ⟨Nat.le_of_ble_eq_true rfl, Nat.le_of_ble_eq_true rfl⟩) ⟨fun a U g mk q => ⟨q.1, q.2.1, q.2.2.1, LY.moved (u := U) (U := U.calling g mk a) (Vm.Alike.refl U.vm) q.2.2.2⟩, va_recv hK hP (ci := 13) (q0 := 0) rfl (wo_at (by decide) f_135), fun U hU hW => ⟨rfl, by rw [hU]; exact fun q h => hA q (Nat.le_trans hS.1 h), by rw [hU]; exact hP, LY.moved hW.alike hL⟩⟩ rfl rfl hl.1 rfl (lv_room (Nat.le_of_ble_eq_true rfl)) dX10_reckon_172 ⟨(Nat.le_of_ble_eq_true rfl), (Nat.le_of_ble_eq_true rfl)⟩) hS (fun q _ h => h) (fun q h => h) (fun r_140 u8 t8 H1 locs ht8 hvm8 hw_141 hB hz1 hk1 hS => ?_)
                    obtain ⟨⟩ := u8
                    try dsimp only at hw_141 hB
                    rw [ht8] at hB
                    have hP := hB
                    generalize H1 = H at hP hS ⊢
                    obtain rfl := hw_141
                    rw [e52]
                    obtain ⟨bq, hbq⟩ : ∃ z9, z9 = bl (qf2_133 1015) := ⟨_, rfl⟩
                    rw [← hbq]
                    have lbq : bq ≤ 2560 := by rw [hbq, ← e52]; obtain ⟨pn8, ln8, bn8, -, hv8⟩ := hV5; exact bl_le.mpr (by have h8 := (hv8 2031 (by decide)).lt80; rw [pw_two] at h8; exact h8)
                    refine lv_sipush (v := nI 1000) hx hb dX10_reckon_175 (by decide +kernel) ?_
                    refine lv_icmp_gt (tgt := 185) hx hb dX10_reckon_178 (by decide) (fun c_142 => ?_) (fun c_142 => ?_)
                    · have c_142 := (nI_ltI (a := 1000) (b := bq) (by decide) (by omega)).mp c_142
                      refine lv_iconst (v := nI 0) hx hb dX10_reckon_185 (by decide +kernel) ?_
                      refine lv_istore (lv' := [(5, .int (nI 0)), (0, .ref (ad 0)), (1, .int (nI on)), (2, .int (nI tn)), (3, .int (nI an)), (4, .int (nI cn))]) hx hb dX10_reckon_186 hl (by decide) rfl (fun ls hl => ?_)
                      refine lv_iload hx hb dX10_reckon_188 (lv_at hl 0 rfl) ?_
                      refine lv_if_eq (tgt := 205) hx hb dX10_reckon_190 (by decide) (fun c_143 => ?_) (fun c_143 => absurd c_143 (by decide))
                      refine lv_iload hx hb dX10_reckon_205 (lv_at hl 0 rfl) ?_
                      refine W.widen (k := 0) (n := 0) (by omega) (by omega) ?_
                      exact W.zret (v := nI 0) hx hb hr (by decide +kernel) (fun t9 ht9 hW9 => ⟨⟨nI 0, (g_131, va_up x 0 (nI 0)), rfl, ⟨RI.num hI0 hF5 (fun (k : Nat) (hk : (4 ≤ k ∧ k ≤ 11) ∨ k = 16) => (fr_134 k (by omega)).trans ((fr_104 k (by omega)).trans ((fr_46 k (by omega)).trans ((fr_40 k (by omega)).trans ((fr_34 k (by omega)).trans (rfl)))))) (hVO0.same (fun (k : Nat) (hk : 12 ≤ k ∧ k ≤ 19) => (fr_134 k (by omega)).trans ((fr_104 k (by omega)).trans ((fr_46 k (by omega)).trans ((fr_40 k (by omega)).trans ((fr_34 k (by omega)).trans (rfl))))))) (va_up_ne _ _ (by decide)) (va_up_ne _ _ (by decide)) (va_up_ne _ _ (by decide)) (fun f hf => hO5 f (by omega)) (hBd.res (fun r9 h9 => Or.inl (hO5 _ (by omega))) (fun v9 h9 => Or.inl (hO5 _ (by omega)))), (va_up_ne _ _ (by decide)), Or.inl (va_up_self _ _ _)⟩, by show va_P (dC, dI) vwCl _ t9.heap; rw [ht9]; exact hP⟩, hS.F ht9⟩) hS.2.2 dX10_reckon_207
                    · have c_142 := mt (nI_ltI (a := 1000) (b := bq) (by decide) (by omega)).mpr c_142
                      refine lv_iconst (v := nI 1) hx hb dX10_reckon_181 (by decide +kernel) ?_
                      refine lv_goto (tgt := 186) hx hb dX10_reckon_182 (by decide) ?_
                      refine lv_istore (lv' := [(5, .int (nI 1)), (0, .ref (ad 0)), (1, .int (nI on)), (2, .int (nI tn)), (3, .int (nI an)), (4, .int (nI cn))]) hx hb dX10_reckon_186 hl (by decide) rfl (fun ls hl => ?_)
                      refine lv_iload hx hb dX10_reckon_188 (lv_at hl 0 rfl) ?_
                      refine lv_if_eq (tgt := 205) hx hb dX10_reckon_190 (by decide) (fun c_144 => absurd c_144 (by decide)) (fun c_144 => ?_)
                      refine lv_aload_n hx hb dX10_reckon_193 rfl (lv_at hl 1 rfl) ?_
                      refine lv_sipush (v := nI 1000) hx hb dX10_reckon_194 (by decide +kernel) ?_
                      refine lv_iload_n hx hb dX10_reckon_197 rfl (lv_at hl 3 rfl) ?_
                      refine lv_iadd hx hb dX10_reckon_198 ?_
                      refine lv_topi (fun x_145 e_146 => ?_)
                      obtain rfl : x_145 = nI (1000 + tn) := e_146.trans (nI_add 1000 tn)
                      refine lv_sipush (v := nI 1015) hx hb dX10_reckon_199 (by decide +kernel) ?_
                      refine va_callv (va_runV (As := [.int (nI (1000 + tn)), .int (nI 1015)]) (rest := []) ⟨hx, hb, hml, hown, hts⟩ (c_X10_copyFraction l dC dI A ad cA g_131 (va_up x 0 (nI 0)) pf2_132 qf2_133 (1000 + tn) 1015 hF5 (by omega) (by decide)) (cwV 2 hts (goodIn_app (goodIn_r [Cond.methodLink RX10 136 yX10_copyFraction, Cond.instanceMethod yX10_copyFraction, Cond.selects RX10 yX10_copyFraction yX10_copyFraction, Cond.initialized RX10] [6, 7, 8, 4] rfl rfl) (goodIn_sub (fun w9 h9 => bk2 w9 h9) gw_X10_copyFraction)) rfl rfl rfl (by decide +kernel) ⟨Nat.le_of_ble_eq_true rfl, Nat.le_of_ble_eq_true rfl⟩) ⟨fun a U g mk q => ⟨q.1, q.2.1, q.2.2.1, LY.moved (u := U) (U := U.calling g mk a) (Vm.Alike.refl U.vm) q.2.2.2⟩, va_recv hK hP (ci := 13) (q0 := 0) rfl (wo_at (by decide) f_135), fun U hU hW => ⟨rfl, by rw [hU]; exact fun q h => hA q (Nat.le_trans hS.1 h), by rw [hU]; exact hP, LY.moved hW.alike hL⟩⟩ rfl rfl hl.1 rfl (lv_room (Nat.le_of_ble_eq_true rfl)) dX10_reckon_202 ⟨(Nat.le_of_ble_eq_true rfl), (Nat.le_of_ble_eq_true rfl)⟩) hS (fun q _ h => h) (fun q h => h) (fun u8 t8 H1 locs ht8 hvm8 hw_147 hB hz1 hk1 hS => ?_)
                      obtain ⟨g_148, rfl⟩ : ∃ z, z = u8 := ⟨_, rfl⟩
                      try dsimp only at hw_147 hB
                      rw [ht8] at hB
                      have hP := hB
                      generalize H1 = H at hP hS ⊢
                      obtain ⟨fr_149, hF6⟩ := hw_147
                      have b15 : (pf2_132 1015).natAbs < 2 ^ 1000 ∧ qf2_133 1015 < 2 ^ 1000 := ⟨bl_le.mp (by omega), bl_le.mp (by omega)⟩
                      refine lv_iload hx hb dX10_reckon_205 (lv_at hl 0 rfl) ?_
                      refine W.widen (k := 0) (n := 0) (by omega) (by omega) ?_
                      exact W.zret (v := nI 1) hx hb hr (by decide +kernel) (fun t9 ht9 hW9 => ⟨⟨nI 1, (g_148, va_up x 0 (nI 0)), rfl, ⟨RI.num hI0 hF6 (fun (k : Nat) (hk : (4 ≤ k ∧ k ≤ 11) ∨ k = 16) => (fr_149 k (by omega)).trans ((fr_134 k (by omega)).trans ((fr_104 k (by omega)).trans ((fr_46 k (by omega)).trans ((fr_40 k (by omega)).trans ((fr_34 k (by omega)).trans (rfl))))))) (hVO0.same (fun (k : Nat) (hk : 12 ≤ k ∧ k ≤ 19) => (fr_149 k (by omega)).trans ((fr_134 k (by omega)).trans ((fr_104 k (by omega)).trans ((fr_46 k (by omega)).trans ((fr_40 k (by omega)).trans ((fr_34 k (by omega)).trans (rfl)))))))) (va_up_ne _ _ (by decide)) (va_up_ne _ _ (by decide)) (va_up_ne _ _ (by decide)) (fun f hf => ⟨(va_up_ne _ _ (by omega)).trans (hO5 f (by omega)).1, (va_up_ne _ _ (by omega)).trans (hO5 f (by omega)).2⟩) (hBd.res (fun r9 h9 => by by_cases h8 : r9 = tn; subst h8; exact Or.inr (by rw [va_up_self, va_up_self]; exact b15); exact Or.inl ⟨(va_up_ne _ _ (by omega)).trans (hO5 _ (by omega)).1, (va_up_ne _ _ (by omega)).trans (hO5 _ (by omega)).2⟩) (fun v9 h9 => Or.inl ⟨(va_up_ne _ _ (by omega)).trans (hO5 _ (by omega)).1, (va_up_ne _ _ (by omega)).trans (hO5 _ (by omega)).2⟩)), (va_up_ne _ _ (by decide)), Or.inl (va_up_self _ _ _)⟩, by show va_P (dC, dI) vwCl _ t9.heap; rw [ht9]; exact hP⟩, hS.F ht9⟩) hS.2.2 dX10_reckon_207
              · have c_101 := mt (nI_leI (a := (lnz_92 2026)) (b := 0) (by omega) (by decide)).mpr c_101
                refine lv_aload_n hx hb dX10_reckon_104 rfl (lv_at hl 0 rfl) ?_
                refine m_get (D := (dC, dI)) (v := .ref (ad 3)) (C := RX10) (T := TX10) (N := 29) hx hb hts bk1 hown hK hP 0 (by decide) r_93 rfl 3 (by decide) (hts (.fieldLink RX10 18 "GradientDeskModel" "below" "[Z") (List.mem_of_getElem? (i := 18) rfl)) (fun _ h9 => h9) rfl dX10_reckon_105 ?_
                refine lv_sipush (v := nI 2026) hx hb dX10_reckon_108 (by decide +kernel) ?_
                refine m_zald hx hb hK hP 3 (by decide) rfl r_96 (i := 2026) (by decide) (by decide) dX10_reckon_111 ?_
                have b_150 := r_99 2026
                refine lv_if_ne (tgt := 119) hx hb dX10_reckon_112 (by decide) (fun c_151 => ?_) (fun c_151 => ?_)
                · have c_151 := mt (nI_eq (a := (bnz_92 2026)) (b := 0) (by omega) (by decide)).mpr c_151
                  refine lv_iconst (v := nI 0) hx hb dX10_reckon_119 (by decide +kernel) ?_
                  refine m_zast hx hb hK hP hD hS 3 (by decide) rfl r_96 (i := 2026) (x := nI 0) (y := nI 0) (by decide +kernel) (by decide) (by decide) dX10_reckon_120 (fun H locs g_152 f_153 fr_154 hP hS => ?_)
                  rw [k_updI] at f_153
                  have b_155 : ∀ j, (va_up bnz_92 2026 0) j < 2 := k_up_lt r_99 (by omega)
                  have f_153 : g_152 3 = .inl (cA 3, 2068, .inl (fun j => nI ((va_up bnz_92 2026 0) j))) := f_153
                  have f_156 : g_152 0 = .inr (13, Rob ad (va_up x 0 (nI 0))) := (fr_154 0 (by omega)).trans r_93
                  have f_157 : g_152 1 = .inl (cA 1, 165440, .inr (.inl (fun j => lN (pnz_92 j)))) := (fr_154 1 (by omega)).trans r_94
                  have f_158 : g_152 2 = .inl (cA 2, 2068, .inl (fun j => nI (lnz_92 j))) := (fr_154 2 (by omega)).trans r_95
                  have hV4 : RV ad cA g_152 (va_up x 0 (nI 0)) (va_up vf3 2026 (-(vf3 2026))) := RV.sign (⟨f_156, f_157, f_158, f_153, r_97, r_98, b_155⟩ : RN ad cA g_152 (va_up x 0 (nI 0)) pnz_92 lnz_92 (va_up bnz_92 2026 0)) hvz_92 (by decide) (Int.natAbs_neg _) (by omega)
                  have hF4 : RF ad cA g_152 (va_up x 0 (nI 0)) (va_up p3 1013 (-(p3 1013))) (va_up q3 1013 (q3 1013)) := RF.up hV4 hw3 (fun f hf hne => ⟨va_up_ne _ _ (by omega), va_up_ne _ _ (by omega)⟩) ((va_up_self _ _ _).trans (congrArg (fun z => -z) (hw3 1013 (by decide)).1)) ((va_up_ne _ _ (by decide)).trans (hw3 1013 (by decide)).2.1) ⟨(hw3 1013 (by decide)).2.2.1, by rw [Int.natAbs_neg]; exact (hw3 1013 (by decide)).2.2.2⟩
                  obtain ⟨p4, hp4⟩ : ∃ z9, z9 = va_up p3 1013 (-(p3 1013)) := ⟨_, rfl⟩
                  obtain ⟨q4, hq4⟩ : ∃ z9, z9 = va_up q3 1013 (q3 1013) := ⟨_, rfl⟩
                  rw [← hp4, ← hq4] at hF4
                  have b12 : (p4 1012).natAbs < 2 ^ 1000 ∧ q4 1012 < 2 ^ 1000 := by rw [hp4, hq4, va_up_ne _ _ (by decide), va_up_ne _ _ (by decide)]; exact b12
                  have b13 : (p4 1013).natAbs < 2 ^ 1000 ∧ q4 1013 < 2 ^ 1000 := by rw [hp4, hq4, va_up_self, va_up_self, Int.natAbs_neg]; exact b13
                  have hO3 : ∀ f, f ≠ 1012 → f ≠ 1013 → p4 f = pf f ∧ q4 f = qf f := fun f h1 h2 => by rw [hp4, hq4, va_up_ne _ _ h2, va_up_ne _ _ h2]; exact hO3 f h1 h2
                  refine lv_iload_n hx hb dX10_reckon_121 rfl (lv_at hl 1 rfl) ?_
                  refine lv_iconst (v := nI 2) hx hb dX10_reckon_122 (by decide +kernel) ?_
                  refine lv_icmp_ge (tgt := 142) hx hb dX10_reckon_123 (by decide) (fun c_159 => ?_) (fun c_159 => ?_)
                  · have c_159 := (nI_leI (a := 2) (b := on) (by decide) (by omega)).mp c_159
                    refine lv_aload_n hx hb dX10_reckon_142 rfl (lv_at hl 0 rfl) ?_
                    refine lv_sipush (v := nI 1015) hx hb dX10_reckon_143 (by decide +kernel) ?_
                    refine lv_sipush (v := nI 1012) hx hb dX10_reckon_146 (by decide +kernel) ?_
                    refine lv_sipush (v := nI 1013) hx hb dX10_reckon_149 (by decide +kernel) ?_
                    refine va_callv (va_runV (As := [.int (nI 1015), .int (nI 1012), .int (nI 1013)]) (rest := []) ⟨hx, hb, hml, hown, hts⟩ (c_X10_timesFractions l dC dI A ad cA g_152 (va_up x 0 (nI 0)) p4 q4 1015 1012 1013 hF4 (by decide) (by decide) (by decide) (k_1012 b12) (k_1012 b13)) (cwV 3 hts (goodIn_app (goodIn_r [Cond.methodLink RX10 143 yX10_timesFractions, Cond.instanceMethod yX10_timesFractions, Cond.selects RX10 yX10_timesFractions yX10_timesFractions, Cond.initialized RX10] [9, 10, 11, 4] rfl rfl) (goodIn_sub (fun w9 h9 => bk3 w9 h9) gw_X10_timesFractions)) rfl rfl rfl (by decide +kernel) ⟨Nat.le_of_ble_eq_true rfl, Nat.le_of_ble_eq_true rfl⟩) ⟨fun a U g mk q => ⟨q.1, q.2.1, q.2.2.1, LY.moved (u := U) (U := U.calling g mk a) (Vm.Alike.refl U.vm) q.2.2.2⟩, va_recv hK hP (ci := 13) (q0 := 0) rfl (wo_at (by decide) f_156), fun U hU hW => ⟨rfl, by rw [hU]; exact fun q h => hA q (Nat.le_trans hS.1 h), by rw [hU]; exact hP, LY.moved hW.alike hL⟩⟩ rfl rfl hl.1 rfl (lv_room (Nat.le_of_ble_eq_true rfl)) dX10_reckon_152 ⟨(Nat.le_of_ble_eq_true rfl), (Nat.le_of_ble_eq_true rfl)⟩) hS (fun q _ h => h) (fun q h => h) (fun u8 t8 H1 locs ht8 hvm8 hw_160 hB hz1 hk1 hS => ?_)
                    obtain ⟨g_161, pf2_162, qf2_163⟩ := u8
                    try dsimp only at hw_160 hB
                    rw [ht8] at hB
                    have hP := hB
                    generalize H1 = H at hP hS ⊢
                    obtain ⟨fr_164, hF5, -, -, ho5⟩ := hw_160
                    have hO5 : ∀ f, f < 1012 → pf2_162 f = pf f ∧ qf2_163 f = qf f := fun f hf => ⟨(ho5 f (by omega) (by omega)).1.trans (hO3 f (by omega) (by omega)).1, (ho5 f (by omega) (by omega)).2.trans (hO3 f (by omega) (by omega)).2⟩
                    have hF5c := hF5
                    obtain ⟨vf5, hV5, hw5⟩ := hF5c
                    have e51 : (vf5 2030).natAbs = (pf2_162 1015).natAbs := congrArg Int.natAbs (hw5 1015 (by decide)).1
                    have e52 : (vf5 2031).natAbs = qf2_163 1015 := by have h9 : vf5 2031 = ((qf2_163 1015 : Nat) : Int) := (hw5 1015 (by decide)).2.1; omega
                    refine lv_aload_n hx hb dX10_reckon_155 rfl (lv_at hl 0 rfl) ?_
                    refine lv_sipush (v := nI 2030) hx hb dX10_reckon_156 (by decide +kernel) ?_
                    have f_165 : g_161 0 = .inr (13, Rob ad (va_up x 0 (nI 0))) := (fr_164 0 (by omega)).trans f_156
                    refine va_calli (va_runV (As := [.int (nI 2030)]) (rest := []) ⟨hx, hb, hml, hown, hts⟩ (c_X10_bitsOf l dC dI A ad cA g_161 (va_up x 0 (nI 0)) vf5 2030 hV5 (by decide)) (cwV 1 hts (goodIn_app (goodIn_r [Cond.methodLink RX10 117 yX10_bitsOf, Cond.instanceMethod yX10_bitsOf, Cond.selects RX10 yX10_bitsOf yX10_bitsOf, Cond.initialized RX10] [12, 13, 14, 4] rfl rfl) (goodIn_sub (fun w9 h9 => bk4 w9 h9) gw_X10_bitsOf)) rfl rfl rfl (by decide +kernel) ⟨Nat.le_of_ble_eq_true rfl, Nat.le_of_ble_eq_true rfl⟩) ⟨fun a U g mk q => ⟨q.1, q.2.1, q.2.2.1, LY.moved (u := U) (U := U.calling g mk a) (Vm.Alike.refl U.vm) q.2.2.2⟩, va_recv hK hP (ci := 13) (q0 := 0) rfl (wo_at (by decide) f_165), fun U hU hW => ⟨rfl, by rw [hU]; exact fun q h => hA q (Nat.le_trans hS.1 h), by rw [hU]; exact hP, LY.moved hW.alike hL⟩⟩ rfl rfl hl.1 rfl (lv_room (Nat.le_of_ble_eq_true rfl)) dX10_reckon_159 ⟨(Nat.le_of_ble_eq_true rfl), (Nat.le_of_ble_eq_true rfl)⟩) hS (fun q _ h => h) (fun q h => h) (fun r_166 u8 t8 H1 locs ht8 hvm8 hw_167 hB hz1 hk1 hS => ?_)
                    obtain ⟨⟩ := u8
                    try dsimp only at hw_167 hB
                    rw [ht8] at hB
                    have hP := hB
                    generalize H1 = H at hP hS ⊢
                    obtain rfl := hw_167
                    rw [e51]
                    obtain ⟨bp, hbp⟩ : ∃ z9, z9 = bl (pf2_162 1015).natAbs := ⟨_, rfl⟩
                    rw [← hbp]
                    have lbp : bp ≤ 2560 := by rw [hbp, ← e51]; obtain ⟨pn8, ln8, bn8, -, hv8⟩ := hV5; exact bl_le.mpr (by have h8 := (hv8 2030 (by decide)).lt80; rw [pw_two] at h8; exact h8)
                    refine lv_sipush (v := nI 1000) hx hb dX10_reckon_162 (by decide +kernel) ?_
                    refine lv_icmp_gt (tgt := 185) hx hb dX10_reckon_165 (by decide) (fun c_168 => ?_) (fun c_168 => ?_)
                    · have c_168 := (nI_ltI (a := 1000) (b := bp) (by decide) (by omega)).mp c_168
                      refine lv_iconst (v := nI 0) hx hb dX10_reckon_185 (by decide +kernel) ?_
                      refine lv_istore (lv' := [(5, .int (nI 0)), (0, .ref (ad 0)), (1, .int (nI on)), (2, .int (nI tn)), (3, .int (nI an)), (4, .int (nI cn))]) hx hb dX10_reckon_186 hl (by decide) rfl (fun ls hl => ?_)
                      refine lv_iload hx hb dX10_reckon_188 (lv_at hl 0 rfl) ?_
                      refine lv_if_eq (tgt := 205) hx hb dX10_reckon_190 (by decide) (fun c_169 => ?_) (fun c_169 => absurd c_169 (by decide))
                      refine lv_iload hx hb dX10_reckon_205 (lv_at hl 0 rfl) ?_
                      refine W.widen (k := 0) (n := 0) (by omega) (by omega) ?_
                      exact W.zret (v := nI 0) hx hb hr (by decide +kernel) (fun t9 ht9 hW9 => ⟨⟨nI 0, (g_161, va_up x 0 (nI 0)), rfl, ⟨RI.num hI0 hF5 (fun (k : Nat) (hk : (4 ≤ k ∧ k ≤ 11) ∨ k = 16) => (fr_164 k (by omega)).trans ((fr_154 k (by omega)).trans ((fr_46 k (by omega)).trans ((fr_40 k (by omega)).trans ((fr_34 k (by omega)).trans (rfl)))))) (hVO0.same (fun (k : Nat) (hk : 12 ≤ k ∧ k ≤ 19) => (fr_164 k (by omega)).trans ((fr_154 k (by omega)).trans ((fr_46 k (by omega)).trans ((fr_40 k (by omega)).trans ((fr_34 k (by omega)).trans (rfl))))))) (va_up_ne _ _ (by decide)) (va_up_ne _ _ (by decide)) (va_up_ne _ _ (by decide)) (fun f hf => hO5 f (by omega)) (hBd.res (fun r9 h9 => Or.inl (hO5 _ (by omega))) (fun v9 h9 => Or.inl (hO5 _ (by omega)))), (va_up_ne _ _ (by decide)), Or.inl (va_up_self _ _ _)⟩, by show va_P (dC, dI) vwCl _ t9.heap; rw [ht9]; exact hP⟩, hS.F ht9⟩) hS.2.2 dX10_reckon_207
                    · have c_168 := mt (nI_ltI (a := 1000) (b := bp) (by decide) (by omega)).mpr c_168
                      refine lv_aload_n hx hb dX10_reckon_168 rfl (lv_at hl 0 rfl) ?_
                      refine lv_sipush (v := nI 2031) hx hb dX10_reckon_169 (by decide +kernel) ?_
                      refine va_calli (va_runV (As := [.int (nI 2031)]) (rest := []) ⟨hx, hb, hml, hown, hts⟩ (c_X10_bitsOf l dC dI A ad cA g_161 (va_up x 0 (nI 0)) vf5 2031 hV5 (by decide)) (cwV 1 hts (goodIn_app (goodIn_r [Cond.methodLink RX10 117 yX10_bitsOf, Cond.instanceMethod yX10_bitsOf, Cond.selects RX10 yX10_bitsOf yX10_bitsOf, Cond.initialized RX10] [12, 13, 14, 4] rfl rfl) (goodIn_sub (fun w9 h9 => bk4 w9 h9) gw_X10_bitsOf)) rfl rfl rfl (by decide +kernel) ⟨Nat.le_of_ble_eq_true rfl, Nat.le_of_ble_eq_true rfl⟩) ⟨fun a U g mk q => ⟨q.1, q.2.1, q.2.2.1, LY.moved (u := U) (U := U.calling g mk a) (Vm.Alike.refl U.vm) q.2.2.2⟩, va_recv hK hP (ci := 13) (q0 := 0) rfl (wo_at (by decide) f_165), fun U hU hW => ⟨rfl, by rw [hU]; exact fun q h => hA q (Nat.le_trans hS.1 h), by rw [hU]; exact hP, LY.moved hW.alike hL⟩⟩ rfl rfl hl.1 rfl (lv_room (Nat.le_of_ble_eq_true rfl)) dX10_reckon_172 ⟨(Nat.le_of_ble_eq_true rfl), (Nat.le_of_ble_eq_true rfl)⟩) hS (fun q _ h => h) (fun q h => h) (fun r_170 u8 t8 H1 locs ht8 hvm8 hw_171 hB hz1 hk1 hS => ?_)
                      obtain ⟨⟩ := u8
                      try dsimp only at hw_171 hB
                      rw [ht8] at hB
                      have hP := hB
                      generalize H1 = H at hP hS ⊢
                      obtain rfl := hw_171
                      rw [e52]
                      obtain ⟨bq, hbq⟩ : ∃ z9, z9 = bl (qf2_163 1015) := ⟨_, rfl⟩
                      rw [← hbq]
                      have lbq : bq ≤ 2560 := by rw [hbq, ← e52]; obtain ⟨pn8, ln8, bn8, -, hv8⟩ := hV5; exact bl_le.mpr (by have h8 := (hv8 2031 (by decide)).lt80; rw [pw_two] at h8; exact h8)
                      refine lv_sipush (v := nI 1000) hx hb dX10_reckon_175 (by decide +kernel) ?_
                      refine lv_icmp_gt (tgt := 185) hx hb dX10_reckon_178 (by decide) (fun c_172 => ?_) (fun c_172 => ?_)
                      · have c_172 := (nI_ltI (a := 1000) (b := bq) (by decide) (by omega)).mp c_172
                        refine lv_iconst (v := nI 0) hx hb dX10_reckon_185 (by decide +kernel) ?_
                        refine lv_istore (lv' := [(5, .int (nI 0)), (0, .ref (ad 0)), (1, .int (nI on)), (2, .int (nI tn)), (3, .int (nI an)), (4, .int (nI cn))]) hx hb dX10_reckon_186 hl (by decide) rfl (fun ls hl => ?_)
                        refine lv_iload hx hb dX10_reckon_188 (lv_at hl 0 rfl) ?_
                        refine lv_if_eq (tgt := 205) hx hb dX10_reckon_190 (by decide) (fun c_173 => ?_) (fun c_173 => absurd c_173 (by decide))
                        refine lv_iload hx hb dX10_reckon_205 (lv_at hl 0 rfl) ?_
                        refine W.widen (k := 0) (n := 0) (by omega) (by omega) ?_
                        exact W.zret (v := nI 0) hx hb hr (by decide +kernel) (fun t9 ht9 hW9 => ⟨⟨nI 0, (g_161, va_up x 0 (nI 0)), rfl, ⟨RI.num hI0 hF5 (fun (k : Nat) (hk : (4 ≤ k ∧ k ≤ 11) ∨ k = 16) => (fr_164 k (by omega)).trans ((fr_154 k (by omega)).trans ((fr_46 k (by omega)).trans ((fr_40 k (by omega)).trans ((fr_34 k (by omega)).trans (rfl)))))) (hVO0.same (fun (k : Nat) (hk : 12 ≤ k ∧ k ≤ 19) => (fr_164 k (by omega)).trans ((fr_154 k (by omega)).trans ((fr_46 k (by omega)).trans ((fr_40 k (by omega)).trans ((fr_34 k (by omega)).trans (rfl))))))) (va_up_ne _ _ (by decide)) (va_up_ne _ _ (by decide)) (va_up_ne _ _ (by decide)) (fun f hf => hO5 f (by omega)) (hBd.res (fun r9 h9 => Or.inl (hO5 _ (by omega))) (fun v9 h9 => Or.inl (hO5 _ (by omega)))), (va_up_ne _ _ (by decide)), Or.inl (va_up_self _ _ _)⟩, by show va_P (dC, dI) vwCl _ t9.heap; rw [ht9]; exact hP⟩, hS.F ht9⟩) hS.2.2 dX10_reckon_207
                      · have c_172 := mt (nI_ltI (a := 1000) (b := bq) (by decide) (by omega)).mpr c_172
                        refine lv_iconst (v := nI 1) hx hb dX10_reckon_181 (by decide +kernel) ?_
                        refine lv_goto (tgt := 186) hx hb dX10_reckon_182 (by decide) ?_
                        refine lv_istore (lv' := [(5, .int (nI 1)), (0, .ref (ad 0)), (1, .int (nI on)), (2, .int (nI tn)), (3, .int (nI an)), (4, .int (nI cn))]) hx hb dX10_reckon_186 hl (by decide) rfl (fun ls hl => ?_)
                        refine lv_iload hx hb dX10_reckon_188 (lv_at hl 0 rfl) ?_
                        refine lv_if_eq (tgt := 205) hx hb dX10_reckon_190 (by decide) (fun c_174 => absurd c_174 (by decide)) (fun c_174 => ?_)
                        refine lv_aload_n hx hb dX10_reckon_193 rfl (lv_at hl 1 rfl) ?_
                        refine lv_sipush (v := nI 1000) hx hb dX10_reckon_194 (by decide +kernel) ?_
                        refine lv_iload_n hx hb dX10_reckon_197 rfl (lv_at hl 3 rfl) ?_
                        refine lv_iadd hx hb dX10_reckon_198 ?_
                        refine lv_topi (fun x_175 e_176 => ?_)
                        obtain rfl : x_175 = nI (1000 + tn) := e_176.trans (nI_add 1000 tn)
                        refine lv_sipush (v := nI 1015) hx hb dX10_reckon_199 (by decide +kernel) ?_
                        refine va_callv (va_runV (As := [.int (nI (1000 + tn)), .int (nI 1015)]) (rest := []) ⟨hx, hb, hml, hown, hts⟩ (c_X10_copyFraction l dC dI A ad cA g_161 (va_up x 0 (nI 0)) pf2_162 qf2_163 (1000 + tn) 1015 hF5 (by omega) (by decide)) (cwV 2 hts (goodIn_app (goodIn_r [Cond.methodLink RX10 136 yX10_copyFraction, Cond.instanceMethod yX10_copyFraction, Cond.selects RX10 yX10_copyFraction yX10_copyFraction, Cond.initialized RX10] [6, 7, 8, 4] rfl rfl) (goodIn_sub (fun w9 h9 => bk2 w9 h9) gw_X10_copyFraction)) rfl rfl rfl (by decide +kernel) ⟨Nat.le_of_ble_eq_true rfl, Nat.le_of_ble_eq_true rfl⟩) ⟨fun a U g mk q => ⟨q.1, q.2.1, q.2.2.1, LY.moved (u := U) (U := U.calling g mk a) (Vm.Alike.refl U.vm) q.2.2.2⟩, va_recv hK hP (ci := 13) (q0 := 0) rfl (wo_at (by decide) f_165), fun U hU hW => ⟨rfl, by rw [hU]; exact fun q h => hA q (Nat.le_trans hS.1 h), by rw [hU]; exact hP, LY.moved hW.alike hL⟩⟩ rfl rfl hl.1 rfl (lv_room (Nat.le_of_ble_eq_true rfl)) dX10_reckon_202 ⟨(Nat.le_of_ble_eq_true rfl), (Nat.le_of_ble_eq_true rfl)⟩) hS (fun q _ h => h) (fun q h => h) (fun u8 t8 H1 locs ht8 hvm8 hw_177 hB hz1 hk1 hS => ?_)
                        obtain ⟨g_178, rfl⟩ : ∃ z, z = u8 := ⟨_, rfl⟩
                        try dsimp only at hw_177 hB
                        rw [ht8] at hB
                        have hP := hB
                        generalize H1 = H at hP hS ⊢
                        obtain ⟨fr_179, hF6⟩ := hw_177
                        have b15 : (pf2_162 1015).natAbs < 2 ^ 1000 ∧ qf2_163 1015 < 2 ^ 1000 := ⟨bl_le.mp (by omega), bl_le.mp (by omega)⟩
                        refine lv_iload hx hb dX10_reckon_205 (lv_at hl 0 rfl) ?_
                        refine W.widen (k := 0) (n := 0) (by omega) (by omega) ?_
                        exact W.zret (v := nI 1) hx hb hr (by decide +kernel) (fun t9 ht9 hW9 => ⟨⟨nI 1, (g_178, va_up x 0 (nI 0)), rfl, ⟨RI.num hI0 hF6 (fun (k : Nat) (hk : (4 ≤ k ∧ k ≤ 11) ∨ k = 16) => (fr_179 k (by omega)).trans ((fr_164 k (by omega)).trans ((fr_154 k (by omega)).trans ((fr_46 k (by omega)).trans ((fr_40 k (by omega)).trans ((fr_34 k (by omega)).trans (rfl))))))) (hVO0.same (fun (k : Nat) (hk : 12 ≤ k ∧ k ≤ 19) => (fr_179 k (by omega)).trans ((fr_164 k (by omega)).trans ((fr_154 k (by omega)).trans ((fr_46 k (by omega)).trans ((fr_40 k (by omega)).trans ((fr_34 k (by omega)).trans (rfl)))))))) (va_up_ne _ _ (by decide)) (va_up_ne _ _ (by decide)) (va_up_ne _ _ (by decide)) (fun f hf => ⟨(va_up_ne _ _ (by omega)).trans (hO5 f (by omega)).1, (va_up_ne _ _ (by omega)).trans (hO5 f (by omega)).2⟩) (hBd.res (fun r9 h9 => by by_cases h8 : r9 = tn; subst h8; exact Or.inr (by rw [va_up_self, va_up_self]; exact b15); exact Or.inl ⟨(va_up_ne _ _ (by omega)).trans (hO5 _ (by omega)).1, (va_up_ne _ _ (by omega)).trans (hO5 _ (by omega)).2⟩) (fun v9 h9 => Or.inl ⟨(va_up_ne _ _ (by omega)).trans (hO5 _ (by omega)).1, (va_up_ne _ _ (by omega)).trans (hO5 _ (by omega)).2⟩)), (va_up_ne _ _ (by decide)), Or.inl (va_up_self _ _ _)⟩, by show va_P (dC, dI) vwCl _ t9.heap; rw [ht9]; exact hP⟩, hS.F ht9⟩) hS.2.2 dX10_reckon_207
                  · have c_159 := mt (nI_leI (a := 2) (b := on) (by decide) (by omega)).mpr c_159
                    refine lv_aload_n hx hb dX10_reckon_126 rfl (lv_at hl 0 rfl) ?_
                    refine lv_sipush (v := nI 1015) hx hb dX10_reckon_127 (by decide +kernel) ?_
                    refine lv_sipush (v := nI 1012) hx hb dX10_reckon_130 (by decide +kernel) ?_
                    refine lv_sipush (v := nI 1013) hx hb dX10_reckon_133 (by decide +kernel) ?_
                    refine va_callv (va_runV (As := [.int (nI 1015), .int (nI 1012), .int (nI 1013)]) (rest := []) ⟨hx, hb, hml, hown, hts⟩ (c_X10_addFractions l dC dI A ad cA g_152 (va_up x 0 (nI 0)) p4 q4 1015 1012 1013 hF4 (by decide) (by decide) (by decide) (k_1012 b12) (k_1012 b13)) (cwV 3 hts (goodIn_app (goodIn_r [Cond.methodLink RX10 171 yX10_addFractions, Cond.instanceMethod yX10_addFractions, Cond.selects RX10 yX10_addFractions yX10_addFractions, Cond.initialized RX10] [15, 16, 17, 4] rfl rfl) (goodIn_sub (fun w9 h9 => bk5 w9 h9) gw_X10_addFractions)) rfl rfl rfl (by decide +kernel) ⟨Nat.le_of_ble_eq_true rfl, Nat.le_of_ble_eq_true rfl⟩) ⟨fun a U g mk q => ⟨q.1, q.2.1, q.2.2.1, LY.moved (u := U) (U := U.calling g mk a) (Vm.Alike.refl U.vm) q.2.2.2⟩, va_recv hK hP (ci := 13) (q0 := 0) rfl (wo_at (by decide) f_156), fun U hU hW => ⟨rfl, by rw [hU]; exact fun q h => hA q (Nat.le_trans hS.1 h), by rw [hU]; exact hP, LY.moved hW.alike hL⟩⟩ rfl rfl hl.1 rfl (lv_room (Nat.le_of_ble_eq_true rfl)) dX10_reckon_136 ⟨(Nat.le_of_ble_eq_true rfl), (Nat.le_of_ble_eq_true rfl)⟩) hS (fun q _ h => h) (fun q h => h) (fun u8 t8 H1 locs ht8 hvm8 hw_180 hB hz1 hk1 hS => ?_)
                    obtain ⟨g_181, pf2_182, qf2_183⟩ := u8
                    try dsimp only at hw_180 hB
                    rw [ht8] at hB
                    have hP := hB
                    generalize H1 = H at hP hS ⊢
                    obtain ⟨fr_184, hF5, -, -, ho5⟩ := hw_180
                    have hO5 : ∀ f, f < 1012 → pf2_182 f = pf f ∧ qf2_183 f = qf f := fun f hf => ⟨(ho5 f (by omega) (by omega)).1.trans (hO3 f (by omega) (by omega)).1, (ho5 f (by omega) (by omega)).2.trans (hO3 f (by omega) (by omega)).2⟩
                    have hF5c := hF5
                    obtain ⟨vf5, hV5, hw5⟩ := hF5c
                    have e51 : (vf5 2030).natAbs = (pf2_182 1015).natAbs := congrArg Int.natAbs (hw5 1015 (by decide)).1
                    have e52 : (vf5 2031).natAbs = qf2_183 1015 := by have h9 : vf5 2031 = ((qf2_183 1015 : Nat) : Int) := (hw5 1015 (by decide)).2.1; omega
                    refine lv_goto (tgt := 155) hx hb dX10_reckon_139 (by decide) ?_
                    refine lv_aload_n hx hb dX10_reckon_155 rfl (lv_at hl 0 rfl) ?_
                    refine lv_sipush (v := nI 2030) hx hb dX10_reckon_156 (by decide +kernel) ?_
                    have f_185 : g_181 0 = .inr (13, Rob ad (va_up x 0 (nI 0))) := (fr_184 0 (by omega)).trans f_156
                    refine va_calli (va_runV (As := [.int (nI 2030)]) (rest := []) ⟨hx, hb, hml, hown, hts⟩ (c_X10_bitsOf l dC dI A ad cA g_181 (va_up x 0 (nI 0)) vf5 2030 hV5 (by decide)) (cwV 1 hts (goodIn_app (goodIn_r [Cond.methodLink RX10 117 yX10_bitsOf, Cond.instanceMethod yX10_bitsOf, Cond.selects RX10 yX10_bitsOf yX10_bitsOf, Cond.initialized RX10] [12, 13, 14, 4] rfl rfl) (goodIn_sub (fun w9 h9 => bk4 w9 h9) gw_X10_bitsOf)) rfl rfl rfl (by decide +kernel) ⟨Nat.le_of_ble_eq_true rfl, Nat.le_of_ble_eq_true rfl⟩) ⟨fun a U g mk q => ⟨q.1, q.2.1, q.2.2.1, LY.moved (u := U) (U := U.calling g mk a) (Vm.Alike.refl U.vm) q.2.2.2⟩, va_recv hK hP (ci := 13) (q0 := 0) rfl (wo_at (by decide) f_185), fun U hU hW => ⟨rfl, by rw [hU]; exact fun q h => hA q (Nat.le_trans hS.1 h), by rw [hU]; exact hP, LY.moved hW.alike hL⟩⟩ rfl rfl hl.1 rfl (lv_room (Nat.le_of_ble_eq_true rfl)) dX10_reckon_159 ⟨(Nat.le_of_ble_eq_true rfl), (Nat.le_of_ble_eq_true rfl)⟩) hS (fun q _ h => h) (fun q h => h) (fun r_186 u8 t8 H1 locs ht8 hvm8 hw_187 hB hz1 hk1 hS => ?_)
                    obtain ⟨⟩ := u8
                    try dsimp only at hw_187 hB
                    rw [ht8] at hB
                    have hP := hB
                    generalize H1 = H at hP hS ⊢
                    obtain rfl := hw_187
                    rw [e51]
                    obtain ⟨bp, hbp⟩ : ∃ z9, z9 = bl (pf2_182 1015).natAbs := ⟨_, rfl⟩
                    rw [← hbp]
                    have lbp : bp ≤ 2560 := by rw [hbp, ← e51]; obtain ⟨pn8, ln8, bn8, -, hv8⟩ := hV5; exact bl_le.mpr (by have h8 := (hv8 2030 (by decide)).lt80; rw [pw_two] at h8; exact h8)
                    refine lv_sipush (v := nI 1000) hx hb dX10_reckon_162 (by decide +kernel) ?_
                    refine lv_icmp_gt (tgt := 185) hx hb dX10_reckon_165 (by decide) (fun c_188 => ?_) (fun c_188 => ?_)
                    · have c_188 := (nI_ltI (a := 1000) (b := bp) (by decide) (by omega)).mp c_188
                      refine lv_iconst (v := nI 0) hx hb dX10_reckon_185 (by decide +kernel) ?_
                      refine lv_istore (lv' := [(5, .int (nI 0)), (0, .ref (ad 0)), (1, .int (nI on)), (2, .int (nI tn)), (3, .int (nI an)), (4, .int (nI cn))]) hx hb dX10_reckon_186 hl (by decide) rfl (fun ls hl => ?_)
                      refine lv_iload hx hb dX10_reckon_188 (lv_at hl 0 rfl) ?_
                      refine lv_if_eq (tgt := 205) hx hb dX10_reckon_190 (by decide) (fun c_189 => ?_) (fun c_189 => absurd c_189 (by decide))
                      refine lv_iload hx hb dX10_reckon_205 (lv_at hl 0 rfl) ?_
                      refine W.widen (k := 0) (n := 0) (by omega) (by omega) ?_
                      exact W.zret (v := nI 0) hx hb hr (by decide +kernel) (fun t9 ht9 hW9 => ⟨⟨nI 0, (g_181, va_up x 0 (nI 0)), rfl, ⟨RI.num hI0 hF5 (fun (k : Nat) (hk : (4 ≤ k ∧ k ≤ 11) ∨ k = 16) => (fr_184 k (by omega)).trans ((fr_154 k (by omega)).trans ((fr_46 k (by omega)).trans ((fr_40 k (by omega)).trans ((fr_34 k (by omega)).trans (rfl)))))) (hVO0.same (fun (k : Nat) (hk : 12 ≤ k ∧ k ≤ 19) => (fr_184 k (by omega)).trans ((fr_154 k (by omega)).trans ((fr_46 k (by omega)).trans ((fr_40 k (by omega)).trans ((fr_34 k (by omega)).trans (rfl))))))) (va_up_ne _ _ (by decide)) (va_up_ne _ _ (by decide)) (va_up_ne _ _ (by decide)) (fun f hf => hO5 f (by omega)) (hBd.res (fun r9 h9 => Or.inl (hO5 _ (by omega))) (fun v9 h9 => Or.inl (hO5 _ (by omega)))), (va_up_ne _ _ (by decide)), Or.inl (va_up_self _ _ _)⟩, by show va_P (dC, dI) vwCl _ t9.heap; rw [ht9]; exact hP⟩, hS.F ht9⟩) hS.2.2 dX10_reckon_207
                    · have c_188 := mt (nI_ltI (a := 1000) (b := bp) (by decide) (by omega)).mpr c_188
                      refine lv_aload_n hx hb dX10_reckon_168 rfl (lv_at hl 0 rfl) ?_
                      refine lv_sipush (v := nI 2031) hx hb dX10_reckon_169 (by decide +kernel) ?_
                      refine va_calli (va_runV (As := [.int (nI 2031)]) (rest := []) ⟨hx, hb, hml, hown, hts⟩ (c_X10_bitsOf l dC dI A ad cA g_181 (va_up x 0 (nI 0)) vf5 2031 hV5 (by decide)) (cwV 1 hts (goodIn_app (goodIn_r [Cond.methodLink RX10 117 yX10_bitsOf, Cond.instanceMethod yX10_bitsOf, Cond.selects RX10 yX10_bitsOf yX10_bitsOf, Cond.initialized RX10] [12, 13, 14, 4] rfl rfl) (goodIn_sub (fun w9 h9 => bk4 w9 h9) gw_X10_bitsOf)) rfl rfl rfl (by decide +kernel) ⟨Nat.le_of_ble_eq_true rfl, Nat.le_of_ble_eq_true rfl⟩) ⟨fun a U g mk q => ⟨q.1, q.2.1, q.2.2.1, LY.moved (u := U) (U := U.calling g mk a) (Vm.Alike.refl U.vm) q.2.2.2⟩, va_recv hK hP (ci := 13) (q0 := 0) rfl (wo_at (by decide) f_185), fun U hU hW => ⟨rfl, by rw [hU]; exact fun q h => hA q (Nat.le_trans hS.1 h), by rw [hU]; exact hP, LY.moved hW.alike hL⟩⟩ rfl rfl hl.1 rfl (lv_room (Nat.le_of_ble_eq_true rfl)) dX10_reckon_172 ⟨(Nat.le_of_ble_eq_true rfl), (Nat.le_of_ble_eq_true rfl)⟩) hS (fun q _ h => h) (fun q h => h) (fun r_190 u8 t8 H1 locs ht8 hvm8 hw_191 hB hz1 hk1 hS => ?_)
                      obtain ⟨⟩ := u8
                      try dsimp only at hw_191 hB
                      rw [ht8] at hB
                      have hP := hB
                      generalize H1 = H at hP hS ⊢
                      obtain rfl := hw_191
                      rw [e52]
                      obtain ⟨bq, hbq⟩ : ∃ z9, z9 = bl (qf2_183 1015) := ⟨_, rfl⟩
                      rw [← hbq]
                      have lbq : bq ≤ 2560 := by rw [hbq, ← e52]; obtain ⟨pn8, ln8, bn8, -, hv8⟩ := hV5; exact bl_le.mpr (by have h8 := (hv8 2031 (by decide)).lt80; rw [pw_two] at h8; exact h8)
                      refine lv_sipush (v := nI 1000) hx hb dX10_reckon_175 (by decide +kernel) ?_
                      refine lv_icmp_gt (tgt := 185) hx hb dX10_reckon_178 (by decide) (fun c_192 => ?_) (fun c_192 => ?_)
                      · have c_192 := (nI_ltI (a := 1000) (b := bq) (by decide) (by omega)).mp c_192
                        refine lv_iconst (v := nI 0) hx hb dX10_reckon_185 (by decide +kernel) ?_
                        refine lv_istore (lv' := [(5, .int (nI 0)), (0, .ref (ad 0)), (1, .int (nI on)), (2, .int (nI tn)), (3, .int (nI an)), (4, .int (nI cn))]) hx hb dX10_reckon_186 hl (by decide) rfl (fun ls hl => ?_)
                        refine lv_iload hx hb dX10_reckon_188 (lv_at hl 0 rfl) ?_
                        refine lv_if_eq (tgt := 205) hx hb dX10_reckon_190 (by decide) (fun c_193 => ?_) (fun c_193 => absurd c_193 (by decide))
                        refine lv_iload hx hb dX10_reckon_205 (lv_at hl 0 rfl) ?_
                        refine W.widen (k := 0) (n := 0) (by omega) (by omega) ?_
                        exact W.zret (v := nI 0) hx hb hr (by decide +kernel) (fun t9 ht9 hW9 => ⟨⟨nI 0, (g_181, va_up x 0 (nI 0)), rfl, ⟨RI.num hI0 hF5 (fun (k : Nat) (hk : (4 ≤ k ∧ k ≤ 11) ∨ k = 16) => (fr_184 k (by omega)).trans ((fr_154 k (by omega)).trans ((fr_46 k (by omega)).trans ((fr_40 k (by omega)).trans ((fr_34 k (by omega)).trans (rfl)))))) (hVO0.same (fun (k : Nat) (hk : 12 ≤ k ∧ k ≤ 19) => (fr_184 k (by omega)).trans ((fr_154 k (by omega)).trans ((fr_46 k (by omega)).trans ((fr_40 k (by omega)).trans ((fr_34 k (by omega)).trans (rfl))))))) (va_up_ne _ _ (by decide)) (va_up_ne _ _ (by decide)) (va_up_ne _ _ (by decide)) (fun f hf => hO5 f (by omega)) (hBd.res (fun r9 h9 => Or.inl (hO5 _ (by omega))) (fun v9 h9 => Or.inl (hO5 _ (by omega)))), (va_up_ne _ _ (by decide)), Or.inl (va_up_self _ _ _)⟩, by show va_P (dC, dI) vwCl _ t9.heap; rw [ht9]; exact hP⟩, hS.F ht9⟩) hS.2.2 dX10_reckon_207
                      · have c_192 := mt (nI_ltI (a := 1000) (b := bq) (by decide) (by omega)).mpr c_192
                        refine lv_iconst (v := nI 1) hx hb dX10_reckon_181 (by decide +kernel) ?_
                        refine lv_goto (tgt := 186) hx hb dX10_reckon_182 (by decide) ?_
                        refine lv_istore (lv' := [(5, .int (nI 1)), (0, .ref (ad 0)), (1, .int (nI on)), (2, .int (nI tn)), (3, .int (nI an)), (4, .int (nI cn))]) hx hb dX10_reckon_186 hl (by decide) rfl (fun ls hl => ?_)
                        refine lv_iload hx hb dX10_reckon_188 (lv_at hl 0 rfl) ?_
                        refine lv_if_eq (tgt := 205) hx hb dX10_reckon_190 (by decide) (fun c_194 => absurd c_194 (by decide)) (fun c_194 => ?_)
                        refine lv_aload_n hx hb dX10_reckon_193 rfl (lv_at hl 1 rfl) ?_
                        refine lv_sipush (v := nI 1000) hx hb dX10_reckon_194 (by decide +kernel) ?_
                        refine lv_iload_n hx hb dX10_reckon_197 rfl (lv_at hl 3 rfl) ?_
                        refine lv_iadd hx hb dX10_reckon_198 ?_
                        refine lv_topi (fun x_195 e_196 => ?_)
                        obtain rfl : x_195 = nI (1000 + tn) := e_196.trans (nI_add 1000 tn)
                        refine lv_sipush (v := nI 1015) hx hb dX10_reckon_199 (by decide +kernel) ?_
                        refine va_callv (va_runV (As := [.int (nI (1000 + tn)), .int (nI 1015)]) (rest := []) ⟨hx, hb, hml, hown, hts⟩ (c_X10_copyFraction l dC dI A ad cA g_181 (va_up x 0 (nI 0)) pf2_182 qf2_183 (1000 + tn) 1015 hF5 (by omega) (by decide)) (cwV 2 hts (goodIn_app (goodIn_r [Cond.methodLink RX10 136 yX10_copyFraction, Cond.instanceMethod yX10_copyFraction, Cond.selects RX10 yX10_copyFraction yX10_copyFraction, Cond.initialized RX10] [6, 7, 8, 4] rfl rfl) (goodIn_sub (fun w9 h9 => bk2 w9 h9) gw_X10_copyFraction)) rfl rfl rfl (by decide +kernel) ⟨Nat.le_of_ble_eq_true rfl, Nat.le_of_ble_eq_true rfl⟩) ⟨fun a U g mk q => ⟨q.1, q.2.1, q.2.2.1, LY.moved (u := U) (U := U.calling g mk a) (Vm.Alike.refl U.vm) q.2.2.2⟩, va_recv hK hP (ci := 13) (q0 := 0) rfl (wo_at (by decide) f_185), fun U hU hW => ⟨rfl, by rw [hU]; exact fun q h => hA q (Nat.le_trans hS.1 h), by rw [hU]; exact hP, LY.moved hW.alike hL⟩⟩ rfl rfl hl.1 rfl (lv_room (Nat.le_of_ble_eq_true rfl)) dX10_reckon_202 ⟨(Nat.le_of_ble_eq_true rfl), (Nat.le_of_ble_eq_true rfl)⟩) hS (fun q _ h => h) (fun q h => h) (fun u8 t8 H1 locs ht8 hvm8 hw_197 hB hz1 hk1 hS => ?_)
                        obtain ⟨g_198, rfl⟩ : ∃ z, z = u8 := ⟨_, rfl⟩
                        try dsimp only at hw_197 hB
                        rw [ht8] at hB
                        have hP := hB
                        generalize H1 = H at hP hS ⊢
                        obtain ⟨fr_199, hF6⟩ := hw_197
                        have b15 : (pf2_182 1015).natAbs < 2 ^ 1000 ∧ qf2_183 1015 < 2 ^ 1000 := ⟨bl_le.mp (by omega), bl_le.mp (by omega)⟩
                        refine lv_iload hx hb dX10_reckon_205 (lv_at hl 0 rfl) ?_
                        refine W.widen (k := 0) (n := 0) (by omega) (by omega) ?_
                        exact W.zret (v := nI 1) hx hb hr (by decide +kernel) (fun t9 ht9 hW9 => ⟨⟨nI 1, (g_198, va_up x 0 (nI 0)), rfl, ⟨RI.num hI0 hF6 (fun (k : Nat) (hk : (4 ≤ k ∧ k ≤ 11) ∨ k = 16) => (fr_199 k (by omega)).trans ((fr_184 k (by omega)).trans ((fr_154 k (by omega)).trans ((fr_46 k (by omega)).trans ((fr_40 k (by omega)).trans ((fr_34 k (by omega)).trans (rfl))))))) (hVO0.same (fun (k : Nat) (hk : 12 ≤ k ∧ k ≤ 19) => (fr_199 k (by omega)).trans ((fr_184 k (by omega)).trans ((fr_154 k (by omega)).trans ((fr_46 k (by omega)).trans ((fr_40 k (by omega)).trans ((fr_34 k (by omega)).trans (rfl)))))))) (va_up_ne _ _ (by decide)) (va_up_ne _ _ (by decide)) (va_up_ne _ _ (by decide)) (fun f hf => ⟨(va_up_ne _ _ (by omega)).trans (hO5 f (by omega)).1, (va_up_ne _ _ (by omega)).trans (hO5 f (by omega)).2⟩) (hBd.res (fun r9 h9 => by by_cases h8 : r9 = tn; subst h8; exact Or.inr (by rw [va_up_self, va_up_self]; exact b15); exact Or.inl ⟨(va_up_ne _ _ (by omega)).trans (hO5 _ (by omega)).1, (va_up_ne _ _ (by omega)).trans (hO5 _ (by omega)).2⟩) (fun v9 h9 => Or.inl ⟨(va_up_ne _ _ (by omega)).trans (hO5 _ (by omega)).1, (va_up_ne _ _ (by omega)).trans (hO5 _ (by omega)).2⟩)), (va_up_ne _ _ (by decide)), Or.inl (va_up_self _ _ _)⟩, by show va_P (dC, dI) vwCl _ t9.heap; rw [ht9]; exact hP⟩, hS.F ht9⟩) hS.2.2 dX10_reckon_207
                · have c_151 := (nI_eq (a := (bnz_92 2026)) (b := 0) (by omega) (by decide)).mp c_151
                  refine lv_iconst (v := nI 1) hx hb dX10_reckon_115 (by decide +kernel) ?_
                  refine lv_goto (tgt := 120) hx hb dX10_reckon_116 (by decide) ?_
                  refine m_zast hx hb hK hP hD hS 3 (by decide) rfl r_96 (i := 2026) (x := nI 1) (y := nI 1) (by decide +kernel) (by decide) (by decide) dX10_reckon_120 (fun H locs g_200 f_201 fr_202 hP hS => ?_)
                  rw [k_updI] at f_201
                  have b_203 : ∀ j, (va_up bnz_92 2026 1) j < 2 := k_up_lt r_99 (by omega)
                  have f_201 : g_200 3 = .inl (cA 3, 2068, .inl (fun j => nI ((va_up bnz_92 2026 1) j))) := f_201
                  have f_204 : g_200 0 = .inr (13, Rob ad (va_up x 0 (nI 0))) := (fr_202 0 (by omega)).trans r_93
                  have f_205 : g_200 1 = .inl (cA 1, 165440, .inr (.inl (fun j => lN (pnz_92 j)))) := (fr_202 1 (by omega)).trans r_94
                  have f_206 : g_200 2 = .inl (cA 2, 2068, .inl (fun j => nI (lnz_92 j))) := (fr_202 2 (by omega)).trans r_95
                  have hV4 : RV ad cA g_200 (va_up x 0 (nI 0)) (va_up vf3 2026 (-(vf3 2026))) := RV.sign (⟨f_204, f_205, f_206, f_201, r_97, r_98, b_203⟩ : RN ad cA g_200 (va_up x 0 (nI 0)) pnz_92 lnz_92 (va_up bnz_92 2026 1)) hvz_92 (by decide) (Int.natAbs_neg _) (by omega)
                  have hF4 : RF ad cA g_200 (va_up x 0 (nI 0)) (va_up p3 1013 (-(p3 1013))) (va_up q3 1013 (q3 1013)) := RF.up hV4 hw3 (fun f hf hne => ⟨va_up_ne _ _ (by omega), va_up_ne _ _ (by omega)⟩) ((va_up_self _ _ _).trans (congrArg (fun z => -z) (hw3 1013 (by decide)).1)) ((va_up_ne _ _ (by decide)).trans (hw3 1013 (by decide)).2.1) ⟨(hw3 1013 (by decide)).2.2.1, by rw [Int.natAbs_neg]; exact (hw3 1013 (by decide)).2.2.2⟩
                  obtain ⟨p4, hp4⟩ : ∃ z9, z9 = va_up p3 1013 (-(p3 1013)) := ⟨_, rfl⟩
                  obtain ⟨q4, hq4⟩ : ∃ z9, z9 = va_up q3 1013 (q3 1013) := ⟨_, rfl⟩
                  rw [← hp4, ← hq4] at hF4
                  have b12 : (p4 1012).natAbs < 2 ^ 1000 ∧ q4 1012 < 2 ^ 1000 := by rw [hp4, hq4, va_up_ne _ _ (by decide), va_up_ne _ _ (by decide)]; exact b12
                  have b13 : (p4 1013).natAbs < 2 ^ 1000 ∧ q4 1013 < 2 ^ 1000 := by rw [hp4, hq4, va_up_self, va_up_self, Int.natAbs_neg]; exact b13
                  have hO3 : ∀ f, f ≠ 1012 → f ≠ 1013 → p4 f = pf f ∧ q4 f = qf f := fun f h1 h2 => by rw [hp4, hq4, va_up_ne _ _ h2, va_up_ne _ _ h2]; exact hO3 f h1 h2
                  refine lv_iload_n hx hb dX10_reckon_121 rfl (lv_at hl 1 rfl) ?_
                  refine lv_iconst (v := nI 2) hx hb dX10_reckon_122 (by decide +kernel) ?_
                  refine lv_icmp_ge (tgt := 142) hx hb dX10_reckon_123 (by decide) (fun c_207 => ?_) (fun c_207 => ?_)
                  · have c_207 := (nI_leI (a := 2) (b := on) (by decide) (by omega)).mp c_207
                    refine lv_aload_n hx hb dX10_reckon_142 rfl (lv_at hl 0 rfl) ?_
                    refine lv_sipush (v := nI 1015) hx hb dX10_reckon_143 (by decide +kernel) ?_
                    refine lv_sipush (v := nI 1012) hx hb dX10_reckon_146 (by decide +kernel) ?_
                    refine lv_sipush (v := nI 1013) hx hb dX10_reckon_149 (by decide +kernel) ?_
                    refine va_callv (va_runV (As := [.int (nI 1015), .int (nI 1012), .int (nI 1013)]) (rest := []) ⟨hx, hb, hml, hown, hts⟩ (c_X10_timesFractions l dC dI A ad cA g_200 (va_up x 0 (nI 0)) p4 q4 1015 1012 1013 hF4 (by decide) (by decide) (by decide) (k_1012 b12) (k_1012 b13)) (cwV 3 hts (goodIn_app (goodIn_r [Cond.methodLink RX10 143 yX10_timesFractions, Cond.instanceMethod yX10_timesFractions, Cond.selects RX10 yX10_timesFractions yX10_timesFractions, Cond.initialized RX10] [9, 10, 11, 4] rfl rfl) (goodIn_sub (fun w9 h9 => bk3 w9 h9) gw_X10_timesFractions)) rfl rfl rfl (by decide +kernel) ⟨Nat.le_of_ble_eq_true rfl, Nat.le_of_ble_eq_true rfl⟩) ⟨fun a U g mk q => ⟨q.1, q.2.1, q.2.2.1, LY.moved (u := U) (U := U.calling g mk a) (Vm.Alike.refl U.vm) q.2.2.2⟩, va_recv hK hP (ci := 13) (q0 := 0) rfl (wo_at (by decide) f_204), fun U hU hW => ⟨rfl, by rw [hU]; exact fun q h => hA q (Nat.le_trans hS.1 h), by rw [hU]; exact hP, LY.moved hW.alike hL⟩⟩ rfl rfl hl.1 rfl (lv_room (Nat.le_of_ble_eq_true rfl)) dX10_reckon_152 ⟨(Nat.le_of_ble_eq_true rfl), (Nat.le_of_ble_eq_true rfl)⟩) hS (fun q _ h => h) (fun q h => h) (fun u8 t8 H1 locs ht8 hvm8 hw_208 hB hz1 hk1 hS => ?_)
                    obtain ⟨g_209, pf2_210, qf2_211⟩ := u8
                    try dsimp only at hw_208 hB
                    rw [ht8] at hB
                    have hP := hB
                    generalize H1 = H at hP hS ⊢
                    obtain ⟨fr_212, hF5, -, -, ho5⟩ := hw_208
                    have hO5 : ∀ f, f < 1012 → pf2_210 f = pf f ∧ qf2_211 f = qf f := fun f hf => ⟨(ho5 f (by omega) (by omega)).1.trans (hO3 f (by omega) (by omega)).1, (ho5 f (by omega) (by omega)).2.trans (hO3 f (by omega) (by omega)).2⟩
                    have hF5c := hF5
                    obtain ⟨vf5, hV5, hw5⟩ := hF5c
                    have e51 : (vf5 2030).natAbs = (pf2_210 1015).natAbs := congrArg Int.natAbs (hw5 1015 (by decide)).1
                    have e52 : (vf5 2031).natAbs = qf2_211 1015 := by have h9 : vf5 2031 = ((qf2_211 1015 : Nat) : Int) := (hw5 1015 (by decide)).2.1; omega
                    refine lv_aload_n hx hb dX10_reckon_155 rfl (lv_at hl 0 rfl) ?_
                    refine lv_sipush (v := nI 2030) hx hb dX10_reckon_156 (by decide +kernel) ?_
                    have f_213 : g_209 0 = .inr (13, Rob ad (va_up x 0 (nI 0))) := (fr_212 0 (by omega)).trans f_204
                    refine va_calli (va_runV (As := [.int (nI 2030)]) (rest := []) ⟨hx, hb, hml, hown, hts⟩ (c_X10_bitsOf l dC dI A ad cA g_209 (va_up x 0 (nI 0)) vf5 2030 hV5 (by decide)) (cwV 1 hts (goodIn_app (goodIn_r [Cond.methodLink RX10 117 yX10_bitsOf, Cond.instanceMethod yX10_bitsOf, Cond.selects RX10 yX10_bitsOf yX10_bitsOf, Cond.initialized RX10] [12, 13, 14, 4] rfl rfl) (goodIn_sub (fun w9 h9 => bk4 w9 h9) gw_X10_bitsOf)) rfl rfl rfl (by decide +kernel) ⟨Nat.le_of_ble_eq_true rfl, Nat.le_of_ble_eq_true rfl⟩) ⟨fun a U g mk q => ⟨q.1, q.2.1, q.2.2.1, LY.moved (u := U) (U := U.calling g mk a) (Vm.Alike.refl U.vm) q.2.2.2⟩, va_recv hK hP (ci := 13) (q0 := 0) rfl (wo_at (by decide) f_213), fun U hU hW => ⟨rfl, by rw [hU]; exact fun q h => hA q (Nat.le_trans hS.1 h), by rw [hU]; exact hP, LY.moved hW.alike hL⟩⟩ rfl rfl hl.1 rfl (lv_room (Nat.le_of_ble_eq_true rfl)) dX10_reckon_159 ⟨(Nat.le_of_ble_eq_true rfl), (Nat.le_of_ble_eq_true rfl)⟩) hS (fun q _ h => h) (fun q h => h) (fun r_214 u8 t8 H1 locs ht8 hvm8 hw_215 hB hz1 hk1 hS => ?_)
                    obtain ⟨⟩ := u8
                    try dsimp only at hw_215 hB
                    rw [ht8] at hB
                    have hP := hB
                    generalize H1 = H at hP hS ⊢
                    obtain rfl := hw_215
                    rw [e51]
                    obtain ⟨bp, hbp⟩ : ∃ z9, z9 = bl (pf2_210 1015).natAbs := ⟨_, rfl⟩
                    rw [← hbp]
                    have lbp : bp ≤ 2560 := by rw [hbp, ← e51]; obtain ⟨pn8, ln8, bn8, -, hv8⟩ := hV5; exact bl_le.mpr (by have h8 := (hv8 2030 (by decide)).lt80; rw [pw_two] at h8; exact h8)
                    refine lv_sipush (v := nI 1000) hx hb dX10_reckon_162 (by decide +kernel) ?_
                    refine lv_icmp_gt (tgt := 185) hx hb dX10_reckon_165 (by decide) (fun c_216 => ?_) (fun c_216 => ?_)
                    · have c_216 := (nI_ltI (a := 1000) (b := bp) (by decide) (by omega)).mp c_216
                      refine lv_iconst (v := nI 0) hx hb dX10_reckon_185 (by decide +kernel) ?_
                      refine lv_istore (lv' := [(5, .int (nI 0)), (0, .ref (ad 0)), (1, .int (nI on)), (2, .int (nI tn)), (3, .int (nI an)), (4, .int (nI cn))]) hx hb dX10_reckon_186 hl (by decide) rfl (fun ls hl => ?_)
                      refine lv_iload hx hb dX10_reckon_188 (lv_at hl 0 rfl) ?_
                      refine lv_if_eq (tgt := 205) hx hb dX10_reckon_190 (by decide) (fun c_217 => ?_) (fun c_217 => absurd c_217 (by decide))
                      refine lv_iload hx hb dX10_reckon_205 (lv_at hl 0 rfl) ?_
                      refine W.widen (k := 0) (n := 0) (by omega) (by omega) ?_
                      exact W.zret (v := nI 0) hx hb hr (by decide +kernel) (fun t9 ht9 hW9 => ⟨⟨nI 0, (g_209, va_up x 0 (nI 0)), rfl, ⟨RI.num hI0 hF5 (fun (k : Nat) (hk : (4 ≤ k ∧ k ≤ 11) ∨ k = 16) => (fr_212 k (by omega)).trans ((fr_202 k (by omega)).trans ((fr_46 k (by omega)).trans ((fr_40 k (by omega)).trans ((fr_34 k (by omega)).trans (rfl)))))) (hVO0.same (fun (k : Nat) (hk : 12 ≤ k ∧ k ≤ 19) => (fr_212 k (by omega)).trans ((fr_202 k (by omega)).trans ((fr_46 k (by omega)).trans ((fr_40 k (by omega)).trans ((fr_34 k (by omega)).trans (rfl))))))) (va_up_ne _ _ (by decide)) (va_up_ne _ _ (by decide)) (va_up_ne _ _ (by decide)) (fun f hf => hO5 f (by omega)) (hBd.res (fun r9 h9 => Or.inl (hO5 _ (by omega))) (fun v9 h9 => Or.inl (hO5 _ (by omega)))), (va_up_ne _ _ (by decide)), Or.inl (va_up_self _ _ _)⟩, by show va_P (dC, dI) vwCl _ t9.heap; rw [ht9]; exact hP⟩, hS.F ht9⟩) hS.2.2 dX10_reckon_207
                    · have c_216 := mt (nI_ltI (a := 1000) (b := bp) (by decide) (by omega)).mpr c_216
                      refine lv_aload_n hx hb dX10_reckon_168 rfl (lv_at hl 0 rfl) ?_
                      refine lv_sipush (v := nI 2031) hx hb dX10_reckon_169 (by decide +kernel) ?_
                      refine va_calli (va_runV (As := [.int (nI 2031)]) (rest := []) ⟨hx, hb, hml, hown, hts⟩ (c_X10_bitsOf l dC dI A ad cA g_209 (va_up x 0 (nI 0)) vf5 2031 hV5 (by decide)) (cwV 1 hts (goodIn_app (goodIn_r [Cond.methodLink RX10 117 yX10_bitsOf, Cond.instanceMethod yX10_bitsOf, Cond.selects RX10 yX10_bitsOf yX10_bitsOf, Cond.initialized RX10] [12, 13, 14, 4] rfl rfl) (goodIn_sub (fun w9 h9 => bk4 w9 h9) gw_X10_bitsOf)) rfl rfl rfl (by decide +kernel) ⟨Nat.le_of_ble_eq_true rfl, Nat.le_of_ble_eq_true rfl⟩) ⟨fun a U g mk q => ⟨q.1, q.2.1, q.2.2.1, LY.moved (u := U) (U := U.calling g mk a) (Vm.Alike.refl U.vm) q.2.2.2⟩, va_recv hK hP (ci := 13) (q0 := 0) rfl (wo_at (by decide) f_213), fun U hU hW => ⟨rfl, by rw [hU]; exact fun q h => hA q (Nat.le_trans hS.1 h), by rw [hU]; exact hP, LY.moved hW.alike hL⟩⟩ rfl rfl hl.1 rfl (lv_room (Nat.le_of_ble_eq_true rfl)) dX10_reckon_172 ⟨(Nat.le_of_ble_eq_true rfl), (Nat.le_of_ble_eq_true rfl)⟩) hS (fun q _ h => h) (fun q h => h) (fun r_218 u8 t8 H1 locs ht8 hvm8 hw_219 hB hz1 hk1 hS => ?_)
                      obtain ⟨⟩ := u8
                      try dsimp only at hw_219 hB
                      rw [ht8] at hB
                      have hP := hB
                      generalize H1 = H at hP hS ⊢
                      obtain rfl := hw_219
                      rw [e52]
                      obtain ⟨bq, hbq⟩ : ∃ z9, z9 = bl (qf2_211 1015) := ⟨_, rfl⟩
                      rw [← hbq]
                      have lbq : bq ≤ 2560 := by rw [hbq, ← e52]; obtain ⟨pn8, ln8, bn8, -, hv8⟩ := hV5; exact bl_le.mpr (by have h8 := (hv8 2031 (by decide)).lt80; rw [pw_two] at h8; exact h8)
                      refine lv_sipush (v := nI 1000) hx hb dX10_reckon_175 (by decide +kernel) ?_
                      refine lv_icmp_gt (tgt := 185) hx hb dX10_reckon_178 (by decide) (fun c_220 => ?_) (fun c_220 => ?_)
                      · have c_220 := (nI_ltI (a := 1000) (b := bq) (by decide) (by omega)).mp c_220
                        refine lv_iconst (v := nI 0) hx hb dX10_reckon_185 (by decide +kernel) ?_
                        refine lv_istore (lv' := [(5, .int (nI 0)), (0, .ref (ad 0)), (1, .int (nI on)), (2, .int (nI tn)), (3, .int (nI an)), (4, .int (nI cn))]) hx hb dX10_reckon_186 hl (by decide) rfl (fun ls hl => ?_)
                        refine lv_iload hx hb dX10_reckon_188 (lv_at hl 0 rfl) ?_
                        refine lv_if_eq (tgt := 205) hx hb dX10_reckon_190 (by decide) (fun c_221 => ?_) (fun c_221 => absurd c_221 (by decide))
                        refine lv_iload hx hb dX10_reckon_205 (lv_at hl 0 rfl) ?_
                        refine W.widen (k := 0) (n := 0) (by omega) (by omega) ?_
                        exact W.zret (v := nI 0) hx hb hr (by decide +kernel) (fun t9 ht9 hW9 => ⟨⟨nI 0, (g_209, va_up x 0 (nI 0)), rfl, ⟨RI.num hI0 hF5 (fun (k : Nat) (hk : (4 ≤ k ∧ k ≤ 11) ∨ k = 16) => (fr_212 k (by omega)).trans ((fr_202 k (by omega)).trans ((fr_46 k (by omega)).trans ((fr_40 k (by omega)).trans ((fr_34 k (by omega)).trans (rfl)))))) (hVO0.same (fun (k : Nat) (hk : 12 ≤ k ∧ k ≤ 19) => (fr_212 k (by omega)).trans ((fr_202 k (by omega)).trans ((fr_46 k (by omega)).trans ((fr_40 k (by omega)).trans ((fr_34 k (by omega)).trans (rfl))))))) (va_up_ne _ _ (by decide)) (va_up_ne _ _ (by decide)) (va_up_ne _ _ (by decide)) (fun f hf => hO5 f (by omega)) (hBd.res (fun r9 h9 => Or.inl (hO5 _ (by omega))) (fun v9 h9 => Or.inl (hO5 _ (by omega)))), (va_up_ne _ _ (by decide)), Or.inl (va_up_self _ _ _)⟩, by show va_P (dC, dI) vwCl _ t9.heap; rw [ht9]; exact hP⟩, hS.F ht9⟩) hS.2.2 dX10_reckon_207
                      · have c_220 := mt (nI_ltI (a := 1000) (b := bq) (by decide) (by omega)).mpr c_220
                        refine lv_iconst (v := nI 1) hx hb dX10_reckon_181 (by decide +kernel) ?_
                        refine lv_goto (tgt := 186) hx hb dX10_reckon_182 (by decide) ?_
                        refine lv_istore (lv' := [(5, .int (nI 1)), (0, .ref (ad 0)), (1, .int (nI on)), (2, .int (nI tn)), (3, .int (nI an)), (4, .int (nI cn))]) hx hb dX10_reckon_186 hl (by decide) rfl (fun ls hl => ?_)
                        refine lv_iload hx hb dX10_reckon_188 (lv_at hl 0 rfl) ?_
                        refine lv_if_eq (tgt := 205) hx hb dX10_reckon_190 (by decide) (fun c_222 => absurd c_222 (by decide)) (fun c_222 => ?_)
                        refine lv_aload_n hx hb dX10_reckon_193 rfl (lv_at hl 1 rfl) ?_
                        refine lv_sipush (v := nI 1000) hx hb dX10_reckon_194 (by decide +kernel) ?_
                        refine lv_iload_n hx hb dX10_reckon_197 rfl (lv_at hl 3 rfl) ?_
                        refine lv_iadd hx hb dX10_reckon_198 ?_
                        refine lv_topi (fun x_223 e_224 => ?_)
                        obtain rfl : x_223 = nI (1000 + tn) := e_224.trans (nI_add 1000 tn)
                        refine lv_sipush (v := nI 1015) hx hb dX10_reckon_199 (by decide +kernel) ?_
                        refine va_callv (va_runV (As := [.int (nI (1000 + tn)), .int (nI 1015)]) (rest := []) ⟨hx, hb, hml, hown, hts⟩ (c_X10_copyFraction l dC dI A ad cA g_209 (va_up x 0 (nI 0)) pf2_210 qf2_211 (1000 + tn) 1015 hF5 (by omega) (by decide)) (cwV 2 hts (goodIn_app (goodIn_r [Cond.methodLink RX10 136 yX10_copyFraction, Cond.instanceMethod yX10_copyFraction, Cond.selects RX10 yX10_copyFraction yX10_copyFraction, Cond.initialized RX10] [6, 7, 8, 4] rfl rfl) (goodIn_sub (fun w9 h9 => bk2 w9 h9) gw_X10_copyFraction)) rfl rfl rfl (by decide +kernel) ⟨Nat.le_of_ble_eq_true rfl, Nat.le_of_ble_eq_true rfl⟩) ⟨fun a U g mk q => ⟨q.1, q.2.1, q.2.2.1, LY.moved (u := U) (U := U.calling g mk a) (Vm.Alike.refl U.vm) q.2.2.2⟩, va_recv hK hP (ci := 13) (q0 := 0) rfl (wo_at (by decide) f_213), fun U hU hW => ⟨rfl, by rw [hU]; exact fun q h => hA q (Nat.le_trans hS.1 h), by rw [hU]; exact hP, LY.moved hW.alike hL⟩⟩ rfl rfl hl.1 rfl (lv_room (Nat.le_of_ble_eq_true rfl)) dX10_reckon_202 ⟨(Nat.le_of_ble_eq_true rfl), (Nat.le_of_ble_eq_true rfl)⟩) hS (fun q _ h => h) (fun q h => h) (fun u8 t8 H1 locs ht8 hvm8 hw_225 hB hz1 hk1 hS => ?_)
                        obtain ⟨g_226, rfl⟩ : ∃ z, z = u8 := ⟨_, rfl⟩
                        try dsimp only at hw_225 hB
                        rw [ht8] at hB
                        have hP := hB
                        generalize H1 = H at hP hS ⊢
                        obtain ⟨fr_227, hF6⟩ := hw_225
                        have b15 : (pf2_210 1015).natAbs < 2 ^ 1000 ∧ qf2_211 1015 < 2 ^ 1000 := ⟨bl_le.mp (by omega), bl_le.mp (by omega)⟩
                        refine lv_iload hx hb dX10_reckon_205 (lv_at hl 0 rfl) ?_
                        refine W.widen (k := 0) (n := 0) (by omega) (by omega) ?_
                        exact W.zret (v := nI 1) hx hb hr (by decide +kernel) (fun t9 ht9 hW9 => ⟨⟨nI 1, (g_226, va_up x 0 (nI 0)), rfl, ⟨RI.num hI0 hF6 (fun (k : Nat) (hk : (4 ≤ k ∧ k ≤ 11) ∨ k = 16) => (fr_227 k (by omega)).trans ((fr_212 k (by omega)).trans ((fr_202 k (by omega)).trans ((fr_46 k (by omega)).trans ((fr_40 k (by omega)).trans ((fr_34 k (by omega)).trans (rfl))))))) (hVO0.same (fun (k : Nat) (hk : 12 ≤ k ∧ k ≤ 19) => (fr_227 k (by omega)).trans ((fr_212 k (by omega)).trans ((fr_202 k (by omega)).trans ((fr_46 k (by omega)).trans ((fr_40 k (by omega)).trans ((fr_34 k (by omega)).trans (rfl)))))))) (va_up_ne _ _ (by decide)) (va_up_ne _ _ (by decide)) (va_up_ne _ _ (by decide)) (fun f hf => ⟨(va_up_ne _ _ (by omega)).trans (hO5 f (by omega)).1, (va_up_ne _ _ (by omega)).trans (hO5 f (by omega)).2⟩) (hBd.res (fun r9 h9 => by by_cases h8 : r9 = tn; subst h8; exact Or.inr (by rw [va_up_self, va_up_self]; exact b15); exact Or.inl ⟨(va_up_ne _ _ (by omega)).trans (hO5 _ (by omega)).1, (va_up_ne _ _ (by omega)).trans (hO5 _ (by omega)).2⟩) (fun v9 h9 => Or.inl ⟨(va_up_ne _ _ (by omega)).trans (hO5 _ (by omega)).1, (va_up_ne _ _ (by omega)).trans (hO5 _ (by omega)).2⟩)), (va_up_ne _ _ (by decide)), Or.inl (va_up_self _ _ _)⟩, by show va_P (dC, dI) vwCl _ t9.heap; rw [ht9]; exact hP⟩, hS.F ht9⟩) hS.2.2 dX10_reckon_207
                  · have c_207 := mt (nI_leI (a := 2) (b := on) (by decide) (by omega)).mpr c_207
                    refine lv_aload_n hx hb dX10_reckon_126 rfl (lv_at hl 0 rfl) ?_
                    refine lv_sipush (v := nI 1015) hx hb dX10_reckon_127 (by decide +kernel) ?_
                    refine lv_sipush (v := nI 1012) hx hb dX10_reckon_130 (by decide +kernel) ?_
                    refine lv_sipush (v := nI 1013) hx hb dX10_reckon_133 (by decide +kernel) ?_
                    refine va_callv (va_runV (As := [.int (nI 1015), .int (nI 1012), .int (nI 1013)]) (rest := []) ⟨hx, hb, hml, hown, hts⟩ (c_X10_addFractions l dC dI A ad cA g_200 (va_up x 0 (nI 0)) p4 q4 1015 1012 1013 hF4 (by decide) (by decide) (by decide) (k_1012 b12) (k_1012 b13)) (cwV 3 hts (goodIn_app (goodIn_r [Cond.methodLink RX10 171 yX10_addFractions, Cond.instanceMethod yX10_addFractions, Cond.selects RX10 yX10_addFractions yX10_addFractions, Cond.initialized RX10] [15, 16, 17, 4] rfl rfl) (goodIn_sub (fun w9 h9 => bk5 w9 h9) gw_X10_addFractions)) rfl rfl rfl (by decide +kernel) ⟨Nat.le_of_ble_eq_true rfl, Nat.le_of_ble_eq_true rfl⟩) ⟨fun a U g mk q => ⟨q.1, q.2.1, q.2.2.1, LY.moved (u := U) (U := U.calling g mk a) (Vm.Alike.refl U.vm) q.2.2.2⟩, va_recv hK hP (ci := 13) (q0 := 0) rfl (wo_at (by decide) f_204), fun U hU hW => ⟨rfl, by rw [hU]; exact fun q h => hA q (Nat.le_trans hS.1 h), by rw [hU]; exact hP, LY.moved hW.alike hL⟩⟩ rfl rfl hl.1 rfl (lv_room (Nat.le_of_ble_eq_true rfl)) dX10_reckon_136 ⟨(Nat.le_of_ble_eq_true rfl), (Nat.le_of_ble_eq_true rfl)⟩) hS (fun q _ h => h) (fun q h => h) (fun u8 t8 H1 locs ht8 hvm8 hw_228 hB hz1 hk1 hS => ?_)
                    obtain ⟨g_229, pf2_230, qf2_231⟩ := u8
                    try dsimp only at hw_228 hB
                    rw [ht8] at hB
                    have hP := hB
                    generalize H1 = H at hP hS ⊢
                    obtain ⟨fr_232, hF5, -, -, ho5⟩ := hw_228
                    have hO5 : ∀ f, f < 1012 → pf2_230 f = pf f ∧ qf2_231 f = qf f := fun f hf => ⟨(ho5 f (by omega) (by omega)).1.trans (hO3 f (by omega) (by omega)).1, (ho5 f (by omega) (by omega)).2.trans (hO3 f (by omega) (by omega)).2⟩
                    have hF5c := hF5
                    obtain ⟨vf5, hV5, hw5⟩ := hF5c
                    have e51 : (vf5 2030).natAbs = (pf2_230 1015).natAbs := congrArg Int.natAbs (hw5 1015 (by decide)).1
                    have e52 : (vf5 2031).natAbs = qf2_231 1015 := by have h9 : vf5 2031 = ((qf2_231 1015 : Nat) : Int) := (hw5 1015 (by decide)).2.1; omega
                    refine lv_goto (tgt := 155) hx hb dX10_reckon_139 (by decide) ?_
                    refine lv_aload_n hx hb dX10_reckon_155 rfl (lv_at hl 0 rfl) ?_
                    refine lv_sipush (v := nI 2030) hx hb dX10_reckon_156 (by decide +kernel) ?_
                    have f_233 : g_229 0 = .inr (13, Rob ad (va_up x 0 (nI 0))) := (fr_232 0 (by omega)).trans f_204
                    refine va_calli (va_runV (As := [.int (nI 2030)]) (rest := []) ⟨hx, hb, hml, hown, hts⟩ (c_X10_bitsOf l dC dI A ad cA g_229 (va_up x 0 (nI 0)) vf5 2030 hV5 (by decide)) (cwV 1 hts (goodIn_app (goodIn_r [Cond.methodLink RX10 117 yX10_bitsOf, Cond.instanceMethod yX10_bitsOf, Cond.selects RX10 yX10_bitsOf yX10_bitsOf, Cond.initialized RX10] [12, 13, 14, 4] rfl rfl) (goodIn_sub (fun w9 h9 => bk4 w9 h9) gw_X10_bitsOf)) rfl rfl rfl (by decide +kernel) ⟨Nat.le_of_ble_eq_true rfl, Nat.le_of_ble_eq_true rfl⟩) ⟨fun a U g mk q => ⟨q.1, q.2.1, q.2.2.1, LY.moved (u := U) (U := U.calling g mk a) (Vm.Alike.refl U.vm) q.2.2.2⟩, va_recv hK hP (ci := 13) (q0 := 0) rfl (wo_at (by decide) f_233), fun U hU hW => ⟨rfl, by rw [hU]; exact fun q h => hA q (Nat.le_trans hS.1 h), by rw [hU]; exact hP, LY.moved hW.alike hL⟩⟩ rfl rfl hl.1 rfl (lv_room (Nat.le_of_ble_eq_true rfl)) dX10_reckon_159 ⟨(Nat.le_of_ble_eq_true rfl), (Nat.le_of_ble_eq_true rfl)⟩) hS (fun q _ h => h) (fun q h => h) (fun r_234 u8 t8 H1 locs ht8 hvm8 hw_235 hB hz1 hk1 hS => ?_)
                    obtain ⟨⟩ := u8
                    try dsimp only at hw_235 hB
                    rw [ht8] at hB
                    have hP := hB
                    generalize H1 = H at hP hS ⊢
                    obtain rfl := hw_235
                    rw [e51]
                    obtain ⟨bp, hbp⟩ : ∃ z9, z9 = bl (pf2_230 1015).natAbs := ⟨_, rfl⟩
                    rw [← hbp]
                    have lbp : bp ≤ 2560 := by rw [hbp, ← e51]; obtain ⟨pn8, ln8, bn8, -, hv8⟩ := hV5; exact bl_le.mpr (by have h8 := (hv8 2030 (by decide)).lt80; rw [pw_two] at h8; exact h8)
                    refine lv_sipush (v := nI 1000) hx hb dX10_reckon_162 (by decide +kernel) ?_
                    refine lv_icmp_gt (tgt := 185) hx hb dX10_reckon_165 (by decide) (fun c_236 => ?_) (fun c_236 => ?_)
                    · have c_236 := (nI_ltI (a := 1000) (b := bp) (by decide) (by omega)).mp c_236
                      refine lv_iconst (v := nI 0) hx hb dX10_reckon_185 (by decide +kernel) ?_
                      refine lv_istore (lv' := [(5, .int (nI 0)), (0, .ref (ad 0)), (1, .int (nI on)), (2, .int (nI tn)), (3, .int (nI an)), (4, .int (nI cn))]) hx hb dX10_reckon_186 hl (by decide) rfl (fun ls hl => ?_)
                      refine lv_iload hx hb dX10_reckon_188 (lv_at hl 0 rfl) ?_
                      refine lv_if_eq (tgt := 205) hx hb dX10_reckon_190 (by decide) (fun c_237 => ?_) (fun c_237 => absurd c_237 (by decide))
                      refine lv_iload hx hb dX10_reckon_205 (lv_at hl 0 rfl) ?_
                      refine W.widen (k := 0) (n := 0) (by omega) (by omega) ?_
                      exact W.zret (v := nI 0) hx hb hr (by decide +kernel) (fun t9 ht9 hW9 => ⟨⟨nI 0, (g_229, va_up x 0 (nI 0)), rfl, ⟨RI.num hI0 hF5 (fun (k : Nat) (hk : (4 ≤ k ∧ k ≤ 11) ∨ k = 16) => (fr_232 k (by omega)).trans ((fr_202 k (by omega)).trans ((fr_46 k (by omega)).trans ((fr_40 k (by omega)).trans ((fr_34 k (by omega)).trans (rfl)))))) (hVO0.same (fun (k : Nat) (hk : 12 ≤ k ∧ k ≤ 19) => (fr_232 k (by omega)).trans ((fr_202 k (by omega)).trans ((fr_46 k (by omega)).trans ((fr_40 k (by omega)).trans ((fr_34 k (by omega)).trans (rfl))))))) (va_up_ne _ _ (by decide)) (va_up_ne _ _ (by decide)) (va_up_ne _ _ (by decide)) (fun f hf => hO5 f (by omega)) (hBd.res (fun r9 h9 => Or.inl (hO5 _ (by omega))) (fun v9 h9 => Or.inl (hO5 _ (by omega)))), (va_up_ne _ _ (by decide)), Or.inl (va_up_self _ _ _)⟩, by show va_P (dC, dI) vwCl _ t9.heap; rw [ht9]; exact hP⟩, hS.F ht9⟩) hS.2.2 dX10_reckon_207
                    · have c_236 := mt (nI_ltI (a := 1000) (b := bp) (by decide) (by omega)).mpr c_236
                      refine lv_aload_n hx hb dX10_reckon_168 rfl (lv_at hl 0 rfl) ?_
                      refine lv_sipush (v := nI 2031) hx hb dX10_reckon_169 (by decide +kernel) ?_
                      refine va_calli (va_runV (As := [.int (nI 2031)]) (rest := []) ⟨hx, hb, hml, hown, hts⟩ (c_X10_bitsOf l dC dI A ad cA g_229 (va_up x 0 (nI 0)) vf5 2031 hV5 (by decide)) (cwV 1 hts (goodIn_app (goodIn_r [Cond.methodLink RX10 117 yX10_bitsOf, Cond.instanceMethod yX10_bitsOf, Cond.selects RX10 yX10_bitsOf yX10_bitsOf, Cond.initialized RX10] [12, 13, 14, 4] rfl rfl) (goodIn_sub (fun w9 h9 => bk4 w9 h9) gw_X10_bitsOf)) rfl rfl rfl (by decide +kernel) ⟨Nat.le_of_ble_eq_true rfl, Nat.le_of_ble_eq_true rfl⟩) ⟨fun a U g mk q => ⟨q.1, q.2.1, q.2.2.1, LY.moved (u := U) (U := U.calling g mk a) (Vm.Alike.refl U.vm) q.2.2.2⟩, va_recv hK hP (ci := 13) (q0 := 0) rfl (wo_at (by decide) f_233), fun U hU hW => ⟨rfl, by rw [hU]; exact fun q h => hA q (Nat.le_trans hS.1 h), by rw [hU]; exact hP, LY.moved hW.alike hL⟩⟩ rfl rfl hl.1 rfl (lv_room (Nat.le_of_ble_eq_true rfl)) dX10_reckon_172 ⟨(Nat.le_of_ble_eq_true rfl), (Nat.le_of_ble_eq_true rfl)⟩) hS (fun q _ h => h) (fun q h => h) (fun r_238 u8 t8 H1 locs ht8 hvm8 hw_239 hB hz1 hk1 hS => ?_)
                      obtain ⟨⟩ := u8
                      try dsimp only at hw_239 hB
                      rw [ht8] at hB
                      have hP := hB
                      generalize H1 = H at hP hS ⊢
                      obtain rfl := hw_239
                      rw [e52]
                      obtain ⟨bq, hbq⟩ : ∃ z9, z9 = bl (qf2_231 1015) := ⟨_, rfl⟩
                      rw [← hbq]
                      have lbq : bq ≤ 2560 := by rw [hbq, ← e52]; obtain ⟨pn8, ln8, bn8, -, hv8⟩ := hV5; exact bl_le.mpr (by have h8 := (hv8 2031 (by decide)).lt80; rw [pw_two] at h8; exact h8)
                      refine lv_sipush (v := nI 1000) hx hb dX10_reckon_175 (by decide +kernel) ?_
                      refine lv_icmp_gt (tgt := 185) hx hb dX10_reckon_178 (by decide) (fun c_240 => ?_) (fun c_240 => ?_)
                      · have c_240 := (nI_ltI (a := 1000) (b := bq) (by decide) (by omega)).mp c_240
                        refine lv_iconst (v := nI 0) hx hb dX10_reckon_185 (by decide +kernel) ?_
                        refine lv_istore (lv' := [(5, .int (nI 0)), (0, .ref (ad 0)), (1, .int (nI on)), (2, .int (nI tn)), (3, .int (nI an)), (4, .int (nI cn))]) hx hb dX10_reckon_186 hl (by decide) rfl (fun ls hl => ?_)
                        refine lv_iload hx hb dX10_reckon_188 (lv_at hl 0 rfl) ?_
                        refine lv_if_eq (tgt := 205) hx hb dX10_reckon_190 (by decide) (fun c_241 => ?_) (fun c_241 => absurd c_241 (by decide))
                        refine lv_iload hx hb dX10_reckon_205 (lv_at hl 0 rfl) ?_
                        refine W.widen (k := 0) (n := 0) (by omega) (by omega) ?_
                        exact W.zret (v := nI 0) hx hb hr (by decide +kernel) (fun t9 ht9 hW9 => ⟨⟨nI 0, (g_229, va_up x 0 (nI 0)), rfl, ⟨RI.num hI0 hF5 (fun (k : Nat) (hk : (4 ≤ k ∧ k ≤ 11) ∨ k = 16) => (fr_232 k (by omega)).trans ((fr_202 k (by omega)).trans ((fr_46 k (by omega)).trans ((fr_40 k (by omega)).trans ((fr_34 k (by omega)).trans (rfl)))))) (hVO0.same (fun (k : Nat) (hk : 12 ≤ k ∧ k ≤ 19) => (fr_232 k (by omega)).trans ((fr_202 k (by omega)).trans ((fr_46 k (by omega)).trans ((fr_40 k (by omega)).trans ((fr_34 k (by omega)).trans (rfl))))))) (va_up_ne _ _ (by decide)) (va_up_ne _ _ (by decide)) (va_up_ne _ _ (by decide)) (fun f hf => hO5 f (by omega)) (hBd.res (fun r9 h9 => Or.inl (hO5 _ (by omega))) (fun v9 h9 => Or.inl (hO5 _ (by omega)))), (va_up_ne _ _ (by decide)), Or.inl (va_up_self _ _ _)⟩, by show va_P (dC, dI) vwCl _ t9.heap; rw [ht9]; exact hP⟩, hS.F ht9⟩) hS.2.2 dX10_reckon_207
                      · have c_240 := mt (nI_ltI (a := 1000) (b := bq) (by decide) (by omega)).mpr c_240
                        refine lv_iconst (v := nI 1) hx hb dX10_reckon_181 (by decide +kernel) ?_
                        refine lv_goto (tgt := 186) hx hb dX10_reckon_182 (by decide) ?_
                        refine lv_istore (lv' := [(5, .int (nI 1)), (0, .ref (ad 0)), (1, .int (nI on)), (2, .int (nI tn)), (3, .int (nI an)), (4, .int (nI cn))]) hx hb dX10_reckon_186 hl (by decide) rfl (fun ls hl => ?_)
                        refine lv_iload hx hb dX10_reckon_188 (lv_at hl 0 rfl) ?_
                        refine lv_if_eq (tgt := 205) hx hb dX10_reckon_190 (by decide) (fun c_242 => absurd c_242 (by decide)) (fun c_242 => ?_)
                        refine lv_aload_n hx hb dX10_reckon_193 rfl (lv_at hl 1 rfl) ?_
                        refine lv_sipush (v := nI 1000) hx hb dX10_reckon_194 (by decide +kernel) ?_
                        refine lv_iload_n hx hb dX10_reckon_197 rfl (lv_at hl 3 rfl) ?_
                        refine lv_iadd hx hb dX10_reckon_198 ?_
                        refine lv_topi (fun x_243 e_244 => ?_)
                        obtain rfl : x_243 = nI (1000 + tn) := e_244.trans (nI_add 1000 tn)
                        refine lv_sipush (v := nI 1015) hx hb dX10_reckon_199 (by decide +kernel) ?_
                        refine va_callv (va_runV (As := [.int (nI (1000 + tn)), .int (nI 1015)]) (rest := []) ⟨hx, hb, hml, hown, hts⟩ (c_X10_copyFraction l dC dI A ad cA g_229 (va_up x 0 (nI 0)) pf2_230 qf2_231 (1000 + tn) 1015 hF5 (by omega) (by decide)) (cwV 2 hts (goodIn_app (goodIn_r [Cond.methodLink RX10 136 yX10_copyFraction, Cond.instanceMethod yX10_copyFraction, Cond.selects RX10 yX10_copyFraction yX10_copyFraction, Cond.initialized RX10] [6, 7, 8, 4] rfl rfl) (goodIn_sub (fun w9 h9 => bk2 w9 h9) gw_X10_copyFraction)) rfl rfl rfl (by decide +kernel) ⟨Nat.le_of_ble_eq_true rfl, Nat.le_of_ble_eq_true rfl⟩) ⟨fun a U g mk q => ⟨q.1, q.2.1, q.2.2.1, LY.moved (u := U) (U := U.calling g mk a) (Vm.Alike.refl U.vm) q.2.2.2⟩, va_recv hK hP (ci := 13) (q0 := 0) rfl (wo_at (by decide) f_233), fun U hU hW => ⟨rfl, by rw [hU]; exact fun q h => hA q (Nat.le_trans hS.1 h), by rw [hU]; exact hP, LY.moved hW.alike hL⟩⟩ rfl rfl hl.1 rfl (lv_room (Nat.le_of_ble_eq_true rfl)) dX10_reckon_202 ⟨(Nat.le_of_ble_eq_true rfl), (Nat.le_of_ble_eq_true rfl)⟩) hS (fun q _ h => h) (fun q h => h) (fun u8 t8 H1 locs ht8 hvm8 hw_245 hB hz1 hk1 hS => ?_)
                        obtain ⟨g_246, rfl⟩ : ∃ z, z = u8 := ⟨_, rfl⟩
                        try dsimp only at hw_245 hB
                        rw [ht8] at hB
                        have hP := hB
                        generalize H1 = H at hP hS ⊢
                        obtain ⟨fr_247, hF6⟩ := hw_245
                        have b15 : (pf2_230 1015).natAbs < 2 ^ 1000 ∧ qf2_231 1015 < 2 ^ 1000 := ⟨bl_le.mp (by omega), bl_le.mp (by omega)⟩
                        refine lv_iload hx hb dX10_reckon_205 (lv_at hl 0 rfl) ?_
                        refine W.widen (k := 0) (n := 0) (by omega) (by omega) ?_
                        exact W.zret (v := nI 1) hx hb hr (by decide +kernel) (fun t9 ht9 hW9 => ⟨⟨nI 1, (g_246, va_up x 0 (nI 0)), rfl, ⟨RI.num hI0 hF6 (fun (k : Nat) (hk : (4 ≤ k ∧ k ≤ 11) ∨ k = 16) => (fr_247 k (by omega)).trans ((fr_232 k (by omega)).trans ((fr_202 k (by omega)).trans ((fr_46 k (by omega)).trans ((fr_40 k (by omega)).trans ((fr_34 k (by omega)).trans (rfl))))))) (hVO0.same (fun (k : Nat) (hk : 12 ≤ k ∧ k ≤ 19) => (fr_247 k (by omega)).trans ((fr_232 k (by omega)).trans ((fr_202 k (by omega)).trans ((fr_46 k (by omega)).trans ((fr_40 k (by omega)).trans ((fr_34 k (by omega)).trans (rfl)))))))) (va_up_ne _ _ (by decide)) (va_up_ne _ _ (by decide)) (va_up_ne _ _ (by decide)) (fun f hf => ⟨(va_up_ne _ _ (by omega)).trans (hO5 f (by omega)).1, (va_up_ne _ _ (by omega)).trans (hO5 f (by omega)).2⟩) (hBd.res (fun r9 h9 => by by_cases h8 : r9 = tn; subst h8; exact Or.inr (by rw [va_up_self, va_up_self]; exact b15); exact Or.inl ⟨(va_up_ne _ _ (by omega)).trans (hO5 _ (by omega)).1, (va_up_ne _ _ (by omega)).trans (hO5 _ (by omega)).2⟩) (fun v9 h9 => Or.inl ⟨(va_up_ne _ _ (by omega)).trans (hO5 _ (by omega)).1, (va_up_ne _ _ (by omega)).trans (hO5 _ (by omega)).2⟩)), (va_up_ne _ _ (by decide)), Or.inl (va_up_self _ _ _)⟩, by show va_P (dC, dI) vwCl _ t9.heap; rw [ht9]; exact hP⟩, hS.F ht9⟩) hS.2.2 dX10_reckon_207
          · have c_31 := mt (k_le v (nI 2)).mpr c_31
            rw [show (nI 2).toInt = 2 from by decide] at c_31
            refine lv_iconst (v := nI 2) hx hb dX10_reckon_39 (by decide +kernel) ?_
            refine lv_goto (tgt := 44) hx hb dX10_reckon_40 (by decide) ?_
            refine m_put (D := (dC, dI)) (v := .int (nI 2)) (tv := .int) (C := RX10) (T := TX10) (N := 29) hx hb hts bk1 tyX10 tyX10_ok nmX10 hown hK hP hD hS 0 (by decide) r_3 rfl 0 (by decide) (hts (.fieldLink RX10 78 "GradientDeskModel" "thrown" "I") (List.mem_of_getElem? (i := 5) rfl)) (fun _ h9 => h9) rfl (by decide +kernel) rfl rfl (Nat.le_of_ble_eq_true rfl) dX10_reckon_44 (fun H locs g_248 f_249 fr_250 hP hS => ?_)
            have f_249 : g_248 0 = .inr (13, Rob ad (va_up x 0 (nI 2))) := f_249
            refine lv_aload_n hx hb dX10_reckon_47 rfl (lv_at hl 0 rfl) ?_
            refine m_get (D := (dC, dI)) (v := .int (nI 2)) (C := RX10) (T := TX10) (N := 29) hx hb hts bk1 hown hK hP 0 (by decide) f_249 rfl 0 (by decide) (hts (.fieldLink RX10 78 "GradientDeskModel" "thrown" "I") (List.mem_of_getElem? (i := 5) rfl)) (fun _ h9 => h9) (congrArg (fun z => some (Value.int z)) (show (va_up x 0 (nI 2)) 0 = (nI 2) from rfl)) dX10_reckon_48 ?_
            refine lv_if_le (tgt := 56) hx hb dX10_reckon_51 (by decide) (fun c_251 => absurd c_251 (by decide)) (fun c_251 => ?_)
            refine lv_iconst (v := nI 0) hx hb dX10_reckon_54 (by decide +kernel) ?_
            refine W.widen (k := 0) (n := 0) (by omega) (by omega) ?_
            exact W.zret (v := nI 0) hx hb hr (by decide +kernel) (fun t9 ht9 hW9 => ⟨⟨nI 0, (g_248, va_up x 0 (nI 2)), rfl, ⟨RI.num hI0 (hF0.setx (fun (k : Nat) (hk : k = 1 ∨ k = 2 ∨ k = 3) => (fr_250 k (by omega)).trans (rfl)) f_249 rfl) (fun (k : Nat) (hk : (4 ≤ k ∧ k ≤ 11) ∨ k = 16) => (fr_250 k (by omega)).trans (rfl)) (hVO0.same (fun (k : Nat) (hk : 12 ≤ k ∧ k ≤ 19) => (fr_250 k (by omega)).trans (rfl))) (va_up_ne _ _ (by decide)) (va_up_ne _ _ (by decide)) (va_up_ne _ _ (by decide)) (fun _ _ => ⟨rfl, rfl⟩) hBd, (va_up_ne _ _ (by decide)), Or.inr (Or.inr (va_up_self _ _ _))⟩, by show va_P (dC, dI) vwCl _ t9.heap; rw [ht9]; exact hP⟩, hS.F ht9⟩) hS.2.2 dX10_reckon_55
      · skip
        refine lv_if_eq (tgt := 30) hx hb dX10_reckon_23 (by decide) (fun c_252 => absurd c_252 (by decide)) (fun c_252 => ?_)
        refine lv_iconst (v := nI 1) hx hb dX10_reckon_26 (by decide +kernel) ?_
        refine lv_goto (tgt := 44) hx hb dX10_reckon_27 (by decide) ?_
        refine m_put (D := (dC, dI)) (v := .int (nI 1)) (tv := .int) (C := RX10) (T := TX10) (N := 29) hx hb hts bk1 tyX10 tyX10_ok nmX10 hown hK hP hD hS 0 (by decide) r_3 rfl 0 (by decide) (hts (.fieldLink RX10 78 "GradientDeskModel" "thrown" "I") (List.mem_of_getElem? (i := 5) rfl)) (fun _ h9 => h9) rfl (by decide +kernel) rfl rfl (Nat.le_of_ble_eq_true rfl) dX10_reckon_44 (fun H locs g_253 f_254 fr_255 hP hS => ?_)
        have f_254 : g_253 0 = .inr (13, Rob ad (va_up x 0 (nI 1))) := f_254
        refine lv_aload_n hx hb dX10_reckon_47 rfl (lv_at hl 0 rfl) ?_
        refine m_get (D := (dC, dI)) (v := .int (nI 1)) (C := RX10) (T := TX10) (N := 29) hx hb hts bk1 hown hK hP 0 (by decide) f_254 rfl 0 (by decide) (hts (.fieldLink RX10 78 "GradientDeskModel" "thrown" "I") (List.mem_of_getElem? (i := 5) rfl)) (fun _ h9 => h9) (congrArg (fun z => some (Value.int z)) (show (va_up x 0 (nI 1)) 0 = (nI 1) from rfl)) dX10_reckon_48 ?_
        refine lv_if_le (tgt := 56) hx hb dX10_reckon_51 (by decide) (fun c_256 => absurd c_256 (by decide)) (fun c_256 => ?_)
        refine lv_iconst (v := nI 0) hx hb dX10_reckon_54 (by decide +kernel) ?_
        refine W.widen (k := 0) (n := 0) (by omega) (by omega) ?_
        exact W.zret (v := nI 0) hx hb hr (by decide +kernel) (fun t9 ht9 hW9 => ⟨⟨nI 0, (g_253, va_up x 0 (nI 1)), rfl, ⟨RI.num hI0 (hF0.setx (fun (k : Nat) (hk : k = 1 ∨ k = 2 ∨ k = 3) => (fr_255 k (by omega)).trans (rfl)) f_254 rfl) (fun (k : Nat) (hk : (4 ≤ k ∧ k ≤ 11) ∨ k = 16) => (fr_255 k (by omega)).trans (rfl)) (hVO0.same (fun (k : Nat) (hk : 12 ≤ k ∧ k ≤ 19) => (fr_255 k (by omega)).trans (rfl))) (va_up_ne _ _ (by decide)) (va_up_ne _ _ (by decide)) (va_up_ne _ _ (by decide)) (fun _ _ => ⟨rfl, rfl⟩) hBd, (va_up_ne _ _ (by decide)), Or.inr (Or.inl (va_up_self _ _ _))⟩, by show va_P (dC, dI) vwCl _ t9.heap; rw [ht9]; exact hP⟩, hS.F ht9⟩) hS.2.2 dX10_reckon_55
    · skip
      refine lv_if_ne (tgt := 26) hx hb dX10_reckon_14 (by decide) (fun c_257 => ?_) (fun c_257 => absurd c_257 (by decide))
      refine lv_iconst (v := nI 1) hx hb dX10_reckon_26 (by decide +kernel) ?_
      refine lv_goto (tgt := 44) hx hb dX10_reckon_27 (by decide) ?_
      refine m_put (D := (dC, dI)) (v := .int (nI 1)) (tv := .int) (C := RX10) (T := TX10) (N := 29) hx hb hts bk1 tyX10 tyX10_ok nmX10 hown hK hP hD hS 0 (by decide) r_3 rfl 0 (by decide) (hts (.fieldLink RX10 78 "GradientDeskModel" "thrown" "I") (List.mem_of_getElem? (i := 5) rfl)) (fun _ h9 => h9) rfl (by decide +kernel) rfl rfl (Nat.le_of_ble_eq_true rfl) dX10_reckon_44 (fun H locs g_258 f_259 fr_260 hP hS => ?_)
      have f_259 : g_258 0 = .inr (13, Rob ad (va_up x 0 (nI 1))) := f_259
      refine lv_aload_n hx hb dX10_reckon_47 rfl (lv_at hl 0 rfl) ?_
      refine m_get (D := (dC, dI)) (v := .int (nI 1)) (C := RX10) (T := TX10) (N := 29) hx hb hts bk1 hown hK hP 0 (by decide) f_259 rfl 0 (by decide) (hts (.fieldLink RX10 78 "GradientDeskModel" "thrown" "I") (List.mem_of_getElem? (i := 5) rfl)) (fun _ h9 => h9) (congrArg (fun z => some (Value.int z)) (show (va_up x 0 (nI 1)) 0 = (nI 1) from rfl)) dX10_reckon_48 ?_
      refine lv_if_le (tgt := 56) hx hb dX10_reckon_51 (by decide) (fun c_261 => absurd c_261 (by decide)) (fun c_261 => ?_)
      refine lv_iconst (v := nI 0) hx hb dX10_reckon_54 (by decide +kernel) ?_
      refine W.widen (k := 0) (n := 0) (by omega) (by omega) ?_
      exact W.zret (v := nI 0) hx hb hr (by decide +kernel) (fun t9 ht9 hW9 => ⟨⟨nI 0, (g_258, va_up x 0 (nI 1)), rfl, ⟨RI.num hI0 (hF0.setx (fun (k : Nat) (hk : k = 1 ∨ k = 2 ∨ k = 3) => (fr_260 k (by omega)).trans (rfl)) f_259 rfl) (fun (k : Nat) (hk : (4 ≤ k ∧ k ≤ 11) ∨ k = 16) => (fr_260 k (by omega)).trans (rfl)) (hVO0.same (fun (k : Nat) (hk : 12 ≤ k ∧ k ≤ 19) => (fr_260 k (by omega)).trans (rfl))) (va_up_ne _ _ (by decide)) (va_up_ne _ _ (by decide)) (va_up_ne _ _ (by decide)) (fun _ _ => ⟨rfl, rfl⟩) hBd, (va_up_ne _ _ (by decide)), Or.inr (Or.inl (va_up_self _ _ _))⟩, by show va_P (dC, dI) vwCl _ t9.heap; rw [ht9]; exact hP⟩, hS.F ht9⟩) hS.2.2 dX10_reckon_55
  · skip
    refine lv_if_ne (tgt := 26) hx hb dX10_reckon_6 (by decide) (fun c_262 => ?_) (fun c_262 => absurd c_262 (by decide))
    refine lv_iconst (v := nI 1) hx hb dX10_reckon_26 (by decide +kernel) ?_
    refine lv_goto (tgt := 44) hx hb dX10_reckon_27 (by decide) ?_
    refine m_put (D := (dC, dI)) (v := .int (nI 1)) (tv := .int) (C := RX10) (T := TX10) (N := 29) hx hb hts bk1 tyX10 tyX10_ok nmX10 hown hK hP hD hS 0 (by decide) r_3 rfl 0 (by decide) (hts (.fieldLink RX10 78 "GradientDeskModel" "thrown" "I") (List.mem_of_getElem? (i := 5) rfl)) (fun _ h9 => h9) rfl (by decide +kernel) rfl rfl (Nat.le_of_ble_eq_true rfl) dX10_reckon_44 (fun H locs g_263 f_264 fr_265 hP hS => ?_)
    have f_264 : g_263 0 = .inr (13, Rob ad (va_up x 0 (nI 1))) := f_264
    refine lv_aload_n hx hb dX10_reckon_47 rfl (lv_at hl 0 rfl) ?_
    refine m_get (D := (dC, dI)) (v := .int (nI 1)) (C := RX10) (T := TX10) (N := 29) hx hb hts bk1 hown hK hP 0 (by decide) f_264 rfl 0 (by decide) (hts (.fieldLink RX10 78 "GradientDeskModel" "thrown" "I") (List.mem_of_getElem? (i := 5) rfl)) (fun _ h9 => h9) (congrArg (fun z => some (Value.int z)) (show (va_up x 0 (nI 1)) 0 = (nI 1) from rfl)) dX10_reckon_48 ?_
    refine lv_if_le (tgt := 56) hx hb dX10_reckon_51 (by decide) (fun c_266 => absurd c_266 (by decide)) (fun c_266 => ?_)
    refine lv_iconst (v := nI 0) hx hb dX10_reckon_54 (by decide +kernel) ?_
    refine W.widen (k := 0) (n := 0) (by omega) (by omega) ?_
    exact W.zret (v := nI 0) hx hb hr (by decide +kernel) (fun t9 ht9 hW9 => ⟨⟨nI 0, (g_263, va_up x 0 (nI 1)), rfl, ⟨RI.num hI0 (hF0.setx (fun (k : Nat) (hk : k = 1 ∨ k = 2 ∨ k = 3) => (fr_265 k (by omega)).trans (rfl)) f_264 rfl) (fun (k : Nat) (hk : (4 ≤ k ∧ k ≤ 11) ∨ k = 16) => (fr_265 k (by omega)).trans (rfl)) (hVO0.same (fun (k : Nat) (hk : 12 ≤ k ∧ k ≤ 19) => (fr_265 k (by omega)).trans (rfl))) (va_up_ne _ _ (by decide)) (va_up_ne _ _ (by decide)) (va_up_ne _ _ (by decide)) (fun _ _ => ⟨rfl, rfl⟩) hBd, (va_up_ne _ _ (by decide)), Or.inr (Or.inl (va_up_self _ _ _))⟩, by show va_P (dC, dI) vwCl _ t9.heap; rw [ht9]; exact hP⟩, hS.F ht9⟩) hS.2.2 dX10_reckon_55
end
section
def wd_X10_compare : List Cond := .code yX10_compare cX10_compare 4 (some .int) :: (([.methodLink RX10 266 yX10_noResult, .instanceMethod yX10_noResult, .selects RX10 yX10_noResult yX10_noResult, .initialized RX10, .fieldLink RX10 78 "GradientDeskModel" "thrown" "I", .methodLink RX10 136 yX10_copyFraction, .instanceMethod yX10_copyFraction, .selects RX10 yX10_copyFraction yX10_copyFraction, .methodLink RX10 130 yX10_times, .instanceMethod yX10_times, .selects RX10 yX10_times yX10_times, .fieldLink RX10 18 "GradientDeskModel" "below" "[Z", .methodLink RX10 100 yX10_compareSizes, .instanceMethod yX10_compareSizes, .selects RX10 yX10_compareSizes yX10_compareSizes] : List Cond) ++ (wd_X10_noResult ++ (u_ws RX10 TX10 29 ++ (wd_X10_copyFraction ++ (wd_X10_times ++ (wd_X10_compareSizes ++ ([])))))))
theorem gw_X10_compare : wd_X10_compare.all goodWord = true := k_allc rfl (k_all (by decide +kernel) (k_all (gw_X10_noResult) (k_all (gu_X10) (k_all (gw_X10_copyFraction) (k_all (gw_X10_times) (k_all (gw_X10_compareSizes) (rfl)))))))
set_option maxHeartbeats 4000000 in
set_option maxRecDepth 100000 in
theorem c_X10_compare (l : Launch) (dC : Nat → ClassId) (dI : Nat → Nat → Nat) (A : Nat → Prop) (ad : Nat → Nat) (cA : Nat → ClassId) (g : Nat → va_E) (x : Nat → Int32) (L : List PD) (nm : Nat → Int) (tx : Nat → Nat) (ty : Nat) (wr : List Int) (v : Int32) (w1 : Int32) (hI : RIE ad cA g x L nm tx ty wr) : Met l yX10_compare wd_X10_compare ({ frames := 50, cells := 0, slots := 0, locals := 1000 }) (va_Pc [.ref (ad 0), .int v, .int w1] (PR NSr tyr dC dI A ad cA g)) (va_Qi (fun (r : Int32) => fun (u : (Nat → va_E) × (Nat → Int32)) => match u with | (g2, x2) => RIE ad cA g2 x2 L nm tx ty wr ∧ x2 2 = x 2 ∧ (x2 0 = nI 0 ∨ x2 0 = nI 1 ∨ x2 0 = nI 2)) (fun (u : (Nat → va_E) × (Nat → Int32)) (t : State) => va_P (dC, dI) vwCl (wo ad NSr u.1) t.heap) A) (0) (0) A := by
  refine Met.ofW (cc := cX10_compare) (maxL := 4) (ret := (some .int)) (by decide) rfl ?_
  intro p e s m args below meth c s₁ B hml hv
  obtain ⟨rfl, hA, hP, hL⟩ := hv
  have hx := B.exec
  have hb := B.bytes
  have hr := B.returns
  have hts := atoms_spec (ws := wd_X10_compare) B.pre
  have hown : s.vm.findClass RX10 = some m.cls := findClass_of_methodNamed B.named
  have hlocks := B.notSynchronized
  have hK := hL.1
  have hD : ∀ g, va_D A (wo ad NSr g) := fun g => wo_D hL.2.1 hL.2.2 g
  have hS : va_S A s.heap s.heap [] := va_S.rf
  have bk0 : ∀ w ∈ wd_X10_noResult, w ∈ wd_X10_compare := fun _ h => List.mem_cons_of_mem _ (List.mem_append_right _ (List.mem_append_left _ h))
  have bk1 : ∀ w ∈ u_ws RX10 TX10 29, w ∈ wd_X10_compare := fun _ h => List.mem_cons_of_mem _ (List.mem_append_right _ (List.mem_append_right _ (List.mem_append_left _ h)))
  have bk2 : ∀ w ∈ wd_X10_copyFraction, w ∈ wd_X10_compare := fun _ h => List.mem_cons_of_mem _ (List.mem_append_right _ (List.mem_append_right _ (List.mem_append_right _ (List.mem_append_left _ h))))
  have bk3 : ∀ w ∈ wd_X10_times, w ∈ wd_X10_compare := fun _ h => List.mem_cons_of_mem _ (List.mem_append_right _ (List.mem_append_right _ (List.mem_append_right _ (List.mem_append_right _ (List.mem_append_left _ h)))))
  have bk4 : ∀ w ∈ wd_X10_compareSizes, w ∈ wd_X10_compare := fun _ h => List.mem_cons_of_mem _ (List.mem_append_right _ (List.mem_append_right _ (List.mem_append_right _ (List.mem_append_right _ (List.mem_append_right _ (List.mem_append_left _ h))))))
  have hl := lv_entry ([.ref (ad 0), .int v, .int w1]) (n := 4) (Nat.le_of_ble_eq_true rfl)
  rw [lg_entry_eq]
  generalize (lg_sl ([.ref (ad 0), .int v, .int w1]) ++ List.replicate (4 - (lg_sl ([.ref (ad 0), .int v, .int w1])).length) Slot.unset).toArray = ls at hl ⊢
  have hl : lv_has ls 4 [(0, .ref (ad 0)), (1, .int v), (2, .int w1)] := hl
  obtain ⟨pf, qf, pt, hI0⟩ := hI
  have hI1 := hI0
  obtain ⟨hF, hPt, hM, hW, hL2, hmd, hTx, hty, hty2, hwr, hwr2, hVO, hBd⟩ := hI1
  have hVO0 := hVO
  have hPt0 := hPt
  have hTx0 := hTx
  have hF0 := hF
  obtain ⟨vf, hV, hq⟩ := hF
  have hc_1 := hV
  obtain ⟨pnz_2, lnz_2, bnz_2, hRz_2, hvz_2⟩ := hc_1
  obtain ⟨r_3, r_4, r_5, r_6, r_7, r_8, r_9⟩ := hRz_2
  obtain ⟨p_10, p_11, p_12, p_13, p_14, p_15, hpt_16⟩ := hPt
  obtain ⟨t4, t4b, t11, t11b, t11c⟩ := hTx
  obtain ⟨⟨rc, v12, v12b⟩, ⟨f13, v13⟩, ⟨f14, v14⟩, ⟨f15, v15⟩, ⟨f16, v16⟩, ⟨f17, v17⟩, ⟨f18, v18⟩, ⟨f19, v19⟩⟩ := hVO
  refine lv_aload_n hx hb dX10_compare_0 rfl (lv_at hl 0 rfl) ?_
  refine lv_aload_n hx hb dX10_compare_1 rfl (lv_at hl 0 rfl) ?_
  refine lv_iload_n hx hb dX10_compare_2 rfl (lv_at hl 1 rfl) ?_
  refine va_calli (va_runV (As := [.int v]) (rest := [.ref (ad 0)]) ⟨hx, hb, hml, hown, hts⟩ (c_X10_noResult l dC dI A ad cA g v ) (cwV 1 hts (goodIn_app (goodIn_r [Cond.methodLink RX10 266 yX10_noResult, Cond.instanceMethod yX10_noResult, Cond.selects RX10 yX10_noResult yX10_noResult, Cond.initialized RX10] [1, 2, 3, 4] rfl rfl) (goodIn_sub (fun w9 h9 => bk0 w9 h9) gw_X10_noResult)) rfl rfl rfl (by decide +kernel) ⟨Nat.le_of_ble_eq_true rfl, Nat.le_of_ble_eq_true rfl⟩) ⟨fun a U g mk q => ⟨q.1, q.2.1, q.2.2.1, LY.moved (u := U) (U := U.calling g mk a) (Vm.Alike.refl U.vm) q.2.2.2⟩, va_recv hK hP (ci := 13) (q0 := 0) rfl (wo_at (by decide) r_3), fun U hU hW => ⟨rfl, by rw [hU]; exact fun q h => hA q (Nat.le_trans hS.1 h), by rw [hU]; exact hP, LY.moved hW.alike hL⟩⟩ rfl rfl hl.1 rfl (lv_room (Nat.le_of_ble_eq_true rfl)) dX10_compare_3 ⟨(Nat.le_of_ble_eq_true rfl), (Nat.le_of_ble_eq_true rfl)⟩) hS (fun q _ h => h) (fun q h => h) (fun r_17 u8 t8 H1 locs ht8 hvm8 hw_18 hB hz1 hk1 hS => ?_)
  obtain ⟨⟩ := u8
  try dsimp only at hw_18 hB
  rw [ht8] at hB
  have hP := hB
  generalize H1 = H at hP hS ⊢
  rcases hw_18 with ⟨rfl, hnrv⟩ | ⟨rfl, hnrv⟩
  · skip
    refine lv_if_ne (tgt := 17) hx hb dX10_compare_6 (by decide) (fun c_19 => absurd c_19 (by decide)) (fun c_19 => ?_)
    refine lv_aload_n hx hb dX10_compare_9 rfl (lv_at hl 0 rfl) ?_
    refine lv_iload_n hx hb dX10_compare_10 rfl (lv_at hl 2 rfl) ?_
    refine va_calli (va_runV (As := [.int w1]) (rest := [.ref (ad 0)]) ⟨hx, hb, hml, hown, hts⟩ (c_X10_noResult l dC dI A ad cA g w1 ) (cwV 1 hts (goodIn_app (goodIn_r [Cond.methodLink RX10 266 yX10_noResult, Cond.instanceMethod yX10_noResult, Cond.selects RX10 yX10_noResult yX10_noResult, Cond.initialized RX10] [1, 2, 3, 4] rfl rfl) (goodIn_sub (fun w9 h9 => bk0 w9 h9) gw_X10_noResult)) rfl rfl rfl (by decide +kernel) ⟨Nat.le_of_ble_eq_true rfl, Nat.le_of_ble_eq_true rfl⟩) ⟨fun a U g mk q => ⟨q.1, q.2.1, q.2.2.1, LY.moved (u := U) (U := U.calling g mk a) (Vm.Alike.refl U.vm) q.2.2.2⟩, va_recv hK hP (ci := 13) (q0 := 0) rfl (wo_at (by decide) r_3), fun U hU hW => ⟨rfl, by rw [hU]; exact fun q h => hA q (Nat.le_trans hS.1 h), by rw [hU]; exact hP, LY.moved hW.alike hL⟩⟩ rfl rfl hl.1 rfl (lv_room (Nat.le_of_ble_eq_true rfl)) dX10_compare_11 ⟨(Nat.le_of_ble_eq_true rfl), (Nat.le_of_ble_eq_true rfl)⟩) hS (fun q _ h => h) (fun q h => h) (fun r_20 u8 t8 H1 locs ht8 hvm8 hw_21 hB hz1 hk1 hS => ?_)
    obtain ⟨⟩ := u8
    try dsimp only at hw_21 hB
    rw [ht8] at hB
    have hP := hB
    generalize H1 = H at hP hS ⊢
    rcases hw_21 with ⟨rfl, hnrw1⟩ | ⟨rfl, hnrw1⟩
    · skip
      refine lv_if_eq (tgt := 21) hx hb dX10_compare_14 (by decide) (fun c_22 => ?_) (fun c_22 => absurd c_22 (by decide))
      refine lv_iconst (v := nI 0) hx hb dX10_compare_21 (by decide +kernel) ?_
      refine m_put (D := (dC, dI)) (v := .int (nI 0)) (tv := .int) (C := RX10) (T := TX10) (N := 29) hx hb hts bk1 tyX10 tyX10_ok nmX10 hown hK hP hD hS 0 (by decide) r_3 rfl 0 (by decide) (hts (.fieldLink RX10 78 "GradientDeskModel" "thrown" "I") (List.mem_of_getElem? (i := 5) rfl)) (fun _ h9 => h9) rfl (by decide +kernel) rfl rfl (Nat.le_of_ble_eq_true rfl) dX10_compare_22 (fun H locs g_23 f_24 fr_25 hP hS => ?_)
      have f_24 : g_23 0 = .inr (13, Rob ad (va_up x 0 (nI 0))) := f_24
      refine lv_aload_n hx hb dX10_compare_25 rfl (lv_at hl 0 rfl) ?_
      refine m_get (D := (dC, dI)) (v := .int (nI 0)) (C := RX10) (T := TX10) (N := 29) hx hb hts bk1 hown hK hP 0 (by decide) f_24 rfl 0 (by decide) (hts (.fieldLink RX10 78 "GradientDeskModel" "thrown" "I") (List.mem_of_getElem? (i := 5) rfl)) (fun _ h9 => h9) (congrArg (fun z => some (Value.int z)) (show (va_up x 0 (nI 0)) 0 = (nI 0) from rfl)) dX10_compare_26 ?_
      refine lv_if_le (tgt := 34) hx hb dX10_compare_29 (by decide) (fun c_26 => ?_) (fun c_26 => absurd c_26 (by decide))
      obtain ⟨an, han, ean, -⟩ := k_nat (x := v) (by omega)
      subst han
      obtain ⟨cn, hcn, ecn, -⟩ := k_nat (x := w1) (by omega)
      subst hcn
      refine lv_aload_n hx hb dX10_compare_34 rfl (lv_at hl 0 rfl) ?_
      refine lv_sipush (v := nI 1012) hx hb dX10_compare_35 (by decide +kernel) ?_
      refine lv_sipush (v := nI 1000) hx hb dX10_compare_38 (by decide +kernel) ?_
      refine lv_iload_n hx hb dX10_compare_41 rfl (lv_at hl 1 rfl) ?_
      refine lv_iadd hx hb dX10_compare_42 ?_
      refine lv_topi (fun x_27 e_28 => ?_)
      obtain rfl : x_27 = nI (1000 + an) := e_28.trans (nI_add 1000 an)
      have hF1 : RF ad cA g_23 (va_up x 0 (nI 0)) pf qf := hF0.setx (fun (k : Nat) (hk : k = 1 ∨ k = 2 ∨ k = 3) => (fr_25 k (by omega)).trans (rfl)) f_24 rfl
      refine va_callv (va_runV (As := [.int (nI 1012), .int (nI (1000 + an))]) (rest := []) ⟨hx, hb, hml, hown, hts⟩ (c_X10_copyFraction l dC dI A ad cA g_23 (va_up x 0 (nI 0)) pf qf 1012 (1000 + an) hF1 (by decide) (by omega)) (cwV 2 hts (goodIn_app (goodIn_r [Cond.methodLink RX10 136 yX10_copyFraction, Cond.instanceMethod yX10_copyFraction, Cond.selects RX10 yX10_copyFraction yX10_copyFraction, Cond.initialized RX10] [6, 7, 8, 4] rfl rfl) (goodIn_sub (fun w9 h9 => bk2 w9 h9) gw_X10_copyFraction)) rfl rfl rfl (by decide +kernel) ⟨Nat.le_of_ble_eq_true rfl, Nat.le_of_ble_eq_true rfl⟩) ⟨fun a U g mk q => ⟨q.1, q.2.1, q.2.2.1, LY.moved (u := U) (U := U.calling g mk a) (Vm.Alike.refl U.vm) q.2.2.2⟩, va_recv hK hP (ci := 13) (q0 := 0) rfl (wo_at (by decide) f_24), fun U hU hW => ⟨rfl, by rw [hU]; exact fun q h => hA q (Nat.le_trans hS.1 h), by rw [hU]; exact hP, LY.moved hW.alike hL⟩⟩ rfl rfl hl.1 rfl (lv_room (Nat.le_of_ble_eq_true rfl)) dX10_compare_43 ⟨(Nat.le_of_ble_eq_true rfl), (Nat.le_of_ble_eq_true rfl)⟩) hS (fun q _ h => h) (fun q h => h) (fun u8 t8 H1 locs ht8 hvm8 hw_29 hB hz1 hk1 hS => ?_)
      obtain ⟨g_30, rfl⟩ : ∃ z, z = u8 := ⟨_, rfl⟩
      try dsimp only at hw_29 hB
      rw [ht8] at hB
      have hP := hB
      generalize H1 = H at hP hS ⊢
      obtain ⟨fr_31, hF2⟩ := hw_29
      refine lv_aload_n hx hb dX10_compare_46 rfl (lv_at hl 0 rfl) ?_
      refine lv_sipush (v := nI 1013) hx hb dX10_compare_47 (by decide +kernel) ?_
      refine lv_sipush (v := nI 1000) hx hb dX10_compare_50 (by decide +kernel) ?_
      refine lv_iload_n hx hb dX10_compare_53 rfl (lv_at hl 2 rfl) ?_
      refine lv_iadd hx hb dX10_compare_54 ?_
      refine lv_topi (fun x_32 e_33 => ?_)
      obtain rfl : x_32 = nI (1000 + cn) := e_33.trans (nI_add 1000 cn)
      have f_34 : g_30 0 = .inr (13, Rob ad (va_up x 0 (nI 0))) := (fr_31 0 (by omega)).trans f_24
      refine va_callv (va_runV (As := [.int (nI 1013), .int (nI (1000 + cn))]) (rest := []) ⟨hx, hb, hml, hown, hts⟩ (c_X10_copyFraction l dC dI A ad cA g_30 (va_up x 0 (nI 0)) (va_up pf 1012 (pf (1000 + an))) (va_up qf 1012 (qf (1000 + an))) 1013 (1000 + cn) hF2 (by decide) (by omega)) (cwV 2 hts (goodIn_app (goodIn_r [Cond.methodLink RX10 136 yX10_copyFraction, Cond.instanceMethod yX10_copyFraction, Cond.selects RX10 yX10_copyFraction yX10_copyFraction, Cond.initialized RX10] [6, 7, 8, 4] rfl rfl) (goodIn_sub (fun w9 h9 => bk2 w9 h9) gw_X10_copyFraction)) rfl rfl rfl (by decide +kernel) ⟨Nat.le_of_ble_eq_true rfl, Nat.le_of_ble_eq_true rfl⟩) ⟨fun a U g mk q => ⟨q.1, q.2.1, q.2.2.1, LY.moved (u := U) (U := U.calling g mk a) (Vm.Alike.refl U.vm) q.2.2.2⟩, va_recv hK hP (ci := 13) (q0 := 0) rfl (wo_at (by decide) f_34), fun U hU hW => ⟨rfl, by rw [hU]; exact fun q h => hA q (Nat.le_trans hS.1 h), by rw [hU]; exact hP, LY.moved hW.alike hL⟩⟩ rfl rfl hl.1 rfl (lv_room (Nat.le_of_ble_eq_true rfl)) dX10_compare_55 ⟨(Nat.le_of_ble_eq_true rfl), (Nat.le_of_ble_eq_true rfl)⟩) hS (fun q _ h => h) (fun q h => h) (fun u8 t8 H1 locs ht8 hvm8 hw_35 hB hz1 hk1 hS => ?_)
      obtain ⟨g_36, rfl⟩ : ∃ z, z = u8 := ⟨_, rfl⟩
      try dsimp only at hw_35 hB
      rw [ht8] at hB
      have hP := hB
      generalize H1 = H at hP hS ⊢
      obtain ⟨fr_37, hF3⟩ := hw_35
      obtain ⟨p3, hp3⟩ : ∃ z9, z9 = va_up (va_up pf 1012 (pf (1000 + an))) 1013 ((va_up pf 1012 (pf (1000 + an))) (1000 + cn)) := ⟨_, rfl⟩
      obtain ⟨q3, hq3⟩ : ∃ z9, z9 = va_up (va_up qf 1012 (qf (1000 + an))) 1013 ((va_up qf 1012 (qf (1000 + an))) (1000 + cn)) := ⟨_, rfl⟩
      rw [← hp3, ← hq3] at hF3
      have b12 : (p3 1012).natAbs < 2 ^ 1000 ∧ q3 1012 < 2 ^ 1000 := by rw [show p3 1012 = pf (1000 + an) by rw [hp3]; exact (va_up_ne _ _ (by decide)).trans (va_up_self _ _ _), show q3 1012 = qf (1000 + an) by rw [hq3]; exact (va_up_ne _ _ (by decide)).trans (va_up_self _ _ _)]; exact hBd.1 an (by omega)
      have b13 : (p3 1013).natAbs < 2 ^ 1000 ∧ q3 1013 < 2 ^ 1000 := by rw [show p3 1013 = pf (1000 + cn) by rw [hp3]; exact (va_up_self _ _ _).trans (va_up_ne _ _ (by omega)), show q3 1013 = qf (1000 + cn) by rw [hq3]; exact (va_up_self _ _ _).trans (va_up_ne _ _ (by omega))]; exact hBd.1 cn (by omega)
      have hO3 : ∀ f, f ≠ 1012 → f ≠ 1013 → p3 f = pf f ∧ q3 f = qf f := fun f h1 h2 => by rw [hp3, hq3, va_up_ne _ _ h2, va_up_ne _ _ h2, va_up_ne _ _ h1, va_up_ne _ _ h1]; exact ⟨rfl, rfl⟩
      refine lv_aload_n hx hb dX10_compare_58 rfl (lv_at hl 0 rfl) ?_
      refine lv_sipush (v := nI 2064) hx hb dX10_compare_59 (by decide +kernel) ?_
      refine lv_sipush (v := nI 2024) hx hb dX10_compare_62 (by decide +kernel) ?_
      refine lv_sipush (v := nI 2027) hx hb dX10_compare_65 (by decide +kernel) ?_
      have hF3c := hF3
      obtain ⟨vf3, hV3, hw3⟩ := hF3c
      have k24 := k_24
      have e24 : (vf3 2024).natAbs = (p3 1012).natAbs := congrArg Int.natAbs (hw3 1012 (by decide)).1
      have e26 : (vf3 2026).natAbs = (p3 1013).natAbs := congrArg Int.natAbs (hw3 1013 (by decide)).1
      have e25 : (vf3 2025).natAbs = q3 1012 := by have h9 : vf3 2025 = ((q3 1012 : Nat) : Int) := (hw3 1012 (by decide)).2.1; omega
      have e27 : (vf3 2027).natAbs = q3 1013 := by have h9 : vf3 2027 = ((q3 1013 : Nat) : Int) := (hw3 1013 (by decide)).2.1; omega
      have f_38 : g_36 0 = .inr (13, Rob ad (va_up x 0 (nI 0))) := (fr_37 0 (by omega)).trans f_34
      refine va_callv (va_runV (As := [.int (nI 2064), .int (nI 2024), .int (nI 2027)]) (rest := []) ⟨hx, hb, hml, hown, hts⟩ (c_X10_times l dC dI A ad cA g_36 (va_up x 0 (nI 0)) vf3 2064 2024 2027 hV3 (by decide) (by decide) (by decide) (by rw [e24, e27]; have := k_m24 (k_1012 b12).1 (k_1012 b13).2; omega)) (cwV 3 hts (goodIn_app (goodIn_r [Cond.methodLink RX10 130 yX10_times, Cond.instanceMethod yX10_times, Cond.selects RX10 yX10_times yX10_times, Cond.initialized RX10] [9, 10, 11, 4] rfl rfl) (goodIn_sub (fun w9 h9 => bk3 w9 h9) gw_X10_times)) rfl rfl rfl (by decide +kernel) ⟨Nat.le_of_ble_eq_true rfl, Nat.le_of_ble_eq_true rfl⟩) ⟨fun a U g mk q => ⟨q.1, q.2.1, q.2.2.1, LY.moved (u := U) (U := U.calling g mk a) (Vm.Alike.refl U.vm) q.2.2.2⟩, va_recv hK hP (ci := 13) (q0 := 0) rfl (wo_at (by decide) f_38), fun U hU hW => ⟨rfl, by rw [hU]; exact fun q h => hA q (Nat.le_trans hS.1 h), by rw [hU]; exact hP, LY.moved hW.alike hL⟩⟩ rfl rfl hl.1 rfl (lv_room (Nat.le_of_ble_eq_true rfl)) dX10_compare_68 ⟨(Nat.le_of_ble_eq_true rfl), (Nat.le_of_ble_eq_true rfl)⟩) hS (fun q _ h => h) (fun q h => h) (fun u8 t8 H1 locs ht8 hvm8 hw_39 hB hz1 hk1 hS => ?_)
      obtain ⟨g_40, rfl⟩ : ∃ z, z = u8 := ⟨_, rfl⟩
      try dsimp only at hw_39 hB
      rw [ht8] at hB
      have hP := hB
      generalize H1 = H at hP hS ⊢
      obtain ⟨fr_41, hV4⟩ := hw_39
      obtain ⟨vf4, ev4⟩ : ∃ z9, z9 = va_up vf3 2064 (vf3 2024 * vf3 2027) := ⟨_, rfl⟩
      rw [← ev4] at hV4
      have o4 : ∀ j, j ≠ 2064 → vf4 j = vf3 j := fun j hj => by rw [ev4]; exact va_up_ne _ _ hj
      refine lv_aload_n hx hb dX10_compare_71 rfl (lv_at hl 0 rfl) ?_
      refine lv_sipush (v := nI 2065) hx hb dX10_compare_72 (by decide +kernel) ?_
      refine lv_sipush (v := nI 2026) hx hb dX10_compare_75 (by decide +kernel) ?_
      refine lv_sipush (v := nI 2025) hx hb dX10_compare_78 (by decide +kernel) ?_
      have f_42 : g_40 0 = .inr (13, Rob ad (va_up x 0 (nI 0))) := (fr_41 0 (by omega)).trans f_38
      refine va_callv (va_runV (As := [.int (nI 2065), .int (nI 2026), .int (nI 2025)]) (rest := []) ⟨hx, hb, hml, hown, hts⟩ (c_X10_times l dC dI A ad cA g_40 (va_up x 0 (nI 0)) vf4 2065 2026 2025 hV4 (by decide) (by decide) (by decide) (by rw [o4 2026 (by decide), o4 2025 (by decide), e26, e25]; have := k_m24 (k_1012 b13).1 (k_1012 b12).2; omega)) (cwV 3 hts (goodIn_app (goodIn_r [Cond.methodLink RX10 130 yX10_times, Cond.instanceMethod yX10_times, Cond.selects RX10 yX10_times yX10_times, Cond.initialized RX10] [9, 10, 11, 4] rfl rfl) (goodIn_sub (fun w9 h9 => bk3 w9 h9) gw_X10_times)) rfl rfl rfl (by decide +kernel) ⟨Nat.le_of_ble_eq_true rfl, Nat.le_of_ble_eq_true rfl⟩) ⟨fun a U g mk q => ⟨q.1, q.2.1, q.2.2.1, LY.moved (u := U) (U := U.calling g mk a) (Vm.Alike.refl U.vm) q.2.2.2⟩, va_recv hK hP (ci := 13) (q0 := 0) rfl (wo_at (by decide) f_42), fun U hU hW => ⟨rfl, by rw [hU]; exact fun q h => hA q (Nat.le_trans hS.1 h), by rw [hU]; exact hP, LY.moved hW.alike hL⟩⟩ rfl rfl hl.1 rfl (lv_room (Nat.le_of_ble_eq_true rfl)) dX10_compare_81 ⟨(Nat.le_of_ble_eq_true rfl), (Nat.le_of_ble_eq_true rfl)⟩) hS (fun q _ h => h) (fun q h => h) (fun u8 t8 H1 locs ht8 hvm8 hw_43 hB hz1 hk1 hS => ?_)
      obtain ⟨g_44, rfl⟩ : ∃ z, z = u8 := ⟨_, rfl⟩
      try dsimp only at hw_43 hB
      rw [ht8] at hB
      have hP := hB
      generalize H1 = H at hP hS ⊢
      obtain ⟨fr_45, hV5⟩ := hw_43
      obtain ⟨vf5, ev5⟩ : ∃ z9, z9 = va_up vf4 2065 (vf4 2026 * vf4 2025) := ⟨_, rfl⟩
      rw [← ev5] at hV5
      have o5 : ∀ j, j < 2060 → vf5 j = vf3 j := fun j hj => by rw [ev5]; exact (va_up_ne _ _ (by omega)).trans (o4 j (by omega))
      have hF5 : RF ad cA g_44 (va_up x 0 (nI 0)) p3 q3 := ⟨vf5, hV5, fun f hf => by rw [o5 (2 * f) (by omega), o5 (2 * f + 1) (by omega)]; exact hw3 f hf⟩
      have hc_46 := hV5
      obtain ⟨pnz_47, lnz_47, bnz_47, hRz_47, hvz_47⟩ := hc_46
      obtain ⟨r_48, r_49, r_50, r_51, r_52, r_53, r_54⟩ := hRz_47
      refine lv_aload_n hx hb dX10_compare_84 rfl (lv_at hl 0 rfl) ?_
      refine m_get (D := (dC, dI)) (v := .ref (ad 3)) (C := RX10) (T := TX10) (N := 29) hx hb hts bk1 hown hK hP 0 (by decide) r_48 rfl 3 (by decide) (hts (.fieldLink RX10 18 "GradientDeskModel" "below" "[Z") (List.mem_of_getElem? (i := 12) rfl)) (fun _ h9 => h9) rfl dX10_compare_85 ?_
      refine lv_sipush (v := nI 2064) hx hb dX10_compare_88 (by decide +kernel) ?_
      refine m_zald hx hb hK hP 3 (by decide) rfl r_51 (i := 2064) (by decide) (by decide) dX10_compare_91 ?_
      have b_55 := r_54 2064
      refine lv_aload_n hx hb dX10_compare_92 rfl (lv_at hl 0 rfl) ?_
      refine m_get (D := (dC, dI)) (v := .ref (ad 3)) (C := RX10) (T := TX10) (N := 29) hx hb hts bk1 hown hK hP 0 (by decide) r_48 rfl 3 (by decide) (hts (.fieldLink RX10 18 "GradientDeskModel" "below" "[Z") (List.mem_of_getElem? (i := 12) rfl)) (fun _ h9 => h9) rfl dX10_compare_93 ?_
      refine lv_sipush (v := nI 2065) hx hb dX10_compare_96 (by decide +kernel) ?_
      refine m_zald hx hb hK hP 3 (by decide) rfl r_51 (i := 2065) (by decide) (by decide) dX10_compare_99 ?_
      have b_56 := r_54 2065
      refine lv_icmp_eq (tgt := 120) hx hb dX10_compare_100 (by decide) (fun c_57 => ?_) (fun c_57 => ?_)
      · have c_57 := (nI_eq (a := (bnz_47 2064)) (b := (bnz_47 2065)) (by omega) (by omega)).mp c_57
        refine lv_aload_n hx hb dX10_compare_120 rfl (lv_at hl 0 rfl) ?_
        refine lv_sipush (v := nI 2064) hx hb dX10_compare_121 (by decide +kernel) ?_
        refine lv_sipush (v := nI 2065) hx hb dX10_compare_124 (by decide +kernel) ?_
        refine va_calli (va_runV (As := [.int (nI 2064), .int (nI 2065)]) (rest := []) ⟨hx, hb, hml, hown, hts⟩ (c_X10_compareSizes l dC dI A ad cA g_44 (va_up x 0 (nI 0)) vf5 2064 2065 hV5 (by decide) (by decide)) (cwV 2 hts (goodIn_app (goodIn_r [Cond.methodLink RX10 100 yX10_compareSizes, Cond.instanceMethod yX10_compareSizes, Cond.selects RX10 yX10_compareSizes yX10_compareSizes, Cond.initialized RX10] [13, 14, 15, 4] rfl rfl) (goodIn_sub (fun w9 h9 => bk4 w9 h9) gw_X10_compareSizes)) rfl rfl rfl (by decide +kernel) ⟨Nat.le_of_ble_eq_true rfl, Nat.le_of_ble_eq_true rfl⟩) ⟨fun a U g mk q => ⟨q.1, q.2.1, q.2.2.1, LY.moved (u := U) (U := U.calling g mk a) (Vm.Alike.refl U.vm) q.2.2.2⟩, va_recv hK hP (ci := 13) (q0 := 0) rfl (wo_at (by decide) r_48), fun U hU hW => ⟨rfl, by rw [hU]; exact fun q h => hA q (Nat.le_trans hS.1 h), by rw [hU]; exact hP, LY.moved hW.alike hL⟩⟩ rfl rfl hl.1 rfl (lv_room (Nat.le_of_ble_eq_true rfl)) dX10_compare_127 ⟨(Nat.le_of_ble_eq_true rfl), (Nat.le_of_ble_eq_true rfl)⟩) hS (fun q _ h => h) (fun q h => h) (fun r_58 u8 t8 H1 locs ht8 hvm8 hw_59 hB hz1 hk1 hS => ?_)
        obtain ⟨⟩ := u8
        try dsimp only at hw_59 hB
        rw [ht8] at hB
        have hP := hB
        generalize H1 = H at hP hS ⊢
        refine lv_istore_n (lv' := [(3, .int r_58), (0, .ref (ad 0)), (1, .int (nI an)), (2, .int (nI cn))]) hx hb dX10_compare_130 rfl hl (by decide) rfl (fun ls hl => ?_)
        refine lv_aload_n hx hb dX10_compare_131 rfl (lv_at hl 1 rfl) ?_
        refine m_get (D := (dC, dI)) (v := .ref (ad 3)) (C := RX10) (T := TX10) (N := 29) hx hb hts bk1 hown hK hP 0 (by decide) r_48 rfl 3 (by decide) (hts (.fieldLink RX10 18 "GradientDeskModel" "below" "[Z") (List.mem_of_getElem? (i := 12) rfl)) (fun _ h9 => h9) rfl dX10_compare_132 ?_
        refine lv_sipush (v := nI 2064) hx hb dX10_compare_135 (by decide +kernel) ?_
        refine m_zald hx hb hK hP 3 (by decide) rfl r_51 (i := 2064) (by decide) (by decide) dX10_compare_138 ?_
        have b_60 := r_54 2064
        refine lv_if_eq (tgt := 147) hx hb dX10_compare_139 (by decide) (fun c_61 => ?_) (fun c_61 => ?_)
        · have c_61 := (nI_eq (a := (bnz_47 2064)) (b := 0) (by omega) (by decide)).mp c_61
          refine lv_iload_n hx hb dX10_compare_147 rfl (lv_at hl 0 rfl) ?_
          refine W.widen (k := 0) (n := 0) (by omega) (by omega) ?_
          exact W.iret (v := r_58) hx hb hr (fun t9 ht9 hW9 => ⟨⟨r_58, (g_44, va_up x 0 (nI 0)), rfl, ⟨RI.num hI0 hF5 (fun (k : Nat) (hk : (4 ≤ k ∧ k ≤ 11) ∨ k = 16) => (fr_45 k (by omega)).trans ((fr_41 k (by omega)).trans ((fr_37 k (by omega)).trans ((fr_31 k (by omega)).trans ((fr_25 k (by omega)).trans (rfl)))))) (hVO0.same (fun (k : Nat) (hk : 12 ≤ k ∧ k ≤ 19) => (fr_45 k (by omega)).trans ((fr_41 k (by omega)).trans ((fr_37 k (by omega)).trans ((fr_31 k (by omega)).trans ((fr_25 k (by omega)).trans (rfl))))))) (va_up_ne _ _ (by decide)) (va_up_ne _ _ (by decide)) (va_up_ne _ _ (by decide)) (fun f hf => hO3 f (by omega) (by omega)) (hBd.res (fun r9 h9 => Or.inl (hO3 _ (by omega) (by omega))) (fun v9 h9 => Or.inl (hO3 _ (by omega) (by omega)))), (va_up_ne _ _ (by decide)), Or.inl (va_up_self _ _ _)⟩, by show va_P (dC, dI) vwCl _ t9.heap; rw [ht9]; exact hP⟩, hS.F ht9⟩) hS.2.2 dX10_compare_148
        · have c_61 := mt (nI_eq (a := (bnz_47 2064)) (b := 0) (by omega) (by decide)).mpr c_61
          refine lv_iload_n hx hb dX10_compare_142 rfl (lv_at hl 0 rfl) ?_
          refine lv_ineg hx hb dX10_compare_143 ?_
          refine lv_topi (fun x_62 e_63 => ?_)
          refine lv_goto (tgt := 148) hx hb dX10_compare_144 (by decide) ?_
          refine W.widen (k := 0) (n := 0) (by omega) (by omega) ?_
          exact W.iret (v := x_62) hx hb hr (fun t9 ht9 hW9 => ⟨⟨x_62, (g_44, va_up x 0 (nI 0)), rfl, ⟨RI.num hI0 hF5 (fun (k : Nat) (hk : (4 ≤ k ∧ k ≤ 11) ∨ k = 16) => (fr_45 k (by omega)).trans ((fr_41 k (by omega)).trans ((fr_37 k (by omega)).trans ((fr_31 k (by omega)).trans ((fr_25 k (by omega)).trans (rfl)))))) (hVO0.same (fun (k : Nat) (hk : 12 ≤ k ∧ k ≤ 19) => (fr_45 k (by omega)).trans ((fr_41 k (by omega)).trans ((fr_37 k (by omega)).trans ((fr_31 k (by omega)).trans ((fr_25 k (by omega)).trans (rfl))))))) (va_up_ne _ _ (by decide)) (va_up_ne _ _ (by decide)) (va_up_ne _ _ (by decide)) (fun f hf => hO3 f (by omega) (by omega)) (hBd.res (fun r9 h9 => Or.inl (hO3 _ (by omega) (by omega))) (fun v9 h9 => Or.inl (hO3 _ (by omega) (by omega)))), (va_up_ne _ _ (by decide)), Or.inl (va_up_self _ _ _)⟩, by show va_P (dC, dI) vwCl _ t9.heap; rw [ht9]; exact hP⟩, hS.F ht9⟩) hS.2.2 dX10_compare_148
      · have c_57 := mt (nI_eq (a := (bnz_47 2064)) (b := (bnz_47 2065)) (by omega) (by omega)).mpr c_57
        refine lv_aload_n hx hb dX10_compare_103 rfl (lv_at hl 0 rfl) ?_
        refine m_get (D := (dC, dI)) (v := .ref (ad 3)) (C := RX10) (T := TX10) (N := 29) hx hb hts bk1 hown hK hP 0 (by decide) r_48 rfl 3 (by decide) (hts (.fieldLink RX10 18 "GradientDeskModel" "below" "[Z") (List.mem_of_getElem? (i := 12) rfl)) (fun _ h9 => h9) rfl dX10_compare_104 ?_
        refine lv_sipush (v := nI 2064) hx hb dX10_compare_107 (by decide +kernel) ?_
        refine m_zald hx hb hK hP 3 (by decide) rfl r_51 (i := 2064) (by decide) (by decide) dX10_compare_110 ?_
        have b_64 := r_54 2064
        refine lv_if_eq (tgt := 118) hx hb dX10_compare_111 (by decide) (fun c_65 => ?_) (fun c_65 => ?_)
        · have c_65 := (nI_eq (a := (bnz_47 2064)) (b := 0) (by omega) (by decide)).mp c_65
          refine lv_iconst (v := nI 1) hx hb dX10_compare_118 (by decide +kernel) ?_
          refine W.widen (k := 0) (n := 0) (by omega) (by omega) ?_
          exact W.iret (v := nI 1) hx hb hr (fun t9 ht9 hW9 => ⟨⟨nI 1, (g_44, va_up x 0 (nI 0)), rfl, ⟨RI.num hI0 hF5 (fun (k : Nat) (hk : (4 ≤ k ∧ k ≤ 11) ∨ k = 16) => (fr_45 k (by omega)).trans ((fr_41 k (by omega)).trans ((fr_37 k (by omega)).trans ((fr_31 k (by omega)).trans ((fr_25 k (by omega)).trans (rfl)))))) (hVO0.same (fun (k : Nat) (hk : 12 ≤ k ∧ k ≤ 19) => (fr_45 k (by omega)).trans ((fr_41 k (by omega)).trans ((fr_37 k (by omega)).trans ((fr_31 k (by omega)).trans ((fr_25 k (by omega)).trans (rfl))))))) (va_up_ne _ _ (by decide)) (va_up_ne _ _ (by decide)) (va_up_ne _ _ (by decide)) (fun f hf => hO3 f (by omega) (by omega)) (hBd.res (fun r9 h9 => Or.inl (hO3 _ (by omega) (by omega))) (fun v9 h9 => Or.inl (hO3 _ (by omega) (by omega)))), (va_up_ne _ _ (by decide)), Or.inl (va_up_self _ _ _)⟩, by show va_P (dC, dI) vwCl _ t9.heap; rw [ht9]; exact hP⟩, hS.F ht9⟩) hS.2.2 dX10_compare_119
        · have c_65 := mt (nI_eq (a := (bnz_47 2064)) (b := 0) (by omega) (by decide)).mpr c_65
          refine lv_iconst (v := -1) hx hb dX10_compare_114 (by decide +kernel) ?_
          refine lv_goto (tgt := 119) hx hb dX10_compare_115 (by decide) ?_
          refine W.widen (k := 0) (n := 0) (by omega) (by omega) ?_
          exact W.iret (v := -1) hx hb hr (fun t9 ht9 hW9 => ⟨⟨-1, (g_44, va_up x 0 (nI 0)), rfl, ⟨RI.num hI0 hF5 (fun (k : Nat) (hk : (4 ≤ k ∧ k ≤ 11) ∨ k = 16) => (fr_45 k (by omega)).trans ((fr_41 k (by omega)).trans ((fr_37 k (by omega)).trans ((fr_31 k (by omega)).trans ((fr_25 k (by omega)).trans (rfl)))))) (hVO0.same (fun (k : Nat) (hk : 12 ≤ k ∧ k ≤ 19) => (fr_45 k (by omega)).trans ((fr_41 k (by omega)).trans ((fr_37 k (by omega)).trans ((fr_31 k (by omega)).trans ((fr_25 k (by omega)).trans (rfl))))))) (va_up_ne _ _ (by decide)) (va_up_ne _ _ (by decide)) (va_up_ne _ _ (by decide)) (fun f hf => hO3 f (by omega) (by omega)) (hBd.res (fun r9 h9 => Or.inl (hO3 _ (by omega) (by omega))) (fun v9 h9 => Or.inl (hO3 _ (by omega) (by omega)))), (va_up_ne _ _ (by decide)), Or.inl (va_up_self _ _ _)⟩, by show va_P (dC, dI) vwCl _ t9.heap; rw [ht9]; exact hP⟩, hS.F ht9⟩) hS.2.2 dX10_compare_119
    · skip
      refine lv_if_eq (tgt := 21) hx hb dX10_compare_14 (by decide) (fun c_66 => absurd c_66 (by decide)) (fun c_66 => ?_)
      refine lv_iconst (v := nI 1) hx hb dX10_compare_17 (by decide +kernel) ?_
      refine lv_goto (tgt := 22) hx hb dX10_compare_18 (by decide) ?_
      refine m_put (D := (dC, dI)) (v := .int (nI 1)) (tv := .int) (C := RX10) (T := TX10) (N := 29) hx hb hts bk1 tyX10 tyX10_ok nmX10 hown hK hP hD hS 0 (by decide) r_3 rfl 0 (by decide) (hts (.fieldLink RX10 78 "GradientDeskModel" "thrown" "I") (List.mem_of_getElem? (i := 5) rfl)) (fun _ h9 => h9) rfl (by decide +kernel) rfl rfl (Nat.le_of_ble_eq_true rfl) dX10_compare_22 (fun H locs g_67 f_68 fr_69 hP hS => ?_)
      have f_68 : g_67 0 = .inr (13, Rob ad (va_up x 0 (nI 1))) := f_68
      refine lv_aload_n hx hb dX10_compare_25 rfl (lv_at hl 0 rfl) ?_
      refine m_get (D := (dC, dI)) (v := .int (nI 1)) (C := RX10) (T := TX10) (N := 29) hx hb hts bk1 hown hK hP 0 (by decide) f_68 rfl 0 (by decide) (hts (.fieldLink RX10 78 "GradientDeskModel" "thrown" "I") (List.mem_of_getElem? (i := 5) rfl)) (fun _ h9 => h9) (congrArg (fun z => some (Value.int z)) (show (va_up x 0 (nI 1)) 0 = (nI 1) from rfl)) dX10_compare_26 ?_
      refine lv_if_le (tgt := 34) hx hb dX10_compare_29 (by decide) (fun c_70 => absurd c_70 (by decide)) (fun c_70 => ?_)
      refine lv_iconst (v := nI 0) hx hb dX10_compare_32 (by decide +kernel) ?_
      refine W.widen (k := 0) (n := 0) (by omega) (by omega) ?_
      exact W.iret (v := nI 0) hx hb hr (fun t9 ht9 hW9 => ⟨⟨nI 0, (g_67, va_up x 0 (nI 1)), rfl, ⟨RI.num hI0 (hF0.setx (fun (k : Nat) (hk : k = 1 ∨ k = 2 ∨ k = 3) => (fr_69 k (by omega)).trans (rfl)) f_68 rfl) (fun (k : Nat) (hk : (4 ≤ k ∧ k ≤ 11) ∨ k = 16) => (fr_69 k (by omega)).trans (rfl)) (hVO0.same (fun (k : Nat) (hk : 12 ≤ k ∧ k ≤ 19) => (fr_69 k (by omega)).trans (rfl))) (va_up_ne _ _ (by decide)) (va_up_ne _ _ (by decide)) (va_up_ne _ _ (by decide)) (fun _ _ => ⟨rfl, rfl⟩) hBd, (va_up_ne _ _ (by decide)), Or.inr (Or.inl (va_up_self _ _ _))⟩, by show va_P (dC, dI) vwCl _ t9.heap; rw [ht9]; exact hP⟩, hS.F ht9⟩) hS.2.2 dX10_compare_33
  · skip
    refine lv_if_ne (tgt := 17) hx hb dX10_compare_6 (by decide) (fun c_71 => ?_) (fun c_71 => absurd c_71 (by decide))
    refine lv_iconst (v := nI 1) hx hb dX10_compare_17 (by decide +kernel) ?_
    refine lv_goto (tgt := 22) hx hb dX10_compare_18 (by decide) ?_
    refine m_put (D := (dC, dI)) (v := .int (nI 1)) (tv := .int) (C := RX10) (T := TX10) (N := 29) hx hb hts bk1 tyX10 tyX10_ok nmX10 hown hK hP hD hS 0 (by decide) r_3 rfl 0 (by decide) (hts (.fieldLink RX10 78 "GradientDeskModel" "thrown" "I") (List.mem_of_getElem? (i := 5) rfl)) (fun _ h9 => h9) rfl (by decide +kernel) rfl rfl (Nat.le_of_ble_eq_true rfl) dX10_compare_22 (fun H locs g_72 f_73 fr_74 hP hS => ?_)
    have f_73 : g_72 0 = .inr (13, Rob ad (va_up x 0 (nI 1))) := f_73
    refine lv_aload_n hx hb dX10_compare_25 rfl (lv_at hl 0 rfl) ?_
    refine m_get (D := (dC, dI)) (v := .int (nI 1)) (C := RX10) (T := TX10) (N := 29) hx hb hts bk1 hown hK hP 0 (by decide) f_73 rfl 0 (by decide) (hts (.fieldLink RX10 78 "GradientDeskModel" "thrown" "I") (List.mem_of_getElem? (i := 5) rfl)) (fun _ h9 => h9) (congrArg (fun z => some (Value.int z)) (show (va_up x 0 (nI 1)) 0 = (nI 1) from rfl)) dX10_compare_26 ?_
    refine lv_if_le (tgt := 34) hx hb dX10_compare_29 (by decide) (fun c_75 => absurd c_75 (by decide)) (fun c_75 => ?_)
    refine lv_iconst (v := nI 0) hx hb dX10_compare_32 (by decide +kernel) ?_
    refine W.widen (k := 0) (n := 0) (by omega) (by omega) ?_
    exact W.iret (v := nI 0) hx hb hr (fun t9 ht9 hW9 => ⟨⟨nI 0, (g_72, va_up x 0 (nI 1)), rfl, ⟨RI.num hI0 (hF0.setx (fun (k : Nat) (hk : k = 1 ∨ k = 2 ∨ k = 3) => (fr_74 k (by omega)).trans (rfl)) f_73 rfl) (fun (k : Nat) (hk : (4 ≤ k ∧ k ≤ 11) ∨ k = 16) => (fr_74 k (by omega)).trans (rfl)) (hVO0.same (fun (k : Nat) (hk : 12 ≤ k ∧ k ≤ 19) => (fr_74 k (by omega)).trans (rfl))) (va_up_ne _ _ (by decide)) (va_up_ne _ _ (by decide)) (va_up_ne _ _ (by decide)) (fun _ _ => ⟨rfl, rfl⟩) hBd, (va_up_ne _ _ (by decide)), Or.inr (Or.inl (va_up_self _ _ _))⟩, by show va_P (dC, dI) vwCl _ t9.heap; rw [ht9]; exact hP⟩, hS.F ht9⟩) hS.2.2 dX10_compare_33
end
section
/-! the text: the sign at a place, 0 behind the end -/
def nx (tx : Nat → Nat) (ty a : Nat) : Nat := if a < ty then tx a else 0
def isDg (v : Nat) : Bool := decide (48 ≤ v ∧ v ≤ 57)
theorem nx_lt {tx : Nat → Nat} {ty a : Nat} (h : ∀ j, tx j < 127) : nx tx ty a < 127 := by
  unfold nx; split
  · exact h a
  · decide
end
section
def wd_X10_next : List Cond := .code yX10_next cX10_next 1 (some .int) :: (([.fieldLink RX10 184 "GradientDeskModel" "at" "I", .fieldLink RX10 187 "GradientDeskModel" "typed" "I", .fieldLink RX10 22 "GradientDeskModel" "text" "[I"] : List Cond) ++ (u_ws RX10 TX10 29 ++ ([])))
theorem gw_X10_next : wd_X10_next.all goodWord = true := k_allc rfl (k_all (by decide +kernel) (k_all (gu_X10) (rfl)))
set_option maxHeartbeats 4000000 in
set_option maxRecDepth 100000 in
theorem c_X10_next (l : Launch) (dC : Nat → ClassId) (dI : Nat → Nat → Nat) (A : Nat → Prop) (ad : Nat → Nat) (cA : Nat → ClassId) (g : Nat → va_E) (x : Nat → Int32) (tx : Nat → Nat) (ty : Nat) (a1 : Nat) (h0 : g 0 = .inr (13, Rob ad x)) (h4 : g 4 = .inl (cA 4, 64, .inl (fun j => nI (tx j)))) (h4b : ∀ j, tx j < 127) (hty : x 1 = nI ty) (hty2 : ty ≤ 64) (hat : x 7 = nI a1) (ha1 : a1 ≤ 64) : Met l yX10_next wd_X10_next ({ frames := 10, cells := 0, slots := 0, locals := 200 }) (va_Pc [.ref (ad 0)] (PR NSr tyr dC dI A ad cA g)) (va_Qi (fun (r : Int32) => fun (u : Unit) => match u with | () => r = nI (nx tx ty a1)) (fun (u : Unit) (t : State) => va_P (dC, dI) vwCl (wo ad NSr g) t.heap) A) (0) (0) A := by
  refine Met.ofW (cc := cX10_next) (maxL := 1) (ret := (some .int)) (by decide) rfl ?_
  intro p e s m args below meth c s₁ B hml hv
  obtain ⟨rfl, hA, hP, hL⟩ := hv
  have hx := B.exec
  have hb := B.bytes
  have hr := B.returns
  have hts := atoms_spec (ws := wd_X10_next) B.pre
  have hown : s.vm.findClass RX10 = some m.cls := findClass_of_methodNamed B.named
  have hlocks := B.notSynchronized
  have hK := hL.1
  have hD : ∀ g, va_D A (wo ad NSr g) := fun g => wo_D hL.2.1 hL.2.2 g
  have hS : va_S A s.heap s.heap [] := va_S.rf
  have bk0 : ∀ w ∈ u_ws RX10 TX10 29, w ∈ wd_X10_next := fun _ h => List.mem_cons_of_mem _ (List.mem_append_right _ (List.mem_append_left _ h))
  have hl := lv_entry ([.ref (ad 0)]) (n := 1) (Nat.le_of_ble_eq_true rfl)
  rw [lg_entry_eq]
  generalize (lg_sl ([.ref (ad 0)]) ++ List.replicate (1 - (lg_sl ([.ref (ad 0)])).length) Slot.unset).toArray = ls at hl ⊢
  have hl : lv_has ls 1 [(0, .ref (ad 0))] := hl
  refine lv_aload_n hx hb dX10_next_0 rfl (lv_at hl 0 rfl) ?_
  refine m_get (D := (dC, dI)) (v := .int (nI a1)) (C := RX10) (T := TX10) (N := 29) hx hb hts bk0 hown hK hP 0 (by decide) h0 rfl 22 (by decide) (hts (.fieldLink RX10 184 "GradientDeskModel" "at" "I") (List.mem_of_getElem? (i := 1) rfl)) (fun _ h9 => h9) (congrArg (fun z => some (Value.int z)) hat) dX10_next_1 ?_
  refine lv_aload_n hx hb dX10_next_4 rfl (lv_at hl 0 rfl) ?_
  refine m_get (D := (dC, dI)) (v := .int (nI ty)) (C := RX10) (T := TX10) (N := 29) hx hb hts bk0 hown hK hP 0 (by decide) h0 rfl 5 (by decide) (hts (.fieldLink RX10 187 "GradientDeskModel" "typed" "I") (List.mem_of_getElem? (i := 2) rfl)) (fun _ h9 => h9) (congrArg (fun z => some (Value.int z)) hty) dX10_next_5 ?_
  refine lv_icmp_ge (tgt := 23) hx hb dX10_next_8 (by decide) (fun c_1 => ?_) (fun c_1 => ?_)
  · have c_1 := (nI_leI (a := ty) (b := a1) (by omega) (by omega)).mp c_1
    refine lv_iconst (v := nI 0) hx hb dX10_next_23 (by decide +kernel) ?_
    refine W.widen (k := 0) (n := 0) (by omega) (by omega) ?_
    exact W.iret (v := nI 0) hx hb hr (fun t9 ht9 hW9 => ⟨⟨nI 0, (), rfl, congrArg nI (show _ = nx tx ty a1 by unfold nx; rw [if_neg (by omega)]), by show va_P (dC, dI) vwCl _ t9.heap; rw [ht9]; exact hP⟩, hS.F ht9⟩) hS.2.2 dX10_next_24
  · have c_1 := mt (nI_leI (a := ty) (b := a1) (by omega) (by omega)).mpr c_1
    refine lv_aload_n hx hb dX10_next_11 rfl (lv_at hl 0 rfl) ?_
    refine m_get (D := (dC, dI)) (v := .ref (ad 4)) (C := RX10) (T := TX10) (N := 29) hx hb hts bk0 hown hK hP 0 (by decide) h0 rfl 4 (by decide) (hts (.fieldLink RX10 22 "GradientDeskModel" "text" "[I") (List.mem_of_getElem? (i := 3) rfl)) (fun _ h9 => h9) rfl dX10_next_12 ?_
    refine lv_aload_n hx hb dX10_next_15 rfl (lv_at hl 0 rfl) ?_
    refine m_get (D := (dC, dI)) (v := .int (nI a1)) (C := RX10) (T := TX10) (N := 29) hx hb hts bk0 hown hK hP 0 (by decide) h0 rfl 22 (by decide) (hts (.fieldLink RX10 184 "GradientDeskModel" "at" "I") (List.mem_of_getElem? (i := 1) rfl)) (fun _ h9 => h9) (congrArg (fun z => some (Value.int z)) hat) dX10_next_16 ?_
    refine m_iald hx hb hK hP 4 (by decide) rfl h4 (i := a1) (by omega) (by decide) dX10_next_19 ?_
    have b_2 := h4b a1
    refine lv_goto (tgt := 24) hx hb dX10_next_20 (by decide) ?_
    refine W.widen (k := 0) (n := 0) (by omega) (by omega) ?_
    exact W.iret (v := nI (tx a1)) hx hb hr (fun t9 ht9 hW9 => ⟨⟨nI (tx a1), (), rfl, congrArg nI (show _ = nx tx ty a1 by unfold nx; rw [if_pos (by omega)]), by show va_P (dC, dI) vwCl _ t9.heap; rw [ht9]; exact hP⟩, hS.F ht9⟩) hS.2.2 dX10_next_24
end
section
/-! passDigits as a function: (place, count, all zero) -/
theorem nx_pos {tx : Nat → Nat} {ty a : Nat} (h : nx tx ty a ≠ 0) : a < ty := by
  unfold nx at h; split at h
  · assumption
  · exact absurd rfl h
def pdg (tx : Nat → Nat) (ty fl : Nat) : Nat → Nat → Nat → Nat → Nat × Nat × Nat
  | 0, a, n, z => (a, n, z)
  | f + 1, a, n, z => if n < 4 ∧ (48 ≤ nx tx ty a ∧ nx tx ty a ≤ 57) ∧ ¬ (fl = 1 ∧ n = 3 ∧ z = 1 ∧ nx tx ty a = 48) then pdg tx ty fl f (a + 1) (n + 1) (if z = 1 ∧ nx tx ty a = 48 then 1 else 0) else (a, n, z)
theorem pdg_s {tx : Nat → Nat} {ty fl f a n z z2 : Nat} (h1 : n < 4) (h2 : 48 ≤ nx tx ty a ∧ nx tx ty a ≤ 57) (h3 : ¬ (fl = 1 ∧ n = 3 ∧ z = 1 ∧ nx tx ty a = 48)) (h4 : z2 = if z = 1 ∧ nx tx ty a = 48 then 1 else 0) : pdg tx ty fl (f + 1) a n z = pdg tx ty fl f (a + 1) (n + 1) z2 := by
  rw [h4]; exact if_pos ⟨h1, h2, h3⟩
theorem pdg_e {tx : Nat → Nat} {ty fl a n z : Nat} (hn : n ≤ 4) (h : n = 4 ∨ ¬ (48 ≤ nx tx ty a ∧ nx tx ty a ≤ 57) ∨ (fl = 1 ∧ n = 3 ∧ z = 1 ∧ nx tx ty a = 48)) : pdg tx ty fl (4 - n) a n z = (a, n, z) := by
  by_cases h4 : n = 4
  · subst h4; rfl
  · rw [show 4 - n = (3 - n) + 1 by omega]
    exact if_neg (fun h9 => by omega)
end
