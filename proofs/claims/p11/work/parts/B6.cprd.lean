def wd_V6_makeProduct : List Cond := .code yX6_makeProduct cX6_makeProduct 6 (some .int) :: (([.fieldLink RX6 11 "GradientDesk$Shelf" "parts" "[LGradientDesk$Part;", .fieldLink RX6 64 "GradientDesk$Part" "sort" "I", .methodLink RX6 75 yX6_isZero, .static yX6_isZero, .initialized RX6, .methodLink RX6 98 yX6_isUnit, .static yX6_isUnit, .fieldLink RX6 79 "GradientDesk$Part" "sizeN" "I", .fieldLink RX6 91 "GradientDesk$Part" "degree" "I", .fieldLink RX6 82 "GradientDesk$Part" "sizeD" "I", .methodLink RX6 60 yX6_keep, .instanceMethod yX6_keep, .selects RX6 yX6_keep yX6_keep, .fieldLink RX6 41 "GradientDesk$Shelf" "arithmetic" "LGradientDesk$Arithmetic;", .fieldLink RX6 68 "GradientDesk$Part" "number" "LGradientDesk$Fraction;", .fieldLink RX6 30 "GradientDesk$Shelf" "work" "LGradientDesk$Fraction;", .methodLink RX6 94 yX0_multiply, .instanceMethod yX0_multiply, .selects RX0 yX0_multiply yX0_multiply, .initialized RX0, .methodLink RX6 54 yX0_reduce, .instanceMethod yX0_reduce, .selects RX0 yX0_reduce yX0_reduce, .methodLink RX6 50 yX6_keepNumber, .instanceMethod yX6_keepNumber, .selects RX6 yX6_keepNumber yX6_keepNumber] : List Cond) ++ (u_ws RX6 TX6 7 ++ (u_ws RX3 TX3 7 ++ (wd_V6_isZero ++ (wd_V6_isUnit ++ (wd_V6_keep ++ (wd_V0_multiply ++ (wd_V0_reduce ++ (wd_V6_keepNumber ++ ([]))))))))))
theorem gw_V6_makeProduct : wd_V6_makeProduct.all goodWord = true := k_allc rfl (k_all (by decide +kernel) (k_all (gu_X6) (k_all (gu_X3) (k_all (gw_V6_isZero) (k_all (gw_V6_isUnit) (k_all (gw_V6_keep) (k_all (gw_V0_multiply) (k_all (gw_V0_reduce) (k_all (gw_V6_keepNumber) (rfl))))))))))
set_option maxHeartbeats 4000000 in
set_option maxRecDepth 100000 in
theorem c_V6_makeProduct (l : Launch) (dC : Nat → ClassId) (dI : Nat → Nat → Nat) (A : Nat → Prop) (ad : Nat → Nat) (cA : Nat → ClassId) (g : Nat → va_E) (L : List PD) (x1 : Nat) (y1 : Nat) (hC : CS ad cA g L) (hWf : WFL L) (ix : x1 < L.length) (iy : y1 < L.length) : Met l yX6_makeProduct wd_V6_makeProduct ({ frames := 50, cells := 0, slots := 0, locals := 1000 }) (va_Pc [.ref (ad 2080), .int (nI x1), .int (nI y1)] (PR NSc tyc dC dI A ad cA g)) (va_Qi (fun (r : Int32) => fun (u : Nat → va_E) => match u with | g2 => (∀ k, (14 ≤ k ∧ k < 76) ∨ (876 ≤ k ∧ k < 2080) ∨ (2081 ≤ k ∧ k < 2117) → g2 k = g k) ∧ CMK ad cA g2 (prdL L x1 y1) r) (fun (u : Nat → va_E) (t : State) => va_P (dC, dI) vwCl (wo ad NSc u) t.heap) A) (0) (0) A := by
  refine Met.ofW (cc := cX6_makeProduct) (maxL := 6) (ret := (some .int)) (by decide) rfl ?_
  intro p e s m args below meth c s₁ B hml hv
  obtain ⟨rfl, hA, hP, hL⟩ := hv
  have hx := B.exec
  have hb := B.bytes
  have hr := B.returns
  have hts := atoms_spec (ws := wd_V6_makeProduct) B.pre
  have hown : s.vm.findClass RX6 = some m.cls := findClass_of_methodNamed B.named
  have hlocks := B.notSynchronized
  have hK := hL.1
  have hD : ∀ g, va_D A (wo ad NSc g) := fun g => wo_D hL.2.1 hL.2.2 g
  have hS : va_S A s.heap s.heap [] := va_S.rf
  have bk0 : ∀ w ∈ u_ws RX6 TX6 7, w ∈ wd_V6_makeProduct := fun _ h => List.mem_cons_of_mem _ (List.mem_append_right _ (List.mem_append_left _ h))
  have bk1 : ∀ w ∈ u_ws RX3 TX3 7, w ∈ wd_V6_makeProduct := fun _ h => List.mem_cons_of_mem _ (List.mem_append_right _ (List.mem_append_right _ (List.mem_append_left _ h)))
  have bk2 : ∀ w ∈ wd_V6_isZero, w ∈ wd_V6_makeProduct := fun _ h => List.mem_cons_of_mem _ (List.mem_append_right _ (List.mem_append_right _ (List.mem_append_right _ (List.mem_append_left _ h))))
  have bk3 : ∀ w ∈ wd_V6_isUnit, w ∈ wd_V6_makeProduct := fun _ h => List.mem_cons_of_mem _ (List.mem_append_right _ (List.mem_append_right _ (List.mem_append_right _ (List.mem_append_right _ (List.mem_append_left _ h)))))
  have bk4 : ∀ w ∈ wd_V6_keep, w ∈ wd_V6_makeProduct := fun _ h => List.mem_cons_of_mem _ (List.mem_append_right _ (List.mem_append_right _ (List.mem_append_right _ (List.mem_append_right _ (List.mem_append_right _ (List.mem_append_left _ h))))))
  have bk5 : ∀ w ∈ wd_V0_multiply, w ∈ wd_V6_makeProduct := fun _ h => List.mem_cons_of_mem _ (List.mem_append_right _ (List.mem_append_right _ (List.mem_append_right _ (List.mem_append_right _ (List.mem_append_right _ (List.mem_append_right _ (List.mem_append_left _ h)))))))
  have bk6 : ∀ w ∈ wd_V0_reduce, w ∈ wd_V6_makeProduct := fun _ h => List.mem_cons_of_mem _ (List.mem_append_right _ (List.mem_append_right _ (List.mem_append_right _ (List.mem_append_right _ (List.mem_append_right _ (List.mem_append_right _ (List.mem_append_right _ (List.mem_append_left _ h))))))))
  have bk7 : ∀ w ∈ wd_V6_keepNumber, w ∈ wd_V6_makeProduct := fun _ h => List.mem_cons_of_mem _ (List.mem_append_right _ (List.mem_append_right _ (List.mem_append_right _ (List.mem_append_right _ (List.mem_append_right _ (List.mem_append_right _ (List.mem_append_right _ (List.mem_append_right _ (List.mem_append_left _ h)))))))))
  have hl := lv_entry ([.ref (ad 2080), .int (nI x1), .int (nI y1)]) (n := 6) (Nat.le_of_ble_eq_true rfl)
  rw [lg_entry_eq]
  generalize (lg_sl ([.ref (ad 2080), .int (nI x1), .int (nI y1)]) ++ List.replicate (6 - (lg_sl ([.ref (ad 2080), .int (nI x1), .int (nI y1)])).length) Slot.unset).toArray = ls at hl ⊢
  have hl : lv_has ls 6 [(0, .ref (ad 2080)), (1, .int (nI x1)), (2, .int (nI y1))] := hl
  have hC0 := hC
  obtain ⟨hLn, hW, ⟨hAr, hWk, hPa, hFr⟩, hO, pt, hPt, hM⟩ := hC0
  unfold CSO at hO
  have hpb := hPt.2
  obtain ⟨a0x1, a1x1, a2x1, a3x1, a4x1, a5x1, a6x1⟩ := hM x1 ix
  obtain ⟨w1x1, w2x1, w3x1, w4x1, w5x1, -⟩ := hWf x1 ix
  have hpx1 : g (2117 + 2 * x1) = .inr (6, [.ref (ad (2118 + 2 * x1)), .int (nI ((gd L x1).1)), .int (iI ((gd L x1).2.1)), .int (iI ((gd L x1).2.2.1)), .int (nI ((gd L x1).2.2.2.1)), .int (nI ((gd L x1).2.2.2.2.1)), .int (nI ((gd L x1).2.2.2.2.2.1))]) := by rw [hPt.1 x1 (by clear a6x1; omega), a0x1, a1x1, a2x1, a3x1, a4x1, a5x1, nI_iI, nI_iI, nI_iI, nI_iI]
  obtain ⟨fnx1, hfnx1⟩ : ∃ z : Prop, z = ((gd L x1).1 = 0 → CMN ad cA g (gd L x1) x1) := ⟨_, rfl⟩
  rw [← hfnx1] at a6x1
  obtain ⟨a0y1, a1y1, a2y1, a3y1, a4y1, a5y1, a6y1⟩ := hM y1 iy
  obtain ⟨w1y1, w2y1, w3y1, w4y1, w5y1, -⟩ := hWf y1 iy
  have hpy1 : g (2117 + 2 * y1) = .inr (6, [.ref (ad (2118 + 2 * y1)), .int (nI ((gd L y1).1)), .int (iI ((gd L y1).2.1)), .int (iI ((gd L y1).2.2.1)), .int (nI ((gd L y1).2.2.2.1)), .int (nI ((gd L y1).2.2.2.2.1)), .int (nI ((gd L y1).2.2.2.2.2.1))]) := by rw [hPt.1 y1 (by clear a6y1; omega), a0y1, a1y1, a2y1, a3y1, a4y1, a5y1, nI_iI, nI_iI, nI_iI, nI_iI]
  obtain ⟨fny1, hfny1⟩ : ∃ z : Prop, z = ((gd L y1).1 = 0 → CMN ad cA g (gd L y1) y1) := ⟨_, rfl⟩
  rw [← hfny1] at a6y1
  refine lv_iload_n hx hb dX6_makeProduct_0 rfl (lv_at hl 1 rfl) ?_
  refine lv_if_lt (tgt := 8) hx hb dX6_makeProduct_1 (by decide) (fun c_1 => absurd ((nI_ltI (a := x1) (b := 0) (by omega) (by decide)).mp c_1) (by omega)) (fun c_1 => ?_)
  refine lv_iload_n hx hb dX6_makeProduct_4 rfl (lv_at hl 2 rfl) ?_
  refine lv_if_ge (tgt := 18) hx hb dX6_makeProduct_5 (by decide) (fun c_2 => ?_) (fun c_2 => absurd (mt (nI_leI (a := 0) (b := y1) (by decide) (by omega)).mpr c_2) (by omega))
  refine lv_aload_n hx hb dX6_makeProduct_18 rfl (lv_at hl 0 rfl) ?_
  refine m_get (D := (dC, dI)) (v := .ref (ad 2081)) (C := RX6) (T := TX6) (N := 7) hx hb hts bk0 hown hK hP 2080 (by decide) hO rfl 0 (by decide) (hts (.fieldLink RX6 11 "GradientDesk$Shelf" "parts" "[LGradientDesk$Part;") (List.mem_of_getElem? (i := 1) rfl)) (fun _ h9 => h9) rfl dX6_makeProduct_19 ?_
  refine lv_iload_n hx hb dX6_makeProduct_22 rfl (lv_at hl 1 rfl) ?_
  refine m_aald hx hb hK hP 2081 (by decide) rfl hPa (i := x1) (v := ad (2117 + 2 * x1)) (by omega) (by decide) rfl dX6_makeProduct_23 ?_
  refine lv_astore_n (lv' := [(3, .ref (ad (2117 + 2 * x1))), (0, .ref (ad 2080)), (1, .int (nI x1)), (2, .int (nI y1))]) hx hb dX6_makeProduct_24 rfl hl (by decide) rfl (fun ls hl => ?_)
  refine lv_aload_n hx hb dX6_makeProduct_25 rfl (lv_at hl 1 rfl) ?_
  refine m_get (D := (dC, dI)) (v := .ref (ad 2081)) (C := RX6) (T := TX6) (N := 7) hx hb hts bk0 hown hK hP 2080 (by decide) hO rfl 0 (by decide) (hts (.fieldLink RX6 11 "GradientDesk$Shelf" "parts" "[LGradientDesk$Part;") (List.mem_of_getElem? (i := 1) rfl)) (fun _ h9 => h9) rfl dX6_makeProduct_26 ?_
  refine lv_iload_n hx hb dX6_makeProduct_29 rfl (lv_at hl 3 rfl) ?_
  refine m_aald hx hb hK hP 2081 (by decide) rfl hPa (i := y1) (v := ad (2117 + 2 * y1)) (by omega) (by decide) rfl dX6_makeProduct_30 ?_
  refine lv_astore (lv' := [(4, .ref (ad (2117 + 2 * y1))), (3, .ref (ad (2117 + 2 * x1))), (0, .ref (ad 2080)), (1, .int (nI x1)), (2, .int (nI y1))]) hx hb dX6_makeProduct_31 hl (by decide) rfl (fun ls hl => ?_)
  refine lv_aload_n hx hb dX6_makeProduct_33 rfl (lv_at hl 1 rfl) ?_
  refine m_get (D := (dC, dI)) (v := .int (nI ((gd L x1).1))) (C := RX3) (T := TX3) (N := 7) hx hb hts bk1 hown hK hP (2117 + 2 * x1) (ns_p (by omega)) hpx1 rfl 1 (by decide) (hts (.fieldLink RX6 64 "GradientDesk$Part" "sort" "I") (List.mem_of_getElem? (i := 2) rfl)) (fun _ h9 => h9) rfl dX6_makeProduct_34 ?_
  refine lv_if_ne (tgt := 84) hx hb dX6_makeProduct_37 (by decide) (fun c_3 => ?_) (fun c_3 => ?_)
  · have c_3 := mt (nI_eq (a := ((gd L x1).1)) (b := 0) (by omega) (by decide)).mpr c_3
    refine lv_aload_n hx hb dX6_makeProduct_84 rfl (lv_at hl 1 rfl) ?_
    refine va_calli (va_runS (As := [.ref (ad (2117 + 2 * x1))]) (rest := []) ⟨hx, hb, hml, hown, hts⟩ (c_V6_isZero l dC dI A ad cA g L x1 hC hWf ix) (va_cwS 1 hts (goodIn_app (goodIn_r [Cond.methodLink RX6 75 yX6_isZero, Cond.static yX6_isZero, Cond.initialized RX6] [3, 4, 5] rfl rfl) (goodIn_sub (fun w9 h9 => bk2 w9 h9) gw_V6_isZero)) rfl rfl rfl (by decide +kernel) ⟨Nat.le_of_ble_eq_true rfl, Nat.le_of_ble_eq_true rfl⟩) ⟨fun a U g mk q => ⟨q.1, q.2.1, q.2.2.1, LY.moved (u := U) (U := U.calling g mk a) (Vm.Alike.refl U.vm) q.2.2.2⟩, fun U hU hW => ⟨rfl, by rw [hU]; exact fun q h => hA q (Nat.le_trans hS.1 h), by rw [hU]; exact hP, LY.moved hW.alike hL⟩⟩ rfl rfl hl.1 rfl (lv_room (Nat.le_of_ble_eq_true rfl)) dX6_makeProduct_85 ⟨(Nat.le_of_ble_eq_true rfl), (Nat.le_of_ble_eq_true rfl)⟩) hS (fun q _ h => h) (fun q h => h) (fun r_4 u8 t8 H1 locs ht8 hvm8 hw_5 hB hz1 hk1 hS => ?_)
    obtain ⟨⟩ := u8
    try dsimp only at hw_5 hB
    rw [ht8] at hB
    have hP := hB
    generalize H1 = H at hP hS ⊢
    rcases hw_5 with ⟨rfl, hx0⟩ | ⟨rfl, hx0⟩
    · skip
      refine lv_if_ne (tgt := 99) hx hb dX6_makeProduct_88 (by decide) (fun c_6 => ?_) (fun c_6 => absurd c_6 (by decide))
      refine lv_iload_n hx hb dX6_makeProduct_99 rfl (lv_at hl 3 rfl) ?_
      refine W.widen (k := 0) (n := 0) (by omega) (by omega) ?_
      exact W.iret (v := nI x1) hx hb hr (fun t9 ht9 hW9 => ⟨⟨nI x1, g, rfl, ⟨(fun (k : Nat) (hk : (14 ≤ k ∧ k < 76) ∨ (876 ≤ k ∧ k < 2080) ∨ (2081 ≤ k ∧ k < 2117)) => rfl), CMK.old (i := x1) (by unfold prdL; rw [if_neg (show ¬ ((gd L x1).1 = 0 ∧ (gd L y1).1 = 0) from by omega), if_pos hx0]) ix hC⟩, by show va_P (dC, dI) vwCl _ t9.heap; rw [ht9]; exact hP⟩, hS.F ht9⟩) hS.2.2 dX6_makeProduct_100
    · skip
      refine lv_if_ne (tgt := 99) hx hb dX6_makeProduct_88 (by decide) (fun c_7 => absurd c_7 (by decide)) (fun c_7 => ?_)
      refine lv_aload hx hb dX6_makeProduct_91 (lv_at hl 0 rfl) ?_
      refine va_calli (va_runS (As := [.ref (ad (2117 + 2 * y1))]) (rest := []) ⟨hx, hb, hml, hown, hts⟩ (c_V6_isUnit l dC dI A ad cA g L y1 hC hWf iy) (va_cwS 1 hts (goodIn_app (goodIn_r [Cond.methodLink RX6 98 yX6_isUnit, Cond.static yX6_isUnit, Cond.initialized RX6] [6, 7, 5] rfl rfl) (goodIn_sub (fun w9 h9 => bk3 w9 h9) gw_V6_isUnit)) rfl rfl rfl (by decide +kernel) ⟨Nat.le_of_ble_eq_true rfl, Nat.le_of_ble_eq_true rfl⟩) ⟨fun a U g mk q => ⟨q.1, q.2.1, q.2.2.1, LY.moved (u := U) (U := U.calling g mk a) (Vm.Alike.refl U.vm) q.2.2.2⟩, fun U hU hW => ⟨rfl, by rw [hU]; exact fun q h => hA q (Nat.le_trans hS.1 h), by rw [hU]; exact hP, LY.moved hW.alike hL⟩⟩ rfl rfl hl.1 rfl (lv_room (Nat.le_of_ble_eq_true rfl)) dX6_makeProduct_93 ⟨(Nat.le_of_ble_eq_true rfl), (Nat.le_of_ble_eq_true rfl)⟩) hS (fun q _ h => h) (fun q h => h) (fun r_8 u8 t8 H1 locs ht8 hvm8 hw_9 hB hz1 hk1 hS => ?_)
      obtain ⟨⟩ := u8
      try dsimp only at hw_9 hB
      rw [ht8] at hB
      have hP := hB
      generalize H1 = H at hP hS ⊢
      rcases hw_9 with ⟨rfl, hy1⟩ | ⟨rfl, hy1⟩
      · skip
        refine lv_if_eq (tgt := 101) hx hb dX6_makeProduct_96 (by decide) (fun c_10 => absurd c_10 (by decide)) (fun c_10 => ?_)
        refine lv_iload_n hx hb dX6_makeProduct_99 rfl (lv_at hl 3 rfl) ?_
        have hyz := isN_01 hy1
        have hyn := isN_n hy1
        have hxn : isN (gd L x1) 1 = false := isN_nn (by omega)
        refine W.widen (k := 0) (n := 0) (by omega) (by omega) ?_
        exact W.iret (v := nI x1) hx hb hr (fun t9 ht9 hW9 => ⟨⟨nI x1, g, rfl, ⟨(fun (k : Nat) (hk : (14 ≤ k ∧ k < 76) ∨ (876 ≤ k ∧ k < 2080) ∨ (2081 ≤ k ∧ k < 2117)) => rfl), CMK.old (i := x1) (by unfold prdL; rw [if_neg (show ¬ ((gd L x1).1 = 0 ∧ (gd L y1).1 = 0) from by omega), if_neg (by rw [hx0]; decide), if_neg (by rw [hyz]; decide), if_neg (by rw [hxn]; decide), if_pos hy1]) ix hC⟩, by show va_P (dC, dI) vwCl _ t9.heap; rw [ht9]; exact hP⟩, hS.F ht9⟩) hS.2.2 dX6_makeProduct_100
      · skip
        refine lv_if_eq (tgt := 101) hx hb dX6_makeProduct_96 (by decide) (fun c_11 => ?_) (fun c_11 => absurd c_11 (by decide))
        refine lv_aload hx hb dX6_makeProduct_101 (lv_at hl 0 rfl) ?_
        refine va_calli (va_runS (As := [.ref (ad (2117 + 2 * y1))]) (rest := []) ⟨hx, hb, hml, hown, hts⟩ (c_V6_isZero l dC dI A ad cA g L y1 hC hWf iy) (va_cwS 1 hts (goodIn_app (goodIn_r [Cond.methodLink RX6 75 yX6_isZero, Cond.static yX6_isZero, Cond.initialized RX6] [3, 4, 5] rfl rfl) (goodIn_sub (fun w9 h9 => bk2 w9 h9) gw_V6_isZero)) rfl rfl rfl (by decide +kernel) ⟨Nat.le_of_ble_eq_true rfl, Nat.le_of_ble_eq_true rfl⟩) ⟨fun a U g mk q => ⟨q.1, q.2.1, q.2.2.1, LY.moved (u := U) (U := U.calling g mk a) (Vm.Alike.refl U.vm) q.2.2.2⟩, fun U hU hW => ⟨rfl, by rw [hU]; exact fun q h => hA q (Nat.le_trans hS.1 h), by rw [hU]; exact hP, LY.moved hW.alike hL⟩⟩ rfl rfl hl.1 rfl (lv_room (Nat.le_of_ble_eq_true rfl)) dX6_makeProduct_103 ⟨(Nat.le_of_ble_eq_true rfl), (Nat.le_of_ble_eq_true rfl)⟩) hS (fun q _ h => h) (fun q h => h) (fun r_12 u8 t8 H1 locs ht8 hvm8 hw_13 hB hz1 hk1 hS => ?_)
        obtain ⟨⟩ := u8
        try dsimp only at hw_13 hB
        rw [ht8] at hB
        have hP := hB
        generalize H1 = H at hP hS ⊢
        rcases hw_13 with ⟨rfl, hy0⟩ | ⟨rfl, hy0⟩
        · skip
          refine lv_if_ne (tgt := 116) hx hb dX6_makeProduct_106 (by decide) (fun c_14 => ?_) (fun c_14 => absurd c_14 (by decide))
          refine lv_iload_n hx hb dX6_makeProduct_116 rfl (lv_at hl 4 rfl) ?_
          refine W.widen (k := 0) (n := 0) (by omega) (by omega) ?_
          exact W.iret (v := nI y1) hx hb hr (fun t9 ht9 hW9 => ⟨⟨nI y1, g, rfl, ⟨(fun (k : Nat) (hk : (14 ≤ k ∧ k < 76) ∨ (876 ≤ k ∧ k < 2080) ∨ (2081 ≤ k ∧ k < 2117)) => rfl), CMK.old (i := y1) (by unfold prdL; rw [if_neg (show ¬ ((gd L x1).1 = 0 ∧ (gd L y1).1 = 0) from by omega), if_neg (by rw [hx0]; decide), if_pos hy0]) iy hC⟩, by show va_P (dC, dI) vwCl _ t9.heap; rw [ht9]; exact hP⟩, hS.F ht9⟩) hS.2.2 dX6_makeProduct_117
        · skip
          refine lv_if_ne (tgt := 116) hx hb dX6_makeProduct_106 (by decide) (fun c_15 => absurd c_15 (by decide)) (fun c_15 => ?_)
          refine lv_aload_n hx hb dX6_makeProduct_109 rfl (lv_at hl 1 rfl) ?_
          refine va_calli (va_runS (As := [.ref (ad (2117 + 2 * x1))]) (rest := []) ⟨hx, hb, hml, hown, hts⟩ (c_V6_isUnit l dC dI A ad cA g L x1 hC hWf ix) (va_cwS 1 hts (goodIn_app (goodIn_r [Cond.methodLink RX6 98 yX6_isUnit, Cond.static yX6_isUnit, Cond.initialized RX6] [6, 7, 5] rfl rfl) (goodIn_sub (fun w9 h9 => bk3 w9 h9) gw_V6_isUnit)) rfl rfl rfl (by decide +kernel) ⟨Nat.le_of_ble_eq_true rfl, Nat.le_of_ble_eq_true rfl⟩) ⟨fun a U g mk q => ⟨q.1, q.2.1, q.2.2.1, LY.moved (u := U) (U := U.calling g mk a) (Vm.Alike.refl U.vm) q.2.2.2⟩, fun U hU hW => ⟨rfl, by rw [hU]; exact fun q h => hA q (Nat.le_trans hS.1 h), by rw [hU]; exact hP, LY.moved hW.alike hL⟩⟩ rfl rfl hl.1 rfl (lv_room (Nat.le_of_ble_eq_true rfl)) dX6_makeProduct_110 ⟨(Nat.le_of_ble_eq_true rfl), (Nat.le_of_ble_eq_true rfl)⟩) hS (fun q _ h => h) (fun q h => h) (fun r_16 u8 t8 H1 locs ht8 hvm8 hw_17 hB hz1 hk1 hS => ?_)
          obtain ⟨⟩ := u8
          try dsimp only at hw_17 hB
          rw [ht8] at hB
          have hP := hB
          generalize H1 = H at hP hS ⊢
          rcases hw_17 with ⟨rfl, hx1⟩ | ⟨rfl, hx1⟩
          · skip
            refine lv_if_eq (tgt := 118) hx hb dX6_makeProduct_113 (by decide) (fun c_18 => absurd c_18 (by decide)) (fun c_18 => ?_)
            refine lv_iload_n hx hb dX6_makeProduct_116 rfl (lv_at hl 4 rfl) ?_
            refine W.widen (k := 0) (n := 0) (by omega) (by omega) ?_
            exact W.iret (v := nI y1) hx hb hr (fun t9 ht9 hW9 => ⟨⟨nI y1, g, rfl, ⟨(fun (k : Nat) (hk : (14 ≤ k ∧ k < 76) ∨ (876 ≤ k ∧ k < 2080) ∨ (2081 ≤ k ∧ k < 2117)) => rfl), CMK.old (i := y1) (by unfold prdL; rw [if_neg (show ¬ ((gd L x1).1 = 0 ∧ (gd L y1).1 = 0) from by omega), if_neg (by rw [hx0]; decide), if_neg (by rw [hy0]; decide), if_pos hx1]) iy hC⟩, by show va_P (dC, dI) vwCl _ t9.heap; rw [ht9]; exact hP⟩, hS.F ht9⟩) hS.2.2 dX6_makeProduct_117
          · skip
            refine lv_if_eq (tgt := 118) hx hb dX6_makeProduct_113 (by decide) (fun c_19 => ?_) (fun c_19 => absurd c_19 (by decide))
            refine lv_aload_n hx hb dX6_makeProduct_118 rfl (lv_at hl 1 rfl) ?_
            refine m_get (D := (dC, dI)) (v := .int (nI ((gd L x1).2.2.2.2.1))) (C := RX3) (T := TX3) (N := 7) hx hb hts bk1 hown hK hP (2117 + 2 * x1) (ns_p (by omega)) hpx1 rfl 5 (by decide) (hts (.fieldLink RX6 79 "GradientDesk$Part" "sizeN" "I") (List.mem_of_getElem? (i := 8) rfl)) (fun _ h9 => h9) rfl dX6_makeProduct_119 ?_
            refine lv_aload hx hb dX6_makeProduct_122 (lv_at hl 0 rfl) ?_
            refine m_get (D := (dC, dI)) (v := .int (nI ((gd L y1).2.2.2.2.1))) (C := RX3) (T := TX3) (N := 7) hx hb hts bk1 hown hK hP (2117 + 2 * y1) (ns_p (by omega)) hpy1 rfl 5 (by decide) (hts (.fieldLink RX6 79 "GradientDesk$Part" "sizeN" "I") (List.mem_of_getElem? (i := 8) rfl)) (fun _ h9 => h9) rfl dX6_makeProduct_124 ?_
            refine lv_iadd hx hb dX6_makeProduct_127 ?_
            refine lv_topi (fun x_20 e_21 => ?_)
            obtain rfl : x_20 = nI ((gd L x1).2.2.2.2.1 + ((gd L y1).2.2.2.2.1)) := e_21.trans (nI_add ((gd L x1).2.2.2.2.1) ((gd L y1).2.2.2.2.1))
            refine lv_bipush (v := nI 8) hx hb dX6_makeProduct_128 (by decide +kernel) ?_
            refine lv_iadd hx hb dX6_makeProduct_130 ?_
            refine lv_topi (fun x_22 e_23 => ?_)
            obtain rfl : x_22 = nI ((gd L x1).2.2.2.2.1 + ((gd L y1).2.2.2.2.1) + 8) := e_23.trans (nI_add ((gd L x1).2.2.2.2.1 + ((gd L y1).2.2.2.2.1)) 8)
            refine lv_istore (lv' := [(5, .int (nI ((gd L x1).2.2.2.2.1 + ((gd L y1).2.2.2.2.1) + 8))), (4, .ref (ad (2117 + 2 * y1))), (3, .ref (ad (2117 + 2 * x1))), (0, .ref (ad 2080)), (1, .int (nI x1)), (2, .int (nI y1))]) hx hb dX6_makeProduct_131 hl (by decide) rfl (fun ls hl => ?_)
            refine lv_aload_n hx hb dX6_makeProduct_133 rfl (lv_at hl 3 rfl) ?_
            refine lv_iconst (v := nI 3) hx hb dX6_makeProduct_134 (by decide +kernel) ?_
            refine lv_iload_n hx hb dX6_makeProduct_135 rfl (lv_at hl 4 rfl) ?_
            refine lv_iload_n hx hb dX6_makeProduct_136 rfl (lv_at hl 5 rfl) ?_
            refine lv_aload_n hx hb dX6_makeProduct_137 rfl (lv_at hl 2 rfl) ?_
            refine m_get (D := (dC, dI)) (v := .int (nI ((gd L x1).2.2.2.1))) (C := RX3) (T := TX3) (N := 7) hx hb hts bk1 hown hK hP (2117 + 2 * x1) (ns_p (by omega)) hpx1 rfl 4 (by decide) (hts (.fieldLink RX6 91 "GradientDesk$Part" "degree" "I") (List.mem_of_getElem? (i := 9) rfl)) (fun _ h9 => h9) rfl dX6_makeProduct_138 ?_
            refine lv_aload hx hb dX6_makeProduct_141 (lv_at hl 1 rfl) ?_
            refine m_get (D := (dC, dI)) (v := .int (nI ((gd L y1).2.2.2.1))) (C := RX3) (T := TX3) (N := 7) hx hb hts bk1 hown hK hP (2117 + 2 * y1) (ns_p (by omega)) hpy1 rfl 4 (by decide) (hts (.fieldLink RX6 91 "GradientDesk$Part" "degree" "I") (List.mem_of_getElem? (i := 9) rfl)) (fun _ h9 => h9) rfl dX6_makeProduct_143 ?_
            refine lv_iadd hx hb dX6_makeProduct_146 ?_
            refine lv_topi (fun x_24 e_25 => ?_)
            obtain rfl : x_24 = nI ((gd L x1).2.2.2.1 + ((gd L y1).2.2.2.1)) := e_25.trans (nI_add ((gd L x1).2.2.2.1) ((gd L y1).2.2.2.1))
            refine lv_iload hx hb dX6_makeProduct_147 (lv_at hl 0 rfl) ?_
            refine lv_aload_n hx hb dX6_makeProduct_149 rfl (lv_at hl 2 rfl) ?_
            refine m_get (D := (dC, dI)) (v := .int (nI ((gd L x1).2.2.2.2.2.1))) (C := RX3) (T := TX3) (N := 7) hx hb hts bk1 hown hK hP (2117 + 2 * x1) (ns_p (by omega)) hpx1 rfl 6 (by decide) (hts (.fieldLink RX6 82 "GradientDesk$Part" "sizeD" "I") (List.mem_of_getElem? (i := 10) rfl)) (fun _ h9 => h9) rfl dX6_makeProduct_150 ?_
            refine lv_aload hx hb dX6_makeProduct_153 (lv_at hl 1 rfl) ?_
            refine m_get (D := (dC, dI)) (v := .int (nI ((gd L y1).2.2.2.2.2.1))) (C := RX3) (T := TX3) (N := 7) hx hb hts bk1 hown hK hP (2117 + 2 * y1) (ns_p (by omega)) hpy1 rfl 6 (by decide) (hts (.fieldLink RX6 82 "GradientDesk$Part" "sizeD" "I") (List.mem_of_getElem? (i := 10) rfl)) (fun _ h9 => h9) rfl dX6_makeProduct_155 ?_
            refine lv_iadd hx hb dX6_makeProduct_158 ?_
            refine lv_topi (fun x_26 e_27 => ?_)
            obtain rfl : x_26 = nI ((gd L x1).2.2.2.2.2.1 + ((gd L y1).2.2.2.2.2.1)) := e_27.trans (nI_add ((gd L x1).2.2.2.2.2.1) ((gd L y1).2.2.2.2.2.1))
            refine va_calli (va_runV (As := [.int (nI 3), .int (nI x1), .int (nI y1), .int (nI ((gd L x1).2.2.2.1 + ((gd L y1).2.2.2.1))), .int (nI ((gd L x1).2.2.2.2.1 + ((gd L y1).2.2.2.2.1) + 8)), .int (nI ((gd L x1).2.2.2.2.2.1 + ((gd L y1).2.2.2.2.2.1)))]) (rest := []) ⟨hx, hb, hml, hown, hts⟩ (c_V6_keep l dC dI A ad cA g L (3, ((x1 : Nat) : Int), ((y1 : Nat) : Int), (gd L x1).2.2.2.1 + (gd L y1).2.2.2.1, (gd L x1).2.2.2.2.1 + (gd L y1).2.2.2.2.1 + 8, (gd L x1).2.2.2.2.2.1 + (gd L y1).2.2.2.2.2.1, 0, 1) (nI 3) (nI x1) (nI y1) (nI ((gd L x1).2.2.2.1 + ((gd L y1).2.2.2.1))) (nI ((gd L x1).2.2.2.2.1 + ((gd L y1).2.2.2.2.1) + 8)) (nI ((gd L x1).2.2.2.2.2.1 + ((gd L y1).2.2.2.2.2.1))) hC ((show nI 3 = iI 3 from by decide).trans (congrArg iI (by rfl))) ((nI_iI x1).trans (congrArg iI (by rfl))) ((nI_iI y1).trans (congrArg iI (by rfl))) ((nI_iI ((gd L x1).2.2.2.1 + ((gd L y1).2.2.2.1))).trans (congrArg iI (by rfl))) ((nI_iI ((gd L x1).2.2.2.2.1 + ((gd L y1).2.2.2.2.1) + 8)).trans (congrArg iI (by rfl))) ((nI_iI ((gd L x1).2.2.2.2.2.1 + ((gd L y1).2.2.2.2.2.1))).trans (congrArg iI (by rfl))) (by show 3 ≤ 20000 ∧ -1 ≤ ((x1 : Nat) : Int) ∧ ((x1 : Nat) : Int) ≤ 20000 ∧ -1 ≤ ((y1 : Nat) : Int) ∧ ((y1 : Nat) : Int) ≤ 20000 ∧ (gd L x1).2.2.2.1 + (gd L y1).2.2.2.1 ≤ 20000 ∧ (gd L x1).2.2.2.2.1 + (gd L y1).2.2.2.2.1 + 8 ≤ 20000 ∧ (gd L x1).2.2.2.2.2.1 + (gd L y1).2.2.2.2.2.1 ≤ 20000; omega) (show (3 : Nat) ≠ 0 from by decide)) (cwV 6 hts (goodIn_app (goodIn_r [Cond.methodLink RX6 60 yX6_keep, Cond.instanceMethod yX6_keep, Cond.selects RX6 yX6_keep yX6_keep, Cond.initialized RX6] [11, 12, 13, 5] rfl rfl) (goodIn_sub (fun w9 h9 => bk4 w9 h9) gw_V6_keep)) rfl rfl rfl (by decide +kernel) ⟨Nat.le_of_ble_eq_true rfl, Nat.le_of_ble_eq_true rfl⟩) ⟨fun a U g mk q => ⟨q.1, q.2.1, q.2.2.1, LY.moved (u := U) (U := U.calling g mk a) (Vm.Alike.refl U.vm) q.2.2.2⟩, va_recv hK hP (ci := 9) (q0 := 2080) rfl (wo_at (by decide) hO), fun U hU hW => ⟨rfl, by rw [hU]; exact fun q h => hA q (Nat.le_trans hS.1 h), by rw [hU]; exact hP, LY.moved hW.alike hL⟩⟩ rfl rfl hl.1 rfl (lv_room (Nat.le_of_ble_eq_true rfl)) dX6_makeProduct_159 ⟨(Nat.le_of_ble_eq_true rfl), (Nat.le_of_ble_eq_true rfl)⟩) hS (fun q _ h => h) (fun q h => h) (fun r_28 u8 t8 H1 locs ht8 hvm8 hw_29 hB hz1 hk1 hS => ?_)
            obtain ⟨g_30, rfl⟩ : ∃ z, z = u8 := ⟨_, rfl⟩
            try dsimp only at hw_29 hB
            rw [ht8] at hB
            have hP := hB
            generalize H1 = H at hP hS ⊢
            obtain ⟨fr_31, hK⟩ := hw_29
            refine W.widen (k := 0) (n := 0) (by omega) (by omega) ?_
            exact W.iret (v := r_28) hx hb hr (fun t9 ht9 hW9 => ⟨⟨r_28, g_30, rfl, ⟨(fun (k : Nat) (hk : (14 ≤ k ∧ k < 76) ∨ (876 ≤ k ∧ k < 2080) ∨ (2081 ≤ k ∧ k < 2117)) => (fr_31 k (by omega)).trans (rfl)), by unfold prdL; rw [if_neg (show ¬ ((gd L x1).1 = 0 ∧ (gd L y1).1 = 0) from by omega), if_neg (by rw [hx0]; decide), if_neg (by rw [hy0]; decide), if_neg (by rw [hx1]; decide), if_neg (by rw [hy1]; decide)]; exact hK⟩, by show va_P (dC, dI) vwCl _ t9.heap; rw [ht9]; exact hP⟩, hS.F ht9⟩) hS.2.2 dX6_makeProduct_162
  · have c_3 := (nI_eq (a := ((gd L x1).1)) (b := 0) (by omega) (by decide)).mp c_3
    refine lv_aload hx hb dX6_makeProduct_40 (lv_at hl 0 rfl) ?_
    refine m_get (D := (dC, dI)) (v := .int (nI ((gd L y1).1))) (C := RX3) (T := TX3) (N := 7) hx hb hts bk1 hown hK hP (2117 + 2 * y1) (ns_p (by omega)) hpy1 rfl 1 (by decide) (hts (.fieldLink RX6 64 "GradientDesk$Part" "sort" "I") (List.mem_of_getElem? (i := 2) rfl)) (fun _ h9 => h9) rfl dX6_makeProduct_42 ?_
    refine lv_if_ne (tgt := 84) hx hb dX6_makeProduct_45 (by decide) (fun c_32 => ?_) (fun c_32 => ?_)
    · have c_32 := mt (nI_eq (a := ((gd L y1).1)) (b := 0) (by omega) (by decide)).mpr c_32
      refine lv_aload_n hx hb dX6_makeProduct_84 rfl (lv_at hl 1 rfl) ?_
      refine va_calli (va_runS (As := [.ref (ad (2117 + 2 * x1))]) (rest := []) ⟨hx, hb, hml, hown, hts⟩ (c_V6_isZero l dC dI A ad cA g L x1 hC hWf ix) (va_cwS 1 hts (goodIn_app (goodIn_r [Cond.methodLink RX6 75 yX6_isZero, Cond.static yX6_isZero, Cond.initialized RX6] [3, 4, 5] rfl rfl) (goodIn_sub (fun w9 h9 => bk2 w9 h9) gw_V6_isZero)) rfl rfl rfl (by decide +kernel) ⟨Nat.le_of_ble_eq_true rfl, Nat.le_of_ble_eq_true rfl⟩) ⟨fun a U g mk q => ⟨q.1, q.2.1, q.2.2.1, LY.moved (u := U) (U := U.calling g mk a) (Vm.Alike.refl U.vm) q.2.2.2⟩, fun U hU hW => ⟨rfl, by rw [hU]; exact fun q h => hA q (Nat.le_trans hS.1 h), by rw [hU]; exact hP, LY.moved hW.alike hL⟩⟩ rfl rfl hl.1 rfl (lv_room (Nat.le_of_ble_eq_true rfl)) dX6_makeProduct_85 ⟨(Nat.le_of_ble_eq_true rfl), (Nat.le_of_ble_eq_true rfl)⟩) hS (fun q _ h => h) (fun q h => h) (fun r_33 u8 t8 H1 locs ht8 hvm8 hw_34 hB hz1 hk1 hS => ?_)
      obtain ⟨⟩ := u8
      try dsimp only at hw_34 hB
      rw [ht8] at hB
      have hP := hB
      generalize H1 = H at hP hS ⊢
      rcases hw_34 with ⟨rfl, hx0⟩ | ⟨rfl, hx0⟩
      · skip
        refine lv_if_ne (tgt := 99) hx hb dX6_makeProduct_88 (by decide) (fun c_35 => ?_) (fun c_35 => absurd c_35 (by decide))
        refine lv_iload_n hx hb dX6_makeProduct_99 rfl (lv_at hl 3 rfl) ?_
        refine W.widen (k := 0) (n := 0) (by omega) (by omega) ?_
        exact W.iret (v := nI x1) hx hb hr (fun t9 ht9 hW9 => ⟨⟨nI x1, g, rfl, ⟨(fun (k : Nat) (hk : (14 ≤ k ∧ k < 76) ∨ (876 ≤ k ∧ k < 2080) ∨ (2081 ≤ k ∧ k < 2117)) => rfl), CMK.old (i := x1) (by unfold prdL; rw [if_neg (show ¬ ((gd L x1).1 = 0 ∧ (gd L y1).1 = 0) from by omega), if_pos hx0]) ix hC⟩, by show va_P (dC, dI) vwCl _ t9.heap; rw [ht9]; exact hP⟩, hS.F ht9⟩) hS.2.2 dX6_makeProduct_100
      · skip
        refine lv_if_ne (tgt := 99) hx hb dX6_makeProduct_88 (by decide) (fun c_36 => absurd c_36 (by decide)) (fun c_36 => ?_)
        refine lv_aload hx hb dX6_makeProduct_91 (lv_at hl 0 rfl) ?_
        refine va_calli (va_runS (As := [.ref (ad (2117 + 2 * y1))]) (rest := []) ⟨hx, hb, hml, hown, hts⟩ (c_V6_isUnit l dC dI A ad cA g L y1 hC hWf iy) (va_cwS 1 hts (goodIn_app (goodIn_r [Cond.methodLink RX6 98 yX6_isUnit, Cond.static yX6_isUnit, Cond.initialized RX6] [6, 7, 5] rfl rfl) (goodIn_sub (fun w9 h9 => bk3 w9 h9) gw_V6_isUnit)) rfl rfl rfl (by decide +kernel) ⟨Nat.le_of_ble_eq_true rfl, Nat.le_of_ble_eq_true rfl⟩) ⟨fun a U g mk q => ⟨q.1, q.2.1, q.2.2.1, LY.moved (u := U) (U := U.calling g mk a) (Vm.Alike.refl U.vm) q.2.2.2⟩, fun U hU hW => ⟨rfl, by rw [hU]; exact fun q h => hA q (Nat.le_trans hS.1 h), by rw [hU]; exact hP, LY.moved hW.alike hL⟩⟩ rfl rfl hl.1 rfl (lv_room (Nat.le_of_ble_eq_true rfl)) dX6_makeProduct_93 ⟨(Nat.le_of_ble_eq_true rfl), (Nat.le_of_ble_eq_true rfl)⟩) hS (fun q _ h => h) (fun q h => h) (fun r_37 u8 t8 H1 locs ht8 hvm8 hw_38 hB hz1 hk1 hS => ?_)
        obtain ⟨⟩ := u8
        try dsimp only at hw_38 hB
        rw [ht8] at hB
        have hP := hB
        generalize H1 = H at hP hS ⊢
        rcases hw_38 with ⟨rfl, hy1⟩ | ⟨rfl, hy1⟩
        · skip
          refine lv_if_eq (tgt := 101) hx hb dX6_makeProduct_96 (by decide) (fun c_39 => absurd c_39 (by decide)) (fun c_39 => ?_)
          refine lv_iload_n hx hb dX6_makeProduct_99 rfl (lv_at hl 3 rfl) ?_
          have hyz := isN_01 hy1
          have hyn := isN_n hy1
          have hxn : isN (gd L x1) 1 = false := isN_nn (by omega)
          refine W.widen (k := 0) (n := 0) (by omega) (by omega) ?_
          exact W.iret (v := nI x1) hx hb hr (fun t9 ht9 hW9 => ⟨⟨nI x1, g, rfl, ⟨(fun (k : Nat) (hk : (14 ≤ k ∧ k < 76) ∨ (876 ≤ k ∧ k < 2080) ∨ (2081 ≤ k ∧ k < 2117)) => rfl), CMK.old (i := x1) (by unfold prdL; rw [if_neg (show ¬ ((gd L x1).1 = 0 ∧ (gd L y1).1 = 0) from by omega), if_neg (by rw [hx0]; decide), if_neg (by rw [hyz]; decide), if_neg (by rw [hxn]; decide), if_pos hy1]) ix hC⟩, by show va_P (dC, dI) vwCl _ t9.heap; rw [ht9]; exact hP⟩, hS.F ht9⟩) hS.2.2 dX6_makeProduct_100
        · skip
          refine lv_if_eq (tgt := 101) hx hb dX6_makeProduct_96 (by decide) (fun c_40 => ?_) (fun c_40 => absurd c_40 (by decide))
          refine lv_aload hx hb dX6_makeProduct_101 (lv_at hl 0 rfl) ?_
          refine va_calli (va_runS (As := [.ref (ad (2117 + 2 * y1))]) (rest := []) ⟨hx, hb, hml, hown, hts⟩ (c_V6_isZero l dC dI A ad cA g L y1 hC hWf iy) (va_cwS 1 hts (goodIn_app (goodIn_r [Cond.methodLink RX6 75 yX6_isZero, Cond.static yX6_isZero, Cond.initialized RX6] [3, 4, 5] rfl rfl) (goodIn_sub (fun w9 h9 => bk2 w9 h9) gw_V6_isZero)) rfl rfl rfl (by decide +kernel) ⟨Nat.le_of_ble_eq_true rfl, Nat.le_of_ble_eq_true rfl⟩) ⟨fun a U g mk q => ⟨q.1, q.2.1, q.2.2.1, LY.moved (u := U) (U := U.calling g mk a) (Vm.Alike.refl U.vm) q.2.2.2⟩, fun U hU hW => ⟨rfl, by rw [hU]; exact fun q h => hA q (Nat.le_trans hS.1 h), by rw [hU]; exact hP, LY.moved hW.alike hL⟩⟩ rfl rfl hl.1 rfl (lv_room (Nat.le_of_ble_eq_true rfl)) dX6_makeProduct_103 ⟨(Nat.le_of_ble_eq_true rfl), (Nat.le_of_ble_eq_true rfl)⟩) hS (fun q _ h => h) (fun q h => h) (fun r_41 u8 t8 H1 locs ht8 hvm8 hw_42 hB hz1 hk1 hS => ?_)
          obtain ⟨⟩ := u8
          try dsimp only at hw_42 hB
          rw [ht8] at hB
          have hP := hB
          generalize H1 = H at hP hS ⊢
          rcases hw_42 with ⟨rfl, hy0⟩ | ⟨rfl, hy0⟩
          · skip
            refine lv_if_ne (tgt := 116) hx hb dX6_makeProduct_106 (by decide) (fun c_43 => ?_) (fun c_43 => absurd c_43 (by decide))
            refine lv_iload_n hx hb dX6_makeProduct_116 rfl (lv_at hl 4 rfl) ?_
            refine W.widen (k := 0) (n := 0) (by omega) (by omega) ?_
            exact W.iret (v := nI y1) hx hb hr (fun t9 ht9 hW9 => ⟨⟨nI y1, g, rfl, ⟨(fun (k : Nat) (hk : (14 ≤ k ∧ k < 76) ∨ (876 ≤ k ∧ k < 2080) ∨ (2081 ≤ k ∧ k < 2117)) => rfl), CMK.old (i := y1) (by unfold prdL; rw [if_neg (show ¬ ((gd L x1).1 = 0 ∧ (gd L y1).1 = 0) from by omega), if_neg (by rw [hx0]; decide), if_pos hy0]) iy hC⟩, by show va_P (dC, dI) vwCl _ t9.heap; rw [ht9]; exact hP⟩, hS.F ht9⟩) hS.2.2 dX6_makeProduct_117
          · skip
            refine lv_if_ne (tgt := 116) hx hb dX6_makeProduct_106 (by decide) (fun c_44 => absurd c_44 (by decide)) (fun c_44 => ?_)
            refine lv_aload_n hx hb dX6_makeProduct_109 rfl (lv_at hl 1 rfl) ?_
            refine va_calli (va_runS (As := [.ref (ad (2117 + 2 * x1))]) (rest := []) ⟨hx, hb, hml, hown, hts⟩ (c_V6_isUnit l dC dI A ad cA g L x1 hC hWf ix) (va_cwS 1 hts (goodIn_app (goodIn_r [Cond.methodLink RX6 98 yX6_isUnit, Cond.static yX6_isUnit, Cond.initialized RX6] [6, 7, 5] rfl rfl) (goodIn_sub (fun w9 h9 => bk3 w9 h9) gw_V6_isUnit)) rfl rfl rfl (by decide +kernel) ⟨Nat.le_of_ble_eq_true rfl, Nat.le_of_ble_eq_true rfl⟩) ⟨fun a U g mk q => ⟨q.1, q.2.1, q.2.2.1, LY.moved (u := U) (U := U.calling g mk a) (Vm.Alike.refl U.vm) q.2.2.2⟩, fun U hU hW => ⟨rfl, by rw [hU]; exact fun q h => hA q (Nat.le_trans hS.1 h), by rw [hU]; exact hP, LY.moved hW.alike hL⟩⟩ rfl rfl hl.1 rfl (lv_room (Nat.le_of_ble_eq_true rfl)) dX6_makeProduct_110 ⟨(Nat.le_of_ble_eq_true rfl), (Nat.le_of_ble_eq_true rfl)⟩) hS (fun q _ h => h) (fun q h => h) (fun r_45 u8 t8 H1 locs ht8 hvm8 hw_46 hB hz1 hk1 hS => ?_)
            obtain ⟨⟩ := u8
            try dsimp only at hw_46 hB
            rw [ht8] at hB
            have hP := hB
            generalize H1 = H at hP hS ⊢
            rcases hw_46 with ⟨rfl, hx1⟩ | ⟨rfl, hx1⟩
            · skip
              refine lv_if_eq (tgt := 118) hx hb dX6_makeProduct_113 (by decide) (fun c_47 => absurd c_47 (by decide)) (fun c_47 => ?_)
              refine lv_iload_n hx hb dX6_makeProduct_116 rfl (lv_at hl 4 rfl) ?_
              refine W.widen (k := 0) (n := 0) (by omega) (by omega) ?_
              exact W.iret (v := nI y1) hx hb hr (fun t9 ht9 hW9 => ⟨⟨nI y1, g, rfl, ⟨(fun (k : Nat) (hk : (14 ≤ k ∧ k < 76) ∨ (876 ≤ k ∧ k < 2080) ∨ (2081 ≤ k ∧ k < 2117)) => rfl), CMK.old (i := y1) (by unfold prdL; rw [if_neg (show ¬ ((gd L x1).1 = 0 ∧ (gd L y1).1 = 0) from by omega), if_neg (by rw [hx0]; decide), if_neg (by rw [hy0]; decide), if_pos hx1]) iy hC⟩, by show va_P (dC, dI) vwCl _ t9.heap; rw [ht9]; exact hP⟩, hS.F ht9⟩) hS.2.2 dX6_makeProduct_117
            · skip
              refine lv_if_eq (tgt := 118) hx hb dX6_makeProduct_113 (by decide) (fun c_48 => ?_) (fun c_48 => absurd c_48 (by decide))
              refine lv_aload_n hx hb dX6_makeProduct_118 rfl (lv_at hl 1 rfl) ?_
              refine m_get (D := (dC, dI)) (v := .int (nI ((gd L x1).2.2.2.2.1))) (C := RX3) (T := TX3) (N := 7) hx hb hts bk1 hown hK hP (2117 + 2 * x1) (ns_p (by omega)) hpx1 rfl 5 (by decide) (hts (.fieldLink RX6 79 "GradientDesk$Part" "sizeN" "I") (List.mem_of_getElem? (i := 8) rfl)) (fun _ h9 => h9) rfl dX6_makeProduct_119 ?_
              refine lv_aload hx hb dX6_makeProduct_122 (lv_at hl 0 rfl) ?_
              refine m_get (D := (dC, dI)) (v := .int (nI ((gd L y1).2.2.2.2.1))) (C := RX3) (T := TX3) (N := 7) hx hb hts bk1 hown hK hP (2117 + 2 * y1) (ns_p (by omega)) hpy1 rfl 5 (by decide) (hts (.fieldLink RX6 79 "GradientDesk$Part" "sizeN" "I") (List.mem_of_getElem? (i := 8) rfl)) (fun _ h9 => h9) rfl dX6_makeProduct_124 ?_
              refine lv_iadd hx hb dX6_makeProduct_127 ?_
              refine lv_topi (fun x_49 e_50 => ?_)
              obtain rfl : x_49 = nI ((gd L x1).2.2.2.2.1 + ((gd L y1).2.2.2.2.1)) := e_50.trans (nI_add ((gd L x1).2.2.2.2.1) ((gd L y1).2.2.2.2.1))
              refine lv_bipush (v := nI 8) hx hb dX6_makeProduct_128 (by decide +kernel) ?_
              refine lv_iadd hx hb dX6_makeProduct_130 ?_
              refine lv_topi (fun x_51 e_52 => ?_)
              obtain rfl : x_51 = nI ((gd L x1).2.2.2.2.1 + ((gd L y1).2.2.2.2.1) + 8) := e_52.trans (nI_add ((gd L x1).2.2.2.2.1 + ((gd L y1).2.2.2.2.1)) 8)
              refine lv_istore (lv' := [(5, .int (nI ((gd L x1).2.2.2.2.1 + ((gd L y1).2.2.2.2.1) + 8))), (4, .ref (ad (2117 + 2 * y1))), (3, .ref (ad (2117 + 2 * x1))), (0, .ref (ad 2080)), (1, .int (nI x1)), (2, .int (nI y1))]) hx hb dX6_makeProduct_131 hl (by decide) rfl (fun ls hl => ?_)
              refine lv_aload_n hx hb dX6_makeProduct_133 rfl (lv_at hl 3 rfl) ?_
              refine lv_iconst (v := nI 3) hx hb dX6_makeProduct_134 (by decide +kernel) ?_
              refine lv_iload_n hx hb dX6_makeProduct_135 rfl (lv_at hl 4 rfl) ?_
              refine lv_iload_n hx hb dX6_makeProduct_136 rfl (lv_at hl 5 rfl) ?_
              refine lv_aload_n hx hb dX6_makeProduct_137 rfl (lv_at hl 2 rfl) ?_
              refine m_get (D := (dC, dI)) (v := .int (nI ((gd L x1).2.2.2.1))) (C := RX3) (T := TX3) (N := 7) hx hb hts bk1 hown hK hP (2117 + 2 * x1) (ns_p (by omega)) hpx1 rfl 4 (by decide) (hts (.fieldLink RX6 91 "GradientDesk$Part" "degree" "I") (List.mem_of_getElem? (i := 9) rfl)) (fun _ h9 => h9) rfl dX6_makeProduct_138 ?_
              refine lv_aload hx hb dX6_makeProduct_141 (lv_at hl 1 rfl) ?_
              refine m_get (D := (dC, dI)) (v := .int (nI ((gd L y1).2.2.2.1))) (C := RX3) (T := TX3) (N := 7) hx hb hts bk1 hown hK hP (2117 + 2 * y1) (ns_p (by omega)) hpy1 rfl 4 (by decide) (hts (.fieldLink RX6 91 "GradientDesk$Part" "degree" "I") (List.mem_of_getElem? (i := 9) rfl)) (fun _ h9 => h9) rfl dX6_makeProduct_143 ?_
              refine lv_iadd hx hb dX6_makeProduct_146 ?_
              refine lv_topi (fun x_53 e_54 => ?_)
              obtain rfl : x_53 = nI ((gd L x1).2.2.2.1 + ((gd L y1).2.2.2.1)) := e_54.trans (nI_add ((gd L x1).2.2.2.1) ((gd L y1).2.2.2.1))
              refine lv_iload hx hb dX6_makeProduct_147 (lv_at hl 0 rfl) ?_
              refine lv_aload_n hx hb dX6_makeProduct_149 rfl (lv_at hl 2 rfl) ?_
              refine m_get (D := (dC, dI)) (v := .int (nI ((gd L x1).2.2.2.2.2.1))) (C := RX3) (T := TX3) (N := 7) hx hb hts bk1 hown hK hP (2117 + 2 * x1) (ns_p (by omega)) hpx1 rfl 6 (by decide) (hts (.fieldLink RX6 82 "GradientDesk$Part" "sizeD" "I") (List.mem_of_getElem? (i := 10) rfl)) (fun _ h9 => h9) rfl dX6_makeProduct_150 ?_
              refine lv_aload hx hb dX6_makeProduct_153 (lv_at hl 1 rfl) ?_
              refine m_get (D := (dC, dI)) (v := .int (nI ((gd L y1).2.2.2.2.2.1))) (C := RX3) (T := TX3) (N := 7) hx hb hts bk1 hown hK hP (2117 + 2 * y1) (ns_p (by omega)) hpy1 rfl 6 (by decide) (hts (.fieldLink RX6 82 "GradientDesk$Part" "sizeD" "I") (List.mem_of_getElem? (i := 10) rfl)) (fun _ h9 => h9) rfl dX6_makeProduct_155 ?_
              refine lv_iadd hx hb dX6_makeProduct_158 ?_
              refine lv_topi (fun x_55 e_56 => ?_)
              obtain rfl : x_55 = nI ((gd L x1).2.2.2.2.2.1 + ((gd L y1).2.2.2.2.2.1)) := e_56.trans (nI_add ((gd L x1).2.2.2.2.2.1) ((gd L y1).2.2.2.2.2.1))
              refine va_calli (va_runV (As := [.int (nI 3), .int (nI x1), .int (nI y1), .int (nI ((gd L x1).2.2.2.1 + ((gd L y1).2.2.2.1))), .int (nI ((gd L x1).2.2.2.2.1 + ((gd L y1).2.2.2.2.1) + 8)), .int (nI ((gd L x1).2.2.2.2.2.1 + ((gd L y1).2.2.2.2.2.1)))]) (rest := []) ⟨hx, hb, hml, hown, hts⟩ (c_V6_keep l dC dI A ad cA g L (3, ((x1 : Nat) : Int), ((y1 : Nat) : Int), (gd L x1).2.2.2.1 + (gd L y1).2.2.2.1, (gd L x1).2.2.2.2.1 + (gd L y1).2.2.2.2.1 + 8, (gd L x1).2.2.2.2.2.1 + (gd L y1).2.2.2.2.2.1, 0, 1) (nI 3) (nI x1) (nI y1) (nI ((gd L x1).2.2.2.1 + ((gd L y1).2.2.2.1))) (nI ((gd L x1).2.2.2.2.1 + ((gd L y1).2.2.2.2.1) + 8)) (nI ((gd L x1).2.2.2.2.2.1 + ((gd L y1).2.2.2.2.2.1))) hC ((show nI 3 = iI 3 from by decide).trans (congrArg iI (by rfl))) ((nI_iI x1).trans (congrArg iI (by rfl))) ((nI_iI y1).trans (congrArg iI (by rfl))) ((nI_iI ((gd L x1).2.2.2.1 + ((gd L y1).2.2.2.1))).trans (congrArg iI (by rfl))) ((nI_iI ((gd L x1).2.2.2.2.1 + ((gd L y1).2.2.2.2.1) + 8)).trans (congrArg iI (by rfl))) ((nI_iI ((gd L x1).2.2.2.2.2.1 + ((gd L y1).2.2.2.2.2.1))).trans (congrArg iI (by rfl))) (by show 3 ≤ 20000 ∧ -1 ≤ ((x1 : Nat) : Int) ∧ ((x1 : Nat) : Int) ≤ 20000 ∧ -1 ≤ ((y1 : Nat) : Int) ∧ ((y1 : Nat) : Int) ≤ 20000 ∧ (gd L x1).2.2.2.1 + (gd L y1).2.2.2.1 ≤ 20000 ∧ (gd L x1).2.2.2.2.1 + (gd L y1).2.2.2.2.1 + 8 ≤ 20000 ∧ (gd L x1).2.2.2.2.2.1 + (gd L y1).2.2.2.2.2.1 ≤ 20000; omega) (show (3 : Nat) ≠ 0 from by decide)) (cwV 6 hts (goodIn_app (goodIn_r [Cond.methodLink RX6 60 yX6_keep, Cond.instanceMethod yX6_keep, Cond.selects RX6 yX6_keep yX6_keep, Cond.initialized RX6] [11, 12, 13, 5] rfl rfl) (goodIn_sub (fun w9 h9 => bk4 w9 h9) gw_V6_keep)) rfl rfl rfl (by decide +kernel) ⟨Nat.le_of_ble_eq_true rfl, Nat.le_of_ble_eq_true rfl⟩) ⟨fun a U g mk q => ⟨q.1, q.2.1, q.2.2.1, LY.moved (u := U) (U := U.calling g mk a) (Vm.Alike.refl U.vm) q.2.2.2⟩, va_recv hK hP (ci := 9) (q0 := 2080) rfl (wo_at (by decide) hO), fun U hU hW => ⟨rfl, by rw [hU]; exact fun q h => hA q (Nat.le_trans hS.1 h), by rw [hU]; exact hP, LY.moved hW.alike hL⟩⟩ rfl rfl hl.1 rfl (lv_room (Nat.le_of_ble_eq_true rfl)) dX6_makeProduct_159 ⟨(Nat.le_of_ble_eq_true rfl), (Nat.le_of_ble_eq_true rfl)⟩) hS (fun q _ h => h) (fun q h => h) (fun r_57 u8 t8 H1 locs ht8 hvm8 hw_58 hB hz1 hk1 hS => ?_)
              obtain ⟨g_59, rfl⟩ : ∃ z, z = u8 := ⟨_, rfl⟩
              try dsimp only at hw_58 hB
              rw [ht8] at hB
              have hP := hB
              generalize H1 = H at hP hS ⊢
              obtain ⟨fr_60, hK⟩ := hw_58
              refine W.widen (k := 0) (n := 0) (by omega) (by omega) ?_
              exact W.iret (v := r_57) hx hb hr (fun t9 ht9 hW9 => ⟨⟨r_57, g_59, rfl, ⟨(fun (k : Nat) (hk : (14 ≤ k ∧ k < 76) ∨ (876 ≤ k ∧ k < 2080) ∨ (2081 ≤ k ∧ k < 2117)) => (fr_60 k (by omega)).trans (rfl)), by unfold prdL; rw [if_neg (show ¬ ((gd L x1).1 = 0 ∧ (gd L y1).1 = 0) from by omega), if_neg (by rw [hx0]; decide), if_neg (by rw [hy0]; decide), if_neg (by rw [hx1]; decide), if_neg (by rw [hy1]; decide)]; exact hK⟩, by show va_P (dC, dI) vwCl _ t9.heap; rw [ht9]; exact hP⟩, hS.F ht9⟩) hS.2.2 dX6_makeProduct_162
    · have c_32 := (nI_eq (a := ((gd L y1).1)) (b := 0) (by omega) (by decide)).mp c_32
      refine lv_aload_n hx hb dX6_makeProduct_48 rfl (lv_at hl 2 rfl) ?_
      refine m_get (D := (dC, dI)) (v := .ref (ad 2077)) (C := RX6) (T := TX6) (N := 7) hx hb hts bk0 hown hK hP 2080 (by decide) hO rfl 4 (by decide) (hts (.fieldLink RX6 41 "GradientDesk$Shelf" "arithmetic" "LGradientDesk$Arithmetic;") (List.mem_of_getElem? (i := 14) rfl)) (fun _ h9 => h9) rfl dX6_makeProduct_49 ?_
      refine lv_aload_n hx hb dX6_makeProduct_52 rfl (lv_at hl 1 rfl) ?_
      refine m_get (D := (dC, dI)) (v := .ref (ad (2118 + 2 * x1))) (C := RX3) (T := TX3) (N := 7) hx hb hts bk1 hown hK hP (2117 + 2 * x1) (ns_p (by omega)) hpx1 rfl 0 (by decide) (hts (.fieldLink RX6 68 "GradientDesk$Part" "number" "LGradientDesk$Fraction;") (List.mem_of_getElem? (i := 15) rfl)) (fun _ h9 => h9) rfl dX6_makeProduct_53 ?_
      refine lv_aload hx hb dX6_makeProduct_56 (lv_at hl 0 rfl) ?_
      refine m_get (D := (dC, dI)) (v := .ref (ad (2118 + 2 * y1))) (C := RX3) (T := TX3) (N := 7) hx hb hts bk1 hown hK hP (2117 + 2 * y1) (ns_p (by omega)) hpy1 rfl 0 (by decide) (hts (.fieldLink RX6 68 "GradientDesk$Part" "number" "LGradientDesk$Fraction;") (List.mem_of_getElem? (i := 15) rfl)) (fun _ h9 => h9) rfl dX6_makeProduct_58 ?_
      refine lv_aload_n hx hb dX6_makeProduct_61 rfl (lv_at hl 2 rfl) ?_
      refine m_get (D := (dC, dI)) (v := .ref (ad 2107)) (C := RX6) (T := TX6) (N := 7) hx hb hts bk0 hown hK hP 2080 (by decide) hO rfl 5 (by decide) (hts (.fieldLink RX6 30 "GradientDesk$Shelf" "work" "LGradientDesk$Fraction;") (List.mem_of_getElem? (i := 16) rfl)) (fun _ h9 => h9) rfl dX6_makeProduct_62 ?_
      have n0x1 : (gd L x1).1 = 0 := by omega
      rw [hfnx1] at a6x1
      obtain ⟨n1x1, n2x1, -, -⟩ := a6x1 n0x1
      obtain ⟨b1x1, b2x1, b3x1, -⟩ := num13 hWf ix n0x1
      clear a6x1
      have n0y1 : (gd L y1).1 = 0 := by omega
      rw [hfny1] at a6y1
      obtain ⟨n1y1, n2y1, -, -⟩ := a6y1 n0y1
      obtain ⟨b1y1, b2y1, b3y1, -⟩ := num13 hWf iy n0y1
      clear a6y1
      have hq_64 := hFr x1 (by omega)
      have hq_65 := hFr y1 (by omega)
      refine va_callv (va_runV (As := [.ref (ad (2118 + 2 * x1)), .ref (ad (2118 + 2 * y1)), .ref (ad 2107)]) (rest := []) ⟨hx, hb, hml, hown, hts⟩ (c_V0_multiply l dC dI A ad cA g (2118 + 2 * x1) (38 + 2 * x1) (39 + 2 * x1) (2118 + 2 * y1) (38 + 2 * y1) (39 + 2 * y1) ((gd L x1).2.2.2.2.2.2.1) (((gd L x1).2.2.2.2.2.2.2 : Nat) : Int) ((gd L y1).2.2.2.2.2.2.1) (((gd L y1).2.2.2.2.2.2.2 : Nat) : Int) hW hAr hWk hq_64 (⟨ns_q (by omega), by omega⟩) (by omega) hq_65 (⟨ns_q (by omega), by omega⟩) (by omega) (by omega) (by omega) n1x1 n2x1 n1y1 n2y1 b1x1 (by rw [Int.natAbs_natCast]; exact b2x1) b1y1 (by rw [Int.natAbs_natCast]; exact b2y1)) (cwV 3 hts (goodIn_app (goodIn_r [Cond.methodLink RX6 94 yX0_multiply, Cond.instanceMethod yX0_multiply, Cond.selects RX0 yX0_multiply yX0_multiply, Cond.initialized RX0] [17, 18, 19, 20] rfl rfl) (goodIn_sub (fun w9 h9 => bk5 w9 h9) gw_V0_multiply)) rfl rfl rfl (by decide +kernel) ⟨Nat.le_of_ble_eq_true rfl, Nat.le_of_ble_eq_true rfl⟩) ⟨fun a U g mk q => ⟨q.1, q.2.1, q.2.2.1, LY.moved (u := U) (U := U.calling g mk a) (Vm.Alike.refl U.vm) q.2.2.2⟩, va_recv hK hP (ci := 3) (q0 := 2077) rfl (wo_at (by decide) hAr), fun U hU hW => ⟨rfl, by rw [hU]; exact fun q h => hA q (Nat.le_trans hS.1 h), by rw [hU]; exact hP, LY.moved hW.alike hL⟩⟩ rfl rfl hl.1 rfl (lv_room (Nat.le_of_ble_eq_true rfl)) dX6_makeProduct_65 ⟨(Nat.le_of_ble_eq_true rfl), (Nat.le_of_ble_eq_true rfl)⟩) hS (fun q _ h => h) (fun q h => h) (fun u8 t8 H1 locs ht8 hvm8 hw_66 hB hz1 hk1 hS => ?_)
      obtain ⟨g_67, rfl⟩ : ∃ z, z = u8 := ⟨_, rfl⟩
      try dsimp only at hw_66 hB
      rw [ht8] at hB
      have hP := hB
      generalize H1 = H at hP hS ⊢
      obtain ⟨fr_68, hAW_61, hv_62, hv_63⟩ := hw_66
      rw [← Int.natCast_mul] at hv_63
      have hqp : 0 < (gd L x1).2.2.2.2.2.2.2 * (gd L y1).2.2.2.2.2.2.2 := Nat.mul_pos b3x1 b3y1
      refine lv_aload_n hx hb dX6_makeProduct_68 rfl (lv_at hl 2 rfl) ?_
      have f_69 : g_67 2080 = .inr (9, [.ref (ad 2081), .ref (ad 2082), .int (nI L.length), .ref (ad 2083), .ref (ad 2077), .ref (ad 2107), .ref (ad (2 * 6))]) := (fr_68 2080 (by omega)).trans hO
      refine m_get (D := (dC, dI)) (v := .ref (ad 2077)) (C := RX6) (T := TX6) (N := 7) hx hb hts bk0 hown hK hP 2080 (by decide) f_69 rfl 4 (by decide) (hts (.fieldLink RX6 41 "GradientDesk$Shelf" "arithmetic" "LGradientDesk$Arithmetic;") (List.mem_of_getElem? (i := 14) rfl)) (fun _ h9 => h9) rfl dX6_makeProduct_69 ?_
      refine lv_aload_n hx hb dX6_makeProduct_72 rfl (lv_at hl 2 rfl) ?_
      refine m_get (D := (dC, dI)) (v := .ref (ad 2107)) (C := RX6) (T := TX6) (N := 7) hx hb hts bk0 hown hK hP 2080 (by decide) f_69 rfl 5 (by decide) (hts (.fieldLink RX6 30 "GradientDesk$Shelf" "work" "LGradientDesk$Fraction;") (List.mem_of_getElem? (i := 16) rfl)) (fun _ h9 => h9) rfl dX6_makeProduct_73 ?_
      have f_73 : g_67 2077 = .inr (3, [.ref (ad (2 * 0)), .ref (ad (2 * 1)), .ref (ad (2 * 2)), .ref (ad (2 * 3))]) := (fr_68 2077 (by omega)).trans hAr
      have f_74 : g_67 2107 = .inr (5, [.ref (ad (2 * 4)), .ref (ad (2 * 5))]) := (fr_68 2107 (by omega)).trans hWk
      refine va_callv (va_runV (As := [.ref (ad 2107)]) (rest := []) ⟨hx, hb, hml, hown, hts⟩ (c_V0_reduce l dC dI A ad cA g_67 ((gd L x1).2.2.2.2.2.2.1 * (gd L y1).2.2.2.2.2.2.1) ((gd L x1).2.2.2.2.2.2.2 * (gd L y1).2.2.2.2.2.2.2) hAW_61 f_73 f_74 hv_62 hv_63 hqp) (cwV 1 hts (goodIn_app (goodIn_r [Cond.methodLink RX6 54 yX0_reduce, Cond.instanceMethod yX0_reduce, Cond.selects RX0 yX0_reduce yX0_reduce, Cond.initialized RX0] [21, 22, 23, 20] rfl rfl) (goodIn_sub (fun w9 h9 => bk6 w9 h9) gw_V0_reduce)) rfl rfl rfl (by decide +kernel) ⟨Nat.le_of_ble_eq_true rfl, Nat.le_of_ble_eq_true rfl⟩) ⟨fun a U g mk q => ⟨q.1, q.2.1, q.2.2.1, LY.moved (u := U) (U := U.calling g mk a) (Vm.Alike.refl U.vm) q.2.2.2⟩, va_recv hK hP (ci := 3) (q0 := 2077) rfl (wo_at (by decide) f_73), fun U hU hW => ⟨rfl, by rw [hU]; exact fun q h => hA q (Nat.le_trans hS.1 h), by rw [hU]; exact hP, LY.moved hW.alike hL⟩⟩ rfl rfl hl.1 rfl (lv_room (Nat.le_of_ble_eq_true rfl)) dX6_makeProduct_76 ⟨(Nat.le_of_ble_eq_true rfl), (Nat.le_of_ble_eq_true rfl)⟩) hS (fun q _ h => h) (fun q h => h) (fun u8 t8 H1 locs ht8 hvm8 hw_75 hB hz1 hk1 hS => ?_)
      obtain ⟨g_76, rfl⟩ : ∃ z, z = u8 := ⟨_, rfl⟩
      try dsimp only at hw_75 hB
      rw [ht8] at hB
      have hP := hB
      generalize H1 = H at hP hS ⊢
      obtain ⟨fr_77, hAW_70, hv_71, hv_72⟩ := hw_75
      refine lv_aload_n hx hb dX6_makeProduct_79 rfl (lv_at hl 2 rfl) ?_
      have hC_78 : CS ad cA g_76 L := CS.same hC hAW_70 (fun (k : Nat) (hk : (76 ≤ k ∧ k < 876) ∨ k = 2077 ∨ k = 2107 ∨ k = 2080 ∨ k = 2081 ∨ (2117 ≤ k ∧ k < 2517)) => (fr_77 k (by omega)).trans ((fr_68 k (by omega)).trans (rfl)))
      have f_79 : g_76 2080 = .inr (9, [.ref (ad 2081), .ref (ad 2082), .int (nI L.length), .ref (ad 2083), .ref (ad 2077), .ref (ad 2107), .ref (ad (2 * 6))]) := (fr_77 2080 (by omega)).trans f_69
      refine va_calli (va_runV (As := []) (rest := []) ⟨hx, hb, hml, hown, hts⟩ (c_V6_keepNumber l dC dI A ad cA g_76 L (rdp ((gd L x1).2.2.2.2.2.2.1 * (gd L y1).2.2.2.2.2.2.1) ((gd L x1).2.2.2.2.2.2.2 * (gd L y1).2.2.2.2.2.2.2)) (rdq ((gd L x1).2.2.2.2.2.2.1 * (gd L y1).2.2.2.2.2.2.1) ((gd L x1).2.2.2.2.2.2.2 * (gd L y1).2.2.2.2.2.2.2)) hC_78 hv_71 hv_72 ((rd_red _ hqp).1)) (cwV 0 hts (goodIn_app (goodIn_r [Cond.methodLink RX6 50 yX6_keepNumber, Cond.instanceMethod yX6_keepNumber, Cond.selects RX6 yX6_keepNumber yX6_keepNumber, Cond.initialized RX6] [24, 25, 26, 5] rfl rfl) (goodIn_sub (fun w9 h9 => bk7 w9 h9) gw_V6_keepNumber)) rfl rfl rfl (by decide +kernel) ⟨Nat.le_of_ble_eq_true rfl, Nat.le_of_ble_eq_true rfl⟩) ⟨fun a U g mk q => ⟨q.1, q.2.1, q.2.2.1, LY.moved (u := U) (U := U.calling g mk a) (Vm.Alike.refl U.vm) q.2.2.2⟩, va_recv hK hP (ci := 9) (q0 := 2080) rfl (wo_at (by decide) f_79), fun U hU hW => ⟨rfl, by rw [hU]; exact fun q h => hA q (Nat.le_trans hS.1 h), by rw [hU]; exact hP, LY.moved hW.alike hL⟩⟩ rfl rfl hl.1 rfl (lv_room (Nat.le_of_ble_eq_true rfl)) dX6_makeProduct_80 ⟨(Nat.le_of_ble_eq_true rfl), (Nat.le_of_ble_eq_true rfl)⟩) hS (fun q _ h => h) (fun q h => h) (fun r_80 u8 t8 H1 locs ht8 hvm8 hw_81 hB hz1 hk1 hS => ?_)
      obtain ⟨g_82, rfl⟩ : ∃ z, z = u8 := ⟨_, rfl⟩
      try dsimp only at hw_81 hB
      rw [ht8] at hB
      have hP := hB
      generalize H1 = H at hP hS ⊢
      obtain ⟨fr_83, hK⟩ := hw_81
      refine W.widen (k := 0) (n := 0) (by omega) (by omega) ?_
      exact W.iret (v := r_80) hx hb hr (fun t9 ht9 hW9 => ⟨⟨r_80, g_82, rfl, ⟨(fun (k : Nat) (hk : (14 ≤ k ∧ k < 76) ∨ (876 ≤ k ∧ k < 2080) ∨ (2081 ≤ k ∧ k < 2117)) => (fr_83 k (by omega)).trans ((fr_77 k (by omega)).trans ((fr_68 k (by omega)).trans (rfl)))), by unfold prdL; rw [if_pos ⟨n0x1, n0y1⟩]; exact hK⟩, by show va_P (dC, dI) vwCl _ t9.heap; rw [ht9]; exact hP⟩, hS.F ht9⟩) hS.2.2 dX6_makeProduct_83
