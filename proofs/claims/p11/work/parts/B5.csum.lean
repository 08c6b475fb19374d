def wd_V6_makeSum : List Cond := .code yX6_makeSum cX6_makeSum 6 (some .int) :: (([.fieldLink RX6 11 "GradientDesk$Shelf" "parts" "[LGradientDesk$Part;", .fieldLink RX6 64 "GradientDesk$Part" "sort" "I", .methodLink RX6 75 yX6_isZero, .static yX6_isZero, .initialized RX6, .fieldLink RX6 79 "GradientDesk$Part" "sizeN" "I", .fieldLink RX6 82 "GradientDesk$Part" "sizeD" "I", .methodLink RX6 85 Lib.Math.max.name, .static Lib.Math.max.name, .initialized "java/lang/Math", .code Lib.Math.max.name Lib.Math.max.code 2 (some .int), .fieldLink RX6 91 "GradientDesk$Part" "degree" "I", .methodLink RX6 60 yX6_keep, .instanceMethod yX6_keep, .selects RX6 yX6_keep yX6_keep, .fieldLink RX6 41 "GradientDesk$Shelf" "arithmetic" "LGradientDesk$Arithmetic;", .fieldLink RX6 68 "GradientDesk$Part" "number" "LGradientDesk$Fraction;", .fieldLink RX6 30 "GradientDesk$Shelf" "work" "LGradientDesk$Fraction;", .methodLink RX6 71 yX0_add, .instanceMethod yX0_add, .selects RX0 yX0_add yX0_add, .initialized RX0, .methodLink RX6 54 yX0_reduce, .instanceMethod yX0_reduce, .selects RX0 yX0_reduce yX0_reduce, .methodLink RX6 50 yX6_keepNumber, .instanceMethod yX6_keepNumber, .selects RX6 yX6_keepNumber yX6_keepNumber] : List Cond) ++ (u_ws RX6 TX6 7 ++ (u_ws RX3 TX3 7 ++ (wd_V6_isZero ++ (wd_V6_keep ++ (wd_V0_add ++ (wd_V0_reduce ++ (wd_V6_keepNumber ++ ([])))))))))
theorem gw_V6_makeSum : wd_V6_makeSum.all goodWord = true := k_allc rfl (k_all (by decide +kernel) (k_all (gu_X6) (k_all (gu_X3) (k_all (gw_V6_isZero) (k_all (gw_V6_keep) (k_all (gw_V0_add) (k_all (gw_V0_reduce) (k_all (gw_V6_keepNumber) (rfl)))))))))
set_option maxHeartbeats 4000000 in
set_option maxRecDepth 100000 in
theorem c_V6_makeSum (l : Launch) (dC : Nat → ClassId) (dI : Nat → Nat → Nat) (A : Nat → Prop) (ad : Nat → Nat) (cA : Nat → ClassId) (g : Nat → va_E) (L : List PD) (x1 : Nat) (y1 : Nat) (hC : CS ad cA g L) (hWf : WFL L) (ix : x1 < L.length) (iy : y1 < L.length) : Met l yX6_makeSum wd_V6_makeSum ({ frames := 50, cells := 0, slots := 0, locals := 1000 }) (va_Pc [.ref (ad 2080), .int (nI x1), .int (nI y1)] (PR NSc tyc dC dI A ad cA g)) (va_Qi (fun (r : Int32) => fun (u : Nat → va_E) => match u with | g2 => (∀ k, (14 ≤ k ∧ k < 76) ∨ (876 ≤ k ∧ k < 2080) ∨ (2081 ≤ k ∧ k < 2117) → g2 k = g k) ∧ CMK ad cA g2 (sumL L x1 y1) r) (fun (u : Nat → va_E) (t : State) => va_P (dC, dI) vwCl (wo ad NSc u) t.heap) A) (0) (0) A := by
  refine Met.ofW (cc := cX6_makeSum) (maxL := 6) (ret := (some .int)) (by decide) rfl ?_
  intro p e s m args below meth c s₁ B hml hv
  obtain ⟨rfl, hA, hP, hL⟩ := hv
  have hx := B.exec
  have hb := B.bytes
  have hr := B.returns
  have hts := atoms_spec (ws := wd_V6_makeSum) B.pre
  have hown : s.vm.findClass RX6 = some m.cls := findClass_of_methodNamed B.named
  have hlocks := B.notSynchronized
  have hK := hL.1
  have hD : ∀ g, va_D A (wo ad NSc g) := fun g => wo_D hL.2.1 hL.2.2 g
  have hS : va_S A s.heap s.heap [] := va_S.rf
  have bk0 : ∀ w ∈ u_ws RX6 TX6 7, w ∈ wd_V6_makeSum := fun _ h => List.mem_cons_of_mem _ (List.mem_append_right _ (List.mem_append_left _ h))
  have bk1 : ∀ w ∈ u_ws RX3 TX3 7, w ∈ wd_V6_makeSum := fun _ h => List.mem_cons_of_mem _ (List.mem_append_right _ (List.mem_append_right _ (List.mem_append_left _ h)))
  have bk2 : ∀ w ∈ wd_V6_isZero, w ∈ wd_V6_makeSum := fun _ h => List.mem_cons_of_mem _ (List.mem_append_right _ (List.mem_append_right _ (List.mem_append_right _ (List.mem_append_left _ h))))
  have bk3 : ∀ w ∈ wd_V6_keep, w ∈ wd_V6_makeSum := fun _ h => List.mem_cons_of_mem _ (List.mem_append_right _ (List.mem_append_right _ (List.mem_append_right _ (List.mem_append_right _ (List.mem_append_left _ h)))))
  have bk4 : ∀ w ∈ wd_V0_add, w ∈ wd_V6_makeSum := fun _ h => List.mem_cons_of_mem _ (List.mem_append_right _ (List.mem_append_right _ (List.mem_append_right _ (List.mem_append_right _ (List.mem_append_right _ (List.mem_append_left _ h))))))
  have bk5 : ∀ w ∈ wd_V0_reduce, w ∈ wd_V6_makeSum := fun _ h => List.mem_cons_of_mem _ (List.mem_append_right _ (List.mem_append_right _ (List.mem_append_right _ (List.mem_append_right _ (List.mem_append_right _ (List.mem_append_right _ (List.mem_append_left _ h)))))))
  have bk6 : ∀ w ∈ wd_V6_keepNumber, w ∈ wd_V6_makeSum := fun _ h => List.mem_cons_of_mem _ (List.mem_append_right _ (List.mem_append_right _ (List.mem_append_right _ (List.mem_append_right _ (List.mem_append_right _ (List.mem_append_right _ (List.mem_append_right _ (List.mem_append_left _ h))))))))
  have hl := lv_entry ([.ref (ad 2080), .int (nI x1), .int (nI y1)]) (n := 6) (Nat.le_of_ble_eq_true rfl)
  rw [lg_entry_eq]
  generalize (lg_sl ([.ref (ad 2080), .int (nI x1), .int (nI y1)]) ++ List.replicate (6 - (lg_sl ([.ref (ad 2080), .int (nI x1), .int (nI y1)])).length) Slot.unset).toArray = ls at hl ⊢
  have hl : lv_has ls 6 [(0, .ref (ad 2080)), (1, .int (nI x1)), (2, .int (nI y1))] := hl
  have hC0 := hC
  obtain ⟨hLn, hW, ⟨hAr, hWk, hPa, hFr⟩, hO, pt, hPt, hM⟩ := hC0
  unfold CSO at hO
  have hpb := hPt.2
  obtain ⟨a0x1, a1x1, a2x1, a3x1, a4x1, a5x1, a6x1⟩ := hM x1 ix
  obtain ⟨w1x1, w2x1, w3x1, w4x1, w5x1, -⟩ := hWf x1 ix
  have hpx1 : g (2117 + 2 * x1) = .inr (6, [.ref (ad (2118 + 2 * x1)), .int (nI ((gd L x1).1)), .int (iI ((gd L x1).2.1)), .int (iI ((gd L x1).2.2.1)), .int (nI ((gd L x1).2.2.2.1)), .int (nI ((gd L x1).2.2.2.2.1)), .int (nI ((gd L x1).2.2.2.2.2.1))]) := by rw [hPt.1 x1 (by clear a6x1; omega), a0x1, a1x1, a2x1, a3x1, a4x1, a5x1, nI_iI, nI_iI, nI_iI, nI_iI]
  obtain ⟨fnx1, hfnx1⟩ : ∃ z : Prop, z = ((gd L x1).1 = 0 → CMN ad cA g (gd L x1) x1) := ⟨_, rfl⟩
  rw [← hfnx1] at a6x1
  obtain ⟨a0y1, a1y1, a2y1, a3y1, a4y1, a5y1, a6y1⟩ := hM y1 iy
  obtain ⟨w1y1, w2y1, w3y1, w4y1, w5y1, -⟩ := hWf y1 iy
  have hpy1 : g (2117 + 2 * y1) = .inr (6, [.ref (ad (2118 + 2 * y1)), .int (nI ((gd L y1).1)), .int (iI ((gd L y1).2.1)), .int (iI ((gd L y1).2.2.1)), .int (nI ((gd L y1).2.2.2.1)), .int (nI ((gd L y1).2.2.2.2.1)), .int (nI ((gd L y1).2.2.2.2.2.1))]) := by rw [hPt.1 y1 (by clear a6y1; omega), a0y1, a1y1, a2y1, a3y1, a4y1, a5y1, nI_iI, nI_iI, nI_iI, nI_iI]
  obtain ⟨fny1, hfny1⟩ : ∃ z : Prop, z = ((gd L y1).1 = 0 → CMN ad cA g (gd L y1) y1) := ⟨_, rfl⟩
  rw [← hfny1] at a6y1
  refine lv_iload_n hx hb dX6_makeSum_0 rfl (lv_at hl 1 rfl) ?_
  refine lv_if_lt (tgt := 8) hx hb dX6_makeSum_1 (by decide) (fun c_1 => absurd ((nI_ltI (a := x1) (b := 0) (by omega) (by decide)).mp c_1) (by omega)) (fun c_1 => ?_)
  refine lv_iload_n hx hb dX6_makeSum_4 rfl (lv_at hl 2 rfl) ?_
  refine lv_if_ge (tgt := 18) hx hb dX6_makeSum_5 (by decide) (fun c_2 => ?_) (fun c_2 => absurd (mt (nI_leI (a := 0) (b := y1) (by decide) (by omega)).mpr c_2) (by omega))
  refine lv_aload_n hx hb dX6_makeSum_18 rfl (lv_at hl 0 rfl) ?_
  refine m_get (D := (dC, dI)) (v := .ref (ad 2081)) (C := RX6) (T := TX6) (N := 7) hx hb hts bk0 hown hK hP 2080 (by decide) hO rfl 0 (by decide) (hts (.fieldLink RX6 11 "GradientDesk$Shelf" "parts" "[LGradientDesk$Part;") (List.mem_of_getElem? (i := 1) rfl)) (fun _ h9 => h9) rfl dX6_makeSum_19 ?_
  refine lv_iload_n hx hb dX6_makeSum_22 rfl (lv_at hl 1 rfl) ?_
  refine m_aald hx hb hK hP 2081 (by decide) rfl hPa (i := x1) (v := ad (2117 + 2 * x1)) (by omega) (by decide) rfl dX6_makeSum_23 ?_
  refine lv_astore_n (lv' := [(3, .ref (ad (2117 + 2 * x1))), (0, .ref (ad 2080)), (1, .int (nI x1)), (2, .int (nI y1))]) hx hb dX6_makeSum_24 rfl hl (by decide) rfl (fun ls hl => ?_)
  refine lv_aload_n hx hb dX6_makeSum_25 rfl (lv_at hl 1 rfl) ?_
  refine m_get (D := (dC, dI)) (v := .ref (ad 2081)) (C := RX6) (T := TX6) (N := 7) hx hb hts bk0 hown hK hP 2080 (by decide) hO rfl 0 (by decide) (hts (.fieldLink RX6 11 "GradientDesk$Shelf" "parts" "[LGradientDesk$Part;") (List.mem_of_getElem? (i := 1) rfl)) (fun _ h9 => h9) rfl dX6_makeSum_26 ?_
  refine lv_iload_n hx hb dX6_makeSum_29 rfl (lv_at hl 3 rfl) ?_
  refine m_aald hx hb hK hP 2081 (by decide) rfl hPa (i := y1) (v := ad (2117 + 2 * y1)) (by omega) (by decide) rfl dX6_makeSum_30 ?_
  refine lv_astore (lv' := [(4, .ref (ad (2117 + 2 * y1))), (3, .ref (ad (2117 + 2 * x1))), (0, .ref (ad 2080)), (1, .int (nI x1)), (2, .int (nI y1))]) hx hb dX6_makeSum_31 hl (by decide) rfl (fun ls hl => ?_)
  refine lv_aload_n hx hb dX6_makeSum_33 rfl (lv_at hl 1 rfl) ?_
  refine m_get (D := (dC, dI)) (v := .int (nI ((gd L x1).1))) (C := RX3) (T := TX3) (N := 7) hx hb hts bk1 hown hK hP (2117 + 2 * x1) (ns_p (by omega)) hpx1 rfl 1 (by decide) (hts (.fieldLink RX6 64 "GradientDesk$Part" "sort" "I") (List.mem_of_getElem? (i := 2) rfl)) (fun _ h9 => h9) rfl dX6_makeSum_34 ?_
  refine lv_if_ne (tgt := 85) hx hb dX6_makeSum_37 (by decide) (fun c_3 => ?_) (fun c_3 => ?_)
  · have c_3 := mt (nI_eq (a := ((gd L x1).1)) (b := 0) (by omega) (by decide)).mpr c_3
    refine lv_aload_n hx hb dX6_makeSum_85 rfl (lv_at hl 1 rfl) ?_
    refine va_calli (va_runS (As := [.ref (ad (2117 + 2 * x1))]) (rest := []) ⟨hx, hb, hml, hown, hts⟩ (c_V6_isZero l dC dI A ad cA g L x1 hC hWf ix) (va_cwS 1 hts (goodIn_app (goodIn_r [Cond.methodLink RX6 75 yX6_isZero, Cond.static yX6_isZero, Cond.initialized RX6] [3, 4, 5] rfl rfl) (goodIn_sub (fun w9 h9 => bk2 w9 h9) gw_V6_isZero)) rfl rfl rfl (by decide +kernel) ⟨Nat.le_of_ble_eq_true rfl, Nat.le_of_ble_eq_true rfl⟩) ⟨fun a U g mk q => ⟨q.1, q.2.1, q.2.2.1, LY.moved (u := U) (U := U.calling g mk a) (Vm.Alike.refl U.vm) q.2.2.2⟩, fun U hU hW => ⟨rfl, by rw [hU]; exact fun q h => hA q (Nat.le_trans hS.1 h), by rw [hU]; exact hP, LY.moved hW.alike hL⟩⟩ rfl rfl hl.1 rfl (lv_room (Nat.le_of_ble_eq_true rfl)) dX6_makeSum_86 ⟨(Nat.le_of_ble_eq_true rfl), (Nat.le_of_ble_eq_true rfl)⟩) hS (fun q _ h => h) (fun q h => h) (fun r_4 u8 t8 H1 locs ht8 hvm8 hw_5 hB hz1 hk1 hS => ?_)
    obtain ⟨⟩ := u8
    try dsimp only at hw_5 hB
    rw [ht8] at hB
    have hP := hB
    generalize H1 = H at hP hS ⊢
    rcases hw_5 with ⟨rfl, hx0⟩ | ⟨rfl, hx0⟩
    · skip
      refine lv_if_eq (tgt := 94) hx hb dX6_makeSum_89 (by decide) (fun c_6 => absurd c_6 (by decide)) (fun c_6 => ?_)
      refine lv_iload_n hx hb dX6_makeSum_92 rfl (lv_at hl 4 rfl) ?_
      refine W.widen (k := 0) (n := 0) (by omega) (by omega) ?_
      exact W.iret (v := nI y1) hx hb hr (fun t9 ht9 hW9 => ⟨⟨nI y1, g, rfl, ⟨(fun (k : Nat) (hk : (14 ≤ k ∧ k < 76) ∨ (876 ≤ k ∧ k < 2080) ∨ (2081 ≤ k ∧ k < 2117)) => rfl), CMK.old (i := y1) (by unfold sumL; rw [if_neg (show ¬ ((gd L x1).1 = 0 ∧ (gd L y1).1 = 0) from by omega), if_pos hx0]) iy hC⟩, by show va_P (dC, dI) vwCl _ t9.heap; rw [ht9]; exact hP⟩, hS.F ht9⟩) hS.2.2 dX6_makeSum_93
    · skip
      refine lv_if_eq (tgt := 94) hx hb dX6_makeSum_89 (by decide) (fun c_7 => ?_) (fun c_7 => absurd c_7 (by decide))
      refine lv_aload hx hb dX6_makeSum_94 (lv_at hl 0 rfl) ?_
      refine va_calli (va_runS (As := [.ref (ad (2117 + 2 * y1))]) (rest := []) ⟨hx, hb, hml, hown, hts⟩ (c_V6_isZero l dC dI A ad cA g L y1 hC hWf iy) (va_cwS 1 hts (goodIn_app (goodIn_r [Cond.methodLink RX6 75 yX6_isZero, Cond.static yX6_isZero, Cond.initialized RX6] [3, 4, 5] rfl rfl) (goodIn_sub (fun w9 h9 => bk2 w9 h9) gw_V6_isZero)) rfl rfl rfl (by decide +kernel) ⟨Nat.le_of_ble_eq_true rfl, Nat.le_of_ble_eq_true rfl⟩) ⟨fun a U g mk q => ⟨q.1, q.2.1, q.2.2.1, LY.moved (u := U) (U := U.calling g mk a) (Vm.Alike.refl U.vm) q.2.2.2⟩, fun U hU hW => ⟨rfl, by rw [hU]; exact fun q h => hA q (Nat.le_trans hS.1 h), by rw [hU]; exact hP, LY.moved hW.alike hL⟩⟩ rfl rfl hl.1 rfl (lv_room (Nat.le_of_ble_eq_true rfl)) dX6_makeSum_96 ⟨(Nat.le_of_ble_eq_true rfl), (Nat.le_of_ble_eq_true rfl)⟩) hS (fun q _ h => h) (fun q h => h) (fun r_8 u8 t8 H1 locs ht8 hvm8 hw_9 hB hz1 hk1 hS => ?_)
      obtain ⟨⟩ := u8
      try dsimp only at hw_9 hB
      rw [ht8] at hB
      have hP := hB
      generalize H1 = H at hP hS ⊢
      rcases hw_9 with ⟨rfl, hy0⟩ | ⟨rfl, hy0⟩
      · skip
        refine lv_if_eq (tgt := 104) hx hb dX6_makeSum_99 (by decide) (fun c_10 => absurd c_10 (by decide)) (fun c_10 => ?_)
        refine lv_iload_n hx hb dX6_makeSum_102 rfl (lv_at hl 3 rfl) ?_
        refine W.widen (k := 0) (n := 0) (by omega) (by omega) ?_
        exact W.iret (v := nI x1) hx hb hr (fun t9 ht9 hW9 => ⟨⟨nI x1, g, rfl, ⟨(fun (k : Nat) (hk : (14 ≤ k ∧ k < 76) ∨ (876 ≤ k ∧ k < 2080) ∨ (2081 ≤ k ∧ k < 2117)) => rfl), CMK.old (i := x1) (by unfold sumL; rw [if_neg (show ¬ ((gd L x1).1 = 0 ∧ (gd L y1).1 = 0) from by omega), if_neg (by rw [hx0]; decide), if_pos hy0]) ix hC⟩, by show va_P (dC, dI) vwCl _ t9.heap; rw [ht9]; exact hP⟩, hS.F ht9⟩) hS.2.2 dX6_makeSum_103
      · skip
        refine lv_if_eq (tgt := 104) hx hb dX6_makeSum_99 (by decide) (fun c_11 => ?_) (fun c_11 => absurd c_11 (by decide))
        refine lv_iconst (v := nI 1) hx hb dX6_makeSum_104 (by decide +kernel) ?_
        refine lv_aload_n hx hb dX6_makeSum_105 rfl (lv_at hl 1 rfl) ?_
        refine m_get (D := (dC, dI)) (v := .int (nI ((gd L x1).2.2.2.2.1))) (C := RX3) (T := TX3) (N := 7) hx hb hts bk1 hown hK hP (2117 + 2 * x1) (ns_p (by omega)) hpx1 rfl 5 (by decide) (hts (.fieldLink RX6 79 "GradientDesk$Part" "sizeN" "I") (List.mem_of_getElem? (i := 6) rfl)) (fun _ h9 => h9) rfl dX6_makeSum_106 ?_
        refine lv_aload hx hb dX6_makeSum_109 (lv_at hl 0 rfl) ?_
        refine m_get (D := (dC, dI)) (v := .int (nI ((gd L y1).2.2.2.2.2.1))) (C := RX3) (T := TX3) (N := 7) hx hb hts bk1 hown hK hP (2117 + 2 * y1) (ns_p (by omega)) hpy1 rfl 6 (by decide) (hts (.fieldLink RX6 82 "GradientDesk$Part" "sizeD" "I") (List.mem_of_getElem? (i := 7) rfl)) (fun _ h9 => h9) rfl dX6_makeSum_111 ?_
        refine lv_iadd hx hb dX6_makeSum_114 ?_
        refine lv_topi (fun x_12 e_13 => ?_)
        obtain rfl : x_12 = nI ((gd L x1).2.2.2.2.1 + ((gd L y1).2.2.2.2.2.1)) := e_13.trans (nI_add ((gd L x1).2.2.2.2.1) ((gd L y1).2.2.2.2.2.1))
        refine lv_aload hx hb dX6_makeSum_115 (lv_at hl 0 rfl) ?_
        refine m_get (D := (dC, dI)) (v := .int (nI ((gd L y1).2.2.2.2.1))) (C := RX3) (T := TX3) (N := 7) hx hb hts bk1 hown hK hP (2117 + 2 * y1) (ns_p (by omega)) hpy1 rfl 5 (by decide) (hts (.fieldLink RX6 79 "GradientDesk$Part" "sizeN" "I") (List.mem_of_getElem? (i := 6) rfl)) (fun _ h9 => h9) rfl dX6_makeSum_117 ?_
        refine lv_aload_n hx hb dX6_makeSum_120 rfl (lv_at hl 1 rfl) ?_
        refine m_get (D := (dC, dI)) (v := .int (nI ((gd L x1).2.2.2.2.2.1))) (C := RX3) (T := TX3) (N := 7) hx hb hts bk1 hown hK hP (2117 + 2 * x1) (ns_p (by omega)) hpx1 rfl 6 (by decide) (hts (.fieldLink RX6 82 "GradientDesk$Part" "sizeD" "I") (List.mem_of_getElem? (i := 7) rfl)) (fun _ h9 => h9) rfl dX6_makeSum_121 ?_
        refine lv_iadd hx hb dX6_makeSum_124 ?_
        refine lv_topi (fun x_14 e_15 => ?_)
        obtain rfl : x_14 = nI ((gd L y1).2.2.2.2.1 + ((gd L x1).2.2.2.2.2.1)) := e_15.trans (nI_add ((gd L y1).2.2.2.2.1) ((gd L x1).2.2.2.2.2.1))
        refine va_mmax hx hb (by rw [hml]; exact hl.1.symm) hown (hts (.methodLink RX6 85 Lib.Math.max.name) (List.mem_of_getElem? (i := 8) rfl)) (hts (.static Lib.Math.max.name) (List.mem_of_getElem? (i := 9) rfl)) (hts (.initialized "java/lang/Math") (List.mem_of_getElem? (i := 10) rfl)) (hts (.code Lib.Math.max.name Lib.Math.max.code 2 (some .int)) (List.mem_of_getElem? (i := 11) rfl)) (Nat.le_of_ble_eq_true rfl) (Nat.le_of_ble_eq_true rfl) (Nat.le_of_ble_eq_true rfl) (Nat.le_of_ble_eq_true rfl) dX6_makeSum_125 ?_
        refine lv_topi (fun x_17 e_18 => ?_)
        obtain ⟨q_16, hq_16, eq_16⟩ : ∃ z : Nat, z = max ((gd L x1).2.2.2.2.1 + ((gd L y1).2.2.2.2.2.1)) ((gd L y1).2.2.2.2.1 + ((gd L x1).2.2.2.2.2.1)) ∧ x_17 = nI z := ⟨_, rfl, by rw [e_18]; exact k_max (by omega) (by omega)⟩
        subst eq_16
        refine lv_iadd hx hb dX6_makeSum_128 ?_
        refine lv_topi (fun x_19 e_20 => ?_)
        obtain rfl : x_19 = nI (1 + q_16) := e_20.trans (nI_add 1 q_16)
        refine lv_istore (lv' := [(5, .int (nI (1 + q_16))), (4, .ref (ad (2117 + 2 * y1))), (3, .ref (ad (2117 + 2 * x1))), (0, .ref (ad 2080)), (1, .int (nI x1)), (2, .int (nI y1))]) hx hb dX6_makeSum_129 hl (by decide) rfl (fun ls hl => ?_)
        refine lv_aload_n hx hb dX6_makeSum_131 rfl (lv_at hl 3 rfl) ?_
        refine lv_iconst (v := nI 2) hx hb dX6_makeSum_132 (by decide +kernel) ?_
        refine lv_iload_n hx hb dX6_makeSum_133 rfl (lv_at hl 4 rfl) ?_
        refine lv_iload_n hx hb dX6_makeSum_134 rfl (lv_at hl 5 rfl) ?_
        refine lv_aload_n hx hb dX6_makeSum_135 rfl (lv_at hl 2 rfl) ?_
        refine m_get (D := (dC, dI)) (v := .int (nI ((gd L x1).2.2.2.1))) (C := RX3) (T := TX3) (N := 7) hx hb hts bk1 hown hK hP (2117 + 2 * x1) (ns_p (by omega)) hpx1 rfl 4 (by decide) (hts (.fieldLink RX6 91 "GradientDesk$Part" "degree" "I") (List.mem_of_getElem? (i := 12) rfl)) (fun _ h9 => h9) rfl dX6_makeSum_136 ?_
        refine lv_aload hx hb dX6_makeSum_139 (lv_at hl 1 rfl) ?_
        refine m_get (D := (dC, dI)) (v := .int (nI ((gd L y1).2.2.2.1))) (C := RX3) (T := TX3) (N := 7) hx hb hts bk1 hown hK hP (2117 + 2 * y1) (ns_p (by omega)) hpy1 rfl 4 (by decide) (hts (.fieldLink RX6 91 "GradientDesk$Part" "degree" "I") (List.mem_of_getElem? (i := 12) rfl)) (fun _ h9 => h9) rfl dX6_makeSum_141 ?_
        refine va_mmax hx hb (by rw [hml]; exact hl.1.symm) hown (hts (.methodLink RX6 85 Lib.Math.max.name) (List.mem_of_getElem? (i := 8) rfl)) (hts (.static Lib.Math.max.name) (List.mem_of_getElem? (i := 9) rfl)) (hts (.initialized "java/lang/Math") (List.mem_of_getElem? (i := 10) rfl)) (hts (.code Lib.Math.max.name Lib.Math.max.code 2 (some .int)) (List.mem_of_getElem? (i := 11) rfl)) (Nat.le_of_ble_eq_true rfl) (Nat.le_of_ble_eq_true rfl) (Nat.le_of_ble_eq_true rfl) (Nat.le_of_ble_eq_true rfl) dX6_makeSum_144 ?_
        refine lv_topi (fun x_22 e_23 => ?_)
        obtain ⟨q_21, hq_21, eq_21⟩ : ∃ z : Nat, z = max ((gd L x1).2.2.2.1) ((gd L y1).2.2.2.1) ∧ x_22 = nI z := ⟨_, rfl, by rw [e_23]; exact k_max (by omega) (by omega)⟩
        subst eq_21
        refine lv_iload hx hb dX6_makeSum_147 (lv_at hl 0 rfl) ?_
        refine lv_aload_n hx hb dX6_makeSum_149 rfl (lv_at hl 2 rfl) ?_
        refine m_get (D := (dC, dI)) (v := .int (nI ((gd L x1).2.2.2.2.2.1))) (C := RX3) (T := TX3) (N := 7) hx hb hts bk1 hown hK hP (2117 + 2 * x1) (ns_p (by omega)) hpx1 rfl 6 (by decide) (hts (.fieldLink RX6 82 "GradientDesk$Part" "sizeD" "I") (List.mem_of_getElem? (i := 7) rfl)) (fun _ h9 => h9) rfl dX6_makeSum_150 ?_
        refine lv_aload hx hb dX6_makeSum_153 (lv_at hl 1 rfl) ?_
        refine m_get (D := (dC, dI)) (v := .int (nI ((gd L y1).2.2.2.2.2.1))) (C := RX3) (T := TX3) (N := 7) hx hb hts bk1 hown hK hP (2117 + 2 * y1) (ns_p (by omega)) hpy1 rfl 6 (by decide) (hts (.fieldLink RX6 82 "GradientDesk$Part" "sizeD" "I") (List.mem_of_getElem? (i := 7) rfl)) (fun _ h9 => h9) rfl dX6_makeSum_155 ?_
        refine lv_iadd hx hb dX6_makeSum_158 ?_
        refine lv_topi (fun x_24 e_25 => ?_)
        obtain rfl : x_24 = nI ((gd L x1).2.2.2.2.2.1 + ((gd L y1).2.2.2.2.2.1)) := e_25.trans (nI_add ((gd L x1).2.2.2.2.2.1) ((gd L y1).2.2.2.2.2.1))
        refine va_calli (va_runV (As := [.int (nI 2), .int (nI x1), .int (nI y1), .int (nI q_21), .int (nI (1 + q_16)), .int (nI ((gd L x1).2.2.2.2.2.1 + ((gd L y1).2.2.2.2.2.1)))]) (rest := []) ⟨hx, hb, hml, hown, hts⟩ (c_V6_keep l dC dI A ad cA g L (2, ((x1 : Nat) : Int), ((y1 : Nat) : Int), max (gd L x1).2.2.2.1 (gd L y1).2.2.2.1, 1 + max ((gd L x1).2.2.2.2.1 + (gd L y1).2.2.2.2.2.1) ((gd L y1).2.2.2.2.1 + (gd L x1).2.2.2.2.2.1), (gd L x1).2.2.2.2.2.1 + (gd L y1).2.2.2.2.2.1, 0, 1) (nI 2) (nI x1) (nI y1) (nI q_21) (nI (1 + q_16)) (nI ((gd L x1).2.2.2.2.2.1 + ((gd L y1).2.2.2.2.2.1))) hC ((show nI 2 = iI 2 from by decide).trans (congrArg iI (by rfl))) ((nI_iI x1).trans (congrArg iI (by rfl))) ((nI_iI y1).trans (congrArg iI (by rfl))) ((nI_iI q_21).trans (congrArg iI (by exact congrArg (fun z : Nat => ((z : Nat) : Int)) hq_21))) ((nI_iI (1 + q_16)).trans (congrArg iI (by exact congrArg (fun z : Nat => ((1 + z : Nat) : Int)) hq_16))) ((nI_iI ((gd L x1).2.2.2.2.2.1 + ((gd L y1).2.2.2.2.2.1))).trans (congrArg iI (by rfl))) (by show 2 ≤ 20000 ∧ -1 ≤ ((x1 : Nat) : Int) ∧ ((x1 : Nat) : Int) ≤ 20000 ∧ -1 ≤ ((y1 : Nat) : Int) ∧ ((y1 : Nat) : Int) ≤ 20000 ∧ max (gd L x1).2.2.2.1 (gd L y1).2.2.2.1 ≤ 20000 ∧ 1 + max ((gd L x1).2.2.2.2.1 + (gd L y1).2.2.2.2.2.1) ((gd L y1).2.2.2.2.1 + (gd L x1).2.2.2.2.2.1) ≤ 20000 ∧ (gd L x1).2.2.2.2.2.1 + (gd L y1).2.2.2.2.2.1 ≤ 20000; omega) (show (2 : Nat) ≠ 0 from by decide)) (cwV 6 hts (goodIn_app (goodIn_r [Cond.methodLink RX6 60 yX6_keep, Cond.instanceMethod yX6_keep, Cond.selects RX6 yX6_keep yX6_keep, Cond.initialized RX6] [13, 14, 15, 5] rfl rfl) (goodIn_sub (fun w9 h9 => bk3 w9 h9) gw_V6_keep)) rfl rfl rfl (by decide +kernel) ⟨Nat.le_of_ble_eq_true rfl, Nat.le_of_ble_eq_true rfl⟩) ⟨fun a U g mk q => ⟨q.1, q.2.1, q.2.2.1, LY.moved (u := U) (U := U.calling g mk a) (Vm.Alike.refl U.vm) q.2.2.2⟩, va_recv hK hP (ci := 9) (q0 := 2080) rfl (wo_at (by decide) hO), fun U hU hW => ⟨rfl, by rw [hU]; exact fun q h => hA q (Nat.le_trans hS.1 h), by rw [hU]; exact hP, LY.moved hW.alike hL⟩⟩ rfl rfl hl.1 rfl (lv_room (Nat.le_of_ble_eq_true rfl)) dX6_makeSum_159 ⟨(Nat.le_of_ble_eq_true rfl), (Nat.le_of_ble_eq_true rfl)⟩) hS (fun q _ h => h) (fun q h => h) (fun r_26 u8 t8 H1 locs ht8 hvm8 hw_27 hB hz1 hk1 hS => ?_)
        obtain ⟨g_28, rfl⟩ : ∃ z, z = u8 := ⟨_, rfl⟩
        try dsimp only at hw_27 hB
        rw [ht8] at hB
        have hP := hB
        generalize H1 = H at hP hS ⊢
        obtain ⟨fr_29, hK⟩ := hw_27
        refine W.widen (k := 0) (n := 0) (by omega) (by omega) ?_
        exact W.iret (v := r_26) hx hb hr (fun t9 ht9 hW9 => ⟨⟨r_26, g_28, rfl, ⟨(fun (k : Nat) (hk : (14 ≤ k ∧ k < 76) ∨ (876 ≤ k ∧ k < 2080) ∨ (2081 ≤ k ∧ k < 2117)) => (fr_29 k (by omega)).trans (rfl)), by unfold sumL; rw [if_neg (show ¬ ((gd L x1).1 = 0 ∧ (gd L y1).1 = 0) from by omega), if_neg (by rw [hx0]; decide), if_neg (by rw [hy0]; decide)]; exact hK⟩, by show va_P (dC, dI) vwCl _ t9.heap; rw [ht9]; exact hP⟩, hS.F ht9⟩) hS.2.2 dX6_makeSum_162
  · have c_3 := (nI_eq (a := ((gd L x1).1)) (b := 0) (by omega) (by decide)).mp c_3
    refine lv_aload hx hb dX6_makeSum_40 (lv_at hl 0 rfl) ?_
    refine m_get (D := (dC, dI)) (v := .int (nI ((gd L y1).1))) (C := RX3) (T := TX3) (N := 7) hx hb hts bk1 hown hK hP (2117 + 2 * y1) (ns_p (by omega)) hpy1 rfl 1 (by decide) (hts (.fieldLink RX6 64 "GradientDesk$Part" "sort" "I") (List.mem_of_getElem? (i := 2) rfl)) (fun _ h9 => h9) rfl dX6_makeSum_42 ?_
    refine lv_if_ne (tgt := 85) hx hb dX6_makeSum_45 (by decide) (fun c_30 => ?_) (fun c_30 => ?_)
    · have c_30 := mt (nI_eq (a := ((gd L y1).1)) (b := 0) (by omega) (by decide)).mpr c_30
      refine lv_aload_n hx hb dX6_makeSum_85 rfl (lv_at hl 1 rfl) ?_
      refine va_calli (va_runS (As := [.ref (ad (2117 + 2 * x1))]) (rest := []) ⟨hx, hb, hml, hown, hts⟩ (c_V6_isZero l dC dI A ad cA g L x1 hC hWf ix) (va_cwS 1 hts (goodIn_app (goodIn_r [Cond.methodLink RX6 75 yX6_isZero, Cond.static yX6_isZero, Cond.initialized RX6] [3, 4, 5] rfl rfl) (goodIn_sub (fun w9 h9 => bk2 w9 h9) gw_V6_isZero)) rfl rfl rfl (by decide +kernel) ⟨Nat.le_of_ble_eq_true rfl, Nat.le_of_ble_eq_true rfl⟩) ⟨fun a U g mk q => ⟨q.1, q.2.1, q.2.2.1, LY.moved (u := U) (U := U.calling g mk a) (Vm.Alike.refl U.vm) q.2.2.2⟩, fun U hU hW => ⟨rfl, by rw [hU]; exact fun q h => hA q (Nat.le_trans hS.1 h), by rw [hU]; exact hP, LY.moved hW.alike hL⟩⟩ rfl rfl hl.1 rfl (lv_room (Nat.le_of_ble_eq_true rfl)) dX6_makeSum_86 ⟨(Nat.le_of_ble_eq_true rfl), (Nat.le_of_ble_eq_true rfl)⟩) hS (fun q _ h => h) (fun q h => h) (fun r_31 u8 t8 H1 locs ht8 hvm8 hw_32 hB hz1 hk1 hS => ?_)
      obtain ⟨⟩ := u8
      try dsimp only at hw_32 hB
      rw [ht8] at hB
      have hP := hB
      generalize H1 = H at hP hS ⊢
      rcases hw_32 with ⟨rfl, hx0⟩ | ⟨rfl, hx0⟩
      · skip
        refine lv_if_eq (tgt := 94) hx hb dX6_makeSum_89 (by decide) (fun c_33 => absurd c_33 (by decide)) (fun c_33 => ?_)
        refine lv_iload_n hx hb dX6_makeSum_92 rfl (lv_at hl 4 rfl) ?_
        refine W.widen (k := 0) (n := 0) (by omega) (by omega) ?_
        exact W.iret (v := nI y1) hx hb hr (fun t9 ht9 hW9 => ⟨⟨nI y1, g, rfl, ⟨(fun (k : Nat) (hk : (14 ≤ k ∧ k < 76) ∨ (876 ≤ k ∧ k < 2080) ∨ (2081 ≤ k ∧ k < 2117)) => rfl), CMK.old (i := y1) (by unfold sumL; rw [if_neg (show ¬ ((gd L x1).1 = 0 ∧ (gd L y1).1 = 0) from by omega), if_pos hx0]) iy hC⟩, by show va_P (dC, dI) vwCl _ t9.heap; rw [ht9]; exact hP⟩, hS.F ht9⟩) hS.2.2 dX6_makeSum_93
      · skip
        refine lv_if_eq (tgt := 94) hx hb dX6_makeSum_89 (by decide) (fun c_34 => ?_) (fun c_34 => absurd c_34 (by decide))
        refine lv_aload hx hb dX6_makeSum_94 (lv_at hl 0 rfl) ?_
        refine va_calli (va_runS (As := [.ref (ad (2117 + 2 * y1))]) (rest := []) ⟨hx, hb, hml, hown, hts⟩ (c_V6_isZero l dC dI A ad cA g L y1 hC hWf iy) (va_cwS 1 hts (goodIn_app (goodIn_r [Cond.methodLink RX6 75 yX6_isZero, Cond.static yX6_isZero, Cond.initialized RX6] [3, 4, 5] rfl rfl) (goodIn_sub (fun w9 h9 => bk2 w9 h9) gw_V6_isZero)) rfl rfl rfl (by decide +kernel) ⟨Nat.le_of_ble_eq_true rfl, Nat.le_of_ble_eq_true rfl⟩) ⟨fun a U g mk q => ⟨q.1, q.2.1, q.2.2.1, LY.moved (u := U) (U := U.calling g mk a) (Vm.Alike.refl U.vm) q.2.2.2⟩, fun U hU hW => ⟨rfl, by rw [hU]; exact fun q h => hA q (Nat.le_trans hS.1 h), by rw [hU]; exact hP, LY.moved hW.alike hL⟩⟩ rfl rfl hl.1 rfl (lv_room (Nat.le_of_ble_eq_true rfl)) dX6_makeSum_96 ⟨(Nat.le_of_ble_eq_true rfl), (Nat.le_of_ble_eq_true rfl)⟩) hS (fun q _ h => h) (fun q h => h) (fun r_35 u8 t8 H1 locs ht8 hvm8 hw_36 hB hz1 hk1 hS => ?_)
        obtain ⟨⟩ := u8
        try dsimp only at hw_36 hB
        rw [ht8] at hB
        have hP := hB
        generalize H1 = H at hP hS ⊢
        rcases hw_36 with ⟨rfl, hy0⟩ | ⟨rfl, hy0⟩
        · skip
          refine lv_if_eq (tgt := 104) hx hb dX6_makeSum_99 (by decide) (fun c_37 => absurd c_37 (by decide)) (fun c_37 => ?_)
          refine lv_iload_n hx hb dX6_makeSum_102 rfl (lv_at hl 3 rfl) ?_
          refine W.widen (k := 0) (n := 0) (by omega) (by omega) ?_
          exact W.iret (v := nI x1) hx hb hr (fun t9 ht9 hW9 => ⟨⟨nI x1, g, rfl, ⟨(fun (k : Nat) (hk : (14 ≤ k ∧ k < 76) ∨ (876 ≤ k ∧ k < 2080) ∨ (2081 ≤ k ∧ k < 2117)) => rfl), CMK.old (i := x1) (by unfold sumL; rw [if_neg (show ¬ ((gd L x1).1 = 0 ∧ (gd L y1).1 = 0) from by omega), if_neg (by rw [hx0]; decide), if_pos hy0]) ix hC⟩, by show va_P (dC, dI) vwCl _ t9.heap; rw [ht9]; exact hP⟩, hS.F ht9⟩) hS.2.2 dX6_makeSum_103
        · skip
          refine lv_if_eq (tgt := 104) hx hb dX6_makeSum_99 (by decide) (fun c_38 => ?_) (fun c_38 => absurd c_38 (by decide))
          refine lv_iconst (v := nI 1) hx hb dX6_makeSum_104 (by decide +kernel) ?_
          refine lv_aload_n hx hb dX6_makeSum_105 rfl (lv_at hl 1 rfl) ?_
          refine m_get (D := (dC, dI)) (v := .int (nI ((gd L x1).2.2.2.2.1))) (C := RX3) (T := TX3) (N := 7) hx hb hts bk1 hown hK hP (2117 + 2 * x1) (ns_p (by omega)) hpx1 rfl 5 (by decide) (hts (.fieldLink RX6 79 "GradientDesk$Part" "sizeN" "I") (List.mem_of_getElem? (i := 6) rfl)) (fun _ h9 => h9) rfl dX6_makeSum_106 ?_
          refine lv_aload hx hb dX6_makeSum_109 (lv_at hl 0 rfl) ?_
          refine m_get (D := (dC, dI)) (v := .int (nI ((gd L y1).2.2.2.2.2.1))) (C := RX3) (T := TX3) (N := 7) hx hb hts bk1 hown hK hP (2117 + 2 * y1) (ns_p (by omega)) hpy1 rfl 6 (by decide) (hts (.fieldLink RX6 82 "GradientDesk$Part" "sizeD" "I") (List.mem_of_getElem? (i := 7) rfl)) (fun _ h9 => h9) rfl dX6_makeSum_111 ?_
          refine lv_iadd hx hb dX6_makeSum_114 ?_
          refine lv_topi (fun x_39 e_40 => ?_)
          obtain rfl : x_39 = nI ((gd L x1).2.2.2.2.1 + ((gd L y1).2.2.2.2.2.1)) := e_40.trans (nI_add ((gd L x1).2.2.2.2.1) ((gd L y1).2.2.2.2.2.1))
          refine lv_aload hx hb dX6_makeSum_115 (lv_at hl 0 rfl) ?_
          refine m_get (D := (dC, dI)) (v := .int (nI ((gd L y1).2.2.2.2.1))) (C := RX3) (T := TX3) (N := 7) hx hb hts bk1 hown hK hP (2117 + 2 * y1) (ns_p (by omega)) hpy1 rfl 5 (by decide) (hts (.fieldLink RX6 79 "GradientDesk$Part" "sizeN" "I") (List.mem_of_getElem? (i := 6) rfl)) (fun _ h9 => h9) rfl dX6_makeSum_117 ?_
          refine lv_aload_n hx hb dX6_makeSum_120 rfl (lv_at hl 1 rfl) ?_
          refine m_get (D := (dC, dI)) (v := .int (nI ((gd L x1).2.2.2.2.2.1))) (C := RX3) (T := TX3) (N := 7) hx hb hts bk1 hown hK hP (2117 + 2 * x1) (ns_p (by omega)) hpx1 rfl 6 (by decide) (hts (.fieldLink RX6 82 "GradientDesk$Part" "sizeD" "I") (List.mem_of_getElem? (i := 7) rfl)) (fun _ h9 => h9) rfl dX6_makeSum_121 ?_
          refine lv_iadd hx hb dX6_makeSum_124 ?_
          refine lv_topi (fun x_41 e_42 => ?_)
          obtain rfl : x_41 = nI ((gd L y1).2.2.2.2.1 + ((gd L x1).2.2.2.2.2.1)) := e_42.trans (nI_add ((gd L y1).2.2.2.2.1) ((gd L x1).2.2.2.2.2.1))
          refine va_mmax hx hb (by rw [hml]; exact hl.1.symm) hown (hts (.methodLink RX6 85 Lib.Math.max.name) (List.mem_of_getElem? (i := 8) rfl)) (hts (.static Lib.Math.max.name) (List.mem_of_getElem? (i := 9) rfl)) (hts (.initialized "java/lang/Math") (List.mem_of_getElem? (i := 10) rfl)) (hts (.code Lib.Math.max.name Lib.Math.max.code 2 (some .int)) (List.mem_of_getElem? (i := 11) rfl)) (Nat.le_of_ble_eq_true rfl) (Nat.le_of_ble_eq_true rfl) (Nat.le_of_ble_eq_true rfl) (Nat.le_of_ble_eq_true rfl) dX6_makeSum_125 ?_
          refine lv_topi (fun x_44 e_45 => ?_)
          obtain ⟨q_43, hq_43, eq_43⟩ : ∃ z : Nat, z = max ((gd L x1).2.2.2.2.1 + ((gd L y1).2.2.2.2.2.1)) ((gd L y1).2.2.2.2.1 + ((gd L x1).2.2.2.2.2.1)) ∧ x_44 = nI z := ⟨_, rfl, by rw [e_45]; exact k_max (by omega) (by omega)⟩
          subst eq_43
          refine lv_iadd hx hb dX6_makeSum_128 ?_
          refine lv_topi (fun x_46 e_47 => ?_)
          obtain rfl : x_46 = nI (1 + q_43) := e_47.trans (nI_add 1 q_43)
          refine lv_istore (lv' := [(5, .int (nI (1 + q_43))), (4, .ref (ad (2117 + 2 * y1))), (3, .ref (ad (2117 + 2 * x1))), (0, .ref (ad 2080)), (1, .int (nI x1)), (2, .int (nI y1))]) hx hb dX6_makeSum_129 hl (by decide) rfl (fun ls hl => ?_)
          refine lv_aload_n hx hb dX6_makeSum_131 rfl (lv_at hl 3 rfl) ?_
          refine lv_iconst (v := nI 2) hx hb dX6_makeSum_132 (by decide +kernel) ?_
          refine lv_iload_n hx hb dX6_makeSum_133 rfl (lv_at hl 4 rfl) ?_
          refine lv_iload_n hx hb dX6_makeSum_134 rfl (lv_at hl 5 rfl) ?_
          refine lv_aload_n hx hb dX6_makeSum_135 rfl (lv_at hl 2 rfl) ?_
          refine m_get (D := (dC, dI)) (v := .int (nI ((gd L x1).2.2.2.1))) (C := RX3) (T := TX3) (N := 7) hx hb hts bk1 hown hK hP (2117 + 2 * x1) (ns_p (by omega)) hpx1 rfl 4 (by decide) (hts (.fieldLink RX6 91 "GradientDesk$Part" "degree" "I") (List.mem_of_getElem? (i := 12) rfl)) (fun _ h9 => h9) rfl dX6_makeSum_136 ?_
          refine lv_aload hx hb dX6_makeSum_139 (lv_at hl 1 rfl) ?_
          refine m_get (D := (dC, dI)) (v := .int (nI ((gd L y1).2.2.2.1))) (C := RX3) (T := TX3) (N := 7) hx hb hts bk1 hown hK hP (2117 + 2 * y1) (ns_p (by omega)) hpy1 rfl 4 (by decide) (hts (.fieldLink RX6 91 "GradientDesk$Part" "degree" "I") (List.mem_of_getElem? (i := 12) rfl)) (fun _ h9 => h9) rfl dX6_makeSum_141 ?_
          refine va_mmax hx hb (by rw [hml]; exact hl.1.symm) hown (hts (.methodLink RX6 85 Lib.Math.max.name) (List.mem_of_getElem? (i := 8) rfl)) (hts (.static Lib.Math.max.name) (List.mem_of_getElem? (i := 9) rfl)) (hts (.initialized "java/lang/Math") (List.mem_of_getElem? (i := 10) rfl)) (hts (.code Lib.Math.max.name Lib.Math.max.code 2 (some .int)) (List.mem_of_getElem? (i := 11) rfl)) (Nat.le_of_ble_eq_true rfl) (Nat.le_of_ble_eq_true rfl) (Nat.le_of_ble_eq_true rfl) (Nat.le_of_ble_eq_true rfl) dX6_makeSum_144 ?_
          refine lv_topi (fun x_49 e_50 => ?_)
          obtain ⟨q_48, hq_48, eq_48⟩ : ∃ z : Nat, z = max ((gd L x1).2.2.2.1) ((gd L y1).2.2.2.1) ∧ x_49 = nI z := ⟨_, rfl, by rw [e_50]; exact k_max (by omega) (by omega)⟩
          subst eq_48
          refine lv_iload hx hb dX6_makeSum_147 (lv_at hl 0 rfl) ?_
          refine lv_aload_n hx hb dX6_makeSum_149 rfl (lv_at hl 2 rfl) ?_
          refine m_get (D := (dC, dI)) (v := .int (nI ((gd L x1).2.2.2.2.2.1))) (C := RX3) (T := TX3) (N := 7) hx hb hts bk1 hown hK hP (2117 + 2 * x1) (ns_p (by omega)) hpx1 rfl 6 (by decide) (hts (.fieldLink RX6 82 "GradientDesk$Part" "sizeD" "I") (List.mem_of_getElem? (i := 7) rfl)) (fun _ h9 => h9) rfl dX6_makeSum_150 ?_
          refine lv_aload hx hb dX6_makeSum_153 (lv_at hl 1 rfl) ?_
          refine m_get (D := (dC, dI)) (v := .int (nI ((gd L y1).2.2.2.2.2.1))) (C := RX3) (T := TX3) (N := 7) hx hb hts bk1 hown hK hP (2117 + 2 * y1) (ns_p (by omega)) hpy1 rfl 6 (by decide) (hts (.fieldLink RX6 82 "GradientDesk$Part" "sizeD" "I") (List.mem_of_getElem? (i := 7) rfl)) (fun _ h9 => h9) rfl dX6_makeSum_155 ?_
          refine lv_iadd hx hb dX6_makeSum_158 ?_
          refine lv_topi (fun x_51 e_52 => ?_)
          obtain rfl : x_51 = nI ((gd L x1).2.2.2.2.2.1 + ((gd L y1).2.2.2.2.2.1)) := e_52.trans (nI_add ((gd L x1).2.2.2.2.2.1) ((gd L y1).2.2.2.2.2.1))
          refine va_calli (va_runV (As := [.int (nI 2), .int (nI x1), .int (nI y1), .int (nI q_48), .int (nI (1 + q_43)), .int (nI ((gd L x1).2.2.2.2.2.1 + ((gd L y1).2.2.2.2.2.1)))]) (rest := []) ⟨hx, hb, hml, hown, hts⟩ (c_V6_keep l dC dI A ad cA g L (2, ((x1 : Nat) : Int), ((y1 : Nat) : Int), max (gd L x1).2.2.2.1 (gd L y1).2.2.2.1, 1 + max ((gd L x1).2.2.2.2.1 + (gd L y1).2.2.2.2.2.1) ((gd L y1).2.2.2.2.1 + (gd L x1).2.2.2.2.2.1), (gd L x1).2.2.2.2.2.1 + (gd L y1).2.2.2.2.2.1, 0, 1) (nI 2) (nI x1) (nI y1) (nI q_48) (nI (1 + q_43)) (nI ((gd L x1).2.2.2.2.2.1 + ((gd L y1).2.2.2.2.2.1))) hC ((show nI 2 = iI 2 from by decide).trans (congrArg iI (by rfl))) ((nI_iI x1).trans (congrArg iI (by rfl))) ((nI_iI y1).trans (congrArg iI (by rfl))) ((nI_iI q_48).trans (congrArg iI (by exact congrArg (fun z : Nat => ((z : Nat) : Int)) hq_48))) ((nI_iI (1 + q_43)).trans (congrArg iI (by exact congrArg (fun z : Nat => ((1 + z : Nat) : Int)) hq_43))) ((nI_iI ((gd L x1).2.2.2.2.2.1 + ((gd L y1).2.2.2.2.2.1))).trans (congrArg iI (by rfl))) (by show 2 ≤ 20000 ∧ -1 ≤ ((x1 : Nat) : Int) ∧ ((x1 : Nat) : Int) ≤ 20000 ∧ -1 ≤ ((y1 : Nat) : Int) ∧ ((y1 : Nat) : Int) ≤ 20000 ∧ max (gd L x1).2.2.2.1 (gd L y1).2.2.2.1 ≤ 20000 ∧ 1 + max ((gd L x1).2.2.2.2.1 + (gd L y1).2.2.2.2.2.1) ((gd L y1).2.2.2.2.1 + (gd L x1).2.2.2.2.2.1) ≤ 20000 ∧ (gd L x1).2.2.2.2.2.1 + (gd L y1).2.2.2.2.2.1 ≤ 20000; omega) (show (2 : Nat) ≠ 0 from by decide)) (cwV 6 hts (goodIn_app (goodIn_r [Cond.methodLink RX6 60 yX6_keep, Cond.instanceMethod yX6_keep, Cond.selects RX6 yX6_keep yX6_keep, Cond.initialized RX6] [13, 14, 15, 5] rfl rfl) (goodIn_sub (fun w9 h9 => bk3 w9 h9) gw_V6_keep)) rfl rfl rfl (by decide +kernel) ⟨Nat.le_of_ble_eq_true rfl, Nat.le_of_ble_eq_true rfl⟩) ⟨fun a U g mk q => ⟨q.1, q.2.1, q.2.2.1, LY.moved (u := U) (U := U.calling g mk a) (Vm.Alike.refl U.vm) q.2.2.2⟩, va_recv hK hP (ci := 9) (q0 := 2080) rfl (wo_at (by decide) hO), fun U hU hW => ⟨rfl, by rw [hU]; exact fun q h => hA q (Nat.le_trans hS.1 h), by rw [hU]; exact hP, LY.moved hW.alike hL⟩⟩ rfl rfl hl.1 rfl (lv_room (Nat.le_of_ble_eq_true rfl)) dX6_makeSum_159 ⟨(Nat.le_of_ble_eq_true rfl), (Nat.le_of_ble_eq_true rfl)⟩) hS (fun q _ h => h) (fun q h => h) (fun r_53 u8 t8 H1 locs ht8 hvm8 hw_54 hB hz1 hk1 hS => ?_)
          obtain ⟨g_55, rfl⟩ : ∃ z, z = u8 := ⟨_, rfl⟩
          try dsimp only at hw_54 hB
          rw [ht8] at hB
          have hP := hB
          generalize H1 = H at hP hS ⊢
          obtain ⟨fr_56, hK⟩ := hw_54
          refine W.widen (k := 0) (n := 0) (by omega) (by omega) ?_
          exact W.iret (v := r_53) hx hb hr (fun t9 ht9 hW9 => ⟨⟨r_53, g_55, rfl, ⟨(fun (k : Nat) (hk : (14 ≤ k ∧ k < 76) ∨ (876 ≤ k ∧ k < 2080) ∨ (2081 ≤ k ∧ k < 2117)) => (fr_56 k (by omega)).trans (rfl)), by unfold sumL; rw [if_neg (show ¬ ((gd L x1).1 = 0 ∧ (gd L y1).1 = 0) from by omega), if_neg (by rw [hx0]; decide), if_neg (by rw [hy0]; decide)]; exact hK⟩, by show va_P (dC, dI) vwCl _ t9.heap; rw [ht9]; exact hP⟩, hS.F ht9⟩) hS.2.2 dX6_makeSum_162
    · have c_30 := (nI_eq (a := ((gd L y1).1)) (b := 0) (by omega) (by decide)).mp c_30
      refine lv_aload_n hx hb dX6_makeSum_48 rfl (lv_at hl 2 rfl) ?_
      refine m_get (D := (dC, dI)) (v := .ref (ad 2077)) (C := RX6) (T := TX6) (N := 7) hx hb hts bk0 hown hK hP 2080 (by decide) hO rfl 4 (by decide) (hts (.fieldLink RX6 41 "GradientDesk$Shelf" "arithmetic" "LGradientDesk$Arithmetic;") (List.mem_of_getElem? (i := 16) rfl)) (fun _ h9 => h9) rfl dX6_makeSum_49 ?_
      refine lv_aload_n hx hb dX6_makeSum_52 rfl (lv_at hl 1 rfl) ?_
      refine m_get (D := (dC, dI)) (v := .ref (ad (2118 + 2 * x1))) (C := RX3) (T := TX3) (N := 7) hx hb hts bk1 hown hK hP (2117 + 2 * x1) (ns_p (by omega)) hpx1 rfl 0 (by decide) (hts (.fieldLink RX6 68 "GradientDesk$Part" "number" "LGradientDesk$Fraction;") (List.mem_of_getElem? (i := 17) rfl)) (fun _ h9 => h9) rfl dX6_makeSum_53 ?_
      refine lv_aload hx hb dX6_makeSum_56 (lv_at hl 0 rfl) ?_
      refine m_get (D := (dC, dI)) (v := .ref (ad (2118 + 2 * y1))) (C := RX3) (T := TX3) (N := 7) hx hb hts bk1 hown hK hP (2117 + 2 * y1) (ns_p (by omega)) hpy1 rfl 0 (by decide) (hts (.fieldLink RX6 68 "GradientDesk$Part" "number" "LGradientDesk$Fraction;") (List.mem_of_getElem? (i := 17) rfl)) (fun _ h9 => h9) rfl dX6_makeSum_58 ?_
      refine lv_iconst (v := nI 0) hx hb dX6_makeSum_61 (by decide +kernel) ?_
      refine lv_aload_n hx hb dX6_makeSum_62 rfl (lv_at hl 2 rfl) ?_
      refine m_get (D := (dC, dI)) (v := .ref (ad 2107)) (C := RX6) (T := TX6) (N := 7) hx hb hts bk0 hown hK hP 2080 (by decide) hO rfl 5 (by decide) (hts (.fieldLink RX6 30 "GradientDesk$Shelf" "work" "LGradientDesk$Fraction;") (List.mem_of_getElem? (i := 18) rfl)) (fun _ h9 => h9) rfl dX6_makeSum_63 ?_
      have n0x1 : (gd L x1).1 = 0 := by omega
      rw [hfnx1] at a6x1
      obtain ⟨n1x1, n2x1, -, -⟩ := a6x1 n0x1
      obtain ⟨b1x1, b2x1, b3x1, -⟩ := num13 hWf ix n0x1
      clear a6x1
      have n0y1 : (gd L y1).1 = 0 := by omega
      rw [hfny1] at a6y1
      obtain ⟨n1y1, n2y1, -, -⟩ := a6y1 n0y1
      obtain ⟨b1y1, b2y1, b3y1, -⟩ := num13 hWf iy n0y1
      clear a6y1
      have hq_60 := hFr x1 (by omega)
      have hq_61 := hFr y1 (by omega)
      refine va_callv (va_runV (As := [.ref (ad (2118 + 2 * x1)), .ref (ad (2118 + 2 * y1)), .int (nI 0), .ref (ad 2107)]) (rest := []) ⟨hx, hb, hml, hown, hts⟩ (c_V0_add l dC dI A ad cA g (2118 + 2 * x1) (38 + 2 * x1) (39 + 2 * x1) (2118 + 2 * y1) (38 + 2 * y1) (39 + 2 * y1) ((gd L x1).2.2.2.2.2.2.1) (((gd L x1).2.2.2.2.2.2.2 : Nat) : Int) ((gd L y1).2.2.2.2.2.2.1) (((gd L y1).2.2.2.2.2.2.2 : Nat) : Int) hW hAr hWk hq_60 (⟨ns_q (by omega), by omega⟩) (by omega) hq_61 (⟨ns_q (by omega), by omega⟩) (by omega) (by omega) (by omega) n1x1 n2x1 n1y1 n2y1 b1x1 (by rw [Int.natAbs_natCast]; exact b2x1) b1y1 (by rw [Int.natAbs_natCast]; exact b2y1)) (cwV 4 hts (goodIn_app (goodIn_r [Cond.methodLink RX6 71 yX0_add, Cond.instanceMethod yX0_add, Cond.selects RX0 yX0_add yX0_add, Cond.initialized RX0] [19, 20, 21, 22] rfl rfl) (goodIn_sub (fun w9 h9 => bk4 w9 h9) gw_V0_add)) rfl rfl rfl (by decide +kernel) ⟨Nat.le_of_ble_eq_true rfl, Nat.le_of_ble_eq_true rfl⟩) ⟨fun a U g mk q => ⟨q.1, q.2.1, q.2.2.1, LY.moved (u := U) (U := U.calling g mk a) (Vm.Alike.refl U.vm) q.2.2.2⟩, va_recv hK hP (ci := 3) (q0 := 2077) rfl (wo_at (by decide) hAr), fun U hU hW => ⟨rfl, by rw [hU]; exact fun q h => hA q (Nat.le_trans hS.1 h), by rw [hU]; exact hP, LY.moved hW.alike hL⟩⟩ rfl rfl hl.1 rfl (lv_room (Nat.le_of_ble_eq_true rfl)) dX6_makeSum_66 ⟨(Nat.le_of_ble_eq_true rfl), (Nat.le_of_ble_eq_true rfl)⟩) hS (fun q _ h => h) (fun q h => h) (fun u8 t8 H1 locs ht8 hvm8 hw_62 hB hz1 hk1 hS => ?_)
      obtain ⟨g_63, rfl⟩ : ∃ z, z = u8 := ⟨_, rfl⟩
      try dsimp only at hw_62 hB
      rw [ht8] at hB
      have hP := hB
      generalize H1 = H at hP hS ⊢
      obtain ⟨fr_64, hAW_57, hv_58, hv_59⟩ := hw_62
      rw [← Int.natCast_mul] at hv_59
      have hqp : 0 < (gd L x1).2.2.2.2.2.2.2 * (gd L y1).2.2.2.2.2.2.2 := Nat.mul_pos b3x1 b3y1
      refine lv_aload_n hx hb dX6_makeSum_69 rfl (lv_at hl 2 rfl) ?_
      have f_65 : g_63 2080 = .inr (9, [.ref (ad 2081), .ref (ad 2082), .int (nI L.length), .ref (ad 2083), .ref (ad 2077), .ref (ad 2107), .ref (ad (2 * 6))]) := (fr_64 2080 (by omega)).trans hO
      refine m_get (D := (dC, dI)) (v := .ref (ad 2077)) (C := RX6) (T := TX6) (N := 7) hx hb hts bk0 hown hK hP 2080 (by decide) f_65 rfl 4 (by decide) (hts (.fieldLink RX6 41 "GradientDesk$Shelf" "arithmetic" "LGradientDesk$Arithmetic;") (List.mem_of_getElem? (i := 16) rfl)) (fun _ h9 => h9) rfl dX6_makeSum_70 ?_
      refine lv_aload_n hx hb dX6_makeSum_73 rfl (lv_at hl 2 rfl) ?_
      refine m_get (D := (dC, dI)) (v := .ref (ad 2107)) (C := RX6) (T := TX6) (N := 7) hx hb hts bk0 hown hK hP 2080 (by decide) f_65 rfl 5 (by decide) (hts (.fieldLink RX6 30 "GradientDesk$Shelf" "work" "LGradientDesk$Fraction;") (List.mem_of_getElem? (i := 18) rfl)) (fun _ h9 => h9) rfl dX6_makeSum_74 ?_
      have f_69 : g_63 2077 = .inr (3, [.ref (ad (2 * 0)), .ref (ad (2 * 1)), .ref (ad (2 * 2)), .ref (ad (2 * 3))]) := (fr_64 2077 (by omega)).trans hAr
      have f_70 : g_63 2107 = .inr (5, [.ref (ad (2 * 4)), .ref (ad (2 * 5))]) := (fr_64 2107 (by omega)).trans hWk
      refine va_callv (va_runV (As := [.ref (ad 2107)]) (rest := []) ⟨hx, hb, hml, hown, hts⟩ (c_V0_reduce l dC dI A ad cA g_63 ((gd L x1).2.2.2.2.2.2.1 * (((gd L y1).2.2.2.2.2.2.2 : Nat) : Int) + (gd L y1).2.2.2.2.2.2.1 * (((gd L x1).2.2.2.2.2.2.2 : Nat) : Int)) ((gd L x1).2.2.2.2.2.2.2 * (gd L y1).2.2.2.2.2.2.2) hAW_57 f_69 f_70 hv_58 hv_59 hqp) (cwV 1 hts (goodIn_app (goodIn_r [Cond.methodLink RX6 54 yX0_reduce, Cond.instanceMethod yX0_reduce, Cond.selects RX0 yX0_reduce yX0_reduce, Cond.initialized RX0] [23, 24, 25, 22] rfl rfl) (goodIn_sub (fun w9 h9 => bk5 w9 h9) gw_V0_reduce)) rfl rfl rfl (by decide +kernel) ⟨Nat.le_of_ble_eq_true rfl, Nat.le_of_ble_eq_true rfl⟩) ⟨fun a U g mk q => ⟨q.1, q.2.1, q.2.2.1, LY.moved (u := U) (U := U.calling g mk a) (Vm.Alike.refl U.vm) q.2.2.2⟩, va_recv hK hP (ci := 3) (q0 := 2077) rfl (wo_at (by decide) f_69), fun U hU hW => ⟨rfl, by rw [hU]; exact fun q h => hA q (Nat.le_trans hS.1 h), by rw [hU]; exact hP, LY.moved hW.alike hL⟩⟩ rfl rfl hl.1 rfl (lv_room (Nat.le_of_ble_eq_true rfl)) dX6_makeSum_77 ⟨(Nat.le_of_ble_eq_true rfl), (Nat.le_of_ble_eq_true rfl)⟩) hS (fun q _ h => h) (fun q h => h) (fun u8 t8 H1 locs ht8 hvm8 hw_71 hB hz1 hk1 hS => ?_)
      obtain ⟨g_72, rfl⟩ : ∃ z, z = u8 := ⟨_, rfl⟩
      try dsimp only at hw_71 hB
      rw [ht8] at hB
      have hP := hB
      generalize H1 = H at hP hS ⊢
      obtain ⟨fr_73, hAW_66, hv_67, hv_68⟩ := hw_71
      refine lv_aload_n hx hb dX6_makeSum_80 rfl (lv_at hl 2 rfl) ?_
      have hC_74 : CS ad cA g_72 L := CS.same hC hAW_66 (fun (k : Nat) (hk : (76 ≤ k ∧ k < 876) ∨ k = 2077 ∨ k = 2107 ∨ k = 2080 ∨ k = 2081 ∨ (2117 ≤ k ∧ k < 2517)) => (fr_73 k (by omega)).trans ((fr_64 k (by omega)).trans (rfl)))
      have f_75 : g_72 2080 = .inr (9, [.ref (ad 2081), .ref (ad 2082), .int (nI L.length), .ref (ad 2083), .ref (ad 2077), .ref (ad 2107), .ref (ad (2 * 6))]) := (fr_73 2080 (by omega)).trans f_65
      refine va_calli (va_runV (As := []) (rest := []) ⟨hx, hb, hml, hown, hts⟩ (c_V6_keepNumber l dC dI A ad cA g_72 L (rdp ((gd L x1).2.2.2.2.2.2.1 * (((gd L y1).2.2.2.2.2.2.2 : Nat) : Int) + (gd L y1).2.2.2.2.2.2.1 * (((gd L x1).2.2.2.2.2.2.2 : Nat) : Int)) ((gd L x1).2.2.2.2.2.2.2 * (gd L y1).2.2.2.2.2.2.2)) (rdq ((gd L x1).2.2.2.2.2.2.1 * (((gd L y1).2.2.2.2.2.2.2 : Nat) : Int) + (gd L y1).2.2.2.2.2.2.1 * (((gd L x1).2.2.2.2.2.2.2 : Nat) : Int)) ((gd L x1).2.2.2.2.2.2.2 * (gd L y1).2.2.2.2.2.2.2)) hC_74 hv_67 hv_68 ((rd_red _ hqp).1)) (cwV 0 hts (goodIn_app (goodIn_r [Cond.methodLink RX6 50 yX6_keepNumber, Cond.instanceMethod yX6_keepNumber, Cond.selects RX6 yX6_keepNumber yX6_keepNumber, Cond.initialized RX6] [26, 27, 28, 5] rfl rfl) (goodIn_sub (fun w9 h9 => bk6 w9 h9) gw_V6_keepNumber)) rfl rfl rfl (by decide +kernel) ⟨Nat.le_of_ble_eq_true rfl, Nat.le_of_ble_eq_true rfl⟩) ⟨fun a U g mk q => ⟨q.1, q.2.1, q.2.2.1, LY.moved (u := U) (U := U.calling g mk a) (Vm.Alike.refl U.vm) q.2.2.2⟩, va_recv hK hP (ci := 9) (q0 := 2080) rfl (wo_at (by decide) f_75), fun U hU hW => ⟨rfl, by rw [hU]; exact fun q h => hA q (Nat.le_trans hS.1 h), by rw [hU]; exact hP, LY.moved hW.alike hL⟩⟩ rfl rfl hl.1 rfl (lv_room (Nat.le_of_ble_eq_true rfl)) dX6_makeSum_81 ⟨(Nat.le_of_ble_eq_true rfl), (Nat.le_of_ble_eq_true rfl)⟩) hS (fun q _ h => h) (fun q h => h) (fun r_76 u8 t8 H1 locs ht8 hvm8 hw_77 hB hz1 hk1 hS => ?_)
      obtain ⟨g_78, rfl⟩ : ∃ z, z = u8 := ⟨_, rfl⟩
      try dsimp only at hw_77 hB
      rw [ht8] at hB
      have hP := hB
      generalize H1 = H at hP hS ⊢
      obtain ⟨fr_79, hK⟩ := hw_77
      refine W.widen (k := 0) (n := 0) (by omega) (by omega) ?_
      exact W.iret (v := r_76) hx hb hr (fun t9 ht9 hW9 => ⟨⟨r_76, g_78, rfl, ⟨(fun (k : Nat) (hk : (14 ≤ k ∧ k < 76) ∨ (876 ≤ k ∧ k < 2080) ∨ (2081 ≤ k ∧ k < 2117)) => (fr_79 k (by omega)).trans ((fr_73 k (by omega)).trans ((fr_64 k (by omega)).trans (rfl)))), by unfold sumL; rw [if_pos ⟨n0x1, n0y1⟩]; exact hK⟩, by show va_P (dC, dI) vwCl _ t9.heap; rw [ht9]; exact hP⟩, hS.F ht9⟩) hS.2.2 dX6_makeSum_84
