def wd_V2_isZero : List Cond := .code yX2_isZero cX2_isZero 1 (some .boolean) :: (([.fieldLink RX2 12 "GradientDesk$Fraction" "top" "LGradientDesk$Whole;", .fieldLink RX2 29 "GradientDesk$Whole" "size" "I"] : List Cond) ++ (u_ws RX2 TX2 2 ++ (u_ws RX8 TX8 3 ++ ([]))))
theorem gw_V2_isZero : wd_V2_isZero.all goodWord = true := k_allc rfl (k_all (by decide +kernel) (k_all (gu_X2) (k_all (gu_X8) (rfl))))
set_option maxHeartbeats 4000000 in
set_option maxRecDepth 100000 in
theorem c_V2_isZero (l : Launch) (dC : Nat → ClassId) (dI : Nat → Nat → Nat) (A : Nat → Prop) (ad : Nat → Nat) (cA : Nat → ClassId) (g : Nat → va_E) (F : Nat) (Fa : Nat) (Fb : Nat) (fp : Int) (fq : Int) (hAW : AW ad cA g) (hF : g F = .inr (5, [.ref (ad (2 * Fa)), .ref (ad (2 * Fb))])) (lF : F < NSc ∧ 2076 ≤ F) (jF : 4 ≤ Fa ∧ Fa < 1038 ∧ 4 ≤ Fb ∧ Fb < 1038 ∧ Fa ≠ Fb) (wFa : WV ad cA g Fa fp) (wFb : WV ad cA g Fb fq) : Met l yX2_isZero wd_V2_isZero ({ frames := 10, cells := 0, slots := 0, locals := 200 }) (va_Pc [.ref (ad F)] (PR NSc tyc dC dI A ad cA g)) (va_Qi (fun (r : Int32) => fun (u : Unit) => match u with | () => (r = nI 1 ∧ fp = 0) ∨ (r = nI 0 ∧ fp ≠ 0)) (fun (u : Unit) (t : State) => va_P (dC, dI) vwCl (wo ad NSc g) t.heap) A) (0) (0) A := by
  refine Met.ofW (cc := cX2_isZero) (maxL := 1) (ret := (some .boolean)) (by decide) rfl ?_
  intro p e s m args below meth c s₁ B hml hv
  obtain ⟨rfl, hA, hP, hL⟩ := hv
  have hx := B.exec
  have hb := B.bytes
  have hr := B.returns
  have hts := atoms_spec (ws := wd_V2_isZero) B.pre
  have hown : s.vm.findClass RX2 = some m.cls := findClass_of_methodNamed B.named
  have hlocks := B.notSynchronized
  have hK := hL.1
  have hD : ∀ g, va_D A (wo ad NSc g) := fun g => wo_D hL.2.1 hL.2.2 g
  have hS : va_S A s.heap s.heap [] := va_S.rf
  have bk0 : ∀ w ∈ u_ws RX2 TX2 2, w ∈ wd_V2_isZero := fun _ h => List.mem_cons_of_mem _ (List.mem_append_right _ (List.mem_append_left _ h))
  have bk1 : ∀ w ∈ u_ws RX8 TX8 3, w ∈ wd_V2_isZero := fun _ h => List.mem_cons_of_mem _ (List.mem_append_right _ (List.mem_append_right _ (List.mem_append_left _ h)))
  have hl := lv_entry ([.ref (ad F)]) (n := 1) (Nat.le_of_ble_eq_true rfl)
  rw [lg_entry_eq]
  generalize (lg_sl ([.ref (ad F)]) ++ List.replicate (1 - (lg_sl ([.ref (ad F)])).length) Slot.unset).toArray = ls at hl ⊢
  have hl : lv_has ls 1 [(0, .ref (ad F))] := hl
  obtain ⟨sa9, na9, fa9, ⟨aa9, ba9, ua9, ca9, ea9⟩, ra9, ga9⟩ := wFa
  have qa9 := rmc_le Fa
  refine lv_aload_n hx hb dX2_isZero_0 rfl (lv_at hl 0 rfl) ?_
  refine m_get (D := (dC, dI)) (v := .ref (ad (2 * Fa))) (C := RX2) (T := TX2) (N := 2) hx hb hts bk0 hown hK hP F lF.1 hF rfl 0 (by decide) (hts (.fieldLink RX2 12 "GradientDesk$Fraction" "top" "LGradientDesk$Whole;") (List.mem_of_getElem? (i := 1) rfl)) (fun _ h9 => h9) rfl dX2_isZero_1 ?_
  refine m_get (D := (dC, dI)) (v := .int (nI sa9)) (C := RX8) (T := TX8) (N := 3) hx hb hts bk1 hown hK hP (2 * Fa) (ns_w (by omega)) aa9 rfl 1 (by decide) (hts (.fieldLink RX2 29 "GradientDesk$Whole" "size" "I") (List.mem_of_getElem? (i := 2) rfl)) (fun _ h9 => h9) rfl dX2_isZero_4 ?_
  refine lv_if_ne (tgt := 14) hx hb dX2_isZero_7 (by decide) (fun c_1 => ?_) (fun c_1 => ?_)
  · have c_1 := mt (nI_eq (a := sa9) (b := 0) (by omega) (by decide)).mpr c_1
    refine lv_iconst (v := nI 0) hx hb dX2_isZero_14 (by decide +kernel) ?_
    refine W.widen (k := 0) (n := 0) (by omega) (by omega) ?_
    exact W.zret (v := nI 0) hx hb hr (by decide +kernel) (fun t9 ht9 hW9 => ⟨⟨nI 0, (), rfl, Or.inr ⟨rfl, by have h9 := ra9.zero; omega⟩, by show va_P (dC, dI) vwCl _ t9.heap; rw [ht9]; exact hP⟩, hS.F ht9⟩) hS.2.2 dX2_isZero_15
  · have c_1 := (nI_eq (a := sa9) (b := 0) (by omega) (by decide)).mp c_1
    refine lv_iconst (v := nI 1) hx hb dX2_isZero_10 (by decide +kernel) ?_
    refine lv_goto (tgt := 15) hx hb dX2_isZero_11 (by decide) ?_
    refine W.widen (k := 0) (n := 0) (by omega) (by omega) ?_
    exact W.zret (v := nI 1) hx hb hr (by decide +kernel) (fun t9 ht9 hW9 => ⟨⟨nI 1, (), rfl, Or.inl ⟨rfl, by have h9 := ra9.zero; omega⟩, by show va_P (dC, dI) vwCl _ t9.heap; rw [ht9]; exact hP⟩, hS.F ht9⟩) hS.2.2 dX2_isZero_15
def wd_V2_isOne : List Cond := .code yX2_isOne cX2_isOne 1 (some .boolean) :: (([.fieldLink RX2 12 "GradientDesk$Fraction" "top" "LGradientDesk$Whole;", .methodLink RX2 33 yX8_isOne, .instanceMethod yX8_isOne, .selects RX8 yX8_isOne yX8_isOne, .initialized RX8, .fieldLink RX2 18 "GradientDesk$Fraction" "bottom" "LGradientDesk$Whole;"] : List Cond) ++ (u_ws RX2 TX2 2 ++ (wd_V8_isOne ++ ([]))))
theorem gw_V2_isOne : wd_V2_isOne.all goodWord = true := k_allc rfl (k_all (by decide +kernel) (k_all (gu_X2) (k_all (gw_V8_isOne) (rfl))))
set_option maxHeartbeats 4000000 in
set_option maxRecDepth 100000 in
theorem c_V2_isOne (l : Launch) (dC : Nat → ClassId) (dI : Nat → Nat → Nat) (A : Nat → Prop) (ad : Nat → Nat) (cA : Nat → ClassId) (g : Nat → va_E) (F : Nat) (Fa : Nat) (Fb : Nat) (fp : Int) (fq : Int) (hAW : AW ad cA g) (hF : g F = .inr (5, [.ref (ad (2 * Fa)), .ref (ad (2 * Fb))])) (lF : F < NSc ∧ 2076 ≤ F) (jF : 4 ≤ Fa ∧ Fa < 1038 ∧ 4 ≤ Fb ∧ Fb < 1038 ∧ Fa ≠ Fb) (wFa : WV ad cA g Fa fp) (wFb : WV ad cA g Fb fq) : Met l yX2_isOne wd_V2_isOne ({ frames := 20, cells := 0, slots := 0, locals := 400 }) (va_Pc [.ref (ad F)] (PR NSc tyc dC dI A ad cA g)) (va_Qi (fun (r : Int32) => fun (u : Unit) => match u with | () => (r = nI 1 ∧ fp = 1 ∧ fq = 1) ∨ (r = nI 0 ∧ ¬ (fp = 1 ∧ fq = 1))) (fun (u : Unit) (t : State) => va_P (dC, dI) vwCl (wo ad NSc g) t.heap) A) (0) (0) A := by
  refine Met.ofW (cc := cX2_isOne) (maxL := 1) (ret := (some .boolean)) (by decide) rfl ?_
  intro p e s m args below meth c s₁ B hml hv
  obtain ⟨rfl, hA, hP, hL⟩ := hv
  have hx := B.exec
  have hb := B.bytes
  have hr := B.returns
  have hts := atoms_spec (ws := wd_V2_isOne) B.pre
  have hown : s.vm.findClass RX2 = some m.cls := findClass_of_methodNamed B.named
  have hlocks := B.notSynchronized
  have hK := hL.1
  have hD : ∀ g, va_D A (wo ad NSc g) := fun g => wo_D hL.2.1 hL.2.2 g
  have hS : va_S A s.heap s.heap [] := va_S.rf
  have bk0 : ∀ w ∈ u_ws RX2 TX2 2, w ∈ wd_V2_isOne := fun _ h => List.mem_cons_of_mem _ (List.mem_append_right _ (List.mem_append_left _ h))
  have bk1 : ∀ w ∈ wd_V8_isOne, w ∈ wd_V2_isOne := fun _ h => List.mem_cons_of_mem _ (List.mem_append_right _ (List.mem_append_right _ (List.mem_append_left _ h)))
  have hl := lv_entry ([.ref (ad F)]) (n := 1) (Nat.le_of_ble_eq_true rfl)
  rw [lg_entry_eq]
  generalize (lg_sl ([.ref (ad F)]) ++ List.replicate (1 - (lg_sl ([.ref (ad F)])).length) Slot.unset).toArray = ls at hl ⊢
  have hl : lv_has ls 1 [(0, .ref (ad F))] := hl
  refine lv_aload_n hx hb dX2_isOne_0 rfl (lv_at hl 0 rfl) ?_
  refine m_get (D := (dC, dI)) (v := .ref (ad (2 * Fa))) (C := RX2) (T := TX2) (N := 2) hx hb hts bk0 hown hK hP F lF.1 hF rfl 0 (by decide) (hts (.fieldLink RX2 12 "GradientDesk$Fraction" "top" "LGradientDesk$Whole;") (List.mem_of_getElem? (i := 1) rfl)) (fun _ h9 => h9) rfl dX2_isOne_1 ?_
  obtain ⟨mw_1, sw_1, nw_1, fw_1, aw_1, bw_1, cw_1, dw_1, ew_1⟩ := hAW Fa (by omega)
  have qw_1 : mw_1 ≤ 4096 := by rw [dw_1]; exact rmc_le _
  refine va_calli (va_runV (As := []) (rest := []) ⟨hx, hb, hml, hown, hts⟩ (c_V8_isOne l dC dI A ad cA g Fa fp hAW (by omega) wFa) (cwV 0 hts (goodIn_app (goodIn_r [Cond.methodLink RX2 33 yX8_isOne, Cond.instanceMethod yX8_isOne, Cond.selects RX8 yX8_isOne yX8_isOne, Cond.initialized RX8] [2, 3, 4, 5] rfl rfl) (goodIn_sub (fun w9 h9 => bk1 w9 h9) gw_V8_isOne)) rfl rfl rfl (by decide +kernel) ⟨Nat.le_of_ble_eq_true rfl, Nat.le_of_ble_eq_true rfl⟩) ⟨fun a U g mk q => ⟨q.1, q.2.1, q.2.2.1, LY.moved (u := U) (U := U.calling g mk a) (Vm.Alike.refl U.vm) q.2.2.2⟩, va_recv hK hP (ci := 11) (q0 := (2 * Fa)) rfl (wo_at (ns_w (by omega)) aw_1), fun U hU hW => ⟨rfl, by rw [hU]; exact fun q h => hA q (Nat.le_trans hS.1 h), by rw [hU]; exact hP, LY.moved hW.alike hL⟩⟩ rfl rfl hl.1 rfl (lv_room (Nat.le_of_ble_eq_true rfl)) dX2_isOne_4 ⟨(Nat.le_of_ble_eq_true rfl), (Nat.le_of_ble_eq_true rfl)⟩) hS (fun q _ h => h) (fun q h => h) (fun r_2 u8 t8 H1 locs ht8 hvm8 hw_3 hB hz1 hk1 hS => ?_)
  obtain ⟨⟩ := u8
  try dsimp only at hw_3 hB
  rw [ht8] at hB
  have hP := hB
  generalize H1 = H at hP hS ⊢
  rcases hw_3 with ⟨rfl, hp1⟩ | ⟨rfl, hp1⟩
  · skip
    refine lv_if_eq (tgt := 24) hx hb dX2_isOne_7 (by decide) (fun c_4 => absurd c_4 (by decide)) (fun c_4 => ?_)
    refine lv_aload_n hx hb dX2_isOne_10 rfl (lv_at hl 0 rfl) ?_
    refine m_get (D := (dC, dI)) (v := .ref (ad (2 * Fb))) (C := RX2) (T := TX2) (N := 2) hx hb hts bk0 hown hK hP F lF.1 hF rfl 1 (by decide) (hts (.fieldLink RX2 18 "GradientDesk$Fraction" "bottom" "LGradientDesk$Whole;") (List.mem_of_getElem? (i := 6) rfl)) (fun _ h9 => h9) rfl dX2_isOne_11 ?_
    obtain ⟨mw_5, sw_5, nw_5, fw_5, aw_5, bw_5, cw_5, dw_5, ew_5⟩ := hAW Fb (by omega)
    have qw_5 : mw_5 ≤ 4096 := by rw [dw_5]; exact rmc_le _
    refine va_calli (va_runV (As := []) (rest := []) ⟨hx, hb, hml, hown, hts⟩ (c_V8_isOne l dC dI A ad cA g Fb fq hAW (by omega) wFb) (cwV 0 hts (goodIn_app (goodIn_r [Cond.methodLink RX2 33 yX8_isOne, Cond.instanceMethod yX8_isOne, Cond.selects RX8 yX8_isOne yX8_isOne, Cond.initialized RX8] [2, 3, 4, 5] rfl rfl) (goodIn_sub (fun w9 h9 => bk1 w9 h9) gw_V8_isOne)) rfl rfl rfl (by decide +kernel) ⟨Nat.le_of_ble_eq_true rfl, Nat.le_of_ble_eq_true rfl⟩) ⟨fun a U g mk q => ⟨q.1, q.2.1, q.2.2.1, LY.moved (u := U) (U := U.calling g mk a) (Vm.Alike.refl U.vm) q.2.2.2⟩, va_recv hK hP (ci := 11) (q0 := (2 * Fb)) rfl (wo_at (ns_w (by omega)) aw_5), fun U hU hW => ⟨rfl, by rw [hU]; exact fun q h => hA q (Nat.le_trans hS.1 h), by rw [hU]; exact hP, LY.moved hW.alike hL⟩⟩ rfl rfl hl.1 rfl (lv_room (Nat.le_of_ble_eq_true rfl)) dX2_isOne_14 ⟨(Nat.le_of_ble_eq_true rfl), (Nat.le_of_ble_eq_true rfl)⟩) hS (fun q _ h => h) (fun q h => h) (fun r_6 u8 t8 H1 locs ht8 hvm8 hw_7 hB hz1 hk1 hS => ?_)
    obtain ⟨⟩ := u8
    try dsimp only at hw_7 hB
    rw [ht8] at hB
    have hP := hB
    generalize H1 = H at hP hS ⊢
    rcases hw_7 with ⟨rfl, hq1⟩ | ⟨rfl, hq1⟩
    · skip
      refine lv_if_eq (tgt := 24) hx hb dX2_isOne_17 (by decide) (fun c_8 => absurd c_8 (by decide)) (fun c_8 => ?_)
      refine lv_iconst (v := nI 1) hx hb dX2_isOne_20 (by decide +kernel) ?_
      refine lv_goto (tgt := 25) hx hb dX2_isOne_21 (by decide) ?_
      refine W.widen (k := 0) (n := 0) (by omega) (by omega) ?_
      exact W.zret (v := nI 1) hx hb hr (by decide +kernel) (fun t9 ht9 hW9 => ⟨⟨nI 1, (), rfl, Or.inl ⟨rfl, hp1, hq1⟩, by show va_P (dC, dI) vwCl _ t9.heap; rw [ht9]; exact hP⟩, hS.F ht9⟩) hS.2.2 dX2_isOne_25
    · skip
      refine lv_if_eq (tgt := 24) hx hb dX2_isOne_17 (by decide) (fun c_9 => ?_) (fun c_9 => absurd c_9 (by decide))
      refine lv_iconst (v := nI 0) hx hb dX2_isOne_24 (by decide +kernel) ?_
      refine W.widen (k := 0) (n := 0) (by omega) (by omega) ?_
      exact W.zret (v := nI 0) hx hb hr (by decide +kernel) (fun t9 ht9 hW9 => ⟨⟨nI 0, (), rfl, Or.inr ⟨rfl, fun h9 => by omega⟩, by show va_P (dC, dI) vwCl _ t9.heap; rw [ht9]; exact hP⟩, hS.F ht9⟩) hS.2.2 dX2_isOne_25
  · skip
    refine lv_if_eq (tgt := 24) hx hb dX2_isOne_7 (by decide) (fun c_10 => ?_) (fun c_10 => absurd c_10 (by decide))
    refine lv_iconst (v := nI 0) hx hb dX2_isOne_24 (by decide +kernel) ?_
    refine W.widen (k := 0) (n := 0) (by omega) (by omega) ?_
    exact W.zret (v := nI 0) hx hb hr (by decide +kernel) (fun t9 ht9 hW9 => ⟨⟨nI 0, (), rfl, Or.inr ⟨rfl, fun h9 => by omega⟩, by show va_P (dC, dI) vwCl _ t9.heap; rw [ht9]; exact hP⟩, hS.F ht9⟩) hS.2.2 dX2_isOne_25
def wd_V2_becomeRatio : List Cond := .code yX2_becomeRatio cX2_becomeRatio 3 none :: (([.fieldLink RX2 12 "GradientDesk$Fraction" "top" "LGradientDesk$Whole;", .methodLink RX2 21 yX8_put, .instanceMethod yX8_put, .selects RX8 yX8_put yX8_put, .initialized RX8, .fieldLink RX2 18 "GradientDesk$Fraction" "bottom" "LGradientDesk$Whole;"] : List Cond) ++ (u_ws RX2 TX2 2 ++ (wd_V8_put ++ ([]))))
theorem gw_V2_becomeRatio : wd_V2_becomeRatio.all goodWord = true := k_allc rfl (k_all (by decide +kernel) (k_all (gu_X2) (k_all (gw_V8_put) (rfl))))
set_option maxHeartbeats 4000000 in
set_option maxRecDepth 100000 in
theorem c_V2_becomeRatio (l : Launch) (dC : Nat → ClassId) (dI : Nat → Nat → Nat) (A : Nat → Prop) (ad : Nat → Nat) (cA : Nat → ClassId) (g : Nat → va_E) (F : Nat) (Fa : Nat) (Fb : Nat) (v1 : Int32) (v2 : Int32) (z1 : Int) (z2 : Int) (hAW : AW ad cA g) (hF : g F = .inr (5, [.ref (ad (2 * Fa)), .ref (ad (2 * Fb))])) (lF : F < NSc ∧ 2076 ≤ F) (jF : 4 ≤ Fa ∧ Fa < 1038 ∧ 4 ≤ Fb ∧ Fb < 1038 ∧ Fa ≠ Fb) (hz1 : v1.toInt = z1) (hz2 : v2.toInt = z2) : Met l yX2_becomeRatio wd_V2_becomeRatio ({ frames := 30, cells := 0, slots := 0, locals := 600 }) (va_Pc [.ref (ad F), .int v1, .int v2] (PR NSc tyc dC dI A ad cA g)) (va_Qv (fun (u : Nat → va_E) => match u with | g2 => (∀ k, k ≠ 2 * Fa ∧ k ≠ 2 * Fa + 1 ∧ k ≠ 2 * Fb ∧ k ≠ 2 * Fb + 1 → g2 k = g k) ∧ AW ad cA g2 ∧ WV ad cA g2 Fa z1 ∧ WV ad cA g2 Fb z2) (fun (u : Nat → va_E) (t : State) => va_P (dC, dI) vwCl (wo ad NSc u) t.heap) A) (0) (0) A := by
  refine Met.ofW (cc := cX2_becomeRatio) (maxL := 3) (ret := none) (by decide) rfl ?_
  intro p e s m args below meth c s₁ B hml hv
  obtain ⟨rfl, hA, hP, hL⟩ := hv
  have hx := B.exec
  have hb := B.bytes
  have hr := B.returns
  have hts := atoms_spec (ws := wd_V2_becomeRatio) B.pre
  have hown : s.vm.findClass RX2 = some m.cls := findClass_of_methodNamed B.named
  have hlocks := B.notSynchronized
  have hK := hL.1
  have hD : ∀ g, va_D A (wo ad NSc g) := fun g => wo_D hL.2.1 hL.2.2 g
  have hS : va_S A s.heap s.heap [] := va_S.rf
  have bk0 : ∀ w ∈ u_ws RX2 TX2 2, w ∈ wd_V2_becomeRatio := fun _ h => List.mem_cons_of_mem _ (List.mem_append_right _ (List.mem_append_left _ h))
  have bk1 : ∀ w ∈ wd_V8_put, w ∈ wd_V2_becomeRatio := fun _ h => List.mem_cons_of_mem _ (List.mem_append_right _ (List.mem_append_right _ (List.mem_append_left _ h)))
  have hl := lv_entry ([.ref (ad F), .int v1, .int v2]) (n := 3) (Nat.le_of_ble_eq_true rfl)
  rw [lg_entry_eq]
  generalize (lg_sl ([.ref (ad F), .int v1, .int v2]) ++ List.replicate (3 - (lg_sl ([.ref (ad F), .int v1, .int v2])).length) Slot.unset).toArray = ls at hl ⊢
  have hl : lv_has ls 3 [(0, .ref (ad F)), (1, .int v1), (2, .int v2)] := hl
  refine lv_aload_n hx hb dX2_becomeRatio_0 rfl (lv_at hl 0 rfl) ?_
  refine m_get (D := (dC, dI)) (v := .ref (ad (2 * Fa))) (C := RX2) (T := TX2) (N := 2) hx hb hts bk0 hown hK hP F lF.1 hF rfl 0 (by decide) (hts (.fieldLink RX2 12 "GradientDesk$Fraction" "top" "LGradientDesk$Whole;") (List.mem_of_getElem? (i := 1) rfl)) (fun _ h9 => h9) rfl dX2_becomeRatio_1 ?_
  refine lv_iload_n hx hb dX2_becomeRatio_4 rfl (lv_at hl 1 rfl) ?_
  refine lv_i2l hx hb dX2_becomeRatio_5 rfl ?_
  refine lv_topl (fun y_1 e_2 => ?_)
  obtain ⟨mw_3, sw_3, nw_3, fw_3, aw_3, bw_3, cw_3, dw_3, ew_3⟩ := hAW Fa (by omega)
  have qw_3 : mw_3 ≤ 4096 := by rw [dw_3]; exact rmc_le _
  have hbFa : z1.natAbs < 2 ^ 62 := by have h9 := Int32.le_toInt v1; have h8 := Int32.toInt_lt v1; omega
  refine va_callv (va_runV (As := [.long y_1]) (rest := []) ⟨hx, hb, hml, hown, hts⟩ (c_V8_put l dC dI A ad cA g Fa y_1 z1 hAW (by omega) (by have := rmc_ge Fa; omega) (by rw [e_2, Int32.toInt_toInt64]; exact hz1) hbFa) (cwV 1 hts (goodIn_app (goodIn_r [Cond.methodLink RX2 21 yX8_put, Cond.instanceMethod yX8_put, Cond.selects RX8 yX8_put yX8_put, Cond.initialized RX8] [2, 3, 4, 5] rfl rfl) (goodIn_sub (fun w9 h9 => bk1 w9 h9) gw_V8_put)) rfl rfl rfl (by decide +kernel) ⟨Nat.le_of_ble_eq_true rfl, Nat.le_of_ble_eq_true rfl⟩) ⟨fun a U g mk q => ⟨q.1, q.2.1, q.2.2.1, LY.moved (u := U) (U := U.calling g mk a) (Vm.Alike.refl U.vm) q.2.2.2⟩, va_recv hK hP (ci := 11) (q0 := (2 * Fa)) rfl (wo_at (ns_w (by omega)) aw_3), fun U hU hW => ⟨rfl, by rw [hU]; exact fun q h => hA q (Nat.le_trans hS.1 h), by rw [hU]; exact hP, LY.moved hW.alike hL⟩⟩ rfl rfl hl.1 rfl (lv_room (Nat.le_of_ble_eq_true rfl)) dX2_becomeRatio_6 ⟨(Nat.le_of_ble_eq_true rfl), (Nat.le_of_ble_eq_true rfl)⟩) hS (fun q _ h => h) (fun q h => h) (fun u8 t8 H1 locs ht8 hvm8 hw_6 hB hz1 hk1 hS => ?_)
  obtain ⟨g_7, rfl⟩ : ∃ z, z = u8 := ⟨_, rfl⟩
  try dsimp only at hw_6 hB
  rw [ht8] at hB
  have hP := hB
  generalize H1 = H at hP hS ⊢
  obtain ⟨fr_8, hAW_4, hv_5⟩ := hw_6
  refine lv_aload_n hx hb dX2_becomeRatio_9 rfl (lv_at hl 0 rfl) ?_
  have f_9 : g_7 F = .inr (5, [.ref (ad (2 * Fa)), .ref (ad (2 * Fb))]) := (fr_8 F (by omega)).trans hF
  refine m_get (D := (dC, dI)) (v := .ref (ad (2 * Fb))) (C := RX2) (T := TX2) (N := 2) hx hb hts bk0 hown hK hP F lF.1 f_9 rfl 1 (by decide) (hts (.fieldLink RX2 18 "GradientDesk$Fraction" "bottom" "LGradientDesk$Whole;") (List.mem_of_getElem? (i := 6) rfl)) (fun _ h9 => h9) rfl dX2_becomeRatio_10 ?_
  refine lv_iload_n hx hb dX2_becomeRatio_13 rfl (lv_at hl 2 rfl) ?_
  refine lv_i2l hx hb dX2_becomeRatio_14 rfl ?_
  refine lv_topl (fun y_10 e_11 => ?_)
  obtain ⟨mw_12, sw_12, nw_12, fw_12, aw_12, bw_12, cw_12, dw_12, ew_12⟩ := hAW_4 Fb (by omega)
  have qw_12 : mw_12 ≤ 4096 := by rw [dw_12]; exact rmc_le _
  have hbFb : z2.natAbs < 2 ^ 62 := by have h9 := Int32.le_toInt v2; have h8 := Int32.toInt_lt v2; omega
  refine va_callv (va_runV (As := [.long y_10]) (rest := []) ⟨hx, hb, hml, hown, hts⟩ (c_V8_put l dC dI A ad cA g_7 Fb y_10 z2 hAW_4 (by omega) (by have := rmc_ge Fb; omega) (by rw [e_11, Int32.toInt_toInt64]; exact hz2) hbFb) (cwV 1 hts (goodIn_app (goodIn_r [Cond.methodLink RX2 21 yX8_put, Cond.instanceMethod yX8_put, Cond.selects RX8 yX8_put yX8_put, Cond.initialized RX8] [2, 3, 4, 5] rfl rfl) (goodIn_sub (fun w9 h9 => bk1 w9 h9) gw_V8_put)) rfl rfl rfl (by decide +kernel) ⟨Nat.le_of_ble_eq_true rfl, Nat.le_of_ble_eq_true rfl⟩) ⟨fun a U g mk q => ⟨q.1, q.2.1, q.2.2.1, LY.moved (u := U) (U := U.calling g mk a) (Vm.Alike.refl U.vm) q.2.2.2⟩, va_recv hK hP (ci := 11) (q0 := (2 * Fb)) rfl (wo_at (ns_w (by omega)) aw_12), fun U hU hW => ⟨rfl, by rw [hU]; exact fun q h => hA q (Nat.le_trans hS.1 h), by rw [hU]; exact hP, LY.moved hW.alike hL⟩⟩ rfl rfl hl.1 rfl (lv_room (Nat.le_of_ble_eq_true rfl)) dX2_becomeRatio_15 ⟨(Nat.le_of_ble_eq_true rfl), (Nat.le_of_ble_eq_true rfl)⟩) hS (fun q _ h => h) (fun q h => h) (fun u8 t8 H1 locs ht8 hvm8 hw_15 hB hz1 hk1 hS => ?_)
  obtain ⟨g_16, rfl⟩ : ∃ z, z = u8 := ⟨_, rfl⟩
  try dsimp only at hw_15 hB
  rw [ht8] at hB
  have hP := hB
  generalize H1 = H at hP hS ⊢
  obtain ⟨fr_17, hAW_13, hv_14⟩ := hw_15
  have hv_18 : WV ad cA g_16 Fa z1 := WV.same hv_5 ((fun (k : Nat) (hk : k = 2 * Fa ∨ k = 2 * Fa + 1) => (fr_17 k (by omega)).trans (rfl)) _ (Or.inl rfl)) ((fun (k : Nat) (hk : k = 2 * Fa ∨ k = 2 * Fa + 1) => (fr_17 k (by omega)).trans (rfl)) _ (Or.inr rfl))
  refine W.widen (k := 0) (n := 0) (by omega) (by omega) ?_
  exact W.vret hx hb hr (fun t9 ht9 hW9 => ⟨⟨g_16, rfl, ⟨(fun (k : Nat) (hk : k ≠ 2 * Fa ∧ k ≠ 2 * Fa + 1 ∧ k ≠ 2 * Fb ∧ k ≠ 2 * Fb + 1) => (fr_17 k (by omega)).trans ((fr_8 k (by omega)).trans (rfl))), hAW_13, hv_18, hv_14⟩, by show va_P (dC, dI) vwCl _ t9.heap; rw [ht9]; exact hP⟩, hS.F ht9⟩) hS.2.2 dX2_becomeRatio_18
def wd_V0_add : List Cond := .code yX0_add cX0_add 5 none :: (([.fieldLink RX0 14 "GradientDesk$Arithmetic" "left" "LGradientDesk$Whole;", .fieldLink RX0 29 "GradientDesk$Fraction" "top" "LGradientDesk$Whole;", .fieldLink RX0 34 "GradientDesk$Fraction" "bottom" "LGradientDesk$Whole;", .methodLink RX0 37 yX8_multiply, .instanceMethod yX8_multiply, .selects RX8 yX8_multiply yX8_multiply, .initialized RX8, .fieldLink RX0 20 "GradientDesk$Arithmetic" "right" "LGradientDesk$Whole;", .methodLink RX0 44 yX8_add, .instanceMethod yX8_add, .selects RX8 yX8_add yX8_add] : List Cond) ++ (u_ws RX0 TX0 4 ++ (u_ws RX2 TX2 2 ++ (wd_V8_multiply ++ (wd_V8_add ++ ([]))))))
theorem gw_V0_add : wd_V0_add.all goodWord = true := k_allc rfl (k_all (by decide +kernel) (k_all (gu_X0) (k_all (gu_X2) (k_all (gw_V8_multiply) (k_all (gw_V8_add) (rfl))))))
set_option maxHeartbeats 4000000 in
set_option maxRecDepth 100000 in
theorem c_V0_add (l : Launch) (dC : Nat → ClassId) (dI : Nat → Nat → Nat) (A : Nat → Prop) (ad : Nat → Nat) (cA : Nat → ClassId) (g : Nat → va_E) (X : Nat) (Xa : Nat) (Xb : Nat) (Y : Nat) (Ya : Nat) (Yb : Nat) (xp : Int) (xq : Int) (yp : Int) (yq : Int) (hAW : AW ad cA g) (hAr : g 2077 = .inr (3, [.ref (ad (2 * 0)), .ref (ad (2 * 1)), .ref (ad (2 * 2)), .ref (ad (2 * 3))])) (hWk : g 2107 = .inr (5, [.ref (ad (2 * 4)), .ref (ad (2 * 5))])) (hX : g X = .inr (5, [.ref (ad (2 * Xa)), .ref (ad (2 * Xb))])) (lX : X < NSc ∧ 2076 ≤ X) (jX : 4 ≤ Xa ∧ Xa < 1038 ∧ 4 ≤ Xb ∧ Xb < 1038 ∧ Xa ≠ Xb) (hY : g Y = .inr (5, [.ref (ad (2 * Ya)), .ref (ad (2 * Yb))])) (lY : Y < NSc ∧ 2076 ≤ Y) (jY : 4 ≤ Ya ∧ Ya < 1038 ∧ 4 ≤ Yb ∧ Yb < 1038 ∧ Ya ≠ Yb) (nX : 13 ≤ Xa ∧ 13 ≤ Xb) (nY : 13 ≤ Ya ∧ 13 ≤ Yb) (wXa : WV ad cA g Xa xp) (wXb : WV ad cA g Xb xq) (wYa : WV ad cA g Ya yp) (wYb : WV ad cA g Yb yq) (bxp : xp.natAbs < 4294967296 ^ 13) (bxq : xq.natAbs < 4294967296 ^ 13) (byp : yp.natAbs < 4294967296 ^ 13) (byq : yq.natAbs < 4294967296 ^ 13) : Met l yX0_add wd_V0_add ({ frames := 40, cells := 0, slots := 0, locals := 800 }) (va_Pc [.ref (ad 2077), .ref (ad X), .ref (ad Y), .int (nI 0), .ref (ad 2107)] (PR NSc tyc dC dI A ad cA g)) (va_Qv (fun (u : Nat → va_E) => match u with | g2 => (∀ k, 12 ≤ k → g2 k = g k) ∧ AW ad cA g2 ∧ WV ad cA g2 4 (xp * yq + yp * xq) ∧ WV ad cA g2 5 (xq * yq)) (fun (u : Nat → va_E) (t : State) => va_P (dC, dI) vwCl (wo ad NSc u) t.heap) A) (0) (0) A := by
  refine Met.ofW (cc := cX0_add) (maxL := 5) (ret := none) (by decide) rfl ?_
  intro p e s m args below meth c s₁ B hml hv
  obtain ⟨rfl, hA, hP, hL⟩ := hv
  have hx := B.exec
  have hb := B.bytes
  have hr := B.returns
  have hts := atoms_spec (ws := wd_V0_add) B.pre
  have hown : s.vm.findClass RX0 = some m.cls := findClass_of_methodNamed B.named
  have hlocks := B.notSynchronized
  have hK := hL.1
  have hD : ∀ g, va_D A (wo ad NSc g) := fun g => wo_D hL.2.1 hL.2.2 g
  have hS : va_S A s.heap s.heap [] := va_S.rf
  have bk0 : ∀ w ∈ u_ws RX0 TX0 4, w ∈ wd_V0_add := fun _ h => List.mem_cons_of_mem _ (List.mem_append_right _ (List.mem_append_left _ h))
  have bk1 : ∀ w ∈ u_ws RX2 TX2 2, w ∈ wd_V0_add := fun _ h => List.mem_cons_of_mem _ (List.mem_append_right _ (List.mem_append_right _ (List.mem_append_left _ h)))
  have bk2 : ∀ w ∈ wd_V8_multiply, w ∈ wd_V0_add := fun _ h => List.mem_cons_of_mem _ (List.mem_append_right _ (List.mem_append_right _ (List.mem_append_right _ (List.mem_append_left _ h))))
  have bk3 : ∀ w ∈ wd_V8_add, w ∈ wd_V0_add := fun _ h => List.mem_cons_of_mem _ (List.mem_append_right _ (List.mem_append_right _ (List.mem_append_right _ (List.mem_append_right _ (List.mem_append_left _ h)))))
  have hl := lv_entry ([.ref (ad 2077), .ref (ad X), .ref (ad Y), .int (nI 0), .ref (ad 2107)]) (n := 5) (Nat.le_of_ble_eq_true rfl)
  rw [lg_entry_eq]
  generalize (lg_sl ([.ref (ad 2077), .ref (ad X), .ref (ad Y), .int (nI 0), .ref (ad 2107)]) ++ List.replicate (5 - (lg_sl ([.ref (ad 2077), .ref (ad X), .ref (ad Y), .int (nI 0), .ref (ad 2107)])).length) Slot.unset).toArray = ls at hl ⊢
  have hl : lv_has ls 5 [(0, .ref (ad 2077)), (1, .ref (ad X)), (2, .ref (ad Y)), (3, .int (nI 0)), (4, .ref (ad 2107))] := hl
  refine lv_aload_n hx hb dX0_add_0 rfl (lv_at hl 0 rfl) ?_
  refine m_get (D := (dC, dI)) (v := .ref (ad (2 * 0))) (C := RX0) (T := TX0) (N := 4) hx hb hts bk0 hown hK hP 2077 (by decide) hAr rfl 0 (by decide) (hts (.fieldLink RX0 14 "GradientDesk$Arithmetic" "left" "LGradientDesk$Whole;") (List.mem_of_getElem? (i := 1) rfl)) (fun _ h9 => h9) rfl dX0_add_1 ?_
  refine lv_aload_n hx hb dX0_add_4 rfl (lv_at hl 1 rfl) ?_
  refine m_get (D := (dC, dI)) (v := .ref (ad (2 * Xa))) (C := RX2) (T := TX2) (N := 2) hx hb hts bk1 hown hK hP X lX.1 hX rfl 0 (by decide) (hts (.fieldLink RX0 29 "GradientDesk$Fraction" "top" "LGradientDesk$Whole;") (List.mem_of_getElem? (i := 2) rfl)) (fun _ h9 => h9) rfl dX0_add_5 ?_
  refine lv_aload_n hx hb dX0_add_8 rfl (lv_at hl 2 rfl) ?_
  refine m_get (D := (dC, dI)) (v := .ref (ad (2 * Yb))) (C := RX2) (T := TX2) (N := 2) hx hb hts bk1 hown hK hP Y lY.1 hY rfl 1 (by decide) (hts (.fieldLink RX0 34 "GradientDesk$Fraction" "bottom" "LGradientDesk$Whole;") (List.mem_of_getElem? (i := 3) rfl)) (fun _ h9 => h9) rfl dX0_add_9 ?_
  obtain ⟨mw_1, sw_1, nw_1, fw_1, aw_1, bw_1, cw_1, dw_1, ew_1⟩ := hAW 0 (by omega)
  have qw_1 : mw_1 ≤ 4096 := by rw [dw_1]; exact rmc_le _
  refine va_callv (va_runV (As := [.ref (ad (2 * Xa)), .ref (ad (2 * Yb))]) (rest := []) ⟨hx, hb, hml, hown, hts⟩ (c_V8_multiply l dC dI A ad cA g 0 Xa Yb xp yq 13 13 hAW (by omega) (by omega) (by omega) wXa wYb (by omega) (by omega) bxp byq (by decide)) (cwV 2 hts (goodIn_app (goodIn_r [Cond.methodLink RX0 37 yX8_multiply, Cond.instanceMethod yX8_multiply, Cond.selects RX8 yX8_multiply yX8_multiply, Cond.initialized RX8] [4, 5, 6, 7] rfl rfl) (goodIn_sub (fun w9 h9 => bk2 w9 h9) gw_V8_multiply)) rfl rfl rfl (by decide +kernel) ⟨Nat.le_of_ble_eq_true rfl, Nat.le_of_ble_eq_true rfl⟩) ⟨fun a U g mk q => ⟨q.1, q.2.1, q.2.2.1, LY.moved (u := U) (U := U.calling g mk a) (Vm.Alike.refl U.vm) q.2.2.2⟩, va_recv hK hP (ci := 11) (q0 := (2 * 0)) rfl (wo_at (ns_w (by omega)) aw_1), fun U hU hW => ⟨rfl, by rw [hU]; exact fun q h => hA q (Nat.le_trans hS.1 h), by rw [hU]; exact hP, LY.moved hW.alike hL⟩⟩ rfl rfl hl.1 rfl (lv_room (Nat.le_of_ble_eq_true rfl)) dX0_add_12 ⟨(Nat.le_of_ble_eq_true rfl), (Nat.le_of_ble_eq_true rfl)⟩) hS (fun q _ h => h) (fun q h => h) (fun u8 t8 H1 locs ht8 hvm8 hw_4 hB hz1 hk1 hS => ?_)
  obtain ⟨g_5, rfl⟩ : ∃ z, z = u8 := ⟨_, rfl⟩
  try dsimp only at hw_4 hB
  rw [ht8] at hB
  have hP := hB
  generalize H1 = H at hP hS ⊢
  obtain ⟨fr_6, hAW_2, hv_3⟩ := hw_4
  refine lv_aload_n hx hb dX0_add_15 rfl (lv_at hl 0 rfl) ?_
  have f_7 : g_5 2077 = .inr (3, [.ref (ad (2 * 0)), .ref (ad (2 * 1)), .ref (ad (2 * 2)), .ref (ad (2 * 3))]) := (fr_6 2077 (by omega)).trans hAr
  refine m_get (D := (dC, dI)) (v := .ref (ad (2 * 1))) (C := RX0) (T := TX0) (N := 4) hx hb hts bk0 hown hK hP 2077 (by decide) f_7 rfl 1 (by decide) (hts (.fieldLink RX0 20 "GradientDesk$Arithmetic" "right" "LGradientDesk$Whole;") (List.mem_of_getElem? (i := 8) rfl)) (fun _ h9 => h9) rfl dX0_add_16 ?_
  refine lv_aload_n hx hb dX0_add_19 rfl (lv_at hl 2 rfl) ?_
  have f_8 : g_5 Y = .inr (5, [.ref (ad (2 * Ya)), .ref (ad (2 * Yb))]) := (fr_6 Y (by omega)).trans hY
  refine m_get (D := (dC, dI)) (v := .ref (ad (2 * Ya))) (C := RX2) (T := TX2) (N := 2) hx hb hts bk1 hown hK hP Y lY.1 f_8 rfl 0 (by decide) (hts (.fieldLink RX0 29 "GradientDesk$Fraction" "top" "LGradientDesk$Whole;") (List.mem_of_getElem? (i := 2) rfl)) (fun _ h9 => h9) rfl dX0_add_20 ?_
  refine lv_aload_n hx hb dX0_add_23 rfl (lv_at hl 1 rfl) ?_
  have f_9 : g_5 X = .inr (5, [.ref (ad (2 * Xa)), .ref (ad (2 * Xb))]) := (fr_6 X (by omega)).trans hX
  refine m_get (D := (dC, dI)) (v := .ref (ad (2 * Xb))) (C := RX2) (T := TX2) (N := 2) hx hb hts bk1 hown hK hP X lX.1 f_9 rfl 1 (by decide) (hts (.fieldLink RX0 34 "GradientDesk$Fraction" "bottom" "LGradientDesk$Whole;") (List.mem_of_getElem? (i := 3) rfl)) (fun _ h9 => h9) rfl dX0_add_24 ?_
  obtain ⟨mw_10, sw_10, nw_10, fw_10, aw_10, bw_10, cw_10, dw_10, ew_10⟩ := hAW_2 1 (by omega)
  have qw_10 : mw_10 ≤ 4096 := by rw [dw_10]; exact rmc_le _
  have hv_11 : WV ad cA g_5 Ya yp := WV.same wYa ((fun (k : Nat) (hk : k = 2 * Ya ∨ k = 2 * Ya + 1) => (fr_6 k (by omega)).trans (rfl)) _ (Or.inl rfl)) ((fun (k : Nat) (hk : k = 2 * Ya ∨ k = 2 * Ya + 1) => (fr_6 k (by omega)).trans (rfl)) _ (Or.inr rfl))
  have hv_12 : WV ad cA g_5 Xb xq := WV.same wXb ((fun (k : Nat) (hk : k = 2 * Xb ∨ k = 2 * Xb + 1) => (fr_6 k (by omega)).trans (rfl)) _ (Or.inl rfl)) ((fun (k : Nat) (hk : k = 2 * Xb ∨ k = 2 * Xb + 1) => (fr_6 k (by omega)).trans (rfl)) _ (Or.inr rfl))
  refine va_callv (va_runV (As := [.ref (ad (2 * Ya)), .ref (ad (2 * Xb))]) (rest := []) ⟨hx, hb, hml, hown, hts⟩ (c_V8_multiply l dC dI A ad cA g_5 1 Ya Xb yp xq 13 13 hAW_2 (by omega) (by omega) (by omega) hv_11 hv_12 (by omega) (by omega) byp bxq (by decide)) (cwV 2 hts (goodIn_app (goodIn_r [Cond.methodLink RX0 37 yX8_multiply, Cond.instanceMethod yX8_multiply, Cond.selects RX8 yX8_multiply yX8_multiply, Cond.initialized RX8] [4, 5, 6, 7] rfl rfl) (goodIn_sub (fun w9 h9 => bk2 w9 h9) gw_V8_multiply)) rfl rfl rfl (by decide +kernel) ⟨Nat.le_of_ble_eq_true rfl, Nat.le_of_ble_eq_true rfl⟩) ⟨fun a U g mk q => ⟨q.1, q.2.1, q.2.2.1, LY.moved (u := U) (U := U.calling g mk a) (Vm.Alike.refl U.vm) q.2.2.2⟩, va_recv hK hP (ci := 11) (q0 := (2 * 1)) rfl (wo_at (ns_w (by omega)) aw_10), fun U hU hW => ⟨rfl, by rw [hU]; exact fun q h => hA q (Nat.le_trans hS.1 h), by rw [hU]; exact hP, LY.moved hW.alike hL⟩⟩ rfl rfl hl.1 rfl (lv_room (Nat.le_of_ble_eq_true rfl)) dX0_add_27 ⟨(Nat.le_of_ble_eq_true rfl), (Nat.le_of_ble_eq_true rfl)⟩) hS (fun q _ h => h) (fun q h => h) (fun u8 t8 H1 locs ht8 hvm8 hw_15 hB hz1 hk1 hS => ?_)
  obtain ⟨g_16, rfl⟩ : ∃ z, z = u8 := ⟨_, rfl⟩
  try dsimp only at hw_15 hB
  rw [ht8] at hB
  have hP := hB
  generalize H1 = H at hP hS ⊢
  obtain ⟨fr_17, hAW_13, hv_14⟩ := hw_15
  refine lv_iload_n hx hb dX0_add_30 rfl (lv_at hl 3 rfl) ?_
  refine lv_if_eq (tgt := 41) hx hb dX0_add_31 (by decide) (fun c_18 => ?_) (fun c_18 => absurd c_18 (by decide))
  refine lv_aload hx hb dX0_add_41 (lv_at hl 4 rfl) ?_
  have f_19 : g_16 2107 = .inr (5, [.ref (ad (2 * 4)), .ref (ad (2 * 5))]) := (fr_17 2107 (by omega)).trans ((fr_6 2107 (by omega)).trans hWk)
  refine m_get (D := (dC, dI)) (v := .ref (ad (2 * 4))) (C := RX2) (T := TX2) (N := 2) hx hb hts bk1 hown hK hP 2107 (by decide) f_19 rfl 0 (by decide) (hts (.fieldLink RX0 29 "GradientDesk$Fraction" "top" "LGradientDesk$Whole;") (List.mem_of_getElem? (i := 2) rfl)) (fun _ h9 => h9) rfl dX0_add_43 ?_
  refine lv_aload_n hx hb dX0_add_46 rfl (lv_at hl 0 rfl) ?_
  have f_20 : g_16 2077 = .inr (3, [.ref (ad (2 * 0)), .ref (ad (2 * 1)), .ref (ad (2 * 2)), .ref (ad (2 * 3))]) := (fr_17 2077 (by omega)).trans f_7
  refine m_get (D := (dC, dI)) (v := .ref (ad (2 * 0))) (C := RX0) (T := TX0) (N := 4) hx hb hts bk0 hown hK hP 2077 (by decide) f_20 rfl 0 (by decide) (hts (.fieldLink RX0 14 "GradientDesk$Arithmetic" "left" "LGradientDesk$Whole;") (List.mem_of_getElem? (i := 1) rfl)) (fun _ h9 => h9) rfl dX0_add_47 ?_
  refine lv_aload_n hx hb dX0_add_50 rfl (lv_at hl 0 rfl) ?_
  refine m_get (D := (dC, dI)) (v := .ref (ad (2 * 1))) (C := RX0) (T := TX0) (N := 4) hx hb hts bk0 hown hK hP 2077 (by decide) f_20 rfl 1 (by decide) (hts (.fieldLink RX0 20 "GradientDesk$Arithmetic" "right" "LGradientDesk$Whole;") (List.mem_of_getElem? (i := 8) rfl)) (fun _ h9 => h9) rfl dX0_add_51 ?_
  obtain ⟨mw_21, sw_21, nw_21, fw_21, aw_21, bw_21, cw_21, dw_21, ew_21⟩ := hAW_13 4 (by omega)
  have qw_21 : mw_21 ≤ 4096 := by rw [dw_21]; exact rmc_le _
  have hv_22 : WV ad cA g_16 0 (xp * yq) := WV.same hv_3 ((fun (k : Nat) (hk : k = 2 * 0 ∨ k = 2 * 0 + 1) => (fr_17 k (by omega)).trans (rfl)) _ (Or.inl rfl)) ((fun (k : Nat) (hk : k = 2 * 0 ∨ k = 2 * 0 + 1) => (fr_17 k (by omega)).trans (rfl)) _ (Or.inr rfl))
  refine va_callv (va_runV (As := [.ref (ad (2 * 0)), .ref (ad (2 * 1))]) (rest := []) ⟨hx, hb, hml, hown, hts⟩ (c_V8_add l dC dI A ad cA g_16 4 0 1 (xp * yq) (yp * xq) 26 hAW_13 (by decide) (by decide) (by decide) hv_22 hv_14 (by decide) (by decide) (by rw [Int.natAbs_mul]; exact p13 bxp byq) (by rw [Int.natAbs_mul]; exact p13 byp bxq) (by decide)) (cwV 2 hts (goodIn_app (goodIn_r [Cond.methodLink RX0 44 yX8_add, Cond.instanceMethod yX8_add, Cond.selects RX8 yX8_add yX8_add, Cond.initialized RX8] [9, 10, 11, 7] rfl rfl) (goodIn_sub (fun w9 h9 => bk3 w9 h9) gw_V8_add)) rfl rfl rfl (by decide +kernel) ⟨Nat.le_of_ble_eq_true rfl, Nat.le_of_ble_eq_true rfl⟩) ⟨fun a U g mk q => ⟨q.1, q.2.1, q.2.2.1, LY.moved (u := U) (U := U.calling g mk a) (Vm.Alike.refl U.vm) q.2.2.2⟩, va_recv hK hP (ci := 11) (q0 := (2 * 4)) rfl (wo_at (ns_w (by omega)) aw_21), fun U hU hW => ⟨rfl, by rw [hU]; exact fun q h => hA q (Nat.le_trans hS.1 h), by rw [hU]; exact hP, LY.moved hW.alike hL⟩⟩ rfl rfl hl.1 rfl (lv_room (Nat.le_of_ble_eq_true rfl)) dX0_add_54 ⟨(Nat.le_of_ble_eq_true rfl), (Nat.le_of_ble_eq_true rfl)⟩) hS (fun q _ h => h) (fun q h => h) (fun u8 t8 H1 locs ht8 hvm8 hw_25 hB hz1 hk1 hS => ?_)
  obtain ⟨g_26, rfl⟩ : ∃ z, z = u8 := ⟨_, rfl⟩
  try dsimp only at hw_25 hB
  rw [ht8] at hB
  have hP := hB
  generalize H1 = H at hP hS ⊢
  obtain ⟨fr_27, hAW_23, hv_24⟩ := hw_25
  refine lv_aload hx hb dX0_add_57 (lv_at hl 4 rfl) ?_
  have f_28 : g_26 2107 = .inr (5, [.ref (ad (2 * 4)), .ref (ad (2 * 5))]) := (fr_27 2107 (by omega)).trans f_19
  refine m_get (D := (dC, dI)) (v := .ref (ad (2 * 5))) (C := RX2) (T := TX2) (N := 2) hx hb hts bk1 hown hK hP 2107 (by decide) f_28 rfl 1 (by decide) (hts (.fieldLink RX0 34 "GradientDesk$Fraction" "bottom" "LGradientDesk$Whole;") (List.mem_of_getElem? (i := 3) rfl)) (fun _ h9 => h9) rfl dX0_add_59 ?_
  refine lv_aload_n hx hb dX0_add_62 rfl (lv_at hl 1 rfl) ?_
  have f_29 : g_26 X = .inr (5, [.ref (ad (2 * Xa)), .ref (ad (2 * Xb))]) := (fr_27 X (by omega)).trans ((fr_17 X (by omega)).trans f_9)
  refine m_get (D := (dC, dI)) (v := .ref (ad (2 * Xb))) (C := RX2) (T := TX2) (N := 2) hx hb hts bk1 hown hK hP X lX.1 f_29 rfl 1 (by decide) (hts (.fieldLink RX0 34 "GradientDesk$Fraction" "bottom" "LGradientDesk$Whole;") (List.mem_of_getElem? (i := 3) rfl)) (fun _ h9 => h9) rfl dX0_add_63 ?_
  refine lv_aload_n hx hb dX0_add_66 rfl (lv_at hl 2 rfl) ?_
  have f_30 : g_26 Y = .inr (5, [.ref (ad (2 * Ya)), .ref (ad (2 * Yb))]) := (fr_27 Y (by omega)).trans ((fr_17 Y (by omega)).trans f_8)
  refine m_get (D := (dC, dI)) (v := .ref (ad (2 * Yb))) (C := RX2) (T := TX2) (N := 2) hx hb hts bk1 hown hK hP Y lY.1 f_30 rfl 1 (by decide) (hts (.fieldLink RX0 34 "GradientDesk$Fraction" "bottom" "LGradientDesk$Whole;") (List.mem_of_getElem? (i := 3) rfl)) (fun _ h9 => h9) rfl dX0_add_67 ?_
  obtain ⟨mw_31, sw_31, nw_31, fw_31, aw_31, bw_31, cw_31, dw_31, ew_31⟩ := hAW_23 5 (by omega)
  have qw_31 : mw_31 ≤ 4096 := by rw [dw_31]; exact rmc_le _
  have hv_32 : WV ad cA g_26 Xb xq := WV.same hv_12 ((fun (k : Nat) (hk : k = 2 * Xb ∨ k = 2 * Xb + 1) => (fr_27 k (by omega)).trans ((fr_17 k (by omega)).trans (rfl))) _ (Or.inl rfl)) ((fun (k : Nat) (hk : k = 2 * Xb ∨ k = 2 * Xb + 1) => (fr_27 k (by omega)).trans ((fr_17 k (by omega)).trans (rfl))) _ (Or.inr rfl))
  have hv_33 : WV ad cA g_26 Yb yq := WV.same wYb ((fun (k : Nat) (hk : k = 2 * Yb ∨ k = 2 * Yb + 1) => (fr_27 k (by omega)).trans ((fr_17 k (by omega)).trans ((fr_6 k (by omega)).trans (rfl)))) _ (Or.inl rfl)) ((fun (k : Nat) (hk : k = 2 * Yb ∨ k = 2 * Yb + 1) => (fr_27 k (by omega)).trans ((fr_17 k (by omega)).trans ((fr_6 k (by omega)).trans (rfl)))) _ (Or.inr rfl))
  refine va_callv (va_runV (As := [.ref (ad (2 * Xb)), .ref (ad (2 * Yb))]) (rest := []) ⟨hx, hb, hml, hown, hts⟩ (c_V8_multiply l dC dI A ad cA g_26 5 Xb Yb xq yq 13 13 hAW_23 (by omega) (by omega) (by omega) hv_32 hv_33 (by omega) (by omega) bxq byq (by decide)) (cwV 2 hts (goodIn_app (goodIn_r [Cond.methodLink RX0 37 yX8_multiply, Cond.instanceMethod yX8_multiply, Cond.selects RX8 yX8_multiply yX8_multiply, Cond.initialized RX8] [4, 5, 6, 7] rfl rfl) (goodIn_sub (fun w9 h9 => bk2 w9 h9) gw_V8_multiply)) rfl rfl rfl (by decide +kernel) ⟨Nat.le_of_ble_eq_true rfl, Nat.le_of_ble_eq_true rfl⟩) ⟨fun a U g mk q => ⟨q.1, q.2.1, q.2.2.1, LY.moved (u := U) (U := U.calling g mk a) (Vm.Alike.refl U.vm) q.2.2.2⟩, va_recv hK hP (ci := 11) (q0 := (2 * 5)) rfl (wo_at (ns_w (by omega)) aw_31), fun U hU hW => ⟨rfl, by rw [hU]; exact fun q h => hA q (Nat.le_trans hS.1 h), by rw [hU]; exact hP, LY.moved hW.alike hL⟩⟩ rfl rfl hl.1 rfl (lv_room (Nat.le_of_ble_eq_true rfl)) dX0_add_70 ⟨(Nat.le_of_ble_eq_true rfl), (Nat.le_of_ble_eq_true rfl)⟩) hS (fun q _ h => h) (fun q h => h) (fun u8 t8 H1 locs ht8 hvm8 hw_36 hB hz1 hk1 hS => ?_)
  obtain ⟨g_37, rfl⟩ : ∃ z, z = u8 := ⟨_, rfl⟩
  try dsimp only at hw_36 hB
  rw [ht8] at hB
  have hP := hB
  generalize H1 = H at hP hS ⊢
  obtain ⟨fr_38, hAW_34, hv_35⟩ := hw_36
  have hv_39 : WV ad cA g_37 4 (xp * yq + yp * xq) := WV.same hv_24 ((fun (k : Nat) (hk : k = 2 * 4 ∨ k = 2 * 4 + 1) => (fr_38 k (by omega)).trans (rfl)) _ (Or.inl rfl)) ((fun (k : Nat) (hk : k = 2 * 4 ∨ k = 2 * 4 + 1) => (fr_38 k (by omega)).trans (rfl)) _ (Or.inr rfl))
  refine W.widen (k := 0) (n := 0) (by omega) (by omega) ?_
  exact W.vret hx hb hr (fun t9 ht9 hW9 => ⟨⟨g_37, rfl, ⟨(fun (k : Nat) (hk : 12 ≤ k) => (fr_38 k (by omega)).trans ((fr_27 k (by omega)).trans ((fr_17 k (by omega)).trans ((fr_6 k (by omega)).trans (rfl))))), hAW_34, hv_39, hv_35⟩, by show va_P (dC, dI) vwCl _ t9.heap; rw [ht9]; exact hP⟩, hS.F ht9⟩) hS.2.2 dX0_add_73
def wd_V0_multiply : List Cond := .code yX0_multiply cX0_multiply 4 none :: (([.fieldLink RX0 29 "GradientDesk$Fraction" "top" "LGradientDesk$Whole;", .methodLink RX0 37 yX8_multiply, .instanceMethod yX8_multiply, .selects RX8 yX8_multiply yX8_multiply, .initialized RX8, .fieldLink RX0 34 "GradientDesk$Fraction" "bottom" "LGradientDesk$Whole;"] : List Cond) ++ (u_ws RX2 TX2 2 ++ (wd_V8_multiply ++ ([]))))
theorem gw_V0_multiply : wd_V0_multiply.all goodWord = true := k_allc rfl (k_all (by decide +kernel) (k_all (gu_X2) (k_all (gw_V8_multiply) (rfl))))
set_option maxHeartbeats 4000000 in
set_option maxRecDepth 100000 in
theorem c_V0_multiply (l : Launch) (dC : Nat → ClassId) (dI : Nat → Nat → Nat) (A : Nat → Prop) (ad : Nat → Nat) (cA : Nat → ClassId) (g : Nat → va_E) (X : Nat) (Xa : Nat) (Xb : Nat) (Y : Nat) (Ya : Nat) (Yb : Nat) (xp : Int) (xq : Int) (yp : Int) (yq : Int) (hAW : AW ad cA g) (hAr : g 2077 = .inr (3, [.ref (ad (2 * 0)), .ref (ad (2 * 1)), .ref (ad (2 * 2)), .ref (ad (2 * 3))])) (hWk : g 2107 = .inr (5, [.ref (ad (2 * 4)), .ref (ad (2 * 5))])) (hX : g X = .inr (5, [.ref (ad (2 * Xa)), .ref (ad (2 * Xb))])) (lX : X < NSc ∧ 2076 ≤ X) (jX : 4 ≤ Xa ∧ Xa < 1038 ∧ 4 ≤ Xb ∧ Xb < 1038 ∧ Xa ≠ Xb) (hY : g Y = .inr (5, [.ref (ad (2 * Ya)), .ref (ad (2 * Yb))])) (lY : Y < NSc ∧ 2076 ≤ Y) (jY : 4 ≤ Ya ∧ Ya < 1038 ∧ 4 ≤ Yb ∧ Yb < 1038 ∧ Ya ≠ Yb) (nX : 13 ≤ Xa ∧ 13 ≤ Xb) (nY : 13 ≤ Ya ∧ 13 ≤ Yb) (wXa : WV ad cA g Xa xp) (wXb : WV ad cA g Xb xq) (wYa : WV ad cA g Ya yp) (wYb : WV ad cA g Yb yq) (bxp : xp.natAbs < 4294967296 ^ 13) (bxq : xq.natAbs < 4294967296 ^ 13) (byp : yp.natAbs < 4294967296 ^ 13) (byq : yq.natAbs < 4294967296 ^ 13) : Met l yX0_multiply wd_V0_multiply ({ frames := 40, cells := 0, slots := 0, locals := 800 }) (va_Pc [.ref (ad 2077), .ref (ad X), .ref (ad Y), .ref (ad 2107)] (PR NSc tyc dC dI A ad cA g)) (va_Qv (fun (u : Nat → va_E) => match u with | g2 => (∀ k, 12 ≤ k → g2 k = g k) ∧ AW ad cA g2 ∧ WV ad cA g2 4 (xp * yp) ∧ WV ad cA g2 5 (xq * yq)) (fun (u : Nat → va_E) (t : State) => va_P (dC, dI) vwCl (wo ad NSc u) t.heap) A) (0) (0) A := by
  refine Met.ofW (cc := cX0_multiply) (maxL := 4) (ret := none) (by decide) rfl ?_
  intro p e s m args below meth c s₁ B hml hv
  obtain ⟨rfl, hA, hP, hL⟩ := hv
  have hx := B.exec
  have hb := B.bytes
  have hr := B.returns
  have hts := atoms_spec (ws := wd_V0_multiply) B.pre
  have hown : s.vm.findClass RX0 = some m.cls := findClass_of_methodNamed B.named
  have hlocks := B.notSynchronized
  have hK := hL.1
  have hD : ∀ g, va_D A (wo ad NSc g) := fun g => wo_D hL.2.1 hL.2.2 g
  have hS : va_S A s.heap s.heap [] := va_S.rf
  have bk0 : ∀ w ∈ u_ws RX2 TX2 2, w ∈ wd_V0_multiply := fun _ h => List.mem_cons_of_mem _ (List.mem_append_right _ (List.mem_append_left _ h))
  have bk1 : ∀ w ∈ wd_V8_multiply, w ∈ wd_V0_multiply := fun _ h => List.mem_cons_of_mem _ (List.mem_append_right _ (List.mem_append_right _ (List.mem_append_left _ h)))
  have hl := lv_entry ([.ref (ad 2077), .ref (ad X), .ref (ad Y), .ref (ad 2107)]) (n := 4) (Nat.le_of_ble_eq_true rfl)
  rw [lg_entry_eq]
  generalize (lg_sl ([.ref (ad 2077), .ref (ad X), .ref (ad Y), .ref (ad 2107)]) ++ List.replicate (4 - (lg_sl ([.ref (ad 2077), .ref (ad X), .ref (ad Y), .ref (ad 2107)])).length) Slot.unset).toArray = ls at hl ⊢
  have hl : lv_has ls 4 [(0, .ref (ad 2077)), (1, .ref (ad X)), (2, .ref (ad Y)), (3, .ref (ad 2107))] := hl
  refine lv_aload_n hx hb dX0_multiply_0 rfl (lv_at hl 3 rfl) ?_
  refine m_get (D := (dC, dI)) (v := .ref (ad (2 * 4))) (C := RX2) (T := TX2) (N := 2) hx hb hts bk0 hown hK hP 2107 (by decide) hWk rfl 0 (by decide) (hts (.fieldLink RX0 29 "GradientDesk$Fraction" "top" "LGradientDesk$Whole;") (List.mem_of_getElem? (i := 1) rfl)) (fun _ h9 => h9) rfl dX0_multiply_1 ?_
  refine lv_aload_n hx hb dX0_multiply_4 rfl (lv_at hl 1 rfl) ?_
  refine m_get (D := (dC, dI)) (v := .ref (ad (2 * Xa))) (C := RX2) (T := TX2) (N := 2) hx hb hts bk0 hown hK hP X lX.1 hX rfl 0 (by decide) (hts (.fieldLink RX0 29 "GradientDesk$Fraction" "top" "LGradientDesk$Whole;") (List.mem_of_getElem? (i := 1) rfl)) (fun _ h9 => h9) rfl dX0_multiply_5 ?_
  refine lv_aload_n hx hb dX0_multiply_8 rfl (lv_at hl 2 rfl) ?_
  refine m_get (D := (dC, dI)) (v := .ref (ad (2 * Ya))) (C := RX2) (T := TX2) (N := 2) hx hb hts bk0 hown hK hP Y lY.1 hY rfl 0 (by decide) (hts (.fieldLink RX0 29 "GradientDesk$Fraction" "top" "LGradientDesk$Whole;") (List.mem_of_getElem? (i := 1) rfl)) (fun _ h9 => h9) rfl dX0_multiply_9 ?_
  obtain ⟨mw_1, sw_1, nw_1, fw_1, aw_1, bw_1, cw_1, dw_1, ew_1⟩ := hAW 4 (by omega)
  have qw_1 : mw_1 ≤ 4096 := by rw [dw_1]; exact rmc_le _
  refine va_callv (va_runV (As := [.ref (ad (2 * Xa)), .ref (ad (2 * Ya))]) (rest := []) ⟨hx, hb, hml, hown, hts⟩ (c_V8_multiply l dC dI A ad cA g 4 Xa Ya xp yp 13 13 hAW (by omega) (by omega) (by omega) wXa wYa (by omega) (by omega) bxp byp (by decide)) (cwV 2 hts (goodIn_app (goodIn_r [Cond.methodLink RX0 37 yX8_multiply, Cond.instanceMethod yX8_multiply, Cond.selects RX8 yX8_multiply yX8_multiply, Cond.initialized RX8] [2, 3, 4, 5] rfl rfl) (goodIn_sub (fun w9 h9 => bk1 w9 h9) gw_V8_multiply)) rfl rfl rfl (by decide +kernel) ⟨Nat.le_of_ble_eq_true rfl, Nat.le_of_ble_eq_true rfl⟩) ⟨fun a U g mk q => ⟨q.1, q.2.1, q.2.2.1, LY.moved (u := U) (U := U.calling g mk a) (Vm.Alike.refl U.vm) q.2.2.2⟩, va_recv hK hP (ci := 11) (q0 := (2 * 4)) rfl (wo_at (ns_w (by omega)) aw_1), fun U hU hW => ⟨rfl, by rw [hU]; exact fun q h => hA q (Nat.le_trans hS.1 h), by rw [hU]; exact hP, LY.moved hW.alike hL⟩⟩ rfl rfl hl.1 rfl (lv_room (Nat.le_of_ble_eq_true rfl)) dX0_multiply_12 ⟨(Nat.le_of_ble_eq_true rfl), (Nat.le_of_ble_eq_true rfl)⟩) hS (fun q _ h => h) (fun q h => h) (fun u8 t8 H1 locs ht8 hvm8 hw_4 hB hz1 hk1 hS => ?_)
  obtain ⟨g_5, rfl⟩ : ∃ z, z = u8 := ⟨_, rfl⟩
  try dsimp only at hw_4 hB
  rw [ht8] at hB
  have hP := hB
  generalize H1 = H at hP hS ⊢
  obtain ⟨fr_6, hAW_2, hv_3⟩ := hw_4
  refine lv_aload_n hx hb dX0_multiply_15 rfl (lv_at hl 3 rfl) ?_
  have f_7 : g_5 2107 = .inr (5, [.ref (ad (2 * 4)), .ref (ad (2 * 5))]) := (fr_6 2107 (by omega)).trans hWk
  refine m_get (D := (dC, dI)) (v := .ref (ad (2 * 5))) (C := RX2) (T := TX2) (N := 2) hx hb hts bk0 hown hK hP 2107 (by decide) f_7 rfl 1 (by decide) (hts (.fieldLink RX0 34 "GradientDesk$Fraction" "bottom" "LGradientDesk$Whole;") (List.mem_of_getElem? (i := 6) rfl)) (fun _ h9 => h9) rfl dX0_multiply_16 ?_
  refine lv_aload_n hx hb dX0_multiply_19 rfl (lv_at hl 1 rfl) ?_
  have f_8 : g_5 X = .inr (5, [.ref (ad (2 * Xa)), .ref (ad (2 * Xb))]) := (fr_6 X (by omega)).trans hX
  refine m_get (D := (dC, dI)) (v := .ref (ad (2 * Xb))) (C := RX2) (T := TX2) (N := 2) hx hb hts bk0 hown hK hP X lX.1 f_8 rfl 1 (by decide) (hts (.fieldLink RX0 34 "GradientDesk$Fraction" "bottom" "LGradientDesk$Whole;") (List.mem_of_getElem? (i := 6) rfl)) (fun _ h9 => h9) rfl dX0_multiply_20 ?_
  refine lv_aload_n hx hb dX0_multiply_23 rfl (lv_at hl 2 rfl) ?_
  have f_9 : g_5 Y = .inr (5, [.ref (ad (2 * Ya)), .ref (ad (2 * Yb))]) := (fr_6 Y (by omega)).trans hY
  refine m_get (D := (dC, dI)) (v := .ref (ad (2 * Yb))) (C := RX2) (T := TX2) (N := 2) hx hb hts bk0 hown hK hP Y lY.1 f_9 rfl 1 (by decide) (hts (.fieldLink RX0 34 "GradientDesk$Fraction" "bottom" "LGradientDesk$Whole;") (List.mem_of_getElem? (i := 6) rfl)) (fun _ h9 => h9) rfl dX0_multiply_24 ?_
  obtain ⟨mw_10, sw_10, nw_10, fw_10, aw_10, bw_10, cw_10, dw_10, ew_10⟩ := hAW_2 5 (by omega)
  have qw_10 : mw_10 ≤ 4096 := by rw [dw_10]; exact rmc_le _
  have hv_11 : WV ad cA g_5 Xb xq := WV.same wXb ((fun (k : Nat) (hk : k = 2 * Xb ∨ k = 2 * Xb + 1) => (fr_6 k (by omega)).trans (rfl)) _ (Or.inl rfl)) ((fun (k : Nat) (hk : k = 2 * Xb ∨ k = 2 * Xb + 1) => (fr_6 k (by omega)).trans (rfl)) _ (Or.inr rfl))
  have hv_12 : WV ad cA g_5 Yb yq := WV.same wYb ((fun (k : Nat) (hk : k = 2 * Yb ∨ k = 2 * Yb + 1) => (fr_6 k (by omega)).trans (rfl)) _ (Or.inl rfl)) ((fun (k : Nat) (hk : k = 2 * Yb ∨ k = 2 * Yb + 1) => (fr_6 k (by omega)).trans (rfl)) _ (Or.inr rfl))
  refine va_callv (va_runV (As := [.ref (ad (2 * Xb)), .ref (ad (2 * Yb))]) (rest := []) ⟨hx, hb, hml, hown, hts⟩ (c_V8_multiply l dC dI A ad cA g_5 5 Xb Yb xq yq 13 13 hAW_2 (by omega) (by omega) (by omega) hv_11 hv_12 (by omega) (by omega) bxq byq (by decide)) (cwV 2 hts (goodIn_app (goodIn_r [Cond.methodLink RX0 37 yX8_multiply, Cond.instanceMethod yX8_multiply, Cond.selects RX8 yX8_multiply yX8_multiply, Cond.initialized RX8] [2, 3, 4, 5] rfl rfl) (goodIn_sub (fun w9 h9 => bk1 w9 h9) gw_V8_multiply)) rfl rfl rfl (by decide +kernel) ⟨Nat.le_of_ble_eq_true rfl, Nat.le_of_ble_eq_true rfl⟩) ⟨fun a U g mk q => ⟨q.1, q.2.1, q.2.2.1, LY.moved (u := U) (U := U.calling g mk a) (Vm.Alike.refl U.vm) q.2.2.2⟩, va_recv hK hP (ci := 11) (q0 := (2 * 5)) rfl (wo_at (ns_w (by omega)) aw_10), fun U hU hW => ⟨rfl, by rw [hU]; exact fun q h => hA q (Nat.le_trans hS.1 h), by rw [hU]; exact hP, LY.moved hW.alike hL⟩⟩ rfl rfl hl.1 rfl (lv_room (Nat.le_of_ble_eq_true rfl)) dX0_multiply_27 ⟨(Nat.le_of_ble_eq_true rfl), (Nat.le_of_ble_eq_true rfl)⟩) hS (fun q _ h => h) (fun q h => h) (fun u8 t8 H1 locs ht8 hvm8 hw_15 hB hz1 hk1 hS => ?_)
  obtain ⟨g_16, rfl⟩ : ∃ z, z = u8 := ⟨_, rfl⟩
  try dsimp only at hw_15 hB
  rw [ht8] at hB
  have hP := hB
  generalize H1 = H at hP hS ⊢
  obtain ⟨fr_17, hAW_13, hv_14⟩ := hw_15
  have hv_18 : WV ad cA g_16 4 (xp * yp) := WV.same hv_3 ((fun (k : Nat) (hk : k = 2 * 4 ∨ k = 2 * 4 + 1) => (fr_17 k (by omega)).trans (rfl)) _ (Or.inl rfl)) ((fun (k : Nat) (hk : k = 2 * 4 ∨ k = 2 * 4 + 1) => (fr_17 k (by omega)).trans (rfl)) _ (Or.inr rfl))
  refine W.widen (k := 0) (n := 0) (by omega) (by omega) ?_
  exact W.vret hx hb hr (fun t9 ht9 hW9 => ⟨⟨g_16, rfl, ⟨(fun (k : Nat) (hk : 12 ≤ k) => (fr_17 k (by omega)).trans ((fr_6 k (by omega)).trans (rfl))), hAW_13, hv_18, hv_14⟩, by show va_P (dC, dI) vwCl _ t9.heap; rw [ht9]; exact hP⟩, hS.F ht9⟩) hS.2.2 dX0_multiply_30
