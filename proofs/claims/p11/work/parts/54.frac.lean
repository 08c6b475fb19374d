section
def wd_X2_isZero : List Cond := .code yX2_isZero cX2_isZero 1 (some .boolean) :: (([.fieldLink RX2 12 "GradientDesk$Fraction" "top" "LGradientDesk$Whole;", .fieldLink RX2 29 "GradientDesk$Whole" "size" "I"] : List Cond) ++ (u_ws RX2 TX2 2 ++ (u_ws RX8 TX8 3 ++ ([]))))
theorem gw_X2_isZero : wd_X2_isZero.all goodWord = true := k_allc rfl (k_all (by decide +kernel) (k_all (gu_X2) (k_all (gu_X8) (rfl))))
set_option maxHeartbeats 4000000 in
set_option maxRecDepth 100000 in
theorem c_X2_isZero (l : Launch) (dC : Nat → ClassId) (dI : Nat → Nat → Nat) (A : Nat → Prop) (ad : Nat → Nat) (cA : Nat → ClassId) (g : Nat → va_E) (F : Nat) (Fa : Nat) (Fb : Nat) (hAW : AW ad cA g) (hF : g F = .inr (5, [.ref (ad (2 * Fa)), .ref (ad (2 * Fb))])) (lF : F < NSc ∧ 2076 ≤ F) (jF : 4 ≤ Fa ∧ Fa < 1038 ∧ 4 ≤ Fb ∧ Fb < 1038 ∧ Fa ≠ Fb) : Met l yX2_isZero wd_X2_isZero ({ frames := 10, cells := 0, slots := 0, locals := 200 }) (va_Pc [.ref (ad F)] (PR NSc tyc dC dI A ad cA g)) (va_Qi (fun (r : Int32) => fun (u : Unit) => match u with | () => ∃ b, b < 2 ∧ r = nI b) (fun (u : Unit) (t : State) => va_P (dC, dI) vwCl (wo ad NSc g) t.heap) A) (0) (0) A := by
  refine Met.ofW (cc := cX2_isZero) (maxL := 1) (ret := (some .boolean)) (by decide) rfl ?_
  intro p e s m args below meth c s₁ B hml hv
  obtain ⟨rfl, hA, hP, hL⟩ := hv
  have hx := B.exec
  have hb := B.bytes
  have hr := B.returns
  have hts := atoms_spec (ws := wd_X2_isZero) B.pre
  have hown : s.vm.findClass RX2 = some m.cls := findClass_of_methodNamed B.named
  have hlocks := B.notSynchronized
  have hK := hL.1
  have hD : ∀ g, va_D A (wo ad NSc g) := fun g => wo_D hL.2.1 hL.2.2 g
  have hS : va_S A s.heap s.heap [] := va_S.rf
  have bk0 : ∀ w ∈ u_ws RX2 TX2 2, w ∈ wd_X2_isZero := fun _ h => List.mem_cons_of_mem _ (List.mem_append_right _ (List.mem_append_left _ h))
  have bk1 : ∀ w ∈ u_ws RX8 TX8 3, w ∈ wd_X2_isZero := fun _ h => List.mem_cons_of_mem _ (List.mem_append_right _ (List.mem_append_right _ (List.mem_append_left _ h)))
  have hl := lv_entry ([.ref (ad F)]) (n := 1) (Nat.le_of_ble_eq_true rfl)
  rw [lg_entry_eq]
  generalize (lg_sl ([.ref (ad F)]) ++ List.replicate (1 - (lg_sl ([.ref (ad F)])).length) Slot.unset).toArray = ls at hl ⊢
  have hl : lv_has ls 1 [(0, .ref (ad F))] := hl
  obtain ⟨mw_1, sw_1, nw_1, fw_1, aw_1, bw_1, cw_1, dw_1, ew_1⟩ := hAW Fa (by omega)
  have qw_1 : mw_1 ≤ 4096 := by rw [dw_1]; exact rmc_le _
  refine lv_aload_n hx hb dX2_isZero_0 rfl (lv_at hl 0 rfl) ?_
  refine m_get (D := (dC, dI)) (v := .ref (ad (2 * Fa))) (C := RX2) (T := TX2) (N := 2) hx hb hts bk0 hown hK hP F lF.1 hF rfl 0 (by decide) (hts (.fieldLink RX2 12 "GradientDesk$Fraction" "top" "LGradientDesk$Whole;") (List.mem_of_getElem? (i := 1) rfl)) (fun _ h9 => h9) rfl dX2_isZero_1 ?_
  refine m_get (D := (dC, dI)) (v := .int (nI sw_1)) (C := RX8) (T := TX8) (N := 3) hx hb hts bk1 hown hK hP (2 * Fa) (ns_w (by omega)) aw_1 rfl 1 (by decide) (hts (.fieldLink RX2 29 "GradientDesk$Whole" "size" "I") (List.mem_of_getElem? (i := 2) rfl)) (fun _ h9 => h9) rfl dX2_isZero_4 ?_
  refine lv_if_ne (tgt := 14) hx hb dX2_isZero_7 (by decide) (fun c_2 => ?_) (fun c_2 => ?_)
  · have c_2 := mt (nI_eq (a := sw_1) (b := 0) (by omega) (by decide)).mpr c_2
    refine lv_iconst (v := nI 0) hx hb dX2_isZero_14 (by decide +kernel) ?_
    refine W.widen (k := 0) (n := 0) (by omega) (by omega) ?_
    exact W.zret (v := nI 0) hx hb hr (by decide +kernel) (fun t9 ht9 hW9 => ⟨⟨nI 0, (), rfl, ⟨0, by decide, rfl⟩, by show va_P (dC, dI) vwCl _ t9.heap; rw [ht9]; exact hP⟩, hS.F ht9⟩) hS.2.2 dX2_isZero_15
  · have c_2 := (nI_eq (a := sw_1) (b := 0) (by omega) (by decide)).mp c_2
    refine lv_iconst (v := nI 1) hx hb dX2_isZero_10 (by decide +kernel) ?_
    refine lv_goto (tgt := 15) hx hb dX2_isZero_11 (by decide) ?_
    refine W.widen (k := 0) (n := 0) (by omega) (by omega) ?_
    exact W.zret (v := nI 1) hx hb hr (by decide +kernel) (fun t9 ht9 hW9 => ⟨⟨nI 1, (), rfl, ⟨1, by decide, rfl⟩, by show va_P (dC, dI) vwCl _ t9.heap; rw [ht9]; exact hP⟩, hS.F ht9⟩) hS.2.2 dX2_isZero_15
def wd_X2_isOne : List Cond := .code yX2_isOne cX2_isOne 1 (some .boolean) :: (([.fieldLink RX2 12 "GradientDesk$Fraction" "top" "LGradientDesk$Whole;", .methodLink RX2 33 yX8_isOne, .instanceMethod yX8_isOne, .selects RX8 yX8_isOne yX8_isOne, .initialized RX8, .fieldLink RX2 18 "GradientDesk$Fraction" "bottom" "LGradientDesk$Whole;"] : List Cond) ++ (u_ws RX2 TX2 2 ++ (wd_X8_isOne ++ ([]))))
theorem gw_X2_isOne : wd_X2_isOne.all goodWord = true := k_allc rfl (k_all (by decide +kernel) (k_all (gu_X2) (k_all (gw_X8_isOne) (rfl))))
set_option maxHeartbeats 4000000 in
set_option maxRecDepth 100000 in
theorem c_X2_isOne (l : Launch) (dC : Nat → ClassId) (dI : Nat → Nat → Nat) (A : Nat → Prop) (ad : Nat → Nat) (cA : Nat → ClassId) (g : Nat → va_E) (F : Nat) (Fa : Nat) (Fb : Nat) (hAW : AW ad cA g) (hF : g F = .inr (5, [.ref (ad (2 * Fa)), .ref (ad (2 * Fb))])) (lF : F < NSc ∧ 2076 ≤ F) (jF : 4 ≤ Fa ∧ Fa < 1038 ∧ 4 ≤ Fb ∧ Fb < 1038 ∧ Fa ≠ Fb) : Met l yX2_isOne wd_X2_isOne ({ frames := 20, cells := 0, slots := 0, locals := 400 }) (va_Pc [.ref (ad F)] (PR NSc tyc dC dI A ad cA g)) (va_Qi (fun (r : Int32) => fun (u : Unit) => match u with | () => ∃ b, b < 2 ∧ r = nI b) (fun (u : Unit) (t : State) => va_P (dC, dI) vwCl (wo ad NSc g) t.heap) A) (0) (0) A := by
  refine Met.ofW (cc := cX2_isOne) (maxL := 1) (ret := (some .boolean)) (by decide) rfl ?_
  intro p e s m args below meth c s₁ B hml hv
  obtain ⟨rfl, hA, hP, hL⟩ := hv
  have hx := B.exec
  have hb := B.bytes
  have hr := B.returns
  have hts := atoms_spec (ws := wd_X2_isOne) B.pre
  have hown : s.vm.findClass RX2 = some m.cls := findClass_of_methodNamed B.named
  have hlocks := B.notSynchronized
  have hK := hL.1
  have hD : ∀ g, va_D A (wo ad NSc g) := fun g => wo_D hL.2.1 hL.2.2 g
  have hS : va_S A s.heap s.heap [] := va_S.rf
  have bk0 : ∀ w ∈ u_ws RX2 TX2 2, w ∈ wd_X2_isOne := fun _ h => List.mem_cons_of_mem _ (List.mem_append_right _ (List.mem_append_left _ h))
  have bk1 : ∀ w ∈ wd_X8_isOne, w ∈ wd_X2_isOne := fun _ h => List.mem_cons_of_mem _ (List.mem_append_right _ (List.mem_append_right _ (List.mem_append_left _ h)))
  have hl := lv_entry ([.ref (ad F)]) (n := 1) (Nat.le_of_ble_eq_true rfl)
  rw [lg_entry_eq]
  generalize (lg_sl ([.ref (ad F)]) ++ List.replicate (1 - (lg_sl ([.ref (ad F)])).length) Slot.unset).toArray = ls at hl ⊢
  have hl : lv_has ls 1 [(0, .ref (ad F))] := hl
  refine lv_aload_n hx hb dX2_isOne_0 rfl (lv_at hl 0 rfl) ?_
  refine m_get (D := (dC, dI)) (v := .ref (ad (2 * Fa))) (C := RX2) (T := TX2) (N := 2) hx hb hts bk0 hown hK hP F lF.1 hF rfl 0 (by decide) (hts (.fieldLink RX2 12 "GradientDesk$Fraction" "top" "LGradientDesk$Whole;") (List.mem_of_getElem? (i := 1) rfl)) (fun _ h9 => h9) rfl dX2_isOne_1 ?_
  obtain ⟨mw_1, sw_1, nw_1, fw_1, aw_1, bw_1, cw_1, dw_1, ew_1⟩ := hAW Fa (by omega)
  have qw_1 : mw_1 ≤ 4096 := by rw [dw_1]; exact rmc_le _
  refine va_calli (va_runV (As := []) (rest := []) ⟨hx, hb, hml, hown, hts⟩ (c_X8_isOne l dC dI A ad cA g Fa hAW (by omega)) (cwV 0 hts (goodIn_app (goodIn_r [Cond.methodLink RX2 33 yX8_isOne, Cond.instanceMethod yX8_isOne, Cond.selects RX8 yX8_isOne yX8_isOne, Cond.initialized RX8] [2, 3, 4, 5] rfl rfl) (goodIn_sub (fun w9 h9 => bk1 w9 h9) gw_X8_isOne)) rfl rfl rfl (by decide +kernel) ⟨Nat.le_of_ble_eq_true rfl, Nat.le_of_ble_eq_true rfl⟩) ⟨fun a U g mk q => ⟨q.1, q.2.1, q.2.2.1, LY.moved (u := U) (U := U.calling g mk a) (Vm.Alike.refl U.vm) q.2.2.2⟩, va_recv hK hP (ci := 11) (q0 := (2 * Fa)) rfl (wo_at (ns_w (by omega)) aw_1), fun U hU hW => ⟨rfl, by rw [hU]; exact fun q h => hA q (Nat.le_trans hS.1 h), by rw [hU]; exact hP, LY.moved hW.alike hL⟩⟩ rfl rfl hl.1 rfl (lv_room (Nat.le_of_ble_eq_true rfl)) dX2_isOne_4 ⟨(Nat.le_of_ble_eq_true rfl), (Nat.le_of_ble_eq_true rfl)⟩) hS (fun q _ h => h) (fun q h => h) (fun r_3 u8 t8 H1 locs ht8 hvm8 hw_4 hB hz1 hk1 hS => ?_)
  obtain ⟨⟩ := u8
  try dsimp only at hw_4 hB
  rw [ht8] at hB
  have hP := hB
  generalize H1 = H at hP hS ⊢
  obtain ⟨b_2, hb_2, rfl⟩ := hw_4
  refine lv_if_eq (tgt := 24) hx hb dX2_isOne_7 (by decide) (fun c_5 => ?_) (fun c_5 => ?_)
  · have c_5 := (nI_eq (a := b_2) (b := 0) (by omega) (by decide)).mp c_5
    refine lv_iconst (v := nI 0) hx hb dX2_isOne_24 (by decide +kernel) ?_
    refine W.widen (k := 0) (n := 0) (by omega) (by omega) ?_
    exact W.zret (v := nI 0) hx hb hr (by decide +kernel) (fun t9 ht9 hW9 => ⟨⟨nI 0, (), rfl, ⟨0, by decide, rfl⟩, by show va_P (dC, dI) vwCl _ t9.heap; rw [ht9]; exact hP⟩, hS.F ht9⟩) hS.2.2 dX2_isOne_25
  · have c_5 := mt (nI_eq (a := b_2) (b := 0) (by omega) (by decide)).mpr c_5
    refine lv_aload_n hx hb dX2_isOne_10 rfl (lv_at hl 0 rfl) ?_
    refine m_get (D := (dC, dI)) (v := .ref (ad (2 * Fb))) (C := RX2) (T := TX2) (N := 2) hx hb hts bk0 hown hK hP F lF.1 hF rfl 1 (by decide) (hts (.fieldLink RX2 18 "GradientDesk$Fraction" "bottom" "LGradientDesk$Whole;") (List.mem_of_getElem? (i := 6) rfl)) (fun _ h9 => h9) rfl dX2_isOne_11 ?_
    obtain ⟨mw_6, sw_6, nw_6, fw_6, aw_6, bw_6, cw_6, dw_6, ew_6⟩ := hAW Fb (by omega)
    have qw_6 : mw_6 ≤ 4096 := by rw [dw_6]; exact rmc_le _
    refine va_calli (va_runV (As := []) (rest := []) ⟨hx, hb, hml, hown, hts⟩ (c_X8_isOne l dC dI A ad cA g Fb hAW (by omega)) (cwV 0 hts (goodIn_app (goodIn_r [Cond.methodLink RX2 33 yX8_isOne, Cond.instanceMethod yX8_isOne, Cond.selects RX8 yX8_isOne yX8_isOne, Cond.initialized RX8] [2, 3, 4, 5] rfl rfl) (goodIn_sub (fun w9 h9 => bk1 w9 h9) gw_X8_isOne)) rfl rfl rfl (by decide +kernel) ⟨Nat.le_of_ble_eq_true rfl, Nat.le_of_ble_eq_true rfl⟩) ⟨fun a U g mk q => ⟨q.1, q.2.1, q.2.2.1, LY.moved (u := U) (U := U.calling g mk a) (Vm.Alike.refl U.vm) q.2.2.2⟩, va_recv hK hP (ci := 11) (q0 := (2 * Fb)) rfl (wo_at (ns_w (by omega)) aw_6), fun U hU hW => ⟨rfl, by rw [hU]; exact fun q h => hA q (Nat.le_trans hS.1 h), by rw [hU]; exact hP, LY.moved hW.alike hL⟩⟩ rfl rfl hl.1 rfl (lv_room (Nat.le_of_ble_eq_true rfl)) dX2_isOne_14 ⟨(Nat.le_of_ble_eq_true rfl), (Nat.le_of_ble_eq_true rfl)⟩) hS (fun q _ h => h) (fun q h => h) (fun r_8 u8 t8 H1 locs ht8 hvm8 hw_9 hB hz1 hk1 hS => ?_)
    obtain ⟨⟩ := u8
    try dsimp only at hw_9 hB
    rw [ht8] at hB
    have hP := hB
    generalize H1 = H at hP hS ⊢
    obtain ⟨b_7, hb_7, rfl⟩ := hw_9
    refine lv_if_eq (tgt := 24) hx hb dX2_isOne_17 (by decide) (fun c_10 => ?_) (fun c_10 => ?_)
    · have c_10 := (nI_eq (a := b_7) (b := 0) (by omega) (by decide)).mp c_10
      refine lv_iconst (v := nI 0) hx hb dX2_isOne_24 (by decide +kernel) ?_
      refine W.widen (k := 0) (n := 0) (by omega) (by omega) ?_
      exact W.zret (v := nI 0) hx hb hr (by decide +kernel) (fun t9 ht9 hW9 => ⟨⟨nI 0, (), rfl, ⟨0, by decide, rfl⟩, by show va_P (dC, dI) vwCl _ t9.heap; rw [ht9]; exact hP⟩, hS.F ht9⟩) hS.2.2 dX2_isOne_25
    · have c_10 := mt (nI_eq (a := b_7) (b := 0) (by omega) (by decide)).mpr c_10
      refine lv_iconst (v := nI 1) hx hb dX2_isOne_20 (by decide +kernel) ?_
      refine lv_goto (tgt := 25) hx hb dX2_isOne_21 (by decide) ?_
      refine W.widen (k := 0) (n := 0) (by omega) (by omega) ?_
      exact W.zret (v := nI 1) hx hb hr (by decide +kernel) (fun t9 ht9 hW9 => ⟨⟨nI 1, (), rfl, ⟨1, by decide, rfl⟩, by show va_P (dC, dI) vwCl _ t9.heap; rw [ht9]; exact hP⟩, hS.F ht9⟩) hS.2.2 dX2_isOne_25
def wd_X2_become : List Cond := .code yX2_become cX2_become 2 none :: (([.fieldLink RX2 12 "GradientDesk$Fraction" "top" "LGradientDesk$Whole;", .methodLink RX2 25 yX8_become, .instanceMethod yX8_become, .selects RX8 yX8_become yX8_become, .initialized RX8, .fieldLink RX2 18 "GradientDesk$Fraction" "bottom" "LGradientDesk$Whole;"] : List Cond) ++ (u_ws RX2 TX2 2 ++ (wd_X8_become ++ ([]))))
theorem gw_X2_become : wd_X2_become.all goodWord = true := k_allc rfl (k_all (by decide +kernel) (k_all (gu_X2) (k_all (gw_X8_become) (rfl))))
set_option maxHeartbeats 4000000 in
set_option maxRecDepth 100000 in
theorem c_X2_become (l : Launch) (dC : Nat → ClassId) (dI : Nat → Nat → Nat) (A : Nat → Prop) (ad : Nat → Nat) (cA : Nat → ClassId) (g : Nat → va_E) (F : Nat) (Fa : Nat) (Fb : Nat) (G : Nat) (Ga : Nat) (Gb : Nat) (hAW : AW ad cA g) (hF : g F = .inr (5, [.ref (ad (2 * Fa)), .ref (ad (2 * Fb))])) (lF : F < NSc ∧ 2076 ≤ F) (jF : 4 ≤ Fa ∧ Fa < 1038 ∧ 4 ≤ Fb ∧ Fb < 1038 ∧ Fa ≠ Fb) (hG : g G = .inr (5, [.ref (ad (2 * Ga)), .ref (ad (2 * Gb))])) (lG : G < NSc ∧ 2076 ≤ G) (jG : 4 ≤ Ga ∧ Ga < 1038 ∧ 4 ≤ Gb ∧ Gb < 1038 ∧ Ga ≠ Gb) (hd : Fa ≠ Ga ∧ Fb ≠ Gb) : Met l yX2_become wd_X2_become ({ frames := 20, cells := 0, slots := 0, locals := 400 }) (va_Pc [.ref (ad F), .ref (ad G)] (PR NSc tyc dC dI A ad cA g)) (va_Qv (fun (u : Nat → va_E) => match u with | g2 => (∀ k, k ≠ 2 * Fa ∧ k ≠ 2 * Fa + 1 ∧ k ≠ 2 * Fb ∧ k ≠ 2 * Fb + 1 → g2 k = g k) ∧ AW ad cA g2) (fun (u : Nat → va_E) (t : State) => va_P (dC, dI) vwCl (wo ad NSc u) t.heap) A) (0) (0) A := by
  refine Met.ofW (cc := cX2_become) (maxL := 2) (ret := none) (by decide) rfl ?_
  intro p e s m args below meth c s₁ B hml hv
  obtain ⟨rfl, hA, hP, hL⟩ := hv
  have hx := B.exec
  have hb := B.bytes
  have hr := B.returns
  have hts := atoms_spec (ws := wd_X2_become) B.pre
  have hown : s.vm.findClass RX2 = some m.cls := findClass_of_methodNamed B.named
  have hlocks := B.notSynchronized
  have hK := hL.1
  have hD : ∀ g, va_D A (wo ad NSc g) := fun g => wo_D hL.2.1 hL.2.2 g
  have hS : va_S A s.heap s.heap [] := va_S.rf
  have bk0 : ∀ w ∈ u_ws RX2 TX2 2, w ∈ wd_X2_become := fun _ h => List.mem_cons_of_mem _ (List.mem_append_right _ (List.mem_append_left _ h))
  have bk1 : ∀ w ∈ wd_X8_become, w ∈ wd_X2_become := fun _ h => List.mem_cons_of_mem _ (List.mem_append_right _ (List.mem_append_right _ (List.mem_append_left _ h)))
  have hl := lv_entry ([.ref (ad F), .ref (ad G)]) (n := 2) (Nat.le_of_ble_eq_true rfl)
  rw [lg_entry_eq]
  generalize (lg_sl ([.ref (ad F), .ref (ad G)]) ++ List.replicate (2 - (lg_sl ([.ref (ad F), .ref (ad G)])).length) Slot.unset).toArray = ls at hl ⊢
  have hl : lv_has ls 2 [(0, .ref (ad F)), (1, .ref (ad G))] := hl
  refine lv_aload_n hx hb dX2_become_0 rfl (lv_at hl 0 rfl) ?_
  refine m_get (D := (dC, dI)) (v := .ref (ad (2 * Fa))) (C := RX2) (T := TX2) (N := 2) hx hb hts bk0 hown hK hP F lF.1 hF rfl 0 (by decide) (hts (.fieldLink RX2 12 "GradientDesk$Fraction" "top" "LGradientDesk$Whole;") (List.mem_of_getElem? (i := 1) rfl)) (fun _ h9 => h9) rfl dX2_become_1 ?_
  refine lv_aload_n hx hb dX2_become_4 rfl (lv_at hl 1 rfl) ?_
  refine m_get (D := (dC, dI)) (v := .ref (ad (2 * Ga))) (C := RX2) (T := TX2) (N := 2) hx hb hts bk0 hown hK hP G lG.1 hG rfl 0 (by decide) (hts (.fieldLink RX2 12 "GradientDesk$Fraction" "top" "LGradientDesk$Whole;") (List.mem_of_getElem? (i := 1) rfl)) (fun _ h9 => h9) rfl dX2_become_5 ?_
  obtain ⟨mw_1, sw_1, nw_1, fw_1, aw_1, bw_1, cw_1, dw_1, ew_1⟩ := hAW Fa (by omega)
  have qw_1 : mw_1 ≤ 4096 := by rw [dw_1]; exact rmc_le _
  refine va_callv (va_runV (As := [.ref (ad (2 * Ga))]) (rest := []) ⟨hx, hb, hml, hown, hts⟩ (c_X8_become l dC dI A ad cA g Fa Ga hAW (by omega) (by omega) (by omega)) (cwV 1 hts (goodIn_app (goodIn_r [Cond.methodLink RX2 25 yX8_become, Cond.instanceMethod yX8_become, Cond.selects RX8 yX8_become yX8_become, Cond.initialized RX8] [2, 3, 4, 5] rfl rfl) (goodIn_sub (fun w9 h9 => bk1 w9 h9) gw_X8_become)) rfl rfl rfl (by decide +kernel) ⟨Nat.le_of_ble_eq_true rfl, Nat.le_of_ble_eq_true rfl⟩) ⟨fun a U g mk q => ⟨q.1, q.2.1, q.2.2.1, LY.moved (u := U) (U := U.calling g mk a) (Vm.Alike.refl U.vm) q.2.2.2⟩, va_recv hK hP (ci := 11) (q0 := (2 * Fa)) rfl (wo_at (ns_w (by omega)) aw_1), fun U hU hW => ⟨rfl, by rw [hU]; exact fun q h => hA q (Nat.le_trans hS.1 h), by rw [hU]; exact hP, LY.moved hW.alike hL⟩⟩ rfl rfl hl.1 rfl (lv_room (Nat.le_of_ble_eq_true rfl)) dX2_become_8 ⟨(Nat.le_of_ble_eq_true rfl), (Nat.le_of_ble_eq_true rfl)⟩) hS (fun q _ h => h) (fun q h => h) (fun u8 t8 H1 locs ht8 hvm8 hw_3 hB hz1 hk1 hS => ?_)
  obtain ⟨g_4, rfl⟩ : ∃ z, z = u8 := ⟨_, rfl⟩
  try dsimp only at hw_3 hB
  rw [ht8] at hB
  have hP := hB
  generalize H1 = H at hP hS ⊢
  obtain ⟨fr_5, hAW_2⟩ := hw_3
  refine lv_aload_n hx hb dX2_become_11 rfl (lv_at hl 0 rfl) ?_
  have f_6 : g_4 F = .inr (5, [.ref (ad (2 * Fa)), .ref (ad (2 * Fb))]) := (fr_5 F (by omega)).trans hF
  refine m_get (D := (dC, dI)) (v := .ref (ad (2 * Fb))) (C := RX2) (T := TX2) (N := 2) hx hb hts bk0 hown hK hP F lF.1 f_6 rfl 1 (by decide) (hts (.fieldLink RX2 18 "GradientDesk$Fraction" "bottom" "LGradientDesk$Whole;") (List.mem_of_getElem? (i := 6) rfl)) (fun _ h9 => h9) rfl dX2_become_12 ?_
  refine lv_aload_n hx hb dX2_become_15 rfl (lv_at hl 1 rfl) ?_
  have f_7 : g_4 G = .inr (5, [.ref (ad (2 * Ga)), .ref (ad (2 * Gb))]) := (fr_5 G (by omega)).trans hG
  refine m_get (D := (dC, dI)) (v := .ref (ad (2 * Gb))) (C := RX2) (T := TX2) (N := 2) hx hb hts bk0 hown hK hP G lG.1 f_7 rfl 1 (by decide) (hts (.fieldLink RX2 18 "GradientDesk$Fraction" "bottom" "LGradientDesk$Whole;") (List.mem_of_getElem? (i := 6) rfl)) (fun _ h9 => h9) rfl dX2_become_16 ?_
  obtain ⟨mw_8, sw_8, nw_8, fw_8, aw_8, bw_8, cw_8, dw_8, ew_8⟩ := hAW_2 Fb (by omega)
  have qw_8 : mw_8 ≤ 4096 := by rw [dw_8]; exact rmc_le _
  refine va_callv (va_runV (As := [.ref (ad (2 * Gb))]) (rest := []) ⟨hx, hb, hml, hown, hts⟩ (c_X8_become l dC dI A ad cA g_4 Fb Gb hAW_2 (by omega) (by omega) (by omega)) (cwV 1 hts (goodIn_app (goodIn_r [Cond.methodLink RX2 25 yX8_become, Cond.instanceMethod yX8_become, Cond.selects RX8 yX8_become yX8_become, Cond.initialized RX8] [2, 3, 4, 5] rfl rfl) (goodIn_sub (fun w9 h9 => bk1 w9 h9) gw_X8_become)) rfl rfl rfl (by decide +kernel) ⟨Nat.le_of_ble_eq_true rfl, Nat.le_of_ble_eq_true rfl⟩) ⟨fun a U g mk q => ⟨q.1, q.2.1, q.2.2.1, LY.moved (u := U) (U := U.calling g mk a) (Vm.Alike.refl U.vm) q.2.2.2⟩, va_recv hK hP (ci := 11) (q0 := (2 * Fb)) rfl (wo_at (ns_w (by omega)) aw_8), fun U hU hW => ⟨rfl, by rw [hU]; exact fun q h => hA q (Nat.le_trans hS.1 h), by rw [hU]; exact hP, LY.moved hW.alike hL⟩⟩ rfl rfl hl.1 rfl (lv_room (Nat.le_of_ble_eq_true rfl)) dX2_become_19 ⟨(Nat.le_of_ble_eq_true rfl), (Nat.le_of_ble_eq_true rfl)⟩) hS (fun q _ h => h) (fun q h => h) (fun u8 t8 H1 locs ht8 hvm8 hw_10 hB hz1 hk1 hS => ?_)
  obtain ⟨g_11, rfl⟩ : ∃ z, z = u8 := ⟨_, rfl⟩
  try dsimp only at hw_10 hB
  rw [ht8] at hB
  have hP := hB
  generalize H1 = H at hP hS ⊢
  obtain ⟨fr_12, hAW_9⟩ := hw_10
  refine W.widen (k := 0) (n := 0) (by omega) (by omega) ?_
  exact W.vret hx hb hr (fun t9 ht9 hW9 => ⟨⟨g_11, rfl, ⟨(fun (k : Nat) (hk : k ≠ 2 * Fa ∧ k ≠ 2 * Fa + 1 ∧ k ≠ 2 * Fb ∧ k ≠ 2 * Fb + 1) => (fr_12 k (by omega)).trans ((fr_5 k (by omega)).trans (rfl))), hAW_9⟩, by show va_P (dC, dI) vwCl _ t9.heap; rw [ht9]; exact hP⟩, hS.F ht9⟩) hS.2.2 dX2_become_22
def wd_X2_becomeRatio : List Cond := .code yX2_becomeRatio cX2_becomeRatio 3 none :: (([.fieldLink RX2 12 "GradientDesk$Fraction" "top" "LGradientDesk$Whole;", .methodLink RX2 21 yX8_put, .instanceMethod yX8_put, .selects RX8 yX8_put yX8_put, .initialized RX8, .fieldLink RX2 18 "GradientDesk$Fraction" "bottom" "LGradientDesk$Whole;"] : List Cond) ++ (u_ws RX2 TX2 2 ++ (wd_X8_put ++ ([]))))
theorem gw_X2_becomeRatio : wd_X2_becomeRatio.all goodWord = true := k_allc rfl (k_all (by decide +kernel) (k_all (gu_X2) (k_all (gw_X8_put) (rfl))))
set_option maxHeartbeats 4000000 in
set_option maxRecDepth 100000 in
theorem c_X2_becomeRatio (l : Launch) (dC : Nat → ClassId) (dI : Nat → Nat → Nat) (A : Nat → Prop) (ad : Nat → Nat) (cA : Nat → ClassId) (g : Nat → va_E) (F : Nat) (Fa : Nat) (Fb : Nat) (v1 : Int32) (v2 : Int32) (hAW : AW ad cA g) (hF : g F = .inr (5, [.ref (ad (2 * Fa)), .ref (ad (2 * Fb))])) (lF : F < NSc ∧ 2076 ≤ F) (jF : 4 ≤ Fa ∧ Fa < 1038 ∧ 4 ≤ Fb ∧ Fb < 1038 ∧ Fa ≠ Fb) : Met l yX2_becomeRatio wd_X2_becomeRatio ({ frames := 30, cells := 0, slots := 0, locals := 600 }) (va_Pc [.ref (ad F), .int v1, .int v2] (PR NSc tyc dC dI A ad cA g)) (va_Qv (fun (u : Nat → va_E) => match u with | g2 => (∀ k, k ≠ 2 * Fa ∧ k ≠ 2 * Fa + 1 ∧ k ≠ 2 * Fb ∧ k ≠ 2 * Fb + 1 → g2 k = g k) ∧ AW ad cA g2) (fun (u : Nat → va_E) (t : State) => va_P (dC, dI) vwCl (wo ad NSc u) t.heap) A) (0) (0) A := by
  refine Met.ofW (cc := cX2_becomeRatio) (maxL := 3) (ret := none) (by decide) rfl ?_
  intro p e s m args below meth c s₁ B hml hv
  obtain ⟨rfl, hA, hP, hL⟩ := hv
  have hx := B.exec
  have hb := B.bytes
  have hr := B.returns
  have hts := atoms_spec (ws := wd_X2_becomeRatio) B.pre
  have hown : s.vm.findClass RX2 = some m.cls := findClass_of_methodNamed B.named
  have hlocks := B.notSynchronized
  have hK := hL.1
  have hD : ∀ g, va_D A (wo ad NSc g) := fun g => wo_D hL.2.1 hL.2.2 g
  have hS : va_S A s.heap s.heap [] := va_S.rf
  have bk0 : ∀ w ∈ u_ws RX2 TX2 2, w ∈ wd_X2_becomeRatio := fun _ h => List.mem_cons_of_mem _ (List.mem_append_right _ (List.mem_append_left _ h))
  have bk1 : ∀ w ∈ wd_X8_put, w ∈ wd_X2_becomeRatio := fun _ h => List.mem_cons_of_mem _ (List.mem_append_right _ (List.mem_append_right _ (List.mem_append_left _ h)))
  have hl := lv_entry ([.ref (ad F), .int v1, .int v2]) (n := 3) (Nat.le_of_ble_eq_true rfl)
  rw [lg_entry_eq]
  generalize (lg_sl ([.ref (ad F), .int v1, .int v2]) ++ List.replicate (3 - (lg_sl ([.ref (ad F), .int v1, .int v2])).length) Slot.unset).toArray = ls at hl ⊢
  have hl : lv_has ls 3 [(0, .ref (ad F)), (1, .int v1), (2, .int v2)] := hl
  refine lv_aload_n hx hb dX2_becomeRatio_0 rfl (lv_at hl 0 rfl) ?_
  refine m_get (D := (dC, dI)) (v := .ref (ad (2 * Fa))) (C := RX2) (T := TX2) (N := 2) hx hb hts bk0 hown hK hP F lF.1 hF rfl 0 (by decide) (hts (.fieldLink RX2 12 "GradientDesk$Fraction" "top" "LGradientDesk$Whole;") (List.mem_of_getElem? (i := 1) rfl)) (fun _ h9 => h9) rfl dX2_becomeRatio_1 ?_
  refine lv_iload_n hx hb dX2_becomeRatio_4 rfl (lv_at hl 1 rfl) ?_
  refine lv_i2l hx hb dX2_becomeRatio_5 rfl ?_
  refine lv_topl (fun y_1 e_2 => ?_)
  obtain ⟨mw_3, sw_3, nw_3, fw_3, aw_3, bw_3, cw_3, dw_3, ew_3⟩ := hAW Fa (by omega)
  have qw_3 : mw_3 ≤ 4096 := by rw [dw_3]; exact rmc_le _
  refine va_callv (va_runV (As := [.long y_1]) (rest := []) ⟨hx, hb, hml, hown, hts⟩ (c_X8_put l dC dI A ad cA g Fa y_1 hAW (by omega)) (cwV 1 hts (goodIn_app (goodIn_r [Cond.methodLink RX2 21 yX8_put, Cond.instanceMethod yX8_put, Cond.selects RX8 yX8_put yX8_put, Cond.initialized RX8] [2, 3, 4, 5] rfl rfl) (goodIn_sub (fun w9 h9 => bk1 w9 h9) gw_X8_put)) rfl rfl rfl (by decide +kernel) ⟨Nat.le_of_ble_eq_true rfl, Nat.le_of_ble_eq_true rfl⟩) ⟨fun a U g mk q => ⟨q.1, q.2.1, q.2.2.1, LY.moved (u := U) (U := U.calling g mk a) (Vm.Alike.refl U.vm) q.2.2.2⟩, va_recv hK hP (ci := 11) (q0 := (2 * Fa)) rfl (wo_at (ns_w (by omega)) aw_3), fun U hU hW => ⟨rfl, by rw [hU]; exact fun q h => hA q (Nat.le_trans hS.1 h), by rw [hU]; exact hP, LY.moved hW.alike hL⟩⟩ rfl rfl hl.1 rfl (lv_room (Nat.le_of_ble_eq_true rfl)) dX2_becomeRatio_6 ⟨(Nat.le_of_ble_eq_true rfl), (Nat.le_of_ble_eq_true rfl)⟩) hS (fun q _ h => h) (fun q h => h) (fun u8 t8 H1 locs ht8 hvm8 hw_5 hB hz1 hk1 hS => ?_)
  obtain ⟨g_6, rfl⟩ : ∃ z, z = u8 := ⟨_, rfl⟩
  try dsimp only at hw_5 hB
  rw [ht8] at hB
  have hP := hB
  generalize H1 = H at hP hS ⊢
  obtain ⟨fr_7, hAW_4⟩ := hw_5
  refine lv_aload_n hx hb dX2_becomeRatio_9 rfl (lv_at hl 0 rfl) ?_
  have f_8 : g_6 F = .inr (5, [.ref (ad (2 * Fa)), .ref (ad (2 * Fb))]) := (fr_7 F (by omega)).trans hF
  refine m_get (D := (dC, dI)) (v := .ref (ad (2 * Fb))) (C := RX2) (T := TX2) (N := 2) hx hb hts bk0 hown hK hP F lF.1 f_8 rfl 1 (by decide) (hts (.fieldLink RX2 18 "GradientDesk$Fraction" "bottom" "LGradientDesk$Whole;") (List.mem_of_getElem? (i := 6) rfl)) (fun _ h9 => h9) rfl dX2_becomeRatio_10 ?_
  refine lv_iload_n hx hb dX2_becomeRatio_13 rfl (lv_at hl 2 rfl) ?_
  refine lv_i2l hx hb dX2_becomeRatio_14 rfl ?_
  refine lv_topl (fun y_9 e_10 => ?_)
  obtain ⟨mw_11, sw_11, nw_11, fw_11, aw_11, bw_11, cw_11, dw_11, ew_11⟩ := hAW_4 Fb (by omega)
  have qw_11 : mw_11 ≤ 4096 := by rw [dw_11]; exact rmc_le _
  refine va_callv (va_runV (As := [.long y_9]) (rest := []) ⟨hx, hb, hml, hown, hts⟩ (c_X8_put l dC dI A ad cA g_6 Fb y_9 hAW_4 (by omega)) (cwV 1 hts (goodIn_app (goodIn_r [Cond.methodLink RX2 21 yX8_put, Cond.instanceMethod yX8_put, Cond.selects RX8 yX8_put yX8_put, Cond.initialized RX8] [2, 3, 4, 5] rfl rfl) (goodIn_sub (fun w9 h9 => bk1 w9 h9) gw_X8_put)) rfl rfl rfl (by decide +kernel) ⟨Nat.le_of_ble_eq_true rfl, Nat.le_of_ble_eq_true rfl⟩) ⟨fun a U g mk q => ⟨q.1, q.2.1, q.2.2.1, LY.moved (u := U) (U := U.calling g mk a) (Vm.Alike.refl U.vm) q.2.2.2⟩, va_recv hK hP (ci := 11) (q0 := (2 * Fb)) rfl (wo_at (ns_w (by omega)) aw_11), fun U hU hW => ⟨rfl, by rw [hU]; exact fun q h => hA q (Nat.le_trans hS.1 h), by rw [hU]; exact hP, LY.moved hW.alike hL⟩⟩ rfl rfl hl.1 rfl (lv_room (Nat.le_of_ble_eq_true rfl)) dX2_becomeRatio_15 ⟨(Nat.le_of_ble_eq_true rfl), (Nat.le_of_ble_eq_true rfl)⟩) hS (fun q _ h => h) (fun q h => h) (fun u8 t8 H1 locs ht8 hvm8 hw_13 hB hz1 hk1 hS => ?_)
  obtain ⟨g_14, rfl⟩ : ∃ z, z = u8 := ⟨_, rfl⟩
  try dsimp only at hw_13 hB
  rw [ht8] at hB
  have hP := hB
  generalize H1 = H at hP hS ⊢
  obtain ⟨fr_15, hAW_12⟩ := hw_13
  refine W.widen (k := 0) (n := 0) (by omega) (by omega) ?_
  exact W.vret hx hb hr (fun t9 ht9 hW9 => ⟨⟨g_14, rfl, ⟨(fun (k : Nat) (hk : k ≠ 2 * Fa ∧ k ≠ 2 * Fa + 1 ∧ k ≠ 2 * Fb ∧ k ≠ 2 * Fb + 1) => (fr_15 k (by omega)).trans ((fr_7 k (by omega)).trans (rfl))), hAW_12⟩, by show va_P (dC, dI) vwCl _ t9.heap; rw [ht9]; exact hP⟩, hS.F ht9⟩) hS.2.2 dX2_becomeRatio_18
def wd_X0_add : List Cond := .code yX0_add cX0_add 5 none :: (([.fieldLink RX0 14 "GradientDesk$Arithmetic" "left" "LGradientDesk$Whole;", .fieldLink RX0 29 "GradientDesk$Fraction" "top" "LGradientDesk$Whole;", .fieldLink RX0 34 "GradientDesk$Fraction" "bottom" "LGradientDesk$Whole;", .methodLink RX0 37 yX8_multiply, .instanceMethod yX8_multiply, .selects RX8 yX8_multiply yX8_multiply, .initialized RX8, .fieldLink RX0 20 "GradientDesk$Arithmetic" "right" "LGradientDesk$Whole;", .methodLink RX0 44 yX8_add, .instanceMethod yX8_add, .selects RX8 yX8_add yX8_add, .methodLink RX0 41 yX8_turn, .instanceMethod yX8_turn, .selects RX8 yX8_turn yX8_turn] : List Cond) ++ (u_ws RX0 TX0 4 ++ (u_ws RX2 TX2 2 ++ (wd_X8_multiply ++ (wd_X8_add ++ (wd_X8_turn ++ ([])))))))
theorem gw_X0_add : wd_X0_add.all goodWord = true := k_allc rfl (k_all (by decide +kernel) (k_all (gu_X0) (k_all (gu_X2) (k_all (gw_X8_multiply) (k_all (gw_X8_add) (k_all (gw_X8_turn) (rfl)))))))
set_option maxHeartbeats 4000000 in
set_option maxRecDepth 100000 in
theorem c_X0_add (l : Launch) (dC : Nat → ClassId) (dI : Nat → Nat → Nat) (A : Nat → Prop) (ad : Nat → Nat) (cA : Nat → ClassId) (g : Nat → va_E) (X : Nat) (Xa : Nat) (Xb : Nat) (Y : Nat) (Ya : Nat) (Yb : Nat) (T : Nat) (Ta : Nat) (Tb : Nat) (v : Int32) (hAW : AW ad cA g) (hAr : g 2077 = .inr (3, [.ref (ad (2 * 0)), .ref (ad (2 * 1)), .ref (ad (2 * 2)), .ref (ad (2 * 3))])) (hX : g X = .inr (5, [.ref (ad (2 * Xa)), .ref (ad (2 * Xb))])) (lX : X < NSc ∧ 2076 ≤ X) (jX : 4 ≤ Xa ∧ Xa < 1038 ∧ 4 ≤ Xb ∧ Xb < 1038 ∧ Xa ≠ Xb) (hY : g Y = .inr (5, [.ref (ad (2 * Ya)), .ref (ad (2 * Yb))])) (lY : Y < NSc ∧ 2076 ≤ Y) (jY : 4 ≤ Ya ∧ Ya < 1038 ∧ 4 ≤ Yb ∧ Yb < 1038 ∧ Ya ≠ Yb) (hT : g T = .inr (5, [.ref (ad (2 * Ta)), .ref (ad (2 * Tb))])) (lT : T < NSc ∧ 2076 ≤ T) (jT : 4 ≤ Ta ∧ Ta < 1038 ∧ 4 ≤ Tb ∧ Tb < 1038 ∧ Ta ≠ Tb) (hd : Ta ≠ Xa ∧ Ta ≠ Xb ∧ Ta ≠ Ya ∧ Ta ≠ Yb ∧ Tb ≠ Xa ∧ Tb ≠ Xb ∧ Tb ≠ Ya ∧ Tb ≠ Yb) : Met l yX0_add wd_X0_add ({ frames := 40, cells := 0, slots := 0, locals := 800 }) (va_Pc [.ref (ad 2077), .ref (ad X), .ref (ad Y), .int v, .ref (ad T)] (PR NSc tyc dC dI A ad cA g)) (va_Qv (fun (u : Nat → va_E) => match u with | g2 => (∀ k, 8 ≤ k ∧ k ≠ 2 * Ta ∧ k ≠ 2 * Ta + 1 ∧ k ≠ 2 * Tb ∧ k ≠ 2 * Tb + 1 → g2 k = g k) ∧ AW ad cA g2) (fun (u : Nat → va_E) (t : State) => va_P (dC, dI) vwCl (wo ad NSc u) t.heap) A) (0) (0) A := by
  refine Met.ofW (cc := cX0_add) (maxL := 5) (ret := none) (by decide) rfl ?_
  intro p e s m args below meth c s₁ B hml hv
  obtain ⟨rfl, hA, hP, hL⟩ := hv
  have hx := B.exec
  have hb := B.bytes
  have hr := B.returns
  have hts := atoms_spec (ws := wd_X0_add) B.pre
  have hown : s.vm.findClass RX0 = some m.cls := findClass_of_methodNamed B.named
  have hlocks := B.notSynchronized
  have hK := hL.1
  have hD : ∀ g, va_D A (wo ad NSc g) := fun g => wo_D hL.2.1 hL.2.2 g
  have hS : va_S A s.heap s.heap [] := va_S.rf
  have bk0 : ∀ w ∈ u_ws RX0 TX0 4, w ∈ wd_X0_add := fun _ h => List.mem_cons_of_mem _ (List.mem_append_right _ (List.mem_append_left _ h))
  have bk1 : ∀ w ∈ u_ws RX2 TX2 2, w ∈ wd_X0_add := fun _ h => List.mem_cons_of_mem _ (List.mem_append_right _ (List.mem_append_right _ (List.mem_append_left _ h)))
  have bk2 : ∀ w ∈ wd_X8_multiply, w ∈ wd_X0_add := fun _ h => List.mem_cons_of_mem _ (List.mem_append_right _ (List.mem_append_right _ (List.mem_append_right _ (List.mem_append_left _ h))))
  have bk3 : ∀ w ∈ wd_X8_add, w ∈ wd_X0_add := fun _ h => List.mem_cons_of_mem _ (List.mem_append_right _ (List.mem_append_right _ (List.mem_append_right _ (List.mem_append_right _ (List.mem_append_left _ h)))))
  have bk4 : ∀ w ∈ wd_X8_turn, w ∈ wd_X0_add := fun _ h => List.mem_cons_of_mem _ (List.mem_append_right _ (List.mem_append_right _ (List.mem_append_right _ (List.mem_append_right _ (List.mem_append_right _ (List.mem_append_left _ h))))))
  have hl := lv_entry ([.ref (ad 2077), .ref (ad X), .ref (ad Y), .int v, .ref (ad T)]) (n := 5) (Nat.le_of_ble_eq_true rfl)
  rw [lg_entry_eq]
  generalize (lg_sl ([.ref (ad 2077), .ref (ad X), .ref (ad Y), .int v, .ref (ad T)]) ++ List.replicate (5 - (lg_sl ([.ref (ad 2077), .ref (ad X), .ref (ad Y), .int v, .ref (ad T)])).length) Slot.unset).toArray = ls at hl ⊢
  have hl : lv_has ls 5 [(0, .ref (ad 2077)), (1, .ref (ad X)), (2, .ref (ad Y)), (3, .int v), (4, .ref (ad T))] := hl
  refine lv_aload_n hx hb dX0_add_0 rfl (lv_at hl 0 rfl) ?_
  refine m_get (D := (dC, dI)) (v := .ref (ad (2 * 0))) (C := RX0) (T := TX0) (N := 4) hx hb hts bk0 hown hK hP 2077 (by decide) hAr rfl 0 (by decide) (hts (.fieldLink RX0 14 "GradientDesk$Arithmetic" "left" "LGradientDesk$Whole;") (List.mem_of_getElem? (i := 1) rfl)) (fun _ h9 => h9) rfl dX0_add_1 ?_
  refine lv_aload_n hx hb dX0_add_4 rfl (lv_at hl 1 rfl) ?_
  refine m_get (D := (dC, dI)) (v := .ref (ad (2 * Xa))) (C := RX2) (T := TX2) (N := 2) hx hb hts bk1 hown hK hP X lX.1 hX rfl 0 (by decide) (hts (.fieldLink RX0 29 "GradientDesk$Fraction" "top" "LGradientDesk$Whole;") (List.mem_of_getElem? (i := 2) rfl)) (fun _ h9 => h9) rfl dX0_add_5 ?_
  refine lv_aload_n hx hb dX0_add_8 rfl (lv_at hl 2 rfl) ?_
  refine m_get (D := (dC, dI)) (v := .ref (ad (2 * Yb))) (C := RX2) (T := TX2) (N := 2) hx hb hts bk1 hown hK hP Y lY.1 hY rfl 1 (by decide) (hts (.fieldLink RX0 34 "GradientDesk$Fraction" "bottom" "LGradientDesk$Whole;") (List.mem_of_getElem? (i := 3) rfl)) (fun _ h9 => h9) rfl dX0_add_9 ?_
  obtain ⟨mw_1, sw_1, nw_1, fw_1, aw_1, bw_1, cw_1, dw_1, ew_1⟩ := hAW 0 (by omega)
  have qw_1 : mw_1 ≤ 4096 := by rw [dw_1]; exact rmc_le _
  refine va_callv (va_runV (As := [.ref (ad (2 * Xa)), .ref (ad (2 * Yb))]) (rest := []) ⟨hx, hb, hml, hown, hts⟩ (c_X8_multiply l dC dI A ad cA g 0 Xa Yb hAW (by omega) (by omega) (by omega) (by omega) (by omega)) (cwV 2 hts (goodIn_app (goodIn_r [Cond.methodLink RX0 37 yX8_multiply, Cond.instanceMethod yX8_multiply, Cond.selects RX8 yX8_multiply yX8_multiply, Cond.initialized RX8] [4, 5, 6, 7] rfl rfl) (goodIn_sub (fun w9 h9 => bk2 w9 h9) gw_X8_multiply)) rfl rfl rfl (by decide +kernel) ⟨Nat.le_of_ble_eq_true rfl, Nat.le_of_ble_eq_true rfl⟩) ⟨fun a U g mk q => ⟨q.1, q.2.1, q.2.2.1, LY.moved (u := U) (U := U.calling g mk a) (Vm.Alike.refl U.vm) q.2.2.2⟩, va_recv hK hP (ci := 11) (q0 := (2 * 0)) rfl (wo_at (ns_w (by omega)) aw_1), fun U hU hW => ⟨rfl, by rw [hU]; exact fun q h => hA q (Nat.le_trans hS.1 h), by rw [hU]; exact hP, LY.moved hW.alike hL⟩⟩ rfl rfl hl.1 rfl (lv_room (Nat.le_of_ble_eq_true rfl)) dX0_add_12 ⟨(Nat.le_of_ble_eq_true rfl), (Nat.le_of_ble_eq_true rfl)⟩) hS (fun q _ h => h) (fun q h => h) (fun u8 t8 H1 locs ht8 hvm8 hw_3 hB hz1 hk1 hS => ?_)
  obtain ⟨g_4, rfl⟩ : ∃ z, z = u8 := ⟨_, rfl⟩
  try dsimp only at hw_3 hB
  rw [ht8] at hB
  have hP := hB
  generalize H1 = H at hP hS ⊢
  obtain ⟨fr_5, hAW_2⟩ := hw_3
  refine lv_aload_n hx hb dX0_add_15 rfl (lv_at hl 0 rfl) ?_
  have f_6 : g_4 2077 = .inr (3, [.ref (ad (2 * 0)), .ref (ad (2 * 1)), .ref (ad (2 * 2)), .ref (ad (2 * 3))]) := (fr_5 2077 (by omega)).trans hAr
  refine m_get (D := (dC, dI)) (v := .ref (ad (2 * 1))) (C := RX0) (T := TX0) (N := 4) hx hb hts bk0 hown hK hP 2077 (by decide) f_6 rfl 1 (by decide) (hts (.fieldLink RX0 20 "GradientDesk$Arithmetic" "right" "LGradientDesk$Whole;") (List.mem_of_getElem? (i := 8) rfl)) (fun _ h9 => h9) rfl dX0_add_16 ?_
  refine lv_aload_n hx hb dX0_add_19 rfl (lv_at hl 2 rfl) ?_
  have f_7 : g_4 Y = .inr (5, [.ref (ad (2 * Ya)), .ref (ad (2 * Yb))]) := (fr_5 Y (by omega)).trans hY
  refine m_get (D := (dC, dI)) (v := .ref (ad (2 * Ya))) (C := RX2) (T := TX2) (N := 2) hx hb hts bk1 hown hK hP Y lY.1 f_7 rfl 0 (by decide) (hts (.fieldLink RX0 29 "GradientDesk$Fraction" "top" "LGradientDesk$Whole;") (List.mem_of_getElem? (i := 2) rfl)) (fun _ h9 => h9) rfl dX0_add_20 ?_
  refine lv_aload_n hx hb dX0_add_23 rfl (lv_at hl 1 rfl) ?_
  have f_8 : g_4 X = .inr (5, [.ref (ad (2 * Xa)), .ref (ad (2 * Xb))]) := (fr_5 X (by omega)).trans hX
  refine m_get (D := (dC, dI)) (v := .ref (ad (2 * Xb))) (C := RX2) (T := TX2) (N := 2) hx hb hts bk1 hown hK hP X lX.1 f_8 rfl 1 (by decide) (hts (.fieldLink RX0 34 "GradientDesk$Fraction" "bottom" "LGradientDesk$Whole;") (List.mem_of_getElem? (i := 3) rfl)) (fun _ h9 => h9) rfl dX0_add_24 ?_
  obtain ⟨mw_9, sw_9, nw_9, fw_9, aw_9, bw_9, cw_9, dw_9, ew_9⟩ := hAW_2 1 (by omega)
  have qw_9 : mw_9 ≤ 4096 := by rw [dw_9]; exact rmc_le _
  refine va_callv (va_runV (As := [.ref (ad (2 * Ya)), .ref (ad (2 * Xb))]) (rest := []) ⟨hx, hb, hml, hown, hts⟩ (c_X8_multiply l dC dI A ad cA g_4 1 Ya Xb hAW_2 (by omega) (by omega) (by omega) (by omega) (by omega)) (cwV 2 hts (goodIn_app (goodIn_r [Cond.methodLink RX0 37 yX8_multiply, Cond.instanceMethod yX8_multiply, Cond.selects RX8 yX8_multiply yX8_multiply, Cond.initialized RX8] [4, 5, 6, 7] rfl rfl) (goodIn_sub (fun w9 h9 => bk2 w9 h9) gw_X8_multiply)) rfl rfl rfl (by decide +kernel) ⟨Nat.le_of_ble_eq_true rfl, Nat.le_of_ble_eq_true rfl⟩) ⟨fun a U g mk q => ⟨q.1, q.2.1, q.2.2.1, LY.moved (u := U) (U := U.calling g mk a) (Vm.Alike.refl U.vm) q.2.2.2⟩, va_recv hK hP (ci := 11) (q0 := (2 * 1)) rfl (wo_at (ns_w (by omega)) aw_9), fun U hU hW => ⟨rfl, by rw [hU]; exact fun q h => hA q (Nat.le_trans hS.1 h), by rw [hU]; exact hP, LY.moved hW.alike hL⟩⟩ rfl rfl hl.1 rfl (lv_room (Nat.le_of_ble_eq_true rfl)) dX0_add_27 ⟨(Nat.le_of_ble_eq_true rfl), (Nat.le_of_ble_eq_true rfl)⟩) hS (fun q _ h => h) (fun q h => h) (fun u8 t8 H1 locs ht8 hvm8 hw_11 hB hz1 hk1 hS => ?_)
  obtain ⟨g_12, rfl⟩ : ∃ z, z = u8 := ⟨_, rfl⟩
  try dsimp only at hw_11 hB
  rw [ht8] at hB
  have hP := hB
  generalize H1 = H at hP hS ⊢
  obtain ⟨fr_13, hAW_10⟩ := hw_11
  refine lv_iload_n hx hb dX0_add_30 rfl (lv_at hl 3 rfl) ?_
  refine lv_if_eq (tgt := 41) hx hb dX0_add_31 (by decide) (fun c_14 => ?_) (fun c_14 => ?_)
  · clear c_14
    refine lv_aload hx hb dX0_add_41 (lv_at hl 4 rfl) ?_
    have f_15 : g_12 T = .inr (5, [.ref (ad (2 * Ta)), .ref (ad (2 * Tb))]) := (fr_13 T (by omega)).trans ((fr_5 T (by omega)).trans hT)
    refine m_get (D := (dC, dI)) (v := .ref (ad (2 * Ta))) (C := RX2) (T := TX2) (N := 2) hx hb hts bk1 hown hK hP T lT.1 f_15 rfl 0 (by decide) (hts (.fieldLink RX0 29 "GradientDesk$Fraction" "top" "LGradientDesk$Whole;") (List.mem_of_getElem? (i := 2) rfl)) (fun _ h9 => h9) rfl dX0_add_43 ?_
    refine lv_aload_n hx hb dX0_add_46 rfl (lv_at hl 0 rfl) ?_
    have f_16 : g_12 2077 = .inr (3, [.ref (ad (2 * 0)), .ref (ad (2 * 1)), .ref (ad (2 * 2)), .ref (ad (2 * 3))]) := (fr_13 2077 (by omega)).trans f_6
    refine m_get (D := (dC, dI)) (v := .ref (ad (2 * 0))) (C := RX0) (T := TX0) (N := 4) hx hb hts bk0 hown hK hP 2077 (by decide) f_16 rfl 0 (by decide) (hts (.fieldLink RX0 14 "GradientDesk$Arithmetic" "left" "LGradientDesk$Whole;") (List.mem_of_getElem? (i := 1) rfl)) (fun _ h9 => h9) rfl dX0_add_47 ?_
    refine lv_aload_n hx hb dX0_add_50 rfl (lv_at hl 0 rfl) ?_
    refine m_get (D := (dC, dI)) (v := .ref (ad (2 * 1))) (C := RX0) (T := TX0) (N := 4) hx hb hts bk0 hown hK hP 2077 (by decide) f_16 rfl 1 (by decide) (hts (.fieldLink RX0 20 "GradientDesk$Arithmetic" "right" "LGradientDesk$Whole;") (List.mem_of_getElem? (i := 8) rfl)) (fun _ h9 => h9) rfl dX0_add_51 ?_
    obtain ⟨mw_17, sw_17, nw_17, fw_17, aw_17, bw_17, cw_17, dw_17, ew_17⟩ := hAW_10 Ta (by omega)
    have qw_17 : mw_17 ≤ 4096 := by rw [dw_17]; exact rmc_le _
    refine va_callv (va_runV (As := [.ref (ad (2 * 0)), .ref (ad (2 * 1))]) (rest := []) ⟨hx, hb, hml, hown, hts⟩ (c_X8_add l dC dI A ad cA g_12 Ta 0 1 hAW_10 (by omega) (by omega) (by omega) (by omega) (by omega)) (cwV 2 hts (goodIn_app (goodIn_r [Cond.methodLink RX0 44 yX8_add, Cond.instanceMethod yX8_add, Cond.selects RX8 yX8_add yX8_add, Cond.initialized RX8] [9, 10, 11, 7] rfl rfl) (goodIn_sub (fun w9 h9 => bk3 w9 h9) gw_X8_add)) rfl rfl rfl (by decide +kernel) ⟨Nat.le_of_ble_eq_true rfl, Nat.le_of_ble_eq_true rfl⟩) ⟨fun a U g mk q => ⟨q.1, q.2.1, q.2.2.1, LY.moved (u := U) (U := U.calling g mk a) (Vm.Alike.refl U.vm) q.2.2.2⟩, va_recv hK hP (ci := 11) (q0 := (2 * Ta)) rfl (wo_at (ns_w (by omega)) aw_17), fun U hU hW => ⟨rfl, by rw [hU]; exact fun q h => hA q (Nat.le_trans hS.1 h), by rw [hU]; exact hP, LY.moved hW.alike hL⟩⟩ rfl rfl hl.1 rfl (lv_room (Nat.le_of_ble_eq_true rfl)) dX0_add_54 ⟨(Nat.le_of_ble_eq_true rfl), (Nat.le_of_ble_eq_true rfl)⟩) hS (fun q _ h => h) (fun q h => h) (fun u8 t8 H1 locs ht8 hvm8 hw_19 hB hz1 hk1 hS => ?_)
    obtain ⟨g_20, rfl⟩ : ∃ z, z = u8 := ⟨_, rfl⟩
    try dsimp only at hw_19 hB
    rw [ht8] at hB
    have hP := hB
    generalize H1 = H at hP hS ⊢
    obtain ⟨fr_21, hAW_18⟩ := hw_19
    refine lv_aload hx hb dX0_add_57 (lv_at hl 4 rfl) ?_
    have f_22 : g_20 T = .inr (5, [.ref (ad (2 * Ta)), .ref (ad (2 * Tb))]) := (fr_21 T (by omega)).trans f_15
    refine m_get (D := (dC, dI)) (v := .ref (ad (2 * Tb))) (C := RX2) (T := TX2) (N := 2) hx hb hts bk1 hown hK hP T lT.1 f_22 rfl 1 (by decide) (hts (.fieldLink RX0 34 "GradientDesk$Fraction" "bottom" "LGradientDesk$Whole;") (List.mem_of_getElem? (i := 3) rfl)) (fun _ h9 => h9) rfl dX0_add_59 ?_
    refine lv_aload_n hx hb dX0_add_62 rfl (lv_at hl 1 rfl) ?_
    have f_23 : g_20 X = .inr (5, [.ref (ad (2 * Xa)), .ref (ad (2 * Xb))]) := (fr_21 X (by omega)).trans ((fr_13 X (by omega)).trans f_8)
    refine m_get (D := (dC, dI)) (v := .ref (ad (2 * Xb))) (C := RX2) (T := TX2) (N := 2) hx hb hts bk1 hown hK hP X lX.1 f_23 rfl 1 (by decide) (hts (.fieldLink RX0 34 "GradientDesk$Fraction" "bottom" "LGradientDesk$Whole;") (List.mem_of_getElem? (i := 3) rfl)) (fun _ h9 => h9) rfl dX0_add_63 ?_
    refine lv_aload_n hx hb dX0_add_66 rfl (lv_at hl 2 rfl) ?_
    have f_24 : g_20 Y = .inr (5, [.ref (ad (2 * Ya)), .ref (ad (2 * Yb))]) := (fr_21 Y (by omega)).trans ((fr_13 Y (by omega)).trans f_7)
    refine m_get (D := (dC, dI)) (v := .ref (ad (2 * Yb))) (C := RX2) (T := TX2) (N := 2) hx hb hts bk1 hown hK hP Y lY.1 f_24 rfl 1 (by decide) (hts (.fieldLink RX0 34 "GradientDesk$Fraction" "bottom" "LGradientDesk$Whole;") (List.mem_of_getElem? (i := 3) rfl)) (fun _ h9 => h9) rfl dX0_add_67 ?_
    obtain ⟨mw_25, sw_25, nw_25, fw_25, aw_25, bw_25, cw_25, dw_25, ew_25⟩ := hAW_18 Tb (by omega)
    have qw_25 : mw_25 ≤ 4096 := by rw [dw_25]; exact rmc_le _
    refine va_callv (va_runV (As := [.ref (ad (2 * Xb)), .ref (ad (2 * Yb))]) (rest := []) ⟨hx, hb, hml, hown, hts⟩ (c_X8_multiply l dC dI A ad cA g_20 Tb Xb Yb hAW_18 (by omega) (by omega) (by omega) (by omega) (by omega)) (cwV 2 hts (goodIn_app (goodIn_r [Cond.methodLink RX0 37 yX8_multiply, Cond.instanceMethod yX8_multiply, Cond.selects RX8 yX8_multiply yX8_multiply, Cond.initialized RX8] [4, 5, 6, 7] rfl rfl) (goodIn_sub (fun w9 h9 => bk2 w9 h9) gw_X8_multiply)) rfl rfl rfl (by decide +kernel) ⟨Nat.le_of_ble_eq_true rfl, Nat.le_of_ble_eq_true rfl⟩) ⟨fun a U g mk q => ⟨q.1, q.2.1, q.2.2.1, LY.moved (u := U) (U := U.calling g mk a) (Vm.Alike.refl U.vm) q.2.2.2⟩, va_recv hK hP (ci := 11) (q0 := (2 * Tb)) rfl (wo_at (ns_w (by omega)) aw_25), fun U hU hW => ⟨rfl, by rw [hU]; exact fun q h => hA q (Nat.le_trans hS.1 h), by rw [hU]; exact hP, LY.moved hW.alike hL⟩⟩ rfl rfl hl.1 rfl (lv_room (Nat.le_of_ble_eq_true rfl)) dX0_add_70 ⟨(Nat.le_of_ble_eq_true rfl), (Nat.le_of_ble_eq_true rfl)⟩) hS (fun q _ h => h) (fun q h => h) (fun u8 t8 H1 locs ht8 hvm8 hw_27 hB hz1 hk1 hS => ?_)
    obtain ⟨g_28, rfl⟩ : ∃ z, z = u8 := ⟨_, rfl⟩
    try dsimp only at hw_27 hB
    rw [ht8] at hB
    have hP := hB
    generalize H1 = H at hP hS ⊢
    obtain ⟨fr_29, hAW_26⟩ := hw_27
    refine W.widen (k := 0) (n := 0) (by omega) (by omega) ?_
    exact W.vret hx hb hr (fun t9 ht9 hW9 => ⟨⟨g_28, rfl, ⟨(fun (k : Nat) (hk : 8 ≤ k ∧ k ≠ 2 * Ta ∧ k ≠ 2 * Ta + 1 ∧ k ≠ 2 * Tb ∧ k ≠ 2 * Tb + 1) => (fr_29 k (by omega)).trans ((fr_21 k (by omega)).trans ((fr_13 k (by omega)).trans ((fr_5 k (by omega)).trans (rfl))))), hAW_26⟩, by show va_P (dC, dI) vwCl _ t9.heap; rw [ht9]; exact hP⟩, hS.F ht9⟩) hS.2.2 dX0_add_73
  · clear c_14
    refine lv_aload_n hx hb dX0_add_34 rfl (lv_at hl 0 rfl) ?_
    have f_30 : g_12 2077 = .inr (3, [.ref (ad (2 * 0)), .ref (ad (2 * 1)), .ref (ad (2 * 2)), .ref (ad (2 * 3))]) := (fr_13 2077 (by omega)).trans f_6
    refine m_get (D := (dC, dI)) (v := .ref (ad (2 * 1))) (C := RX0) (T := TX0) (N := 4) hx hb hts bk0 hown hK hP 2077 (by decide) f_30 rfl 1 (by decide) (hts (.fieldLink RX0 20 "GradientDesk$Arithmetic" "right" "LGradientDesk$Whole;") (List.mem_of_getElem? (i := 8) rfl)) (fun _ h9 => h9) rfl dX0_add_35 ?_
    obtain ⟨mw_31, sw_31, nw_31, fw_31, aw_31, bw_31, cw_31, dw_31, ew_31⟩ := hAW_10 1 (by omega)
    have qw_31 : mw_31 ≤ 4096 := by rw [dw_31]; exact rmc_le _
    refine va_callv (va_runV (As := []) (rest := []) ⟨hx, hb, hml, hown, hts⟩ (c_X8_turn l dC dI A ad cA g_12 1 hAW_10 (by omega)) (cwV 0 hts (goodIn_app (goodIn_r [Cond.methodLink RX0 41 yX8_turn, Cond.instanceMethod yX8_turn, Cond.selects RX8 yX8_turn yX8_turn, Cond.initialized RX8] [12, 13, 14, 7] rfl rfl) (goodIn_sub (fun w9 h9 => bk4 w9 h9) gw_X8_turn)) rfl rfl rfl (by decide +kernel) ⟨Nat.le_of_ble_eq_true rfl, Nat.le_of_ble_eq_true rfl⟩) ⟨fun a U g mk q => ⟨q.1, q.2.1, q.2.2.1, LY.moved (u := U) (U := U.calling g mk a) (Vm.Alike.refl U.vm) q.2.2.2⟩, va_recv hK hP (ci := 11) (q0 := (2 * 1)) rfl (wo_at (ns_w (by omega)) aw_31), fun U hU hW => ⟨rfl, by rw [hU]; exact fun q h => hA q (Nat.le_trans hS.1 h), by rw [hU]; exact hP, LY.moved hW.alike hL⟩⟩ rfl rfl hl.1 rfl (lv_room (Nat.le_of_ble_eq_true rfl)) dX0_add_38 ⟨(Nat.le_of_ble_eq_true rfl), (Nat.le_of_ble_eq_true rfl)⟩) hS (fun q _ h => h) (fun q h => h) (fun u8 t8 H1 locs ht8 hvm8 hw_33 hB hz1 hk1 hS => ?_)
    obtain ⟨g_34, rfl⟩ : ∃ z, z = u8 := ⟨_, rfl⟩
    try dsimp only at hw_33 hB
    rw [ht8] at hB
    have hP := hB
    generalize H1 = H at hP hS ⊢
    obtain ⟨fr_35, hAW_32⟩ := hw_33
    refine lv_aload hx hb dX0_add_41 (lv_at hl 4 rfl) ?_
    have f_36 : g_34 T = .inr (5, [.ref (ad (2 * Ta)), .ref (ad (2 * Tb))]) := (fr_35 T (by omega)).trans ((fr_13 T (by omega)).trans ((fr_5 T (by omega)).trans hT))
    refine m_get (D := (dC, dI)) (v := .ref (ad (2 * Ta))) (C := RX2) (T := TX2) (N := 2) hx hb hts bk1 hown hK hP T lT.1 f_36 rfl 0 (by decide) (hts (.fieldLink RX0 29 "GradientDesk$Fraction" "top" "LGradientDesk$Whole;") (List.mem_of_getElem? (i := 2) rfl)) (fun _ h9 => h9) rfl dX0_add_43 ?_
    refine lv_aload_n hx hb dX0_add_46 rfl (lv_at hl 0 rfl) ?_
    have f_37 : g_34 2077 = .inr (3, [.ref (ad (2 * 0)), .ref (ad (2 * 1)), .ref (ad (2 * 2)), .ref (ad (2 * 3))]) := (fr_35 2077 (by omega)).trans f_30
    refine m_get (D := (dC, dI)) (v := .ref (ad (2 * 0))) (C := RX0) (T := TX0) (N := 4) hx hb hts bk0 hown hK hP 2077 (by decide) f_37 rfl 0 (by decide) (hts (.fieldLink RX0 14 "GradientDesk$Arithmetic" "left" "LGradientDesk$Whole;") (List.mem_of_getElem? (i := 1) rfl)) (fun _ h9 => h9) rfl dX0_add_47 ?_
    refine lv_aload_n hx hb dX0_add_50 rfl (lv_at hl 0 rfl) ?_
    refine m_get (D := (dC, dI)) (v := .ref (ad (2 * 1))) (C := RX0) (T := TX0) (N := 4) hx hb hts bk0 hown hK hP 2077 (by decide) f_37 rfl 1 (by decide) (hts (.fieldLink RX0 20 "GradientDesk$Arithmetic" "right" "LGradientDesk$Whole;") (List.mem_of_getElem? (i := 8) rfl)) (fun _ h9 => h9) rfl dX0_add_51 ?_
    obtain ⟨mw_38, sw_38, nw_38, fw_38, aw_38, bw_38, cw_38, dw_38, ew_38⟩ := hAW_32 Ta (by omega)
    have qw_38 : mw_38 ≤ 4096 := by rw [dw_38]; exact rmc_le _
    refine va_callv (va_runV (As := [.ref (ad (2 * 0)), .ref (ad (2 * 1))]) (rest := []) ⟨hx, hb, hml, hown, hts⟩ (c_X8_add l dC dI A ad cA g_34 Ta 0 1 hAW_32 (by omega) (by omega) (by omega) (by omega) (by omega)) (cwV 2 hts (goodIn_app (goodIn_r [Cond.methodLink RX0 44 yX8_add, Cond.instanceMethod yX8_add, Cond.selects RX8 yX8_add yX8_add, Cond.initialized RX8] [9, 10, 11, 7] rfl rfl) (goodIn_sub (fun w9 h9 => bk3 w9 h9) gw_X8_add)) rfl rfl rfl (by decide +kernel) ⟨Nat.le_of_ble_eq_true rfl, Nat.le_of_ble_eq_true rfl⟩) ⟨fun a U g mk q => ⟨q.1, q.2.1, q.2.2.1, LY.moved (u := U) (U := U.calling g mk a) (Vm.Alike.refl U.vm) q.2.2.2⟩, va_recv hK hP (ci := 11) (q0 := (2 * Ta)) rfl (wo_at (ns_w (by omega)) aw_38), fun U hU hW => ⟨rfl, by rw [hU]; exact fun q h => hA q (Nat.le_trans hS.1 h), by rw [hU]; exact hP, LY.moved hW.alike hL⟩⟩ rfl rfl hl.1 rfl (lv_room (Nat.le_of_ble_eq_true rfl)) dX0_add_54 ⟨(Nat.le_of_ble_eq_true rfl), (Nat.le_of_ble_eq_true rfl)⟩) hS (fun q _ h => h) (fun q h => h) (fun u8 t8 H1 locs ht8 hvm8 hw_40 hB hz1 hk1 hS => ?_)
    obtain ⟨g_41, rfl⟩ : ∃ z, z = u8 := ⟨_, rfl⟩
    try dsimp only at hw_40 hB
    rw [ht8] at hB
    have hP := hB
    generalize H1 = H at hP hS ⊢
    obtain ⟨fr_42, hAW_39⟩ := hw_40
    refine lv_aload hx hb dX0_add_57 (lv_at hl 4 rfl) ?_
    have f_43 : g_41 T = .inr (5, [.ref (ad (2 * Ta)), .ref (ad (2 * Tb))]) := (fr_42 T (by omega)).trans f_36
    refine m_get (D := (dC, dI)) (v := .ref (ad (2 * Tb))) (C := RX2) (T := TX2) (N := 2) hx hb hts bk1 hown hK hP T lT.1 f_43 rfl 1 (by decide) (hts (.fieldLink RX0 34 "GradientDesk$Fraction" "bottom" "LGradientDesk$Whole;") (List.mem_of_getElem? (i := 3) rfl)) (fun _ h9 => h9) rfl dX0_add_59 ?_
    refine lv_aload_n hx hb dX0_add_62 rfl (lv_at hl 1 rfl) ?_
    have f_44 : g_41 X = .inr (5, [.ref (ad (2 * Xa)), .ref (ad (2 * Xb))]) := (fr_42 X (by omega)).trans ((fr_35 X (by omega)).trans ((fr_13 X (by omega)).trans f_8))
    refine m_get (D := (dC, dI)) (v := .ref (ad (2 * Xb))) (C := RX2) (T := TX2) (N := 2) hx hb hts bk1 hown hK hP X lX.1 f_44 rfl 1 (by decide) (hts (.fieldLink RX0 34 "GradientDesk$Fraction" "bottom" "LGradientDesk$Whole;") (List.mem_of_getElem? (i := 3) rfl)) (fun _ h9 => h9) rfl dX0_add_63 ?_
    refine lv_aload_n hx hb dX0_add_66 rfl (lv_at hl 2 rfl) ?_
    have f_45 : g_41 Y = .inr (5, [.ref (ad (2 * Ya)), .ref (ad (2 * Yb))]) := (fr_42 Y (by omega)).trans ((fr_35 Y (by omega)).trans ((fr_13 Y (by omega)).trans f_7))
    refine m_get (D := (dC, dI)) (v := .ref (ad (2 * Yb))) (C := RX2) (T := TX2) (N := 2) hx hb hts bk1 hown hK hP Y lY.1 f_45 rfl 1 (by decide) (hts (.fieldLink RX0 34 "GradientDesk$Fraction" "bottom" "LGradientDesk$Whole;") (List.mem_of_getElem? (i := 3) rfl)) (fun _ h9 => h9) rfl dX0_add_67 ?_
    obtain ⟨mw_46, sw_46, nw_46, fw_46, aw_46, bw_46, cw_46, dw_46, ew_46⟩ := hAW_39 Tb (by omega)
    have qw_46 : mw_46 ≤ 4096 := by rw [dw_46]; exact rmc_le _
    refine va_callv (va_runV (As := [.ref (ad (2 * Xb)), .ref (ad (2 * Yb))]) (rest := []) ⟨hx, hb, hml, hown, hts⟩ (c_X8_multiply l dC dI A ad cA g_41 Tb Xb Yb hAW_39 (by omega) (by omega) (by omega) (by omega) (by omega)) (cwV 2 hts (goodIn_app (goodIn_r [Cond.methodLink RX0 37 yX8_multiply, Cond.instanceMethod yX8_multiply, Cond.selects RX8 yX8_multiply yX8_multiply, Cond.initialized RX8] [4, 5, 6, 7] rfl rfl) (goodIn_sub (fun w9 h9 => bk2 w9 h9) gw_X8_multiply)) rfl rfl rfl (by decide +kernel) ⟨Nat.le_of_ble_eq_true rfl, Nat.le_of_ble_eq_true rfl⟩) ⟨fun a U g mk q => ⟨q.1, q.2.1, q.2.2.1, LY.moved (u := U) (U := U.calling g mk a) (Vm.Alike.refl U.vm) q.2.2.2⟩, va_recv hK hP (ci := 11) (q0 := (2 * Tb)) rfl (wo_at (ns_w (by omega)) aw_46), fun U hU hW => ⟨rfl, by rw [hU]; exact fun q h => hA q (Nat.le_trans hS.1 h), by rw [hU]; exact hP, LY.moved hW.alike hL⟩⟩ rfl rfl hl.1 rfl (lv_room (Nat.le_of_ble_eq_true rfl)) dX0_add_70 ⟨(Nat.le_of_ble_eq_true rfl), (Nat.le_of_ble_eq_true rfl)⟩) hS (fun q _ h => h) (fun q h => h) (fun u8 t8 H1 locs ht8 hvm8 hw_48 hB hz1 hk1 hS => ?_)
    obtain ⟨g_49, rfl⟩ : ∃ z, z = u8 := ⟨_, rfl⟩
    try dsimp only at hw_48 hB
    rw [ht8] at hB
    have hP := hB
    generalize H1 = H at hP hS ⊢
    obtain ⟨fr_50, hAW_47⟩ := hw_48
    refine W.widen (k := 0) (n := 0) (by omega) (by omega) ?_
    exact W.vret hx hb hr (fun t9 ht9 hW9 => ⟨⟨g_49, rfl, ⟨(fun (k : Nat) (hk : 8 ≤ k ∧ k ≠ 2 * Ta ∧ k ≠ 2 * Ta + 1 ∧ k ≠ 2 * Tb ∧ k ≠ 2 * Tb + 1) => (fr_50 k (by omega)).trans ((fr_42 k (by omega)).trans ((fr_35 k (by omega)).trans ((fr_13 k (by omega)).trans ((fr_5 k (by omega)).trans (rfl)))))), hAW_47⟩, by show va_P (dC, dI) vwCl _ t9.heap; rw [ht9]; exact hP⟩, hS.F ht9⟩) hS.2.2 dX0_add_73
def wd_X0_multiply : List Cond := .code yX0_multiply cX0_multiply 4 none :: (([.fieldLink RX0 29 "GradientDesk$Fraction" "top" "LGradientDesk$Whole;", .methodLink RX0 37 yX8_multiply, .instanceMethod yX8_multiply, .selects RX8 yX8_multiply yX8_multiply, .initialized RX8, .fieldLink RX0 34 "GradientDesk$Fraction" "bottom" "LGradientDesk$Whole;"] : List Cond) ++ (u_ws RX2 TX2 2 ++ (wd_X8_multiply ++ ([]))))
theorem gw_X0_multiply : wd_X0_multiply.all goodWord = true := k_allc rfl (k_all (by decide +kernel) (k_all (gu_X2) (k_all (gw_X8_multiply) (rfl))))
set_option maxHeartbeats 4000000 in
set_option maxRecDepth 100000 in
theorem c_X0_multiply (l : Launch) (dC : Nat → ClassId) (dI : Nat → Nat → Nat) (A : Nat → Prop) (ad : Nat → Nat) (cA : Nat → ClassId) (g : Nat → va_E) (X : Nat) (Xa : Nat) (Xb : Nat) (Y : Nat) (Ya : Nat) (Yb : Nat) (T : Nat) (Ta : Nat) (Tb : Nat) (hAW : AW ad cA g) (hAr : g 2077 = .inr (3, [.ref (ad (2 * 0)), .ref (ad (2 * 1)), .ref (ad (2 * 2)), .ref (ad (2 * 3))])) (hX : g X = .inr (5, [.ref (ad (2 * Xa)), .ref (ad (2 * Xb))])) (lX : X < NSc ∧ 2076 ≤ X) (jX : 4 ≤ Xa ∧ Xa < 1038 ∧ 4 ≤ Xb ∧ Xb < 1038 ∧ Xa ≠ Xb) (hY : g Y = .inr (5, [.ref (ad (2 * Ya)), .ref (ad (2 * Yb))])) (lY : Y < NSc ∧ 2076 ≤ Y) (jY : 4 ≤ Ya ∧ Ya < 1038 ∧ 4 ≤ Yb ∧ Yb < 1038 ∧ Ya ≠ Yb) (hT : g T = .inr (5, [.ref (ad (2 * Ta)), .ref (ad (2 * Tb))])) (lT : T < NSc ∧ 2076 ≤ T) (jT : 4 ≤ Ta ∧ Ta < 1038 ∧ 4 ≤ Tb ∧ Tb < 1038 ∧ Ta ≠ Tb) (hd : Ta ≠ Xa ∧ Ta ≠ Xb ∧ Ta ≠ Ya ∧ Ta ≠ Yb ∧ Tb ≠ Xa ∧ Tb ≠ Xb ∧ Tb ≠ Ya ∧ Tb ≠ Yb) : Met l yX0_multiply wd_X0_multiply ({ frames := 40, cells := 0, slots := 0, locals := 800 }) (va_Pc [.ref (ad 2077), .ref (ad X), .ref (ad Y), .ref (ad T)] (PR NSc tyc dC dI A ad cA g)) (va_Qv (fun (u : Nat → va_E) => match u with | g2 => (∀ k, 8 ≤ k ∧ k ≠ 2 * Ta ∧ k ≠ 2 * Ta + 1 ∧ k ≠ 2 * Tb ∧ k ≠ 2 * Tb + 1 → g2 k = g k) ∧ AW ad cA g2) (fun (u : Nat → va_E) (t : State) => va_P (dC, dI) vwCl (wo ad NSc u) t.heap) A) (0) (0) A := by
  refine Met.ofW (cc := cX0_multiply) (maxL := 4) (ret := none) (by decide) rfl ?_
  intro p e s m args below meth c s₁ B hml hv
  obtain ⟨rfl, hA, hP, hL⟩ := hv
  have hx := B.exec
  have hb := B.bytes
  have hr := B.returns
  have hts := atoms_spec (ws := wd_X0_multiply) B.pre
  have hown : s.vm.findClass RX0 = some m.cls := findClass_of_methodNamed B.named
  have hlocks := B.notSynchronized
  have hK := hL.1
  have hD : ∀ g, va_D A (wo ad NSc g) := fun g => wo_D hL.2.1 hL.2.2 g
  have hS : va_S A s.heap s.heap [] := va_S.rf
  have bk0 : ∀ w ∈ u_ws RX2 TX2 2, w ∈ wd_X0_multiply := fun _ h => List.mem_cons_of_mem _ (List.mem_append_right _ (List.mem_append_left _ h))
  have bk1 : ∀ w ∈ wd_X8_multiply, w ∈ wd_X0_multiply := fun _ h => List.mem_cons_of_mem _ (List.mem_append_right _ (List.mem_append_right _ (List.mem_append_left _ h)))
  have hl := lv_entry ([.ref (ad 2077), .ref (ad X), .ref (ad Y), .ref (ad T)]) (n := 4) (Nat.le_of_ble_eq_true rfl)
  rw [lg_entry_eq]
  generalize (lg_sl ([.ref (ad 2077), .ref (ad X), .ref (ad Y), .ref (ad T)]) ++ List.replicate (4 - (lg_sl ([.ref (ad 2077), .ref (ad X), .ref (ad Y), .ref (ad T)])).length) Slot.unset).toArray = ls at hl ⊢
  have hl : lv_has ls 4 [(0, .ref (ad 2077)), (1, .ref (ad X)), (2, .ref (ad Y)), (3, .ref (ad T))] := hl
  refine lv_aload_n hx hb dX0_multiply_0 rfl (lv_at hl 3 rfl) ?_
  refine m_get (D := (dC, dI)) (v := .ref (ad (2 * Ta))) (C := RX2) (T := TX2) (N := 2) hx hb hts bk0 hown hK hP T lT.1 hT rfl 0 (by decide) (hts (.fieldLink RX0 29 "GradientDesk$Fraction" "top" "LGradientDesk$Whole;") (List.mem_of_getElem? (i := 1) rfl)) (fun _ h9 => h9) rfl dX0_multiply_1 ?_
  refine lv_aload_n hx hb dX0_multiply_4 rfl (lv_at hl 1 rfl) ?_
  refine m_get (D := (dC, dI)) (v := .ref (ad (2 * Xa))) (C := RX2) (T := TX2) (N := 2) hx hb hts bk0 hown hK hP X lX.1 hX rfl 0 (by decide) (hts (.fieldLink RX0 29 "GradientDesk$Fraction" "top" "LGradientDesk$Whole;") (List.mem_of_getElem? (i := 1) rfl)) (fun _ h9 => h9) rfl dX0_multiply_5 ?_
  refine lv_aload_n hx hb dX0_multiply_8 rfl (lv_at hl 2 rfl) ?_
  refine m_get (D := (dC, dI)) (v := .ref (ad (2 * Ya))) (C := RX2) (T := TX2) (N := 2) hx hb hts bk0 hown hK hP Y lY.1 hY rfl 0 (by decide) (hts (.fieldLink RX0 29 "GradientDesk$Fraction" "top" "LGradientDesk$Whole;") (List.mem_of_getElem? (i := 1) rfl)) (fun _ h9 => h9) rfl dX0_multiply_9 ?_
  obtain ⟨mw_1, sw_1, nw_1, fw_1, aw_1, bw_1, cw_1, dw_1, ew_1⟩ := hAW Ta (by omega)
  have qw_1 : mw_1 ≤ 4096 := by rw [dw_1]; exact rmc_le _
  refine va_callv (va_runV (As := [.ref (ad (2 * Xa)), .ref (ad (2 * Ya))]) (rest := []) ⟨hx, hb, hml, hown, hts⟩ (c_X8_multiply l dC dI A ad cA g Ta Xa Ya hAW (by omega) (by omega) (by omega) (by omega) (by omega)) (cwV 2 hts (goodIn_app (goodIn_r [Cond.methodLink RX0 37 yX8_multiply, Cond.instanceMethod yX8_multiply, Cond.selects RX8 yX8_multiply yX8_multiply, Cond.initialized RX8] [2, 3, 4, 5] rfl rfl) (goodIn_sub (fun w9 h9 => bk1 w9 h9) gw_X8_multiply)) rfl rfl rfl (by decide +kernel) ⟨Nat.le_of_ble_eq_true rfl, Nat.le_of_ble_eq_true rfl⟩) ⟨fun a U g mk q => ⟨q.1, q.2.1, q.2.2.1, LY.moved (u := U) (U := U.calling g mk a) (Vm.Alike.refl U.vm) q.2.2.2⟩, va_recv hK hP (ci := 11) (q0 := (2 * Ta)) rfl (wo_at (ns_w (by omega)) aw_1), fun U hU hW => ⟨rfl, by rw [hU]; exact fun q h => hA q (Nat.le_trans hS.1 h), by rw [hU]; exact hP, LY.moved hW.alike hL⟩⟩ rfl rfl hl.1 rfl (lv_room (Nat.le_of_ble_eq_true rfl)) dX0_multiply_12 ⟨(Nat.le_of_ble_eq_true rfl), (Nat.le_of_ble_eq_true rfl)⟩) hS (fun q _ h => h) (fun q h => h) (fun u8 t8 H1 locs ht8 hvm8 hw_3 hB hz1 hk1 hS => ?_)
  obtain ⟨g_4, rfl⟩ : ∃ z, z = u8 := ⟨_, rfl⟩
  try dsimp only at hw_3 hB
  rw [ht8] at hB
  have hP := hB
  generalize H1 = H at hP hS ⊢
  obtain ⟨fr_5, hAW_2⟩ := hw_3
  refine lv_aload_n hx hb dX0_multiply_15 rfl (lv_at hl 3 rfl) ?_
  have f_6 : g_4 T = .inr (5, [.ref (ad (2 * Ta)), .ref (ad (2 * Tb))]) := (fr_5 T (by omega)).trans hT
  refine m_get (D := (dC, dI)) (v := .ref (ad (2 * Tb))) (C := RX2) (T := TX2) (N := 2) hx hb hts bk0 hown hK hP T lT.1 f_6 rfl 1 (by decide) (hts (.fieldLink RX0 34 "GradientDesk$Fraction" "bottom" "LGradientDesk$Whole;") (List.mem_of_getElem? (i := 6) rfl)) (fun _ h9 => h9) rfl dX0_multiply_16 ?_
  refine lv_aload_n hx hb dX0_multiply_19 rfl (lv_at hl 1 rfl) ?_
  have f_7 : g_4 X = .inr (5, [.ref (ad (2 * Xa)), .ref (ad (2 * Xb))]) := (fr_5 X (by omega)).trans hX
  refine m_get (D := (dC, dI)) (v := .ref (ad (2 * Xb))) (C := RX2) (T := TX2) (N := 2) hx hb hts bk0 hown hK hP X lX.1 f_7 rfl 1 (by decide) (hts (.fieldLink RX0 34 "GradientDesk$Fraction" "bottom" "LGradientDesk$Whole;") (List.mem_of_getElem? (i := 6) rfl)) (fun _ h9 => h9) rfl dX0_multiply_20 ?_
  refine lv_aload_n hx hb dX0_multiply_23 rfl (lv_at hl 2 rfl) ?_
  have f_8 : g_4 Y = .inr (5, [.ref (ad (2 * Ya)), .ref (ad (2 * Yb))]) := (fr_5 Y (by omega)).trans hY
  refine m_get (D := (dC, dI)) (v := .ref (ad (2 * Yb))) (C := RX2) (T := TX2) (N := 2) hx hb hts bk0 hown hK hP Y lY.1 f_8 rfl 1 (by decide) (hts (.fieldLink RX0 34 "GradientDesk$Fraction" "bottom" "LGradientDesk$Whole;") (List.mem_of_getElem? (i := 6) rfl)) (fun _ h9 => h9) rfl dX0_multiply_24 ?_
  obtain ⟨mw_9, sw_9, nw_9, fw_9, aw_9, bw_9, cw_9, dw_9, ew_9⟩ := hAW_2 Tb (by omega)
  have qw_9 : mw_9 ≤ 4096 := by rw [dw_9]; exact rmc_le _
  refine va_callv (va_runV (As := [.ref (ad (2 * Xb)), .ref (ad (2 * Yb))]) (rest := []) ⟨hx, hb, hml, hown, hts⟩ (c_X8_multiply l dC dI A ad cA g_4 Tb Xb Yb hAW_2 (by omega) (by omega) (by omega) (by omega) (by omega)) (cwV 2 hts (goodIn_app (goodIn_r [Cond.methodLink RX0 37 yX8_multiply, Cond.instanceMethod yX8_multiply, Cond.selects RX8 yX8_multiply yX8_multiply, Cond.initialized RX8] [2, 3, 4, 5] rfl rfl) (goodIn_sub (fun w9 h9 => bk1 w9 h9) gw_X8_multiply)) rfl rfl rfl (by decide +kernel) ⟨Nat.le_of_ble_eq_true rfl, Nat.le_of_ble_eq_true rfl⟩) ⟨fun a U g mk q => ⟨q.1, q.2.1, q.2.2.1, LY.moved (u := U) (U := U.calling g mk a) (Vm.Alike.refl U.vm) q.2.2.2⟩, va_recv hK hP (ci := 11) (q0 := (2 * Tb)) rfl (wo_at (ns_w (by omega)) aw_9), fun U hU hW => ⟨rfl, by rw [hU]; exact fun q h => hA q (Nat.le_trans hS.1 h), by rw [hU]; exact hP, LY.moved hW.alike hL⟩⟩ rfl rfl hl.1 rfl (lv_room (Nat.le_of_ble_eq_true rfl)) dX0_multiply_27 ⟨(Nat.le_of_ble_eq_true rfl), (Nat.le_of_ble_eq_true rfl)⟩) hS (fun q _ h => h) (fun q h => h) (fun u8 t8 H1 locs ht8 hvm8 hw_11 hB hz1 hk1 hS => ?_)
  obtain ⟨g_12, rfl⟩ : ∃ z, z = u8 := ⟨_, rfl⟩
  try dsimp only at hw_11 hB
  rw [ht8] at hB
  have hP := hB
  generalize H1 = H at hP hS ⊢
  obtain ⟨fr_13, hAW_10⟩ := hw_11
  refine W.widen (k := 0) (n := 0) (by omega) (by omega) ?_
  exact W.vret hx hb hr (fun t9 ht9 hW9 => ⟨⟨g_12, rfl, ⟨(fun (k : Nat) (hk : 8 ≤ k ∧ k ≠ 2 * Ta ∧ k ≠ 2 * Ta + 1 ∧ k ≠ 2 * Tb ∧ k ≠ 2 * Tb + 1) => (fr_13 k (by omega)).trans ((fr_5 k (by omega)).trans (rfl))), hAW_10⟩, by show va_P (dC, dI) vwCl _ t9.heap; rw [ht9]; exact hP⟩, hS.F ht9⟩) hS.2.2 dX0_multiply_30
def wd_X0_order : List Cond := .code yX0_order cX0_order 3 (some .int) :: (([.fieldLink RX0 14 "GradientDesk$Arithmetic" "left" "LGradientDesk$Whole;", .fieldLink RX0 29 "GradientDesk$Fraction" "top" "LGradientDesk$Whole;", .fieldLink RX0 34 "GradientDesk$Fraction" "bottom" "LGradientDesk$Whole;", .methodLink RX0 37 yX8_multiply, .instanceMethod yX8_multiply, .selects RX8 yX8_multiply yX8_multiply, .initialized RX8, .fieldLink RX0 20 "GradientDesk$Arithmetic" "right" "LGradientDesk$Whole;", .methodLink RX0 47 yX8_order, .instanceMethod yX8_order, .selects RX8 yX8_order yX8_order] : List Cond) ++ (u_ws RX0 TX0 4 ++ (u_ws RX2 TX2 2 ++ (wd_X8_multiply ++ (wd_X8_order ++ ([]))))))
theorem gw_X0_order : wd_X0_order.all goodWord = true := k_allc rfl (k_all (by decide +kernel) (k_all (gu_X0) (k_all (gu_X2) (k_all (gw_X8_multiply) (k_all (gw_X8_order) (rfl))))))
set_option maxHeartbeats 4000000 in
set_option maxRecDepth 100000 in
theorem c_X0_order (l : Launch) (dC : Nat → ClassId) (dI : Nat → Nat → Nat) (A : Nat → Prop) (ad : Nat → Nat) (cA : Nat → ClassId) (g : Nat → va_E) (X : Nat) (Xa : Nat) (Xb : Nat) (Y : Nat) (Ya : Nat) (Yb : Nat) (hAW : AW ad cA g) (hAr : g 2077 = .inr (3, [.ref (ad (2 * 0)), .ref (ad (2 * 1)), .ref (ad (2 * 2)), .ref (ad (2 * 3))])) (hX : g X = .inr (5, [.ref (ad (2 * Xa)), .ref (ad (2 * Xb))])) (lX : X < NSc ∧ 2076 ≤ X) (jX : 4 ≤ Xa ∧ Xa < 1038 ∧ 4 ≤ Xb ∧ Xb < 1038 ∧ Xa ≠ Xb) (hY : g Y = .inr (5, [.ref (ad (2 * Ya)), .ref (ad (2 * Yb))])) (lY : Y < NSc ∧ 2076 ≤ Y) (jY : 4 ≤ Ya ∧ Ya < 1038 ∧ 4 ≤ Yb ∧ Yb < 1038 ∧ Ya ≠ Yb) : Met l yX0_order wd_X0_order ({ frames := 40, cells := 0, slots := 0, locals := 800 }) (va_Pc [.ref (ad 2077), .ref (ad X), .ref (ad Y)] (PR NSc tyc dC dI A ad cA g)) (va_Qi (fun (r : Int32) => fun (u : Nat → va_E) => match u with | g2 => (∀ k, 8 ≤ k → g2 k = g k) ∧ AW ad cA g2) (fun (u : Nat → va_E) (t : State) => va_P (dC, dI) vwCl (wo ad NSc u) t.heap) A) (0) (0) A := by
  refine Met.ofW (cc := cX0_order) (maxL := 3) (ret := (some .int)) (by decide) rfl ?_
  intro p e s m args below meth c s₁ B hml hv
  obtain ⟨rfl, hA, hP, hL⟩ := hv
  have hx := B.exec
  have hb := B.bytes
  have hr := B.returns
  have hts := atoms_spec (ws := wd_X0_order) B.pre
  have hown : s.vm.findClass RX0 = some m.cls := findClass_of_methodNamed B.named
  have hlocks := B.notSynchronized
  have hK := hL.1
  have hD : ∀ g, va_D A (wo ad NSc g) := fun g => wo_D hL.2.1 hL.2.2 g
  have hS : va_S A s.heap s.heap [] := va_S.rf
  have bk0 : ∀ w ∈ u_ws RX0 TX0 4, w ∈ wd_X0_order := fun _ h => List.mem_cons_of_mem _ (List.mem_append_right _ (List.mem_append_left _ h))
  have bk1 : ∀ w ∈ u_ws RX2 TX2 2, w ∈ wd_X0_order := fun _ h => List.mem_cons_of_mem _ (List.mem_append_right _ (List.mem_append_right _ (List.mem_append_left _ h)))
  have bk2 : ∀ w ∈ wd_X8_multiply, w ∈ wd_X0_order := fun _ h => List.mem_cons_of_mem _ (List.mem_append_right _ (List.mem_append_right _ (List.mem_append_right _ (List.mem_append_left _ h))))
  have bk3 : ∀ w ∈ wd_X8_order, w ∈ wd_X0_order := fun _ h => List.mem_cons_of_mem _ (List.mem_append_right _ (List.mem_append_right _ (List.mem_append_right _ (List.mem_append_right _ (List.mem_append_left _ h)))))
  have hl := lv_entry ([.ref (ad 2077), .ref (ad X), .ref (ad Y)]) (n := 3) (Nat.le_of_ble_eq_true rfl)
  rw [lg_entry_eq]
  generalize (lg_sl ([.ref (ad 2077), .ref (ad X), .ref (ad Y)]) ++ List.replicate (3 - (lg_sl ([.ref (ad 2077), .ref (ad X), .ref (ad Y)])).length) Slot.unset).toArray = ls at hl ⊢
  have hl : lv_has ls 3 [(0, .ref (ad 2077)), (1, .ref (ad X)), (2, .ref (ad Y))] := hl
  refine lv_aload_n hx hb dX0_order_0 rfl (lv_at hl 0 rfl) ?_
  refine m_get (D := (dC, dI)) (v := .ref (ad (2 * 0))) (C := RX0) (T := TX0) (N := 4) hx hb hts bk0 hown hK hP 2077 (by decide) hAr rfl 0 (by decide) (hts (.fieldLink RX0 14 "GradientDesk$Arithmetic" "left" "LGradientDesk$Whole;") (List.mem_of_getElem? (i := 1) rfl)) (fun _ h9 => h9) rfl dX0_order_1 ?_
  refine lv_aload_n hx hb dX0_order_4 rfl (lv_at hl 1 rfl) ?_
  refine m_get (D := (dC, dI)) (v := .ref (ad (2 * Xa))) (C := RX2) (T := TX2) (N := 2) hx hb hts bk1 hown hK hP X lX.1 hX rfl 0 (by decide) (hts (.fieldLink RX0 29 "GradientDesk$Fraction" "top" "LGradientDesk$Whole;") (List.mem_of_getElem? (i := 2) rfl)) (fun _ h9 => h9) rfl dX0_order_5 ?_
  refine lv_aload_n hx hb dX0_order_8 rfl (lv_at hl 2 rfl) ?_
  refine m_get (D := (dC, dI)) (v := .ref (ad (2 * Yb))) (C := RX2) (T := TX2) (N := 2) hx hb hts bk1 hown hK hP Y lY.1 hY rfl 1 (by decide) (hts (.fieldLink RX0 34 "GradientDesk$Fraction" "bottom" "LGradientDesk$Whole;") (List.mem_of_getElem? (i := 3) rfl)) (fun _ h9 => h9) rfl dX0_order_9 ?_
  obtain ⟨mw_1, sw_1, nw_1, fw_1, aw_1, bw_1, cw_1, dw_1, ew_1⟩ := hAW 0 (by omega)
  have qw_1 : mw_1 ≤ 4096 := by rw [dw_1]; exact rmc_le _
  refine va_callv (va_runV (As := [.ref (ad (2 * Xa)), .ref (ad (2 * Yb))]) (rest := []) ⟨hx, hb, hml, hown, hts⟩ (c_X8_multiply l dC dI A ad cA g 0 Xa Yb hAW (by omega) (by omega) (by omega) (by omega) (by omega)) (cwV 2 hts (goodIn_app (goodIn_r [Cond.methodLink RX0 37 yX8_multiply, Cond.instanceMethod yX8_multiply, Cond.selects RX8 yX8_multiply yX8_multiply, Cond.initialized RX8] [4, 5, 6, 7] rfl rfl) (goodIn_sub (fun w9 h9 => bk2 w9 h9) gw_X8_multiply)) rfl rfl rfl (by decide +kernel) ⟨Nat.le_of_ble_eq_true rfl, Nat.le_of_ble_eq_true rfl⟩) ⟨fun a U g mk q => ⟨q.1, q.2.1, q.2.2.1, LY.moved (u := U) (U := U.calling g mk a) (Vm.Alike.refl U.vm) q.2.2.2⟩, va_recv hK hP (ci := 11) (q0 := (2 * 0)) rfl (wo_at (ns_w (by omega)) aw_1), fun U hU hW => ⟨rfl, by rw [hU]; exact fun q h => hA q (Nat.le_trans hS.1 h), by rw [hU]; exact hP, LY.moved hW.alike hL⟩⟩ rfl rfl hl.1 rfl (lv_room (Nat.le_of_ble_eq_true rfl)) dX0_order_12 ⟨(Nat.le_of_ble_eq_true rfl), (Nat.le_of_ble_eq_true rfl)⟩) hS (fun q _ h => h) (fun q h => h) (fun u8 t8 H1 locs ht8 hvm8 hw_3 hB hz1 hk1 hS => ?_)
  obtain ⟨g_4, rfl⟩ : ∃ z, z = u8 := ⟨_, rfl⟩
  try dsimp only at hw_3 hB
  rw [ht8] at hB
  have hP := hB
  generalize H1 = H at hP hS ⊢
  obtain ⟨fr_5, hAW_2⟩ := hw_3
  refine lv_aload_n hx hb dX0_order_15 rfl (lv_at hl 0 rfl) ?_
  have f_6 : g_4 2077 = .inr (3, [.ref (ad (2 * 0)), .ref (ad (2 * 1)), .ref (ad (2 * 2)), .ref (ad (2 * 3))]) := (fr_5 2077 (by omega)).trans hAr
  refine m_get (D := (dC, dI)) (v := .ref (ad (2 * 1))) (C := RX0) (T := TX0) (N := 4) hx hb hts bk0 hown hK hP 2077 (by decide) f_6 rfl 1 (by decide) (hts (.fieldLink RX0 20 "GradientDesk$Arithmetic" "right" "LGradientDesk$Whole;") (List.mem_of_getElem? (i := 8) rfl)) (fun _ h9 => h9) rfl dX0_order_16 ?_
  refine lv_aload_n hx hb dX0_order_19 rfl (lv_at hl 2 rfl) ?_
  have f_7 : g_4 Y = .inr (5, [.ref (ad (2 * Ya)), .ref (ad (2 * Yb))]) := (fr_5 Y (by omega)).trans hY
  refine m_get (D := (dC, dI)) (v := .ref (ad (2 * Ya))) (C := RX2) (T := TX2) (N := 2) hx hb hts bk1 hown hK hP Y lY.1 f_7 rfl 0 (by decide) (hts (.fieldLink RX0 29 "GradientDesk$Fraction" "top" "LGradientDesk$Whole;") (List.mem_of_getElem? (i := 2) rfl)) (fun _ h9 => h9) rfl dX0_order_20 ?_
  refine lv_aload_n hx hb dX0_order_23 rfl (lv_at hl 1 rfl) ?_
  have f_8 : g_4 X = .inr (5, [.ref (ad (2 * Xa)), .ref (ad (2 * Xb))]) := (fr_5 X (by omega)).trans hX
  refine m_get (D := (dC, dI)) (v := .ref (ad (2 * Xb))) (C := RX2) (T := TX2) (N := 2) hx hb hts bk1 hown hK hP X lX.1 f_8 rfl 1 (by decide) (hts (.fieldLink RX0 34 "GradientDesk$Fraction" "bottom" "LGradientDesk$Whole;") (List.mem_of_getElem? (i := 3) rfl)) (fun _ h9 => h9) rfl dX0_order_24 ?_
  obtain ⟨mw_9, sw_9, nw_9, fw_9, aw_9, bw_9, cw_9, dw_9, ew_9⟩ := hAW_2 1 (by omega)
  have qw_9 : mw_9 ≤ 4096 := by rw [dw_9]; exact rmc_le _
  refine va_callv (va_runV (As := [.ref (ad (2 * Ya)), .ref (ad (2 * Xb))]) (rest := []) ⟨hx, hb, hml, hown, hts⟩ (c_X8_multiply l dC dI A ad cA g_4 1 Ya Xb hAW_2 (by omega) (by omega) (by omega) (by omega) (by omega)) (cwV 2 hts (goodIn_app (goodIn_r [Cond.methodLink RX0 37 yX8_multiply, Cond.instanceMethod yX8_multiply, Cond.selects RX8 yX8_multiply yX8_multiply, Cond.initialized RX8] [4, 5, 6, 7] rfl rfl) (goodIn_sub (fun w9 h9 => bk2 w9 h9) gw_X8_multiply)) rfl rfl rfl (by decide +kernel) ⟨Nat.le_of_ble_eq_true rfl, Nat.le_of_ble_eq_true rfl⟩) ⟨fun a U g mk q => ⟨q.1, q.2.1, q.2.2.1, LY.moved (u := U) (U := U.calling g mk a) (Vm.Alike.refl U.vm) q.2.2.2⟩, va_recv hK hP (ci := 11) (q0 := (2 * 1)) rfl (wo_at (ns_w (by omega)) aw_9), fun U hU hW => ⟨rfl, by rw [hU]; exact fun q h => hA q (Nat.le_trans hS.1 h), by rw [hU]; exact hP, LY.moved hW.alike hL⟩⟩ rfl rfl hl.1 rfl (lv_room (Nat.le_of_ble_eq_true rfl)) dX0_order_27 ⟨(Nat.le_of_ble_eq_true rfl), (Nat.le_of_ble_eq_true rfl)⟩) hS (fun q _ h => h) (fun q h => h) (fun u8 t8 H1 locs ht8 hvm8 hw_11 hB hz1 hk1 hS => ?_)
  obtain ⟨g_12, rfl⟩ : ∃ z, z = u8 := ⟨_, rfl⟩
  try dsimp only at hw_11 hB
  rw [ht8] at hB
  have hP := hB
  generalize H1 = H at hP hS ⊢
  obtain ⟨fr_13, hAW_10⟩ := hw_11
  refine lv_aload_n hx hb dX0_order_30 rfl (lv_at hl 0 rfl) ?_
  have f_14 : g_12 2077 = .inr (3, [.ref (ad (2 * 0)), .ref (ad (2 * 1)), .ref (ad (2 * 2)), .ref (ad (2 * 3))]) := (fr_13 2077 (by omega)).trans f_6
  refine m_get (D := (dC, dI)) (v := .ref (ad (2 * 0))) (C := RX0) (T := TX0) (N := 4) hx hb hts bk0 hown hK hP 2077 (by decide) f_14 rfl 0 (by decide) (hts (.fieldLink RX0 14 "GradientDesk$Arithmetic" "left" "LGradientDesk$Whole;") (List.mem_of_getElem? (i := 1) rfl)) (fun _ h9 => h9) rfl dX0_order_31 ?_
  refine lv_aload_n hx hb dX0_order_34 rfl (lv_at hl 0 rfl) ?_
  refine m_get (D := (dC, dI)) (v := .ref (ad (2 * 1))) (C := RX0) (T := TX0) (N := 4) hx hb hts bk0 hown hK hP 2077 (by decide) f_14 rfl 1 (by decide) (hts (.fieldLink RX0 20 "GradientDesk$Arithmetic" "right" "LGradientDesk$Whole;") (List.mem_of_getElem? (i := 8) rfl)) (fun _ h9 => h9) rfl dX0_order_35 ?_
  obtain ⟨mw_15, sw_15, nw_15, fw_15, aw_15, bw_15, cw_15, dw_15, ew_15⟩ := hAW_10 0 (by omega)
  have qw_15 : mw_15 ≤ 4096 := by rw [dw_15]; exact rmc_le _
  refine va_calli (va_runV (As := [.ref (ad (2 * 1))]) (rest := []) ⟨hx, hb, hml, hown, hts⟩ (c_X8_order l dC dI A ad cA g_12 0 1 hAW_10 (by omega) (by omega)) (cwV 1 hts (goodIn_app (goodIn_r [Cond.methodLink RX0 47 yX8_order, Cond.instanceMethod yX8_order, Cond.selects RX8 yX8_order yX8_order, Cond.initialized RX8] [9, 10, 11, 7] rfl rfl) (goodIn_sub (fun w9 h9 => bk3 w9 h9) gw_X8_order)) rfl rfl rfl (by decide +kernel) ⟨Nat.le_of_ble_eq_true rfl, Nat.le_of_ble_eq_true rfl⟩) ⟨fun a U g mk q => ⟨q.1, q.2.1, q.2.2.1, LY.moved (u := U) (U := U.calling g mk a) (Vm.Alike.refl U.vm) q.2.2.2⟩, va_recv hK hP (ci := 11) (q0 := (2 * 0)) rfl (wo_at (ns_w (by omega)) aw_15), fun U hU hW => ⟨rfl, by rw [hU]; exact fun q h => hA q (Nat.le_trans hS.1 h), by rw [hU]; exact hP, LY.moved hW.alike hL⟩⟩ rfl rfl hl.1 rfl (lv_room (Nat.le_of_ble_eq_true rfl)) dX0_order_38 ⟨(Nat.le_of_ble_eq_true rfl), (Nat.le_of_ble_eq_true rfl)⟩) hS (fun q _ h => h) (fun q h => h) (fun r_16 u8 t8 H1 locs ht8 hvm8 hw_17 hB hz1 hk1 hS => ?_)
  obtain ⟨⟩ := u8
  try dsimp only at hw_17 hB
  rw [ht8] at hB
  have hP := hB
  generalize H1 = H at hP hS ⊢
  refine W.widen (k := 0) (n := 0) (by omega) (by omega) ?_
  exact W.iret (v := r_16) hx hb hr (fun t9 ht9 hW9 => ⟨⟨r_16, g_12, rfl, ⟨(fun (k : Nat) (hk : 8 ≤ k) => (fr_13 k (by omega)).trans ((fr_5 k (by omega)).trans (rfl))), hAW_10⟩, by show va_P (dC, dI) vwCl _ t9.heap; rw [ht9]; exact hP⟩, hS.F ht9⟩) hS.2.2 dX0_order_41
def wd_X0_oddDivisor : List Cond := .code yX0_oddDivisor cX0_oddDivisor 9 (some (.object "GradientDesk$Whole")) :: (([.fieldLink RX0 23 "GradientDesk$Arithmetic" "one" "LGradientDesk$Whole;", .methodLink RX0 80 yX8_become, .instanceMethod yX8_become, .selects RX8 yX8_become yX8_become, .initialized RX8, .fieldLink RX0 26 "GradientDesk$Arithmetic" "other" "LGradientDesk$Whole;", .fieldLink RX0 83 "GradientDesk$Whole" "below" "Z", .methodLink RX0 59 yX8_lowZeros, .instanceMethod yX8_lowZeros, .selects RX8 yX8_lowZeros yX8_lowZeros, .methodLink RX0 69 yX8_shiftDown, .instanceMethod yX8_shiftDown, .selects RX8 yX8_shiftDown yX8_shiftDown, .methodLink RX0 87 yX8_bitLength, .instanceMethod yX8_bitLength, .selects RX8 yX8_bitLength yX8_bitLength, .methodLink RX0 90 yX8_orderOfSizes, .instanceMethod yX8_orderOfSizes, .selects RX8 yX8_orderOfSizes yX8_orderOfSizes, .methodLink RX0 93 yX8_isOne, .instanceMethod yX8_isOne, .selects RX8 yX8_isOne yX8_isOne, .methodLink RX0 96 yX8_takeSizes, .instanceMethod yX8_takeSizes, .selects RX8 yX8_takeSizes yX8_takeSizes] : List Cond) ++ (u_ws RX0 TX0 4 ++ (wd_X8_become ++ (u_ws RX8 TX8 3 ++ (wd_X8_lowZeros ++ (wd_X8_shiftDown ++ (wd_X8_bitLength ++ (wd_X8_orderOfSizes ++ (wd_X8_isOne ++ (wd_X8_take2 ++ ([])))))))))))
theorem gw_X0_oddDivisor : wd_X0_oddDivisor.all goodWord = true := k_allc rfl (k_all (by decide +kernel) (k_all (gu_X0) (k_all (gw_X8_become) (k_all (gu_X8) (k_all (gw_X8_lowZeros) (k_all (gw_X8_shiftDown) (k_all (gw_X8_bitLength) (k_all (gw_X8_orderOfSizes) (k_all (gw_X8_isOne) (k_all (gw_X8_take2) (rfl)))))))))))
set_option maxHeartbeats 4000000 in
set_option maxRecDepth 100000 in
theorem c_X0_oddDivisor (l : Launch) (dC : Nat → ClassId) (dI : Nat → Nat → Nat) (A : Nat → Prop) (ad : Nat → Nat) (cA : Nat → ClassId) (g : Nat → va_E) (x : Nat) (y : Nat) (hAW : AW ad cA g) (hAr : g 2077 = .inr (3, [.ref (ad (2 * 0)), .ref (ad (2 * 1)), .ref (ad (2 * 2)), .ref (ad (2 * 3))])) (ix : 4 ≤ x ∧ x < 1038) (iy : 4 ≤ y ∧ y < 1038) : Met l yX0_oddDivisor wd_X0_oddDivisor ({ frames := 30, cells := 0, slots := 0, locals := 600 }) (va_Pc [.ref (ad 2077), .ref (ad (2 * x)), .ref (ad (2 * y))] (PR NSc tyc dC dI A ad cA g)) (va_Qr (fun (u : (Nat → va_E) × Nat) => match u with | (g2, q) => (∀ k, 8 ≤ k → g2 k = g k) ∧ AW ad cA g2 ∧ (q = 2 ∨ q = 3)) (fun (u : (Nat → va_E) × Nat) (ra : Nat) (t : State) => (match u with | (g2, q) => ra = ad (2 * q)) ∧ va_P (dC, dI) vwCl (wo ad NSc u.1) t.heap) A) (0) (0) A := by
  refine Met.ofW (cc := cX0_oddDivisor) (maxL := 9) (ret := (some (.object "GradientDesk$Whole"))) (by decide) rfl ?_
  intro p e s m args below meth c s₁ B hml hv
  obtain ⟨rfl, hA, hP, hL⟩ := hv
  have hx := B.exec
  have hb := B.bytes
  have hr := B.returns
  have hts := atoms_spec (ws := wd_X0_oddDivisor) B.pre
  have hown : s.vm.findClass RX0 = some m.cls := findClass_of_methodNamed B.named
  have hlocks := B.notSynchronized
  have hK := hL.1
  have hD : ∀ g, va_D A (wo ad NSc g) := fun g => wo_D hL.2.1 hL.2.2 g
  have hS : va_S A s.heap s.heap [] := va_S.rf
  have bk0 : ∀ w ∈ u_ws RX0 TX0 4, w ∈ wd_X0_oddDivisor := fun _ h => List.mem_cons_of_mem _ (List.mem_append_right _ (List.mem_append_left _ h))
  have bk1 : ∀ w ∈ wd_X8_become, w ∈ wd_X0_oddDivisor := fun _ h => List.mem_cons_of_mem _ (List.mem_append_right _ (List.mem_append_right _ (List.mem_append_left _ h)))
  have bk2 : ∀ w ∈ u_ws RX8 TX8 3, w ∈ wd_X0_oddDivisor := fun _ h => List.mem_cons_of_mem _ (List.mem_append_right _ (List.mem_append_right _ (List.mem_append_right _ (List.mem_append_left _ h))))
  have bk3 : ∀ w ∈ wd_X8_lowZeros, w ∈ wd_X0_oddDivisor := fun _ h => List.mem_cons_of_mem _ (List.mem_append_right _ (List.mem_append_right _ (List.mem_append_right _ (List.mem_append_right _ (List.mem_append_left _ h)))))
  have bk4 : ∀ w ∈ wd_X8_shiftDown, w ∈ wd_X0_oddDivisor := fun _ h => List.mem_cons_of_mem _ (List.mem_append_right _ (List.mem_append_right _ (List.mem_append_right _ (List.mem_append_right _ (List.mem_append_right _ (List.mem_append_left _ h))))))
  have bk5 : ∀ w ∈ wd_X8_bitLength, w ∈ wd_X0_oddDivisor := fun _ h => List.mem_cons_of_mem _ (List.mem_append_right _ (List.mem_append_right _ (List.mem_append_right _ (List.mem_append_right _ (List.mem_append_right _ (List.mem_append_right _ (List.mem_append_left _ h)))))))
  have bk6 : ∀ w ∈ wd_X8_orderOfSizes, w ∈ wd_X0_oddDivisor := fun _ h => List.mem_cons_of_mem _ (List.mem_append_right _ (List.mem_append_right _ (List.mem_append_right _ (List.mem_append_right _ (List.mem_append_right _ (List.mem_append_right _ (List.mem_append_right _ (List.mem_append_left _ h))))))))
  have bk7 : ∀ w ∈ wd_X8_isOne, w ∈ wd_X0_oddDivisor := fun _ h => List.mem_cons_of_mem _ (List.mem_append_right _ (List.mem_append_right _ (List.mem_append_right _ (List.mem_append_right _ (List.mem_append_right _ (List.mem_append_right _ (List.mem_append_right _ (List.mem_append_right _ (List.mem_append_left _ h)))))))))
  have bk8 : ∀ w ∈ wd_X8_take2, w ∈ wd_X0_oddDivisor := fun _ h => List.mem_cons_of_mem _ (List.mem_append_right _ (List.mem_append_right _ (List.mem_append_right _ (List.mem_append_right _ (List.mem_append_right _ (List.mem_append_right _ (List.mem_append_right _ (List.mem_append_right _ (List.mem_append_right _ (List.mem_append_left _ h))))))))))
  have hl := lv_entry ([.ref (ad 2077), .ref (ad (2 * x)), .ref (ad (2 * y))]) (n := 9) (Nat.le_of_ble_eq_true rfl)
  rw [lg_entry_eq]
  generalize (lg_sl ([.ref (ad 2077), .ref (ad (2 * x)), .ref (ad (2 * y))]) ++ List.replicate (9 - (lg_sl ([.ref (ad 2077), .ref (ad (2 * x)), .ref (ad (2 * y))])).length) Slot.unset).toArray = ls at hl ⊢
  have hl : lv_has ls 9 [(0, .ref (ad 2077)), (1, .ref (ad (2 * x))), (2, .ref (ad (2 * y)))] := hl
  refine lv_aload_n hx hb dX0_oddDivisor_0 rfl (lv_at hl 0 rfl) ?_
  refine m_get (D := (dC, dI)) (v := .ref (ad (2 * 2))) (C := RX0) (T := TX0) (N := 4) hx hb hts bk0 hown hK hP 2077 (by decide) hAr rfl 2 (by decide) (hts (.fieldLink RX0 23 "GradientDesk$Arithmetic" "one" "LGradientDesk$Whole;") (List.mem_of_getElem? (i := 1) rfl)) (fun _ h9 => h9) rfl dX0_oddDivisor_1 ?_
  refine lv_aload_n hx hb dX0_oddDivisor_4 rfl (lv_at hl 1 rfl) ?_
  obtain ⟨mw_1, sw_1, nw_1, fw_1, aw_1, bw_1, cw_1, dw_1, ew_1⟩ := hAW 2 (by omega)
  have qw_1 : mw_1 ≤ 4096 := by rw [dw_1]; exact rmc_le _
  refine va_callv (va_runV (As := [.ref (ad (2 * x))]) (rest := []) ⟨hx, hb, hml, hown, hts⟩ (c_X8_become l dC dI A ad cA g 2 x hAW (by omega) (by omega) (by omega)) (cwV 1 hts (goodIn_app (goodIn_r [Cond.methodLink RX0 80 yX8_become, Cond.instanceMethod yX8_become, Cond.selects RX8 yX8_become yX8_become, Cond.initialized RX8] [2, 3, 4, 5] rfl rfl) (goodIn_sub (fun w9 h9 => bk1 w9 h9) gw_X8_become)) rfl rfl rfl (by decide +kernel) ⟨Nat.le_of_ble_eq_true rfl, Nat.le_of_ble_eq_true rfl⟩) ⟨fun a U g mk q => ⟨q.1, q.2.1, q.2.2.1, LY.moved (u := U) (U := U.calling g mk a) (Vm.Alike.refl U.vm) q.2.2.2⟩, va_recv hK hP (ci := 11) (q0 := (2 * 2)) rfl (wo_at (ns_w (by omega)) aw_1), fun U hU hW => ⟨rfl, by rw [hU]; exact fun q h => hA q (Nat.le_trans hS.1 h), by rw [hU]; exact hP, LY.moved hW.alike hL⟩⟩ rfl rfl hl.1 rfl (lv_room (Nat.le_of_ble_eq_true rfl)) dX0_oddDivisor_5 ⟨(Nat.le_of_ble_eq_true rfl), (Nat.le_of_ble_eq_true rfl)⟩) hS (fun q _ h => h) (fun q h => h) (fun u8 t8 H1 locs ht8 hvm8 hw_3 hB hz1 hk1 hS => ?_)
  obtain ⟨g_4, rfl⟩ : ∃ z, z = u8 := ⟨_, rfl⟩
  try dsimp only at hw_3 hB
  rw [ht8] at hB
  have hP := hB
  generalize H1 = H at hP hS ⊢
  obtain ⟨fr_5, hAW_2⟩ := hw_3
  refine lv_aload_n hx hb dX0_oddDivisor_8 rfl (lv_at hl 0 rfl) ?_
  have f_6 : g_4 2077 = .inr (3, [.ref (ad (2 * 0)), .ref (ad (2 * 1)), .ref (ad (2 * 2)), .ref (ad (2 * 3))]) := (fr_5 2077 (by omega)).trans hAr
  refine m_get (D := (dC, dI)) (v := .ref (ad (2 * 3))) (C := RX0) (T := TX0) (N := 4) hx hb hts bk0 hown hK hP 2077 (by decide) f_6 rfl 3 (by decide) (hts (.fieldLink RX0 26 "GradientDesk$Arithmetic" "other" "LGradientDesk$Whole;") (List.mem_of_getElem? (i := 6) rfl)) (fun _ h9 => h9) rfl dX0_oddDivisor_9 ?_
  refine lv_aload_n hx hb dX0_oddDivisor_12 rfl (lv_at hl 2 rfl) ?_
  obtain ⟨mw_7, sw_7, nw_7, fw_7, aw_7, bw_7, cw_7, dw_7, ew_7⟩ := hAW_2 3 (by omega)
  have qw_7 : mw_7 ≤ 4096 := by rw [dw_7]; exact rmc_le _
  refine va_callv (va_runV (As := [.ref (ad (2 * y))]) (rest := []) ⟨hx, hb, hml, hown, hts⟩ (c_X8_become l dC dI A ad cA g_4 3 y hAW_2 (by omega) (by omega) (by omega)) (cwV 1 hts (goodIn_app (goodIn_r [Cond.methodLink RX0 80 yX8_become, Cond.instanceMethod yX8_become, Cond.selects RX8 yX8_become yX8_become, Cond.initialized RX8] [2, 3, 4, 5] rfl rfl) (goodIn_sub (fun w9 h9 => bk1 w9 h9) gw_X8_become)) rfl rfl rfl (by decide +kernel) ⟨Nat.le_of_ble_eq_true rfl, Nat.le_of_ble_eq_true rfl⟩) ⟨fun a U g mk q => ⟨q.1, q.2.1, q.2.2.1, LY.moved (u := U) (U := U.calling g mk a) (Vm.Alike.refl U.vm) q.2.2.2⟩, va_recv hK hP (ci := 11) (q0 := (2 * 3)) rfl (wo_at (ns_w (by omega)) aw_7), fun U hU hW => ⟨rfl, by rw [hU]; exact fun q h => hA q (Nat.le_trans hS.1 h), by rw [hU]; exact hP, LY.moved hW.alike hL⟩⟩ rfl rfl hl.1 rfl (lv_room (Nat.le_of_ble_eq_true rfl)) dX0_oddDivisor_13 ⟨(Nat.le_of_ble_eq_true rfl), (Nat.le_of_ble_eq_true rfl)⟩) hS (fun q _ h => h) (fun q h => h) (fun u8 t8 H1 locs ht8 hvm8 hw_9 hB hz1 hk1 hS => ?_)
  obtain ⟨g_10, rfl⟩ : ∃ z, z = u8 := ⟨_, rfl⟩
  try dsimp only at hw_9 hB
  rw [ht8] at hB
  have hP := hB
  generalize H1 = H at hP hS ⊢
  obtain ⟨fr_11, hAW_8⟩ := hw_9
  obtain ⟨mw_12, sw_12, nw_12, fw_12, aw_12, bw_12, cw_12, dw_12, ew_12⟩ := hAW_8 2 (by omega)
  have qw_12 : mw_12 ≤ 4096 := by rw [dw_12]; exact rmc_le _
  refine lv_aload_n hx hb dX0_oddDivisor_16 rfl (lv_at hl 0 rfl) ?_
  have f_13 : g_10 2077 = .inr (3, [.ref (ad (2 * 0)), .ref (ad (2 * 1)), .ref (ad (2 * 2)), .ref (ad (2 * 3))]) := (fr_11 2077 (by omega)).trans f_6
  refine m_get (D := (dC, dI)) (v := .ref (ad (2 * 2))) (C := RX0) (T := TX0) (N := 4) hx hb hts bk0 hown hK hP 2077 (by decide) f_13 rfl 2 (by decide) (hts (.fieldLink RX0 23 "GradientDesk$Arithmetic" "one" "LGradientDesk$Whole;") (List.mem_of_getElem? (i := 1) rfl)) (fun _ h9 => h9) rfl dX0_oddDivisor_17 ?_
  refine lv_iconst (v := nI 0) hx hb dX0_oddDivisor_20 (by decide +kernel) ?_
  refine m_put (D := (dC, dI)) (v := .int (nI 0)) (tv := .boolean) (C := RX8) (T := TX8) (N := 3) hx hb hts bk2 tyX8 tyX8_ok nmX8 hown hK hP hD hS (2 * 2) (ns_w (by omega)) aw_12 rfl 2 (by decide) (hts (.fieldLink RX0 83 "GradientDesk$Whole" "below" "Z") (List.mem_of_getElem? (i := 7) rfl)) (fun _ h9 => h9) rfl (by decide +kernel) (by decide +kernel) (by decide +kernel) (Nat.le_of_ble_eq_true rfl) dX0_oddDivisor_21 (fun H locs g_14 f_15 fr_16 hP hS => ?_)
  have f_15 : g_14 (2 * 2) = .inr (11, [.ref (ad (2 * 2 + 1)), .int (nI sw_12), .int (nI 0)]) := f_15
  have f_17 : g_14 (2 * 2 + 1) = .inl (cA (2 * 2 + 1), mw_12, .inl fw_12) := (fr_16 (2 * 2 + 1) (by omega)).trans bw_12
  have hAW_18 : AW ad cA g_14 := AW.put (t := 2) hAW_8 (fun (k : Nat) (hk : k ≠ 2 * 2 ∧ k ≠ 2 * 2 + 1) => (fr_16 k (by omega)).trans (rfl)) ⟨f_15, f_17, by omega, by omega, by omega⟩
  refine lv_aload_n hx hb dX0_oddDivisor_24 rfl (lv_at hl 0 rfl) ?_
  have f_19 : g_14 2077 = .inr (3, [.ref (ad (2 * 0)), .ref (ad (2 * 1)), .ref (ad (2 * 2)), .ref (ad (2 * 3))]) := (fr_16 2077 (by omega)).trans f_13
  refine m_get (D := (dC, dI)) (v := .ref (ad (2 * 2))) (C := RX0) (T := TX0) (N := 4) hx hb hts bk0 hown hK hP 2077 (by decide) f_19 rfl 2 (by decide) (hts (.fieldLink RX0 23 "GradientDesk$Arithmetic" "one" "LGradientDesk$Whole;") (List.mem_of_getElem? (i := 1) rfl)) (fun _ h9 => h9) rfl dX0_oddDivisor_25 ?_
  refine lv_aload_n hx hb dX0_oddDivisor_28 rfl (lv_at hl 0 rfl) ?_
  refine m_get (D := (dC, dI)) (v := .ref (ad (2 * 2))) (C := RX0) (T := TX0) (N := 4) hx hb hts bk0 hown hK hP 2077 (by decide) f_19 rfl 2 (by decide) (hts (.fieldLink RX0 23 "GradientDesk$Arithmetic" "one" "LGradientDesk$Whole;") (List.mem_of_getElem? (i := 1) rfl)) (fun _ h9 => h9) rfl dX0_oddDivisor_29 ?_
  refine va_calli (va_runV (As := []) (rest := [.ref (ad (2 * 2))]) ⟨hx, hb, hml, hown, hts⟩ (c_X8_lowZeros l dC dI A ad cA g_14 2 hAW_18 (by omega)) (cwV 0 hts (goodIn_app (goodIn_r [Cond.methodLink RX0 59 yX8_lowZeros, Cond.instanceMethod yX8_lowZeros, Cond.selects RX8 yX8_lowZeros yX8_lowZeros, Cond.initialized RX8] [8, 9, 10, 5] rfl rfl) (goodIn_sub (fun w9 h9 => bk3 w9 h9) gw_X8_lowZeros)) rfl rfl rfl (by decide +kernel) ⟨Nat.le_of_ble_eq_true rfl, Nat.le_of_ble_eq_true rfl⟩) ⟨fun a U g mk q => ⟨q.1, q.2.1, q.2.2.1, LY.moved (u := U) (U := U.calling g mk a) (Vm.Alike.refl U.vm) q.2.2.2⟩, va_recv hK hP (ci := 11) (q0 := (2 * 2)) rfl (wo_at (ns_w (by omega)) f_15), fun U hU hW => ⟨rfl, by rw [hU]; exact fun q h => hA q (Nat.le_trans hS.1 h), by rw [hU]; exact hP, LY.moved hW.alike hL⟩⟩ rfl rfl hl.1 rfl (lv_room (Nat.le_of_ble_eq_true rfl)) dX0_oddDivisor_32 ⟨(Nat.le_of_ble_eq_true rfl), (Nat.le_of_ble_eq_true rfl)⟩) hS (fun q _ h => h) (fun q h => h) (fun r_21 u8 t8 H1 locs ht8 hvm8 hw_22 hB hz1 hk1 hS => ?_)
  obtain ⟨⟩ := u8
  try dsimp only at hw_22 hB
  rw [ht8] at hB
  have hP := hB
  generalize H1 = H at hP hS ⊢
  obtain ⟨z_20, hz_20, rfl⟩ := hw_22
  refine va_callv (va_runV (As := [.int (nI z_20)]) (rest := []) ⟨hx, hb, hml, hown, hts⟩ (c_X8_shiftDown l dC dI A ad cA g_14 2 z_20 hAW_18 (by omega) (by omega)) (cwV 1 hts (goodIn_app (goodIn_r [Cond.methodLink RX0 69 yX8_shiftDown, Cond.instanceMethod yX8_shiftDown, Cond.selects RX8 yX8_shiftDown yX8_shiftDown, Cond.initialized RX8] [11, 12, 13, 5] rfl rfl) (goodIn_sub (fun w9 h9 => bk4 w9 h9) gw_X8_shiftDown)) rfl rfl rfl (by decide +kernel) ⟨Nat.le_of_ble_eq_true rfl, Nat.le_of_ble_eq_true rfl⟩) ⟨fun a U g mk q => ⟨q.1, q.2.1, q.2.2.1, LY.moved (u := U) (U := U.calling g mk a) (Vm.Alike.refl U.vm) q.2.2.2⟩, va_recv hK hP (ci := 11) (q0 := (2 * 2)) rfl (wo_at (ns_w (by omega)) f_15), fun U hU hW => ⟨rfl, by rw [hU]; exact fun q h => hA q (Nat.le_trans hS.1 h), by rw [hU]; exact hP, LY.moved hW.alike hL⟩⟩ rfl rfl hl.1 rfl (lv_room (Nat.le_of_ble_eq_true rfl)) dX0_oddDivisor_35 ⟨(Nat.le_of_ble_eq_true rfl), (Nat.le_of_ble_eq_true rfl)⟩) hS (fun q _ h => h) (fun q h => h) (fun u8 t8 H1 locs ht8 hvm8 hw_24 hB hz1 hk1 hS => ?_)
  obtain ⟨g_25, rfl⟩ : ∃ z, z = u8 := ⟨_, rfl⟩
  try dsimp only at hw_24 hB
  rw [ht8] at hB
  have hP := hB
  generalize H1 = H at hP hS ⊢
  obtain ⟨fr_26, hAW_23⟩ := hw_24
  refine lv_aload_n hx hb dX0_oddDivisor_38 rfl (lv_at hl 0 rfl) ?_
  have f_27 : g_25 2077 = .inr (3, [.ref (ad (2 * 0)), .ref (ad (2 * 1)), .ref (ad (2 * 2)), .ref (ad (2 * 3))]) := (fr_26 2077 (by omega)).trans f_19
  refine m_get (D := (dC, dI)) (v := .ref (ad (2 * 3))) (C := RX0) (T := TX0) (N := 4) hx hb hts bk0 hown hK hP 2077 (by decide) f_27 rfl 3 (by decide) (hts (.fieldLink RX0 26 "GradientDesk$Arithmetic" "other" "LGradientDesk$Whole;") (List.mem_of_getElem? (i := 6) rfl)) (fun _ h9 => h9) rfl dX0_oddDivisor_39 ?_
  refine lv_aload_n hx hb dX0_oddDivisor_42 rfl (lv_at hl 0 rfl) ?_
  refine m_get (D := (dC, dI)) (v := .ref (ad (2 * 3))) (C := RX0) (T := TX0) (N := 4) hx hb hts bk0 hown hK hP 2077 (by decide) f_27 rfl 3 (by decide) (hts (.fieldLink RX0 26 "GradientDesk$Arithmetic" "other" "LGradientDesk$Whole;") (List.mem_of_getElem? (i := 6) rfl)) (fun _ h9 => h9) rfl dX0_oddDivisor_43 ?_
  obtain ⟨mw_28, sw_28, nw_28, fw_28, aw_28, bw_28, cw_28, dw_28, ew_28⟩ := hAW_23 3 (by omega)
  have qw_28 : mw_28 ≤ 4096 := by rw [dw_28]; exact rmc_le _
  refine va_calli (va_runV (As := []) (rest := [.ref (ad (2 * 3))]) ⟨hx, hb, hml, hown, hts⟩ (c_X8_lowZeros l dC dI A ad cA g_25 3 hAW_23 (by omega)) (cwV 0 hts (goodIn_app (goodIn_r [Cond.methodLink RX0 59 yX8_lowZeros, Cond.instanceMethod yX8_lowZeros, Cond.selects RX8 yX8_lowZeros yX8_lowZeros, Cond.initialized RX8] [8, 9, 10, 5] rfl rfl) (goodIn_sub (fun w9 h9 => bk3 w9 h9) gw_X8_lowZeros)) rfl rfl rfl (by decide +kernel) ⟨Nat.le_of_ble_eq_true rfl, Nat.le_of_ble_eq_true rfl⟩) ⟨fun a U g mk q => ⟨q.1, q.2.1, q.2.2.1, LY.moved (u := U) (U := U.calling g mk a) (Vm.Alike.refl U.vm) q.2.2.2⟩, va_recv hK hP (ci := 11) (q0 := (2 * 3)) rfl (wo_at (ns_w (by omega)) aw_28), fun U hU hW => ⟨rfl, by rw [hU]; exact fun q h => hA q (Nat.le_trans hS.1 h), by rw [hU]; exact hP, LY.moved hW.alike hL⟩⟩ rfl rfl hl.1 rfl (lv_room (Nat.le_of_ble_eq_true rfl)) dX0_oddDivisor_46 ⟨(Nat.le_of_ble_eq_true rfl), (Nat.le_of_ble_eq_true rfl)⟩) hS (fun q _ h => h) (fun q h => h) (fun r_30 u8 t8 H1 locs ht8 hvm8 hw_31 hB hz1 hk1 hS => ?_)
  obtain ⟨⟩ := u8
  try dsimp only at hw_31 hB
  rw [ht8] at hB
  have hP := hB
  generalize H1 = H at hP hS ⊢
  obtain ⟨z_29, hz_29, rfl⟩ := hw_31
  refine va_callv (va_runV (As := [.int (nI z_29)]) (rest := []) ⟨hx, hb, hml, hown, hts⟩ (c_X8_shiftDown l dC dI A ad cA g_25 3 z_29 hAW_23 (by omega) (by omega)) (cwV 1 hts (goodIn_app (goodIn_r [Cond.methodLink RX0 69 yX8_shiftDown, Cond.instanceMethod yX8_shiftDown, Cond.selects RX8 yX8_shiftDown yX8_shiftDown, Cond.initialized RX8] [11, 12, 13, 5] rfl rfl) (goodIn_sub (fun w9 h9 => bk4 w9 h9) gw_X8_shiftDown)) rfl rfl rfl (by decide +kernel) ⟨Nat.le_of_ble_eq_true rfl, Nat.le_of_ble_eq_true rfl⟩) ⟨fun a U g mk q => ⟨q.1, q.2.1, q.2.2.1, LY.moved (u := U) (U := U.calling g mk a) (Vm.Alike.refl U.vm) q.2.2.2⟩, va_recv hK hP (ci := 11) (q0 := (2 * 3)) rfl (wo_at (ns_w (by omega)) aw_28), fun U hU hW => ⟨rfl, by rw [hU]; exact fun q h => hA q (Nat.le_trans hS.1 h), by rw [hU]; exact hP, LY.moved hW.alike hL⟩⟩ rfl rfl hl.1 rfl (lv_room (Nat.le_of_ble_eq_true rfl)) dX0_oddDivisor_49 ⟨(Nat.le_of_ble_eq_true rfl), (Nat.le_of_ble_eq_true rfl)⟩) hS (fun q _ h => h) (fun q h => h) (fun u8 t8 H1 locs ht8 hvm8 hw_33 hB hz1 hk1 hS => ?_)
  obtain ⟨g_34, rfl⟩ : ∃ z, z = u8 := ⟨_, rfl⟩
  try dsimp only at hw_33 hB
  rw [ht8] at hB
  have hP := hB
  generalize H1 = H at hP hS ⊢
  obtain ⟨fr_35, hAW_32⟩ := hw_33
  refine lv_aload_n hx hb dX0_oddDivisor_52 rfl (lv_at hl 0 rfl) ?_
  have f_36 : g_34 2077 = .inr (3, [.ref (ad (2 * 0)), .ref (ad (2 * 1)), .ref (ad (2 * 2)), .ref (ad (2 * 3))]) := (fr_35 2077 (by omega)).trans f_27
  refine m_get (D := (dC, dI)) (v := .ref (ad (2 * 2))) (C := RX0) (T := TX0) (N := 4) hx hb hts bk0 hown hK hP 2077 (by decide) f_36 rfl 2 (by decide) (hts (.fieldLink RX0 23 "GradientDesk$Arithmetic" "one" "LGradientDesk$Whole;") (List.mem_of_getElem? (i := 1) rfl)) (fun _ h9 => h9) rfl dX0_oddDivisor_53 ?_
  refine lv_astore_n (lv' := [(3, .ref (ad (2 * 2))), (0, .ref (ad 2077)), (1, .ref (ad (2 * x))), (2, .ref (ad (2 * y)))]) hx hb dX0_oddDivisor_56 rfl hl (by decide) rfl (fun ls hl => ?_)
  refine lv_aload_n hx hb dX0_oddDivisor_57 rfl (lv_at hl 1 rfl) ?_
  refine m_get (D := (dC, dI)) (v := .ref (ad (2 * 3))) (C := RX0) (T := TX0) (N := 4) hx hb hts bk0 hown hK hP 2077 (by decide) f_36 rfl 3 (by decide) (hts (.fieldLink RX0 26 "GradientDesk$Arithmetic" "other" "LGradientDesk$Whole;") (List.mem_of_getElem? (i := 6) rfl)) (fun _ h9 => h9) rfl dX0_oddDivisor_58 ?_
  refine lv_astore (lv' := [(4, .ref (ad (2 * 3))), (3, .ref (ad (2 * 2))), (0, .ref (ad 2077)), (1, .ref (ad (2 * x))), (2, .ref (ad (2 * y)))]) hx hb dX0_oddDivisor_61 hl (by decide) rfl (fun ls hl => ?_)
  refine lv_aload_n hx hb dX0_oddDivisor_63 rfl (lv_at hl 2 rfl) ?_
  refine m_get (D := (dC, dI)) (v := .ref (ad (2 * 2))) (C := RX0) (T := TX0) (N := 4) hx hb hts bk0 hown hK hP 2077 (by decide) f_36 rfl 2 (by decide) (hts (.fieldLink RX0 23 "GradientDesk$Arithmetic" "one" "LGradientDesk$Whole;") (List.mem_of_getElem? (i := 1) rfl)) (fun _ h9 => h9) rfl dX0_oddDivisor_64 ?_
  obtain ⟨mw_37, sw_37, nw_37, fw_37, aw_37, bw_37, cw_37, dw_37, ew_37⟩ := hAW_32 2 (by omega)
  have qw_37 : mw_37 ≤ 4096 := by rw [dw_37]; exact rmc_le _
  refine va_calli (va_runV (As := []) (rest := []) ⟨hx, hb, hml, hown, hts⟩ (c_X8_bitLength l dC dI A ad cA g_34 2 hAW_32 (by omega)) (cwV 0 hts (goodIn_app (goodIn_r [Cond.methodLink RX0 87 yX8_bitLength, Cond.instanceMethod yX8_bitLength, Cond.selects RX8 yX8_bitLength yX8_bitLength, Cond.initialized RX8] [14, 15, 16, 5] rfl rfl) (goodIn_sub (fun w9 h9 => bk5 w9 h9) gw_X8_bitLength)) rfl rfl rfl (by decide +kernel) ⟨Nat.le_of_ble_eq_true rfl, Nat.le_of_ble_eq_true rfl⟩) ⟨fun a U g mk q => ⟨q.1, q.2.1, q.2.2.1, LY.moved (u := U) (U := U.calling g mk a) (Vm.Alike.refl U.vm) q.2.2.2⟩, va_recv hK hP (ci := 11) (q0 := (2 * 2)) rfl (wo_at (ns_w (by omega)) aw_37), fun U hU hW => ⟨rfl, by rw [hU]; exact fun q h => hA q (Nat.le_trans hS.1 h), by rw [hU]; exact hP, LY.moved hW.alike hL⟩⟩ rfl rfl hl.1 rfl (lv_room (Nat.le_of_ble_eq_true rfl)) dX0_oddDivisor_67 ⟨(Nat.le_of_ble_eq_true rfl), (Nat.le_of_ble_eq_true rfl)⟩) hS (fun q _ h => h) (fun q h => h) (fun r_38 u8 t8 H1 locs ht8 hvm8 hw_39 hB hz1 hk1 hS => ?_)
  obtain ⟨⟩ := u8
  try dsimp only at hw_39 hB
  rw [ht8] at hB
  have hP := hB
  generalize H1 = H at hP hS ⊢
  refine lv_aload_n hx hb dX0_oddDivisor_70 rfl (lv_at hl 2 rfl) ?_
  refine m_get (D := (dC, dI)) (v := .ref (ad (2 * 3))) (C := RX0) (T := TX0) (N := 4) hx hb hts bk0 hown hK hP 2077 (by decide) f_36 rfl 3 (by decide) (hts (.fieldLink RX0 26 "GradientDesk$Arithmetic" "other" "LGradientDesk$Whole;") (List.mem_of_getElem? (i := 6) rfl)) (fun _ h9 => h9) rfl dX0_oddDivisor_71 ?_
  obtain ⟨mw_40, sw_40, nw_40, fw_40, aw_40, bw_40, cw_40, dw_40, ew_40⟩ := hAW_32 3 (by omega)
  have qw_40 : mw_40 ≤ 4096 := by rw [dw_40]; exact rmc_le _
  refine va_calli (va_runV (As := []) (rest := [.int r_38]) ⟨hx, hb, hml, hown, hts⟩ (c_X8_bitLength l dC dI A ad cA g_34 3 hAW_32 (by omega)) (cwV 0 hts (goodIn_app (goodIn_r [Cond.methodLink RX0 87 yX8_bitLength, Cond.instanceMethod yX8_bitLength, Cond.selects RX8 yX8_bitLength yX8_bitLength, Cond.initialized RX8] [14, 15, 16, 5] rfl rfl) (goodIn_sub (fun w9 h9 => bk5 w9 h9) gw_X8_bitLength)) rfl rfl rfl (by decide +kernel) ⟨Nat.le_of_ble_eq_true rfl, Nat.le_of_ble_eq_true rfl⟩) ⟨fun a U g mk q => ⟨q.1, q.2.1, q.2.2.1, LY.moved (u := U) (U := U.calling g mk a) (Vm.Alike.refl U.vm) q.2.2.2⟩, va_recv hK hP (ci := 11) (q0 := (2 * 3)) rfl (wo_at (ns_w (by omega)) aw_40), fun U hU hW => ⟨rfl, by rw [hU]; exact fun q h => hA q (Nat.le_trans hS.1 h), by rw [hU]; exact hP, LY.moved hW.alike hL⟩⟩ rfl rfl hl.1 rfl (lv_room (Nat.le_of_ble_eq_true rfl)) dX0_oddDivisor_74 ⟨(Nat.le_of_ble_eq_true rfl), (Nat.le_of_ble_eq_true rfl)⟩) hS (fun q _ h => h) (fun q h => h) (fun r_41 u8 t8 H1 locs ht8 hvm8 hw_42 hB hz1 hk1 hS => ?_)
  obtain ⟨⟩ := u8
  try dsimp only at hw_42 hB
  rw [ht8] at hB
  have hP := hB
  generalize H1 = H at hP hS ⊢
  refine lv_iadd hx hb dX0_oddDivisor_77 ?_
  refine lv_topi (fun x_43 e_44 => ?_)
  refine lv_istore (lv' := [(5, .int x_43), (4, .ref (ad (2 * 3))), (3, .ref (ad (2 * 2))), (0, .ref (ad 2077)), (1, .ref (ad (2 * x))), (2, .ref (ad (2 * y)))]) hx hb dX0_oddDivisor_78 hl (by decide) rfl (fun ls hl => ?_)
  obtain ⟨rd, hrd⟩ : ∃ z, z = x_43 := ⟨_, rfl⟩
  rw [← hrd] at hl
  have hrd9 : rd.toInt < 2147483648 := Int32.toInt_lt rd
  refine lv_iconst (v := nI 0) hx hb dX0_oddDivisor_80 (by decide +kernel) ?_
  refine lv_istore (lv' := [(6, .int (nI 0)), (5, .int rd), (4, .ref (ad (2 * 3))), (3, .ref (ad (2 * 2))), (0, .ref (ad 2077)), (1, .ref (ad (2 * x))), (2, .ref (ad (2 * y)))]) hx hb dX0_oddDivisor_81 hl (by decide) rfl (fun ls hl => ?_)
  have loop_45 : ∀ (k9 : Nat) (i : Nat) (gr : Nat) (le : Nat) (g_47 : Nat → va_E) (fr_48 : ∀ k, (8 ≤ k) → g_47 k = g_34 k), (rd.toInt - (i : Int)).toNat < k9 → (i ≤ 2147483647) → ((gr = 2 ∧ le = 3) ∨ (gr = 3 ∧ le = 2)) → (AW ad cA g_47) → ∀ (H : Heap) (locs : List Loc) (ls : Array Slot), va_P (dC, dI) vwCl (wo ad NSc g_47) H → va_S A s.heap H locs → lv_has ls 9 [(0, .ref (ad 2077)), (3, .ref (ad (2 * gr))), (4, .ref (ad (2 * le))), (5, .int rd), (6, .int (nI i))] → W p l e (headSpec wd_X0_oddDivisor ({ frames := 30, cells := 0, slots := 0, locals := 600 })).room s m ([.ref (ad 2077), .ref (ad (2 * x)), .ref (ad (2 * y))] : List Value).toArray below meth c H locs (0) (0) (MQ below (va_Qr (fun (u : (Nat → va_E) × Nat) => match u with | (g2, q) => (∀ k, 8 ≤ k → g2 k = g k) ∧ AW ad cA g2 ∧ (q = 2 ∨ q = 3)) (fun (u : (Nat → va_E) × Nat) (ra : Nat) (t : State) => (match u with | (g2, q) => ra = ad (2 * q)) ∧ va_P (dC, dI) vwCl (wo ad NSc u.1) t.heap) A) ([.ref (ad 2077), .ref (ad (2 * x)), .ref (ad (2 * y))] : List Value).toArray s (0) (0) A) (F0 m 83 ls []) := by
    intro k9
    induction k9 with
    | zero => intro i gr le g_47 fr_48 h9; exact absurd h9 (Nat.not_lt_zero _)
    | succ k9 ih_46 =>
      intro i gr le g_47 fr_48 h9 hi hgl hAL H locs ls hP hS hl
      refine lv_iload hx hb dX0_oddDivisor_83 (lv_at hl 4 rfl) ?_
      refine lv_iload hx hb dX0_oddDivisor_85 (lv_at hl 3 rfl) ?_
      refine lv_icmp_ge (tgt := 150) hx hb dX0_oddDivisor_87 (by decide) (fun c_49 => ?_) (fun c_49 => ?_)
      · have c_49 := (k_le rd (nI i)).mp c_49
        rw [nI_toInt (show i < 2 ^ 31 by omega)] at c_49
        refine lv_aload hx hb dX0_oddDivisor_150 (lv_at hl 2 rfl) ?_
        refine W.widen (k := 0) (n := 0) (by omega) (by omega) ?_
        exact W.aret (v := .ref (ad (2 * le))) hx hb hr (Or.inl ⟨_, rfl⟩) (Or.inr ⟨_, rfl⟩) (fun t9 ht9 hW9 => ⟨⟨(g_47, le), ad (2 * le), rfl, ⟨(fun (k : Nat) (hk : 8 ≤ k) => (fr_48 k (by omega)).trans ((fr_35 k (by omega)).trans ((fr_26 k (by omega)).trans ((fr_16 k (by omega)).trans ((fr_11 k (by omega)).trans ((fr_5 k (by omega)).trans (rfl))))))), hAL, by omega⟩, ⟨rfl, by show va_P (dC, dI) vwCl _ t9.heap; rw [ht9]; exact hP⟩⟩, hS.F ht9⟩) hS.2.2 dX0_oddDivisor_152
      · have c_49 := mt (k_le rd (nI i)).mpr c_49
        rw [nI_toInt (show i < 2 ^ 31 by omega)] at c_49
        refine lv_aload_n hx hb dX0_oddDivisor_90 rfl (lv_at hl 1 rfl) ?_
        refine lv_aload hx hb dX0_oddDivisor_91 (lv_at hl 2 rfl) ?_
        obtain ⟨mw_50, sw_50, nw_50, fw_50, aw_50, bw_50, cw_50, dw_50, ew_50⟩ := hAL gr (by omega)
        have qw_50 : mw_50 ≤ 4096 := by rw [dw_50]; exact rmc_le _
        refine va_calli (va_runV (As := [.ref (ad (2 * le))]) (rest := []) ⟨hx, hb, hml, hown, hts⟩ (c_X8_orderOfSizes l dC dI A ad cA g_47 gr le hAL (by omega) (by omega)) (cwV 1 hts (goodIn_app (goodIn_r [Cond.methodLink RX0 90 yX8_orderOfSizes, Cond.instanceMethod yX8_orderOfSizes, Cond.selects RX8 yX8_orderOfSizes yX8_orderOfSizes, Cond.initialized RX8] [17, 18, 19, 5] rfl rfl) (goodIn_sub (fun w9 h9 => bk6 w9 h9) gw_X8_orderOfSizes)) rfl rfl rfl (by decide +kernel) ⟨Nat.le_of_ble_eq_true rfl, Nat.le_of_ble_eq_true rfl⟩) ⟨fun a U g mk q => ⟨q.1, q.2.1, q.2.2.1, LY.moved (u := U) (U := U.calling g mk a) (Vm.Alike.refl U.vm) q.2.2.2⟩, va_recv hK hP (ci := 11) (q0 := (2 * gr)) rfl (wo_at (ns_w (by omega)) aw_50), fun U hU hW => ⟨rfl, by rw [hU]; exact fun q h => hA q (Nat.le_trans hS.1 h), by rw [hU]; exact hP, LY.moved hW.alike hL⟩⟩ rfl rfl hl.1 rfl (lv_room (Nat.le_of_ble_eq_true rfl)) dX0_oddDivisor_93 ⟨(Nat.le_of_ble_eq_true rfl), (Nat.le_of_ble_eq_true rfl)⟩) hS (fun q _ h => h) (fun q h => h) (fun r_51 u8 t8 H1 locs ht8 hvm8 hw_52 hB hz1 hk1 hS => ?_)
        obtain ⟨⟩ := u8
        try dsimp only at hw_52 hB
        rw [ht8] at hB
        have hP := hB
        generalize H1 = H at hP hS ⊢
        refine lv_istore (lv' := [(7, .int r_51), (0, .ref (ad 2077)), (3, .ref (ad (2 * gr))), (4, .ref (ad (2 * le))), (5, .int rd), (6, .int (nI i))]) hx hb dX0_oddDivisor_96 hl (by decide) rfl (fun ls hl => ?_)
        refine lv_iload hx hb dX0_oddDivisor_98 (lv_at hl 0 rfl) ?_
        refine lv_if_eq (tgt := 111) hx hb dX0_oddDivisor_100 (by decide) (fun c_53 => ?_) (fun c_53 => ?_)
        · clear c_53
          refine lv_aload hx hb dX0_oddDivisor_111 (lv_at hl 3 rfl) ?_
          refine W.widen (k := 0) (n := 0) (by omega) (by omega) ?_
          exact W.aret (v := .ref (ad (2 * le))) hx hb hr (Or.inl ⟨_, rfl⟩) (Or.inr ⟨_, rfl⟩) (fun t9 ht9 hW9 => ⟨⟨(g_47, le), ad (2 * le), rfl, ⟨(fun (k : Nat) (hk : 8 ≤ k) => (fr_48 k (by omega)).trans ((fr_35 k (by omega)).trans ((fr_26 k (by omega)).trans ((fr_16 k (by omega)).trans ((fr_11 k (by omega)).trans ((fr_5 k (by omega)).trans (rfl))))))), hAL, by omega⟩, ⟨rfl, by show va_P (dC, dI) vwCl _ t9.heap; rw [ht9]; exact hP⟩⟩, hS.F ht9⟩) hS.2.2 dX0_oddDivisor_113
        · clear c_53
          refine lv_aload hx hb dX0_oddDivisor_103 (lv_at hl 3 rfl) ?_
          obtain ⟨mw_54, sw_54, nw_54, fw_54, aw_54, bw_54, cw_54, dw_54, ew_54⟩ := hAL le (by omega)
          have qw_54 : mw_54 ≤ 4096 := by rw [dw_54]; exact rmc_le _
          refine va_calli (va_runV (As := []) (rest := []) ⟨hx, hb, hml, hown, hts⟩ (c_X8_isOne l dC dI A ad cA g_47 le hAL (by omega)) (cwV 0 hts (goodIn_app (goodIn_r [Cond.methodLink RX0 93 yX8_isOne, Cond.instanceMethod yX8_isOne, Cond.selects RX8 yX8_isOne yX8_isOne, Cond.initialized RX8] [20, 21, 22, 5] rfl rfl) (goodIn_sub (fun w9 h9 => bk7 w9 h9) gw_X8_isOne)) rfl rfl rfl (by decide +kernel) ⟨Nat.le_of_ble_eq_true rfl, Nat.le_of_ble_eq_true rfl⟩) ⟨fun a U g mk q => ⟨q.1, q.2.1, q.2.2.1, LY.moved (u := U) (U := U.calling g mk a) (Vm.Alike.refl U.vm) q.2.2.2⟩, va_recv hK hP (ci := 11) (q0 := (2 * le)) rfl (wo_at (ns_w (by omega)) aw_54), fun U hU hW => ⟨rfl, by rw [hU]; exact fun q h => hA q (Nat.le_trans hS.1 h), by rw [hU]; exact hP, LY.moved hW.alike hL⟩⟩ rfl rfl hl.1 rfl (lv_room (Nat.le_of_ble_eq_true rfl)) dX0_oddDivisor_105 ⟨(Nat.le_of_ble_eq_true rfl), (Nat.le_of_ble_eq_true rfl)⟩) hS (fun q _ h => h) (fun q h => h) (fun r_56 u8 t8 H1 locs ht8 hvm8 hw_57 hB hz1 hk1 hS => ?_)
          obtain ⟨⟩ := u8
          try dsimp only at hw_57 hB
          rw [ht8] at hB
          have hP := hB
          generalize H1 = H at hP hS ⊢
          obtain ⟨b_55, hb_55, rfl⟩ := hw_57
          refine lv_if_eq (tgt := 114) hx hb dX0_oddDivisor_108 (by decide) (fun c_58 => ?_) (fun c_58 => ?_)
          · have c_58 := (nI_eq (a := b_55) (b := 0) (by omega) (by decide)).mp c_58
            refine lv_iload hx hb dX0_oddDivisor_114 (lv_at hl 0 rfl) ?_
            refine lv_if_ge (tgt := 129) hx hb dX0_oddDivisor_116 (by decide) (fun c_59 => ?_) (fun c_59 => ?_)
            · clear c_59
              refine lv_aload_n hx hb dX0_oddDivisor_129 rfl (lv_at hl 2 rfl) ?_
              refine lv_aload_n hx hb dX0_oddDivisor_130 rfl (lv_at hl 2 rfl) ?_
              refine lv_aload hx hb dX0_oddDivisor_131 (lv_at hl 3 rfl) ?_
              refine va_callv (va_runV (As := [.ref (ad (2 * gr)), .ref (ad (2 * le))]) (rest := []) ⟨hx, hb, hml, hown, hts⟩ (c_X8_take2 l dC dI A ad cA g_47 gr le hAL (by omega) (by omega) (by omega)) (cwV 2 hts (goodIn_app (goodIn_r [Cond.methodLink RX0 96 yX8_takeSizes, Cond.instanceMethod yX8_takeSizes, Cond.selects RX8 yX8_takeSizes yX8_takeSizes, Cond.initialized RX8] [23, 24, 25, 5] rfl rfl) (goodIn_sub (fun w9 h9 => bk8 w9 h9) gw_X8_take2)) rfl rfl rfl (by decide +kernel) ⟨Nat.le_of_ble_eq_true rfl, Nat.le_of_ble_eq_true rfl⟩) ⟨fun a U g mk q => ⟨q.1, q.2.1, q.2.2.1, LY.moved (u := U) (U := U.calling g mk a) (Vm.Alike.refl U.vm) q.2.2.2⟩, va_recv hK hP (ci := 11) (q0 := (2 * gr)) rfl (wo_at (ns_w (by omega)) aw_50), fun U hU hW => ⟨rfl, by rw [hU]; exact fun q h => hA q (Nat.le_trans hS.1 h), by rw [hU]; exact hP, LY.moved hW.alike hL⟩⟩ rfl rfl hl.1 rfl (lv_room (Nat.le_of_ble_eq_true rfl)) dX0_oddDivisor_133 ⟨(Nat.le_of_ble_eq_true rfl), (Nat.le_of_ble_eq_true rfl)⟩) hS (fun q _ h => h) (fun q h => h) (fun u8 t8 H1 locs ht8 hvm8 hw_61 hB hz1 hk1 hS => ?_)
              obtain ⟨g_62, rfl⟩ : ∃ z, z = u8 := ⟨_, rfl⟩
              try dsimp only at hw_61 hB
              rw [ht8] at hB
              have hP := hB
              generalize H1 = H at hP hS ⊢
              obtain ⟨fr_63, hAW_60⟩ := hw_61
              refine lv_aload_n hx hb dX0_oddDivisor_136 rfl (lv_at hl 2 rfl) ?_
              refine lv_aload_n hx hb dX0_oddDivisor_137 rfl (lv_at hl 2 rfl) ?_
              obtain ⟨mw_64, sw_64, nw_64, fw_64, aw_64, bw_64, cw_64, dw_64, ew_64⟩ := hAW_60 gr (by omega)
              have qw_64 : mw_64 ≤ 4096 := by rw [dw_64]; exact rmc_le _
              refine va_calli (va_runV (As := []) (rest := [.ref (ad (2 * gr))]) ⟨hx, hb, hml, hown, hts⟩ (c_X8_lowZeros l dC dI A ad cA g_62 gr hAW_60 (by omega)) (cwV 0 hts (goodIn_app (goodIn_r [Cond.methodLink RX0 59 yX8_lowZeros, Cond.instanceMethod yX8_lowZeros, Cond.selects RX8 yX8_lowZeros yX8_lowZeros, Cond.initialized RX8] [8, 9, 10, 5] rfl rfl) (goodIn_sub (fun w9 h9 => bk3 w9 h9) gw_X8_lowZeros)) rfl rfl rfl (by decide +kernel) ⟨Nat.le_of_ble_eq_true rfl, Nat.le_of_ble_eq_true rfl⟩) ⟨fun a U g mk q => ⟨q.1, q.2.1, q.2.2.1, LY.moved (u := U) (U := U.calling g mk a) (Vm.Alike.refl U.vm) q.2.2.2⟩, va_recv hK hP (ci := 11) (q0 := (2 * gr)) rfl (wo_at (ns_w (by omega)) aw_64), fun U hU hW => ⟨rfl, by rw [hU]; exact fun q h => hA q (Nat.le_trans hS.1 h), by rw [hU]; exact hP, LY.moved hW.alike hL⟩⟩ rfl rfl hl.1 rfl (lv_room (Nat.le_of_ble_eq_true rfl)) dX0_oddDivisor_138 ⟨(Nat.le_of_ble_eq_true rfl), (Nat.le_of_ble_eq_true rfl)⟩) hS (fun q _ h => h) (fun q h => h) (fun r_66 u8 t8 H1 locs ht8 hvm8 hw_67 hB hz1 hk1 hS => ?_)
              obtain ⟨⟩ := u8
              try dsimp only at hw_67 hB
              rw [ht8] at hB
              have hP := hB
              generalize H1 = H at hP hS ⊢
              obtain ⟨z_65, hz_65, rfl⟩ := hw_67
              refine va_callv (va_runV (As := [.int (nI z_65)]) (rest := []) ⟨hx, hb, hml, hown, hts⟩ (c_X8_shiftDown l dC dI A ad cA g_62 gr z_65 hAW_60 (by omega) (by omega)) (cwV 1 hts (goodIn_app (goodIn_r [Cond.methodLink RX0 69 yX8_shiftDown, Cond.instanceMethod yX8_shiftDown, Cond.selects RX8 yX8_shiftDown yX8_shiftDown, Cond.initialized RX8] [11, 12, 13, 5] rfl rfl) (goodIn_sub (fun w9 h9 => bk4 w9 h9) gw_X8_shiftDown)) rfl rfl rfl (by decide +kernel) ⟨Nat.le_of_ble_eq_true rfl, Nat.le_of_ble_eq_true rfl⟩) ⟨fun a U g mk q => ⟨q.1, q.2.1, q.2.2.1, LY.moved (u := U) (U := U.calling g mk a) (Vm.Alike.refl U.vm) q.2.2.2⟩, va_recv hK hP (ci := 11) (q0 := (2 * gr)) rfl (wo_at (ns_w (by omega)) aw_64), fun U hU hW => ⟨rfl, by rw [hU]; exact fun q h => hA q (Nat.le_trans hS.1 h), by rw [hU]; exact hP, LY.moved hW.alike hL⟩⟩ rfl rfl hl.1 rfl (lv_room (Nat.le_of_ble_eq_true rfl)) dX0_oddDivisor_141 ⟨(Nat.le_of_ble_eq_true rfl), (Nat.le_of_ble_eq_true rfl)⟩) hS (fun q _ h => h) (fun q h => h) (fun u8 t8 H1 locs ht8 hvm8 hw_69 hB hz1 hk1 hS => ?_)
              obtain ⟨g_70, rfl⟩ : ∃ z, z = u8 := ⟨_, rfl⟩
              try dsimp only at hw_69 hB
              rw [ht8] at hB
              have hP := hB
              generalize H1 = H at hP hS ⊢
              obtain ⟨fr_71, hAW_68⟩ := hw_69
              refine lv_iinc (v := nI (i + 1)) (lv' := [(6, .int (nI (i + 1))), (7, .int r_51), (0, .ref (ad 2077)), (3, .ref (ad (2 * gr))), (4, .ref (ad (2 * le))), (5, .int rd)]) hx hb dX0_oddDivisor_144 hl (k := 5) rfl (nI_add i 1) (by decide) rfl (fun ls hl => ?_)
              refine lv_goto (tgt := 83) hx hb dX0_oddDivisor_147 (by decide) ?_
              exact ih_46 (i + 1) gr le g_70 (fun (k : Nat) (hk : 8 ≤ k) => (fr_71 k (by omega)).trans ((fr_63 k (by omega)).trans ((fr_48 k (by omega)).trans (rfl)))) (by omega) (by omega) (by omega) hAW_68 _ _ _ hP hS (lv_sub (l' := [(0, .ref (ad 2077)), (3, .ref (ad (2 * gr))), (4, .ref (ad (2 * le))), (5, .int rd), (6, .int (nI (i + 1)))]) hl [2, 3, 4, 5, 0] rfl)
            · clear c_59
              refine lv_aload_n hx hb dX0_oddDivisor_119 rfl (lv_at hl 2 rfl) ?_
              refine lv_astore (lv' := [(8, .ref (ad (2 * gr))), (7, .int r_51), (0, .ref (ad 2077)), (3, .ref (ad (2 * gr))), (4, .ref (ad (2 * le))), (5, .int rd), (6, .int (nI i))]) hx hb dX0_oddDivisor_120 hl (by decide) rfl (fun ls hl => ?_)
              refine lv_aload hx hb dX0_oddDivisor_122 (lv_at hl 4 rfl) ?_
              refine lv_astore_n (lv' := [(3, .ref (ad (2 * le))), (8, .ref (ad (2 * gr))), (7, .int r_51), (0, .ref (ad 2077)), (4, .ref (ad (2 * le))), (5, .int rd), (6, .int (nI i))]) hx hb dX0_oddDivisor_124 rfl hl (by decide) rfl (fun ls hl => ?_)
              refine lv_aload hx hb dX0_oddDivisor_125 (lv_at hl 1 rfl) ?_
              refine lv_astore (lv' := [(4, .ref (ad (2 * gr))), (3, .ref (ad (2 * le))), (8, .ref (ad (2 * gr))), (7, .int r_51), (0, .ref (ad 2077)), (5, .int rd), (6, .int (nI i))]) hx hb dX0_oddDivisor_127 hl (by decide) rfl (fun ls hl => ?_)
              refine lv_aload_n hx hb dX0_oddDivisor_129 rfl (lv_at hl 1 rfl) ?_
              refine lv_aload_n hx hb dX0_oddDivisor_130 rfl (lv_at hl 1 rfl) ?_
              refine lv_aload hx hb dX0_oddDivisor_131 (lv_at hl 0 rfl) ?_
              refine va_callv (va_runV (As := [.ref (ad (2 * le)), .ref (ad (2 * gr))]) (rest := []) ⟨hx, hb, hml, hown, hts⟩ (c_X8_take2 l dC dI A ad cA g_47 le gr hAL (by omega) (by omega) (by omega)) (cwV 2 hts (goodIn_app (goodIn_r [Cond.methodLink RX0 96 yX8_takeSizes, Cond.instanceMethod yX8_takeSizes, Cond.selects RX8 yX8_takeSizes yX8_takeSizes, Cond.initialized RX8] [23, 24, 25, 5] rfl rfl) (goodIn_sub (fun w9 h9 => bk8 w9 h9) gw_X8_take2)) rfl rfl rfl (by decide +kernel) ⟨Nat.le_of_ble_eq_true rfl, Nat.le_of_ble_eq_true rfl⟩) ⟨fun a U g mk q => ⟨q.1, q.2.1, q.2.2.1, LY.moved (u := U) (U := U.calling g mk a) (Vm.Alike.refl U.vm) q.2.2.2⟩, va_recv hK hP (ci := 11) (q0 := (2 * le)) rfl (wo_at (ns_w (by omega)) aw_54), fun U hU hW => ⟨rfl, by rw [hU]; exact fun q h => hA q (Nat.le_trans hS.1 h), by rw [hU]; exact hP, LY.moved hW.alike hL⟩⟩ rfl rfl hl.1 rfl (lv_room (Nat.le_of_ble_eq_true rfl)) dX0_oddDivisor_133 ⟨(Nat.le_of_ble_eq_true rfl), (Nat.le_of_ble_eq_true rfl)⟩) hS (fun q _ h => h) (fun q h => h) (fun u8 t8 H1 locs ht8 hvm8 hw_75 hB hz1 hk1 hS => ?_)
              obtain ⟨g_76, rfl⟩ : ∃ z, z = u8 := ⟨_, rfl⟩
              try dsimp only at hw_75 hB
              rw [ht8] at hB
              have hP := hB
              generalize H1 = H at hP hS ⊢
              obtain ⟨fr_77, hAW_74⟩ := hw_75
              refine lv_aload_n hx hb dX0_oddDivisor_136 rfl (lv_at hl 1 rfl) ?_
              refine lv_aload_n hx hb dX0_oddDivisor_137 rfl (lv_at hl 1 rfl) ?_
              obtain ⟨mw_78, sw_78, nw_78, fw_78, aw_78, bw_78, cw_78, dw_78, ew_78⟩ := hAW_74 le (by omega)
              have qw_78 : mw_78 ≤ 4096 := by rw [dw_78]; exact rmc_le _
              refine va_calli (va_runV (As := []) (rest := [.ref (ad (2 * le))]) ⟨hx, hb, hml, hown, hts⟩ (c_X8_lowZeros l dC dI A ad cA g_76 le hAW_74 (by omega)) (cwV 0 hts (goodIn_app (goodIn_r [Cond.methodLink RX0 59 yX8_lowZeros, Cond.instanceMethod yX8_lowZeros, Cond.selects RX8 yX8_lowZeros yX8_lowZeros, Cond.initialized RX8] [8, 9, 10, 5] rfl rfl) (goodIn_sub (fun w9 h9 => bk3 w9 h9) gw_X8_lowZeros)) rfl rfl rfl (by decide +kernel) ⟨Nat.le_of_ble_eq_true rfl, Nat.le_of_ble_eq_true rfl⟩) ⟨fun a U g mk q => ⟨q.1, q.2.1, q.2.2.1, LY.moved (u := U) (U := U.calling g mk a) (Vm.Alike.refl U.vm) q.2.2.2⟩, va_recv hK hP (ci := 11) (q0 := (2 * le)) rfl (wo_at (ns_w (by omega)) aw_78), fun U hU hW => ⟨rfl, by rw [hU]; exact fun q h => hA q (Nat.le_trans hS.1 h), by rw [hU]; exact hP, LY.moved hW.alike hL⟩⟩ rfl rfl hl.1 rfl (lv_room (Nat.le_of_ble_eq_true rfl)) dX0_oddDivisor_138 ⟨(Nat.le_of_ble_eq_true rfl), (Nat.le_of_ble_eq_true rfl)⟩) hS (fun q _ h => h) (fun q h => h) (fun r_80 u8 t8 H1 locs ht8 hvm8 hw_81 hB hz1 hk1 hS => ?_)
              obtain ⟨⟩ := u8
              try dsimp only at hw_81 hB
              rw [ht8] at hB
              have hP := hB
              generalize H1 = H at hP hS ⊢
              obtain ⟨z_79, hz_79, rfl⟩ := hw_81
              refine va_callv (va_runV (As := [.int (nI z_79)]) (rest := []) ⟨hx, hb, hml, hown, hts⟩ (c_X8_shiftDown l dC dI A ad cA g_76 le z_79 hAW_74 (by omega) (by omega)) (cwV 1 hts (goodIn_app (goodIn_r [Cond.methodLink RX0 69 yX8_shiftDown, Cond.instanceMethod yX8_shiftDown, Cond.selects RX8 yX8_shiftDown yX8_shiftDown, Cond.initialized RX8] [11, 12, 13, 5] rfl rfl) (goodIn_sub (fun w9 h9 => bk4 w9 h9) gw_X8_shiftDown)) rfl rfl rfl (by decide +kernel) ⟨Nat.le_of_ble_eq_true rfl, Nat.le_of_ble_eq_true rfl⟩) ⟨fun a U g mk q => ⟨q.1, q.2.1, q.2.2.1, LY.moved (u := U) (U := U.calling g mk a) (Vm.Alike.refl U.vm) q.2.2.2⟩, va_recv hK hP (ci := 11) (q0 := (2 * le)) rfl (wo_at (ns_w (by omega)) aw_78), fun U hU hW => ⟨rfl, by rw [hU]; exact fun q h => hA q (Nat.le_trans hS.1 h), by rw [hU]; exact hP, LY.moved hW.alike hL⟩⟩ rfl rfl hl.1 rfl (lv_room (Nat.le_of_ble_eq_true rfl)) dX0_oddDivisor_141 ⟨(Nat.le_of_ble_eq_true rfl), (Nat.le_of_ble_eq_true rfl)⟩) hS (fun q _ h => h) (fun q h => h) (fun u8 t8 H1 locs ht8 hvm8 hw_83 hB hz1 hk1 hS => ?_)
              obtain ⟨g_84, rfl⟩ : ∃ z, z = u8 := ⟨_, rfl⟩
              try dsimp only at hw_83 hB
              rw [ht8] at hB
              have hP := hB
              generalize H1 = H at hP hS ⊢
              obtain ⟨fr_85, hAW_82⟩ := hw_83
              refine lv_iinc (v := nI (i + 1)) (lv' := [(6, .int (nI (i + 1))), (4, .ref (ad (2 * gr))), (3, .ref (ad (2 * le))), (8, .ref (ad (2 * gr))), (7, .int r_51), (0, .ref (ad 2077)), (5, .int rd)]) hx hb dX0_oddDivisor_144 hl (k := 6) rfl (nI_add i 1) (by decide) rfl (fun ls hl => ?_)
              refine lv_goto (tgt := 83) hx hb dX0_oddDivisor_147 (by decide) ?_
              exact ih_46 (i + 1) le gr g_84 (fun (k : Nat) (hk : 8 ≤ k) => (fr_85 k (by omega)).trans ((fr_77 k (by omega)).trans ((fr_48 k (by omega)).trans (rfl)))) (by omega) (by omega) (by omega) hAW_82 _ _ _ hP hS (lv_sub (l' := [(0, .ref (ad 2077)), (3, .ref (ad (2 * le))), (4, .ref (ad (2 * gr))), (5, .int rd), (6, .int (nI (i + 1)))]) hl [5, 2, 1, 6, 0] rfl)
          · have c_58 := mt (nI_eq (a := b_55) (b := 0) (by omega) (by decide)).mpr c_58
            refine lv_aload hx hb dX0_oddDivisor_111 (lv_at hl 3 rfl) ?_
            refine W.widen (k := 0) (n := 0) (by omega) (by omega) ?_
            exact W.aret (v := .ref (ad (2 * le))) hx hb hr (Or.inl ⟨_, rfl⟩) (Or.inr ⟨_, rfl⟩) (fun t9 ht9 hW9 => ⟨⟨(g_47, le), ad (2 * le), rfl, ⟨(fun (k : Nat) (hk : 8 ≤ k) => (fr_48 k (by omega)).trans ((fr_35 k (by omega)).trans ((fr_26 k (by omega)).trans ((fr_16 k (by omega)).trans ((fr_11 k (by omega)).trans ((fr_5 k (by omega)).trans (rfl))))))), hAL, by omega⟩, ⟨rfl, by show va_P (dC, dI) vwCl _ t9.heap; rw [ht9]; exact hP⟩⟩, hS.F ht9⟩) hS.2.2 dX0_oddDivisor_113
  exact loop_45 _ 0 2 3 g_34 (fun (k : Nat) (hk : 8 ≤ k) => rfl) (Nat.lt_succ_self _) (by omega) (by omega) hAW_32 _ _ _ hP hS (lv_sub (l' := [(0, .ref (ad 2077)), (3, .ref (ad (2 * 2))), (4, .ref (ad (2 * 3))), (5, .int rd), (6, .int (nI 0))]) hl [4, 3, 2, 1, 0] rfl)
def wd_X0_reduce : List Cond := .code yX0_reduce cX0_reduce 4 none :: (([.methodLink RX0 51 yX2_isZero, .instanceMethod yX2_isZero, .selects RX2 yX2_isZero yX2_isZero, .initialized RX2, .fieldLink RX0 29 "GradientDesk$Fraction" "top" "LGradientDesk$Whole;", .methodLink RX0 59 yX8_lowZeros, .instanceMethod yX8_lowZeros, .selects RX8 yX8_lowZeros yX8_lowZeros, .initialized RX8, .fieldLink RX0 34 "GradientDesk$Fraction" "bottom" "LGradientDesk$Whole;", .methodLink RX0 63 Lib.Math.min.name, .static Lib.Math.min.name, .initialized "java/lang/Math", .code Lib.Math.min.name Lib.Math.min.code 2 (some .int), .methodLink RX0 69 yX8_shiftDown, .instanceMethod yX8_shiftDown, .selects RX8 yX8_shiftDown yX8_shiftDown, .methodLink RX0 72 yX0_oddDivisor, .instanceMethod yX0_oddDivisor, .selects RX0 yX0_oddDivisor yX0_oddDivisor, .initialized RX0, .methodLink RX0 76 yX8_divideEvenly, .instanceMethod yX8_divideEvenly, .selects RX8 yX8_divideEvenly yX8_divideEvenly, .methodLink RX0 55 yX8_put, .instanceMethod yX8_put, .selects RX8 yX8_put yX8_put] : List Cond) ++ (wd_X2_isZero ++ (u_ws RX2 TX2 2 ++ (wd_X8_lowZeros ++ (wd_X8_shiftDown ++ (wd_X0_oddDivisor ++ (wd_X8_divideEvenly ++ (wd_X8_put ++ ([])))))))))
theorem gw_X0_reduce : wd_X0_reduce.all goodWord = true := k_allc rfl (k_all (by decide +kernel) (k_all (gw_X2_isZero) (k_all (gu_X2) (k_all (gw_X8_lowZeros) (k_all (gw_X8_shiftDown) (k_all (gw_X0_oddDivisor) (k_all (gw_X8_divideEvenly) (k_all (gw_X8_put) (rfl)))))))))
set_option maxHeartbeats 4000000 in
set_option maxRecDepth 100000 in
theorem c_X0_reduce (l : Launch) (dC : Nat → ClassId) (dI : Nat → Nat → Nat) (A : Nat → Prop) (ad : Nat → Nat) (cA : Nat → ClassId) (g : Nat → va_E) (X : Nat) (Xa : Nat) (Xb : Nat) (hAW : AW ad cA g) (hAr : g 2077 = .inr (3, [.ref (ad (2 * 0)), .ref (ad (2 * 1)), .ref (ad (2 * 2)), .ref (ad (2 * 3))])) (hX : g X = .inr (5, [.ref (ad (2 * Xa)), .ref (ad (2 * Xb))])) (lX : X < NSc ∧ 2076 ≤ X) (jX : 4 ≤ Xa ∧ Xa < 1038 ∧ 4 ≤ Xb ∧ Xb < 1038 ∧ Xa ≠ Xb) : Met l yX0_reduce wd_X0_reduce ({ frames := 40, cells := 0, slots := 0, locals := 800 }) (va_Pc [.ref (ad 2077), .ref (ad X)] (PR NSc tyc dC dI A ad cA g)) (va_Qv (fun (u : Nat → va_E) => match u with | g2 => (∀ k, 8 ≤ k ∧ k ≠ 2 * Xa ∧ k ≠ 2 * Xa + 1 ∧ k ≠ 2 * Xb ∧ k ≠ 2 * Xb + 1 → g2 k = g k) ∧ AW ad cA g2) (fun (u : Nat → va_E) (t : State) => va_P (dC, dI) vwCl (wo ad NSc u) t.heap) A) (0) (0) A := by
  refine Met.ofW (cc := cX0_reduce) (maxL := 4) (ret := none) (by decide) rfl ?_
  intro p e s m args below meth c s₁ B hml hv
  obtain ⟨rfl, hA, hP, hL⟩ := hv
  have hx := B.exec
  have hb := B.bytes
  have hr := B.returns
  have hts := atoms_spec (ws := wd_X0_reduce) B.pre
  have hown : s.vm.findClass RX0 = some m.cls := findClass_of_methodNamed B.named
  have hlocks := B.notSynchronized
  have hK := hL.1
  have hD : ∀ g, va_D A (wo ad NSc g) := fun g => wo_D hL.2.1 hL.2.2 g
  have hS : va_S A s.heap s.heap [] := va_S.rf
  have bk0 : ∀ w ∈ wd_X2_isZero, w ∈ wd_X0_reduce := fun _ h => List.mem_cons_of_mem _ (List.mem_append_right _ (List.mem_append_left _ h))
  have bk1 : ∀ w ∈ u_ws RX2 TX2 2, w ∈ wd_X0_reduce := fun _ h => List.mem_cons_of_mem _ (List.mem_append_right _ (List.mem_append_right _ (List.mem_append_left _ h)))
  have bk2 : ∀ w ∈ wd_X8_lowZeros, w ∈ wd_X0_reduce := fun _ h => List.mem_cons_of_mem _ (List.mem_append_right _ (List.mem_append_right _ (List.mem_append_right _ (List.mem_append_left _ h))))
  have bk3 : ∀ w ∈ wd_X8_shiftDown, w ∈ wd_X0_reduce := fun _ h => List.mem_cons_of_mem _ (List.mem_append_right _ (List.mem_append_right _ (List.mem_append_right _ (List.mem_append_right _ (List.mem_append_left _ h)))))
  have bk4 : ∀ w ∈ wd_X0_oddDivisor, w ∈ wd_X0_reduce := fun _ h => List.mem_cons_of_mem _ (List.mem_append_right _ (List.mem_append_right _ (List.mem_append_right _ (List.mem_append_right _ (List.mem_append_right _ (List.mem_append_left _ h))))))
  have bk5 : ∀ w ∈ wd_X8_divideEvenly, w ∈ wd_X0_reduce := fun _ h => List.mem_cons_of_mem _ (List.mem_append_right _ (List.mem_append_right _ (List.mem_append_right _ (List.mem_append_right _ (List.mem_append_right _ (List.mem_append_right _ (List.mem_append_left _ h)))))))
  have bk6 : ∀ w ∈ wd_X8_put, w ∈ wd_X0_reduce := fun _ h => List.mem_cons_of_mem _ (List.mem_append_right _ (List.mem_append_right _ (List.mem_append_right _ (List.mem_append_right _ (List.mem_append_right _ (List.mem_append_right _ (List.mem_append_right _ (List.mem_append_left _ h))))))))
  have hl := lv_entry ([.ref (ad 2077), .ref (ad X)]) (n := 4) (Nat.le_of_ble_eq_true rfl)
  rw [lg_entry_eq]
  generalize (lg_sl ([.ref (ad 2077), .ref (ad X)]) ++ List.replicate (4 - (lg_sl ([.ref (ad 2077), .ref (ad X)])).length) Slot.unset).toArray = ls at hl ⊢
  have hl : lv_has ls 4 [(0, .ref (ad 2077)), (1, .ref (ad X))] := hl
  refine lv_aload_n hx hb dX0_reduce_0 rfl (lv_at hl 1 rfl) ?_
  refine va_calli (va_runV (As := []) (rest := []) ⟨hx, hb, hml, hown, hts⟩ (c_X2_isZero l dC dI A ad cA g X Xa Xb hAW hX lX jX) (cwV 0 hts (goodIn_app (goodIn_r [Cond.methodLink RX0 51 yX2_isZero, Cond.instanceMethod yX2_isZero, Cond.selects RX2 yX2_isZero yX2_isZero, Cond.initialized RX2] [1, 2, 3, 4] rfl rfl) (goodIn_sub (fun w9 h9 => bk0 w9 h9) gw_X2_isZero)) rfl rfl rfl (by decide +kernel) ⟨Nat.le_of_ble_eq_true rfl, Nat.le_of_ble_eq_true rfl⟩) ⟨fun a U g mk q => ⟨q.1, q.2.1, q.2.2.1, LY.moved (u := U) (U := U.calling g mk a) (Vm.Alike.refl U.vm) q.2.2.2⟩, va_recv hK hP (ci := 5) (q0 := X) rfl (wo_at lX.1 hX), fun U hU hW => ⟨rfl, by rw [hU]; exact fun q h => hA q (Nat.le_trans hS.1 h), by rw [hU]; exact hP, LY.moved hW.alike hL⟩⟩ rfl rfl hl.1 rfl (lv_room (Nat.le_of_ble_eq_true rfl)) dX0_reduce_1 ⟨(Nat.le_of_ble_eq_true rfl), (Nat.le_of_ble_eq_true rfl)⟩) hS (fun q _ h => h) (fun q h => h) (fun r_1 u8 t8 H1 locs ht8 hvm8 hw_2 hB hz1 hk1 hS => ?_)
  obtain ⟨⟩ := u8
  try dsimp only at hw_2 hB
  rw [ht8] at hB
  have hP := hB
  generalize H1 = H at hP hS ⊢
  obtain ⟨b0, hb0, rfl⟩ := hw_2
  refine lv_if_eq (tgt := 16) hx hb dX0_reduce_4 (by decide) (fun c_3 => ?_) (fun c_3 => ?_)
  · have c_3 := (nI_eq (a := b0) (b := 0) (by omega) (by decide)).mp c_3
    refine lv_aload_n hx hb dX0_reduce_16 rfl (lv_at hl 1 rfl) ?_
    refine m_get (D := (dC, dI)) (v := .ref (ad (2 * Xa))) (C := RX2) (T := TX2) (N := 2) hx hb hts bk1 hown hK hP X lX.1 hX rfl 0 (by decide) (hts (.fieldLink RX0 29 "GradientDesk$Fraction" "top" "LGradientDesk$Whole;") (List.mem_of_getElem? (i := 5) rfl)) (fun _ h9 => h9) rfl dX0_reduce_17 ?_
    obtain ⟨mw_4, sw_4, nw_4, fw_4, aw_4, bw_4, cw_4, dw_4, ew_4⟩ := hAW Xa (by omega)
    have qw_4 : mw_4 ≤ 4096 := by rw [dw_4]; exact rmc_le _
    refine va_calli (va_runV (As := []) (rest := []) ⟨hx, hb, hml, hown, hts⟩ (c_X8_lowZeros l dC dI A ad cA g Xa hAW (by omega)) (cwV 0 hts (goodIn_app (goodIn_r [Cond.methodLink RX0 59 yX8_lowZeros, Cond.instanceMethod yX8_lowZeros, Cond.selects RX8 yX8_lowZeros yX8_lowZeros, Cond.initialized RX8] [6, 7, 8, 9] rfl rfl) (goodIn_sub (fun w9 h9 => bk2 w9 h9) gw_X8_lowZeros)) rfl rfl rfl (by decide +kernel) ⟨Nat.le_of_ble_eq_true rfl, Nat.le_of_ble_eq_true rfl⟩) ⟨fun a U g mk q => ⟨q.1, q.2.1, q.2.2.1, LY.moved (u := U) (U := U.calling g mk a) (Vm.Alike.refl U.vm) q.2.2.2⟩, va_recv hK hP (ci := 11) (q0 := (2 * Xa)) rfl (wo_at (ns_w (by omega)) aw_4), fun U hU hW => ⟨rfl, by rw [hU]; exact fun q h => hA q (Nat.le_trans hS.1 h), by rw [hU]; exact hP, LY.moved hW.alike hL⟩⟩ rfl rfl hl.1 rfl (lv_room (Nat.le_of_ble_eq_true rfl)) dX0_reduce_20 ⟨(Nat.le_of_ble_eq_true rfl), (Nat.le_of_ble_eq_true rfl)⟩) hS (fun q _ h => h) (fun q h => h) (fun r_6 u8 t8 H1 locs ht8 hvm8 hw_7 hB hz1 hk1 hS => ?_)
    obtain ⟨⟩ := u8
    try dsimp only at hw_7 hB
    rw [ht8] at hB
    have hP := hB
    generalize H1 = H at hP hS ⊢
    obtain ⟨z_5, hz_5, rfl⟩ := hw_7
    refine lv_aload_n hx hb dX0_reduce_23 rfl (lv_at hl 1 rfl) ?_
    refine m_get (D := (dC, dI)) (v := .ref (ad (2 * Xb))) (C := RX2) (T := TX2) (N := 2) hx hb hts bk1 hown hK hP X lX.1 hX rfl 1 (by decide) (hts (.fieldLink RX0 34 "GradientDesk$Fraction" "bottom" "LGradientDesk$Whole;") (List.mem_of_getElem? (i := 10) rfl)) (fun _ h9 => h9) rfl dX0_reduce_24 ?_
    obtain ⟨mw_8, sw_8, nw_8, fw_8, aw_8, bw_8, cw_8, dw_8, ew_8⟩ := hAW Xb (by omega)
    have qw_8 : mw_8 ≤ 4096 := by rw [dw_8]; exact rmc_le _
    refine va_calli (va_runV (As := []) (rest := [.int (nI z_5)]) ⟨hx, hb, hml, hown, hts⟩ (c_X8_lowZeros l dC dI A ad cA g Xb hAW (by omega)) (cwV 0 hts (goodIn_app (goodIn_r [Cond.methodLink RX0 59 yX8_lowZeros, Cond.instanceMethod yX8_lowZeros, Cond.selects RX8 yX8_lowZeros yX8_lowZeros, Cond.initialized RX8] [6, 7, 8, 9] rfl rfl) (goodIn_sub (fun w9 h9 => bk2 w9 h9) gw_X8_lowZeros)) rfl rfl rfl (by decide +kernel) ⟨Nat.le_of_ble_eq_true rfl, Nat.le_of_ble_eq_true rfl⟩) ⟨fun a U g mk q => ⟨q.1, q.2.1, q.2.2.1, LY.moved (u := U) (U := U.calling g mk a) (Vm.Alike.refl U.vm) q.2.2.2⟩, va_recv hK hP (ci := 11) (q0 := (2 * Xb)) rfl (wo_at (ns_w (by omega)) aw_8), fun U hU hW => ⟨rfl, by rw [hU]; exact fun q h => hA q (Nat.le_trans hS.1 h), by rw [hU]; exact hP, LY.moved hW.alike hL⟩⟩ rfl rfl hl.1 rfl (lv_room (Nat.le_of_ble_eq_true rfl)) dX0_reduce_27 ⟨(Nat.le_of_ble_eq_true rfl), (Nat.le_of_ble_eq_true rfl)⟩) hS (fun q _ h => h) (fun q h => h) (fun r_10 u8 t8 H1 locs ht8 hvm8 hw_11 hB hz1 hk1 hS => ?_)
    obtain ⟨⟩ := u8
    try dsimp only at hw_11 hB
    rw [ht8] at hB
    have hP := hB
    generalize H1 = H at hP hS ⊢
    obtain ⟨z_9, hz_9, rfl⟩ := hw_11
    refine va_mmin hx hb (by rw [hml]; exact hl.1.symm) hown (hts (.methodLink RX0 63 Lib.Math.min.name) (List.mem_of_getElem? (i := 11) rfl)) (hts (.static Lib.Math.min.name) (List.mem_of_getElem? (i := 12) rfl)) (hts (.initialized "java/lang/Math") (List.mem_of_getElem? (i := 13) rfl)) (hts (.code Lib.Math.min.name Lib.Math.min.code 2 (some .int)) (List.mem_of_getElem? (i := 14) rfl)) (Nat.le_of_ble_eq_true rfl) (Nat.le_of_ble_eq_true rfl) (Nat.le_of_ble_eq_true rfl) (Nat.le_of_ble_eq_true rfl) dX0_reduce_30 ?_
    refine lv_topi (fun x_13 e_14 => ?_)
    obtain ⟨q_12, hq_12, eq_12⟩ : ∃ z : Nat, z = min z_5 z_9 ∧ x_13 = nI z := ⟨_, rfl, by rw [e_14]; exact k_min (by omega) (by omega)⟩
    subst eq_12
    refine lv_istore_n (lv' := [(2, .int (nI q_12)), (0, .ref (ad 2077)), (1, .ref (ad X))]) hx hb dX0_reduce_33 rfl hl (by decide) rfl (fun ls hl => ?_)
    refine lv_aload_n hx hb dX0_reduce_34 rfl (lv_at hl 2 rfl) ?_
    refine m_get (D := (dC, dI)) (v := .ref (ad (2 * Xa))) (C := RX2) (T := TX2) (N := 2) hx hb hts bk1 hown hK hP X lX.1 hX rfl 0 (by decide) (hts (.fieldLink RX0 29 "GradientDesk$Fraction" "top" "LGradientDesk$Whole;") (List.mem_of_getElem? (i := 5) rfl)) (fun _ h9 => h9) rfl dX0_reduce_35 ?_
    refine lv_iload_n hx hb dX0_reduce_38 rfl (lv_at hl 0 rfl) ?_
    refine va_callv (va_runV (As := [.int (nI q_12)]) (rest := []) ⟨hx, hb, hml, hown, hts⟩ (c_X8_shiftDown l dC dI A ad cA g Xa q_12 hAW (by omega) (by omega)) (cwV 1 hts (goodIn_app (goodIn_r [Cond.methodLink RX0 69 yX8_shiftDown, Cond.instanceMethod yX8_shiftDown, Cond.selects RX8 yX8_shiftDown yX8_shiftDown, Cond.initialized RX8] [15, 16, 17, 9] rfl rfl) (goodIn_sub (fun w9 h9 => bk3 w9 h9) gw_X8_shiftDown)) rfl rfl rfl (by decide +kernel) ⟨Nat.le_of_ble_eq_true rfl, Nat.le_of_ble_eq_true rfl⟩) ⟨fun a U g mk q => ⟨q.1, q.2.1, q.2.2.1, LY.moved (u := U) (U := U.calling g mk a) (Vm.Alike.refl U.vm) q.2.2.2⟩, va_recv hK hP (ci := 11) (q0 := (2 * Xa)) rfl (wo_at (ns_w (by omega)) aw_4), fun U hU hW => ⟨rfl, by rw [hU]; exact fun q h => hA q (Nat.le_trans hS.1 h), by rw [hU]; exact hP, LY.moved hW.alike hL⟩⟩ rfl rfl hl.1 rfl (lv_room (Nat.le_of_ble_eq_true rfl)) dX0_reduce_39 ⟨(Nat.le_of_ble_eq_true rfl), (Nat.le_of_ble_eq_true rfl)⟩) hS (fun q _ h => h) (fun q h => h) (fun u8 t8 H1 locs ht8 hvm8 hw_16 hB hz1 hk1 hS => ?_)
    obtain ⟨g_17, rfl⟩ : ∃ z, z = u8 := ⟨_, rfl⟩
    try dsimp only at hw_16 hB
    rw [ht8] at hB
    have hP := hB
    generalize H1 = H at hP hS ⊢
    obtain ⟨fr_18, hAW_15⟩ := hw_16
    refine lv_aload_n hx hb dX0_reduce_42 rfl (lv_at hl 2 rfl) ?_
    have f_19 : g_17 X = .inr (5, [.ref (ad (2 * Xa)), .ref (ad (2 * Xb))]) := (fr_18 X (by omega)).trans hX
    refine m_get (D := (dC, dI)) (v := .ref (ad (2 * Xb))) (C := RX2) (T := TX2) (N := 2) hx hb hts bk1 hown hK hP X lX.1 f_19 rfl 1 (by decide) (hts (.fieldLink RX0 34 "GradientDesk$Fraction" "bottom" "LGradientDesk$Whole;") (List.mem_of_getElem? (i := 10) rfl)) (fun _ h9 => h9) rfl dX0_reduce_43 ?_
    refine lv_iload_n hx hb dX0_reduce_46 rfl (lv_at hl 0 rfl) ?_
    obtain ⟨mw_20, sw_20, nw_20, fw_20, aw_20, bw_20, cw_20, dw_20, ew_20⟩ := hAW_15 Xb (by omega)
    have qw_20 : mw_20 ≤ 4096 := by rw [dw_20]; exact rmc_le _
    refine va_callv (va_runV (As := [.int (nI q_12)]) (rest := []) ⟨hx, hb, hml, hown, hts⟩ (c_X8_shiftDown l dC dI A ad cA g_17 Xb q_12 hAW_15 (by omega) (by omega)) (cwV 1 hts (goodIn_app (goodIn_r [Cond.methodLink RX0 69 yX8_shiftDown, Cond.instanceMethod yX8_shiftDown, Cond.selects RX8 yX8_shiftDown yX8_shiftDown, Cond.initialized RX8] [15, 16, 17, 9] rfl rfl) (goodIn_sub (fun w9 h9 => bk3 w9 h9) gw_X8_shiftDown)) rfl rfl rfl (by decide +kernel) ⟨Nat.le_of_ble_eq_true rfl, Nat.le_of_ble_eq_true rfl⟩) ⟨fun a U g mk q => ⟨q.1, q.2.1, q.2.2.1, LY.moved (u := U) (U := U.calling g mk a) (Vm.Alike.refl U.vm) q.2.2.2⟩, va_recv hK hP (ci := 11) (q0 := (2 * Xb)) rfl (wo_at (ns_w (by omega)) aw_20), fun U hU hW => ⟨rfl, by rw [hU]; exact fun q h => hA q (Nat.le_trans hS.1 h), by rw [hU]; exact hP, LY.moved hW.alike hL⟩⟩ rfl rfl hl.1 rfl (lv_room (Nat.le_of_ble_eq_true rfl)) dX0_reduce_47 ⟨(Nat.le_of_ble_eq_true rfl), (Nat.le_of_ble_eq_true rfl)⟩) hS (fun q _ h => h) (fun q h => h) (fun u8 t8 H1 locs ht8 hvm8 hw_22 hB hz1 hk1 hS => ?_)
    obtain ⟨g_23, rfl⟩ : ∃ z, z = u8 := ⟨_, rfl⟩
    try dsimp only at hw_22 hB
    rw [ht8] at hB
    have hP := hB
    generalize H1 = H at hP hS ⊢
    obtain ⟨fr_24, hAW_21⟩ := hw_22
    refine lv_aload_n hx hb dX0_reduce_50 rfl (lv_at hl 1 rfl) ?_
    refine lv_aload_n hx hb dX0_reduce_51 rfl (lv_at hl 2 rfl) ?_
    have f_25 : g_23 X = .inr (5, [.ref (ad (2 * Xa)), .ref (ad (2 * Xb))]) := (fr_24 X (by omega)).trans f_19
    refine m_get (D := (dC, dI)) (v := .ref (ad (2 * Xa))) (C := RX2) (T := TX2) (N := 2) hx hb hts bk1 hown hK hP X lX.1 f_25 rfl 0 (by decide) (hts (.fieldLink RX0 29 "GradientDesk$Fraction" "top" "LGradientDesk$Whole;") (List.mem_of_getElem? (i := 5) rfl)) (fun _ h9 => h9) rfl dX0_reduce_52 ?_
    refine lv_aload_n hx hb dX0_reduce_55 rfl (lv_at hl 2 rfl) ?_
    refine m_get (D := (dC, dI)) (v := .ref (ad (2 * Xb))) (C := RX2) (T := TX2) (N := 2) hx hb hts bk1 hown hK hP X lX.1 f_25 rfl 1 (by decide) (hts (.fieldLink RX0 34 "GradientDesk$Fraction" "bottom" "LGradientDesk$Whole;") (List.mem_of_getElem? (i := 10) rfl)) (fun _ h9 => h9) rfl dX0_reduce_56 ?_
    have f_27 : g_23 2077 = .inr (3, [.ref (ad (2 * 0)), .ref (ad (2 * 1)), .ref (ad (2 * 2)), .ref (ad (2 * 3))]) := (fr_24 2077 (by omega)).trans ((fr_18 2077 (by omega)).trans hAr)
    refine va_callr (va_runV (As := [.ref (ad (2 * Xa)), .ref (ad (2 * Xb))]) (rest := []) ⟨hx, hb, hml, hown, hts⟩ (c_X0_oddDivisor l dC dI A ad cA g_23 Xa Xb hAW_21 f_27 (by omega) (by omega)) (cwV 2 hts (goodIn_app (goodIn_r [Cond.methodLink RX0 72 yX0_oddDivisor, Cond.instanceMethod yX0_oddDivisor, Cond.selects RX0 yX0_oddDivisor yX0_oddDivisor, Cond.initialized RX0] [18, 19, 20, 21] rfl rfl) (goodIn_sub (fun w9 h9 => bk4 w9 h9) gw_X0_oddDivisor)) rfl rfl rfl (by decide +kernel) ⟨Nat.le_of_ble_eq_true rfl, Nat.le_of_ble_eq_true rfl⟩) ⟨fun a U g mk q => ⟨q.1, q.2.1, q.2.2.1, LY.moved (u := U) (U := U.calling g mk a) (Vm.Alike.refl U.vm) q.2.2.2⟩, va_recv hK hP (ci := 3) (q0 := 2077) rfl (wo_at (by decide) f_27), fun U hU hW => ⟨rfl, by rw [hU]; exact fun q h => hA q (Nat.le_trans hS.1 h), by rw [hU]; exact hP, LY.moved hW.alike hL⟩⟩ rfl rfl hl.1 rfl (lv_room (Nat.le_of_ble_eq_true rfl)) dX0_reduce_59 ⟨(Nat.le_of_ble_eq_true rfl), (Nat.le_of_ble_eq_true rfl)⟩) hS (fun q _ h => h) (fun q h => h) (fun u8 r_28 t8 H1 locs ht8 hvm8 hw_29 hB hz1 hk1 hS => ?_)
    obtain ⟨g_30, q_31⟩ := u8
    obtain ⟨hra, hB⟩ := hB
    try dsimp only at hw_29 hB hra
    rw [ht8] at hB
    have hP := hB
    subst hra
    generalize H1 = H at hP hS ⊢
    obtain ⟨fr_32, hAW_26, hq9⟩ := hw_29
    refine lv_astore_n (lv' := [(3, .ref (ad (2 * q_31))), (2, .int (nI q_12)), (0, .ref (ad 2077)), (1, .ref (ad X))]) hx hb dX0_reduce_62 rfl hl (by decide) rfl (fun ls hl => ?_)
    refine lv_aload_n hx hb dX0_reduce_63 rfl (lv_at hl 3 rfl) ?_
    have f_33 : g_30 X = .inr (5, [.ref (ad (2 * Xa)), .ref (ad (2 * Xb))]) := (fr_32 X (by omega)).trans f_25
    refine m_get (D := (dC, dI)) (v := .ref (ad (2 * Xa))) (C := RX2) (T := TX2) (N := 2) hx hb hts bk1 hown hK hP X lX.1 f_33 rfl 0 (by decide) (hts (.fieldLink RX0 29 "GradientDesk$Fraction" "top" "LGradientDesk$Whole;") (List.mem_of_getElem? (i := 5) rfl)) (fun _ h9 => h9) rfl dX0_reduce_64 ?_
    refine lv_aload_n hx hb dX0_reduce_67 rfl (lv_at hl 0 rfl) ?_
    obtain ⟨mw_34, sw_34, nw_34, fw_34, aw_34, bw_34, cw_34, dw_34, ew_34⟩ := hAW_26 Xa (by omega)
    have qw_34 : mw_34 ≤ 4096 := by rw [dw_34]; exact rmc_le _
    refine va_callv (va_runV (As := [.ref (ad (2 * q_31))]) (rest := []) ⟨hx, hb, hml, hown, hts⟩ (c_X8_divideEvenly l dC dI A ad cA g_30 Xa q_31 hAW_26 (by omega) (by omega) (by omega)) (cwV 1 hts (goodIn_app (goodIn_r [Cond.methodLink RX0 76 yX8_divideEvenly, Cond.instanceMethod yX8_divideEvenly, Cond.selects RX8 yX8_divideEvenly yX8_divideEvenly, Cond.initialized RX8] [22, 23, 24, 9] rfl rfl) (goodIn_sub (fun w9 h9 => bk5 w9 h9) gw_X8_divideEvenly)) rfl rfl rfl (by decide +kernel) ⟨Nat.le_of_ble_eq_true rfl, Nat.le_of_ble_eq_true rfl⟩) ⟨fun a U g mk q => ⟨q.1, q.2.1, q.2.2.1, LY.moved (u := U) (U := U.calling g mk a) (Vm.Alike.refl U.vm) q.2.2.2⟩, va_recv hK hP (ci := 11) (q0 := (2 * Xa)) rfl (wo_at (ns_w (by omega)) aw_34), fun U hU hW => ⟨rfl, by rw [hU]; exact fun q h => hA q (Nat.le_trans hS.1 h), by rw [hU]; exact hP, LY.moved hW.alike hL⟩⟩ rfl rfl hl.1 rfl (lv_room (Nat.le_of_ble_eq_true rfl)) dX0_reduce_68 ⟨(Nat.le_of_ble_eq_true rfl), (Nat.le_of_ble_eq_true rfl)⟩) hS (fun q _ h => h) (fun q h => h) (fun u8 t8 H1 locs ht8 hvm8 hw_36 hB hz1 hk1 hS => ?_)
    obtain ⟨g_37, rfl⟩ : ∃ z, z = u8 := ⟨_, rfl⟩
    try dsimp only at hw_36 hB
    rw [ht8] at hB
    have hP := hB
    generalize H1 = H at hP hS ⊢
    obtain ⟨fr_38, hAW_35⟩ := hw_36
    refine lv_aload_n hx hb dX0_reduce_71 rfl (lv_at hl 3 rfl) ?_
    have f_39 : g_37 X = .inr (5, [.ref (ad (2 * Xa)), .ref (ad (2 * Xb))]) := (fr_38 X (by omega)).trans f_33
    refine m_get (D := (dC, dI)) (v := .ref (ad (2 * Xb))) (C := RX2) (T := TX2) (N := 2) hx hb hts bk1 hown hK hP X lX.1 f_39 rfl 1 (by decide) (hts (.fieldLink RX0 34 "GradientDesk$Fraction" "bottom" "LGradientDesk$Whole;") (List.mem_of_getElem? (i := 10) rfl)) (fun _ h9 => h9) rfl dX0_reduce_72 ?_
    refine lv_aload_n hx hb dX0_reduce_75 rfl (lv_at hl 0 rfl) ?_
    obtain ⟨mw_40, sw_40, nw_40, fw_40, aw_40, bw_40, cw_40, dw_40, ew_40⟩ := hAW_35 Xb (by omega)
    have qw_40 : mw_40 ≤ 4096 := by rw [dw_40]; exact rmc_le _
    refine va_callv (va_runV (As := [.ref (ad (2 * q_31))]) (rest := []) ⟨hx, hb, hml, hown, hts⟩ (c_X8_divideEvenly l dC dI A ad cA g_37 Xb q_31 hAW_35 (by omega) (by omega) (by omega)) (cwV 1 hts (goodIn_app (goodIn_r [Cond.methodLink RX0 76 yX8_divideEvenly, Cond.instanceMethod yX8_divideEvenly, Cond.selects RX8 yX8_divideEvenly yX8_divideEvenly, Cond.initialized RX8] [22, 23, 24, 9] rfl rfl) (goodIn_sub (fun w9 h9 => bk5 w9 h9) gw_X8_divideEvenly)) rfl rfl rfl (by decide +kernel) ⟨Nat.le_of_ble_eq_true rfl, Nat.le_of_ble_eq_true rfl⟩) ⟨fun a U g mk q => ⟨q.1, q.2.1, q.2.2.1, LY.moved (u := U) (U := U.calling g mk a) (Vm.Alike.refl U.vm) q.2.2.2⟩, va_recv hK hP (ci := 11) (q0 := (2 * Xb)) rfl (wo_at (ns_w (by omega)) aw_40), fun U hU hW => ⟨rfl, by rw [hU]; exact fun q h => hA q (Nat.le_trans hS.1 h), by rw [hU]; exact hP, LY.moved hW.alike hL⟩⟩ rfl rfl hl.1 rfl (lv_room (Nat.le_of_ble_eq_true rfl)) dX0_reduce_76 ⟨(Nat.le_of_ble_eq_true rfl), (Nat.le_of_ble_eq_true rfl)⟩) hS (fun q _ h => h) (fun q h => h) (fun u8 t8 H1 locs ht8 hvm8 hw_42 hB hz1 hk1 hS => ?_)
    obtain ⟨g_43, rfl⟩ : ∃ z, z = u8 := ⟨_, rfl⟩
    try dsimp only at hw_42 hB
    rw [ht8] at hB
    have hP := hB
    generalize H1 = H at hP hS ⊢
    obtain ⟨fr_44, hAW_41⟩ := hw_42
    refine W.widen (k := 0) (n := 0) (by omega) (by omega) ?_
    exact W.vret hx hb hr (fun t9 ht9 hW9 => ⟨⟨g_43, rfl, ⟨(fun (k : Nat) (hk : 8 ≤ k ∧ k ≠ 2 * Xa ∧ k ≠ 2 * Xa + 1 ∧ k ≠ 2 * Xb ∧ k ≠ 2 * Xb + 1) => (fr_44 k (by omega)).trans ((fr_38 k (by omega)).trans ((fr_32 k (by omega)).trans ((fr_24 k (by omega)).trans ((fr_18 k (by omega)).trans (rfl)))))), hAW_41⟩, by show va_P (dC, dI) vwCl _ t9.heap; rw [ht9]; exact hP⟩, hS.F ht9⟩) hS.2.2 dX0_reduce_79
  · have c_3 := mt (nI_eq (a := b0) (b := 0) (by omega) (by decide)).mpr c_3
    refine lv_aload_n hx hb dX0_reduce_7 rfl (lv_at hl 1 rfl) ?_
    refine m_get (D := (dC, dI)) (v := .ref (ad (2 * Xb))) (C := RX2) (T := TX2) (N := 2) hx hb hts bk1 hown hK hP X lX.1 hX rfl 1 (by decide) (hts (.fieldLink RX0 34 "GradientDesk$Fraction" "bottom" "LGradientDesk$Whole;") (List.mem_of_getElem? (i := 10) rfl)) (fun _ h9 => h9) rfl dX0_reduce_8 ?_
    refine lv_lconst (v := lN 1) hx hb dX0_reduce_11 (by decide +kernel) ?_
    obtain ⟨mw_45, sw_45, nw_45, fw_45, aw_45, bw_45, cw_45, dw_45, ew_45⟩ := hAW Xb (by omega)
    have qw_45 : mw_45 ≤ 4096 := by rw [dw_45]; exact rmc_le _
    refine va_callv (va_runV (As := [.long (lN 1)]) (rest := []) ⟨hx, hb, hml, hown, hts⟩ (c_X8_put l dC dI A ad cA g Xb (lN 1) hAW (by omega)) (cwV 1 hts (goodIn_app (goodIn_r [Cond.methodLink RX0 55 yX8_put, Cond.instanceMethod yX8_put, Cond.selects RX8 yX8_put yX8_put, Cond.initialized RX8] [25, 26, 27, 9] rfl rfl) (goodIn_sub (fun w9 h9 => bk6 w9 h9) gw_X8_put)) rfl rfl rfl (by decide +kernel) ⟨Nat.le_of_ble_eq_true rfl, Nat.le_of_ble_eq_true rfl⟩) ⟨fun a U g mk q => ⟨q.1, q.2.1, q.2.2.1, LY.moved (u := U) (U := U.calling g mk a) (Vm.Alike.refl U.vm) q.2.2.2⟩, va_recv hK hP (ci := 11) (q0 := (2 * Xb)) rfl (wo_at (ns_w (by omega)) aw_45), fun U hU hW => ⟨rfl, by rw [hU]; exact fun q h => hA q (Nat.le_trans hS.1 h), by rw [hU]; exact hP, LY.moved hW.alike hL⟩⟩ rfl rfl hl.1 rfl (lv_room (Nat.le_of_ble_eq_true rfl)) dX0_reduce_12 ⟨(Nat.le_of_ble_eq_true rfl), (Nat.le_of_ble_eq_true rfl)⟩) hS (fun q _ h => h) (fun q h => h) (fun u8 t8 H1 locs ht8 hvm8 hw_47 hB hz1 hk1 hS => ?_)
    obtain ⟨g_48, rfl⟩ : ∃ z, z = u8 := ⟨_, rfl⟩
    try dsimp only at hw_47 hB
    rw [ht8] at hB
    have hP := hB
    generalize H1 = H at hP hS ⊢
    obtain ⟨fr_49, hAW_46⟩ := hw_47
    refine W.widen (k := 0) (n := 0) (by omega) (by omega) ?_
    exact W.vret hx hb hr (fun t9 ht9 hW9 => ⟨⟨g_48, rfl, ⟨(fun (k : Nat) (hk : 8 ≤ k ∧ k ≠ 2 * Xa ∧ k ≠ 2 * Xa + 1 ∧ k ≠ 2 * Xb ∧ k ≠ 2 * Xb + 1) => (fr_49 k (by omega)).trans (rfl)), hAW_46⟩, by show va_P (dC, dI) vwCl _ t9.heap; rw [ht9]; exact hP⟩, hS.F ht9⟩) hS.2.2 dX0_reduce_15
end
section
/-- what stands above the words of a doubled number -/
theorem k_crtop {a n b cy : Nat} (h : a < 4294967296 ^ n) (hc : cy = cr a a b n) : cy = (a + a + b) / 4294967296 ^ n := by
  rw [hc]; unfold cr; rw [Nat.mod_eq_of_lt h]
theorem k_tw0 {f q : Nat → Nat} {n a b cy d : Nat} (hf : Rp (fun k => f (d + k)) n a) (hd : ∀ j, j < n → q (d + j) = dgt (a + a + b) j) (h0 : cy = 0) (hc : cy = (a + a + b) / 4294967296 ^ n) : Rp (fun k => q (d + k)) n (a + a + b) := by
  have hlt : a + a + b < 4294967296 ^ n := by
    rcases Nat.lt_or_ge (a + a + b) (4294967296 ^ n) with h | h
    · exact h
    · have := Nat.div_pos h (pw_pos n); omega
  refine Rp.fin (n := n) hd hlt (Nat.le_refl _) (fun i h1 h2 => absurd h1 (by omega)) ?_
  rcases Nat.eq_zero_or_pos n with h | h
  · exact Or.inl h
  · right
    intro h9
    have h1 := hf.ge h
    have h2 : dgt (a + a + b) (n - 1) = 0 := by rw [← hd _ (by omega)]; exact h9
    obtain ⟨k, rfl⟩ : ∃ k, n = k + 1 := ⟨n - 1, by omega⟩
    rw [Nat.add_sub_cancel] at h1 h2
    unfold dgt at h2
    have h3 := Nat.div_pos (show 4294967296 ^ k ≤ a + a + b by omega) (pw_pos k)
    have h4 : (a + a + b) / 4294967296 ^ k < 4294967296 := by
      rw [Nat.div_lt_iff_lt_mul (pw_pos k)]
      rw [pw_s] at hlt; exact hlt
    rw [Nat.mod_eq_of_lt h4] at h2
    omega
theorem k_tw80 {n a b cy : Nat} (h0 : 0 < cy) (hc : cy = (a + a + b) / 4294967296 ^ n) (hb : a + a + b < 4294967296 ^ 80) : n < 80 := by
  rcases Nat.lt_or_ge n 80 with h | h
  · exact h
  · have : 4294967296 ^ 80 ≤ 4294967296 ^ n := Nat.pow_le_pow_right (by decide) h
    rw [Nat.div_eq_of_lt (by omega)] at hc; omega
theorem k_tw1 {q : Nat → Nat} {n a b cy d : Nat} (hd : ∀ j, j < n → q (d + j) = dgt (a + a + b) j) (h0 : cy = 1) (hc : cy = (a + a + b) / 4294967296 ^ n) : Rp (fun k => va_up q (d + n) cy (d + k)) (n + 1) (a + a + b) := by
  have hlt : a + a + b < 4294967296 ^ (n + 1) := by
    have h1 := Nat.div_add_mod (a + a + b) (4294967296 ^ n)
    have h2 := Nat.mod_lt (a + a + b) (pw_pos n)
    rw [← hc, h0] at h1
    rw [pw_s]; omega
  refine Rp.fin (n := n + 1) (fun i hi => ?_) hlt (Nat.le_refl _) (fun i h1 h2 => absurd h1 (by omega)) (Or.inr ?_)
  · by_cases h : i = n
    · subst h; rw [va_up_self]; unfold dgt; rw [← hc, h0]
    · rw [va_up_ne _ _ (by omega)]; exact hd i (by omega)
  · rw [Nat.add_sub_cancel, va_up_self]; omega
end
section
def wd_X10_trim : List Cond := .code yX10_trim cX10_trim 2 none :: (([.fieldLink RX10 14 "GradientDeskModel" "length" "[I", .fieldLink RX10 18 "GradientDeskModel" "below" "[Z", .fieldLink RX10 8 "GradientDeskModel" "pieces" "[J"] : List Cond) ++ (u_ws RX10 TX10 29 ++ ([])))
theorem gw_X10_trim : wd_X10_trim.all goodWord = true := k_allc rfl (k_all (by decide +kernel) (k_all (gu_X10) (rfl)))
set_option maxHeartbeats 4000000 in
set_option maxRecDepth 100000 in
theorem c_X10_trim (l : Launch) (dC : Nat → ClassId) (dI : Nat → Nat → Nat) (A : Nat → Prop) (ad : Nat → Nat) (cA : Nat → ClassId) (g : Nat → va_E) (x : Nat → Int32) (pn : Nat → Nat) (ln : Nat → Nat) (bn : Nat → Nat) (t : Nat) (hR : RN ad cA g x pn ln bn) (ht : t < 2067) : Met l yX10_trim wd_X10_trim ({ frames := 10, cells := 0, slots := 0, locals := 200 }) (va_Pc [.ref (ad 0), .int (nI t)] (PR NSr tyr dC dI A ad cA g)) (va_Qv (fun (u : (Nat → va_E) × Nat) => match u with | (g2, m9) => (∀ k, k ≠ 2 ∧ k ≠ 3 → g2 k = g k) ∧ RN ad cA g2 x pn (va_up ln t m9) (va_up bn t (if m9 = 0 then 0 else bn t)) ∧ m9 ≤ ln t ∧ (∀ j, m9 ≤ j → j < ln t → pn (80 * t + j) = 0) ∧ (m9 = 0 ∨ pn (80 * t + (m9 - 1)) ≠ 0)) (fun (u : (Nat → va_E) × Nat) (t : State) => va_P (dC, dI) vwCl (wo ad NSr u.1) t.heap) A) (0) (0) A := by
  refine Met.ofW (cc := cX10_trim) (maxL := 2) (ret := none) (by decide) rfl ?_
  intro p e s m args below meth c s₁ B hml hv
  obtain ⟨rfl, hA, hP, hL⟩ := hv
  have hx := B.exec
  have hb := B.bytes
  have hr := B.returns
  have hts := atoms_spec (ws := wd_X10_trim) B.pre
  have hown : s.vm.findClass RX10 = some m.cls := findClass_of_methodNamed B.named
  have hlocks := B.notSynchronized
  have hK := hL.1
  have hD : ∀ g, va_D A (wo ad NSr g) := fun g => wo_D hL.2.1 hL.2.2 g
  have hS : va_S A s.heap s.heap [] := va_S.rf
  have bk0 : ∀ w ∈ u_ws RX10 TX10 29, w ∈ wd_X10_trim := fun _ h => List.mem_cons_of_mem _ (List.mem_append_right _ (List.mem_append_left _ h))
  have hl := lv_entry ([.ref (ad 0), .int (nI t)]) (n := 2) (Nat.le_of_ble_eq_true rfl)
  rw [lg_entry_eq]
  generalize (lg_sl ([.ref (ad 0), .int (nI t)]) ++ List.replicate (2 - (lg_sl ([.ref (ad 0), .int (nI t)])).length) Slot.unset).toArray = ls at hl ⊢
  have hl : lv_has ls 2 [(0, .ref (ad 0)), (1, .int (nI t))] := hl
  obtain ⟨r0, r1, r2, r3, hpn, hln, hbn⟩ := hR
  have loop_1 : ∀ (k9 : Nat) (m9 : Nat) (g_3 : Nat → va_E) (fr_4 : ∀ k, (k ≠ 2) → g_3 k = g k), m9 < k9 → (m9 ≤ ln t) → (∀ j, m9 ≤ j → j < ln t → pn (80 * t + j) = 0) → (g_3 2 = .inl (cA 2, 2068, .inl (fun j => nI ((va_up ln t m9) j)))) → ∀ (H : Heap) (locs : List Loc) (ls : Array Slot), va_P (dC, dI) vwCl (wo ad NSr g_3) H → va_S A s.heap H locs → lv_has ls 2 [(0, .ref (ad 0)), (1, .int (nI t))] → W p l e (headSpec wd_X10_trim ({ frames := 10, cells := 0, slots := 0, locals := 200 })).room s m ([.ref (ad 0), .int (nI t)] : List Value).toArray below meth c H locs (0) (0) (MQ below (va_Qv (fun (u : (Nat → va_E) × Nat) => match u with | (g2, m9) => (∀ k, k ≠ 2 ∧ k ≠ 3 → g2 k = g k) ∧ RN ad cA g2 x pn (va_up ln t m9) (va_up bn t (if m9 = 0 then 0 else bn t)) ∧ m9 ≤ ln t ∧ (∀ j, m9 ≤ j → j < ln t → pn (80 * t + j) = 0) ∧ (m9 = 0 ∨ pn (80 * t + (m9 - 1)) ≠ 0)) (fun (u : (Nat → va_E) × Nat) (t : State) => va_P (dC, dI) vwCl (wo ad NSr u.1) t.heap) A) ([.ref (ad 0), .int (nI t)] : List Value).toArray s (0) (0) A) (F0 m 0 ls []) := by
    intro k9
    induction k9 with
    | zero => intro m9 g_3 fr_4 h9; exact absurd h9 (Nat.not_lt_zero _)
    | succ k9 ih_2 =>
      intro m9 g_3 fr_4 h9 hm hz f_5 H locs ls hP hS hl
      have hlm : ∀ j, va_up ln t m9 j < 161 := k_up_lt hln (by have := hln t; omega)
      have hlt := hln t
      refine lv_aload_n hx hb dX10_trim_0 rfl (lv_at hl 0 rfl) ?_
      have f_6 : g_3 0 = .inr (13, Rob ad x) := (fr_4 0 (by omega)).trans r0
      refine m_get (D := (dC, dI)) (v := .ref (ad 2)) (C := RX10) (T := TX10) (N := 29) hx hb hts bk0 hown hK hP 0 (by decide) f_6 rfl 2 (by decide) (hts (.fieldLink RX10 14 "GradientDeskModel" "length" "[I") (List.mem_of_getElem? (i := 1) rfl)) (fun _ h9 => h9) rfl dX10_trim_1 ?_
      refine lv_iload_n hx hb dX10_trim_4 rfl (lv_at hl 1 rfl) ?_
      refine m_iald hx hb hK hP 2 (by decide) rfl f_5 (i := t) (by omega) (by decide) dX10_trim_5 ?_
      refine lv_topi (fun x_7 e_8 => ?_)
      obtain rfl : x_7 = nI m9 := e_8.trans (congrArg nI (va_up_self _ _ _))
      have b_9 := hlm t
      refine lv_if_le (tgt := 45) hx hb dX10_trim_6 (by decide) (fun c_10 => ?_) (fun c_10 => ?_)
      · have c_10 := (nI_leI (a := m9) (b := 0) (by omega) (by decide)).mp c_10
        refine lv_aload_n hx hb dX10_trim_45 rfl (lv_at hl 0 rfl) ?_
        refine m_get (D := (dC, dI)) (v := .ref (ad 3)) (C := RX10) (T := TX10) (N := 29) hx hb hts bk0 hown hK hP 0 (by decide) f_6 rfl 3 (by decide) (hts (.fieldLink RX10 18 "GradientDeskModel" "below" "[Z") (List.mem_of_getElem? (i := 2) rfl)) (fun _ h9 => h9) rfl dX10_trim_46 ?_
        refine lv_iload_n hx hb dX10_trim_49 rfl (lv_at hl 1 rfl) ?_
        refine lv_aload_n hx hb dX10_trim_50 rfl (lv_at hl 0 rfl) ?_
        refine m_get (D := (dC, dI)) (v := .ref (ad 3)) (C := RX10) (T := TX10) (N := 29) hx hb hts bk0 hown hK hP 0 (by decide) f_6 rfl 3 (by decide) (hts (.fieldLink RX10 18 "GradientDeskModel" "below" "[Z") (List.mem_of_getElem? (i := 2) rfl)) (fun _ h9 => h9) rfl dX10_trim_51 ?_
        refine lv_iload_n hx hb dX10_trim_54 rfl (lv_at hl 1 rfl) ?_
        have f_11 : g_3 3 = .inl (cA 3, 2068, .inl (fun j => nI (bn j))) := (fr_4 3 (by omega)).trans r3
        refine m_zald hx hb hK hP 3 (by decide) rfl f_11 (i := t) (by omega) (by decide) dX10_trim_55 ?_
        have b_12 := hbn t
        refine lv_if_eq (tgt := 72) hx hb dX10_trim_56 (by decide) (fun c_13 => ?_) (fun c_13 => ?_)
        · have c_13 := (nI_eq (a := (bn t)) (b := 0) (by omega) (by decide)).mp c_13
          refine lv_iconst (v := nI 0) hx hb dX10_trim_72 (by decide +kernel) ?_
          refine m_zast hx hb hK hP hD hS 3 (by decide) rfl f_11 (i := t) (x := nI 0) (y := nI 0) (by decide +kernel) (by omega) (by decide) dX10_trim_73 (fun H locs g_14 f_15 fr_16 hP hS => ?_)
          rw [k_updI] at f_15
          have b_17 : ∀ j, (va_up bn t 0) j < 2 := k_up_lt hbn (by omega)
          have f_15 : g_14 3 = .inl (cA 3, 2068, .inl (fun j => nI ((va_up bn t 0) j))) := f_15
          have f_18 : g_14 0 = .inr (13, Rob ad x) := (fr_16 0 (by omega)).trans f_6
          have f_19 : g_14 1 = .inl (cA 1, 165440, .inr (.inl (fun j => lN (pn j)))) := (fr_16 1 (by omega)).trans ((fr_4 1 (by omega)).trans r1)
          have f_20 : g_14 2 = .inl (cA 2, 2068, .inl (fun j => nI ((va_up ln t m9) j))) := (fr_16 2 (by omega)).trans f_5
          have z_21 : va_up bn t 0 = va_up bn t (if m9 = 0 then 0 else bn t) := by congr 1; have := hbn t; by_cases hm0 : m9 = 0; rw [if_pos hm0] <;> omega; rw [if_neg hm0]; omega
          have hR_22 : RN ad cA g_14 x pn (va_up ln t m9) (va_up bn t 0) := ⟨f_18, f_19, f_20, f_15, hpn, hlm, b_17⟩
          rw [z_21] at hR_22
          refine W.widen (k := 0) (n := 0) (by omega) (by omega) ?_
          exact W.vret hx hb hr (fun t9 ht9 hW9 => ⟨⟨(g_14, m9), rfl, ⟨(fun (k : Nat) (hk : k ≠ 2 ∧ k ≠ 3) => (fr_16 k (by omega)).trans ((fr_4 k (by omega)).trans (rfl))), hR_22, hm, hz, Or.inl (by omega)⟩, by show va_P (dC, dI) vwCl _ t9.heap; rw [ht9]; exact hP⟩, hS.F ht9⟩) hS.2.2 dX10_trim_74
        · have c_13 := mt (nI_eq (a := (bn t)) (b := 0) (by omega) (by decide)).mpr c_13
          refine lv_aload_n hx hb dX10_trim_59 rfl (lv_at hl 0 rfl) ?_
          refine m_get (D := (dC, dI)) (v := .ref (ad 2)) (C := RX10) (T := TX10) (N := 29) hx hb hts bk0 hown hK hP 0 (by decide) f_6 rfl 2 (by decide) (hts (.fieldLink RX10 14 "GradientDeskModel" "length" "[I") (List.mem_of_getElem? (i := 1) rfl)) (fun _ h9 => h9) rfl dX10_trim_60 ?_
          refine lv_iload_n hx hb dX10_trim_63 rfl (lv_at hl 1 rfl) ?_
          refine m_iald hx hb hK hP 2 (by decide) rfl f_5 (i := t) (by omega) (by decide) dX10_trim_64 ?_
          refine lv_topi (fun x_23 e_24 => ?_)
          obtain rfl : x_23 = nI m9 := e_24.trans (congrArg nI (va_up_self _ _ _))
          have b_25 := hlm t
          refine lv_if_le (tgt := 72) hx hb dX10_trim_65 (by decide) (fun c_26 => ?_) (fun c_26 => ?_)
          · have c_26 := (nI_leI (a := m9) (b := 0) (by omega) (by decide)).mp c_26
            refine lv_iconst (v := nI 0) hx hb dX10_trim_72 (by decide +kernel) ?_
            refine m_zast hx hb hK hP hD hS 3 (by decide) rfl f_11 (i := t) (x := nI 0) (y := nI 0) (by decide +kernel) (by omega) (by decide) dX10_trim_73 (fun H locs g_27 f_28 fr_29 hP hS => ?_)
            rw [k_updI] at f_28
            have b_30 : ∀ j, (va_up bn t 0) j < 2 := k_up_lt hbn (by omega)
            have f_28 : g_27 3 = .inl (cA 3, 2068, .inl (fun j => nI ((va_up bn t 0) j))) := f_28
            have f_31 : g_27 0 = .inr (13, Rob ad x) := (fr_29 0 (by omega)).trans f_6
            have f_32 : g_27 1 = .inl (cA 1, 165440, .inr (.inl (fun j => lN (pn j)))) := (fr_29 1 (by omega)).trans ((fr_4 1 (by omega)).trans r1)
            have f_33 : g_27 2 = .inl (cA 2, 2068, .inl (fun j => nI ((va_up ln t m9) j))) := (fr_29 2 (by omega)).trans f_5
            have z_34 : va_up bn t 0 = va_up bn t (if m9 = 0 then 0 else bn t) := by congr 1; have := hbn t; by_cases hm0 : m9 = 0; rw [if_pos hm0] <;> omega; rw [if_neg hm0]; omega
            have hR_35 : RN ad cA g_27 x pn (va_up ln t m9) (va_up bn t 0) := ⟨f_31, f_32, f_33, f_28, hpn, hlm, b_30⟩
            rw [z_34] at hR_35
            refine W.widen (k := 0) (n := 0) (by omega) (by omega) ?_
            exact W.vret hx hb hr (fun t9 ht9 hW9 => ⟨⟨(g_27, m9), rfl, ⟨(fun (k : Nat) (hk : k ≠ 2 ∧ k ≠ 3) => (fr_29 k (by omega)).trans ((fr_4 k (by omega)).trans (rfl))), hR_35, hm, hz, Or.inl (by omega)⟩, by show va_P (dC, dI) vwCl _ t9.heap; rw [ht9]; exact hP⟩, hS.F ht9⟩) hS.2.2 dX10_trim_74
          · have c_26 := mt (nI_leI (a := m9) (b := 0) (by omega) (by decide)).mpr c_26
            refine lv_iconst (v := nI 1) hx hb dX10_trim_68 (by decide +kernel) ?_
            refine lv_goto (tgt := 73) hx hb dX10_trim_69 (by decide) ?_
            refine m_zast hx hb hK hP hD hS 3 (by decide) rfl f_11 (i := t) (x := nI 1) (y := nI 1) (by decide +kernel) (by omega) (by decide) dX10_trim_73 (fun H locs g_36 f_37 fr_38 hP hS => ?_)
            rw [k_updI] at f_37
            have b_39 : ∀ j, (va_up bn t 1) j < 2 := k_up_lt hbn (by omega)
            have f_37 : g_36 3 = .inl (cA 3, 2068, .inl (fun j => nI ((va_up bn t 1) j))) := f_37
            have f_40 : g_36 0 = .inr (13, Rob ad x) := (fr_38 0 (by omega)).trans f_6
            have f_41 : g_36 1 = .inl (cA 1, 165440, .inr (.inl (fun j => lN (pn j)))) := (fr_38 1 (by omega)).trans ((fr_4 1 (by omega)).trans r1)
            have f_42 : g_36 2 = .inl (cA 2, 2068, .inl (fun j => nI ((va_up ln t m9) j))) := (fr_38 2 (by omega)).trans f_5
            have z_43 : va_up bn t 1 = va_up bn t (if m9 = 0 then 0 else bn t) := by congr 1; have := hbn t; by_cases hm0 : m9 = 0; rw [if_pos hm0] <;> omega; rw [if_neg hm0]; omega
            have hR_44 : RN ad cA g_36 x pn (va_up ln t m9) (va_up bn t 1) := ⟨f_40, f_41, f_42, f_37, hpn, hlm, b_39⟩
            rw [z_43] at hR_44
            refine W.widen (k := 0) (n := 0) (by omega) (by omega) ?_
            exact W.vret hx hb hr (fun t9 ht9 hW9 => ⟨⟨(g_36, m9), rfl, ⟨(fun (k : Nat) (hk : k ≠ 2 ∧ k ≠ 3) => (fr_38 k (by omega)).trans ((fr_4 k (by omega)).trans (rfl))), hR_44, hm, hz, Or.inl (by omega)⟩, by show va_P (dC, dI) vwCl _ t9.heap; rw [ht9]; exact hP⟩, hS.F ht9⟩) hS.2.2 dX10_trim_74
      · have c_10 := mt (nI_leI (a := m9) (b := 0) (by omega) (by decide)).mpr c_10
        refine lv_aload_n hx hb dX10_trim_9 rfl (lv_at hl 0 rfl) ?_
        refine m_get (D := (dC, dI)) (v := .ref (ad 1)) (C := RX10) (T := TX10) (N := 29) hx hb hts bk0 hown hK hP 0 (by decide) f_6 rfl 1 (by decide) (hts (.fieldLink RX10 8 "GradientDeskModel" "pieces" "[J") (List.mem_of_getElem? (i := 3) rfl)) (fun _ h9 => h9) rfl dX10_trim_10 ?_
        refine lv_bipush (v := nI 80) hx hb dX10_trim_13 (by decide +kernel) ?_
        refine lv_iload_n hx hb dX10_trim_15 rfl (lv_at hl 1 rfl) ?_
        refine lv_imul hx hb dX10_trim_16 ?_
        refine lv_topi (fun x_45 e_46 => ?_)
        obtain rfl : x_45 = nI (80 * t) := e_46.trans (pk_mul 80 t)
        refine lv_aload_n hx hb dX10_trim_17 rfl (lv_at hl 0 rfl) ?_
        refine m_get (D := (dC, dI)) (v := .ref (ad 2)) (C := RX10) (T := TX10) (N := 29) hx hb hts bk0 hown hK hP 0 (by decide) f_6 rfl 2 (by decide) (hts (.fieldLink RX10 14 "GradientDeskModel" "length" "[I") (List.mem_of_getElem? (i := 1) rfl)) (fun _ h9 => h9) rfl dX10_trim_18 ?_
        refine lv_iload_n hx hb dX10_trim_21 rfl (lv_at hl 1 rfl) ?_
        refine m_iald hx hb hK hP 2 (by decide) rfl f_5 (i := t) (by omega) (by decide) dX10_trim_22 ?_
        refine lv_topi (fun x_47 e_48 => ?_)
        obtain rfl : x_47 = nI m9 := e_48.trans (congrArg nI (va_up_self _ _ _))
        have b_49 := hlm t
        refine lv_iadd hx hb dX10_trim_23 ?_
        refine lv_topi (fun x_50 e_51 => ?_)
        obtain rfl : x_50 = nI (80 * t + m9) := e_51.trans (nI_add (80 * t) m9)
        refine lv_iconst (v := nI 1) hx hb dX10_trim_24 (by decide +kernel) ?_
        refine lv_isub hx hb dX10_trim_25 ?_
        refine lv_topi (fun x_52 e_53 => ?_)
        obtain rfl : x_52 = nI ((80 * t + m9) - 1) := e_53.trans (pk_sub (show 1 ≤ 80 * t + m9 by omega))
        have f_54 : g_3 1 = .inl (cA 1, 165440, .inr (.inl (fun j => lN (pn j)))) := (fr_4 1 (by omega)).trans r1
        refine m_lald hx hb hK hP 1 (by decide) rfl f_54 (i := (80 * t + m9) - 1) (by omega) (by decide) dX10_trim_26 ?_
        have b_55 := hpn ((80 * t + m9) - 1)
        refine lv_lconst (v := lN 0) hx hb dX10_trim_27 (by decide +kernel) ?_
        refine W.lcmp hx hb dX10_trim_28 ?_
        refine lv_if_ne (tgt := 45) hx hb dX10_trim_29 (by decide) (fun c_56 => ?_) (fun c_56 => ?_)
        · have c_56 := mt (pk_lEQ (a := (pn ((80 * t + m9) - 1))) (b := 0) (by omega) (by decide)).mpr (mt (k_cmp_eq (lN (pn ((80 * t + m9) - 1))) (lN 0)).mpr c_56)
          refine lv_aload_n hx hb dX10_trim_45 rfl (lv_at hl 0 rfl) ?_
          refine m_get (D := (dC, dI)) (v := .ref (ad 3)) (C := RX10) (T := TX10) (N := 29) hx hb hts bk0 hown hK hP 0 (by decide) f_6 rfl 3 (by decide) (hts (.fieldLink RX10 18 "GradientDeskModel" "below" "[Z") (List.mem_of_getElem? (i := 2) rfl)) (fun _ h9 => h9) rfl dX10_trim_46 ?_
          refine lv_iload_n hx hb dX10_trim_49 rfl (lv_at hl 1 rfl) ?_
          refine lv_aload_n hx hb dX10_trim_50 rfl (lv_at hl 0 rfl) ?_
          refine m_get (D := (dC, dI)) (v := .ref (ad 3)) (C := RX10) (T := TX10) (N := 29) hx hb hts bk0 hown hK hP 0 (by decide) f_6 rfl 3 (by decide) (hts (.fieldLink RX10 18 "GradientDeskModel" "below" "[Z") (List.mem_of_getElem? (i := 2) rfl)) (fun _ h9 => h9) rfl dX10_trim_51 ?_
          refine lv_iload_n hx hb dX10_trim_54 rfl (lv_at hl 1 rfl) ?_
          have f_57 : g_3 3 = .inl (cA 3, 2068, .inl (fun j => nI (bn j))) := (fr_4 3 (by omega)).trans r3
          refine m_zald hx hb hK hP 3 (by decide) rfl f_57 (i := t) (by omega) (by decide) dX10_trim_55 ?_
          have b_58 := hbn t
          refine lv_if_eq (tgt := 72) hx hb dX10_trim_56 (by decide) (fun c_59 => ?_) (fun c_59 => ?_)
          · have c_59 := (nI_eq (a := (bn t)) (b := 0) (by omega) (by decide)).mp c_59
            refine lv_iconst (v := nI 0) hx hb dX10_trim_72 (by decide +kernel) ?_
            refine m_zast hx hb hK hP hD hS 3 (by decide) rfl f_57 (i := t) (x := nI 0) (y := nI 0) (by decide +kernel) (by omega) (by decide) dX10_trim_73 (fun H locs g_60 f_61 fr_62 hP hS => ?_)
            rw [k_updI] at f_61
            have b_63 : ∀ j, (va_up bn t 0) j < 2 := k_up_lt hbn (by omega)
            have f_61 : g_60 3 = .inl (cA 3, 2068, .inl (fun j => nI ((va_up bn t 0) j))) := f_61
            have f_64 : g_60 0 = .inr (13, Rob ad x) := (fr_62 0 (by omega)).trans f_6
            have f_65 : g_60 1 = .inl (cA 1, 165440, .inr (.inl (fun j => lN (pn j)))) := (fr_62 1 (by omega)).trans f_54
            have f_66 : g_60 2 = .inl (cA 2, 2068, .inl (fun j => nI ((va_up ln t m9) j))) := (fr_62 2 (by omega)).trans f_5
            have z_67 : va_up bn t 0 = va_up bn t (if m9 = 0 then 0 else bn t) := by congr 1; have := hbn t; by_cases hm0 : m9 = 0; rw [if_pos hm0] <;> omega; rw [if_neg hm0]; omega
            have hR_68 : RN ad cA g_60 x pn (va_up ln t m9) (va_up bn t 0) := ⟨f_64, f_65, f_66, f_61, hpn, hlm, b_63⟩
            rw [z_67] at hR_68
            refine W.widen (k := 0) (n := 0) (by omega) (by omega) ?_
            exact W.vret hx hb hr (fun t9 ht9 hW9 => ⟨⟨(g_60, m9), rfl, ⟨(fun (k : Nat) (hk : k ≠ 2 ∧ k ≠ 3) => (fr_62 k (by omega)).trans ((fr_4 k (by omega)).trans (rfl))), hR_68, hm, hz, Or.inr (by rw [show 80 * t + (m9 - 1) = 80 * t + m9 - 1 by omega]; exact c_56)⟩, by show va_P (dC, dI) vwCl _ t9.heap; rw [ht9]; exact hP⟩, hS.F ht9⟩) hS.2.2 dX10_trim_74
          · have c_59 := mt (nI_eq (a := (bn t)) (b := 0) (by omega) (by decide)).mpr c_59
            refine lv_aload_n hx hb dX10_trim_59 rfl (lv_at hl 0 rfl) ?_
            refine m_get (D := (dC, dI)) (v := .ref (ad 2)) (C := RX10) (T := TX10) (N := 29) hx hb hts bk0 hown hK hP 0 (by decide) f_6 rfl 2 (by decide) (hts (.fieldLink RX10 14 "GradientDeskModel" "length" "[I") (List.mem_of_getElem? (i := 1) rfl)) (fun _ h9 => h9) rfl dX10_trim_60 ?_
            refine lv_iload_n hx hb dX10_trim_63 rfl (lv_at hl 1 rfl) ?_
            refine m_iald hx hb hK hP 2 (by decide) rfl f_5 (i := t) (by omega) (by decide) dX10_trim_64 ?_
            refine lv_topi (fun x_69 e_70 => ?_)
            obtain rfl : x_69 = nI m9 := e_70.trans (congrArg nI (va_up_self _ _ _))
            have b_71 := hlm t
            refine lv_if_le (tgt := 72) hx hb dX10_trim_65 (by decide) (fun c_72 => ?_) (fun c_72 => ?_)
            · have c_72 := (nI_leI (a := m9) (b := 0) (by omega) (by decide)).mp c_72
              refine lv_iconst (v := nI 0) hx hb dX10_trim_72 (by decide +kernel) ?_
              refine m_zast hx hb hK hP hD hS 3 (by decide) rfl f_57 (i := t) (x := nI 0) (y := nI 0) (by decide +kernel) (by omega) (by decide) dX10_trim_73 (fun H locs g_73 f_74 fr_75 hP hS => ?_)
              rw [k_updI] at f_74
              have b_76 : ∀ j, (va_up bn t 0) j < 2 := k_up_lt hbn (by omega)
              have f_74 : g_73 3 = .inl (cA 3, 2068, .inl (fun j => nI ((va_up bn t 0) j))) := f_74
              have f_77 : g_73 0 = .inr (13, Rob ad x) := (fr_75 0 (by omega)).trans f_6
              have f_78 : g_73 1 = .inl (cA 1, 165440, .inr (.inl (fun j => lN (pn j)))) := (fr_75 1 (by omega)).trans f_54
              have f_79 : g_73 2 = .inl (cA 2, 2068, .inl (fun j => nI ((va_up ln t m9) j))) := (fr_75 2 (by omega)).trans f_5
              have z_80 : va_up bn t 0 = va_up bn t (if m9 = 0 then 0 else bn t) := by congr 1; have := hbn t; by_cases hm0 : m9 = 0; rw [if_pos hm0] <;> omega; rw [if_neg hm0]; omega
              have hR_81 : RN ad cA g_73 x pn (va_up ln t m9) (va_up bn t 0) := ⟨f_77, f_78, f_79, f_74, hpn, hlm, b_76⟩
              rw [z_80] at hR_81
              refine W.widen (k := 0) (n := 0) (by omega) (by omega) ?_
              exact W.vret hx hb hr (fun t9 ht9 hW9 => ⟨⟨(g_73, m9), rfl, ⟨(fun (k : Nat) (hk : k ≠ 2 ∧ k ≠ 3) => (fr_75 k (by omega)).trans ((fr_4 k (by omega)).trans (rfl))), hR_81, hm, hz, Or.inr (by rw [show 80 * t + (m9 - 1) = 80 * t + m9 - 1 by omega]; exact c_56)⟩, by show va_P (dC, dI) vwCl _ t9.heap; rw [ht9]; exact hP⟩, hS.F ht9⟩) hS.2.2 dX10_trim_74
            · have c_72 := mt (nI_leI (a := m9) (b := 0) (by omega) (by decide)).mpr c_72
              refine lv_iconst (v := nI 1) hx hb dX10_trim_68 (by decide +kernel) ?_
              refine lv_goto (tgt := 73) hx hb dX10_trim_69 (by decide) ?_
              refine m_zast hx hb hK hP hD hS 3 (by decide) rfl f_57 (i := t) (x := nI 1) (y := nI 1) (by decide +kernel) (by omega) (by decide) dX10_trim_73 (fun H locs g_82 f_83 fr_84 hP hS => ?_)
              rw [k_updI] at f_83
              have b_85 : ∀ j, (va_up bn t 1) j < 2 := k_up_lt hbn (by omega)
              have f_83 : g_82 3 = .inl (cA 3, 2068, .inl (fun j => nI ((va_up bn t 1) j))) := f_83
              have f_86 : g_82 0 = .inr (13, Rob ad x) := (fr_84 0 (by omega)).trans f_6
              have f_87 : g_82 1 = .inl (cA 1, 165440, .inr (.inl (fun j => lN (pn j)))) := (fr_84 1 (by omega)).trans f_54
              have f_88 : g_82 2 = .inl (cA 2, 2068, .inl (fun j => nI ((va_up ln t m9) j))) := (fr_84 2 (by omega)).trans f_5
              have z_89 : va_up bn t 1 = va_up bn t (if m9 = 0 then 0 else bn t) := by congr 1; have := hbn t; by_cases hm0 : m9 = 0; rw [if_pos hm0] <;> omega; rw [if_neg hm0]; omega
              have hR_90 : RN ad cA g_82 x pn (va_up ln t m9) (va_up bn t 1) := ⟨f_86, f_87, f_88, f_83, hpn, hlm, b_85⟩
              rw [z_89] at hR_90
              refine W.widen (k := 0) (n := 0) (by omega) (by omega) ?_
              exact W.vret hx hb hr (fun t9 ht9 hW9 => ⟨⟨(g_82, m9), rfl, ⟨(fun (k : Nat) (hk : k ≠ 2 ∧ k ≠ 3) => (fr_84 k (by omega)).trans ((fr_4 k (by omega)).trans (rfl))), hR_90, hm, hz, Or.inr (by rw [show 80 * t + (m9 - 1) = 80 * t + m9 - 1 by omega]; exact c_56)⟩, by show va_P (dC, dI) vwCl _ t9.heap; rw [ht9]; exact hP⟩, hS.F ht9⟩) hS.2.2 dX10_trim_74
        · have c_56 := (pk_lEQ (a := (pn ((80 * t + m9) - 1))) (b := 0) (by omega) (by decide)).mp ((k_cmp_eq (lN (pn ((80 * t + m9) - 1))) (lN 0)).mp c_56)
          refine lv_aload_n hx hb dX10_trim_32 rfl (lv_at hl 0 rfl) ?_
          refine m_get (D := (dC, dI)) (v := .ref (ad 2)) (C := RX10) (T := TX10) (N := 29) hx hb hts bk0 hown hK hP 0 (by decide) f_6 rfl 2 (by decide) (hts (.fieldLink RX10 14 "GradientDeskModel" "length" "[I") (List.mem_of_getElem? (i := 1) rfl)) (fun _ h9 => h9) rfl dX10_trim_33 ?_
          refine lv_iload_n hx hb dX10_trim_36 rfl (lv_at hl 1 rfl) ?_
          refine lv_dup2_11 hx hb dX10_trim_37 rfl rfl ?_
          refine m_iald hx hb hK hP 2 (by decide) rfl f_5 (i := t) (by omega) (by decide) dX10_trim_38 ?_
          refine lv_topi (fun x_91 e_92 => ?_)
          obtain rfl : x_91 = nI m9 := e_92.trans (congrArg nI (va_up_self _ _ _))
          have b_93 := hlm t
          refine lv_iconst (v := nI 1) hx hb dX10_trim_39 (by decide +kernel) ?_
          refine lv_isub hx hb dX10_trim_40 ?_
          refine lv_topi (fun x_94 e_95 => ?_)
          obtain rfl : x_94 = nI (m9 - 1) := e_95.trans (pk_sub (show 1 ≤ m9 by omega))
          refine m_iast hx hb hK hP hD hS 2 (by decide) rfl f_5 (i := t) (x := nI (m9 - 1)) (by omega) (by decide) dX10_trim_41 (fun H locs g_96 f_97 fr_98 hP hS => ?_)
          rw [k_updI] at f_97
          have b_99 : ∀ j, (va_up (va_up ln t m9) t (m9 - 1)) j < 161 := k_up_lt hlm (by omega)
          have f_97 : g_96 2 = .inl (cA 2, 2068, .inl (fun j => nI ((va_up (va_up ln t m9) t (m9 - 1)) j))) := f_97
          refine lv_goto (tgt := 0) hx hb dX10_trim_42 (by decide) ?_
          exact ih_2 (m9 - 1) g_96 (fun (k : Nat) (hk : k ≠ 2) => (fr_98 k (by omega)).trans ((fr_4 k (by omega)).trans (rfl))) (by omega) (by omega) (fun j h1 h2 => by by_cases h3 : m9 ≤ j; exact hz j h3 h2; obtain rfl : j = m9 - 1 := (by omega); rw [show 80 * t + (m9 - 1) = 80 * t + m9 - 1 by omega]; exact c_56) (by have h := f_97; rw [k_up_up] at h; exact h) _ _ _ hP hS (lv_sub (l' := [(0, .ref (ad 0)), (1, .int (nI t))]) hl [0, 1] rfl)
  exact loop_1 _ (ln t) g (fun (k : Nat) (hk : k ≠ 2) => rfl) (Nat.lt_succ_self _) (Nat.le_refl _) (fun j h1 h2 => absurd h1 (by omega)) (by rw [k_up_id]; exact r2) _ _ _ hP hS (lv_sub (l' := [(0, .ref (ad 0)), (1, .int (nI t))]) hl [0, 1] rfl)
def wd_X10_copy : List Cond := .code yX10_copy cX10_copy 4 none :: (([.fieldLink RX10 14 "GradientDeskModel" "length" "[I", .fieldLink RX10 18 "GradientDeskModel" "below" "[Z", .fieldLink RX10 8 "GradientDeskModel" "pieces" "[J"] : List Cond) ++ (u_ws RX10 TX10 29 ++ ([])))
theorem gw_X10_copy : wd_X10_copy.all goodWord = true := k_allc rfl (k_all (by decide +kernel) (k_all (gu_X10) (rfl)))
set_option maxHeartbeats 4000000 in
set_option maxRecDepth 100000 in
theorem c_X10_copy (l : Launch) (dC : Nat → ClassId) (dI : Nat → Nat → Nat) (A : Nat → Prop) (ad : Nat → Nat) (cA : Nat → ClassId) (g : Nat → va_E) (x : Nat → Int32) (pn : Nat → Nat) (ln : Nat → Nat) (bn : Nat → Nat) (t : Nat) (a : Nat) (hR : RN ad cA g x pn ln bn) (ht : t < 2066) (ha : a < 2067) (hl9 : ln a ≤ 80) : Met l yX10_copy wd_X10_copy ({ frames := 10, cells := 0, slots := 0, locals := 200 }) (va_Pc [.ref (ad 0), .int (nI t), .int (nI a)] (PR NSr tyr dC dI A ad cA g)) (va_Qv (fun (u : (Nat → va_E) × (Nat → Nat)) => match u with | (g2, pn2) => (∀ k, k ≠ 1 ∧ k ≠ 2 ∧ k ≠ 3 → g2 k = g k) ∧ RN ad cA g2 x pn2 (va_up ln t (ln a)) (va_up bn t (bn a)) ∧ (∀ j, j < ln a → pn2 (80 * t + j) = pn (80 * a + j)) ∧ (∀ j, j < 80 * t ∨ 80 * t + 80 ≤ j → pn2 j = pn j)) (fun (u : (Nat → va_E) × (Nat → Nat)) (t : State) => va_P (dC, dI) vwCl (wo ad NSr u.1) t.heap) A) (0) (0) A := by
  refine Met.ofW (cc := cX10_copy) (maxL := 4) (ret := none) (by decide) rfl ?_
  intro p e s m args below meth c s₁ B hml hv
  obtain ⟨rfl, hA, hP, hL⟩ := hv
  have hx := B.exec
  have hb := B.bytes
  have hr := B.returns
  have hts := atoms_spec (ws := wd_X10_copy) B.pre
  have hown : s.vm.findClass RX10 = some m.cls := findClass_of_methodNamed B.named
  have hlocks := B.notSynchronized
  have hK := hL.1
  have hD : ∀ g, va_D A (wo ad NSr g) := fun g => wo_D hL.2.1 hL.2.2 g
  have hS : va_S A s.heap s.heap [] := va_S.rf
  have bk0 : ∀ w ∈ u_ws RX10 TX10 29, w ∈ wd_X10_copy := fun _ h => List.mem_cons_of_mem _ (List.mem_append_right _ (List.mem_append_left _ h))
  have hl := lv_entry ([.ref (ad 0), .int (nI t), .int (nI a)]) (n := 4) (Nat.le_of_ble_eq_true rfl)
  rw [lg_entry_eq]
  generalize (lg_sl ([.ref (ad 0), .int (nI t), .int (nI a)]) ++ List.replicate (4 - (lg_sl ([.ref (ad 0), .int (nI t), .int (nI a)])).length) Slot.unset).toArray = ls at hl ⊢
  have hl : lv_has ls 4 [(0, .ref (ad 0)), (1, .int (nI t)), (2, .int (nI a))] := hl
  obtain ⟨r0, r1, r2, r3, hpn, hln, hbn⟩ := hR
  have hla := hln a
  refine lv_iconst (v := nI 0) hx hb dX10_copy_0 (by decide +kernel) ?_
  refine lv_istore_n (lv' := [(3, .int (nI 0)), (0, .ref (ad 0)), (1, .int (nI t)), (2, .int (nI a))]) hx hb dX10_copy_1 rfl hl (by decide) rfl (fun ls hl => ?_)
  have loop_1 : ∀ (k9 : Nat) (i : Nat) (q : Nat → Nat) (g_3 : Nat → va_E) (fr_4 : ∀ k, (k ≠ 1) → g_3 k = g k), ln a - i < k9 → (i ≤ ln a) → (∀ j, q j < 4294967296) → (∀ j, j < i → q (80 * t + j) = pn (80 * a + j)) → (∀ j, j < 80 * t ∨ 80 * t + i ≤ j → q j = pn j) → (g_3 1 = .inl (cA 1, 165440, .inr (.inl (fun j => lN (q j))))) → ∀ (H : Heap) (locs : List Loc) (ls : Array Slot), va_P (dC, dI) vwCl (wo ad NSr g_3) H → va_S A s.heap H locs → lv_has ls 4 [(0, .ref (ad 0)), (1, .int (nI t)), (2, .int (nI a)), (3, .int (nI i))] → W p l e (headSpec wd_X10_copy ({ frames := 10, cells := 0, slots := 0, locals := 200 })).room s m ([.ref (ad 0), .int (nI t), .int (nI a)] : List Value).toArray below meth c H locs (0) (0) (MQ below (va_Qv (fun (u : (Nat → va_E) × (Nat → Nat)) => match u with | (g2, pn2) => (∀ k, k ≠ 1 ∧ k ≠ 2 ∧ k ≠ 3 → g2 k = g k) ∧ RN ad cA g2 x pn2 (va_up ln t (ln a)) (va_up bn t (bn a)) ∧ (∀ j, j < ln a → pn2 (80 * t + j) = pn (80 * a + j)) ∧ (∀ j, j < 80 * t ∨ 80 * t + 80 ≤ j → pn2 j = pn j)) (fun (u : (Nat → va_E) × (Nat → Nat)) (t : State) => va_P (dC, dI) vwCl (wo ad NSr u.1) t.heap) A) ([.ref (ad 0), .int (nI t), .int (nI a)] : List Value).toArray s (0) (0) A) (F0 m 2 ls []) := by
    intro k9
    induction k9 with
    | zero => intro i q g_3 fr_4 h9; exact absurd h9 (Nat.not_lt_zero _)
    | succ k9 ih_2 =>
      intro i q g_3 fr_4 h9 hi hq h1 h2 f_5 H locs ls hP hS hl
      refine lv_iload_n hx hb dX10_copy_2 rfl (lv_at hl 3 rfl) ?_
      refine lv_aload_n hx hb dX10_copy_3 rfl (lv_at hl 0 rfl) ?_
      have f_6 : g_3 0 = .inr (13, Rob ad x) := (fr_4 0 (by omega)).trans r0
      refine m_get (D := (dC, dI)) (v := .ref (ad 2)) (C := RX10) (T := TX10) (N := 29) hx hb hts bk0 hown hK hP 0 (by decide) f_6 rfl 2 (by decide) (hts (.fieldLink RX10 14 "GradientDeskModel" "length" "[I") (List.mem_of_getElem? (i := 1) rfl)) (fun _ h9 => h9) rfl dX10_copy_4 ?_
      refine lv_iload_n hx hb dX10_copy_7 rfl (lv_at hl 2 rfl) ?_
      have f_7 : g_3 2 = .inl (cA 2, 2068, .inl (fun j => nI (ln j))) := (fr_4 2 (by omega)).trans r2
      refine m_iald hx hb hK hP 2 (by decide) rfl f_7 (i := a) (by omega) (by decide) dX10_copy_8 ?_
      have b_8 := hln a
      refine lv_icmp_ge (tgt := 40) hx hb dX10_copy_9 (by decide) (fun c_9 => ?_) (fun c_9 => ?_)
      · have c_9 := (nI_leI (a := (ln a)) (b := i) (by omega) (by omega)).mp c_9
        refine lv_aload_n hx hb dX10_copy_40 rfl (lv_at hl 0 rfl) ?_
        refine m_get (D := (dC, dI)) (v := .ref (ad 2)) (C := RX10) (T := TX10) (N := 29) hx hb hts bk0 hown hK hP 0 (by decide) f_6 rfl 2 (by decide) (hts (.fieldLink RX10 14 "GradientDeskModel" "length" "[I") (List.mem_of_getElem? (i := 1) rfl)) (fun _ h9 => h9) rfl dX10_copy_41 ?_
        refine lv_iload_n hx hb dX10_copy_44 rfl (lv_at hl 1 rfl) ?_
        refine lv_aload_n hx hb dX10_copy_45 rfl (lv_at hl 0 rfl) ?_
        refine m_get (D := (dC, dI)) (v := .ref (ad 2)) (C := RX10) (T := TX10) (N := 29) hx hb hts bk0 hown hK hP 0 (by decide) f_6 rfl 2 (by decide) (hts (.fieldLink RX10 14 "GradientDeskModel" "length" "[I") (List.mem_of_getElem? (i := 1) rfl)) (fun _ h9 => h9) rfl dX10_copy_46 ?_
        refine lv_iload_n hx hb dX10_copy_49 rfl (lv_at hl 2 rfl) ?_
        refine m_iald hx hb hK hP 2 (by decide) rfl f_7 (i := a) (by omega) (by decide) dX10_copy_50 ?_
        have b_10 := hln a
        refine m_iast hx hb hK hP hD hS 2 (by decide) rfl f_7 (i := t) (x := nI (ln a)) (by omega) (by decide) dX10_copy_51 (fun H locs g_11 f_12 fr_13 hP hS => ?_)
        rw [k_updI] at f_12
        have b_14 : ∀ j, (va_up ln t (ln a)) j < 161 := k_up_lt hln (by omega)
        have f_12 : g_11 2 = .inl (cA 2, 2068, .inl (fun j => nI ((va_up ln t (ln a)) j))) := f_12
        refine lv_aload_n hx hb dX10_copy_52 rfl (lv_at hl 0 rfl) ?_
        have f_15 : g_11 0 = .inr (13, Rob ad x) := (fr_13 0 (by omega)).trans f_6
        refine m_get (D := (dC, dI)) (v := .ref (ad 3)) (C := RX10) (T := TX10) (N := 29) hx hb hts bk0 hown hK hP 0 (by decide) f_15 rfl 3 (by decide) (hts (.fieldLink RX10 18 "GradientDeskModel" "below" "[Z") (List.mem_of_getElem? (i := 2) rfl)) (fun _ h9 => h9) rfl dX10_copy_53 ?_
        refine lv_iload_n hx hb dX10_copy_56 rfl (lv_at hl 1 rfl) ?_
        refine lv_aload_n hx hb dX10_copy_57 rfl (lv_at hl 0 rfl) ?_
        refine m_get (D := (dC, dI)) (v := .ref (ad 3)) (C := RX10) (T := TX10) (N := 29) hx hb hts bk0 hown hK hP 0 (by decide) f_15 rfl 3 (by decide) (hts (.fieldLink RX10 18 "GradientDeskModel" "below" "[Z") (List.mem_of_getElem? (i := 2) rfl)) (fun _ h9 => h9) rfl dX10_copy_58 ?_
        refine lv_iload_n hx hb dX10_copy_61 rfl (lv_at hl 2 rfl) ?_
        have f_16 : g_11 3 = .inl (cA 3, 2068, .inl (fun j => nI (bn j))) := (fr_13 3 (by omega)).trans ((fr_4 3 (by omega)).trans r3)
        refine m_zald hx hb hK hP 3 (by decide) rfl f_16 (i := a) (by omega) (by decide) dX10_copy_62 ?_
        have b_17 := hbn a
        refine m_zast hx hb hK hP hD hS 3 (by decide) rfl f_16 (i := t) (x := nI (bn a)) (y := nI (bn a)) (k_vnarZ2 (by omega)) (by omega) (by decide) dX10_copy_63 (fun H locs g_18 f_19 fr_20 hP hS => ?_)
        rw [k_updI] at f_19
        have b_21 : ∀ j, (va_up bn t (bn a)) j < 2 := k_up_lt hbn (by omega)
        have f_19 : g_18 3 = .inl (cA 3, 2068, .inl (fun j => nI ((va_up bn t (bn a)) j))) := f_19
        have f_22 : g_18 0 = .inr (13, Rob ad x) := (fr_20 0 (by omega)).trans f_15
        have f_23 : g_18 1 = .inl (cA 1, 165440, .inr (.inl (fun j => lN (q j)))) := (fr_20 1 (by omega)).trans ((fr_13 1 (by omega)).trans f_5)
        have f_24 : g_18 2 = .inl (cA 2, 2068, .inl (fun j => nI ((va_up ln t (ln a)) j))) := (fr_20 2 (by omega)).trans f_12
        refine W.widen (k := 0) (n := 0) (by omega) (by omega) ?_
        exact W.vret hx hb hr (fun t9 ht9 hW9 => ⟨⟨(g_18, q), rfl, ⟨(fun (k : Nat) (hk : k ≠ 1 ∧ k ≠ 2 ∧ k ≠ 3) => (fr_20 k (by omega)).trans ((fr_13 k (by omega)).trans ((fr_4 k (by omega)).trans (rfl)))), ⟨f_22, f_23, f_24, f_19, hq, b_14, b_21⟩, fun j hj => h1 j (by omega), fun j hj => h2 j (by omega)⟩, by show va_P (dC, dI) vwCl _ t9.heap; rw [ht9]; exact hP⟩, hS.F ht9⟩) hS.2.2 dX10_copy_64
      · have c_9 := mt (nI_leI (a := (ln a)) (b := i) (by omega) (by omega)).mpr c_9
        refine lv_aload_n hx hb dX10_copy_12 rfl (lv_at hl 0 rfl) ?_
        refine m_get (D := (dC, dI)) (v := .ref (ad 1)) (C := RX10) (T := TX10) (N := 29) hx hb hts bk0 hown hK hP 0 (by decide) f_6 rfl 1 (by decide) (hts (.fieldLink RX10 8 "GradientDeskModel" "pieces" "[J") (List.mem_of_getElem? (i := 3) rfl)) (fun _ h9 => h9) rfl dX10_copy_13 ?_
        refine lv_bipush (v := nI 80) hx hb dX10_copy_16 (by decide +kernel) ?_
        refine lv_iload_n hx hb dX10_copy_18 rfl (lv_at hl 1 rfl) ?_
        refine lv_imul hx hb dX10_copy_19 ?_
        refine lv_topi (fun x_25 e_26 => ?_)
        obtain rfl : x_25 = nI (80 * t) := e_26.trans (pk_mul 80 t)
        refine lv_iload_n hx hb dX10_copy_20 rfl (lv_at hl 3 rfl) ?_
        refine lv_iadd hx hb dX10_copy_21 ?_
        refine lv_topi (fun x_27 e_28 => ?_)
        obtain rfl : x_27 = nI (80 * t + i) := e_28.trans (nI_add (80 * t) i)
        refine lv_aload_n hx hb dX10_copy_22 rfl (lv_at hl 0 rfl) ?_
        refine m_get (D := (dC, dI)) (v := .ref (ad 1)) (C := RX10) (T := TX10) (N := 29) hx hb hts bk0 hown hK hP 0 (by decide) f_6 rfl 1 (by decide) (hts (.fieldLink RX10 8 "GradientDeskModel" "pieces" "[J") (List.mem_of_getElem? (i := 3) rfl)) (fun _ h9 => h9) rfl dX10_copy_23 ?_
        refine lv_bipush (v := nI 80) hx hb dX10_copy_26 (by decide +kernel) ?_
        refine lv_iload_n hx hb dX10_copy_28 rfl (lv_at hl 2 rfl) ?_
        refine lv_imul hx hb dX10_copy_29 ?_
        refine lv_topi (fun x_29 e_30 => ?_)
        obtain rfl : x_29 = nI (80 * a) := e_30.trans (pk_mul 80 a)
        refine lv_iload_n hx hb dX10_copy_30 rfl (lv_at hl 3 rfl) ?_
        refine lv_iadd hx hb dX10_copy_31 ?_
        refine lv_topi (fun x_31 e_32 => ?_)
        obtain rfl : x_31 = nI (80 * a + i) := e_32.trans (nI_add (80 * a) i)
        refine m_lald hx hb hK hP 1 (by decide) rfl f_5 (i := 80 * a + i) (by omega) (by decide) dX10_copy_32 ?_
        have b_33 := hq (80 * a + i)
        refine m_last hx hb hK hP hD hS 1 (by decide) rfl f_5 (i := 80 * t + i) (x := lN (q (80 * a + i))) (by omega) (by decide) dX10_copy_33 (fun H locs g_34 f_35 fr_36 hP hS => ?_)
        rw [k_updL] at f_35
        have b_37 : ∀ j, (va_up q (80 * t + i) (q (80 * a + i))) j < 4294967296 := k_up_lt hq (by omega)
        have f_35 : g_34 1 = .inl (cA 1, 165440, .inr (.inl (fun j => lN ((va_up q (80 * t + i) (q (80 * a + i))) j)))) := f_35
        refine lv_iinc (v := nI (i + 1)) (lv' := [(3, .int (nI (i + 1))), (0, .ref (ad 0)), (1, .int (nI t)), (2, .int (nI a))]) hx hb dX10_copy_34 hl (k := 3) rfl (nI_add i 1) (by decide) rfl (fun ls hl => ?_)
        refine lv_goto (tgt := 2) hx hb dX10_copy_37 (by decide) ?_
        exact ih_2 (i + 1) (va_up q (80 * t + i) (q (80 * a + i))) g_34 (fun (k : Nat) (hk : k ≠ 1) => (fr_36 k (by omega)).trans ((fr_4 k (by omega)).trans (rfl))) (by omega) (by omega) b_37 (fun j hj => by by_cases hji : j = i; subst hji; rw [va_up_self]; by_cases hta : t = a; subst hta; exact h2 _ (Or.inr (Nat.le_refl _)); exact h2 _ (by omega); rw [va_up_ne _ _ (by omega)]; exact h1 j (by omega)) (fun j hj => by rw [va_up_ne _ _ (by omega)]; exact h2 j (by omega)) f_35 _ _ _ hP hS (lv_sub (l' := [(0, .ref (ad 0)), (1, .int (nI t)), (2, .int (nI a)), (3, .int (nI (i + 1)))]) hl [1, 2, 3, 0] rfl)
  exact loop_1 _ 0 pn g (fun (k : Nat) (hk : k ≠ 1) => rfl) (Nat.lt_succ_self _) (Nat.zero_le _) hpn (fun j h => absurd h (by omega)) (fun _ _ => rfl) r1 _ _ _ hP hS (lv_sub (l' := [(0, .ref (ad 0)), (1, .int (nI t)), (2, .int (nI a)), (3, .int (nI 0))]) hl [1, 2, 3, 0] rfl)
def wd_X10_piece : List Cond := .code yX10_piece cX10_piece 3 (some .long) :: (([.fieldLink RX10 14 "GradientDeskModel" "length" "[I", .fieldLink RX10 8 "GradientDeskModel" "pieces" "[J"] : List Cond) ++ (u_ws RX10 TX10 29 ++ ([])))
theorem gw_X10_piece : wd_X10_piece.all goodWord = true := k_allc rfl (k_all (by decide +kernel) (k_all (gu_X10) (rfl)))
set_option maxHeartbeats 4000000 in
set_option maxRecDepth 100000 in
theorem c_X10_piece (l : Launch) (dC : Nat → ClassId) (dI : Nat → Nat → Nat) (A : Nat → Prop) (ad : Nat → Nat) (cA : Nat → ClassId) (g : Nat → va_E) (x : Nat → Int32) (pn : Nat → Nat) (ln : Nat → Nat) (bn : Nat → Nat) (t : Nat) (k9 : Nat) (hR : RN ad cA g x pn ln bn) (ht : t < 2066) (hl9 : ln t ≤ 80) (hk9 : k9 < 100000) : Met l yX10_piece wd_X10_piece ({ frames := 10, cells := 0, slots := 0, locals := 200 }) (va_Pc [.ref (ad 0), .int (nI t), .int (nI k9)] (PR NSr tyr dC dI A ad cA g)) (va_Ql (fun (r : Int64) => fun (u : Unit) => match u with | () => r = lN (pc9 pn ln t k9)) (fun (u : Unit) (t : State) => va_P (dC, dI) vwCl (wo ad NSr g) t.heap) A) (0) (0) A := by
  refine Met.ofW (cc := cX10_piece) (maxL := 3) (ret := (some .long)) (by decide) rfl ?_
  intro p e s m args below meth c s₁ B hml hv
  obtain ⟨rfl, hA, hP, hL⟩ := hv
  have hx := B.exec
  have hb := B.bytes
  have hr := B.returns
  have hts := atoms_spec (ws := wd_X10_piece) B.pre
  have hown : s.vm.findClass RX10 = some m.cls := findClass_of_methodNamed B.named
  have hlocks := B.notSynchronized
  have hK := hL.1
  have hD : ∀ g, va_D A (wo ad NSr g) := fun g => wo_D hL.2.1 hL.2.2 g
  have hS : va_S A s.heap s.heap [] := va_S.rf
  have bk0 : ∀ w ∈ u_ws RX10 TX10 29, w ∈ wd_X10_piece := fun _ h => List.mem_cons_of_mem _ (List.mem_append_right _ (List.mem_append_left _ h))
  have hl := lv_entry ([.ref (ad 0), .int (nI t), .int (nI k9)]) (n := 3) (Nat.le_of_ble_eq_true rfl)
  rw [lg_entry_eq]
  generalize (lg_sl ([.ref (ad 0), .int (nI t), .int (nI k9)]) ++ List.replicate (3 - (lg_sl ([.ref (ad 0), .int (nI t), .int (nI k9)])).length) Slot.unset).toArray = ls at hl ⊢
  have hl : lv_has ls 3 [(0, .ref (ad 0)), (1, .int (nI t)), (2, .int (nI k9))] := hl
  obtain ⟨r0, r1, r2, r3, hpn, hln, hbn⟩ := hR
  refine lv_iload_n hx hb dX10_piece_0 rfl (lv_at hl 2 rfl) ?_
  refine lv_aload_n hx hb dX10_piece_1 rfl (lv_at hl 0 rfl) ?_
  refine m_get (D := (dC, dI)) (v := .ref (ad 2)) (C := RX10) (T := TX10) (N := 29) hx hb hts bk0 hown hK hP 0 (by decide) r0 rfl 2 (by decide) (hts (.fieldLink RX10 14 "GradientDeskModel" "length" "[I") (List.mem_of_getElem? (i := 1) rfl)) (fun _ h9 => h9) rfl dX10_piece_2 ?_
  refine lv_iload_n hx hb dX10_piece_5 rfl (lv_at hl 1 rfl) ?_
  refine m_iald hx hb hK hP 2 (by decide) rfl r2 (i := t) (by omega) (by decide) dX10_piece_6 ?_
  have b_1 := hln t
  refine lv_icmp_ge (tgt := 24) hx hb dX10_piece_7 (by decide) (fun c_2 => ?_) (fun c_2 => ?_)
  · have c_2 := (nI_leI (a := (ln t)) (b := k9) (by omega) (by omega)).mp c_2
    refine lv_lconst (v := lN 0) hx hb dX10_piece_24 (by decide +kernel) ?_
    refine W.widen (k := 0) (n := 0) (by omega) (by omega) ?_
    exact W.lret (v := lN 0) hx hb hr (fun t9 ht9 hW9 => ⟨⟨lN 0, (), rfl, (by unfold pc9; rw [if_neg (by omega)]), by show va_P (dC, dI) vwCl _ t9.heap; rw [ht9]; exact hP⟩, hS.F ht9⟩) hS.2.2 dX10_piece_25
  · have c_2 := mt (nI_leI (a := (ln t)) (b := k9) (by omega) (by omega)).mpr c_2
    refine lv_aload_n hx hb dX10_piece_10 rfl (lv_at hl 0 rfl) ?_
    refine m_get (D := (dC, dI)) (v := .ref (ad 1)) (C := RX10) (T := TX10) (N := 29) hx hb hts bk0 hown hK hP 0 (by decide) r0 rfl 1 (by decide) (hts (.fieldLink RX10 8 "GradientDeskModel" "pieces" "[J") (List.mem_of_getElem? (i := 2) rfl)) (fun _ h9 => h9) rfl dX10_piece_11 ?_
    refine lv_bipush (v := nI 80) hx hb dX10_piece_14 (by decide +kernel) ?_
    refine lv_iload_n hx hb dX10_piece_16 rfl (lv_at hl 1 rfl) ?_
    refine lv_imul hx hb dX10_piece_17 ?_
    refine lv_topi (fun x_3 e_4 => ?_)
    obtain rfl : x_3 = nI (80 * t) := e_4.trans (pk_mul 80 t)
    refine lv_iload_n hx hb dX10_piece_18 rfl (lv_at hl 2 rfl) ?_
    refine lv_iadd hx hb dX10_piece_19 ?_
    refine lv_topi (fun x_5 e_6 => ?_)
    obtain rfl : x_5 = nI (80 * t + k9) := e_6.trans (nI_add (80 * t) k9)
    refine m_lald hx hb hK hP 1 (by decide) rfl r1 (i := 80 * t + k9) (by omega) (by decide) dX10_piece_20 ?_
    have b_7 := hpn (80 * t + k9)
    refine lv_goto (tgt := 25) hx hb dX10_piece_21 (by decide) ?_
    refine W.widen (k := 0) (n := 0) (by omega) (by omega) ?_
    exact W.lret (v := lN (pn (80 * t + k9))) hx hb hr (fun t9 ht9 hW9 => ⟨⟨lN (pn (80 * t + k9)), (), rfl, (by unfold pc9; rw [if_pos (by omega)]), by show va_P (dC, dI) vwCl _ t9.heap; rw [ht9]; exact hP⟩, hS.F ht9⟩) hS.2.2 dX10_piece_25
def wd_X10_compareSizes : List Cond := .code yX10_compareSizes cX10_compareSizes 5 (some .int) :: (([.methodLink RX10 87 yX10_piece, .instanceMethod yX10_piece, .selects RX10 yX10_piece yX10_piece, .initialized RX10, .fieldLink RX10 14 "GradientDeskModel" "length" "[I"] : List Cond) ++ (wd_X10_piece ++ (u_ws RX10 TX10 29 ++ ([]))))
theorem gw_X10_compareSizes : wd_X10_compareSizes.all goodWord = true := k_allc rfl (k_all (by decide +kernel) (k_all (gw_X10_piece) (k_all (gu_X10) (rfl))))
set_option maxHeartbeats 4000000 in
set_option maxRecDepth 100000 in
theorem c_X10_compareSizes (l : Launch) (dC : Nat → ClassId) (dI : Nat → Nat → Nat) (A : Nat → Prop) (ad : Nat → Nat) (cA : Nat → ClassId) (g : Nat → va_E) (x : Nat → Int32) (vf : Nat → Int) (a : Nat) (b : Nat) (hV : RV ad cA g x vf) (ia : a < 2066) (ib : b < 2066) : Met l yX10_compareSizes wd_X10_compareSizes ({ frames := 20, cells := 0, slots := 0, locals := 400 }) (va_Pc [.ref (ad 0), .int (nI a), .int (nI b)] (PR NSr tyr dC dI A ad cA g)) (va_Qi (fun (r : Int32) => fun (u : Unit) => match u with | () => (r = -1 ∧ (vf a).natAbs < (vf b).natAbs) ∨ (r = nI 0 ∧ (vf a).natAbs = (vf b).natAbs) ∨ (r = nI 1 ∧ (vf b).natAbs < (vf a).natAbs)) (fun (u : Unit) (t : State) => va_P (dC, dI) vwCl (wo ad NSr g) t.heap) A) (0) (0) A := by
  refine Met.ofW (cc := cX10_compareSizes) (maxL := 5) (ret := (some .int)) (by decide) rfl ?_
  intro p e s m args below meth c s₁ B hml hv
  obtain ⟨rfl, hA, hP, hL⟩ := hv
  have hx := B.exec
  have hb := B.bytes
  have hr := B.returns
  have hts := atoms_spec (ws := wd_X10_compareSizes) B.pre
  have hown : s.vm.findClass RX10 = some m.cls := findClass_of_methodNamed B.named
  have hlocks := B.notSynchronized
  have hK := hL.1
  have hD : ∀ g, va_D A (wo ad NSr g) := fun g => wo_D hL.2.1 hL.2.2 g
  have hS : va_S A s.heap s.heap [] := va_S.rf
  have bk0 : ∀ w ∈ wd_X10_piece, w ∈ wd_X10_compareSizes := fun _ h => List.mem_cons_of_mem _ (List.mem_append_right _ (List.mem_append_left _ h))
  have bk1 : ∀ w ∈ u_ws RX10 TX10 29, w ∈ wd_X10_compareSizes := fun _ h => List.mem_cons_of_mem _ (List.mem_append_right _ (List.mem_append_right _ (List.mem_append_left _ h)))
  have hl := lv_entry ([.ref (ad 0), .int (nI a), .int (nI b)]) (n := 5) (Nat.le_of_ble_eq_true rfl)
  rw [lg_entry_eq]
  generalize (lg_sl ([.ref (ad 0), .int (nI a), .int (nI b)]) ++ List.replicate (5 - (lg_sl ([.ref (ad 0), .int (nI a), .int (nI b)])).length) Slot.unset).toArray = ls at hl ⊢
  have hl : lv_has ls 5 [(0, .ref (ad 0)), (1, .int (nI a)), (2, .int (nI b))] := hl
  obtain ⟨pn, ln, bn, ⟨r0, r1, r2, r3, hpn, hln, hbn⟩, hv⟩ := hV
  have hva := hv a ia
  have hvb := hv b ib
  have la := hva.1
  have lb := hvb.1
  have loop_1 : ∀ (n : Nat), (ln a ≤ n ∧ ln b ≤ n ∧ n ≤ 80) → ∀ (H : Heap) (locs : List Loc) (ls : Array Slot), va_P (dC, dI) vwCl (wo ad NSr g) H → va_S A s.heap H locs → lv_has ls 5 [(0, .ref (ad 0)), (1, .int (nI a)), (2, .int (nI b))] → W p l e (headSpec wd_X10_compareSizes ({ frames := 20, cells := 0, slots := 0, locals := 400 })).room s m ([.ref (ad 0), .int (nI a), .int (nI b)] : List Value).toArray below meth c H locs (0) (0) (MQ below (va_Qi (fun (r : Int32) => fun (u : Unit) => match u with | () => (r = -1 ∧ (vf a).natAbs < (vf b).natAbs) ∨ (r = nI 0 ∧ (vf a).natAbs = (vf b).natAbs) ∨ (r = nI 1 ∧ (vf b).natAbs < (vf a).natAbs)) (fun (u : Unit) (t : State) => va_P (dC, dI) vwCl (wo ad NSr g) t.heap) A) ([.ref (ad 0), .int (nI a), .int (nI b)] : List Value).toArray s (0) (0) A) (F0 m 30 ls [.int (nI n)]) := by
    intro n hn H locs ls hP hS hl
    refine lv_istore_n (lv' := [(3, .int (nI n)), (0, .ref (ad 0)), (1, .int (nI a)), (2, .int (nI b))]) hx hb dX10_compareSizes_30 rfl hl (by decide) rfl (fun ls hl => ?_)
    refine lv_iload_n hx hb dX10_compareSizes_31 rfl (lv_at hl 0 rfl) ?_
    refine lv_iconst (v := nI 1) hx hb dX10_compareSizes_32 (by decide +kernel) ?_
    refine lv_isub hx hb dX10_compareSizes_33 ?_
    refine lv_istore (lv' := [(4, .int (nI n - nI 1)), (3, .int (nI n)), (0, .ref (ad 0)), (1, .int (nI a)), (2, .int (nI b))]) hx hb dX10_compareSizes_34 hl (by decide) rfl (fun ls hl => ?_)
    have loop_5 : ∀ (k9 : Nat) (d : Nat), d < k9 → (d ≤ 80) → (∀ k, d ≤ k → dgt (vf a).natAbs k = dgt (vf b).natAbs k) → ∀ (H : Heap) (locs : List Loc) (ls : Array Slot), va_P (dC, dI) vwCl (wo ad NSr g) H → va_S A s.heap H locs → lv_has ls 5 [(0, .ref (ad 0)), (1, .int (nI a)), (2, .int (nI b)), (4, .int (nI d - nI 1))] → W p l e (headSpec wd_X10_compareSizes ({ frames := 20, cells := 0, slots := 0, locals := 400 })).room s m ([.ref (ad 0), .int (nI a), .int (nI b)] : List Value).toArray below meth c H locs (0) (0) (MQ below (va_Qi (fun (r : Int32) => fun (u : Unit) => match u with | () => (r = -1 ∧ (vf a).natAbs < (vf b).natAbs) ∨ (r = nI 0 ∧ (vf a).natAbs = (vf b).natAbs) ∨ (r = nI 1 ∧ (vf b).natAbs < (vf a).natAbs)) (fun (u : Unit) (t : State) => va_P (dC, dI) vwCl (wo ad NSr g) t.heap) A) ([.ref (ad 0), .int (nI a), .int (nI b)] : List Value).toArray s (0) (0) A) (F0 m 36 ls []) := by
      intro k9
      induction k9 with
      | zero => intro d h9; exact absurd h9 (Nat.not_lt_zero _)
      | succ k9 ih_6 =>
        intro d h9 hd hq H locs ls hP hS hl
        refine lv_iload hx hb dX10_compareSizes_36 (lv_at hl 3 rfl) ?_
        refine lv_if_lt (tgt := 89) hx hb dX10_compareSizes_38 (by decide) (fun c_9 => ?_) (fun c_9 => ?_)
        · have c_9 := (k_m1lt (d := d) (by omega)).mp c_9
          refine lv_iconst (v := nI 0) hx hb dX10_compareSizes_89 (by decide +kernel) ?_
          refine W.widen (k := 0) (n := 0) (by omega) (by omega) ?_
          exact W.iret (v := nI 0) hx hb hr (fun t9 ht9 hW9 => ⟨⟨nI 0, (), rfl, Or.inr (Or.inl ⟨rfl, dgt_ext hva.lt80 hvb.lt80 (fun k _ => hq k (by omega))⟩), by show va_P (dC, dI) vwCl _ t9.heap; rw [ht9]; exact hP⟩, hS.F ht9⟩) hS.2.2 dX10_compareSizes_90
        · have c_9 := mt (k_m1lt (d := d) (by omega)).mpr c_9
          have e_10 : nI d - nI 1 = nI (d - 1) := pk_sub (by omega)
          rw [e_10] at hl
          refine lv_aload_n hx hb dX10_compareSizes_41 rfl (lv_at hl 0 rfl) ?_
          refine lv_iload_n hx hb dX10_compareSizes_42 rfl (lv_at hl 1 rfl) ?_
          refine lv_iload hx hb dX10_compareSizes_43 (lv_at hl 3 rfl) ?_
          have hR_11 : RN ad cA g x pn ln bn := ⟨r0, r1, r2, r3, hpn, hln, hbn⟩
          refine va_calll (va_runV (As := [.int (nI a), .int (nI (d - 1))]) (rest := []) ⟨hx, hb, hml, hown, hts⟩ (c_X10_piece l dC dI A ad cA g x pn ln bn a (d - 1) hR_11 (by omega) la (by omega)) (cwV 2 hts (goodIn_app (goodIn_r [Cond.methodLink RX10 87 yX10_piece, Cond.instanceMethod yX10_piece, Cond.selects RX10 yX10_piece yX10_piece, Cond.initialized RX10] [1, 2, 3, 4] rfl rfl) (goodIn_sub (fun w9 h9 => bk0 w9 h9) gw_X10_piece)) rfl rfl rfl (by decide +kernel) ⟨Nat.le_of_ble_eq_true rfl, Nat.le_of_ble_eq_true rfl⟩) ⟨fun a U g mk q => ⟨q.1, q.2.1, q.2.2.1, LY.moved (u := U) (U := U.calling g mk a) (Vm.Alike.refl U.vm) q.2.2.2⟩, va_recv hK hP (ci := 13) (q0 := 0) rfl (wo_at (by decide) r0), fun U hU hW => ⟨rfl, by rw [hU]; exact fun q h => hA q (Nat.le_trans hS.1 h), by rw [hU]; exact hP, LY.moved hW.alike hL⟩⟩ rfl rfl hl.1 rfl (lv_room (Nat.le_of_ble_eq_true rfl)) dX10_compareSizes_45 ⟨(Nat.le_of_ble_eq_true rfl), (Nat.le_of_ble_eq_true rfl)⟩) hS (fun q _ h => h) (fun q h => h) (fun r_12 u8 t8 H1 locs ht8 hvm8 hw_13 hB hz1 hk1 hS => ?_)
          obtain ⟨⟩ := u8
          try dsimp only at hw_13 hB
          rw [ht8] at hB
          have hP := hB
          generalize H1 = H at hP hS ⊢
          obtain rfl := hw_13
          rw [show pc9 pn ln a (d - 1) = dgt (vf a).natAbs (d - 1) from (hva).pc (d - 1)]
          obtain ⟨n_14, hn_14⟩ : ∃ z, z = dgt (vf a).natAbs (d - 1) := ⟨_, rfl⟩
          rw [← hn_14]
          have bn_14 : n_14 < 4294967296 := by rw [hn_14]; exact dgt_lt _ _
          refine lv_aload_n hx hb dX10_compareSizes_48 rfl (lv_at hl 0 rfl) ?_
          refine lv_iload_n hx hb dX10_compareSizes_49 rfl (lv_at hl 2 rfl) ?_
          refine lv_iload hx hb dX10_compareSizes_50 (lv_at hl 3 rfl) ?_
          have hR_15 : RN ad cA g x pn ln bn := ⟨r0, r1, r2, r3, hpn, hln, hbn⟩
          refine va_calll (va_runV (As := [.int (nI b), .int (nI (d - 1))]) (rest := [.long (lN n_14)]) ⟨hx, hb, hml, hown, hts⟩ (c_X10_piece l dC dI A ad cA g x pn ln bn b (d - 1) hR_15 (by omega) lb (by omega)) (cwV 2 hts (goodIn_app (goodIn_r [Cond.methodLink RX10 87 yX10_piece, Cond.instanceMethod yX10_piece, Cond.selects RX10 yX10_piece yX10_piece, Cond.initialized RX10] [1, 2, 3, 4] rfl rfl) (goodIn_sub (fun w9 h9 => bk0 w9 h9) gw_X10_piece)) rfl rfl rfl (by decide +kernel) ⟨Nat.le_of_ble_eq_true rfl, Nat.le_of_ble_eq_true rfl⟩) ⟨fun a U g mk q => ⟨q.1, q.2.1, q.2.2.1, LY.moved (u := U) (U := U.calling g mk a) (Vm.Alike.refl U.vm) q.2.2.2⟩, va_recv hK hP (ci := 13) (q0 := 0) rfl (wo_at (by decide) r0), fun U hU hW => ⟨rfl, by rw [hU]; exact fun q h => hA q (Nat.le_trans hS.1 h), by rw [hU]; exact hP, LY.moved hW.alike hL⟩⟩ rfl rfl hl.1 rfl (lv_room (Nat.le_of_ble_eq_true rfl)) dX10_compareSizes_52 ⟨(Nat.le_of_ble_eq_true rfl), (Nat.le_of_ble_eq_true rfl)⟩) hS (fun q _ h => h) (fun q h => h) (fun r_16 u8 t8 H1 locs ht8 hvm8 hw_17 hB hz1 hk1 hS => ?_)
          obtain ⟨⟩ := u8
          try dsimp only at hw_17 hB
          rw [ht8] at hB
          have hP := hB
          generalize H1 = H at hP hS ⊢
          obtain rfl := hw_17
          rw [show pc9 pn ln b (d - 1) = dgt (vf b).natAbs (d - 1) from (hvb).pc (d - 1)]
          obtain ⟨n_18, hn_18⟩ : ∃ z, z = dgt (vf b).natAbs (d - 1) := ⟨_, rfl⟩
          rw [← hn_18]
          have bn_18 : n_18 < 4294967296 := by rw [hn_18]; exact dgt_lt _ _
          refine W.lcmp hx hb dX10_compareSizes_55 ?_
          refine lv_if_eq (tgt := 83) hx hb dX10_compareSizes_56 (by decide) (fun c_19 => ?_) (fun c_19 => ?_)
          · have c_19 := (pk_lEQ (a := n_14) (b := n_18) (by omega) (by omega)).mp ((k_cmp_eq (lN n_14) (lN n_18)).mp c_19)
            refine lv_iinc (v := nI (d - 1) - nI 1) (lv' := [(4, .int (nI (d - 1) - nI 1)), (0, .ref (ad 0)), (1, .int (nI a)), (2, .int (nI b))]) hx hb dX10_compareSizes_83 hl (k := 3) rfl ((show nI (d - 1) + Int32.ofInt (-1) = nI (d - 1) - nI 1 from by rw [show Int32.ofInt (-1) = -nI 1 from by decide, ← Int32.sub_eq_add_neg])) (by decide) rfl (fun ls hl => ?_)
            refine lv_goto (tgt := 36) hx hb dX10_compareSizes_86 (by decide) ?_
            exact ih_6 (d - 1) (by omega) (by omega) (fun k hk => by by_cases h9 : d ≤ k; exact hq k h9; obtain rfl : k = d - 1 := (by omega); rw [← hn_14, ← hn_18]; exact c_19) _ _ _ hP hS (lv_sub (l' := [(0, .ref (ad 0)), (1, .int (nI a)), (2, .int (nI b)), (4, .int (nI (d - 1) - nI 1))]) hl [1, 2, 3, 0] rfl)
          · have c_19 := mt (pk_lEQ (a := n_14) (b := n_18) (by omega) (by omega)).mpr (mt (k_cmp_eq (lN n_14) (lN n_18)).mpr c_19)
            refine lv_aload_n hx hb dX10_compareSizes_59 rfl (lv_at hl 0 rfl) ?_
            refine lv_iload_n hx hb dX10_compareSizes_60 rfl (lv_at hl 1 rfl) ?_
            refine lv_iload hx hb dX10_compareSizes_61 (lv_at hl 3 rfl) ?_
            have hR_22 : RN ad cA g x pn ln bn := ⟨r0, r1, r2, r3, hpn, hln, hbn⟩
            refine va_calll (va_runV (As := [.int (nI a), .int (nI (d - 1))]) (rest := []) ⟨hx, hb, hml, hown, hts⟩ (c_X10_piece l dC dI A ad cA g x pn ln bn a (d - 1) hR_22 (by omega) la (by omega)) (cwV 2 hts (goodIn_app (goodIn_r [Cond.methodLink RX10 87 yX10_piece, Cond.instanceMethod yX10_piece, Cond.selects RX10 yX10_piece yX10_piece, Cond.initialized RX10] [1, 2, 3, 4] rfl rfl) (goodIn_sub (fun w9 h9 => bk0 w9 h9) gw_X10_piece)) rfl rfl rfl (by decide +kernel) ⟨Nat.le_of_ble_eq_true rfl, Nat.le_of_ble_eq_true rfl⟩) ⟨fun a U g mk q => ⟨q.1, q.2.1, q.2.2.1, LY.moved (u := U) (U := U.calling g mk a) (Vm.Alike.refl U.vm) q.2.2.2⟩, va_recv hK hP (ci := 13) (q0 := 0) rfl (wo_at (by decide) r0), fun U hU hW => ⟨rfl, by rw [hU]; exact fun q h => hA q (Nat.le_trans hS.1 h), by rw [hU]; exact hP, LY.moved hW.alike hL⟩⟩ rfl rfl hl.1 rfl (lv_room (Nat.le_of_ble_eq_true rfl)) dX10_compareSizes_63 ⟨(Nat.le_of_ble_eq_true rfl), (Nat.le_of_ble_eq_true rfl)⟩) hS (fun q _ h => h) (fun q h => h) (fun r_23 u8 t8 H1 locs ht8 hvm8 hw_24 hB hz1 hk1 hS => ?_)
            obtain ⟨⟩ := u8
            try dsimp only at hw_24 hB
            rw [ht8] at hB
            have hP := hB
            generalize H1 = H at hP hS ⊢
            obtain rfl := hw_24
            rw [show pc9 pn ln a (d - 1) = dgt (vf a).natAbs (d - 1) from (hva).pc (d - 1)]
            obtain ⟨n_25, hn_25⟩ : ∃ z, z = dgt (vf a).natAbs (d - 1) := ⟨_, rfl⟩
            rw [← hn_25]
            have bn_25 : n_25 < 4294967296 := by rw [hn_25]; exact dgt_lt _ _
            refine lv_aload_n hx hb dX10_compareSizes_66 rfl (lv_at hl 0 rfl) ?_
            refine lv_iload_n hx hb dX10_compareSizes_67 rfl (lv_at hl 2 rfl) ?_
            refine lv_iload hx hb dX10_compareSizes_68 (lv_at hl 3 rfl) ?_
            have hR_26 : RN ad cA g x pn ln bn := ⟨r0, r1, r2, r3, hpn, hln, hbn⟩
            refine va_calll (va_runV (As := [.int (nI b), .int (nI (d - 1))]) (rest := [.long (lN n_25)]) ⟨hx, hb, hml, hown, hts⟩ (c_X10_piece l dC dI A ad cA g x pn ln bn b (d - 1) hR_26 (by omega) lb (by omega)) (cwV 2 hts (goodIn_app (goodIn_r [Cond.methodLink RX10 87 yX10_piece, Cond.instanceMethod yX10_piece, Cond.selects RX10 yX10_piece yX10_piece, Cond.initialized RX10] [1, 2, 3, 4] rfl rfl) (goodIn_sub (fun w9 h9 => bk0 w9 h9) gw_X10_piece)) rfl rfl rfl (by decide +kernel) ⟨Nat.le_of_ble_eq_true rfl, Nat.le_of_ble_eq_true rfl⟩) ⟨fun a U g mk q => ⟨q.1, q.2.1, q.2.2.1, LY.moved (u := U) (U := U.calling g mk a) (Vm.Alike.refl U.vm) q.2.2.2⟩, va_recv hK hP (ci := 13) (q0 := 0) rfl (wo_at (by decide) r0), fun U hU hW => ⟨rfl, by rw [hU]; exact fun q h => hA q (Nat.le_trans hS.1 h), by rw [hU]; exact hP, LY.moved hW.alike hL⟩⟩ rfl rfl hl.1 rfl (lv_room (Nat.le_of_ble_eq_true rfl)) dX10_compareSizes_70 ⟨(Nat.le_of_ble_eq_true rfl), (Nat.le_of_ble_eq_true rfl)⟩) hS (fun q _ h => h) (fun q h => h) (fun r_27 u8 t8 H1 locs ht8 hvm8 hw_28 hB hz1 hk1 hS => ?_)
            obtain ⟨⟩ := u8
            try dsimp only at hw_28 hB
            rw [ht8] at hB
            have hP := hB
            generalize H1 = H at hP hS ⊢
            obtain rfl := hw_28
            rw [show pc9 pn ln b (d - 1) = dgt (vf b).natAbs (d - 1) from (hvb).pc (d - 1)]
            obtain ⟨n_29, hn_29⟩ : ∃ z, z = dgt (vf b).natAbs (d - 1) := ⟨_, rfl⟩
            rw [← hn_29]
            have bn_29 : n_29 < 4294967296 := by rw [hn_29]; exact dgt_lt _ _
            have q9 : n_14 = n_25 ∧ n_18 = n_29 := ⟨by rw [hn_14, hn_25], by rw [hn_18, hn_29]⟩
            refine W.lcmp hx hb dX10_compareSizes_73 ?_
            refine lv_if_ge (tgt := 81) hx hb dX10_compareSizes_74 (by decide) (fun c_30 => ?_) (fun c_30 => ?_)
            · have c_30 := (pk_lLE (a := n_29) (b := n_25) (by omega) (by omega)).mp ((k_cmp_ge (lN n_25) (lN n_29)).mp c_30)
              refine lv_iconst (v := nI 1) hx hb dX10_compareSizes_81 (by decide +kernel) ?_
              refine W.widen (k := 0) (n := 0) (by omega) (by omega) ?_
              exact W.iret (v := nI 1) hx hb hr (fun t9 ht9 hW9 => ⟨⟨nI 1, (), rfl, Or.inr (Or.inr ⟨rfl, dgt_cmp hvb.lt80 hva.lt80 (k := d - 1) (by omega) (fun j h1 _ => (hq j (by omega)).symm) (by rw [← hn_29, ← hn_25] ; omega)⟩), by show va_P (dC, dI) vwCl _ t9.heap; rw [ht9]; exact hP⟩, hS.F ht9⟩) hS.2.2 dX10_compareSizes_82
            · have c_30 := mt (pk_lLE (a := n_29) (b := n_25) (by omega) (by omega)).mpr (mt (k_cmp_ge (lN n_25) (lN n_29)).mpr c_30)
              refine lv_iconst (v := -1) hx hb dX10_compareSizes_77 (by decide +kernel) ?_
              refine lv_goto (tgt := 82) hx hb dX10_compareSizes_78 (by decide) ?_
              refine W.widen (k := 0) (n := 0) (by omega) (by omega) ?_
              exact W.iret (v := -1) hx hb hr (fun t9 ht9 hW9 => ⟨⟨-1, (), rfl, Or.inl ⟨rfl, dgt_cmp hva.lt80 hvb.lt80 (k := d - 1) (by omega) (fun j h1 _ => hq j (by omega)) (by rw [← hn_25, ← hn_29]; omega)⟩, by show va_P (dC, dI) vwCl _ t9.heap; rw [ht9]; exact hP⟩, hS.F ht9⟩) hS.2.2 dX10_compareSizes_82
    exact loop_5 _ n (Nat.lt_succ_self _) (by omega) (fun k hk => by rw [hva.dg0 (by omega), hvb.dg0 (by omega)]) _ _ _ hP hS (lv_sub (l' := [(0, .ref (ad 0)), (1, .int (nI a)), (2, .int (nI b)), (4, .int (nI n - nI 1))]) hl [2, 3, 4, 0] rfl)
  refine lv_aload_n hx hb dX10_compareSizes_0 rfl (lv_at hl 0 rfl) ?_
  refine m_get (D := (dC, dI)) (v := .ref (ad 2)) (C := RX10) (T := TX10) (N := 29) hx hb hts bk1 hown hK hP 0 (by decide) r0 rfl 2 (by decide) (hts (.fieldLink RX10 14 "GradientDeskModel" "length" "[I") (List.mem_of_getElem? (i := 5) rfl)) (fun _ h9 => h9) rfl dX10_compareSizes_1 ?_
  refine lv_iload_n hx hb dX10_compareSizes_4 rfl (lv_at hl 1 rfl) ?_
  refine m_iald hx hb hK hP 2 (by decide) rfl r2 (i := a) (by omega) (by decide) dX10_compareSizes_5 ?_
  have b_31 := hln a
  refine lv_aload_n hx hb dX10_compareSizes_6 rfl (lv_at hl 0 rfl) ?_
  refine m_get (D := (dC, dI)) (v := .ref (ad 2)) (C := RX10) (T := TX10) (N := 29) hx hb hts bk1 hown hK hP 0 (by decide) r0 rfl 2 (by decide) (hts (.fieldLink RX10 14 "GradientDeskModel" "length" "[I") (List.mem_of_getElem? (i := 5) rfl)) (fun _ h9 => h9) rfl dX10_compareSizes_7 ?_
  refine lv_iload_n hx hb dX10_compareSizes_10 rfl (lv_at hl 2 rfl) ?_
  refine m_iald hx hb hK hP 2 (by decide) rfl r2 (i := b) (by omega) (by decide) dX10_compareSizes_11 ?_
  have b_32 := hln b
  refine lv_icmp_le (tgt := 24) hx hb dX10_compareSizes_12 (by decide) (fun c_33 => ?_) (fun c_33 => ?_)
  · have c_33 := (nI_leI (a := (ln a)) (b := (ln b)) (by omega) (by omega)).mp c_33
    refine lv_aload_n hx hb dX10_compareSizes_24 rfl (lv_at hl 0 rfl) ?_
    refine m_get (D := (dC, dI)) (v := .ref (ad 2)) (C := RX10) (T := TX10) (N := 29) hx hb hts bk1 hown hK hP 0 (by decide) r0 rfl 2 (by decide) (hts (.fieldLink RX10 14 "GradientDeskModel" "length" "[I") (List.mem_of_getElem? (i := 5) rfl)) (fun _ h9 => h9) rfl dX10_compareSizes_25 ?_
    refine lv_iload_n hx hb dX10_compareSizes_28 rfl (lv_at hl 2 rfl) ?_
    refine m_iald hx hb hK hP 2 (by decide) rfl r2 (i := b) (by omega) (by decide) dX10_compareSizes_29 ?_
    have b_34 := hln b
    exact loop_1 (ln b) (by omega) _ _ _ hP hS (lv_sub (l' := [(0, .ref (ad 0)), (1, .int (nI a)), (2, .int (nI b))]) hl [0, 1, 2] rfl)
  · have c_33 := mt (nI_leI (a := (ln a)) (b := (ln b)) (by omega) (by omega)).mpr c_33
    refine lv_aload_n hx hb dX10_compareSizes_15 rfl (lv_at hl 0 rfl) ?_
    refine m_get (D := (dC, dI)) (v := .ref (ad 2)) (C := RX10) (T := TX10) (N := 29) hx hb hts bk1 hown hK hP 0 (by decide) r0 rfl 2 (by decide) (hts (.fieldLink RX10 14 "GradientDeskModel" "length" "[I") (List.mem_of_getElem? (i := 5) rfl)) (fun _ h9 => h9) rfl dX10_compareSizes_16 ?_
    refine lv_iload_n hx hb dX10_compareSizes_19 rfl (lv_at hl 1 rfl) ?_
    refine m_iald hx hb hK hP 2 (by decide) rfl r2 (i := a) (by omega) (by decide) dX10_compareSizes_20 ?_
    have b_35 := hln a
    refine lv_goto (tgt := 30) hx hb dX10_compareSizes_21 (by decide) ?_
    exact loop_1 (ln a) (by omega) _ _ _ hP hS (lv_sub (l' := [(0, .ref (ad 0)), (1, .int (nI a)), (2, .int (nI b))]) hl [0, 1, 2] rfl)
end
