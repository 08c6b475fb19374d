def wd_V6_isZero : List Cond := .code yX6_isZero cX6_isZero 1 (some .boolean) :: (([.fieldLink RX6 64 "GradientDesk$Part" "sort" "I", .fieldLink RX6 68 "GradientDesk$Part" "number" "LGradientDesk$Fraction;", .methodLink RX6 128 yX2_isZero, .instanceMethod yX2_isZero, .selects RX2 yX2_isZero yX2_isZero, .initialized RX2] : List Cond) ++ (u_ws RX3 TX3 7 ++ (wd_V2_isZero ++ ([]))))
theorem gw_V6_isZero : wd_V6_isZero.all goodWord = true := k_allc rfl (k_all (by decide +kernel) (k_all (gu_X3) (k_all (gw_V2_isZero) (rfl))))
set_option maxHeartbeats 4000000 in
set_option maxRecDepth 100000 in
theorem c_V6_isZero (l : Launch) (dC : Nat → ClassId) (dI : Nat → Nat → Nat) (A : Nat → Prop) (ad : Nat → Nat) (cA : Nat → ClassId) (g : Nat → va_E) (L : List PD) (i : Nat) (hC : CS ad cA g L) (hWf : WFL L) (hi : i < L.length) : Met l yX6_isZero wd_V6_isZero ({ frames := 30, cells := 0, slots := 0, locals := 600 }) (va_Pc [.ref (ad (2117 + 2 * i))] (PR NSc tyc dC dI A ad cA g)) (va_Qi (fun (r : Int32) => fun (u : Unit) => match u with | () => (r = nI 1 ∧ isN (gd L i) 0 = true) ∨ (r = nI 0 ∧ isN (gd L i) 0 = false)) (fun (u : Unit) (t : State) => va_P (dC, dI) vwCl (wo ad NSc g) t.heap) A) (0) (0) A := by
  refine Met.ofW (cc := cX6_isZero) (maxL := 1) (ret := (some .boolean)) (by decide) rfl ?_
  intro p e s m args below meth c s₁ B hml hv
  obtain ⟨rfl, hA, hP, hL⟩ := hv
  have hx := B.exec
  have hb := B.bytes
  have hr := B.returns
  have hts := atoms_spec (ws := wd_V6_isZero) B.pre
  have hown : s.vm.findClass RX6 = some m.cls := findClass_of_methodNamed B.named
  have hlocks := B.notSynchronized
  have hK := hL.1
  have hD : ∀ g, va_D A (wo ad NSc g) := fun g => wo_D hL.2.1 hL.2.2 g
  have hS : va_S A s.heap s.heap [] := va_S.rf
  have bk0 : ∀ w ∈ u_ws RX3 TX3 7, w ∈ wd_V6_isZero := fun _ h => List.mem_cons_of_mem _ (List.mem_append_right _ (List.mem_append_left _ h))
  have bk1 : ∀ w ∈ wd_V2_isZero, w ∈ wd_V6_isZero := fun _ h => List.mem_cons_of_mem _ (List.mem_append_right _ (List.mem_append_right _ (List.mem_append_left _ h)))
  have hl := lv_entry ([.ref (ad (2117 + 2 * i))]) (n := 1) (Nat.le_of_ble_eq_true rfl)
  rw [lg_entry_eq]
  generalize (lg_sl ([.ref (ad (2117 + 2 * i))]) ++ List.replicate (1 - (lg_sl ([.ref (ad (2117 + 2 * i))])).length) Slot.unset).toArray = ls at hl ⊢
  have hl : lv_has ls 1 [(0, .ref (ad (2117 + 2 * i)))] := hl
  have hC0 := hC
  obtain ⟨hLn, hW, ⟨hAr, hWk, hPa, hFr⟩, hO, pt, hPt, hM⟩ := hC0
  unfold CSO at hO
  have hpb := hPt.2
  obtain ⟨m0, m1, m2, m3, m4, m5, m6⟩ := hM i hi
  have hp0 := hpb 0 i
  refine lv_aload_n hx hb dX6_isZero_0 rfl (lv_at hl 0 rfl) ?_
  have hp_1 := hPt.1 i (by omega)
  refine m_get (D := (dC, dI)) (v := .int (iI (pt 0 i))) (C := RX3) (T := TX3) (N := 7) hx hb hts bk0 hown hK hP (2117 + 2 * i) (ns_p (by omega)) hp_1 rfl 1 (by decide) (hts (.fieldLink RX6 64 "GradientDesk$Part" "sort" "I") (List.mem_of_getElem? (i := 1) rfl)) (fun _ h9 => h9) rfl dX6_isZero_1 ?_
  refine lv_if_ne (tgt := 21) hx hb dX6_isZero_4 (by decide) (fun c_2 => ?_) (fun c_2 => ?_)
  · have c_2 := mt (k_iEQ (a := pt 0 i) (b := 0) rfl (show nI 0 = iI 0 from by decide) (by omega) (by omega)).mpr c_2
    refine lv_iconst (v := nI 0) hx hb dX6_isZero_21 (by decide +kernel) ?_
    refine W.widen (k := 0) (n := 0) (by omega) (by omega) ?_
    exact W.zret (v := nI 0) hx hb hr (by decide +kernel) (fun t9 ht9 hW9 => ⟨⟨nI 0, (), rfl, Or.inr ⟨rfl, isN_f (fun h9 => by have h8 := h9.1; clear m6; omega)⟩, by show va_P (dC, dI) vwCl _ t9.heap; rw [ht9]; exact hP⟩, hS.F ht9⟩) hS.2.2 dX6_isZero_22
  · have c_2 := (k_iEQ (a := pt 0 i) (b := 0) rfl (show nI 0 = iI 0 from by decide) (by omega) (by omega)).mp c_2
    refine lv_aload_n hx hb dX6_isZero_7 rfl (lv_at hl 0 rfl) ?_
    refine m_get (D := (dC, dI)) (v := .ref (ad (2118 + 2 * i))) (C := RX3) (T := TX3) (N := 7) hx hb hts bk0 hown hK hP (2117 + 2 * i) (ns_p (by omega)) hp_1 rfl 0 (by decide) (hts (.fieldLink RX6 68 "GradientDesk$Part" "number" "LGradientDesk$Fraction;") (List.mem_of_getElem? (i := 2) rfl)) (fun _ h9 => h9) rfl dX6_isZero_8 ?_
    have hnum : (gd L i).1 = 0 := by clear m6; omega
    obtain ⟨n1, n2, n3, n4⟩ := m6 hnum
    obtain ⟨b1, b2, b3, b4⟩ := num13 hWf hi hnum
    have hq_3 := hFr i (by omega)
    refine va_calli (va_runV (As := []) (rest := []) ⟨hx, hb, hml, hown, hts⟩ (c_V2_isZero l dC dI A ad cA g (2118 + 2 * i) (38 + 2 * i) (39 + 2 * i) ((gd L i).2.2.2.2.2.2.1) (((gd L i).2.2.2.2.2.2.2 : Nat) : Int) hW hq_3 (⟨ns_q (by omega), by omega⟩) (by omega) n1 n2) (cwV 0 hts (goodIn_app (goodIn_r [Cond.methodLink RX6 128 yX2_isZero, Cond.instanceMethod yX2_isZero, Cond.selects RX2 yX2_isZero yX2_isZero, Cond.initialized RX2] [3, 4, 5, 6] rfl rfl) (goodIn_sub (fun w9 h9 => bk1 w9 h9) gw_V2_isZero)) rfl rfl rfl (by decide +kernel) ⟨Nat.le_of_ble_eq_true rfl, Nat.le_of_ble_eq_true rfl⟩) ⟨fun a U g mk q => ⟨q.1, q.2.1, q.2.2.1, LY.moved (u := U) (U := U.calling g mk a) (Vm.Alike.refl U.vm) q.2.2.2⟩, va_recv hK hP (ci := 5) (q0 := (2118 + 2 * i)) rfl (wo_at (ns_q (by omega)) hq_3), fun U hU hW => ⟨rfl, by rw [hU]; exact fun q h => hA q (Nat.le_trans hS.1 h), by rw [hU]; exact hP, LY.moved hW.alike hL⟩⟩ rfl rfl hl.1 rfl (lv_room (Nat.le_of_ble_eq_true rfl)) dX6_isZero_11 ⟨(Nat.le_of_ble_eq_true rfl), (Nat.le_of_ble_eq_true rfl)⟩) hS (fun q _ h => h) (fun q h => h) (fun r_4 u8 t8 H1 locs ht8 hvm8 hw_5 hB hz1 hk1 hS => ?_)
    obtain ⟨⟩ := u8
    try dsimp only at hw_5 hB
    rw [ht8] at hB
    have hP := hB
    generalize H1 = H at hP hS ⊢
    rcases hw_5 with ⟨rfl, his⟩ | ⟨rfl, his⟩
    · skip
      refine lv_if_eq (tgt := 21) hx hb dX6_isZero_14 (by decide) (fun c_6 => absurd c_6 (by decide)) (fun c_6 => ?_)
      refine lv_iconst (v := nI 1) hx hb dX6_isZero_17 (by decide +kernel) ?_
      refine lv_goto (tgt := 22) hx hb dX6_isZero_18 (by decide) ?_
      refine W.widen (k := 0) (n := 0) (by omega) (by omega) ?_
      exact W.zret (v := nI 1) hx hb hr (by decide +kernel) (fun t9 ht9 hW9 => ⟨⟨nI 1, (), rfl, Or.inl ⟨rfl, isN_t hnum his (b4 his)⟩, by show va_P (dC, dI) vwCl _ t9.heap; rw [ht9]; exact hP⟩, hS.F ht9⟩) hS.2.2 dX6_isZero_22
    · skip
      refine lv_if_eq (tgt := 21) hx hb dX6_isZero_14 (by decide) (fun c_7 => ?_) (fun c_7 => absurd c_7 (by decide))
      refine lv_iconst (v := nI 0) hx hb dX6_isZero_21 (by decide +kernel) ?_
      refine W.widen (k := 0) (n := 0) (by omega) (by omega) ?_
      exact W.zret (v := nI 0) hx hb hr (by decide +kernel) (fun t9 ht9 hW9 => ⟨⟨nI 0, (), rfl, Or.inr ⟨rfl, isN_f (fun h9 => his h9.2.1)⟩, by show va_P (dC, dI) vwCl _ t9.heap; rw [ht9]; exact hP⟩, hS.F ht9⟩) hS.2.2 dX6_isZero_22
def wd_V6_isUnit : List Cond := .code yX6_isUnit cX6_isUnit 1 (some .boolean) :: (([.fieldLink RX6 64 "GradientDesk$Part" "sort" "I", .fieldLink RX6 68 "GradientDesk$Part" "number" "LGradientDesk$Fraction;", .methodLink RX6 131 yX2_isOne, .instanceMethod yX2_isOne, .selects RX2 yX2_isOne yX2_isOne, .initialized RX2] : List Cond) ++ (u_ws RX3 TX3 7 ++ (wd_V2_isOne ++ ([]))))
theorem gw_V6_isUnit : wd_V6_isUnit.all goodWord = true := k_allc rfl (k_all (by decide +kernel) (k_all (gu_X3) (k_all (gw_V2_isOne) (rfl))))
set_option maxHeartbeats 4000000 in
set_option maxRecDepth 100000 in
theorem c_V6_isUnit (l : Launch) (dC : Nat → ClassId) (dI : Nat → Nat → Nat) (A : Nat → Prop) (ad : Nat → Nat) (cA : Nat → ClassId) (g : Nat → va_E) (L : List PD) (i : Nat) (hC : CS ad cA g L) (hWf : WFL L) (hi : i < L.length) : Met l yX6_isUnit wd_V6_isUnit ({ frames := 30, cells := 0, slots := 0, locals := 600 }) (va_Pc [.ref (ad (2117 + 2 * i))] (PR NSc tyc dC dI A ad cA g)) (va_Qi (fun (r : Int32) => fun (u : Unit) => match u with | () => (r = nI 1 ∧ isN (gd L i) 1 = true) ∨ (r = nI 0 ∧ isN (gd L i) 1 = false)) (fun (u : Unit) (t : State) => va_P (dC, dI) vwCl (wo ad NSc g) t.heap) A) (0) (0) A := by
  refine Met.ofW (cc := cX6_isUnit) (maxL := 1) (ret := (some .boolean)) (by decide) rfl ?_
  intro p e s m args below meth c s₁ B hml hv
  obtain ⟨rfl, hA, hP, hL⟩ := hv
  have hx := B.exec
  have hb := B.bytes
  have hr := B.returns
  have hts := atoms_spec (ws := wd_V6_isUnit) B.pre
  have hown : s.vm.findClass RX6 = some m.cls := findClass_of_methodNamed B.named
  have hlocks := B.notSynchronized
  have hK := hL.1
  have hD : ∀ g, va_D A (wo ad NSc g) := fun g => wo_D hL.2.1 hL.2.2 g
  have hS : va_S A s.heap s.heap [] := va_S.rf
  have bk0 : ∀ w ∈ u_ws RX3 TX3 7, w ∈ wd_V6_isUnit := fun _ h => List.mem_cons_of_mem _ (List.mem_append_right _ (List.mem_append_left _ h))
  have bk1 : ∀ w ∈ wd_V2_isOne, w ∈ wd_V6_isUnit := fun _ h => List.mem_cons_of_mem _ (List.mem_append_right _ (List.mem_append_right _ (List.mem_append_left _ h)))
  have hl := lv_entry ([.ref (ad (2117 + 2 * i))]) (n := 1) (Nat.le_of_ble_eq_true rfl)
  rw [lg_entry_eq]
  generalize (lg_sl ([.ref (ad (2117 + 2 * i))]) ++ List.replicate (1 - (lg_sl ([.ref (ad (2117 + 2 * i))])).length) Slot.unset).toArray = ls at hl ⊢
  have hl : lv_has ls 1 [(0, .ref (ad (2117 + 2 * i)))] := hl
  have hC0 := hC
  obtain ⟨hLn, hW, ⟨hAr, hWk, hPa, hFr⟩, hO, pt, hPt, hM⟩ := hC0
  unfold CSO at hO
  have hpb := hPt.2
  obtain ⟨m0, m1, m2, m3, m4, m5, m6⟩ := hM i hi
  have hp0 := hpb 0 i
  refine lv_aload_n hx hb dX6_isUnit_0 rfl (lv_at hl 0 rfl) ?_
  have hp_1 := hPt.1 i (by omega)
  refine m_get (D := (dC, dI)) (v := .int (iI (pt 0 i))) (C := RX3) (T := TX3) (N := 7) hx hb hts bk0 hown hK hP (2117 + 2 * i) (ns_p (by omega)) hp_1 rfl 1 (by decide) (hts (.fieldLink RX6 64 "GradientDesk$Part" "sort" "I") (List.mem_of_getElem? (i := 1) rfl)) (fun _ h9 => h9) rfl dX6_isUnit_1 ?_
  refine lv_if_ne (tgt := 21) hx hb dX6_isUnit_4 (by decide) (fun c_2 => ?_) (fun c_2 => ?_)
  · have c_2 := mt (k_iEQ (a := pt 0 i) (b := 0) rfl (show nI 0 = iI 0 from by decide) (by omega) (by omega)).mpr c_2
    refine lv_iconst (v := nI 0) hx hb dX6_isUnit_21 (by decide +kernel) ?_
    refine W.widen (k := 0) (n := 0) (by omega) (by omega) ?_
    exact W.zret (v := nI 0) hx hb hr (by decide +kernel) (fun t9 ht9 hW9 => ⟨⟨nI 0, (), rfl, Or.inr ⟨rfl, isN_f (fun h9 => by have h8 := h9.1; clear m6; omega)⟩, by show va_P (dC, dI) vwCl _ t9.heap; rw [ht9]; exact hP⟩, hS.F ht9⟩) hS.2.2 dX6_isUnit_22
  · have c_2 := (k_iEQ (a := pt 0 i) (b := 0) rfl (show nI 0 = iI 0 from by decide) (by omega) (by omega)).mp c_2
    refine lv_aload_n hx hb dX6_isUnit_7 rfl (lv_at hl 0 rfl) ?_
    refine m_get (D := (dC, dI)) (v := .ref (ad (2118 + 2 * i))) (C := RX3) (T := TX3) (N := 7) hx hb hts bk0 hown hK hP (2117 + 2 * i) (ns_p (by omega)) hp_1 rfl 0 (by decide) (hts (.fieldLink RX6 68 "GradientDesk$Part" "number" "LGradientDesk$Fraction;") (List.mem_of_getElem? (i := 2) rfl)) (fun _ h9 => h9) rfl dX6_isUnit_8 ?_
    have hnum : (gd L i).1 = 0 := by clear m6; omega
    obtain ⟨n1, n2, n3, n4⟩ := m6 hnum
    obtain ⟨b1, b2, b3, b4⟩ := num13 hWf hi hnum
    have hq_3 := hFr i (by omega)
    refine va_calli (va_runV (As := []) (rest := []) ⟨hx, hb, hml, hown, hts⟩ (c_V2_isOne l dC dI A ad cA g (2118 + 2 * i) (38 + 2 * i) (39 + 2 * i) ((gd L i).2.2.2.2.2.2.1) (((gd L i).2.2.2.2.2.2.2 : Nat) : Int) hW hq_3 (⟨ns_q (by omega), by omega⟩) (by omega) n1 n2) (cwV 0 hts (goodIn_app (goodIn_r [Cond.methodLink RX6 131 yX2_isOne, Cond.instanceMethod yX2_isOne, Cond.selects RX2 yX2_isOne yX2_isOne, Cond.initialized RX2] [3, 4, 5, 6] rfl rfl) (goodIn_sub (fun w9 h9 => bk1 w9 h9) gw_V2_isOne)) rfl rfl rfl (by decide +kernel) ⟨Nat.le_of_ble_eq_true rfl, Nat.le_of_ble_eq_true rfl⟩) ⟨fun a U g mk q => ⟨q.1, q.2.1, q.2.2.1, LY.moved (u := U) (U := U.calling g mk a) (Vm.Alike.refl U.vm) q.2.2.2⟩, va_recv hK hP (ci := 5) (q0 := (2118 + 2 * i)) rfl (wo_at (ns_q (by omega)) hq_3), fun U hU hW => ⟨rfl, by rw [hU]; exact fun q h => hA q (Nat.le_trans hS.1 h), by rw [hU]; exact hP, LY.moved hW.alike hL⟩⟩ rfl rfl hl.1 rfl (lv_room (Nat.le_of_ble_eq_true rfl)) dX6_isUnit_11 ⟨(Nat.le_of_ble_eq_true rfl), (Nat.le_of_ble_eq_true rfl)⟩) hS (fun q _ h => h) (fun q h => h) (fun r_4 u8 t8 H1 locs ht8 hvm8 hw_5 hB hz1 hk1 hS => ?_)
    obtain ⟨⟩ := u8
    try dsimp only at hw_5 hB
    rw [ht8] at hB
    have hP := hB
    generalize H1 = H at hP hS ⊢
    rcases hw_5 with ⟨rfl, his⟩ | ⟨rfl, his⟩
    · skip
      refine lv_if_eq (tgt := 21) hx hb dX6_isUnit_14 (by decide) (fun c_6 => absurd c_6 (by decide)) (fun c_6 => ?_)
      refine lv_iconst (v := nI 1) hx hb dX6_isUnit_17 (by decide +kernel) ?_
      refine lv_goto (tgt := 22) hx hb dX6_isUnit_18 (by decide) ?_
      refine W.widen (k := 0) (n := 0) (by omega) (by omega) ?_
      exact W.zret (v := nI 1) hx hb hr (by decide +kernel) (fun t9 ht9 hW9 => ⟨⟨nI 1, (), rfl, Or.inl ⟨rfl, isN_t hnum his.1 (by have h8 := his.2; clear m6; omega)⟩, by show va_P (dC, dI) vwCl _ t9.heap; rw [ht9]; exact hP⟩, hS.F ht9⟩) hS.2.2 dX6_isUnit_22
    · skip
      refine lv_if_eq (tgt := 21) hx hb dX6_isUnit_14 (by decide) (fun c_7 => ?_) (fun c_7 => absurd c_7 (by decide))
      refine lv_iconst (v := nI 0) hx hb dX6_isUnit_21 (by decide +kernel) ?_
      refine W.widen (k := 0) (n := 0) (by omega) (by omega) ?_
      exact W.zret (v := nI 0) hx hb hr (by decide +kernel) (fun t9 ht9 hW9 => ⟨⟨nI 0, (), rfl, Or.inr ⟨rfl, isN_f (fun h9 => his ⟨h9.2.1, by rw [h9.2.2]; rfl⟩)⟩, by show va_P (dC, dI) vwCl _ t9.heap; rw [ht9]; exact hP⟩, hS.F ht9⟩) hS.2.2 dX6_isUnit_22
