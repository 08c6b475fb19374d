section
def wd_V6_isZero : List Cond := .code yX6_isZero cX6_isZero 1 (some .boolean) :: (([.fieldLink RX6 64 "GradientDesk$Part" "sort" "I", .fieldLink RX6 68 "GradientDesk$Part" "number" "LGradientDesk$Fraction;", .methodLink RX6 128 yX2_isZero, .instanceMethod yX2_isZero, .selects RX2 yX2_isZero yX2_isZero, .initialized RX2] : List Cond) ++ (u_ws RX3 TX3 7 ++ (wd_V2_isZero ++ ([]))))
theorem gw_V6_isZero : wd_V6_isZero.all goodWord = true := k_allc rfl (k_all (by decide +kernel) (k_all (gu_X3) (k_all (gw_V2_isZero) (rfl))))
set_option maxHeartbeats 4000000 in
set_option maxRecDepth 100000 in
theorem c_V6_isZero (l : Launch) (dC : Nat → ClassId) (dI : Nat → Nat → Nat) (A : Nat → Prop) (ad : Nat → Nat) (cA : Nat → ClassId) (g : Nat → va_E) (L : List PD) (i : Nat) (hC : CS ad cA g L) (hWf : WFL L) (hi : i < L.length) : Met l yX6_isZero wd_V6_isZero ({ frames := 30, cells := 0, slots := 0, locals := 600 }) (va_Pc [.ref (ad (2117 + 2 * i))] (PR NSc tyc dC dI A ad cA g)) (va_Qi (fun (r : Int32) => fun (u : Unit) => match u with | () => (r = nI 1 ∧ isN (gd L i) 0 = true) ∨ (r = nI 0 ∧ isN (gd L i) 0 = false)) (fun (u : Unit) (t : State) => va_P (dC, dI) vwCl (wo ad NSc g) t.heap) A) (0) (0) A := by
  refine Met.ofW (cc := cX6_isZero) (maxL := 1) (ret := (some .boolean)) (by decide) rfl ?_
  intro p e s m args below meth c s₁ B hml hv
  obtain ⟨rfl, hA, hP, hL⟩ := hv
  have hx := B.exec
  have hb := B.bytes
  have hr := B.returns
  have hts := atoms_spec (ws := wd_V6_isZero) B.pre
  have hown : s.vm.findClass RX6 = some m.cls := findClass_of_methodNamed B.named
  have hlocks := B.notSynchronized
  have hK := hL.1
  have hD : ∀ g, va_D A (wo ad NSc g) := fun g => wo_D hL.2.1 hL.2.2 g
  have hS : va_S A s.heap s.heap [] := va_S.rf
  have bk0 : ∀ w ∈ u_ws RX3 TX3 7, w ∈ wd_V6_isZero := fun _ h => List.mem_cons_of_mem _ (List.mem_append_right _ (List.mem_append_left _ h))
  have bk1 : ∀ w ∈ wd_V2_isZero, w ∈ wd_V6_isZero := fun _ h => List.mem_cons_of_mem _ (List.mem_append_right _ (List.mem_append_right _ (List.mem_append_left _ h)))
  have hl := lv_entry ([.ref (ad (2117 + 2 * i))]) (n := 1) (Nat.le_of_ble_eq_true rfl)
  rw [lg_entry_eq]
  generalize (lg_sl ([.ref (ad (2117 + 2 * i))]) ++ List.replicate (1 - (lg_sl ([.ref (ad (2117 + 2 * i))])).length) Slot.unset).toArray = ls at hl ⊢
  have hl : lv_has ls 1 [(0, .ref (ad (2117 + 2 * i)))] := hl
  have hC0 := hC
  obtain ⟨hLn, hW, ⟨hAr, hWk, hPa, hFr⟩, hO, pt, hPt, hM⟩ := hC0
  unfold CSO at hO
  have hpb := hPt.2
  obtain ⟨m0, m1, m2, m3, m4, m5, m6⟩ := hM i hi
  have hp0 := hpb 0 i
  refine lv_aload_n hx hb dX6_isZero_0 rfl (lv_at hl 0 rfl) ?_
  have hp_1 := hPt.1 i (by omega)
  refine m_get (D := (dC, dI)) (v := .int (iI (pt 0 i))) (C := RX3) (T := TX3) (N := 7) hx hb hts bk0 hown hK hP (2117 + 2 * i) (ns_p (by omega)) hp_1 rfl 1 (by decide) (hts (.fieldLink RX6 64 "GradientDesk$Part" "sort" "I") (List.mem_of_getElem? (i := 1) rfl)) (fun _ h9 => h9) rfl dX6_isZero_1 ?_
  refine lv_if_ne (tgt := 21) hx hb dX6_isZero_4 (by decide) (fun c_2 => ?_) (fun c_2 => ?_)
  · have c_2 := mt (k_iEQ (a := pt 0 i) (b := 0) rfl (show nI 0 = iI 0 from by decide) (by omega) (by omega)).mpr c_2
    refine lv_iconst (v := nI 0) hx hb dX6_isZero_21 (by decide +kernel) ?_
    refine W.widen (k := 0) (n := 0) (by omega) (by omega) ?_
    exact W.zret (v := nI 0) hx hb hr (by decide +kernel) (fun t9 ht9 hW9 => ⟨⟨nI 0, (), rfl, Or.inr ⟨rfl, isN_f (fun h9 => by have h8 := h9.1; clear m6; omega)⟩, by show va_P (dC, dI) vwCl _ t9.heap; rw [ht9]; exact hP⟩, hS.F ht9⟩) hS.2.2 dX6_isZero_22
  · have c_2 := (k_iEQ (a := pt 0 i) (b := 0) rfl (show nI 0 = iI 0 from by decide) (by omega) (by omega)).mp c_2
    refine lv_aload_n hx hb dX6_isZero_7 rfl (lv_at hl 0 rfl) ?_
    refine m_get (D := (dC, dI)) (v := .ref (ad (2118 + 2 * i))) (C := RX3) (T := TX3) (N := 7) hx hb hts bk0 hown hK hP (2117 + 2 * i) (ns_p (by omega)) hp_1 rfl 0 (by decide) (hts (.fieldLink RX6 68 "GradientDesk$Part" "number" "LGradientDesk$Fraction;") (List.mem_of_getElem? (i := 2) rfl)) (fun _ h9 => h9) rfl dX6_isZero_8 ?_
    have hnum : (gd L i).1 = 0 := by clear m6; omega
    obtain ⟨n1, n2, n3, n4⟩ := m6 hnum
    obtain ⟨b1, b2, b3, b4⟩ := num13 hWf hi hnum
    have hq_3 := hFr i (by omega)
    refine va_calli (va_runV (As := []) (rest := []) ⟨hx, hb, hml, hown, hts⟩ (c_V2_isZero l dC dI A ad cA g (2118 + 2 * i) (38 + 2 * i) (39 + 2 * i) ((gd L i).2.2.2.2.2.2.1) (((gd L i).2.2.2.2.2.2.2 : Nat) : Int) hW hq_3 (⟨ns_q (by omega), by omega⟩) (by omega) n1 n2) (cwV 0 hts (goodIn_app (goodIn_r [Cond.methodLink RX6 128 yX2_isZero, Cond.instanceMethod yX2_isZero, Cond.selects RX2 yX2_isZero yX2_isZero, Cond.initialized RX2] [3, 4, 5, 6] rfl rfl) (goodIn_sub (fun w9 h9 => bk1 w9 h9) gw_V2_isZero)) rfl rfl rfl (by decide +kernel) ⟨Nat.le_of_ble_eq_true rfl, Nat.le_of_ble_eq_true rfl⟩) ⟨fun a U g mk q => ⟨q.1, q.2.1, q.2.2.1, LY.moved (u := U) (U := U.calling g mk a) (Vm.Alike.refl U.vm) q.2.2.2⟩, va_recv hK hP (ci := 5) (q0 := (2118 + 2 * i)) rfl (wo_at (ns_q (by omega)) hq_3), fun U hU hW => ⟨rfl, by rw [hU]; exact fun q h => hA q (Nat.le_trans hS.1 h), by rw [hU]; exact hP, LY.moved hW.alike hL⟩⟩ rfl rfl hl.1 rfl (lv_room (Nat.le_of_ble_eq_true rfl)) dX6_isZero_11 ⟨(Nat.le_of_ble_eq_true rfl), (Nat.le_of_ble_eq_true rfl)⟩) hS (fun q _ h => h) (fun q h => h) (fun r_4 u8 t8 H1 locs ht8 hvm8 hw_5 hB hz1 hk1 hS => ?_)
    obtain ⟨⟩ := u8
    try dsimp only at hw_5 hB
    rw [ht8] at hB
    have hP := hB
    generalize H1 = H at hP hS ⊢
    rcases hw_5 with ⟨rfl, his⟩ | ⟨rfl, his⟩
    · skip
      refine lv_if_eq (tgt := 21) hx hb dX6_isZero_14 (by decide) (fun c_6 => absurd c_6 (by decide)) (fun c_6 => ?_)
      refine lv_iconst (v := nI 1) hx hb dX6_isZero_17 (by decide +kernel) ?_
      refine lv_goto (tgt := 22) hx hb dX6_isZero_18 (by decide) ?_
      refine W.widen (k := 0) (n := 0) (by omega) (by omega) ?_
      exact W.zret (v := nI 1) hx hb hr (by decide +kernel) (fun t9 ht9 hW9 => ⟨⟨nI 1, (), rfl, Or.inl ⟨rfl, isN_t hnum his (b4 his)⟩, by show va_P (dC, dI) vwCl _ t9.heap; rw [ht9]; exact hP⟩, hS.F ht9⟩) hS.2.2 dX6_isZero_22
    · skip
      refine lv_if_eq (tgt := 21) hx hb dX6_isZero_14 (by decide) (fun c_7 => ?_) (fun c_7 => absurd c_7 (by decide))
      refine lv_iconst (v := nI 0) hx hb dX6_isZero_21 (by decide +kernel) ?_
      refine W.widen (k := 0) (n := 0) (by omega) (by omega) ?_
      exact W.zret (v := nI 0) hx hb hr (by decide +kernel) (fun t9 ht9 hW9 => ⟨⟨nI 0, (), rfl, Or.inr ⟨rfl, isN_f (fun h9 => his h9.2.1)⟩, by show va_P (dC, dI) vwCl _ t9.heap; rw [ht9]; exact hP⟩, hS.F ht9⟩) hS.2.2 dX6_isZero_22
def wd_V6_isUnit : List Cond := .code yX6_isUnit cX6_isUnit 1 (some .boolean) :: (([.fieldLink RX6 64 "GradientDesk$Part" "sort" "I", .fieldLink RX6 68 "GradientDesk$Part" "number" "LGradientDesk$Fraction;", .methodLink RX6 131 yX2_isOne, .instanceMethod yX2_isOne, .selects RX2 yX2_isOne yX2_isOne, .initialized RX2] : List Cond) ++ (u_ws RX3 TX3 7 ++ (wd_V2_isOne ++ ([]))))
theorem gw_V6_isUnit : wd_V6_isUnit.all goodWord = true := k_allc rfl (k_all (by decide +kernel) (k_all (gu_X3) (k_all (gw_V2_isOne) (rfl))))
set_option maxHeartbeats 4000000 in
set_option maxRecDepth 100000 in
theorem c_V6_isUnit (l : Launch) (dC : Nat → ClassId) (dI : Nat → Nat → Nat) (A : Nat → Prop) (ad : Nat → Nat) (cA : Nat → ClassId) (g : Nat → va_E) (L : List PD) (i : Nat) (hC : CS ad cA g L) (hWf : WFL L) (hi : i < L.length) : Met l yX6_isUnit wd_V6_isUnit ({ frames := 30, cells := 0, slots := 0, locals := 600 }) (va_Pc [.ref (ad (2117 + 2 * i))] (PR NSc tyc dC dI A ad cA g)) (va_Qi (fun (r : Int32) => fun (u : Unit) => match u with | () => (r = nI 1 ∧ isN (gd L i) 1 = true) ∨ (r = nI 0 ∧ isN (gd L i) 1 = false)) (fun (u : Unit) (t : State) => va_P (dC, dI) vwCl (wo ad NSc g) t.heap) A) (0) (0) A := by
  refine Met.ofW (cc := cX6_isUnit) (maxL := 1) (ret := (some .boolean)) (by decide) rfl ?_
  intro p e s m args below meth c s₁ B hml hv
  obtain ⟨rfl, hA, hP, hL⟩ := hv
  have hx := B.exec
  have hb := B.bytes
  have hr := B.returns
  have hts := atoms_spec (ws := wd_V6_isUnit) B.pre
  have hown : s.vm.findClass RX6 = some m.cls := findClass_of_methodNamed B.named
  have hlocks := B.notSynchronized
  have hK := hL.1
  have hD : ∀ g, va_D A (wo ad NSc g) := fun g => wo_D hL.2.1 hL.2.2 g
  have hS : va_S A s.heap s.heap [] := va_S.rf
  have bk0 : ∀ w ∈ u_ws RX3 TX3 7, w ∈ wd_V6_isUnit := fun _ h => List.mem_cons_of_mem _ (List.mem_append_right _ (List.mem_append_left _ h))
  have bk1 : ∀ w ∈ wd_V2_isOne, w ∈ wd_V6_isUnit := fun _ h => List.mem_cons_of_mem _ (List.mem_append_right _ (List.mem_append_right _ (List.mem_append_left _ h)))
  have hl := lv_entry ([.ref (ad (2117 + 2 * i))]) (n := 1) (Nat.le_of_ble_eq_true rfl)
  rw [lg_entry_eq]
  generalize (lg_sl ([.ref (ad (2117 + 2 * i))]) ++ List.replicate (1 - (lg_sl ([.ref (ad (2117 + 2 * i))])).length) Slot.unset).toArray = ls at hl ⊢
  have hl : lv_has ls 1 [(0, .ref (ad (2117 + 2 * i)))] := hl
  have hC0 := hC
  obtain ⟨hLn, hW, ⟨hAr, hWk, hPa, hFr⟩, hO, pt, hPt, hM⟩ := hC0
  unfold CSO at hO
  have hpb := hPt.2
  obtain ⟨m0, m1, m2, m3, m4, m5, m6⟩ := hM i hi
  have hp0 := hpb 0 i
  refine lv_aload_n hx hb dX6_isUnit_0 rfl (lv_at hl 0 rfl) ?_
  have hp_1 := hPt.1 i (by omega)
  refine m_get (D := (dC, dI)) (v := .int (iI (pt 0 i))) (C := RX3) (T := TX3) (N := 7) hx hb hts bk0 hown hK hP (2117 + 2 * i) (ns_p (by omega)) hp_1 rfl 1 (by decide) (hts (.fieldLink RX6 64 "GradientDesk$Part" "sort" "I") (List.mem_of_getElem? (i := 1) rfl)) (fun _ h9 => h9) rfl dX6_isUnit_1 ?_
  refine lv_if_ne (tgt := 21) hx hb dX6_isUnit_4 (by decide) (fun c_2 => ?_) (fun c_2 => ?_)
  · have c_2 := mt (k_iEQ (a := pt 0 i) (b := 0) rfl (show nI 0 = iI 0 from by decide) (by omega) (by omega)).mpr c_2
    refine lv_iconst (v := nI 0) hx hb dX6_isUnit_21 (by decide +kernel) ?_
    refine W.widen (k := 0) (n := 0) (by omega) (by omega) ?_
    exact W.zret (v := nI 0) hx hb hr (by decide +kernel) (fun t9 ht9 hW9 => ⟨⟨nI 0, (), rfl, Or.inr ⟨rfl, isN_f (fun h9 => by have h8 := h9.1; clear m6; omega)⟩, by show va_P (dC, dI) vwCl _ t9.heap; rw [ht9]; exact hP⟩, hS.F ht9⟩) hS.2.2 dX6_isUnit_22
  · have c_2 := (k_iEQ (a := pt 0 i) (b := 0) rfl (show nI 0 = iI 0 from by decide) (by omega) (by omega)).mp c_2
    refine lv_aload_n hx hb dX6_isUnit_7 rfl (lv_at hl 0 rfl) ?_
    refine m_get (D := (dC, dI)) (v := .ref (ad (2118 + 2 * i))) (C := RX3) (T := TX3) (N := 7) hx hb hts bk0 hown hK hP (2117 + 2 * i) (ns_p (by omega)) hp_1 rfl 0 (by decide) (hts (.fieldLink RX6 68 "GradientDesk$Part" "number" "LGradientDesk$Fraction;") (List.mem_of_getElem? (i := 2) rfl)) (fun _ h9 => h9) rfl dX6_isUnit_8 ?_
    have hnum : (gd L i).1 = 0 := by clear m6; omega
    obtain ⟨n1, n2, n3, n4⟩ := m6 hnum
    obtain ⟨b1, b2, b3, b4⟩ := num13 hWf hi hnum
    have hq_3 := hFr i (by omega)
    refine va_calli (va_runV (As := []) (rest := []) ⟨hx, hb, hml, hown, hts⟩ (c_V2_isOne l dC dI A ad cA g (2118 + 2 * i) (38 + 2 * i) (39 + 2 * i) ((gd L i).2.2.2.2.2.2.1) (((gd L i).2.2.2.2.2.2.2 : Nat) : Int) hW hq_3 (⟨ns_q (by omega), by omega⟩) (by omega) n1 n2) (cwV 0 hts (goodIn_app (goodIn_r [Cond.methodLink RX6 131 yX2_isOne, Cond.instanceMethod yX2_isOne, Cond.selects RX2 yX2_isOne yX2_isOne, Cond.initialized RX2] [3, 4, 5, 6] rfl rfl) (goodIn_sub (fun w9 h9 => bk1 w9 h9) gw_V2_isOne)) rfl rfl rfl (by decide +kernel) ⟨Nat.le_of_ble_eq_true rfl, Nat.le_of_ble_eq_true rfl⟩) ⟨fun a U g mk q => ⟨q.1, q.2.1, q.2.2.1, LY.moved (u := U) (U := U.calling g mk a) (Vm.Alike.refl U.vm) q.2.2.2⟩, va_recv hK hP (ci := 5) (q0 := (2118 + 2 * i)) rfl (wo_at (ns_q (by omega)) hq_3), fun U hU hW => ⟨rfl, by rw [hU]; exact fun q h => hA q (Nat.le_trans hS.1 h), by rw [hU]; exact hP, LY.moved hW.alike hL⟩⟩ rfl rfl hl.1 rfl (lv_room (Nat.le_of_ble_eq_true rfl)) dX6_isUnit_11 ⟨(Nat.le_of_ble_eq_true rfl), (Nat.le_of_ble_eq_true rfl)⟩) hS (fun q _ h => h) (fun q h => h) (fun r_4 u8 t8 H1 locs ht8 hvm8 hw_5 hB hz1 hk1 hS => ?_)
    obtain ⟨⟩ := u8
    try dsimp only at hw_5 hB
    rw [ht8] at hB
    have hP := hB
    generalize H1 = H at hP hS ⊢
    rcases hw_5 with ⟨rfl, his⟩ | ⟨rfl, his⟩
    · skip
      refine lv_if_eq (tgt := 21) hx hb dX6_isUnit_14 (by decide) (fun c_6 => absurd c_6 (by decide)) (fun c_6 => ?_)
      refine lv_iconst (v := nI 1) hx hb dX6_isUnit_17 (by decide +kernel) ?_
      refine lv_goto (tgt := 22) hx hb dX6_isUnit_18 (by decide) ?_
      refine W.widen (k := 0) (n := 0) (by omega) (by omega) ?_
      exact W.zret (v := nI 1) hx hb hr (by decide +kernel) (fun t9 ht9 hW9 => ⟨⟨nI 1, (), rfl, Or.inl ⟨rfl, isN_t hnum his.1 (by have h8 := his.2; clear m6; omega)⟩, by show va_P (dC, dI) vwCl _ t9.heap; rw [ht9]; exact hP⟩, hS.F ht9⟩) hS.2.2 dX6_isUnit_22
    · skip
      refine lv_if_eq (tgt := 21) hx hb dX6_isUnit_14 (by decide) (fun c_7 => ?_) (fun c_7 => absurd c_7 (by decide))
      refine lv_iconst (v := nI 0) hx hb dX6_isUnit_21 (by decide +kernel) ?_
      refine W.widen (k := 0) (n := 0) (by omega) (by omega) ?_
      exact W.zret (v := nI 0) hx hb hr (by decide +kernel) (fun t9 ht9 hW9 => ⟨⟨nI 0, (), rfl, Or.inr ⟨rfl, isN_f (fun h9 => his ⟨h9.2.1, by rw [h9.2.2]; rfl⟩)⟩, by show va_P (dC, dI) vwCl _ t9.heap; rw [ht9]; exact hP⟩, hS.F ht9⟩) hS.2.2 dX6_isUnit_22
end
section
def wd_V6_makeSum : List Cond := .code yX6_makeSum cX6_makeSum 6 (some .int) :: (([.fieldLink RX6 11 "GradientDesk$Shelf" "parts" "[LGradientDesk$Part;", .fieldLink RX6 64 "GradientDesk$Part" "sort" "I", .methodLink RX6 75 yX6_isZero, .static yX6_isZero, .initialized RX6, .fieldLink RX6 79 "GradientDesk$Part" "sizeN" "I", .fieldLink RX6 82 "GradientDesk$Part" "sizeD" "I", .methodLink RX6 85 Lib.Math.max.name, .static Lib.Math.max.name, .initialized "java/lang/Math", .code Lib.Math.max.name Lib.Math.max.code 2 (some .int), .fieldLink RX6 91 "GradientDesk$Part" "degree" "I", .methodLink RX6 60 yX6_keep, .instanceMethod yX6_keep, .selects RX6 yX6_keep yX6_keep, .fieldLink RX6 41 "GradientDesk$Shelf" "arithmetic" "LGradientDesk$Arithmetic;", .fieldLink RX6 68 "GradientDesk$Part" "number" "LGradientDesk$Fraction;", .fieldLink RX6 30 "GradientDesk$Shelf" "work" "LGradientDesk$Fraction;", .methodLink RX6 71 yX0_add, .instanceMethod yX0_add, .selects RX0 yX0_add yX0_add, .initialized RX0, .methodLink RX6 54 yX0_reduce, .instanceMethod yX0_reduce, .selects RX0 yX0_reduce yX0_reduce, .methodLink RX6 50 yX6_keepNumber, .instanceMethod yX6_keepNumber, .selects RX6 yX6_keepNumber yX6_keepNumber] : List Cond) ++ (u_ws RX6 TX6 7 ++ (u_ws RX3 TX3 7 ++ (wd_V6_isZero ++ (wd_V6_keep ++ (wd_V0_add ++ (wd_V0_reduce ++ (wd_V6_keepNumber ++ ([])))))))))
theorem gw_V6_makeSum : wd_V6_makeSum.all goodWord = true := k_allc rfl (k_all (by decide +kernel) (k_all (gu_X6) (k_all (gu_X3) (k_all (gw_V6_isZero) (k_all (gw_V6_keep) (k_all (gw_V0_add) (k_all (gw_V0_reduce) (k_all (gw_V6_keepNumber) (rfl)))))))))
set_option maxHeartbeats 4000000 in
set_option maxRecDepth 100000 in
theorem c_V6_makeSum (l : Launch) (dC : Nat → ClassId) (dI : Nat → Nat → Nat) (A : Nat → Prop) (ad : Nat → Nat) (cA : Nat → ClassId) (g : Nat → va_E) (L : List PD) (x1 : Nat) (y1 : Nat) (hC : CS ad cA g L) (hWf : WFL L) (ix : x1 < L.length) (iy : y1 < L.length) : Met l yX6_makeSum wd_V6_makeSum ({ frames := 50, cells := 0, slots := 0, locals := 1000 }) (va_Pc [.ref (ad 2080), .int (nI x1), .int (nI y1)] (PR NSc tyc dC dI A ad cA g)) (va_Qi (fun (r : Int32) => fun (u : Nat → va_E) => match u with | g2 => (∀ k, (14 ≤ k ∧ k < 76) ∨ (876 ≤ k ∧ k < 2080) ∨ (2081 ≤ k ∧ k < 2117) → g2 k = g k) ∧ CMK ad cA g2 (sumL L x1 y1) r) (fun (u : Nat → va_E) (t : State) => va_P (dC, dI) vwCl (wo ad NSc u) t.heap) A) (0) (0) A := by
  refine Met.ofW (cc := cX6_makeSum) (maxL := 6) (ret := (some .int)) (by decide) rfl ?_
  intro p e s m args below meth c s₁ B hml hv
  obtain ⟨rfl, hA, hP, hL⟩ := hv
  have hx := B.exec
  have hb := B.bytes
  have hr := B.returns
  have hts := atoms_spec (ws := wd_V6_makeSum) B.pre
  have hown : s.vm.findClass RX6 = some m.cls := findClass_of_methodNamed B.named
  have hlocks := B.notSynchronized
  have hK := hL.1
  have hD : ∀ g, va_D A (wo ad NSc g) := fun g => wo_D hL.2.1 hL.2.2 g
  have hS : va_S A s.heap s.heap [] := va_S.rf
  have bk0 : ∀ w ∈ u_ws RX6 TX6 7, w ∈ wd_V6_makeSum := fun _ h => List.mem_cons_of_mem _ (List.mem_append_right _ (List.mem_append_left _ h))
  have bk1 : ∀ w ∈ u_ws RX3 TX3 7, w ∈ wd_V6_makeSum := fun _ h => List.mem_cons_of_mem _ (List.mem_append_right _ (List.mem_append_right _ (List.mem_append_left _ h)))
  have bk2 : ∀ w ∈ wd_V6_isZero, w ∈ wd_V6_makeSum := fun _ h => List.mem_cons_of_mem _ (List.mem_append_right _ (List.mem_append_right _ (List.mem_append_right _ (List.mem_append_left _ h))))
  have bk3 : ∀ w ∈ wd_V6_keep, w ∈ wd_V6_makeSum := fun _ h => List.mem_cons_of_mem _ (List.mem_append_right _ (List.mem_append_right _ (List.mem_append_right _ (List.mem_append_right _ (List.mem_append_left _ h)))))
  have bk4 : ∀ w ∈ wd_V0_add, w ∈ wd_V6_makeSum := fun _ h => List.mem_cons_of_mem _ (List.mem_append_right _ (List.mem_append_right _ (List.mem_append_right _ (List.mem_append_right _ (List.mem_append_right _ (List.mem_append_left _ h))))))
  have bk5 : ∀ w ∈ wd_V0_reduce, w ∈ wd_V6_makeSum := fun _ h => List.mem_cons_of_mem _ (List.mem_append_right _ (List.mem_append_right _ (List.mem_append_right _ (List.mem_append_right _ (List.mem_append_right _ (List.mem_append_right _ (List.mem_append_left _ h)))))))
  have bk6 : ∀ w ∈ wd_V6_keepNumber, w ∈ wd_V6_makeSum := fun _ h => List.mem_cons_of_mem _ (List.mem_append_right _ (List.mem_append_right _ (List.mem_append_right _ (List.mem_append_right _ (List.mem_append_right _ (List.mem_append_right _ (List.mem_append_right _ (List.mem_append_left _ h))))))))
  have hl := lv_entry ([.ref (ad 2080), .int (nI x1), .int (nI y1)]) (n := 6) (Nat.le_of_ble_eq_true rfl)
  rw [lg_entry_eq]
  generalize (lg_sl ([.ref (ad 2080), .int (nI x1), .int (nI y1)]) ++ List.replicate (6 - (lg_sl ([.ref (ad 2080), .int (nI x1), .int (nI y1)])).length) Slot.unset).toArray = ls at hl ⊢
  have hl : lv_has ls 6 [(0, .ref (ad 2080)), (1, .int (nI x1)), (2, .int (nI y1))] := hl
  have hC0 := hC
  obtain ⟨hLn, hW, ⟨hAr, hWk, hPa, hFr⟩, hO, pt, hPt, hM⟩ := hC0
  unfold CSO at hO
  have hpb := hPt.2
  obtain ⟨a0x1, a1x1, a2x1, a3x1, a4x1, a5x1, a6x1⟩ := hM x1 ix
  obtain ⟨w1x1, w2x1, w3x1, w4x1, w5x1, -⟩ := hWf x1 ix
  have hpx1 : g (2117 + 2 * x1) = .inr (6, [.ref (ad (2118 + 2 * x1)), .int (nI ((gd L x1).1)), .int (iI ((gd L x1).2.1)), .int (iI ((gd L x1).2.2.1)), .int (nI ((gd L x1).2.2.2.1)), .int (nI ((gd L x1).2.2.2.2.1)), .int (nI ((gd L x1).2.2.2.2.2.1))]) := by rw [hPt.1 x1 (by clear a6x1; omega), a0x1, a1x1, a2x1, a3x1, a4x1, a5x1, nI_iI, nI_iI, nI_iI, nI_iI]
  obtain ⟨fnx1, hfnx1⟩ : ∃ z : Prop, z = ((gd L x1).1 = 0 → CMN ad cA g (gd L x1) x1) := ⟨_, rfl⟩
  rw [← hfnx1] at a6x1
  obtain ⟨a0y1, a1y1, a2y1, a3y1, a4y1, a5y1, a6y1⟩ := hM y1 iy
  obtain ⟨w1y1, w2y1, w3y1, w4y1, w5y1, -⟩ := hWf y1 iy
  have hpy1 : g (2117 + 2 * y1) = .inr (6, [.ref (ad (2118 + 2 * y1)), .int (nI ((gd L y1).1)), .int (iI ((gd L y1).2.1)), .int (iI ((gd L y1).2.2.1)), .int (nI ((gd L y1).2.2.2.1)), .int (nI ((gd L y1).2.2.2.2.1)), .int (nI ((gd L y1).2.2.2.2.2.1))]) := by rw [hPt.1 y1 (by clear a6y1; omega), a0y1, a1y1, a2y1, a3y1, a4y1, a5y1, nI_iI, nI_iI, nI_iI, nI_iI]
  obtain ⟨fny1, hfny1⟩ : ∃ z : Prop, z = ((gd L y1).1 = 0 → CMN ad cA g (gd L y1) y1) := ⟨_, rfl⟩
  rw [← hfny1] at a6y1
  refine lv_iload_n hx hb dX6_makeSum_0 rfl (lv_at hl 1 rfl) ?_
  refine lv_if_lt (tgt := 8) hx hb dX6_makeSum_1 (by decide) (fun c_1 => absurd ((nI_ltI (a := x1) (b := 0) (by omega) (by decide)).mp c_1) (by omega)) (fun c_1 => ?_)
  refine lv_iload_n hx hb dX6_makeSum_4 rfl (lv_at hl 2 rfl) ?_
  refine lv_if_ge (tgt := 18) hx hb dX6_makeSum_5 (by decide) (fun c_2 => ?_) (fun c_2 => absurd (mt (nI_leI (a := 0) (b := y1) (by decide) (by omega)).mpr c_2) (by omega))
  refine lv_aload_n hx hb dX6_makeSum_18 rfl (lv_at hl 0 rfl) ?_
  refine m_get (D := (dC, dI)) (v := .ref (ad 2081)) (C := RX6) (T := TX6) (N := 7) hx hb hts bk0 hown hK hP 2080 (by decide) hO rfl 0 (by decide) (hts (.fieldLink RX6 11 "GradientDesk$Shelf" "parts" "[LGradientDesk$Part;") (List.mem_of_getElem? (i := 1) rfl)) (fun _ h9 => h9) rfl dX6_makeSum_19 ?_
  refine lv_iload_n hx hb dX6_makeSum_22 rfl (lv_at hl 1 rfl) ?_
  refine m_aald hx hb hK hP 2081 (by decide) rfl hPa (i := x1) (v := ad (2117 + 2 * x1)) (by omega) (by decide) rfl dX6_makeSum_23 ?_
  refine lv_astore_n (lv' := [(3, .ref (ad (2117 + 2 * x1))), (0, .ref (ad 2080)), (1, .int (nI x1)), (2, .int (nI y1))]) hx hb dX6_makeSum_24 rfl hl (by decide) rfl (fun ls hl => ?_)
  refine lv_aload_n hx hb dX6_makeSum_25 rfl (lv_at hl 1 rfl) ?_
  refine m_get (D := (dC, dI)) (v := .ref (ad 2081)) (C := RX6) (T := TX6) (N := 7) hx hb hts bk0 hown hK hP 2080 (by decide) hO rfl 0 (by decide) (hts (.fieldLink RX6 11 "GradientDesk$Shelf" "parts" "[LGradientDesk$Part;") (List.mem_of_getElem? (i := 1) rfl)) (fun _ h9 => h9) rfl dX6_makeSum_26 ?_
  refine lv_iload_n hx hb dX6_makeSum_29 rfl (lv_at hl 3 rfl) ?_
  refine m_aald hx hb hK hP 2081 (by decide) rfl hPa (i := y1) (v := ad (2117 + 2 * y1)) (by omega) (by decide) rfl dX6_makeSum_30 ?_
  refine lv_astore (lv' := [(4, .ref (ad (2117 + 2 * y1))), (3, .ref (ad (2117 + 2 * x1))), (0, .ref (ad 2080)), (1, .int (nI x1)), (2, .int (nI y1))]) hx hb dX6_makeSum_31 hl (by decide) rfl (fun ls hl => ?_)
  refine lv_aload_n hx hb dX6_makeSum_33 rfl (lv_at hl 1 rfl) ?_
  refine m_get (D := (dC, dI)) (v := .int (nI ((gd L x1).1))) (C := RX3) (T := TX3) (N := 7) hx hb hts bk1 hown hK hP (2117 + 2 * x1) (ns_p (by omega)) hpx1 rfl 1 (by decide) (hts (.fieldLink RX6 64 "GradientDesk$Part" "sort" "I") (List.mem_of_getElem? (i := 2) rfl)) (fun _ h9 => h9) rfl dX6_makeSum_34 ?_
  refine lv_if_ne (tgt := 85) hx hb dX6_makeSum_37 (by decide) (fun c_3 => ?_) (fun c_3 => ?_)
  · have c_3 := mt (nI_eq (a := ((gd L x1).1)) (b := 0) (by omega) (by decide)).mpr c_3
    refine lv_aload_n hx hb dX6_makeSum_85 rfl (lv_at hl 1 rfl) ?_
    refine va_calli (va_runS (As := [.ref (ad (2117 + 2 * x1))]) (rest := []) ⟨hx, hb, hml, hown, hts⟩ (c_V6_isZero l dC dI A ad cA g L x1 hC hWf ix) (va_cwS 1 hts (goodIn_app (goodIn_r [Cond.methodLink RX6 75 yX6_isZero, Cond.static yX6_isZero, Cond.initialized RX6] [3, 4, 5] rfl rfl) (goodIn_sub (fun w9 h9 => bk2 w9 h9) gw_V6_isZero)) rfl rfl rfl (by decide +kernel) ⟨Nat.le_of_ble_eq_true rfl, Nat.le_of_ble_eq_true rfl⟩) ⟨fun a U g mk q => ⟨q.1, q.2.1, q.2.2.1, LY.moved (u := U) (U := U.calling g mk a) (Vm.Alike.refl U.vm) q.2.2.2⟩, fun U hU hW => ⟨rfl, by rw [hU]; exact fun q h => hA q (Nat.le_trans hS.1 h), by rw [hU]; exact hP, LY.moved hW.alike hL⟩⟩ rfl rfl hl.1 rfl (lv_room (Nat.le_of_ble_eq_true rfl)) dX6_makeSum_86 ⟨(Nat.le_of_ble_eq_true rfl), (Nat.le_of_ble_eq_true rfl)⟩) hS (fun q _ h => h) (fun q h => h) (fun r_4 u8 t8 H1 locs ht8 hvm8 hw_5 hB hz1 hk1 hS => ?_)
    obtain ⟨⟩ := u8
    try dsimp only at hw_5 hB
    rw [ht8] at hB
    have hP := hB
    generalize H1 = H at hP hS ⊢
    rcases hw_5 with ⟨rfl, hx0⟩ | ⟨rfl, hx0⟩
    · skip
      refine lv_if_eq (tgt := 94) hx hb dX6_makeSum_89 (by decide) (fun c_6 => absurd c_6 (by decide)) (fun c_6 => ?_)
      refine lv_iload_n hx hb dX6_makeSum_92 rfl (lv_at hl 4 rfl) ?_
      refine W.widen (k := 0) (n := 0) (by omega) (by omega) ?_
      exact W.iret (v := nI y1) hx hb hr (fun t9 ht9 hW9 => ⟨⟨nI y1, g, rfl, ⟨(fun (k : Nat) (hk : (14 ≤ k ∧ k < 76) ∨ (876 ≤ k ∧ k < 2080) ∨ (2081 ≤ k ∧ k < 2117)) => rfl), CMK.old (i := y1) (by unfold sumL; rw [if_neg (show ¬ ((gd L x1).1 = 0 ∧ (gd L y1).1 = 0) from by omega), if_pos hx0]) iy hC⟩, by show va_P (dC, dI) vwCl _ t9.heap; rw [ht9]; exact hP⟩, hS.F ht9⟩) hS.2.2 dX6_makeSum_93
    · skip
      refine lv_if_eq (tgt := 94) hx hb dX6_makeSum_89 (by decide) (fun c_7 => ?_) (fun c_7 => absurd c_7 (by decide))
      refine lv_aload hx hb dX6_makeSum_94 (lv_at hl 0 rfl) ?_
      refine va_calli (va_runS (As := [.ref (ad (2117 + 2 * y1))]) (rest := []) ⟨hx, hb, hml, hown, hts⟩ (c_V6_isZero l dC dI A ad cA g L y1 hC hWf iy) (va_cwS 1 hts (goodIn_app (goodIn_r [Cond.methodLink RX6 75 yX6_isZero, Cond.static yX6_isZero, Cond.initialized RX6] [3, 4, 5] rfl rfl) (goodIn_sub (fun w9 h9 => bk2 w9 h9) gw_V6_isZero)) rfl rfl rfl (by decide +kernel) ⟨Nat.le_of_ble_eq_true rfl, Nat.le_of_ble_eq_true rfl⟩) ⟨fun a U g mk q => ⟨q.1, q.2.1, q.2.2.1, LY.moved (u := U) (U := U.calling g mk a) (Vm.Alike.refl U.vm) q.2.2.2⟩, fun U hU hW => ⟨rfl, by rw [hU]; exact fun q h => hA q (Nat.le_trans hS.1 h), by rw [hU]; exact hP, LY.moved hW.alike hL⟩⟩ rfl rfl hl.1 rfl (lv_room (Nat.le_of_ble_eq_true rfl)) dX6_makeSum_96 ⟨(Nat.le_of_ble_eq_true rfl), (Nat.le_of_ble_eq_true rfl)⟩) hS (fun q _ h => h) (fun q h => h) (fun r_8 u8 t8 H1 locs ht8 hvm8 hw_9 hB hz1 hk1 hS => ?_)
      obtain ⟨⟩ := u8
      try dsimp only at hw_9 hB
      rw [ht8] at hB
      have hP := hB
      generalize H1 = H at hP hS ⊢
      rcases hw_9 with ⟨rfl, hy0⟩ | ⟨rfl, hy0⟩
      · skip
        refine lv_if_eq (tgt := 104) hx hb dX6_makeSum_99 (by decide) (fun c_10 => absurd c_10 (by decide)) (fun c_10 => ?_)
        refine lv_iload_n hx hb dX6_makeSum_102 rfl (lv_at hl 3 rfl) ?_
        refine W.widen (k := 0) (n := 0) (by omega) (by omega) ?_
        exact W.iret (v := nI x1) hx hb hr (fun t9 ht9 hW9 => ⟨⟨nI x1, g, rfl, ⟨(fun (k : Nat) (hk : (14 ≤ k ∧ k < 76) ∨ (876 ≤ k ∧ k < 2080) ∨ (2081 ≤ k ∧ k < 2117)) => rfl), CMK.old (i := x1) (by unfold sumL; rw [if_neg (show ¬ ((gd L x1).1 = 0 ∧ (gd L y1).1 = 0) from by omega), if_neg (by rw [hx0]; decide), if_pos hy0]) ix hC⟩, by show va_P (dC, dI) vwCl _ t9.heap; rw [ht9]; exact hP⟩, hS.F ht9⟩) hS.2.2 dX6_makeSum_103
      · skip
        refine lv_if_eq (tgt := 104) hx hb dX6_makeSum_99 (by decide) (fun c_11 => ?_) (fun c_11 => absurd c_11 (by decide))
        refine lv_iconst (v := nI 1) hx hb dX6_makeSum_104 (by decide +kernel) ?_
        refine lv_aload_n hx hb dX6_makeSum_105 rfl (lv_at hl 1 rfl) ?_
        refine m_get (D := (dC, dI)) (v := .int (nI ((gd L x1).2.2.2.2.1))) (C := RX3) (T := TX3) (N := 7) hx hb hts bk1 hown hK hP (2117 + 2 * x1) (ns_p (by omega)) hpx1 rfl 5 (by decide) (hts (.fieldLink RX6 79 "GradientDesk$Part" "sizeN" "I") (List.mem_of_getElem? (i := 6) rfl)) (fun _ h9 => h9) rfl dX6_makeSum_106 ?_
        refine lv_aload hx hb dX6_makeSum_109 (lv_at hl 0 rfl) ?_
        refine m_get (D := (dC, dI)) (v := .int (nI ((gd L y1).2.2.2.2.2.1))) (C := RX3) (T := TX3) (N := 7) hx hb hts bk1 hown hK hP (2117 + 2 * y1) (ns_p (by omega)) hpy1 rfl 6 (by decide) (hts (.fieldLink RX6 82 "GradientDesk$Part" "sizeD" "I") (List.mem_of_getElem? (i := 7) rfl)) (fun _ h9 => h9) rfl dX6_makeSum_111 ?_
        refine lv_iadd hx hb dX6_makeSum_114 ?_
        refine lv_topi (fun x_12 e_13 => ?_)
        obtain rfl : x_12 = nI ((gd L x1).2.2.2.2.1 + ((gd L y1).2.2.2.2.2.1)) := e_13.trans (nI_add ((gd L x1).2.2.2.2.1) ((gd L y1).2.2.2.2.2.1))
        refine lv_aload hx hb dX6_makeSum_115 (lv_at hl 0 rfl) ?_
        refine m_get (D := (dC, dI)) (v := .int (nI ((gd L y1).2.2.2.2.1))) (C := RX3) (T := TX3) (N := 7) hx hb hts bk1 hown hK hP (2117 + 2 * y1) (ns_p (by omega)) hpy1 rfl 5 (by decide) (hts (.fieldLink RX6 79 "GradientDesk$Part" "sizeN" "I") (List.mem_of_getElem? (i := 6) rfl)) (fun _ h9 => h9) rfl dX6_makeSum_117 ?_
        refine lv_aload_n hx hb dX6_makeSum_120 rfl (lv_at hl 1 rfl) ?_
        refine m_get (D := (dC, dI)) (v := .int (nI ((gd L x1).2.2.2.2.2.1))) (C := RX3) (T := TX3) (N := 7) hx hb hts bk1 hown hK hP (2117 + 2 * x1) (ns_p (by omega)) hpx1 rfl 6 (by decide) (hts (.fieldLink RX6 82 "GradientDesk$Part" "sizeD" "I") (List.mem_of_getElem? (i := 7) rfl)) (fun _ h9 => h9) rfl dX6_makeSum_121 ?_
        refine lv_iadd hx hb dX6_makeSum_124 ?_
        refine lv_topi (fun x_14 e_15 => ?_)
        obtain rfl : x_14 = nI ((gd L y1).2.2.2.2.1 + ((gd L x1).2.2.2.2.2.1)) := e_15.trans (nI_add ((gd L y1).2.2.2.2.1) ((gd L x1).2.2.2.2.2.1))
        refine va_mmax hx hb (by rw [hml]; exact hl.1.symm) hown (hts (.methodLink RX6 85 Lib.Math.max.name) (List.mem_of_getElem? (i := 8) rfl)) (hts (.static Lib.Math.max.name) (List.mem_of_getElem? (i := 9) rfl)) (hts (.initialized "java/lang/Math") (List.mem_of_getElem? (i := 10) rfl)) (hts (.code Lib.Math.max.name Lib.Math.max.code 2 (some .int)) (List.mem_of_getElem? (i := 11) rfl)) (Nat.le_of_ble_eq_true rfl) (Nat.le_of_ble_eq_true rfl) (Nat.le_of_ble_eq_true rfl) (Nat.le_of_ble_eq_true rfl) dX6_makeSum_125 ?_
        refine lv_topi (fun x_17 e_18 => ?_)
        obtain ⟨q_16, hq_16, eq_16⟩ : ∃ z : Nat, z = max ((gd L x1).2.2.2.2.1 + ((gd L y1).2.2.2.2.2.1)) ((gd L y1).2.2.2.2.1 + ((gd L x1).2.2.2.2.2.1)) ∧ x_17 = nI z := ⟨_, rfl, by rw [e_18]; exact k_max (by omega) (by omega)⟩
        subst eq_16
        refine lv_iadd hx hb dX6_makeSum_128 ?_
        refine lv_topi (fun x_19 e_20 => ?_)
        obtain rfl : x_19 = nI (1 + q_16) := e_20.trans (nI_add 1 q_16)
        refine lv_istore (lv' := [(5, .int (nI (1 + q_16))), (4, .ref (ad (2117 + 2 * y1))), (3, .ref (ad (2117 + 2 * x1))), (0, .ref (ad 2080)), (1, .int (nI x1)), (2, .int (nI y1))]) hx hb dX6_makeSum_129 hl (by decide) rfl (fun ls hl => ?_)
        refine lv_aload_n hx hb dX6_makeSum_131 rfl (lv_at hl 3 rfl) ?_
        refine lv_iconst (v := nI 2) hx hb dX6_makeSum_132 (by decide +kernel) ?_
        refine lv_iload_n hx hb dX6_makeSum_133 rfl (lv_at hl 4 rfl) ?_
        refine lv_iload_n hx hb dX6_makeSum_134 rfl (lv_at hl 5 rfl) ?_
        refine lv_aload_n hx hb dX6_makeSum_135 rfl (lv_at hl 2 rfl) ?_
        refine m_get (D := (dC, dI)) (v := .int (nI ((gd L x1).2.2.2.1))) (C := RX3) (T := TX3) (N := 7) hx hb hts bk1 hown hK hP (2117 + 2 * x1) (ns_p (by omega)) hpx1 rfl 4 (by decide) (hts (.fieldLink RX6 91 "GradientDesk$Part" "degree" "I") (List.mem_of_getElem? (i := 12) rfl)) (fun _ h9 => h9) rfl dX6_makeSum_136 ?_
        refine lv_aload hx hb dX6_makeSum_139 (lv_at hl 1 rfl) ?_
        refine m_get (D := (dC, dI)) (v := .int (nI ((gd L y1).2.2.2.1))) (C := RX3) (T := TX3) (N := 7) hx hb hts bk1 hown hK hP (2117 + 2 * y1) (ns_p (by omega)) hpy1 rfl 4 (by decide) (hts (.fieldLink RX6 91 "GradientDesk$Part" "degree" "I") (List.mem_of_getElem? (i := 12) rfl)) (fun _ h9 => h9) rfl dX6_makeSum_141 ?_
        refine va_mmax hx hb (by rw [hml]; exact hl.1.symm) hown (hts (.methodLink RX6 85 Lib.Math.max.name) (List.mem_of_getElem? (i := 8) rfl)) (hts (.static Lib.Math.max.name) (List.mem_of_getElem? (i := 9) rfl)) (hts (.initialized "java/lang/Math") (List.mem_of_getElem? (i := 10) rfl)) (hts (.code Lib.Math.max.name Lib.Math.max.code 2 (some .int)) (List.mem_of_getElem? (i := 11) rfl)) (Nat.le_of_ble_eq_true rfl) (Nat.le_of_ble_eq_true rfl) (Nat.le_of_ble_eq_true rfl) (Nat.le_of_ble_eq_true rfl) dX6_makeSum_144 ?_
        refine lv_topi (fun x_22 e_23 => ?_)
        obtain ⟨q_21, hq_21, eq_21⟩ : ∃ z : Nat, z = max ((gd L x1).2.2.2.1) ((gd L y1).2.2.2.1) ∧ x_22 = nI z := ⟨_, rfl, by rw [e_23]; exact k_max (by omega) (by omega)⟩
        subst eq_21
        refine lv_iload hx hb dX6_makeSum_147 (lv_at hl 0 rfl) ?_
        refine lv_aload_n hx hb dX6_makeSum_149 rfl (lv_at hl 2 rfl) ?_
        refine m_get (D := (dC, dI)) (v := .int (nI ((gd L x1).2.2.2.2.2.1))) (C := RX3) (T := TX3) (N := 7) hx hb hts bk1 hown hK hP (2117 + 2 * x1) (ns_p (by omega)) hpx1 rfl 6 (by decide) (hts (.fieldLink RX6 82 "GradientDesk$Part" "sizeD" "I") (List.mem_of_getElem? (i := 7) rfl)) (fun _ h9 => h9) rfl dX6_makeSum_150 ?_
        refine lv_aload hx hb dX6_makeSum_153 (lv_at hl 1 rfl) ?_
        refine m_get (D := (dC, dI)) (v := .int (nI ((gd L y1).2.2.2.2.2.1))) (C := RX3) (T := TX3) (N := 7) hx hb hts bk1 hown hK hP (2117 + 2 * y1) (ns_p (by omega)) hpy1 rfl 6 (by decide) (hts (.fieldLink RX6 82 "GradientDesk$Part" "sizeD" "I") (List.mem_of_getElem? (i := 7) rfl)) (fun _ h9 => h9) rfl dX6_makeSum_155 ?_
        refine lv_iadd hx hb dX6_makeSum_158 ?_
        refine lv_topi (fun x_24 e_25 => ?_)
        obtain rfl : x_24 = nI ((gd L x1).2.2.2.2.2.1 + ((gd L y1).2.2.2.2.2.1)) := e_25.trans (nI_add ((gd L x1).2.2.2.2.2.1) ((gd L y1).2.2.2.2.2.1))
        refine va_calli (va_runV (As := [.int (nI 2), .int (nI x1), .int (nI y1), .int (nI q_21), .int (nI (1 + q_16)), .int (nI ((gd L x1).2.2.2.2.2.1 + ((gd L y1).2.2.2.2.2.1)))]) (rest := []) ⟨hx, hb, hml, hown, hts⟩ (c_V6_keep l dC dI A ad cA g L (2, ((x1 : Nat) : Int), ((y1 : Nat) : Int), max (gd L x1).2.2.2.1 (gd L y1).2.2.2.1, 1 + max ((gd L x1).2.2.2.2.1 + (gd L y1).2.2.2.2.2.1) ((gd L y1).2.2.2.2.1 + (gd L x1).2.2.2.2.2.1), (gd L x1).2.2.2.2.2.1 + (gd L y1).2.2.2.2.2.1, 0, 1) (nI 2) (nI x1) (nI y1) (nI q_21) (nI (1 + q_16)) (nI ((gd L x1).2.2.2.2.2.1 + ((gd L y1).2.2.2.2.2.1))) hC ((show nI 2 = iI 2 from by decide).trans (congrArg iI (by rfl))) ((nI_iI x1).trans (congrArg iI (by rfl))) ((nI_iI y1).trans (congrArg iI (by rfl))) ((nI_iI q_21).trans (congrArg iI (by exact congrArg (fun z : Nat => ((z : Nat) : Int)) hq_21))) ((nI_iI (1 + q_16)).trans (congrArg iI (by exact congrArg (fun z : Nat => ((1 + z : Nat) : Int)) hq_16))) ((nI_iI ((gd L x1).2.2.2.2.2.1 + ((gd L y1).2.2.2.2.2.1))).trans (congrArg iI (by rfl))) (by show 2 ≤ 20000 ∧ -1 ≤ ((x1 : Nat) : Int) ∧ ((x1 : Nat) : Int) ≤ 20000 ∧ -1 ≤ ((y1 : Nat) : Int) ∧ ((y1 : Nat) : Int) ≤ 20000 ∧ max (gd L x1).2.2.2.1 (gd L y1).2.2.2.1 ≤ 20000 ∧ 1 + max ((gd L x1).2.2.2.2.1 + (gd L y1).2.2.2.2.2.1) ((gd L y1).2.2.2.2.1 + (gd L x1).2.2.2.2.2.1) ≤ 20000 ∧ (gd L x1).2.2.2.2.2.1 + (gd L y1).2.2.2.2.2.1 ≤ 20000; omega) (show (2 : Nat) ≠ 0 from by decide)) (cwV 6 hts (goodIn_app (goodIn_r [Cond.methodLink RX6 60 yX6_keep, Cond.instanceMethod yX6_keep, Cond.selects RX6 yX6_keep yX6_keep, Cond.initialized RX6] [13, 14, 15, 5] rfl rfl) (goodIn_sub (fun w9 h9 => bk3 w9 h9) gw_V6_keep)) rfl rfl rfl (by decide +kernel) ⟨Nat.le_of_ble_eq_true rfl, Nat.le_of_ble_eq_true rfl⟩) ⟨fun a U g mk q => ⟨q.1, q.2.1, q.2.2.1, LY.moved (u := U) (U := U.calling g mk a) (Vm.Alike.refl U.vm) q.2.2.2⟩, va_recv hK hP (ci := 9) (q0 := 2080) rfl (wo_at (by decide) hO), fun U hU hW => ⟨rfl, by rw [hU]; exact fun q h => hA q (Nat.le_trans hS.1 h), by rw [hU]; exact hP, LY.moved hW.alike hL⟩⟩ rfl rfl hl.1 rfl (lv_room (Nat.le_of_ble_eq_true rfl)) dX6_makeSum_159 ⟨(Nat.le_of_ble_eq_true rfl), (Nat.le_of_ble_eq_true rfl)⟩) hS (fun q _ h => h) (fun q h => h) (fun r_26 u8 t8 H1 locs ht8 hvm8 hw_27 hB hz1 hk1 hS => ?_)
        obtain ⟨g_28, rfl⟩ : ∃ z, z = u8 := ⟨_, rfl⟩
        try dsimp only at hw_27 hB
        rw [ht8] at hB
        have hP := hB
        generalize H1 = H at hP hS ⊢
        obtain ⟨fr_29, hK⟩ := hw_27
        refine W.widen (k := 0) (n := 0) (by omega) (by omega) ?_
        exact W.iret (v := r_26) hx hb hr (fun t9 ht9 hW9 => ⟨⟨r_26, g_28, rfl, ⟨(fun (k : Nat) (hk : (14 ≤ k ∧ k < 76) ∨ (876 ≤ k ∧ k < 2080) ∨ (2081 ≤ k ∧ k < 2117)) => (fr_29 k (by omega)).trans (rfl)), by unfold sumL; rw [if_neg (show ¬ ((gd L x1).1 = 0 ∧ (gd L y1).1 = 0) from by omega), if_neg (by rw [hx0]; decide), if_neg (by rw [hy0]; decide)]; exact hK⟩, by show va_P (dC, dI) vwCl _ t9.heap; rw [ht9]; exact hP⟩, hS.F ht9⟩) hS.2.2 dX6_makeSum_162
  · have c_3 := (nI_eq (a := ((gd L x1).1)) (b := 0) (by omega) (by decide)).mp c_3
    refine lv_aload hx hb dX6_makeSum_40 (lv_at hl 0 rfl) ?_
    refine m_get (D := (dC, dI)) (v := .int (nI ((gd L y1).1))) (C := RX3) (T := TX3) (N := 7) hx hb hts bk1 hown hK hP (2117 + 2 * y1) (ns_p (by omega)) hpy1 rfl 1 (by decide) (hts (.fieldLink RX6 64 "GradientDesk$Part" "sort" "I") (List.mem_of_getElem? (i := 2) rfl)) (fun _ h9 => h9) rfl dX6_makeSum_42 ?_
    refine lv_if_ne (tgt := 85) hx hb dX6_makeSum_45 (by decide) (fun c_30 => ?_) (fun c_30 => ?_)
    · have c_30 := mt (nI_eq (a := ((gd L y1).1)) (b := 0) (by omega) (by decide)).mpr c_30
      refine lv_aload_n hx hb dX6_makeSum_85 rfl (lv_at hl 1 rfl) ?_
      refine va_calli (va_runS (As := [.ref (ad (2117 + 2 * x1))]) (rest := []) ⟨hx, hb, hml, hown, hts⟩ (c_V6_isZero l dC dI A ad cA g L x1 hC hWf ix) (va_cwS 1 hts (goodIn_app (goodIn_r [Cond.methodLink RX6 75 yX6_isZero, Cond.static yX6_isZero, Cond.initialized RX6] [3, 4, 5] rfl rfl) (goodIn_sub (fun w9 h9 => bk2 w9 h9) gw_V6_isZero)) rfl rfl rfl (by decide +kernel) ⟨Nat.le_of_ble_eq_true rfl, Nat.le_of_ble_eq_true rfl⟩) ⟨fun a U g mk q => ⟨q.1, q.2.1, q.2.2.1, LY.moved (u := U) (U := U.calling g mk a) (Vm.Alike.refl U.vm) q.2.2.2⟩, fun U hU hW => ⟨rfl, by rw [hU]; exact fun q h => hA q (Nat.le_trans hS.1 h), by rw [hU]; exact hP, LY.moved hW.alike hL⟩⟩ rfl rfl hl.1 rfl (lv_room (Nat.le_of_ble_eq_true rfl)) dX6_makeSum_86 ⟨(Nat.le_of_ble_eq_true rfl), (Nat.le_of_ble_eq_true rfl)⟩) hS (fun q _ h => h) (fun q h => h) (fun r_31 u8 t8 H1 locs ht8 hvm8 hw_32 hB hz1 hk1 hS => ?_)
      obtain ⟨⟩ := u8
      try dsimp only at hw_32 hB
      rw [ht8] at hB
      have hP := hB
      generalize H1 = H at hP hS ⊢
      rcases hw_32 with ⟨rfl, hx0⟩ | ⟨rfl, hx0⟩
      · skip
        refine lv_if_eq (tgt := 94) hx hb dX6_makeSum_89 (by decide) (fun c_33 => absurd c_33 (by decide)) (fun c_33 => ?_)
        refine lv_iload_n hx hb dX6_makeSum_92 rfl (lv_at hl 4 rfl) ?_
        refine W.widen (k := 0) (n := 0) (by omega) (by omega) ?_
        exact W.iret (v := nI y1) hx hb hr (fun t9 ht9 hW9 => ⟨⟨nI y1, g, rfl, ⟨(fun (k : Nat) (hk : (14 ≤ k ∧ k < 76) ∨ (876 ≤ k ∧ k < 2080) ∨ (2081 ≤ k ∧ k < 2117)) => rfl), CMK.old (i := y1) (by unfold sumL; rw [if_neg (show ¬ ((gd L x1).1 = 0 ∧ (gd L y1).1 = 0) from by omega), if_pos hx0]) iy hC⟩, by show va_P (dC, dI) vwCl _ t9.heap; rw [ht9]; exact hP⟩, hS.F ht9⟩) hS.2.2 dX6_makeSum_93
      · skip
        refine lv_if_eq (tgt := 94) hx hb dX6_makeSum_89 (by decide) (fun c_34 => ?_) (fun c_34 => absurd c_34 (by decide))
        refine lv_aload hx hb dX6_makeSum_94 (lv_at hl 0 rfl) ?_
        refine va_calli (va_runS (As := [.ref (ad (2117 + 2 * y1))]) (rest := []) ⟨hx, hb, hml, hown, hts⟩ (c_V6_isZero l dC dI A ad cA g L y1 hC hWf iy) (va_cwS 1 hts (goodIn_app (goodIn_r [Cond.methodLink RX6 75 yX6_isZero, Cond.static yX6_isZero, Cond.initialized RX6] [3, 4, 5] rfl rfl) (goodIn_sub (fun w9 h9 => bk2 w9 h9) gw_V6_isZero)) rfl rfl rfl (by decide +kernel) ⟨Nat.le_of_ble_eq_true rfl, Nat.le_of_ble_eq_true rfl⟩) ⟨fun a U g mk q => ⟨q.1, q.2.1, q.2.2.1, LY.moved (u := U) (U := U.calling g mk a) (Vm.Alike.refl U.vm) q.2.2.2⟩, fun U hU hW => ⟨rfl, by rw [hU]; exact fun q h => hA q (Nat.le_trans hS.1 h), by rw [hU]; exact hP, LY.moved hW.alike hL⟩⟩ rfl rfl hl.1 rfl (lv_room (Nat.le_of_ble_eq_true rfl)) dX6_makeSum_96 ⟨(Nat.le_of_ble_eq_true rfl), (Nat.le_of_ble_eq_true rfl)⟩) hS (fun q _ h => h) (fun q h => h) (fun r_35 u8 t8 H1 locs ht8 hvm8 hw_36 hB hz1 hk1 hS => ?_)
        obtain ⟨⟩ := u8
        try dsimp only at hw_36 hB
        rw [ht8] at hB
        have hP := hB
        generalize H1 = H at hP hS ⊢
        rcases hw_36 with ⟨rfl, hy0⟩ | ⟨rfl, hy0⟩
        · skip
          refine lv_if_eq (tgt := 104) hx hb dX6_makeSum_99 (by decide) (fun c_37 => absurd c_37 (by decide)) (fun c_37 => ?_)
          refine lv_iload_n hx hb dX6_makeSum_102 rfl (lv_at hl 3 rfl) ?_
          refine W.widen (k := 0) (n := 0) (by omega) (by omega) ?_
          exact W.iret (v := nI x1) hx hb hr (fun t9 ht9 hW9 => ⟨⟨nI x1, g, rfl, ⟨(fun (k : Nat) (hk : (14 ≤ k ∧ k < 76) ∨ (876 ≤ k ∧ k < 2080) ∨ (2081 ≤ k ∧ k < 2117)) => rfl), CMK.old (i := x1) (by unfold sumL; rw [if_neg (show ¬ ((gd L x1).1 = 0 ∧ (gd L y1).1 = 0) from by omega), if_neg (by rw [hx0]; decide), if_pos hy0]) ix hC⟩, by show va_P (dC, dI) vwCl _ t9.heap; rw [ht9]; exact hP⟩, hS.F ht9⟩) hS.2.2 dX6_makeSum_103
        · skip
          refine lv_if_eq (tgt := 104) hx hb dX6_makeSum_99 (by decide) (fun c_38 => ?_) (fun c_38 => absurd c_38 (by decide))
          refine lv_iconst (v := nI 1) hx hb dX6_makeSum_104 (by decide +kernel) ?_
          refine lv_aload_n hx hb dX6_makeSum_105 rfl (lv_at hl 1 rfl) ?_
          refine m_get (D := (dC, dI)) (v := .int (nI ((gd L x1).2.2.2.2.1))) (C := RX3) (T := TX3) (N := 7) hx hb hts bk1 hown hK hP (2117 + 2 * x1) (ns_p (by omega)) hpx1 rfl 5 (by decide) (hts (.fieldLink RX6 79 "GradientDesk$Part" "sizeN" "I") (List.mem_of_getElem? (i := 6) rfl)) (fun _ h9 => h9) rfl dX6_makeSum_106 ?_
          refine lv_aload hx hb dX6_makeSum_109 (lv_at hl 0 rfl) ?_
          refine m_get (D := (dC, dI)) (v := .int (nI ((gd L y1).2.2.2.2.2.1))) (C := RX3) (T := TX3) (N := 7) hx hb hts bk1 hown hK hP (2117 + 2 * y1) (ns_p (by omega)) hpy1 rfl 6 (by decide) (hts (.fieldLink RX6 82 "GradientDesk$Part" "sizeD" "I") (List.mem_of_getElem? (i := 7) rfl)) (fun _ h9 => h9) rfl dX6_makeSum_111 ?_
          refine lv_iadd hx hb dX6_makeSum_114 ?_
          refine lv_topi (fun x_39 e_40 => ?_)
          obtain rfl : x_39 = nI ((gd L x1).2.2.2.2.1 + ((gd L y1).2.2.2.2.2.1)) := e_40.trans (nI_add ((gd L x1).2.2.2.2.1) ((gd L y1).2.2.2.2.2.1))
          refine lv_aload hx hb dX6_makeSum_115 (lv_at hl 0 rfl) ?_
          refine m_get (D := (dC, dI)) (v := .int (nI ((gd L y1).2.2.2.2.1))) (C := RX3) (T := TX3) (N := 7) hx hb hts bk1 hown hK hP (2117 + 2 * y1) (ns_p (by omega)) hpy1 rfl 5 (by decide) (hts (.fieldLink RX6 79 "GradientDesk$Part" "sizeN" "I") (List.mem_of_getElem? (i := 6) rfl)) (fun _ h9 => h9) rfl dX6_makeSum_117 ?_
          refine lv_aload_n hx hb dX6_makeSum_120 rfl (lv_at hl 1 rfl) ?_
          refine m_get (D := (dC, dI)) (v := .int (nI ((gd L x1).2.2.2.2.2.1))) (C := RX3) (T := TX3) (N := 7) hx hb hts bk1 hown hK hP (2117 + 2 * x1) (ns_p (by omega)) hpx1 rfl 6 (by decide) (hts (.fieldLink RX6 82 "GradientDesk$Part" "sizeD" "I") (List.mem_of_getElem? (i := 7) rfl)) (fun _ h9 => h9) rfl dX6_makeSum_121 ?_
          refine lv_iadd hx hb dX6_makeSum_124 ?_
          refine lv_topi (fun x_41 e_42 => ?_)
          obtain rfl : x_41 = nI ((gd L y1).2.2.2.2.1 + ((gd L x1).2.2.2.2.2.1)) := e_42.trans (nI_add ((gd L y1).2.2.2.2.1) ((gd L x1).2.2.2.2.2.1))
          refine va_mmax hx hb (by rw [hml]; exact hl.1.symm) hown (hts (.methodLink RX6 85 Lib.Math.max.name) (List.mem_of_getElem? (i := 8) rfl)) (hts (.static Lib.Math.max.name) (List.mem_of_getElem? (i := 9) rfl)) (hts (.initialized "java/lang/Math") (List.mem_of_getElem? (i := 10) rfl)) (hts (.code Lib.Math.max.name Lib.Math.max.code 2 (some .int)) (List.mem_of_getElem? (i := 11) rfl)) (Nat.le_of_ble_eq_true rfl) (Nat.le_of_ble_eq_true rfl) (Nat.le_of_ble_eq_true rfl) (Nat.le_of_ble_eq_true rfl) dX6_makeSum_125 ?_
          refine lv_topi (fun x_44 e_45 => ?_)
          obtain ⟨q_43, hq_43, eq_43⟩ : ∃ z : Nat, z = max ((gd L x1).2.2.2.2.1 + ((gd L y1).2.2.2.2.2.1)) ((gd L y1).2.2.2.2.1 + ((gd L x1).2.2.2.2.2.1)) ∧ x_44 = nI z := ⟨_, rfl, by rw [e_45]; exact k_max (by omega) (by omega)⟩
          subst eq_43
          refine lv_iadd hx hb dX6_makeSum_128 ?_
          refine lv_topi (fun x_46 e_47 => ?_)
          obtain rfl : x_46 = nI (1 + q_43) := e_47.trans (nI_add 1 q_43)
          refine lv_istore (lv' := [(5, .int (nI (1 + q_43))), (4, .ref (ad (2117 + 2 * y1))), (3, .ref (ad (2117 + 2 * x1))), (0, .ref (ad 2080)), (1, .int (nI x1)), (2, .int (nI y1))]) hx hb dX6_makeSum_129 hl (by decide) rfl (fun ls hl => ?_)
          refine lv_aload_n hx hb dX6_makeSum_131 rfl (lv_at hl 3 rfl) ?_
          refine lv_iconst (v := nI 2) hx hb dX6_makeSum_132 (by decide +kernel) ?_
          refine lv_iload_n hx hb dX6_makeSum_133 rfl (lv_at hl 4 rfl) ?_
          refine lv_iload_n hx hb dX6_makeSum_134 rfl (lv_at hl 5 rfl) ?_
          refine lv_aload_n hx hb dX6_makeSum_135 rfl (lv_at hl 2 rfl) ?_
          refine m_get (D := (dC, dI)) (v := .int (nI ((gd L x1).2.2.2.1))) (C := RX3) (T := TX3) (N := 7) hx hb hts bk1 hown hK hP (2117 + 2 * x1) (ns_p (by omega)) hpx1 rfl 4 (by decide) (hts (.fieldLink RX6 91 "GradientDesk$Part" "degree" "I") (List.mem_of_getElem? (i := 12) rfl)) (fun _ h9 => h9) rfl dX6_makeSum_136 ?_
          refine lv_aload hx hb dX6_makeSum_139 (lv_at hl 1 rfl) ?_
          refine m_get (D := (dC, dI)) (v := .int (nI ((gd L y1).2.2.2.1))) (C := RX3) (T := TX3) (N := 7) hx hb hts bk1 hown hK hP (2117 + 2 * y1) (ns_p (by omega)) hpy1 rfl 4 (by decide) (hts (.fieldLink RX6 91 "GradientDesk$Part" "degree" "I") (List.mem_of_getElem? (i := 12) rfl)) (fun _ h9 => h9) rfl dX6_makeSum_141 ?_
          refine va_mmax hx hb (by rw [hml]; exact hl.1.symm) hown (hts (.methodLink RX6 85 Lib.Math.max.name) (List.mem_of_getElem? (i := 8) rfl)) (hts (.static Lib.Math.max.name) (List.mem_of_getElem? (i := 9) rfl)) (hts (.initialized "java/lang/Math") (List.mem_of_getElem? (i := 10) rfl)) (hts (.code Lib.Math.max.name Lib.Math.max.code 2 (some .int)) (List.mem_of_getElem? (i := 11) rfl)) (Nat.le_of_ble_eq_true rfl) (Nat.le_of_ble_eq_true rfl) (Nat.le_of_ble_eq_true rfl) (Nat.le_of_ble_eq_true rfl) dX6_makeSum_144 ?_
          refine lv_topi (fun x_49 e_50 => ?_)
          obtain ⟨q_48, hq_48, eq_48⟩ : ∃ z : Nat, z = max ((gd L x1).2.2.2.1) ((gd L y1).2.2.2.1) ∧ x_49 = nI z := ⟨_, rfl, by rw [e_50]; exact k_max (by omega) (by omega)⟩
          subst eq_48
          refine lv_iload hx hb dX6_makeSum_147 (lv_at hl 0 rfl) ?_
          refine lv_aload_n hx hb dX6_makeSum_149 rfl (lv_at hl 2 rfl) ?_
          refine m_get (D := (dC, dI)) (v := .int (nI ((gd L x1).2.2.2.2.2.1))) (C := RX3) (T := TX3) (N := 7) hx hb hts bk1 hown hK hP (2117 + 2 * x1) (ns_p (by omega)) hpx1 rfl 6 (by decide) (hts (.fieldLink RX6 82 "GradientDesk$Part" "sizeD" "I") (List.mem_of_getElem? (i := 7) rfl)) (fun _ h9 => h9) rfl dX6_makeSum_150 ?_
          refine lv_aload hx hb dX6_makeSum_153 (lv_at hl 1 rfl) ?_
          refine m_get (D := (dC, dI)) (v := .int (nI ((gd L y1).2.2.2.2.2.1))) (C := RX3) (T := TX3) (N := 7) hx hb hts bk1 hown hK hP (2117 + 2 * y1) (ns_p (by omega)) hpy1 rfl 6 (by decide) (hts (.fieldLink RX6 82 "GradientDesk$Part" "sizeD" "I") (List.mem_of_getElem? (i := 7) rfl)) (fun _ h9 => h9) rfl dX6_makeSum_155 ?_
          refine lv_iadd hx hb dX6_makeSum_158 ?_
          refine lv_topi (fun x_51 e_52 => ?_)
          obtain rfl : x_51 = nI ((gd L x1).2.2.2.2.2.1 + ((gd L y1).2.2.2.2.2.1)) := e_52.trans (nI_add ((gd L x1).2.2.2.2.2.1) ((gd L y1).2.2.2.2.2.1))
          refine va_calli (va_runV (As := [.int (nI 2), .int (nI x1), .int (nI y1), .int (nI q_48), .int (nI (1 + q_43)), .int (nI ((gd L x1).2.2.2.2.2.1 + ((gd L y1).2.2.2.2.2.1)))]) (rest := []) ⟨hx, hb, hml, hown, hts⟩ (c_V6_keep l dC dI A ad cA g L (2, ((x1 : Nat) : Int), ((y1 : Nat) : Int), max (gd L x1).2.2.2.1 (gd L y1).2.2.2.1, 1 + max ((gd L x1).2.2.2.2.1 + (gd L y1).2.2.2.2.2.1) ((gd L y1).2.2.2.2.1 + (gd L x1).2.2.2.2.2.1), (gd L x1).2.2.2.2.2.1 + (gd L y1).2.2.2.2.2.1, 0, 1) (nI 2) (nI x1) (nI y1) (nI q_48) (nI (1 + q_43)) (nI ((gd L x1).2.2.2.2.2.1 + ((gd L y1).2.2.2.2.2.1))) hC ((show nI 2 = iI 2 from by decide).trans (congrArg iI (by rfl))) ((nI_iI x1).trans (congrArg iI (by rfl))) ((nI_iI y1).trans (congrArg iI (by rfl))) ((nI_iI q_48).trans (congrArg iI (by exact congrArg (fun z : Nat => ((z : Nat) : Int)) hq_48))) ((nI_iI (1 + q_43)).trans (congrArg iI (by exact congrArg (fun z : Nat => ((1 + z : Nat) : Int)) hq_43))) ((nI_iI ((gd L x1).2.2.2.2.2.1 + ((gd L y1).2.2.2.2.2.1))).trans (congrArg iI (by rfl))) (by show 2 ≤ 20000 ∧ -1 ≤ ((x1 : Nat) : Int) ∧ ((x1 : Nat) : Int) ≤ 20000 ∧ -1 ≤ ((y1 : Nat) : Int) ∧ ((y1 : Nat) : Int) ≤ 20000 ∧ max (gd L x1).2.2.2.1 (gd L y1).2.2.2.1 ≤ 20000 ∧ 1 + max ((gd L x1).2.2.2.2.1 + (gd L y1).2.2.2.2.2.1) ((gd L y1).2.2.2.2.1 + (gd L x1).2.2.2.2.2.1) ≤ 20000 ∧ (gd L x1).2.2.2.2.2.1 + (gd L y1).2.2.2.2.2.1 ≤ 20000; omega) (show (2 : Nat) ≠ 0 from by decide)) (cwV 6 hts (goodIn_app (goodIn_r [Cond.methodLink RX6 60 yX6_keep, Cond.instanceMethod yX6_keep, Cond.selects RX6 yX6_keep yX6_keep, Cond.initialized RX6] [13, 14, 15, 5] rfl rfl) (goodIn_sub (fun w9 h9 => bk3 w9 h9) gw_V6_keep)) rfl rfl rfl (by decide +kernel) ⟨Nat.le_of_ble_eq_true rfl, Nat.le_of_ble_eq_true rfl⟩) ⟨fun a U g mk q => ⟨q.1, q.2.1, q.2.2.1, LY.moved (u := U) (U := U.calling g mk a) (Vm.Alike.refl U.vm) q.2.2.2⟩, va_recv hK hP (ci := 9) (q0 := 2080) rfl (wo_at (by decide) hO), fun U hU hW => ⟨rfl, by rw [hU]; exact fun q h => hA q (Nat.le_trans hS.1 h), by rw [hU]; exact hP, LY.moved hW.alike hL⟩⟩ rfl rfl hl.1 rfl (lv_room (Nat.le_of_ble_eq_true rfl)) dX6_makeSum_159 ⟨(Nat.le_of_ble_eq_true rfl), (Nat.le_of_ble_eq_true rfl)⟩) hS (fun q _ h => h) (fun q h => h) (fun r_53 u8 t8 H1 locs ht8 hvm8 hw_54 hB hz1 hk1 hS => ?_)
          obtain ⟨g_55, rfl⟩ : ∃ z, z = u8 := ⟨_, rfl⟩
          try dsimp only at hw_54 hB
          rw [ht8] at hB
          have hP := hB
          generalize H1 = H at hP hS ⊢
          obtain ⟨fr_56, hK⟩ := hw_54
          refine W.widen (k := 0) (n := 0) (by omega) (by omega) ?_
          exact W.iret (v := r_53) hx hb hr (fun t9 ht9 hW9 => ⟨⟨r_53, g_55, rfl, ⟨(fun (k : Nat) (hk : (14 ≤ k ∧ k < 76) ∨ (876 ≤ k ∧ k < 2080) ∨ (2081 ≤ k ∧ k < 2117)) => (fr_56 k (by omega)).trans (rfl)), by unfold sumL; rw [if_neg (show ¬ ((gd L x1).1 = 0 ∧ (gd L y1).1 = 0) from by omega), if_neg (by rw [hx0]; decide), if_neg (by rw [hy0]; decide)]; exact hK⟩, by show va_P (dC, dI) vwCl _ t9.heap; rw [ht9]; exact hP⟩, hS.F ht9⟩) hS.2.2 dX6_makeSum_162
    · have c_30 := (nI_eq (a := ((gd L y1).1)) (b := 0) (by omega) (by decide)).mp c_30
      refine lv_aload_n hx hb dX6_makeSum_48 rfl (lv_at hl 2 rfl) ?_
      refine m_get (D := (dC, dI)) (v := .ref (ad 2077)) (C := RX6) (T := TX6) (N := 7) hx hb hts bk0 hown hK hP 2080 (by decide) hO rfl 4 (by decide) (hts (.fieldLink RX6 41 "GradientDesk$Shelf" "arithmetic" "LGradientDesk$Arithmetic;") (List.mem_of_getElem? (i := 16) rfl)) (fun _ h9 => h9) rfl dX6_makeSum_49 ?_
      refine lv_aload_n hx hb dX6_makeSum_52 rfl (lv_at hl 1 rfl) ?_
      refine m_get (D := (dC, dI)) (v := .ref (ad (2118 + 2 * x1))) (C := RX3) (T := TX3) (N := 7) hx hb hts bk1 hown hK hP (2117 + 2 * x1) (ns_p (by omega)) hpx1 rfl 0 (by decide) (hts (.fieldLink RX6 68 "GradientDesk$Part" "number" "LGradientDesk$Fraction;") (List.mem_of_getElem? (i := 17) rfl)) (fun _ h9 => h9) rfl dX6_makeSum_53 ?_
      refine lv_aload hx hb dX6_makeSum_56 (lv_at hl 0 rfl) ?_
      refine m_get (D := (dC, dI)) (v := .ref (ad (2118 + 2 * y1))) (C := RX3) (T := TX3) (N := 7) hx hb hts bk1 hown hK hP (2117 + 2 * y1) (ns_p (by omega)) hpy1 rfl 0 (by decide) (hts (.fieldLink RX6 68 "GradientDesk$Part" "number" "LGradientDesk$Fraction;") (List.mem_of_getElem? (i := 17) rfl)) (fun _ h9 => h9) rfl dX6_makeSum_58 ?_
      refine lv_iconst (v := nI 0) hx hb dX6_makeSum_61 (by decide +kernel) ?_
      refine lv_aload_n hx hb dX6_makeSum_62 rfl (lv_at hl 2 rfl) ?_
      refine m_get (D := (dC, dI)) (v := .ref (ad 2107)) (C := RX6) (T := TX6) (N := 7) hx hb hts bk0 hown hK hP 2080 (by decide) hO rfl 5 (by decide) (hts (.fieldLink RX6 30 "GradientDesk$Shelf" "work" "LGradientDesk$Fraction;") (List.mem_of_getElem? (i := 18) rfl)) (fun _ h9 => h9) rfl dX6_makeSum_63 ?_
      have n0x1 : (gd L x1).1 = 0 := by omega
      rw [hfnx1] at a6x1
      obtain ⟨n1x1, n2x1, -, -⟩ := a6x1 n0x1
      obtain ⟨b1x1, b2x1, b3x1, -⟩ := num13 hWf ix n0x1
      clear a6x1
      have n0y1 : (gd L y1).1 = 0 := by omega
      rw [hfny1] at a6y1
      obtain ⟨n1y1, n2y1, -, -⟩ := a6y1 n0y1
      obtain ⟨b1y1, b2y1, b3y1, -⟩ := num13 hWf iy n0y1
      clear a6y1
      have hq_60 := hFr x1 (by omega)
      have hq_61 := hFr y1 (by omega)
      refine va_callv (va_runV (As := [.ref (ad (2118 + 2 * x1)), .ref (ad (2118 + 2 * y1)), .int (nI 0), .ref (ad 2107)]) (rest := []) ⟨hx, hb, hml, hown, hts⟩ (c_V0_add l dC dI A ad cA g (2118 + 2 * x1) (38 + 2 * x1) (39 + 2 * x1) (2118 + 2 * y1) (38 + 2 * y1) (39 + 2 * y1) ((gd L x1).2.2.2.2.2.2.1) (((gd L x1).2.2.2.2.2.2.2 : Nat) : Int) ((gd L y1).2.2.2.2.2.2.1) (((gd L y1).2.2.2.2.2.2.2 : Nat) : Int) hW hAr hWk hq_60 (⟨ns_q (by omega), by omega⟩) (by omega) hq_61 (⟨ns_q (by omega), by omega⟩) (by omega) (by omega) (by omega) n1x1 n2x1 n1y1 n2y1 b1x1 (by rw [Int.natAbs_natCast]; exact b2x1) b1y1 (by rw [Int.natAbs_natCast]; exact b2y1)) (cwV 4 hts (goodIn_app (goodIn_r [Cond.methodLink RX6 71 yX0_add, Cond.instanceMethod yX0_add, Cond.selects RX0 yX0_add yX0_add, Cond.initialized RX0] [19, 20, 21, 22] rfl rfl) (goodIn_sub (fun w9 h9 => bk4 w9 h9) gw_V0_add)) rfl rfl rfl (by decide +kernel) ⟨Nat.le_of_ble_eq_true rfl, Nat.le_of_ble_eq_true rfl⟩) ⟨fun a U g mk q => ⟨q.1, q.2.1, q.2.2.1, LY.moved (u := U) (U := U.calling g mk a) (Vm.Alike.refl U.vm) q.2.2.2⟩, va_recv hK hP (ci := 3) (q0 := 2077) rfl (wo_at (by decide) hAr), fun U hU hW => ⟨rfl, by rw [hU]; exact fun q h => hA q (Nat.le_trans hS.1 h), by rw [hU]; exact hP, LY.moved hW.alike hL⟩⟩ rfl rfl hl.1 rfl (lv_room (Nat.le_of_ble_eq_true rfl)) dX6_makeSum_66 ⟨(Nat.le_of_ble_eq_true rfl), (Nat.le_of_ble_eq_true rfl)⟩) hS (fun q _ h => h) (fun q h => h) (fun u8 t8 H1 locs ht8 hvm8 hw_62 hB hz1 hk1 hS => ?_)
      obtain ⟨g_63, rfl⟩ : ∃ z, z = u8 := ⟨_, rfl⟩
      try dsimp only at hw_62 hB
      rw [ht8] at hB
      have hP := hB
      generalize H1 = H at hP hS ⊢
      obtain ⟨fr_64, hAW_57, hv_58, hv_59⟩ := hw_62
      rw [← Int.natCast_mul] at hv_59
      have hqp : 0 < (gd L x1).2.2.2.2.2.2.2 * (gd L y1).2.2.2.2.2.2.2 := Nat.mul_pos b3x1 b3y1
      refine lv_aload_n hx hb dX6_makeSum_69 rfl (lv_at hl 2 rfl) ?_
      have f_65 : g_63 2080 = .inr (9, [.ref (ad 2081), .ref (ad 2082), .int (nI L.length), .ref (ad 2083), .ref (ad 2077), .ref (ad 2107), .ref (ad (2 * 6))]) := (fr_64 2080 (by omega)).trans hO
      refine m_get (D := (dC, dI)) (v := .ref (ad 2077)) (C := RX6) (T := TX6) (N := 7) hx hb hts bk0 hown hK hP 2080 (by decide) f_65 rfl 4 (by decide) (hts (.fieldLink RX6 41 "GradientDesk$Shelf" "arithmetic" "LGradientDesk$Arithmetic;") (List.mem_of_getElem? (i := 16) rfl)) (fun _ h9 => h9) rfl dX6_makeSum_70 ?_
      refine lv_aload_n hx hb dX6_makeSum_73 rfl (lv_at hl 2 rfl) ?_
      refine m_get (D := (dC, dI)) (v := .ref (ad 2107)) (C := RX6) (T := TX6) (N := 7) hx hb hts bk0 hown hK hP 2080 (by decide) f_65 rfl 5 (by decide) (hts (.fieldLink RX6 30 "GradientDesk$Shelf" "work" "LGradientDesk$Fraction;") (List.mem_of_getElem? (i := 18) rfl)) (fun _ h9 => h9) rfl dX6_makeSum_74 ?_
      have f_69 : g_63 2077 = .inr (3, [.ref (ad (2 * 0)), .ref (ad (2 * 1)), .ref (ad (2 * 2)), .ref (ad (2 * 3))]) := (fr_64 2077 (by omega)).trans hAr
      have f_70 : g_63 2107 = .inr (5, [.ref (ad (2 * 4)), .ref (ad (2 * 5))]) := (fr_64 2107 (by omega)).trans hWk
      refine va_callv (va_runV (As := [.ref (ad 2107)]) (rest := []) ⟨hx, hb, hml, hown, hts⟩ (c_V0_reduce l dC dI A ad cA g_63 ((gd L x1).2.2.2.2.2.2.1 * (((gd L y1).2.2.2.2.2.2.2 : Nat) : Int) + (gd L y1).2.2.2.2.2.2.1 * (((gd L x1).2.2.2.2.2.2.2 : Nat) : Int)) ((gd L x1).2.2.2.2.2.2.2 * (gd L y1).2.2.2.2.2.2.2) hAW_57 f_69 f_70 hv_58 hv_59 hqp) (cwV 1 hts (goodIn_app (goodIn_r [Cond.methodLink RX6 54 yX0_reduce, Cond.instanceMethod yX0_reduce, Cond.selects RX0 yX0_reduce yX0_reduce, Cond.initialized RX0] [23, 24, 25, 22] rfl rfl) (goodIn_sub (fun w9 h9 => bk5 w9 h9) gw_V0_reduce)) rfl rfl rfl (by decide +kernel) ⟨Nat.le_of_ble_eq_true rfl, Nat.le_of_ble_eq_true rfl⟩) ⟨fun a U g mk q => ⟨q.1, q.2.1, q.2.2.1, LY.moved (u := U) (U := U.calling g mk a) (Vm.Alike.refl U.vm) q.2.2.2⟩, va_recv hK hP (ci := 3) (q0 := 2077) rfl (wo_at (by decide) f_69), fun U hU hW => ⟨rfl, by rw [hU]; exact fun q h => hA q (Nat.le_trans hS.1 h), by rw [hU]; exact hP, LY.moved hW.alike hL⟩⟩ rfl rfl hl.1 rfl (lv_room (Nat.le_of_ble_eq_true rfl)) dX6_makeSum_77 ⟨(Nat.le_of_ble_eq_true rfl), (Nat.le_of_ble_eq_true rfl)⟩) hS (fun q _ h => h) (fun q h => h) (fun u8 t8 H1 locs ht8 hvm8 hw_71 hB hz1 hk1 hS => ?_)
      obtain ⟨g_72, rfl⟩ : ∃ z, z = u8 := ⟨_, rfl⟩
      try dsimp only at hw_71 hB
      rw [ht8] at hB
      have hP := hB
      generalize H1 = H at hP hS ⊢
      obtain ⟨fr_73, hAW_66, hv_67, hv_68⟩ := hw_71
      refine lv_aload_n hx hb dX6_makeSum_80 rfl (lv_at hl 2 rfl) ?_
      have hC_74 : CS ad cA g_72 L := CS.same hC hAW_66 (fun (k : Nat) (hk : (76 ≤ k ∧ k < 876) ∨ k = 2077 ∨ k = 2107 ∨ k = 2080 ∨ k = 2081 ∨ (2117 ≤ k ∧ k < 2517)) => (fr_73 k (by omega)).trans ((fr_64 k (by omega)).trans (rfl)))
      have f_75 : g_72 2080 = .inr (9, [.ref (ad 2081), .ref (ad 2082), .int (nI L.length), .ref (ad 2083), .ref (ad 2077), .ref (ad 2107), .ref (ad (2 * 6))]) := (fr_73 2080 (by omega)).trans f_65
      refine va_calli (va_runV (As := []) (rest := []) ⟨hx, hb, hml, hown, hts⟩ (c_V6_keepNumber l dC dI A ad cA g_72 L (rdp ((gd L x1).2.2.2.2.2.2.1 * (((gd L y1).2.2.2.2.2.2.2 : Nat) : Int) + (gd L y1).2.2.2.2.2.2.1 * (((gd L x1).2.2.2.2.2.2.2 : Nat) : Int)) ((gd L x1).2.2.2.2.2.2.2 * (gd L y1).2.2.2.2.2.2.2)) (rdq ((gd L x1).2.2.2.2.2.2.1 * (((gd L y1).2.2.2.2.2.2.2 : Nat) : Int) + (gd L y1).2.2.2.2.2.2.1 * (((gd L x1).2.2.2.2.2.2.2 : Nat) : Int)) ((gd L x1).2.2.2.2.2.2.2 * (gd L y1).2.2.2.2.2.2.2)) hC_74 hv_67 hv_68 ((rd_red _ hqp).1)) (cwV 0 hts (goodIn_app (goodIn_r [Cond.methodLink RX6 50 yX6_keepNumber, Cond.instanceMethod yX6_keepNumber, Cond.selects RX6 yX6_keepNumber yX6_keepNumber, Cond.initialized RX6] [26, 27, 28, 5] rfl rfl) (goodIn_sub (fun w9 h9 => bk6 w9 h9) gw_V6_keepNumber)) rfl rfl rfl (by decide +kernel) ⟨Nat.le_of_ble_eq_true rfl, Nat.le_of_ble_eq_true rfl⟩) ⟨fun a U g mk q => ⟨q.1, q.2.1, q.2.2.1, LY.moved (u := U) (U := U.calling g mk a) (Vm.Alike.refl U.vm) q.2.2.2⟩, va_recv hK hP (ci := 9) (q0 := 2080) rfl (wo_at (by decide) f_75), fun U hU hW => ⟨rfl, by rw [hU]; exact fun q h => hA q (Nat.le_trans hS.1 h), by rw [hU]; exact hP, LY.moved hW.alike hL⟩⟩ rfl rfl hl.1 rfl (lv_room (Nat.le_of_ble_eq_true rfl)) dX6_makeSum_81 ⟨(Nat.le_of_ble_eq_true rfl), (Nat.le_of_ble_eq_true rfl)⟩) hS (fun q _ h => h) (fun q h => h) (fun r_76 u8 t8 H1 locs ht8 hvm8 hw_77 hB hz1 hk1 hS => ?_)
      obtain ⟨g_78, rfl⟩ : ∃ z, z = u8 := ⟨_, rfl⟩
      try dsimp only at hw_77 hB
      rw [ht8] at hB
      have hP := hB
      generalize H1 = H at hP hS ⊢
      obtain ⟨fr_79, hK⟩ := hw_77
      refine W.widen (k := 0) (n := 0) (by omega) (by omega) ?_
      exact W.iret (v := r_76) hx hb hr (fun t9 ht9 hW9 => ⟨⟨r_76, g_78, rfl, ⟨(fun (k : Nat) (hk : (14 ≤ k ∧ k < 76) ∨ (876 ≤ k ∧ k < 2080) ∨ (2081 ≤ k ∧ k < 2117)) => (fr_79 k (by omega)).trans ((fr_73 k (by omega)).trans ((fr_64 k (by omega)).trans (rfl)))), by unfold sumL; rw [if_pos ⟨n0x1, n0y1⟩]; exact hK⟩, by show va_P (dC, dI) vwCl _ t9.heap; rw [ht9]; exact hP⟩, hS.F ht9⟩) hS.2.2 dX6_makeSum_84
end
section
def wd_V6_makeProduct : List Cond := .code yX6_makeProduct cX6_makeProduct 6 (some .int) :: (([.fieldLink RX6 11 "GradientDesk$Shelf" "parts" "[LGradientDesk$Part;", .fieldLink RX6 64 "GradientDesk$Part" "sort" "I", .methodLink RX6 75 yX6_isZero, .static yX6_isZero, .initialized RX6, .methodLink RX6 98 yX6_isUnit, .static yX6_isUnit, .fieldLink RX6 79 "GradientDesk$Part" "sizeN" "I", .fieldLink RX6 91 "GradientDesk$Part" "degree" "I", .fieldLink RX6 82 "GradientDesk$Part" "sizeD" "I", .methodLink RX6 60 yX6_keep, .instanceMethod yX6_keep, .selects RX6 yX6_keep yX6_keep, .fieldLink RX6 41 "GradientDesk$Shelf" "arithmetic" "LGradientDesk$Arithmetic;", .fieldLink RX6 68 "GradientDesk$Part" "number" "LGradientDesk$Fraction;", .fieldLink RX6 30 "GradientDesk$Shelf" "work" "LGradientDesk$Fraction;", .methodLink RX6 94 yX0_multiply, .instanceMethod yX0_multiply, .selects RX0 yX0_multiply yX0_multiply, .initialized RX0, .methodLink RX6 54 yX0_reduce, .instanceMethod yX0_reduce, .selects RX0 yX0_reduce yX0_reduce, .methodLink RX6 50 yX6_keepNumber, .instanceMethod yX6_keepNumber, .selects RX6 yX6_keepNumber yX6_keepNumber] : List Cond) ++ (u_ws RX6 TX6 7 ++ (u_ws RX3 TX3 7 ++ (wd_V6_isZero ++ (wd_V6_isUnit ++ (wd_V6_keep ++ (wd_V0_multiply ++ (wd_V0_reduce ++ (wd_V6_keepNumber ++ ([]))))))))))
theorem gw_V6_makeProduct : wd_V6_makeProduct.all goodWord = true := k_allc rfl (k_all (by decide +kernel) (k_all (gu_X6) (k_all (gu_X3) (k_all (gw_V6_isZero) (k_all (gw_V6_isUnit) (k_all (gw_V6_keep) (k_all (gw_V0_multiply) (k_all (gw_V0_reduce) (k_all (gw_V6_keepNumber) (rfl))))))))))
set_option maxHeartbeats 4000000 in
set_option maxRecDepth 100000 in
theorem c_V6_makeProduct (l : Launch) (dC : Nat → ClassId) (dI : Nat → Nat → Nat) (A : Nat → Prop) (ad : Nat → Nat) (cA : Nat → ClassId) (g : Nat → va_E) (L : List PD) (x1 : Nat) (y1 : Nat) (hC : CS ad cA g L) (hWf : WFL L) (ix : x1 < L.length) (iy : y1 < L.length) : Met l yX6_makeProduct wd_V6_makeProduct ({ frames := 50, cells := 0, slots := 0, locals := 1000 }) (va_Pc [.ref (ad 2080), .int (nI x1), .int (nI y1)] (PR NSc tyc dC dI A ad cA g)) (va_Qi (fun (r : Int32) => fun (u : Nat → va_E) => match u with | g2 => (∀ k, (14 ≤ k ∧ k < 76) ∨ (876 ≤ k ∧ k < 2080) ∨ (2081 ≤ k ∧ k < 2117) → g2 k = g k) ∧ CMK ad cA g2 (prdL L x1 y1) r) (fun (u : Nat → va_E) (t : State) => va_P (dC, dI) vwCl (wo ad NSc u) t.heap) A) (0) (0) A := by
  refine Met.ofW (cc := cX6_makeProduct) (maxL := 6) (ret := (some .int)) (by decide) rfl ?_
  intro p e s m args below meth c s₁ B hml hv
  obtain ⟨rfl, hA, hP, hL⟩ := hv
  have hx := B.exec
  have hb := B.bytes
  have hr := B.returns
  have hts := atoms_spec (ws := wd_V6_makeProduct) B.pre
  have hown : s.vm.findClass RX6 = some m.cls := findClass_of_methodNamed B.named
  have hlocks := B.notSynchronized
  have hK := hL.1
  have hD : ∀ g, va_D A (wo ad NSc g) := fun g => wo_D hL.2.1 hL.2.2 g
  have hS : va_S A s.heap s.heap [] := va_S.rf
  have bk0 : ∀ w ∈ u_ws RX6 TX6 7, w ∈ wd_V6_makeProduct := fun _ h => List.mem_cons_of_mem _ (List.mem_append_right _ (List.mem_append_left _ h))
  have bk1 : ∀ w ∈ u_ws RX3 TX3 7, w ∈ wd_V6_makeProduct := fun _ h => List.mem_cons_of_mem _ (List.mem_append_right _ (List.mem_append_right _ (List.mem_append_left _ h)))
  have bk2 : ∀ w ∈ wd_V6_isZero, w ∈ wd_V6_makeProduct := fun _ h => List.mem_cons_of_mem _ (List.mem_append_right _ (List.mem_append_right _ (List.mem_append_right _ (List.mem_append_left _ h))))
  have bk3 : ∀ w ∈ wd_V6_isUnit, w ∈ wd_V6_makeProduct := fun _ h => List.mem_cons_of_mem _ (List.mem_append_right _ (List.mem_append_right _ (List.mem_append_right _ (List.mem_append_right _ (List.mem_append_left _ h)))))
  have bk4 : ∀ w ∈ wd_V6_keep, w ∈ wd_V6_makeProduct := fun _ h => List.mem_cons_of_mem _ (List.mem_append_right _ (List.mem_append_right _ (List.mem_append_right _ (List.mem_append_right _ (List.mem_append_right _ (List.mem_append_left _ h))))))
  have bk5 : ∀ w ∈ wd_V0_multiply, w ∈ wd_V6_makeProduct := fun _ h => List.mem_cons_of_mem _ (List.mem_append_right _ (List.mem_append_right _ (List.mem_append_right _ (List.mem_append_right _ (List.mem_append_right _ (List.mem_append_right _ (List.mem_append_left _ h)))))))
  have bk6 : ∀ w ∈ wd_V0_reduce, w ∈ wd_V6_makeProduct := fun _ h => List.mem_cons_of_mem _ (List.mem_append_right _ (List.mem_append_right _ (List.mem_append_right _ (List.mem_append_right _ (List.mem_append_right _ (List.mem_append_right _ (List.mem_append_right _ (List.mem_append_left _ h))))))))
  have bk7 : ∀ w ∈ wd_V6_keepNumber, w ∈ wd_V6_makeProduct := fun _ h => List.mem_cons_of_mem _ (List.mem_append_right _ (List.mem_append_right _ (List.mem_append_right _ (List.mem_append_right _ (List.mem_append_right _ (List.mem_append_right _ (List.mem_append_right _ (List.mem_append_right _ (List.mem_append_left _ h)))))))))
  have hl := lv_entry ([.ref (ad 2080), .int (nI x1), .int (nI y1)]) (n := 6) (Nat.le_of_ble_eq_true rfl)
  rw [lg_entry_eq]
  generalize (lg_sl ([.ref (ad 2080), .int (nI x1), .int (nI y1)]) ++ List.replicate (6 - (lg_sl ([.ref (ad 2080), .int (nI x1), .int (nI y1)])).length) Slot.unset).toArray = ls at hl ⊢
  have hl : lv_has ls 6 [(0, .ref (ad 2080)), (1, .int (nI x1)), (2, .int (nI y1))] := hl
  have hC0 := hC
  obtain ⟨hLn, hW, ⟨hAr, hWk, hPa, hFr⟩, hO, pt, hPt, hM⟩ := hC0
  unfold CSO at hO
  have hpb := hPt.2
  obtain ⟨a0x1, a1x1, a2x1, a3x1, a4x1, a5x1, a6x1⟩ := hM x1 ix
  obtain ⟨w1x1, w2x1, w3x1, w4x1, w5x1, -⟩ := hWf x1 ix
  have hpx1 : g (2117 + 2 * x1) = .inr (6, [.ref (ad (2118 + 2 * x1)), .int (nI ((gd L x1).1)), .int (iI ((gd L x1).2.1)), .int (iI ((gd L x1).2.2.1)), .int (nI ((gd L x1).2.2.2.1)), .int (nI ((gd L x1).2.2.2.2.1)), .int (nI ((gd L x1).2.2.2.2.2.1))]) := by rw [hPt.1 x1 (by clear a6x1; omega), a0x1, a1x1, a2x1, a3x1, a4x1, a5x1, nI_iI, nI_iI, nI_iI, nI_iI]
  obtain ⟨fnx1, hfnx1⟩ : ∃ z : Prop, z = ((gd L x1).1 = 0 → CMN ad cA g (gd L x1) x1) := ⟨_, rfl⟩
  rw [← hfnx1] at a6x1
  obtain ⟨a0y1, a1y1, a2y1, a3y1, a4y1, a5y1, a6y1⟩ := hM y1 iy
  obtain ⟨w1y1, w2y1, w3y1, w4y1, w5y1, -⟩ := hWf y1 iy
  have hpy1 : g (2117 + 2 * y1) = .inr (6, [.ref (ad (2118 + 2 * y1)), .int (nI ((gd L y1).1)), .int (iI ((gd L y1).2.1)), .int (iI ((gd L y1).2.2.1)), .int (nI ((gd L y1).2.2.2.1)), .int (nI ((gd L y1).2.2.2.2.1)), .int (nI ((gd L y1).2.2.2.2.2.1))]) := by rw [hPt.1 y1 (by clear a6y1; omega), a0y1, a1y1, a2y1, a3y1, a4y1, a5y1, nI_iI, nI_iI, nI_iI, nI_iI]
  obtain ⟨fny1, hfny1⟩ : ∃ z : Prop, z = ((gd L y1).1 = 0 → CMN ad cA g (gd L y1) y1) := ⟨_, rfl⟩
  rw [← hfny1] at a6y1
  refine lv_iload_n hx hb dX6_makeProduct_0 rfl (lv_at hl 1 rfl) ?_
  refine lv_if_lt (tgt := 8) hx hb dX6_makeProduct_1 (by decide) (fun c_1 => absurd ((nI_ltI (a := x1) (b := 0) (by omega) (by decide)).mp c_1) (by omega)) (fun c_1 => ?_)
  refine lv_iload_n hx hb dX6_makeProduct_4 rfl (lv_at hl 2 rfl) ?_
  refine lv_if_ge (tgt := 18) hx hb dX6_makeProduct_5 (by decide) (fun c_2 => ?_) (fun c_2 => absurd (mt (nI_leI (a := 0) (b := y1) (by decide) (by omega)).mpr c_2) (by omega))
  refine lv_aload_n hx hb dX6_makeProduct_18 rfl (lv_at hl 0 rfl) ?_
  refine m_get (D := (dC, dI)) (v := .ref (ad 2081)) (C := RX6) (T := TX6) (N := 7) hx hb hts bk0 hown hK hP 2080 (by decide) hO rfl 0 (by decide) (hts (.fieldLink RX6 11 "GradientDesk$Shelf" "parts" "[LGradientDesk$Part;") (List.mem_of_getElem? (i := 1) rfl)) (fun _ h9 => h9) rfl dX6_makeProduct_19 ?_
  refine lv_iload_n hx hb dX6_makeProduct_22 rfl (lv_at hl 1 rfl) ?_
  refine m_aald hx hb hK hP 2081 (by decide) rfl hPa (i := x1) (v := ad (2117 + 2 * x1)) (by omega) (by decide) rfl dX6_makeProduct_23 ?_
  refine lv_astore_n (lv' := [(3, .ref (ad (2117 + 2 * x1))), (0, .ref (ad 2080)), (1, .int (nI x1)), (2, .int (nI y1))]) hx hb dX6_makeProduct_24 rfl hl (by decide) rfl (fun ls hl => ?_)
  refine lv_aload_n hx hb dX6_makeProduct_25 rfl (lv_at hl 1 rfl) ?_
  refine m_get (D := (dC, dI)) (v := .ref (ad 2081)) (C := RX6) (T := TX6) (N := 7) hx hb hts bk0 hown hK hP 2080 (by decide) hO rfl 0 (by decide) (hts (.fieldLink RX6 11 "GradientDesk$Shelf" "parts" "[LGradientDesk$Part;") (List.mem_of_getElem? (i := 1) rfl)) (fun _ h9 => h9) rfl dX6_makeProduct_26 ?_
  refine lv_iload_n hx hb dX6_makeProduct_29 rfl (lv_at hl 3 rfl) ?_
  refine m_aald hx hb hK hP 2081 (by decide) rfl hPa (i := y1) (v := ad (2117 + 2 * y1)) (by omega) (by decide) rfl dX6_makeProduct_30 ?_
  refine lv_astore (lv' := [(4, .ref (ad (2117 + 2 * y1))), (3, .ref (ad (2117 + 2 * x1))), (0, .ref (ad 2080)), (1, .int (nI x1)), (2, .int (nI y1))]) hx hb dX6_makeProduct_31 hl (by decide) rfl (fun ls hl => ?_)
  refine lv_aload_n hx hb dX6_makeProduct_33 rfl (lv_at hl 1 rfl) ?_
  refine m_get (D := (dC, dI)) (v := .int (nI ((gd L x1).1))) (C := RX3) (T := TX3) (N := 7) hx hb hts bk1 hown hK hP (2117 + 2 * x1) (ns_p (by omega)) hpx1 rfl 1 (by decide) (hts (.fieldLink RX6 64 "GradientDesk$Part" "sort" "I") (List.mem_of_getElem? (i := 2) rfl)) (fun _ h9 => h9) rfl dX6_makeProduct_34 ?_
  refine lv_if_ne (tgt := 84) hx hb dX6_makeProduct_37 (by decide) (fun c_3 => ?_) (fun c_3 => ?_)
  · have c_3 := mt (nI_eq (a := ((gd L x1).1)) (b := 0) (by omega) (by decide)).mpr c_3
    refine lv_aload_n hx hb dX6_makeProduct_84 rfl (lv_at hl 1 rfl) ?_
    refine va_calli (va_runS (As := [.ref (ad (2117 + 2 * x1))]) (rest := []) ⟨hx, hb, hml, hown, hts⟩ (c_V6_isZero l dC dI A ad cA g L x1 hC hWf ix) (va_cwS 1 hts (goodIn_app (goodIn_r [Cond.methodLink RX6 75 yX6_isZero, Cond.static yX6_isZero, Cond.initialized RX6] [3, 4, 5] rfl rfl) (goodIn_sub (fun w9 h9 => bk2 w9 h9) gw_V6_isZero)) rfl rfl rfl (by decide +kernel) ⟨Nat.le_of_ble_eq_true rfl, Nat.le_of_ble_eq_true rfl⟩) ⟨fun a U g mk q => ⟨q.1, q.2.1, q.2.2.1, LY.moved (u := U) (U := U.calling g mk a) (Vm.Alike.refl U.vm) q.2.2.2⟩, fun U hU hW => ⟨rfl, by rw [hU]; exact fun q h => hA q (Nat.le_trans hS.1 h), by rw [hU]; exact hP, LY.moved hW.alike hL⟩⟩ rfl rfl hl.1 rfl (lv_room (Nat.le_of_ble_eq_true rfl)) dX6_makeProduct_85 ⟨(Nat.le_of_ble_eq_true rfl), (Nat.le_of_ble_eq_true rfl)⟩) hS (fun q _ h => h) (fun q h => h) (fun r_4 u8 t8 H1 locs ht8 hvm8 hw_5 hB hz1 hk1 hS => ?_)
    obtain ⟨⟩ := u8
    try dsimp only at hw_5 hB
    rw [ht8] at hB
    have hP := hB
    generalize H1 = H at hP hS ⊢
    rcases hw_5 with ⟨rfl, hx0⟩ | ⟨rfl, hx0⟩
    · skip
      refine lv_if_ne (tgt := 99) hx hb dX6_makeProduct_88 (by decide) (fun c_6 => ?_) (fun c_6 => absurd c_6 (by decide))
      refine lv_iload_n hx hb dX6_makeProduct_99 rfl (lv_at hl 3 rfl) ?_
      refine W.widen (k := 0) (n := 0) (by omega) (by omega) ?_
      exact W.iret (v := nI x1) hx hb hr (fun t9 ht9 hW9 => ⟨⟨nI x1, g, rfl, ⟨(fun (k : Nat) (hk : (14 ≤ k ∧ k < 76) ∨ (876 ≤ k ∧ k < 2080) ∨ (2081 ≤ k ∧ k < 2117)) => rfl), CMK.old (i := x1) (by unfold prdL; rw [if_neg (show ¬ ((gd L x1).1 = 0 ∧ (gd L y1).1 = 0) from by omega), if_pos hx0]) ix hC⟩, by show va_P (dC, dI) vwCl _ t9.heap; rw [ht9]; exact hP⟩, hS.F ht9⟩) hS.2.2 dX6_makeProduct_100
    · skip
      refine lv_if_ne (tgt := 99) hx hb dX6_makeProduct_88 (by decide) (fun c_7 => absurd c_7 (by decide)) (fun c_7 => ?_)
      refine lv_aload hx hb dX6_makeProduct_91 (lv_at hl 0 rfl) ?_
      refine va_calli (va_runS (As := [.ref (ad (2117 + 2 * y1))]) (rest := []) ⟨hx, hb, hml, hown, hts⟩ (c_V6_isUnit l dC dI A ad cA g L y1 hC hWf iy) (va_cwS 1 hts (goodIn_app (goodIn_r [Cond.methodLink RX6 98 yX6_isUnit, Cond.static yX6_isUnit, Cond.initialized RX6] [6, 7, 5] rfl rfl) (goodIn_sub (fun w9 h9 => bk3 w9 h9) gw_V6_isUnit)) rfl rfl rfl (by decide +kernel) ⟨Nat.le_of_ble_eq_true rfl, Nat.le_of_ble_eq_true rfl⟩) ⟨fun a U g mk q => ⟨q.1, q.2.1, q.2.2.1, LY.moved (u := U) (U := U.calling g mk a) (Vm.Alike.refl U.vm) q.2.2.2⟩, fun U hU hW => ⟨rfl, by rw [hU]; exact fun q h => hA q (Nat.le_trans hS.1 h), by rw [hU]; exact hP, LY.moved hW.alike hL⟩⟩ rfl rfl hl.1 rfl (lv_room (Nat.le_of_ble_eq_true rfl)) dX6_makeProduct_93 ⟨(Nat.le_of_ble_eq_true rfl), (Nat.le_of_ble_eq_true rfl)⟩) hS (fun q _ h => h) (fun q h => h) (fun r_8 u8 t8 H1 locs ht8 hvm8 hw_9 hB hz1 hk1 hS => ?_)
      obtain ⟨⟩ := u8
      try dsimp only at hw_9 hB
      rw [ht8] at hB
      have hP := hB
      generalize H1 = H at hP hS ⊢
      rcases hw_9 with ⟨rfl, hy1⟩ | ⟨rfl, hy1⟩
      · skip
        refine lv_if_eq (tgt := 101) hx hb dX6_makeProduct_96 (by decide) (fun c_10 => absurd c_10 (by decide)) (fun c_10 => ?_)
        refine lv_iload_n hx hb dX6_makeProduct_99 rfl (lv_at hl 3 rfl) ?_
        have hyz := isN_01 hy1
        have hyn := isN_n hy1
        have hxn : isN (gd L x1) 1 = false := isN_nn (by omega)
        refine W.widen (k := 0) (n := 0) (by omega) (by omega) ?_
        exact W.iret (v := nI x1) hx hb hr (fun t9 ht9 hW9 => ⟨⟨nI x1, g, rfl, ⟨(fun (k : Nat) (hk : (14 ≤ k ∧ k < 76) ∨ (876 ≤ k ∧ k < 2080) ∨ (2081 ≤ k ∧ k < 2117)) => rfl), CMK.old (i := x1) (by unfold prdL; rw [if_neg (show ¬ ((gd L x1).1 = 0 ∧ (gd L y1).1 = 0) from by omega), if_neg (by rw [hx0]; decide), if_neg (by rw [hyz]; decide), if_neg (by rw [hxn]; decide), if_pos hy1]) ix hC⟩, by show va_P (dC, dI) vwCl _ t9.heap; rw [ht9]; exact hP⟩, hS.F ht9⟩) hS.2.2 dX6_makeProduct_100
      · skip
        refine lv_if_eq (tgt := 101) hx hb dX6_makeProduct_96 (by decide) (fun c_11 => ?_) (fun c_11 => absurd c_11 (by decide))
        refine lv_aload hx hb dX6_makeProduct_101 (lv_at hl 0 rfl) ?_
        refine va_calli (va_runS (As := [.ref (ad (2117 + 2 * y1))]) (rest := []) ⟨hx, hb, hml, hown, hts⟩ (c_V6_isZero l dC dI A ad cA g L y1 hC hWf iy) (va_cwS 1 hts (goodIn_app (goodIn_r [Cond.methodLink RX6 75 yX6_isZero, Cond.static yX6_isZero, Cond.initialized RX6] [3, 4, 5] rfl rfl) (goodIn_sub (fun w9 h9 => bk2 w9 h9) gw_V6_isZero)) rfl rfl rfl (by decide +kernel) ⟨Nat.le_of_ble_eq_true rfl, Nat.le_of_ble_eq_true rfl⟩) ⟨fun a U g mk q => ⟨q.1, q.2.1, q.2.2.1, LY.moved (u := U) (U := U.calling g mk a) (Vm.Alike.refl U.vm) q.2.2.2⟩, fun U hU hW => ⟨rfl, by rw [hU]; exact fun q h => hA q (Nat.le_trans hS.1 h), by rw [hU]; exact hP, LY.moved hW.alike hL⟩⟩ rfl rfl hl.1 rfl (lv_room (Nat.le_of_ble_eq_true rfl)) dX6_makeProduct_103 ⟨(Nat.le_of_ble_eq_true rfl), (Nat.le_of_ble_eq_true rfl)⟩) hS (fun q _ h => h) (fun q h => h) (fun r_12 u8 t8 H1 locs ht8 hvm8 hw_13 hB hz1 hk1 hS => ?_)
        obtain ⟨⟩ := u8
        try dsimp only at hw_13 hB
        rw [ht8] at hB
        have hP := hB
        generalize H1 = H at hP hS ⊢
        rcases hw_13 with ⟨rfl, hy0⟩ | ⟨rfl, hy0⟩
        · skip
          refine lv_if_ne (tgt := 116) hx hb dX6_makeProduct_106 (by decide) (fun c_14 => ?_) (fun c_14 => absurd c_14 (by decide))
          refine lv_iload_n hx hb dX6_makeProduct_116 rfl (lv_at hl 4 rfl) ?_
          refine W.widen (k := 0) (n := 0) (by omega) (by omega) ?_
          exact W.iret (v := nI y1) hx hb hr (fun t9 ht9 hW9 => ⟨⟨nI y1, g, rfl, ⟨(fun (k : Nat) (hk : (14 ≤ k ∧ k < 76) ∨ (876 ≤ k ∧ k < 2080) ∨ (2081 ≤ k ∧ k < 2117)) => rfl), CMK.old (i := y1) (by unfold prdL; rw [if_neg (show ¬ ((gd L x1).1 = 0 ∧ (gd L y1).1 = 0) from by omega), if_neg (by rw [hx0]; decide), if_pos hy0]) iy hC⟩, by show va_P (dC, dI) vwCl _ t9.heap; rw [ht9]; exact hP⟩, hS.F ht9⟩) hS.2.2 dX6_makeProduct_117
        · skip
          refine lv_if_ne (tgt := 116) hx hb dX6_makeProduct_106 (by decide) (fun c_15 => absurd c_15 (by decide)) (fun c_15 => ?_)
          refine lv_aload_n hx hb dX6_makeProduct_109 rfl (lv_at hl 1 rfl) ?_
          refine va_calli (va_runS (As := [.ref (ad (2117 + 2 * x1))]) (rest := []) ⟨hx, hb, hml, hown, hts⟩ (c_V6_isUnit l dC dI A ad cA g L x1 hC hWf ix) (va_cwS 1 hts (goodIn_app (goodIn_r [Cond.methodLink RX6 98 yX6_isUnit, Cond.static yX6_isUnit, Cond.initialized RX6] [6, 7, 5] rfl rfl) (goodIn_sub (fun w9 h9 => bk3 w9 h9) gw_V6_isUnit)) rfl rfl rfl (by decide +kernel) ⟨Nat.le_of_ble_eq_true rfl, Nat.le_of_ble_eq_true rfl⟩) ⟨fun a U g mk q => ⟨q.1, q.2.1, q.2.2.1, LY.moved (u := U) (U := U.calling g mk a) (Vm.Alike.refl U.vm) q.2.2.2⟩, fun U hU hW => ⟨rfl, by rw [hU]; exact fun q h => hA q (Nat.le_trans hS.1 h), by rw [hU]; exact hP, LY.moved hW.alike hL⟩⟩ rfl rfl hl.1 rfl (lv_room (Nat.le_of_ble_eq_true rfl)) dX6_makeProduct_110 ⟨(Nat.le_of_ble_eq_true rfl), (Nat.le_of_ble_eq_true rfl)⟩) hS (fun q _ h => h) (fun q h => h) (fun r_16 u8 t8 H1 locs ht8 hvm8 hw_17 hB hz1 hk1 hS => ?_)
          obtain ⟨⟩ := u8
          try dsimp only at hw_17 hB
          rw [ht8] at hB
          have hP := hB
          generalize H1 = H at hP hS ⊢
          rcases hw_17 with ⟨rfl, hx1⟩ | ⟨rfl, hx1⟩
          · skip
            refine lv_if_eq (tgt := 118) hx hb dX6_makeProduct_113 (by decide) (fun c_18 => absurd c_18 (by decide)) (fun c_18 => ?_)
            refine lv_iload_n hx hb dX6_makeProduct_116 rfl (lv_at hl 4 rfl) ?_
            refine W.widen (k := 0) (n := 0) (by omega) (by omega) ?_
            exact W.iret (v := nI y1) hx hb hr (fun t9 ht9 hW9 => ⟨⟨nI y1, g, rfl, ⟨(fun (k : Nat) (hk : (14 ≤ k ∧ k < 76) ∨ (876 ≤ k ∧ k < 2080) ∨ (2081 ≤ k ∧ k < 2117)) => rfl), CMK.old (i := y1) (by unfold prdL; rw [if_neg (show ¬ ((gd L x1).1 = 0 ∧ (gd L y1).1 = 0) from by omega), if_neg (by rw [hx0]; decide), if_neg (by rw [hy0]; decide), if_pos hx1]) iy hC⟩, by show va_P (dC, dI) vwCl _ t9.heap; rw [ht9]; exact hP⟩, hS.F ht9⟩) hS.2.2 dX6_makeProduct_117
          · skip
            refine lv_if_eq (tgt := 118) hx hb dX6_makeProduct_113 (by decide) (fun c_19 => ?_) (fun c_19 => absurd c_19 (by decide))
            refine lv_aload_n hx hb dX6_makeProduct_118 rfl (lv_at hl 1 rfl) ?_
            refine m_get (D := (dC, dI)) (v := .int (nI ((gd L x1).2.2.2.2.1))) (C := RX3) (T := TX3) (N := 7) hx hb hts bk1 hown hK hP (2117 + 2 * x1) (ns_p (by omega)) hpx1 rfl 5 (by decide) (hts (.fieldLink RX6 79 "GradientDesk$Part" "sizeN" "I") (List.mem_of_getElem? (i := 8) rfl)) (fun _ h9 => h9) rfl dX6_makeProduct_119 ?_
            refine lv_aload hx hb dX6_makeProduct_122 (lv_at hl 0 rfl) ?_
            refine m_get (D := (dC, dI)) (v := .int (nI ((gd L y1).2.2.2.2.1))) (C := RX3) (T := TX3) (N := 7) hx hb hts bk1 hown hK hP (2117 + 2 * y1) (ns_p (by omega)) hpy1 rfl 5 (by decide) (hts (.fieldLink RX6 79 "GradientDesk$Part" "sizeN" "I") (List.mem_of_getElem? (i := 8) rfl)) (fun _ h9 => h9) rfl dX6_makeProduct_124 ?_
            refine lv_iadd hx hb dX6_makeProduct_127 ?_
            refine lv_topi (fun x_20 e_21 => ?_)
            obtain rfl : x_20 = nI ((gd L x1).2.2.2.2.1 + ((gd L y1).2.2.2.2.1)) := e_21.trans (nI_add ((gd L x1).2.2.2.2.1) ((gd L y1).2.2.2.2.1))
            refine lv_bipush (v := nI 8) hx hb dX6_makeProduct_128 (by decide +kernel) ?_
            refine lv_iadd hx hb dX6_makeProduct_130 ?_
            refine lv_topi (fun x_22 e_23 => ?_)
            obtain rfl : x_22 = nI ((gd L x1).2.2.2.2.1 + ((gd L y1).2.2.2.2.1) + 8) := e_23.trans (nI_add ((gd L x1).2.2.2.2.1 + ((gd L y1).2.2.2.2.1)) 8)
            refine lv_istore (lv' := [(5, .int (nI ((gd L x1).2.2.2.2.1 + ((gd L y1).2.2.2.2.1) + 8))), (4, .ref (ad (2117 + 2 * y1))), (3, .ref (ad (2117 + 2 * x1))), (0, .ref (ad 2080)), (1, .int (nI x1)), (2, .int (nI y1))]) hx hb dX6_makeProduct_131 hl (by decide) rfl (fun ls hl => ?_)
            refine lv_aload_n hx hb dX6_makeProduct_133 rfl (lv_at hl 3 rfl) ?_
            refine lv_iconst (v := nI 3) hx hb dX6_makeProduct_134 (by decide +kernel) ?_
            refine lv_iload_n hx hb dX6_makeProduct_135 rfl (lv_at hl 4 rfl) ?_
            refine lv_iload_n hx hb dX6_makeProduct_136 rfl (lv_at hl 5 rfl) ?_
            refine lv_aload_n hx hb dX6_makeProduct_137 rfl (lv_at hl 2 rfl) ?_
            refine m_get (D := (dC, dI)) (v := .int (nI ((gd L x1).2.2.2.1))) (C := RX3) (T := TX3) (N := 7) hx hb hts bk1 hown hK hP (2117 + 2 * x1) (ns_p (by omega)) hpx1 rfl 4 (by decide) (hts (.fieldLink RX6 91 "GradientDesk$Part" "degree" "I") (List.mem_of_getElem? (i := 9) rfl)) (fun _ h9 => h9) rfl dX6_makeProduct_138 ?_
            refine lv_aload hx hb dX6_makeProduct_141 (lv_at hl 1 rfl) ?_
            refine m_get (D := (dC, dI)) (v := .int (nI ((gd L y1).2.2.2.1))) (C := RX3) (T := TX3) (N := 7) hx hb hts bk1 hown hK hP (2117 + 2 * y1) (ns_p (by omega)) hpy1 rfl 4 (by decide) (hts (.fieldLink RX6 91 "GradientDesk$Part" "degree" "I") (List.mem_of_getElem? (i := 9) rfl)) (fun _ h9 => h9) rfl dX6_makeProduct_143 ?_
            refine lv_iadd hx hb dX6_makeProduct_146 ?_
            refine lv_topi (fun x_24 e_25 => ?_)
            obtain rfl : x_24 = nI ((gd L x1).2.2.2.1 + ((gd L y1).2.2.2.1)) := e_25.trans (nI_add ((gd L x1).2.2.2.1) ((gd L y1).2.2.2.1))
            refine lv_iload hx hb dX6_makeProduct_147 (lv_at hl 0 rfl) ?_
            refine lv_aload_n hx hb dX6_makeProduct_149 rfl (lv_at hl 2 rfl) ?_
            refine m_get (D := (dC, dI)) (v := .int (nI ((gd L x1).2.2.2.2.2.1))) (C := RX3) (T := TX3) (N := 7) hx hb hts bk1 hown hK hP (2117 + 2 * x1) (ns_p (by omega)) hpx1 rfl 6 (by decide) (hts (.fieldLink RX6 82 "GradientDesk$Part" "sizeD" "I") (List.mem_of_getElem? (i := 10) rfl)) (fun _ h9 => h9) rfl dX6_makeProduct_150 ?_
            refine lv_aload hx hb dX6_makeProduct_153 (lv_at hl 1 rfl) ?_
            refine m_get (D := (dC, dI)) (v := .int (nI ((gd L y1).2.2.2.2.2.1))) (C := RX3) (T := TX3) (N := 7) hx hb hts bk1 hown hK hP (2117 + 2 * y1) (ns_p (by omega)) hpy1 rfl 6 (by decide) (hts (.fieldLink RX6 82 "GradientDesk$Part" "sizeD" "I") (List.mem_of_getElem? (i := 10) rfl)) (fun _ h9 => h9) rfl dX6_makeProduct_155 ?_
            refine lv_iadd hx hb dX6_makeProduct_158 ?_
            refine lv_topi (fun x_26 e_27 => ?_)
            obtain rfl : x_26 = nI ((gd L x1).2.2.2.2.2.1 + ((gd L y1).2.2.2.2.2.1)) := e_27.trans (nI_add ((gd L x1).2.2.2.2.2.1) ((gd L y1).2.2.2.2.2.1))
            refine va_calli (va_runV (As := [.int (nI 3), .int (nI x1), .int (nI y1), .int (nI ((gd L x1).2.2.2.1 + ((gd L y1).2.2.2.1))), .int (nI ((gd L x1).2.2.2.2.1 + ((gd L y1).2.2.2.2.1) + 8)), .int (nI ((gd L x1).2.2.2.2.2.1 + ((gd L y1).2.2.2.2.2.1)))]) (rest := []) ⟨hx, hb, hml, hown, hts⟩ (c_V6_keep l dC dI A ad cA g L (3, ((x1 : Nat) : Int), ((y1 : Nat) : Int), (gd L x1).2.2.2.1 + (gd L y1).2.2.2.1, (gd L x1).2.2.2.2.1 + (gd L y1).2.2.2.2.1 + 8, (gd L x1).2.2.2.2.2.1 + (gd L y1).2.2.2.2.2.1, 0, 1) (nI 3) (nI x1) (nI y1) (nI ((gd L x1).2.2.2.1 + ((gd L y1).2.2.2.1))) (nI ((gd L x1).2.2.2.2.1 + ((gd L y1).2.2.2.2.1) + 8)) (nI ((gd L x1).2.2.2.2.2.1 + ((gd L y1).2.2.2.2.2.1))) hC ((show nI 3 = iI 3 from by decide).trans (congrArg iI (by rfl))) ((nI_iI x1).trans (congrArg iI (by rfl))) ((nI_iI y1).trans (congrArg iI (by rfl))) ((nI_iI ((gd L x1).2.2.2.1 + ((gd L y1).2.2.2.1))).trans (congrArg iI (by rfl))) ((nI_iI ((gd L x1).2.2.2.2.1 + ((gd L y1).2.2.2.2.1) + 8)).trans (congrArg iI (by rfl))) ((nI_iI ((gd L x1).2.2.2.2.2.1 + ((gd L y1).2.2.2.2.2.1))).trans (congrArg iI (by rfl))) (by show 3 ≤ 20000 ∧ -1 ≤ ((x1 : Nat) : Int) ∧ ((x1 : Nat) : Int) ≤ 20000 ∧ -1 ≤ ((y1 : Nat) : Int) ∧ ((y1 : Nat) : Int) ≤ 20000 ∧ (gd L x1).2.2.2.1 + (gd L y1).2.2.2.1 ≤ 20000 ∧ (gd L x1).2.2.2.2.1 + (gd L y1).2.2.2.2.1 + 8 ≤ 20000 ∧ (gd L x1).2.2.2.2.2.1 + (gd L y1).2.2.2.2.2.1 ≤ 20000; omega) (show (3 : Nat) ≠ 0 from by decide)) (cwV 6 hts (goodIn_app (goodIn_r [Cond.methodLink RX6 60 yX6_keep, Cond.instanceMethod yX6_keep, Cond.selects RX6 yX6_keep yX6_keep, Cond.initialized RX6] [11, 12, 13, 5] rfl rfl) (goodIn_sub (fun w9 h9 => bk4 w9 h9) gw_V6_keep)) rfl rfl rfl (by decide +kernel) ⟨Nat.le_of_ble_eq_true rfl, Nat.le_of_ble_eq_true rfl⟩) ⟨fun a U g mk q => ⟨q.1, q.2.1, q.2.2.1, LY.moved (u := U) (U := U.calling g mk a) (Vm.Alike.refl U.vm) q.2.2.2⟩, va_recv hK hP (ci := 9) (q0 := 2080) rfl (wo_at (by decide) hO), fun U hU hW => ⟨rfl, by rw [hU]; exact fun q h => hA q (Nat.le_trans hS.1 h), by rw [hU]; exact hP, LY.moved hW.alike hL⟩⟩ rfl rfl hl.1 rfl (lv_room (Nat.le_of_ble_eq_true rfl)) dX6_makeProduct_159 ⟨(Nat.le_of_ble_eq_true rfl), (Nat.le_of_ble_eq_true rfl)⟩) hS (fun q _ h => h) (fun q h => h) (fun r_28 u8 t8 H1 locs ht8 hvm8 hw_29 hB hz1 hk1 hS => ?_)
            obtain ⟨g_30, rfl⟩ : ∃ z, z = u8 := ⟨_, rfl⟩
            try dsimp only at hw_29 hB
            rw [ht8] at hB
            have hP := hB
            generalize H1 = H at hP hS ⊢
            obtain ⟨fr_31, hK⟩ := hw_29
            refine W.widen (k := 0) (n := 0) (by omega) (by omega) ?_
            exact W.iret (v := r_28) hx hb hr (fun t9 ht9 hW9 => ⟨⟨r_28, g_30, rfl, ⟨(fun (k : Nat) (hk : (14 ≤ k ∧ k < 76) ∨ (876 ≤ k ∧ k < 2080) ∨ (2081 ≤ k ∧ k < 2117)) => (fr_31 k (by omega)).trans (rfl)), by unfold prdL; rw [if_neg (show ¬ ((gd L x1).1 = 0 ∧ (gd L y1).1 = 0) from by omega), if_neg (by rw [hx0]; decide), if_neg (by rw [hy0]; decide), if_neg (by rw [hx1]; decide), if_neg (by rw [hy1]; decide)]; exact hK⟩, by show va_P (dC, dI) vwCl _ t9.heap; rw [ht9]; exact hP⟩, hS.F ht9⟩) hS.2.2 dX6_makeProduct_162
  · have c_3 := (nI_eq (a := ((gd L x1).1)) (b := 0) (by omega) (by decide)).mp c_3
    refine lv_aload hx hb dX6_makeProduct_40 (lv_at hl 0 rfl) ?_
    refine m_get (D := (dC, dI)) (v := .int (nI ((gd L y1).1))) (C := RX3) (T := TX3) (N := 7) hx hb hts bk1 hown hK hP (2117 + 2 * y1) (ns_p (by omega)) hpy1 rfl 1 (by decide) (hts (.fieldLink RX6 64 "GradientDesk$Part" "sort" "I") (List.mem_of_getElem? (i := 2) rfl)) (fun _ h9 => h9) rfl dX6_makeProduct_42 ?_
    refine lv_if_ne (tgt := 84) hx hb dX6_makeProduct_45 (by decide) (fun c_32 => ?_) (fun c_32 => ?_)
    · have c_32 := mt (nI_eq (a := ((gd L y1).1)) (b := 0) (by omega) (by decide)).mpr c_32
      refine lv_aload_n hx hb dX6_makeProduct_84 rfl (lv_at hl 1 rfl) ?_
      refine va_calli (va_runS (As := [.ref (ad (2117 + 2 * x1))]) (rest := []) ⟨hx, hb, hml, hown, hts⟩ (c_V6_isZero l dC dI A ad cA g L x1 hC hWf ix) (va_cwS 1 hts (goodIn_app (goodIn_r [Cond.methodLink RX6 75 yX6_isZero, Cond.static yX6_isZero, Cond.initialized RX6] [3, 4, 5] rfl rfl) (goodIn_sub (fun w9 h9 => bk2 w9 h9) gw_V6_isZero)) rfl rfl rfl (by decide +kernel) ⟨Nat.le_of_ble_eq_true rfl, Nat.le_of_ble_eq_true rfl⟩) ⟨fun a U g mk q => ⟨q.1, q.2.1, q.2.2.1, LY.moved (u := U) (U := U.calling g mk a) (Vm.Alike.refl U.vm) q.2.2.2⟩, fun U hU hW => ⟨rfl, by rw [hU]; exact fun q h => hA q (Nat.le_trans hS.1 h), by rw [hU]; exact hP, LY.moved hW.alike hL⟩⟩ rfl rfl hl.1 rfl (lv_room (Nat.le_of_ble_eq_true rfl)) dX6_makeProduct_85 ⟨(Nat.le_of_ble_eq_true rfl), (Nat.le_of_ble_eq_true rfl)⟩) hS (fun q _ h => h) (fun q h => h) (fun r_33 u8 t8 H1 locs ht8 hvm8 hw_34 hB hz1 hk1 hS => ?_)
      obtain ⟨⟩ := u8
      try dsimp only at hw_34 hB
      rw [ht8] at hB
      have hP := hB
      generalize H1 = H at hP hS ⊢
      rcases hw_34 with ⟨rfl, hx0⟩ | ⟨rfl, hx0⟩
      · skip
        refine lv_if_ne (tgt := 99) hx hb dX6_makeProduct_88 (by decide) (fun c_35 => ?_) (fun c_35 => absurd c_35 (by decide))
        refine lv_iload_n hx hb dX6_makeProduct_99 rfl (lv_at hl 3 rfl) ?_
        refine W.widen (k := 0) (n := 0) (by omega) (by omega) ?_
        exact W.iret (v := nI x1) hx hb hr (fun t9 ht9 hW9 => ⟨⟨nI x1, g, rfl, ⟨(fun (k : Nat) (hk : (14 ≤ k ∧ k < 76) ∨ (876 ≤ k ∧ k < 2080) ∨ (2081 ≤ k ∧ k < 2117)) => rfl), CMK.old (i := x1) (by unfold prdL; rw [if_neg (show ¬ ((gd L x1).1 = 0 ∧ (gd L y1).1 = 0) from by omega), if_pos hx0]) ix hC⟩, by show va_P (dC, dI) vwCl _ t9.heap; rw [ht9]; exact hP⟩, hS.F ht9⟩) hS.2.2 dX6_makeProduct_100
      · skip
        refine lv_if_ne (tgt := 99) hx hb dX6_makeProduct_88 (by decide) (fun c_36 => absurd c_36 (by decide)) (fun c_36 => ?_)
        refine lv_aload hx hb dX6_makeProduct_91 (lv_at hl 0 rfl) ?_
        refine va_calli (va_runS (As := [.ref (ad (2117 + 2 * y1))]) (rest := []) ⟨hx, hb, hml, hown, hts⟩ (c_V6_isUnit l dC dI A ad cA g L y1 hC hWf iy) (va_cwS 1 hts (goodIn_app (goodIn_r [Cond.methodLink RX6 98 yX6_isUnit, Cond.static yX6_isUnit, Cond.initialized RX6] [6, 7, 5] rfl rfl) (goodIn_sub (fun w9 h9 => bk3 w9 h9) gw_V6_isUnit)) rfl rfl rfl (by decide +kernel) ⟨Nat.le_of_ble_eq_true rfl, Nat.le_of_ble_eq_true rfl⟩) ⟨fun a U g mk q => ⟨q.1, q.2.1, q.2.2.1, LY.moved (u := U) (U := U.calling g mk a) (Vm.Alike.refl U.vm) q.2.2.2⟩, fun U hU hW => ⟨rfl, by rw [hU]; exact fun q h => hA q (Nat.le_trans hS.1 h), by rw [hU]; exact hP, LY.moved hW.alike hL⟩⟩ rfl rfl hl.1 rfl (lv_room (Nat.le_of_ble_eq_true rfl)) dX6_makeProduct_93 ⟨(Nat.le_of_ble_eq_true rfl), (Nat.le_of_ble_eq_true rfl)⟩) hS (fun q _ h => h) (fun q h => h) (fun r_37 u8 t8 H1 locs ht8 hvm8 hw_38 hB hz1 hk1 hS => ?_)
        obtain ⟨⟩ := u8
        try dsimp only at hw_38 hB
        rw [ht8] at hB
        have hP := hB
        generalize H1 = H at hP hS ⊢
        rcases hw_38 with ⟨rfl, hy1⟩ | ⟨rfl, hy1⟩
        · skip
          refine lv_if_eq (tgt := 101) hx hb dX6_makeProduct_96 (by decide) (fun c_39 => absurd c_39 (by decide)) (fun c_39 => ?_)
          refine lv_iload_n hx hb dX6_makeProduct_99 rfl (lv_at hl 3 rfl) ?_
          have hyz := isN_01 hy1
          have hyn := isN_n hy1
          have hxn : isN (gd L x1) 1 = false := isN_nn (by omega)
          refine W.widen (k := 0) (n := 0) (by omega) (by omega) ?_
          exact W.iret (v := nI x1) hx hb hr (fun t9 ht9 hW9 => ⟨⟨nI x1, g, rfl, ⟨(fun (k : Nat) (hk : (14 ≤ k ∧ k < 76) ∨ (876 ≤ k ∧ k < 2080) ∨ (2081 ≤ k ∧ k < 2117)) => rfl), CMK.old (i := x1) (by unfold prdL; rw [if_neg (show ¬ ((gd L x1).1 = 0 ∧ (gd L y1).1 = 0) from by omega), if_neg (by rw [hx0]; decide), if_neg (by rw [hyz]; decide), if_neg (by rw [hxn]; decide), if_pos hy1]) ix hC⟩, by show va_P (dC, dI) vwCl _ t9.heap; rw [ht9]; exact hP⟩, hS.F ht9⟩) hS.2.2 dX6_makeProduct_100
        · skip
          refine lv_if_eq (tgt := 101) hx hb dX6_makeProduct_96 (by decide) (fun c_40 => ?_) (fun c_40 => absurd c_40 (by decide))
          refine lv_aload hx hb dX6_makeProduct_101 (lv_at hl 0 rfl) ?_
          refine va_calli (va_runS (As := [.ref (ad (2117 + 2 * y1))]) (rest := []) ⟨hx, hb, hml, hown, hts⟩ (c_V6_isZero l dC dI A ad cA g L y1 hC hWf iy) (va_cwS 1 hts (goodIn_app (goodIn_r [Cond.methodLink RX6 75 yX6_isZero, Cond.static yX6_isZero, Cond.initialized RX6] [3, 4, 5] rfl rfl) (goodIn_sub (fun w9 h9 => bk2 w9 h9) gw_V6_isZero)) rfl rfl rfl (by decide +kernel) ⟨Nat.le_of_ble_eq_true rfl, Nat.le_of_ble_eq_true rfl⟩) ⟨fun a U g mk q => ⟨q.1, q.2.1, q.2.2.1, LY.moved (u := U) (U := U.calling g mk a) (Vm.Alike.refl U.vm) q.2.2.2⟩, fun U hU hW => ⟨rfl, by rw [hU]; exact fun q h => hA q (Nat.le_trans hS.1 h), by rw [hU]; exact hP, LY.moved hW.alike hL⟩⟩ rfl rfl hl.1 rfl (lv_room (Nat.le_of_ble_eq_true rfl)) dX6_makeProduct_103 ⟨(Nat.le_of_ble_eq_true rfl), (Nat.le_of_ble_eq_true rfl)⟩) hS (fun q _ h => h) (fun q h => h) (fun r_41 u8 t8 H1 locs ht8 hvm8 hw_42 hB hz1 hk1 hS => ?_)
          obtain ⟨⟩ := u8
          try dsimp only at hw_42 hB
          rw [ht8] at hB
          have hP := hB
          generalize H1 = H at hP hS ⊢
          rcases hw_42 with ⟨rfl, hy0⟩ | ⟨rfl, hy0⟩
          · skip
            refine lv_if_ne (tgt := 116) hx hb dX6_makeProduct_106 (by decide) (fun c_43 => ?_) (fun c_43 => absurd c_43 (by decide))
            refine lv_iload_n hx hb dX6_makeProduct_116 rfl (lv_at hl 4 rfl) ?_
            refine W.widen (k := 0) (n := 0) (by omega) (by omega) ?_
            exact W.iret (v := nI y1) hx hb hr (fun t9 ht9 hW9 => ⟨⟨nI y1, g, rfl, ⟨(fun (k : Nat) (hk : (14 ≤ k ∧ k < 76) ∨ (876 ≤ k ∧ k < 2080) ∨ (2081 ≤ k ∧ k < 2117)) => rfl), CMK.old (i := y1) (by unfold prdL; rw [if_neg (show ¬ ((gd L x1).1 = 0 ∧ (gd L y1).1 = 0) from by omega), if_neg (by rw [hx0]; decide), if_pos hy0]) iy hC⟩, by show va_P (dC, dI) vwCl _ t9.heap; rw [ht9]; exact hP⟩, hS.F ht9⟩) hS.2.2 dX6_makeProduct_117
          · skip
            refine lv_if_ne (tgt := 116) hx hb dX6_makeProduct_106 (by decide) (fun c_44 => absurd c_44 (by decide)) (fun c_44 => ?_)
            refine lv_aload_n hx hb dX6_makeProduct_109 rfl (lv_at hl 1 rfl) ?_
            refine va_calli (va_runS (As := [.ref (ad (2117 + 2 * x1))]) (rest := []) ⟨hx, hb, hml, hown, hts⟩ (c_V6_isUnit l dC dI A ad cA g L x1 hC hWf ix) (va_cwS 1 hts (goodIn_app (goodIn_r [Cond.methodLink RX6 98 yX6_isUnit, Cond.static yX6_isUnit, Cond.initialized RX6] [6, 7, 5] rfl rfl) (goodIn_sub (fun w9 h9 => bk3 w9 h9) gw_V6_isUnit)) rfl rfl rfl (by decide +kernel) ⟨Nat.le_of_ble_eq_true rfl, Nat.le_of_ble_eq_true rfl⟩) ⟨fun a U g mk q => ⟨q.1, q.2.1, q.2.2.1, LY.moved (u := U) (U := U.calling g mk a) (Vm.Alike.refl U.vm) q.2.2.2⟩, fun U hU hW => ⟨rfl, by rw [hU]; exact fun q h => hA q (Nat.le_trans hS.1 h), by rw [hU]; exact hP, LY.moved hW.alike hL⟩⟩ rfl rfl hl.1 rfl (lv_room (Nat.le_of_ble_eq_true rfl)) dX6_makeProduct_110 ⟨(Nat.le_of_ble_eq_true rfl), (Nat.le_of_ble_eq_true rfl)⟩) hS (fun q _ h => h) (fun q h => h) (fun r_45 u8 t8 H1 locs ht8 hvm8 hw_46 hB hz1 hk1 hS => ?_)
            obtain ⟨⟩ := u8
            try dsimp only at hw_46 hB
            rw [ht8] at hB
            have hP := hB
            generalize H1 = H at hP hS ⊢
            rcases hw_46 with ⟨rfl, hx1⟩ | ⟨rfl, hx1⟩
            · skip
              refine lv_if_eq (tgt := 118) hx hb dX6_makeProduct_113 (by decide) (fun c_47 => absurd c_47 (by decide)) (fun c_47 => ?_)
              refine lv_iload_n hx hb dX6_makeProduct_116 rfl (lv_at hl 4 rfl) ?_
              refine W.widen (k := 0) (n := 0) (by omega) (by omega) ?_
              exact W.iret (v := nI y1) hx hb hr (fun t9 ht9 hW9 => ⟨⟨nI y1, g, rfl, ⟨(fun (k : Nat) (hk : (14 ≤ k ∧ k < 76) ∨ (876 ≤ k ∧ k < 2080) ∨ (2081 ≤ k ∧ k < 2117)) => rfl), CMK.old (i := y1) (by unfold prdL; rw [if_neg (show ¬ ((gd L x1).1 = 0 ∧ (gd L y1).1 = 0) from by omega), if_neg (by rw [hx0]; decide), if_neg (by rw [hy0]; decide), if_pos hx1]) iy hC⟩, by show va_P (dC, dI) vwCl _ t9.heap; rw [ht9]; exact hP⟩, hS.F ht9⟩) hS.2.2 dX6_makeProduct_117
            · skip
              refine lv_if_eq (tgt := 118) hx hb dX6_makeProduct_113 (by decide) (fun c_48 => ?_) (fun c_48 => absurd c_48 (by decide))
              refine lv_aload_n hx hb dX6_makeProduct_118 rfl (lv_at hl 1 rfl) ?_
              refine m_get (D := (dC, dI)) (v := .int (nI ((gd L x1).2.2.2.2.1))) (C := RX3) (T := TX3) (N := 7) hx hb hts bk1 hown hK hP (2117 + 2 * x1) (ns_p (by omega)) hpx1 rfl 5 (by decide) (hts (.fieldLink RX6 79 "GradientDesk$Part" "sizeN" "I") (List.mem_of_getElem? (i := 8) rfl)) (fun _ h9 => h9) rfl dX6_makeProduct_119 ?_
              refine lv_aload hx hb dX6_makeProduct_122 (lv_at hl 0 rfl) ?_
              refine m_get (D := (dC, dI)) (v := .int (nI ((gd L y1).2.2.2.2.1))) (C := RX3) (T := TX3) (N := 7) hx hb hts bk1 hown hK hP (2117 + 2 * y1) (ns_p (by omega)) hpy1 rfl 5 (by decide) (hts (.fieldLink RX6 79 "GradientDesk$Part" "sizeN" "I") (List.mem_of_getElem? (i := 8) rfl)) (fun _ h9 => h9) rfl dX6_makeProduct_124 ?_
              refine lv_iadd hx hb dX6_makeProduct_127 ?_
              refine lv_topi (fun x_49 e_50 => ?_)
              obtain rfl : x_49 = nI ((gd L x1).2.2.2.2.1 + ((gd L y1).2.2.2.2.1)) := e_50.trans (nI_add ((gd L x1).2.2.2.2.1) ((gd L y1).2.2.2.2.1))
              refine lv_bipush (v := nI 8) hx hb dX6_makeProduct_128 (by decide +kernel) ?_
              refine lv_iadd hx hb dX6_makeProduct_130 ?_
              refine lv_topi (fun x_51 e_52 => ?_)
              obtain rfl : x_51 = nI ((gd L x1).2.2.2.2.1 + ((gd L y1).2.2.2.2.1) + 8) := e_52.trans (nI_add ((gd L x1).2.2.2.2.1 + ((gd L y1).2.2.2.2.1)) 8)
              refine lv_istore (lv' := [(5, .int (nI ((gd L x1).2.2.2.2.1 + ((gd L y1).2.2.2.2.1) + 8))), (4, .ref (ad (2117 + 2 * y1))), (3, .ref (ad (2117 + 2 * x1))), (0, .ref (ad 2080)), (1, .int (nI x1)), (2, .int (nI y1))]) hx hb dX6_makeProduct_131 hl (by decide) rfl (fun ls hl => ?_)
              refine lv_aload_n hx hb dX6_makeProduct_133 rfl (lv_at hl 3 rfl) ?_
              refine lv_iconst (v := nI 3) hx hb dX6_makeProduct_134 (by decide +kernel) ?_
              refine lv_iload_n hx hb dX6_makeProduct_135 rfl (lv_at hl 4 rfl) ?_
              refine lv_iload_n hx hb dX6_makeProduct_136 rfl (lv_at hl 5 rfl) ?_
              refine lv_aload_n hx hb dX6_makeProduct_137 rfl (lv_at hl 2 rfl) ?_
              refine m_get (D := (dC, dI)) (v := .int (nI ((gd L x1).2.2.2.1))) (C := RX3) (T := TX3) (N := 7) hx hb hts bk1 hown hK hP (2117 + 2 * x1) (ns_p (by omega)) hpx1 rfl 4 (by decide) (hts (.fieldLink RX6 91 "GradientDesk$Part" "degree" "I") (List.mem_of_getElem? (i := 9) rfl)) (fun _ h9 => h9) rfl dX6_makeProduct_138 ?_
              refine lv_aload hx hb dX6_makeProduct_141 (lv_at hl 1 rfl) ?_
              refine m_get (D := (dC, dI)) (v := .int (nI ((gd L y1).2.2.2.1))) (C := RX3) (T := TX3) (N := 7) hx hb hts bk1 hown hK hP (2117 + 2 * y1) (ns_p (by omega)) hpy1 rfl 4 (by decide) (hts (.fieldLink RX6 91 "GradientDesk$Part" "degree" "I") (List.mem_of_getElem? (i := 9) rfl)) (fun _ h9 => h9) rfl dX6_makeProduct_143 ?_
              refine lv_iadd hx hb dX6_makeProduct_146 ?_
              refine lv_topi (fun x_53 e_54 => ?_)
              obtain rfl : x_53 = nI ((gd L x1).2.2.2.1 + ((gd L y1).2.2.2.1)) := e_54.trans (nI_add ((gd L x1).2.2.2.1) ((gd L y1).2.2.2.1))
              refine lv_iload hx hb dX6_makeProduct_147 (lv_at hl 0 rfl) ?_
              refine lv_aload_n hx hb dX6_makeProduct_149 rfl (lv_at hl 2 rfl) ?_
              refine m_get (D := (dC, dI)) (v := .int (nI ((gd L x1).2.2.2.2.2.1))) (C := RX3) (T := TX3) (N := 7) hx hb hts bk1 hown hK hP (2117 + 2 * x1) (ns_p (by omega)) hpx1 rfl 6 (by decide) (hts (.fieldLink RX6 82 "GradientDesk$Part" "sizeD" "I") (List.mem_of_getElem? (i := 10) rfl)) (fun _ h9 => h9) rfl dX6_makeProduct_150 ?_
              refine lv_aload hx hb dX6_makeProduct_153 (lv_at hl 1 rfl) ?_
              refine m_get (D := (dC, dI)) (v := .int (nI ((gd L y1).2.2.2.2.2.1))) (C := RX3) (T := TX3) (N := 7) hx hb hts bk1 hown hK hP (2117 + 2 * y1) (ns_p (by omega)) hpy1 rfl 6 (by decide) (hts (.fieldLink RX6 82 "GradientDesk$Part" "sizeD" "I") (List.mem_of_getElem? (i := 10) rfl)) (fun _ h9 => h9) rfl dX6_makeProduct_155 ?_
              refine lv_iadd hx hb dX6_makeProduct_158 ?_
              refine lv_topi (fun x_55 e_56 => ?_)
              obtain rfl : x_55 = nI ((gd L x1).2.2.2.2.2.1 + ((gd L y1).2.2.2.2.2.1)) := e_56.trans (nI_add ((gd L x1).2.2.2.2.2.1) ((gd L y1).2.2.2.2.2.1))
              refine va_calli (va_runV (As := [.int (nI 3), .int (nI x1), .int (nI y1), .int (nI ((gd L x1).2.2.2.1 + ((gd L y1).2.2.2.1))), .int (nI ((gd L x1).2.2.2.2.1 + ((gd L y1).2.2.2.2.1) + 8)), .int (nI ((gd L x1).2.2.2.2.2.1 + ((gd L y1).2.2.2.2.2.1)))]) (rest := []) ⟨hx, hb, hml, hown, hts⟩ (c_V6_keep l dC dI A ad cA g L (3, ((x1 : Nat) : Int), ((y1 : Nat) : Int), (gd L x1).2.2.2.1 + (gd L y1).2.2.2.1, (gd L x1).2.2.2.2.1 + (gd L y1).2.2.2.2.1 + 8, (gd L x1).2.2.2.2.2.1 + (gd L y1).2.2.2.2.2.1, 0, 1) (nI 3) (nI x1) (nI y1) (nI ((gd L x1).2.2.2.1 + ((gd L y1).2.2.2.1))) (nI ((gd L x1).2.2.2.2.1 + ((gd L y1).2.2.2.2.1) + 8)) (nI ((gd L x1).2.2.2.2.2.1 + ((gd L y1).2.2.2.2.2.1))) hC ((show nI 3 = iI 3 from by decide).trans (congrArg iI (by rfl))) ((nI_iI x1).trans (congrArg iI (by rfl))) ((nI_iI y1).trans (congrArg iI (by rfl))) ((nI_iI ((gd L x1).2.2.2.1 + ((gd L y1).2.2.2.1))).trans (congrArg iI (by rfl))) ((nI_iI ((gd L x1).2.2.2.2.1 + ((gd L y1).2.2.2.2.1) + 8)).trans (congrArg iI (by rfl))) ((nI_iI ((gd L x1).2.2.2.2.2.1 + ((gd L y1).2.2.2.2.2.1))).trans (congrArg iI (by rfl))) (by show 3 ≤ 20000 ∧ -1 ≤ ((x1 : Nat) : Int) ∧ ((x1 : Nat) : Int) ≤ 20000 ∧ -1 ≤ ((y1 : Nat) : Int) ∧ ((y1 : Nat) : Int) ≤ 20000 ∧ (gd L x1).2.2.2.1 + (gd L y1).2.2.2.1 ≤ 20000 ∧ (gd L x1).2.2.2.2.1 + (gd L y1).2.2.2.2.1 + 8 ≤ 20000 ∧ (gd L x1).2.2.2.2.2.1 + (gd L y1).2.2.2.2.2.1 ≤ 20000; omega) (show (3 : Nat) ≠ 0 from by decide)) (cwV 6 hts (goodIn_app (goodIn_r [Cond.methodLink RX6 60 yX6_keep, Cond.instanceMethod yX6_keep, Cond.selects RX6 yX6_keep yX6_keep, Cond.initialized RX6] [11, 12, 13, 5] rfl rfl) (goodIn_sub (fun w9 h9 => bk4 w9 h9) gw_V6_keep)) rfl rfl rfl (by decide +kernel) ⟨Nat.le_of_ble_eq_true rfl, Nat.le_of_ble_eq_true rfl⟩) ⟨fun a U g mk q => ⟨q.1, q.2.1, q.2.2.1, LY.moved (u := U) (U := U.calling g mk a) (Vm.Alike.refl U.vm) q.2.2.2⟩, va_recv hK hP (ci := 9) (q0 := 2080) rfl (wo_at (by decide) hO), fun U hU hW => ⟨rfl, by rw [hU]; exact fun q h => hA q (Nat.le_trans hS.1 h), by rw [hU]; exact hP, LY.moved hW.alike hL⟩⟩ rfl rfl hl.1 rfl (lv_room (Nat.le_of_ble_eq_true rfl)) dX6_makeProduct_159 ⟨(Nat.le_of_ble_eq_true rfl), (Nat.le_of_ble_eq_true rfl)⟩) hS (fun q _ h => h) (fun q h => h) (fun r_57 u8 t8 H1 locs ht8 hvm8 hw_58 hB hz1 hk1 hS => ?_)
              obtain ⟨g_59, rfl⟩ : ∃ z, z = u8 := ⟨_, rfl⟩
              try dsimp only at hw_58 hB
              rw [ht8] at hB
              have hP := hB
              generalize H1 = H at hP hS ⊢
              obtain ⟨fr_60, hK⟩ := hw_58
              refine W.widen (k := 0) (n := 0) (by omega) (by omega) ?_
              exact W.iret (v := r_57) hx hb hr (fun t9 ht9 hW9 => ⟨⟨r_57, g_59, rfl, ⟨(fun (k : Nat) (hk : (14 ≤ k ∧ k < 76) ∨ (876 ≤ k ∧ k < 2080) ∨ (2081 ≤ k ∧ k < 2117)) => (fr_60 k (by omega)).trans (rfl)), by unfold prdL; rw [if_neg (show ¬ ((gd L x1).1 = 0 ∧ (gd L y1).1 = 0) from by omega), if_neg (by rw [hx0]; decide), if_neg (by rw [hy0]; decide), if_neg (by rw [hx1]; decide), if_neg (by rw [hy1]; decide)]; exact hK⟩, by show va_P (dC, dI) vwCl _ t9.heap; rw [ht9]; exact hP⟩, hS.F ht9⟩) hS.2.2 dX6_makeProduct_162
    · have c_32 := (nI_eq (a := ((gd L y1).1)) (b := 0) (by omega) (by decide)).mp c_32
      refine lv_aload_n hx hb dX6_makeProduct_48 rfl (lv_at hl 2 rfl) ?_
      refine m_get (D := (dC, dI)) (v := .ref (ad 2077)) (C := RX6) (T := TX6) (N := 7) hx hb hts bk0 hown hK hP 2080 (by decide) hO rfl 4 (by decide) (hts (.fieldLink RX6 41 "GradientDesk$Shelf" "arithmetic" "LGradientDesk$Arithmetic;") (List.mem_of_getElem? (i := 14) rfl)) (fun _ h9 => h9) rfl dX6_makeProduct_49 ?_
      refine lv_aload_n hx hb dX6_makeProduct_52 rfl (lv_at hl 1 rfl) ?_
      refine m_get (D := (dC, dI)) (v := .ref (ad (2118 + 2 * x1))) (C := RX3) (T := TX3) (N := 7) hx hb hts bk1 hown hK hP (2117 + 2 * x1) (ns_p (by omega)) hpx1 rfl 0 (by decide) (hts (.fieldLink RX6 68 "GradientDesk$Part" "number" "LGradientDesk$Fraction;") (List.mem_of_getElem? (i := 15) rfl)) (fun _ h9 => h9) rfl dX6_makeProduct_53 ?_
      refine lv_aload hx hb dX6_makeProduct_56 (lv_at hl 0 rfl) ?_
      refine m_get (D := (dC, dI)) (v := .ref (ad (2118 + 2 * y1))) (C := RX3) (T := TX3) (N := 7) hx hb hts bk1 hown hK hP (2117 + 2 * y1) (ns_p (by omega)) hpy1 rfl 0 (by decide) (hts (.fieldLink RX6 68 "GradientDesk$Part" "number" "LGradientDesk$Fraction;") (List.mem_of_getElem? (i := 15) rfl)) (fun _ h9 => h9) rfl dX6_makeProduct_58 ?_
      refine lv_aload_n hx hb dX6_makeProduct_61 rfl (lv_at hl 2 rfl) ?_
      refine m_get (D := (dC, dI)) (v := .ref (ad 2107)) (C := RX6) (T := TX6) (N := 7) hx hb hts bk0 hown hK hP 2080 (by decide) hO rfl 5 (by decide) (hts (.fieldLink RX6 30 "GradientDesk$Shelf" "work" "LGradientDesk$Fraction;") (List.mem_of_getElem? (i := 16) rfl)) (fun _ h9 => h9) rfl dX6_makeProduct_62 ?_
      have n0x1 : (gd L x1).1 = 0 := by omega
      rw [hfnx1] at a6x1
      obtain ⟨n1x1, n2x1, -, -⟩ := a6x1 n0x1
      obtain ⟨b1x1, b2x1, b3x1, -⟩ := num13 hWf ix n0x1
      clear a6x1
      have n0y1 : (gd L y1).1 = 0 := by omega
      rw [hfny1] at a6y1
      obtain ⟨n1y1, n2y1, -, -⟩ := a6y1 n0y1
      obtain ⟨b1y1, b2y1, b3y1, -⟩ := num13 hWf iy n0y1
      clear a6y1
      have hq_64 := hFr x1 (by omega)
      have hq_65 := hFr y1 (by omega)
      refine va_callv (va_runV (As := [.ref (ad (2118 + 2 * x1)), .ref (ad (2118 + 2 * y1)), .ref (ad 2107)]) (rest := []) ⟨hx, hb, hml, hown, hts⟩ (c_V0_multiply l dC dI A ad cA g (2118 + 2 * x1) (38 + 2 * x1) (39 + 2 * x1) (2118 + 2 * y1) (38 + 2 * y1) (39 + 2 * y1) ((gd L x1).2.2.2.2.2.2.1) (((gd L x1).2.2.2.2.2.2.2 : Nat) : Int) ((gd L y1).2.2.2.2.2.2.1) (((gd L y1).2.2.2.2.2.2.2 : Nat) : Int) hW hAr hWk hq_64 (⟨ns_q (by omega), by omega⟩) (by omega) hq_65 (⟨ns_q (by omega), by omega⟩) (by omega) (by omega) (by omega) n1x1 n2x1 n1y1 n2y1 b1x1 (by rw [Int.natAbs_natCast]; exact b2x1) b1y1 (by rw [Int.natAbs_natCast]; exact b2y1)) (cwV 3 hts (goodIn_app (goodIn_r [Cond.methodLink RX6 94 yX0_multiply, Cond.instanceMethod yX0_multiply, Cond.selects RX0 yX0_multiply yX0_multiply, Cond.initialized RX0] [17, 18, 19, 20] rfl rfl) (goodIn_sub (fun w9 h9 => bk5 w9 h9) gw_V0_multiply)) rfl rfl rfl (by decide +kernel) ⟨Nat.le_of_ble_eq_true rfl, Nat.le_of_ble_eq_true rfl⟩) ⟨fun a U g mk q => ⟨q.1, q.2.1, q.2.2.1, LY.moved (u := U) (U := U.calling g mk a) (Vm.Alike.refl U.vm) q.2.2.2⟩, va_recv hK hP (ci := 3) (q0 := 2077) rfl (wo_at (by decide) hAr), fun U hU hW => ⟨rfl, by rw [hU]; exact fun q h => hA q (Nat.le_trans hS.1 h), by rw [hU]; exact hP, LY.moved hW.alike hL⟩⟩ rfl rfl hl.1 rfl (lv_room (Nat.le_of_ble_eq_true rfl)) dX6_makeProduct_65 ⟨(Nat.le_of_ble_eq_true rfl), (Nat.le_of_ble_eq_true rfl)⟩) hS (fun q _ h => h) (fun q h => h) (fun u8 t8 H1 locs ht8 hvm8 hw_66 hB hz1 hk1 hS => ?_)
      obtain ⟨g_67, rfl⟩ : ∃ z, z = u8 := ⟨_, rfl⟩
      try dsimp only at hw_66 hB
      rw [ht8] at hB
      have hP := hB
      generalize H1 = H at hP hS ⊢
      obtain ⟨fr_68, hAW_61, hv_62, hv_63⟩ := hw_66
      rw [← Int.natCast_mul] at hv_63
      have hqp : 0 < (gd L x1).2.2.2.2.2.2.2 * (gd L y1).2.2.2.2.2.2.2 := Nat.mul_pos b3x1 b3y1
      refine lv_aload_n hx hb dX6_makeProduct_68 rfl (lv_at hl 2 rfl) ?_
      have f_69 : g_67 2080 = .inr (9, [.ref (ad 2081), .ref (ad 2082), .int (nI L.length), .ref (ad 2083), .ref (ad 2077), .ref (ad 2107), .ref (ad (2 * 6))]) := (fr_68 2080 (by omega)).trans hO
      refine m_get (D := (dC, dI)) (v := .ref (ad 2077)) (C := RX6) (T := TX6) (N := 7) hx hb hts bk0 hown hK hP 2080 (by decide) f_69 rfl 4 (by decide) (hts (.fieldLink RX6 41 "GradientDesk$Shelf" "arithmetic" "LGradientDesk$Arithmetic;") (List.mem_of_getElem? (i := 14) rfl)) (fun _ h9 => h9) rfl dX6_makeProduct_69 ?_
      refine lv_aload_n hx hb dX6_makeProduct_72 rfl (lv_at hl 2 rfl) ?_
      refine m_get (D := (dC, dI)) (v := .ref (ad 2107)) (C := RX6) (T := TX6) (N := 7) hx hb hts bk0 hown hK hP 2080 (by decide) f_69 rfl 5 (by decide) (hts (.fieldLink RX6 30 "GradientDesk$Shelf" "work" "LGradientDesk$Fraction;") (List.mem_of_getElem? (i := 16) rfl)) (fun _ h9 => h9) rfl dX6_makeProduct_73 ?_
      have f_73 : g_67 2077 = .inr (3, [.ref (ad (2 * 0)), .ref (ad (2 * 1)), .ref (ad (2 * 2)), .ref (ad (2 * 3))]) := (fr_68 2077 (by omega)).trans hAr
      have f_74 : g_67 2107 = .inr (5, [.ref (ad (2 * 4)), .ref (ad (2 * 5))]) := (fr_68 2107 (by omega)).trans hWk
      refine va_callv (va_runV (As := [.ref (ad 2107)]) (rest := []) ⟨hx, hb, hml, hown, hts⟩ (c_V0_reduce l dC dI A ad cA g_67 ((gd L x1).2.2.2.2.2.2.1 * (gd L y1).2.2.2.2.2.2.1) ((gd L x1).2.2.2.2.2.2.2 * (gd L y1).2.2.2.2.2.2.2) hAW_61 f_73 f_74 hv_62 hv_63 hqp) (cwV 1 hts (goodIn_app (goodIn_r [Cond.methodLink RX6 54 yX0_reduce, Cond.instanceMethod yX0_reduce, Cond.selects RX0 yX0_reduce yX0_reduce, Cond.initialized RX0] [21, 22, 23, 20] rfl rfl) (goodIn_sub (fun w9 h9 => bk6 w9 h9) gw_V0_reduce)) rfl rfl rfl (by decide +kernel) ⟨Nat.le_of_ble_eq_true rfl, Nat.le_of_ble_eq_true rfl⟩) ⟨fun a U g mk q => ⟨q.1, q.2.1, q.2.2.1, LY.moved (u := U) (U := U.calling g mk a) (Vm.Alike.refl U.vm) q.2.2.2⟩, va_recv hK hP (ci := 3) (q0 := 2077) rfl (wo_at (by decide) f_73), fun U hU hW => ⟨rfl, by rw [hU]; exact fun q h => hA q (Nat.le_trans hS.1 h), by rw [hU]; exact hP, LY.moved hW.alike hL⟩⟩ rfl rfl hl.1 rfl (lv_room (Nat.le_of_ble_eq_true rfl)) dX6_makeProduct_76 ⟨(Nat.le_of_ble_eq_true rfl), (Nat.le_of_ble_eq_true rfl)⟩) hS (fun q _ h => h) (fun q h => h) (fun u8 t8 H1 locs ht8 hvm8 hw_75 hB hz1 hk1 hS => ?_)
      obtain ⟨g_76, rfl⟩ : ∃ z, z = u8 := ⟨_, rfl⟩
      try dsimp only at hw_75 hB
      rw [ht8] at hB
      have hP := hB
      generalize H1 = H at hP hS ⊢
      obtain ⟨fr_77, hAW_70, hv_71, hv_72⟩ := hw_75
      refine lv_aload_n hx hb dX6_makeProduct_79 rfl (lv_at hl 2 rfl) ?_
      have hC_78 : CS ad cA g_76 L := CS.same hC hAW_70 (fun (k : Nat) (hk : (76 ≤ k ∧ k < 876) ∨ k = 2077 ∨ k = 2107 ∨ k = 2080 ∨ k = 2081 ∨ (2117 ≤ k ∧ k < 2517)) => (fr_77 k (by omega)).trans ((fr_68 k (by omega)).trans (rfl)))
      have f_79 : g_76 2080 = .inr (9, [.ref (ad 2081), .ref (ad 2082), .int (nI L.length), .ref (ad 2083), .ref (ad 2077), .ref (ad 2107), .ref (ad (2 * 6))]) := (fr_77 2080 (by omega)).trans f_69
      refine va_calli (va_runV (As := []) (rest := []) ⟨hx, hb, hml, hown, hts⟩ (c_V6_keepNumber l dC dI A ad cA g_76 L (rdp ((gd L x1).2.2.2.2.2.2.1 * (gd L y1).2.2.2.2.2.2.1) ((gd L x1).2.2.2.2.2.2.2 * (gd L y1).2.2.2.2.2.2.2)) (rdq ((gd L x1).2.2.2.2.2.2.1 * (gd L y1).2.2.2.2.2.2.1) ((gd L x1).2.2.2.2.2.2.2 * (gd L y1).2.2.2.2.2.2.2)) hC_78 hv_71 hv_72 ((rd_red _ hqp).1)) (cwV 0 hts (goodIn_app (goodIn_r [Cond.methodLink RX6 50 yX6_keepNumber, Cond.instanceMethod yX6_keepNumber, Cond.selects RX6 yX6_keepNumber yX6_keepNumber, Cond.initialized RX6] [24, 25, 26, 5] rfl rfl) (goodIn_sub (fun w9 h9 => bk7 w9 h9) gw_V6_keepNumber)) rfl rfl rfl (by decide +kernel) ⟨Nat.le_of_ble_eq_true rfl, Nat.le_of_ble_eq_true rfl⟩) ⟨fun a U g mk q => ⟨q.1, q.2.1, q.2.2.1, LY.moved (u := U) (U := U.calling g mk a) (Vm.Alike.refl U.vm) q.2.2.2⟩, va_recv hK hP (ci := 9) (q0 := 2080) rfl (wo_at (by decide) f_79), fun U hU hW => ⟨rfl, by rw [hU]; exact fun q h => hA q (Nat.le_trans hS.1 h), by rw [hU]; exact hP, LY.moved hW.alike hL⟩⟩ rfl rfl hl.1 rfl (lv_room (Nat.le_of_ble_eq_true rfl)) dX6_makeProduct_80 ⟨(Nat.le_of_ble_eq_true rfl), (Nat.le_of_ble_eq_true rfl)⟩) hS (fun q _ h => h) (fun q h => h) (fun r_80 u8 t8 H1 locs ht8 hvm8 hw_81 hB hz1 hk1 hS => ?_)
      obtain ⟨g_82, rfl⟩ : ∃ z, z = u8 := ⟨_, rfl⟩
      try dsimp only at hw_81 hB
      rw [ht8] at hB
      have hP := hB
      generalize H1 = H at hP hS ⊢
      obtain ⟨fr_83, hK⟩ := hw_81
      refine W.widen (k := 0) (n := 0) (by omega) (by omega) ?_
      exact W.iret (v := r_80) hx hb hr (fun t9 ht9 hW9 => ⟨⟨r_80, g_82, rfl, ⟨(fun (k : Nat) (hk : (14 ≤ k ∧ k < 76) ∨ (876 ≤ k ∧ k < 2080) ∨ (2081 ≤ k ∧ k < 2117)) => (fr_83 k (by omega)).trans ((fr_77 k (by omega)).trans ((fr_68 k (by omega)).trans (rfl)))), by unfold prdL; rw [if_pos ⟨n0x1, n0y1⟩]; exact hK⟩, by show va_P (dC, dI) vwCl _ t9.heap; rw [ht9]; exact hP⟩, hS.F ht9⟩) hS.2.2 dX6_makeProduct_83
end
section
theorem np_ge {n i e : Nat} (h : 400 < bl (n ^ i)) (hi : i ≤ e) : 400 < bl (n ^ e) := by
  have h1 := bl_ge.mp h
  apply bl_ge.mpr
  rcases Nat.eq_zero_or_pos n with h0 | h0
  · exfalso
    subst h0
    have h2 : 0 ^ i ≤ 1 := by
      cases i with
      | zero => exact Nat.le_refl _
      | succ k => rw [Nat.zero_pow (Nat.succ_pos k)]; decide
    have h3 : (1 : Nat) < 2 ^ 400 := Nat.one_lt_pow (by decide) (by decide)
    omega
  · exact Nat.le_trans h1 (Nat.pow_le_pow_right h0 hi)
theorem np_bigp {L : List PD} {p : Int} {q i e : Nat} (h : 400 < bl (p ^ i).natAbs) (hi : i ≤ e) : numL L (p ^ e) (q ^ e) = (-3, L) := by
  rw [Int.natAbs_pow] at h
  have h1 := np_ge h hi
  rw [← Int.natAbs_pow] at h1
  refine keepL_big (Or.inr (Or.inl ?_))
  show 400 < if bl (p ^ e).natAbs = 0 then 1 else bl (p ^ e).natAbs
  rw [if_neg (by omega)]; exact h1
theorem np_bigq {L : List PD} {p : Int} {q i e : Nat} (h : 400 < bl (q ^ i)) (hi : i ≤ e) : numL L (p ^ e) (q ^ e) = (-3, L) := by
  have h1 := np_ge h hi
  refine keepL_big (Or.inr (Or.inr ?_))
  show 400 < if bl (q ^ e) = 1 then 0 else bl (q ^ e)
  rw [if_neg (by omega)]; exact h1
/-- a making with an operand that may be a fault -/
def opL (f : List PD → Nat → Nat → Int × List PD) (L : List PD) (a b : Int) : Int × List PD := if a < 0 then (a, L) else if b < 0 then (b, L) else f L a.toNat b.toNat
end
section
def wd_V6_npow : List Cond := .code yX6_makeNumberPower cX6_makeNumberPower 4 (some .int) :: (([.fieldLink RX6 30 "GradientDesk$Shelf" "work" "LGradientDesk$Fraction;", .methodLink RX6 46 yX2_becomeRatio, .instanceMethod yX2_becomeRatio, .selects RX2 yX2_becomeRatio yX2_becomeRatio, .initialized RX2, .methodLink RX6 50 yX6_keepNumber, .instanceMethod yX6_keepNumber, .selects RX6 yX6_keepNumber yX6_keepNumber, .initialized RX6, .fieldLink RX6 37 "GradientDesk$Shelf" "hold" "LGradientDesk$Whole;", .fieldLink RX6 112 "GradientDesk$Fraction" "top" "LGradientDesk$Whole;", .methodLink RX6 115 yX8_multiply, .instanceMethod yX8_multiply, .selects RX8 yX8_multiply yX8_multiply, .initialized RX8, .methodLink RX6 118 yX8_become, .instanceMethod yX8_become, .selects RX8 yX8_become yX8_become, .fieldLink RX6 122 "GradientDesk$Fraction" "bottom" "LGradientDesk$Whole;", .methodLink RX6 125 yX8_bitLength, .instanceMethod yX8_bitLength, .selects RX8 yX8_bitLength yX8_bitLength] : List Cond) ++ (u_ws RX6 TX6 7 ++ (wd_V2_becomeRatio ++ (wd_V6_keepNumber ++ (u_ws RX2 TX2 2 ++ (wd_V8_multiply ++ (wd_V8_become ++ (wd_V8_bitLength ++ ([])))))))))
theorem gw_V6_npow : wd_V6_npow.all goodWord = true := k_allc rfl (k_all (by decide +kernel) (k_all (gu_X6) (k_all (gw_V2_becomeRatio) (k_all (gw_V6_keepNumber) (k_all (gu_X2) (k_all (gw_V8_multiply) (k_all (gw_V8_become) (k_all (gw_V8_bitLength) (rfl)))))))))
set_option maxHeartbeats 4000000 in
set_option maxRecDepth 100000 in
theorem c_V6_npow (l : Launch) (dC : Nat → ClassId) (dI : Nat → Nat → Nat) (A : Nat → Prop) (ad : Nat → Nat) (cA : Nat → ClassId) (g : Nat → va_E) (L : List PD) (x1 : Nat) (e9 : Nat) (hC : CS ad cA g L) (hWf : WFL L) (ix : x1 < L.length) (n0 : (gd L x1).1 = 0) (he9 : e9 ≤ 9) : Met l yX6_makeNumberPower wd_V6_npow ({ frames := 40, cells := 0, slots := 0, locals := 800 }) (va_Pc [.ref (ad 2080), .ref (ad (2118 + 2 * x1)), .int (nI e9)] (PR NSc tyc dC dI A ad cA g)) (va_Qi (fun (r : Int32) => fun (u : Nat → va_E) => match u with | g2 => (∀ k, (14 ≤ k ∧ k < 76) ∨ (876 ≤ k ∧ k < 2080) ∨ (2081 ≤ k ∧ k < 2117) → g2 k = g k) ∧ CMK ad cA g2 (numL L ((gd L x1).2.2.2.2.2.2.1 ^ e9) ((gd L x1).2.2.2.2.2.2.2 ^ e9)) r) (fun (u : Nat → va_E) (t : State) => va_P (dC, dI) vwCl (wo ad NSc u) t.heap) A) (0) (0) A := by
  refine Met.ofW (cc := cX6_makeNumberPower) (maxL := 4) (ret := (some .int)) (by decide) rfl ?_
  intro p e s m args below meth c s₁ B hml hv
  obtain ⟨rfl, hA, hP, hL⟩ := hv
  have hx := B.exec
  have hb := B.bytes
  have hr := B.returns
  have hts := atoms_spec (ws := wd_V6_npow) B.pre
  have hown : s.vm.findClass RX6 = some m.cls := findClass_of_methodNamed B.named
  have hlocks := B.notSynchronized
  have hK := hL.1
  have hD : ∀ g, va_D A (wo ad NSc g) := fun g => wo_D hL.2.1 hL.2.2 g
  have hS : va_S A s.heap s.heap [] := va_S.rf
  have bk0 : ∀ w ∈ u_ws RX6 TX6 7, w ∈ wd_V6_npow := fun _ h => List.mem_cons_of_mem _ (List.mem_append_right _ (List.mem_append_left _ h))
  have bk1 : ∀ w ∈ wd_V2_becomeRatio, w ∈ wd_V6_npow := fun _ h => List.mem_cons_of_mem _ (List.mem_append_right _ (List.mem_append_right _ (List.mem_append_left _ h)))
  have bk2 : ∀ w ∈ wd_V6_keepNumber, w ∈ wd_V6_npow := fun _ h => List.mem_cons_of_mem _ (List.mem_append_right _ (List.mem_append_right _ (List.mem_append_right _ (List.mem_append_left _ h))))
  have bk3 : ∀ w ∈ u_ws RX2 TX2 2, w ∈ wd_V6_npow := fun _ h => List.mem_cons_of_mem _ (List.mem_append_right _ (List.mem_append_right _ (List.mem_append_right _ (List.mem_append_right _ (List.mem_append_left _ h)))))
  have bk4 : ∀ w ∈ wd_V8_multiply, w ∈ wd_V6_npow := fun _ h => List.mem_cons_of_mem _ (List.mem_append_right _ (List.mem_append_right _ (List.mem_append_right _ (List.mem_append_right _ (List.mem_append_right _ (List.mem_append_left _ h))))))
  have bk5 : ∀ w ∈ wd_V8_become, w ∈ wd_V6_npow := fun _ h => List.mem_cons_of_mem _ (List.mem_append_right _ (List.mem_append_right _ (List.mem_append_right _ (List.mem_append_right _ (List.mem_append_right _ (List.mem_append_right _ (List.mem_append_left _ h)))))))
  have bk6 : ∀ w ∈ wd_V8_bitLength, w ∈ wd_V6_npow := fun _ h => List.mem_cons_of_mem _ (List.mem_append_right _ (List.mem_append_right _ (List.mem_append_right _ (List.mem_append_right _ (List.mem_append_right _ (List.mem_append_right _ (List.mem_append_right _ (List.mem_append_left _ h))))))))
  have hl := lv_entry ([.ref (ad 2080), .ref (ad (2118 + 2 * x1)), .int (nI e9)]) (n := 4) (Nat.le_of_ble_eq_true rfl)
  rw [lg_entry_eq]
  generalize (lg_sl ([.ref (ad 2080), .ref (ad (2118 + 2 * x1)), .int (nI e9)]) ++ List.replicate (4 - (lg_sl ([.ref (ad 2080), .ref (ad (2118 + 2 * x1)), .int (nI e9)])).length) Slot.unset).toArray = ls at hl ⊢
  have hl : lv_has ls 4 [(0, .ref (ad 2080)), (1, .ref (ad (2118 + 2 * x1))), (2, .int (nI e9))] := hl
  have hC0 := hC
  obtain ⟨hLn, hW, ⟨hAr, hWk, hPa, hFr⟩, hO, pt, hPt, hM⟩ := hC0
  unfold CSO at hO
  have hpb := hPt.2
  obtain ⟨n1, n2, -, -⟩ := (hM x1 ix).2.2.2.2.2.2 n0
  obtain ⟨b1, b2, b3, -⟩ := num13 hWf ix n0
  have hb2 : ((((gd L x1).2.2.2.2.2.2.2 : Nat) : Int)).natAbs < 4294967296 ^ 13 := by rw [Int.natAbs_natCast]; exact b2
  obtain ⟨pp, hpp⟩ : ∃ z, z = (gd L x1).2.2.2.2.2.2.1 := ⟨_, rfl⟩
  obtain ⟨qq, hqq⟩ : ∃ z, z = (gd L x1).2.2.2.2.2.2.2 := ⟨_, rfl⟩
  rw [← hpp] at n1 b1
  rw [← hqq] at n2 b2 b3 hb2
  refine lv_aload_n hx hb dX6_makeNumberPower_0 rfl (lv_at hl 0 rfl) ?_
  refine m_get (D := (dC, dI)) (v := .ref (ad 2107)) (C := RX6) (T := TX6) (N := 7) hx hb hts bk0 hown hK hP 2080 (by decide) hO rfl 5 (by decide) (hts (.fieldLink RX6 30 "GradientDesk$Shelf" "work" "LGradientDesk$Fraction;") (List.mem_of_getElem? (i := 1) rfl)) (fun _ h9 => h9) rfl dX6_makeNumberPower_1 ?_
  refine lv_iconst (v := nI 1) hx hb dX6_makeNumberPower_4 (by decide +kernel) ?_
  refine lv_iconst (v := nI 1) hx hb dX6_makeNumberPower_5 (by decide +kernel) ?_
  refine va_callv (va_runV (As := [.int (nI 1), .int (nI 1)]) (rest := []) ⟨hx, hb, hml, hown, hts⟩ (c_V2_becomeRatio l dC dI A ad cA g 2107 4 5 (nI 1) (nI 1) 1 ((1 : Nat) : Int) hW hWk (by decide) (by decide) (by decide) (by decide)) (cwV 2 hts (goodIn_app (goodIn_r [Cond.methodLink RX6 46 yX2_becomeRatio, Cond.instanceMethod yX2_becomeRatio, Cond.selects RX2 yX2_becomeRatio yX2_becomeRatio, Cond.initialized RX2] [2, 3, 4, 5] rfl rfl) (goodIn_sub (fun w9 h9 => bk1 w9 h9) gw_V2_becomeRatio)) rfl rfl rfl (by decide +kernel) ⟨Nat.le_of_ble_eq_true rfl, Nat.le_of_ble_eq_true rfl⟩) ⟨fun a U g mk q => ⟨q.1, q.2.1, q.2.2.1, LY.moved (u := U) (U := U.calling g mk a) (Vm.Alike.refl U.vm) q.2.2.2⟩, va_recv hK hP (ci := 5) (q0 := 2107) rfl (wo_at (by decide) hWk), fun U hU hW => ⟨rfl, by rw [hU]; exact fun q h => hA q (Nat.le_trans hS.1 h), by rw [hU]; exact hP, LY.moved hW.alike hL⟩⟩ rfl rfl hl.1 rfl (lv_room (Nat.le_of_ble_eq_true rfl)) dX6_makeNumberPower_6 ⟨(Nat.le_of_ble_eq_true rfl), (Nat.le_of_ble_eq_true rfl)⟩) hS (fun q _ h => h) (fun q h => h) (fun u8 t8 H1 locs ht8 hvm8 hw_4 hB hz1 hk1 hS => ?_)
  obtain ⟨g_5, rfl⟩ : ∃ z, z = u8 := ⟨_, rfl⟩
  try dsimp only at hw_4 hB
  rw [ht8] at hB
  have hP := hB
  generalize H1 = H at hP hS ⊢
  obtain ⟨fr_6, hAW_1, hv_2, hv_3⟩ := hw_4
  refine lv_iconst (v := nI 0) hx hb dX6_makeNumberPower_9 (by decide +kernel) ?_
  refine lv_istore_n (lv' := [(3, .int (nI 0)), (0, .ref (ad 2080)), (1, .ref (ad (2118 + 2 * x1))), (2, .int (nI e9))]) hx hb dX6_makeNumberPower_10 rfl hl (by decide) rfl (fun ls hl => ?_)
  have loop_7 : ∀ (k9 : Nat) (i : Nat) (g_9 : Nat → va_E) (fr_10 : ∀ k, (k < 8 ∨ 14 ≤ k) → g_9 k = g_5 k), 300 - i < k9 → (i ≤ e9) → (bl (pp ^ i).natAbs ≤ 400) → (bl (qq ^ i) ≤ 400) → (AW ad cA g_9) → (WV ad cA g_9 4 (pp ^ i)) → (WV ad cA g_9 5 ((qq ^ i : Nat) : Int)) → ∀ (H : Heap) (locs : List Loc) (ls : Array Slot), va_P (dC, dI) vwCl (wo ad NSc g_9) H → va_S A s.heap H locs → lv_has ls 4 [(0, .ref (ad 2080)), (1, .ref (ad (2118 + 2 * x1))), (2, .int (nI e9)), (3, .int (nI i))] → W p l e (headSpec wd_V6_npow ({ frames := 40, cells := 0, slots := 0, locals := 800 })).room s m ([.ref (ad 2080), .ref (ad (2118 + 2 * x1)), .int (nI e9)] : List Value).toArray below meth c H locs (0) (0) (MQ below (va_Qi (fun (r : Int32) => fun (u : Nat → va_E) => match u with | g2 => (∀ k, (14 ≤ k ∧ k < 76) ∨ (876 ≤ k ∧ k < 2080) ∨ (2081 ≤ k ∧ k < 2117) → g2 k = g k) ∧ CMK ad cA g2 (numL L ((gd L x1).2.2.2.2.2.2.1 ^ e9) ((gd L x1).2.2.2.2.2.2.2 ^ e9)) r) (fun (u : Nat → va_E) (t : State) => va_P (dC, dI) vwCl (wo ad NSc u) t.heap) A) ([.ref (ad 2080), .ref (ad (2118 + 2 * x1)), .int (nI e9)] : List Value).toArray s (0) (0) A) (F0 m 11 ls []) := by
    intro k9
    induction k9 with
    | zero => intro i g_9 fr_10 h9; exact absurd h9 (Nat.not_lt_zero _)
    | succ k9 ih_8 =>
      intro i g_9 fr_10 h9 hi hb4 hb5 hAL h4L h5L H locs ls hP hS hl
      have hc5 : ((qq ^ i : Nat) : Int).natAbs < 4294967296 ^ 13 := by rw [Int.natAbs_natCast]; exact fit13 hb5
      refine lv_iload_n hx hb dX6_makeNumberPower_11 rfl (lv_at hl 3 rfl) ?_
      refine lv_iload_n hx hb dX6_makeNumberPower_12 rfl (lv_at hl 2 rfl) ?_
      refine lv_icmp_ge (tgt := 121) hx hb dX6_makeNumberPower_13 (by decide) (fun c_11 => ?_) (fun c_11 => ?_)
      · have c_11 := (nI_leI (a := e9) (b := i) (by omega) (by omega)).mp c_11
        have hie : i = e9 := by omega
        have h4E := h4L
        have h5E := h5L
        rw [hie] at h4E h5E
        refine lv_aload_n hx hb dX6_makeNumberPower_121 rfl (lv_at hl 0 rfl) ?_
        have hC_12 : CS ad cA g_9 L := CS.same hC hAL (fun (k : Nat) (hk : (76 ≤ k ∧ k < 876) ∨ k = 2077 ∨ k = 2107 ∨ k = 2080 ∨ k = 2081 ∨ (2117 ≤ k ∧ k < 2517)) => (fr_10 k (by omega)).trans ((fr_6 k (by omega)).trans (rfl)))
        have f_13 : g_9 2080 = .inr (9, [.ref (ad 2081), .ref (ad 2082), .int (nI L.length), .ref (ad 2083), .ref (ad 2077), .ref (ad 2107), .ref (ad (2 * 6))]) := (fr_10 2080 (by omega)).trans ((fr_6 2080 (by omega)).trans hO)
        refine va_calli (va_runV (As := []) (rest := []) ⟨hx, hb, hml, hown, hts⟩ (c_V6_keepNumber l dC dI A ad cA g_9 L (pp ^ e9) (qq ^ e9) hC_12 h4E h5E (Nat.pow_pos b3)) (cwV 0 hts (goodIn_app (goodIn_r [Cond.methodLink RX6 50 yX6_keepNumber, Cond.instanceMethod yX6_keepNumber, Cond.selects RX6 yX6_keepNumber yX6_keepNumber, Cond.initialized RX6] [6, 7, 8, 9] rfl rfl) (goodIn_sub (fun w9 h9 => bk2 w9 h9) gw_V6_keepNumber)) rfl rfl rfl (by decide +kernel) ⟨Nat.le_of_ble_eq_true rfl, Nat.le_of_ble_eq_true rfl⟩) ⟨fun a U g mk q => ⟨q.1, q.2.1, q.2.2.1, LY.moved (u := U) (U := U.calling g mk a) (Vm.Alike.refl U.vm) q.2.2.2⟩, va_recv hK hP (ci := 9) (q0 := 2080) rfl (wo_at (by decide) f_13), fun U hU hW => ⟨rfl, by rw [hU]; exact fun q h => hA q (Nat.le_trans hS.1 h), by rw [hU]; exact hP, LY.moved hW.alike hL⟩⟩ rfl rfl hl.1 rfl (lv_room (Nat.le_of_ble_eq_true rfl)) dX6_makeNumberPower_122 ⟨(Nat.le_of_ble_eq_true rfl), (Nat.le_of_ble_eq_true rfl)⟩) hS (fun q _ h => h) (fun q h => h) (fun r_14 u8 t8 H1 locs ht8 hvm8 hw_15 hB hz1 hk1 hS => ?_)
        obtain ⟨g_16, rfl⟩ : ∃ z, z = u8 := ⟨_, rfl⟩
        try dsimp only at hw_15 hB
        rw [ht8] at hB
        have hP := hB
        generalize H1 = H at hP hS ⊢
        obtain ⟨fr_17, hK⟩ := hw_15
        refine W.widen (k := 0) (n := 0) (by omega) (by omega) ?_
        exact W.iret (v := r_14) hx hb hr (fun t9 ht9 hW9 => ⟨⟨r_14, g_16, rfl, ⟨(fun (k : Nat) (hk : (14 ≤ k ∧ k < 76) ∨ (876 ≤ k ∧ k < 2080) ∨ (2081 ≤ k ∧ k < 2117)) => (fr_17 k (by omega)).trans ((fr_10 k (by omega)).trans ((fr_6 k (by omega)).trans (rfl)))), by rw [← hpp, ← hqq]; exact hK⟩, by show va_P (dC, dI) vwCl _ t9.heap; rw [ht9]; exact hP⟩, hS.F ht9⟩) hS.2.2 dX6_makeNumberPower_125
      · have c_11 := mt (nI_leI (a := e9) (b := i) (by omega) (by omega)).mpr c_11
        refine lv_aload_n hx hb dX6_makeNumberPower_16 rfl (lv_at hl 0 rfl) ?_
        have f_18 : g_9 2080 = .inr (9, [.ref (ad 2081), .ref (ad 2082), .int (nI L.length), .ref (ad 2083), .ref (ad 2077), .ref (ad 2107), .ref (ad (2 * 6))]) := (fr_10 2080 (by omega)).trans ((fr_6 2080 (by omega)).trans hO)
        refine m_get (D := (dC, dI)) (v := .ref (ad (2 * 6))) (C := RX6) (T := TX6) (N := 7) hx hb hts bk0 hown hK hP 2080 (by decide) f_18 rfl 6 (by decide) (hts (.fieldLink RX6 37 "GradientDesk$Shelf" "hold" "LGradientDesk$Whole;") (List.mem_of_getElem? (i := 10) rfl)) (fun _ h9 => h9) rfl dX6_makeNumberPower_17 ?_
        refine lv_aload_n hx hb dX6_makeNumberPower_20 rfl (lv_at hl 0 rfl) ?_
        refine m_get (D := (dC, dI)) (v := .ref (ad 2107)) (C := RX6) (T := TX6) (N := 7) hx hb hts bk0 hown hK hP 2080 (by decide) f_18 rfl 5 (by decide) (hts (.fieldLink RX6 30 "GradientDesk$Shelf" "work" "LGradientDesk$Fraction;") (List.mem_of_getElem? (i := 1) rfl)) (fun _ h9 => h9) rfl dX6_makeNumberPower_21 ?_
        have f_19 : g_9 2107 = .inr (5, [.ref (ad (2 * 4)), .ref (ad (2 * 5))]) := (fr_10 2107 (by omega)).trans ((fr_6 2107 (by omega)).trans hWk)
        refine m_get (D := (dC, dI)) (v := .ref (ad (2 * 4))) (C := RX2) (T := TX2) (N := 2) hx hb hts bk3 hown hK hP 2107 (by decide) f_19 rfl 0 (by decide) (hts (.fieldLink RX6 112 "GradientDesk$Fraction" "top" "LGradientDesk$Whole;") (List.mem_of_getElem? (i := 11) rfl)) (fun _ h9 => h9) rfl dX6_makeNumberPower_24 ?_
        refine lv_aload_n hx hb dX6_makeNumberPower_27 rfl (lv_at hl 1 rfl) ?_
        have hq_20 := hFr x1 (by omega)
        have f_21 : g_9 (2118 + 2 * x1) = .inr (5, [.ref (ad (2 * (38 + 2 * x1))), .ref (ad (2 * (39 + 2 * x1)))]) := (fr_10 (2118 + 2 * x1) (by omega)).trans ((fr_6 (2118 + 2 * x1) (by omega)).trans hq_20)
        refine m_get (D := (dC, dI)) (v := .ref (ad (2 * (38 + 2 * x1)))) (C := RX2) (T := TX2) (N := 2) hx hb hts bk3 hown hK hP (2118 + 2 * x1) (ns_q (by omega)) f_21 rfl 0 (by decide) (hts (.fieldLink RX6 112 "GradientDesk$Fraction" "top" "LGradientDesk$Whole;") (List.mem_of_getElem? (i := 11) rfl)) (fun _ h9 => h9) rfl dX6_makeNumberPower_28 ?_
        obtain ⟨mw_22, sw_22, nw_22, fw_22, aw_22, bw_22, cw_22, dw_22, ew_22⟩ := hAL 6 (by omega)
        have qw_22 : mw_22 ≤ 4096 := by rw [dw_22]; exact rmc_le _
        have hv_23 : WV ad cA g_9 (38 + 2 * x1) pp := WV.same n1 ((fun (k : Nat) (hk : k = 2 * (38 + 2 * x1) ∨ k = 2 * (38 + 2 * x1) + 1) => (fr_10 k (by omega)).trans ((fr_6 k (by omega)).trans (rfl))) _ (Or.inl rfl)) ((fun (k : Nat) (hk : k = 2 * (38 + 2 * x1) ∨ k = 2 * (38 + 2 * x1) + 1) => (fr_10 k (by omega)).trans ((fr_6 k (by omega)).trans (rfl))) _ (Or.inr rfl))
        refine va_callv (va_runV (As := [.ref (ad (2 * 4)), .ref (ad (2 * (38 + 2 * x1)))]) (rest := []) ⟨hx, hb, hml, hown, hts⟩ (c_V8_multiply l dC dI A ad cA g_9 6 4 (38 + 2 * x1) (pp ^ i) pp 13 13 hAL (by decide) (by decide) (by omega) h4L hv_23 (by decide) (by omega) (fit13 hb4) b1 (by decide)) (cwV 2 hts (goodIn_app (goodIn_r [Cond.methodLink RX6 115 yX8_multiply, Cond.instanceMethod yX8_multiply, Cond.selects RX8 yX8_multiply yX8_multiply, Cond.initialized RX8] [12, 13, 14, 15] rfl rfl) (goodIn_sub (fun w9 h9 => bk4 w9 h9) gw_V8_multiply)) rfl rfl rfl (by decide +kernel) ⟨Nat.le_of_ble_eq_true rfl, Nat.le_of_ble_eq_true rfl⟩) ⟨fun a U g mk q => ⟨q.1, q.2.1, q.2.2.1, LY.moved (u := U) (U := U.calling g mk a) (Vm.Alike.refl U.vm) q.2.2.2⟩, va_recv hK hP (ci := 11) (q0 := (2 * 6)) rfl (wo_at (ns_w (by omega)) aw_22), fun U hU hW => ⟨rfl, by rw [hU]; exact fun q h => hA q (Nat.le_trans hS.1 h), by rw [hU]; exact hP, LY.moved hW.alike hL⟩⟩ rfl rfl hl.1 rfl (lv_room (Nat.le_of_ble_eq_true rfl)) dX6_makeNumberPower_31 ⟨(Nat.le_of_ble_eq_true rfl), (Nat.le_of_ble_eq_true rfl)⟩) hS (fun q _ h => h) (fun q h => h) (fun u8 t8 H1 locs ht8 hvm8 hw_26 hB hz1 hk1 hS => ?_)
        obtain ⟨g_27, rfl⟩ : ∃ z, z = u8 := ⟨_, rfl⟩
        try dsimp only at hw_26 hB
        rw [ht8] at hB
        have hP := hB
        generalize H1 = H at hP hS ⊢
        obtain ⟨fr_28, hAW_24, hv_25⟩ := hw_26
        refine lv_aload_n hx hb dX6_makeNumberPower_34 rfl (lv_at hl 0 rfl) ?_
        have f_29 : g_27 2080 = .inr (9, [.ref (ad 2081), .ref (ad 2082), .int (nI L.length), .ref (ad 2083), .ref (ad 2077), .ref (ad 2107), .ref (ad (2 * 6))]) := (fr_28 2080 (by omega)).trans f_18
        refine m_get (D := (dC, dI)) (v := .ref (ad 2107)) (C := RX6) (T := TX6) (N := 7) hx hb hts bk0 hown hK hP 2080 (by decide) f_29 rfl 5 (by decide) (hts (.fieldLink RX6 30 "GradientDesk$Shelf" "work" "LGradientDesk$Fraction;") (List.mem_of_getElem? (i := 1) rfl)) (fun _ h9 => h9) rfl dX6_makeNumberPower_35 ?_
        have f_30 : g_27 2107 = .inr (5, [.ref (ad (2 * 4)), .ref (ad (2 * 5))]) := (fr_28 2107 (by omega)).trans f_19
        refine m_get (D := (dC, dI)) (v := .ref (ad (2 * 4))) (C := RX2) (T := TX2) (N := 2) hx hb hts bk3 hown hK hP 2107 (by decide) f_30 rfl 0 (by decide) (hts (.fieldLink RX6 112 "GradientDesk$Fraction" "top" "LGradientDesk$Whole;") (List.mem_of_getElem? (i := 11) rfl)) (fun _ h9 => h9) rfl dX6_makeNumberPower_38 ?_
        refine lv_aload_n hx hb dX6_makeNumberPower_41 rfl (lv_at hl 0 rfl) ?_
        refine m_get (D := (dC, dI)) (v := .ref (ad (2 * 6))) (C := RX6) (T := TX6) (N := 7) hx hb hts bk0 hown hK hP 2080 (by decide) f_29 rfl 6 (by decide) (hts (.fieldLink RX6 37 "GradientDesk$Shelf" "hold" "LGradientDesk$Whole;") (List.mem_of_getElem? (i := 10) rfl)) (fun _ h9 => h9) rfl dX6_makeNumberPower_42 ?_
        obtain ⟨mw_31, sw_31, nw_31, fw_31, aw_31, bw_31, cw_31, dw_31, ew_31⟩ := hAW_24 4 (by omega)
        have qw_31 : mw_31 ≤ 4096 := by rw [dw_31]; exact rmc_le _
        refine va_callv (va_runV (As := [.ref (ad (2 * 6))]) (rest := []) ⟨hx, hb, hml, hown, hts⟩ (c_V8_become l dC dI A ad cA g_27 4 6 ((pp ^ i) * pp) hAW_24 (by decide) (by decide) hv_25 (by decide) (by rw [Int.natAbs_mul]; exact Nat.lt_of_lt_of_le (p13 (fit13 hb4) b1) (Nat.pow_le_pow_right (by decide) (by decide)))) (cwV 1 hts (goodIn_app (goodIn_r [Cond.methodLink RX6 118 yX8_become, Cond.instanceMethod yX8_become, Cond.selects RX8 yX8_become yX8_become, Cond.initialized RX8] [16, 17, 18, 15] rfl rfl) (goodIn_sub (fun w9 h9 => bk5 w9 h9) gw_V8_become)) rfl rfl rfl (by decide +kernel) ⟨Nat.le_of_ble_eq_true rfl, Nat.le_of_ble_eq_true rfl⟩) ⟨fun a U g mk q => ⟨q.1, q.2.1, q.2.2.1, LY.moved (u := U) (U := U.calling g mk a) (Vm.Alike.refl U.vm) q.2.2.2⟩, va_recv hK hP (ci := 11) (q0 := (2 * 4)) rfl (wo_at (ns_w (by omega)) aw_31), fun U hU hW => ⟨rfl, by rw [hU]; exact fun q h => hA q (Nat.le_trans hS.1 h), by rw [hU]; exact hP, LY.moved hW.alike hL⟩⟩ rfl rfl hl.1 rfl (lv_room (Nat.le_of_ble_eq_true rfl)) dX6_makeNumberPower_45 ⟨(Nat.le_of_ble_eq_true rfl), (Nat.le_of_ble_eq_true rfl)⟩) hS (fun q _ h => h) (fun q h => h) (fun u8 t8 H1 locs ht8 hvm8 hw_34 hB hz1 hk1 hS => ?_)
        obtain ⟨g_35, rfl⟩ : ∃ z, z = u8 := ⟨_, rfl⟩
        try dsimp only at hw_34 hB
        rw [ht8] at hB
        have hP := hB
        generalize H1 = H at hP hS ⊢
        obtain ⟨fr_36, hAW_32, hv_33⟩ := hw_34
        have hv_37 : WV ad cA g_35 4 (pp ^ (i + 1)) := by rw [Int.pow_succ]; exact hv_33
        refine lv_aload_n hx hb dX6_makeNumberPower_48 rfl (lv_at hl 0 rfl) ?_
        have f_38 : g_35 2080 = .inr (9, [.ref (ad 2081), .ref (ad 2082), .int (nI L.length), .ref (ad 2083), .ref (ad 2077), .ref (ad 2107), .ref (ad (2 * 6))]) := (fr_36 2080 (by omega)).trans f_29
        refine m_get (D := (dC, dI)) (v := .ref (ad (2 * 6))) (C := RX6) (T := TX6) (N := 7) hx hb hts bk0 hown hK hP 2080 (by decide) f_38 rfl 6 (by decide) (hts (.fieldLink RX6 37 "GradientDesk$Shelf" "hold" "LGradientDesk$Whole;") (List.mem_of_getElem? (i := 10) rfl)) (fun _ h9 => h9) rfl dX6_makeNumberPower_49 ?_
        refine lv_aload_n hx hb dX6_makeNumberPower_52 rfl (lv_at hl 0 rfl) ?_
        refine m_get (D := (dC, dI)) (v := .ref (ad 2107)) (C := RX6) (T := TX6) (N := 7) hx hb hts bk0 hown hK hP 2080 (by decide) f_38 rfl 5 (by decide) (hts (.fieldLink RX6 30 "GradientDesk$Shelf" "work" "LGradientDesk$Fraction;") (List.mem_of_getElem? (i := 1) rfl)) (fun _ h9 => h9) rfl dX6_makeNumberPower_53 ?_
        have f_39 : g_35 2107 = .inr (5, [.ref (ad (2 * 4)), .ref (ad (2 * 5))]) := (fr_36 2107 (by omega)).trans f_30
        refine m_get (D := (dC, dI)) (v := .ref (ad (2 * 5))) (C := RX2) (T := TX2) (N := 2) hx hb hts bk3 hown hK hP 2107 (by decide) f_39 rfl 1 (by decide) (hts (.fieldLink RX6 122 "GradientDesk$Fraction" "bottom" "LGradientDesk$Whole;") (List.mem_of_getElem? (i := 19) rfl)) (fun _ h9 => h9) rfl dX6_makeNumberPower_56 ?_
        refine lv_aload_n hx hb dX6_makeNumberPower_59 rfl (lv_at hl 1 rfl) ?_
        have f_40 : g_35 (2118 + 2 * x1) = .inr (5, [.ref (ad (2 * (38 + 2 * x1))), .ref (ad (2 * (39 + 2 * x1)))]) := (fr_36 (2118 + 2 * x1) (by omega)).trans ((fr_28 (2118 + 2 * x1) (by omega)).trans f_21)
        refine m_get (D := (dC, dI)) (v := .ref (ad (2 * (39 + 2 * x1)))) (C := RX2) (T := TX2) (N := 2) hx hb hts bk3 hown hK hP (2118 + 2 * x1) (ns_q (by omega)) f_40 rfl 1 (by decide) (hts (.fieldLink RX6 122 "GradientDesk$Fraction" "bottom" "LGradientDesk$Whole;") (List.mem_of_getElem? (i := 19) rfl)) (fun _ h9 => h9) rfl dX6_makeNumberPower_60 ?_
        obtain ⟨mw_41, sw_41, nw_41, fw_41, aw_41, bw_41, cw_41, dw_41, ew_41⟩ := hAW_32 6 (by omega)
        have qw_41 : mw_41 ≤ 4096 := by rw [dw_41]; exact rmc_le _
        have hv_42 : WV ad cA g_35 5 ((qq ^ i : Nat) : Int) := WV.same h5L ((fun (k : Nat) (hk : k = 2 * 5 ∨ k = 2 * 5 + 1) => (fr_36 k (by omega)).trans ((fr_28 k (by omega)).trans (rfl))) _ (Or.inl rfl)) ((fun (k : Nat) (hk : k = 2 * 5 ∨ k = 2 * 5 + 1) => (fr_36 k (by omega)).trans ((fr_28 k (by omega)).trans (rfl))) _ (Or.inr rfl))
        have hv_43 : WV ad cA g_35 (39 + 2 * x1) ((qq : Nat) : Int) := WV.same n2 ((fun (k : Nat) (hk : k = 2 * (39 + 2 * x1) ∨ k = 2 * (39 + 2 * x1) + 1) => (fr_36 k (by omega)).trans ((fr_28 k (by omega)).trans ((fr_10 k (by omega)).trans ((fr_6 k (by omega)).trans (rfl))))) _ (Or.inl rfl)) ((fun (k : Nat) (hk : k = 2 * (39 + 2 * x1) ∨ k = 2 * (39 + 2 * x1) + 1) => (fr_36 k (by omega)).trans ((fr_28 k (by omega)).trans ((fr_10 k (by omega)).trans ((fr_6 k (by omega)).trans (rfl))))) _ (Or.inr rfl))
        refine va_callv (va_runV (As := [.ref (ad (2 * 5)), .ref (ad (2 * (39 + 2 * x1)))]) (rest := []) ⟨hx, hb, hml, hown, hts⟩ (c_V8_multiply l dC dI A ad cA g_35 6 5 (39 + 2 * x1) ((qq ^ i : Nat) : Int) ((qq : Nat) : Int) 13 13 hAW_32 (by decide) (by decide) (by omega) hv_42 hv_43 (by decide) (by omega) hc5 hb2 (by decide)) (cwV 2 hts (goodIn_app (goodIn_r [Cond.methodLink RX6 115 yX8_multiply, Cond.instanceMethod yX8_multiply, Cond.selects RX8 yX8_multiply yX8_multiply, Cond.initialized RX8] [12, 13, 14, 15] rfl rfl) (goodIn_sub (fun w9 h9 => bk4 w9 h9) gw_V8_multiply)) rfl rfl rfl (by decide +kernel) ⟨Nat.le_of_ble_eq_true rfl, Nat.le_of_ble_eq_true rfl⟩) ⟨fun a U g mk q => ⟨q.1, q.2.1, q.2.2.1, LY.moved (u := U) (U := U.calling g mk a) (Vm.Alike.refl U.vm) q.2.2.2⟩, va_recv hK hP (ci := 11) (q0 := (2 * 6)) rfl (wo_at (ns_w (by omega)) aw_41), fun U hU hW => ⟨rfl, by rw [hU]; exact fun q h => hA q (Nat.le_trans hS.1 h), by rw [hU]; exact hP, LY.moved hW.alike hL⟩⟩ rfl rfl hl.1 rfl (lv_room (Nat.le_of_ble_eq_true rfl)) dX6_makeNumberPower_63 ⟨(Nat.le_of_ble_eq_true rfl), (Nat.le_of_ble_eq_true rfl)⟩) hS (fun q _ h => h) (fun q h => h) (fun u8 t8 H1 locs ht8 hvm8 hw_46 hB hz1 hk1 hS => ?_)
        obtain ⟨g_47, rfl⟩ : ∃ z, z = u8 := ⟨_, rfl⟩
        try dsimp only at hw_46 hB
        rw [ht8] at hB
        have hP := hB
        generalize H1 = H at hP hS ⊢
        obtain ⟨fr_48, hAW_44, hv_45⟩ := hw_46
        refine lv_aload_n hx hb dX6_makeNumberPower_66 rfl (lv_at hl 0 rfl) ?_
        have f_49 : g_47 2080 = .inr (9, [.ref (ad 2081), .ref (ad 2082), .int (nI L.length), .ref (ad 2083), .ref (ad 2077), .ref (ad 2107), .ref (ad (2 * 6))]) := (fr_48 2080 (by omega)).trans f_38
        refine m_get (D := (dC, dI)) (v := .ref (ad 2107)) (C := RX6) (T := TX6) (N := 7) hx hb hts bk0 hown hK hP 2080 (by decide) f_49 rfl 5 (by decide) (hts (.fieldLink RX6 30 "GradientDesk$Shelf" "work" "LGradientDesk$Fraction;") (List.mem_of_getElem? (i := 1) rfl)) (fun _ h9 => h9) rfl dX6_makeNumberPower_67 ?_
        have f_50 : g_47 2107 = .inr (5, [.ref (ad (2 * 4)), .ref (ad (2 * 5))]) := (fr_48 2107 (by omega)).trans f_39
        refine m_get (D := (dC, dI)) (v := .ref (ad (2 * 5))) (C := RX2) (T := TX2) (N := 2) hx hb hts bk3 hown hK hP 2107 (by decide) f_50 rfl 1 (by decide) (hts (.fieldLink RX6 122 "GradientDesk$Fraction" "bottom" "LGradientDesk$Whole;") (List.mem_of_getElem? (i := 19) rfl)) (fun _ h9 => h9) rfl dX6_makeNumberPower_70 ?_
        refine lv_aload_n hx hb dX6_makeNumberPower_73 rfl (lv_at hl 0 rfl) ?_
        refine m_get (D := (dC, dI)) (v := .ref (ad (2 * 6))) (C := RX6) (T := TX6) (N := 7) hx hb hts bk0 hown hK hP 2080 (by decide) f_49 rfl 6 (by decide) (hts (.fieldLink RX6 37 "GradientDesk$Shelf" "hold" "LGradientDesk$Whole;") (List.mem_of_getElem? (i := 10) rfl)) (fun _ h9 => h9) rfl dX6_makeNumberPower_74 ?_
        obtain ⟨mw_51, sw_51, nw_51, fw_51, aw_51, bw_51, cw_51, dw_51, ew_51⟩ := hAW_44 5 (by omega)
        have qw_51 : mw_51 ≤ 4096 := by rw [dw_51]; exact rmc_le _
        refine va_callv (va_runV (As := [.ref (ad (2 * 6))]) (rest := []) ⟨hx, hb, hml, hown, hts⟩ (c_V8_become l dC dI A ad cA g_47 5 6 (((qq ^ i : Nat) : Int) * ((qq : Nat) : Int)) hAW_44 (by decide) (by decide) hv_45 (by decide) (by rw [Int.natAbs_mul]; exact Nat.lt_of_lt_of_le (p13 hc5 hb2) (Nat.pow_le_pow_right (by decide) (by decide)))) (cwV 1 hts (goodIn_app (goodIn_r [Cond.methodLink RX6 118 yX8_become, Cond.instanceMethod yX8_become, Cond.selects RX8 yX8_become yX8_become, Cond.initialized RX8] [16, 17, 18, 15] rfl rfl) (goodIn_sub (fun w9 h9 => bk5 w9 h9) gw_V8_become)) rfl rfl rfl (by decide +kernel) ⟨Nat.le_of_ble_eq_true rfl, Nat.le_of_ble_eq_true rfl⟩) ⟨fun a U g mk q => ⟨q.1, q.2.1, q.2.2.1, LY.moved (u := U) (U := U.calling g mk a) (Vm.Alike.refl U.vm) q.2.2.2⟩, va_recv hK hP (ci := 11) (q0 := (2 * 5)) rfl (wo_at (ns_w (by omega)) aw_51), fun U hU hW => ⟨rfl, by rw [hU]; exact fun q h => hA q (Nat.le_trans hS.1 h), by rw [hU]; exact hP, LY.moved hW.alike hL⟩⟩ rfl rfl hl.1 rfl (lv_room (Nat.le_of_ble_eq_true rfl)) dX6_makeNumberPower_77 ⟨(Nat.le_of_ble_eq_true rfl), (Nat.le_of_ble_eq_true rfl)⟩) hS (fun q _ h => h) (fun q h => h) (fun u8 t8 H1 locs ht8 hvm8 hw_54 hB hz1 hk1 hS => ?_)
        obtain ⟨g_55, rfl⟩ : ∃ z, z = u8 := ⟨_, rfl⟩
        try dsimp only at hw_54 hB
        rw [ht8] at hB
        have hP := hB
        generalize H1 = H at hP hS ⊢
        obtain ⟨fr_56, hAW_52, hv_53⟩ := hw_54
        have hv_57 : WV ad cA g_55 5 ((qq ^ (i + 1) : Nat) : Int) := by rw [Nat.pow_succ, Int.natCast_mul]; exact hv_53
        refine lv_aload_n hx hb dX6_makeNumberPower_80 rfl (lv_at hl 0 rfl) ?_
        have f_58 : g_55 2080 = .inr (9, [.ref (ad 2081), .ref (ad 2082), .int (nI L.length), .ref (ad 2083), .ref (ad 2077), .ref (ad 2107), .ref (ad (2 * 6))]) := (fr_56 2080 (by omega)).trans f_49
        refine m_get (D := (dC, dI)) (v := .ref (ad 2107)) (C := RX6) (T := TX6) (N := 7) hx hb hts bk0 hown hK hP 2080 (by decide) f_58 rfl 5 (by decide) (hts (.fieldLink RX6 30 "GradientDesk$Shelf" "work" "LGradientDesk$Fraction;") (List.mem_of_getElem? (i := 1) rfl)) (fun _ h9 => h9) rfl dX6_makeNumberPower_81 ?_
        have f_59 : g_55 2107 = .inr (5, [.ref (ad (2 * 4)), .ref (ad (2 * 5))]) := (fr_56 2107 (by omega)).trans f_50
        refine m_get (D := (dC, dI)) (v := .ref (ad (2 * 4))) (C := RX2) (T := TX2) (N := 2) hx hb hts bk3 hown hK hP 2107 (by decide) f_59 rfl 0 (by decide) (hts (.fieldLink RX6 112 "GradientDesk$Fraction" "top" "LGradientDesk$Whole;") (List.mem_of_getElem? (i := 11) rfl)) (fun _ h9 => h9) rfl dX6_makeNumberPower_84 ?_
        have hv_60 : WV ad cA g_55 4 (pp ^ (i + 1)) := WV.same hv_37 ((fun (k : Nat) (hk : k = 2 * 4 ∨ k = 2 * 4 + 1) => (fr_56 k (by omega)).trans ((fr_48 k (by omega)).trans (rfl))) _ (Or.inl rfl)) ((fun (k : Nat) (hk : k = 2 * 4 ∨ k = 2 * 4 + 1) => (fr_56 k (by omega)).trans ((fr_48 k (by omega)).trans (rfl))) _ (Or.inr rfl))
        have fbt := bl_fit hv_60 (by decide)
        obtain ⟨mw_61, sw_61, nw_61, fw_61, aw_61, bw_61, cw_61, dw_61, ew_61⟩ := hAW_52 4 (by omega)
        have qw_61 : mw_61 ≤ 4096 := by rw [dw_61]; exact rmc_le _
        refine va_calli (va_runV (As := []) (rest := []) ⟨hx, hb, hml, hown, hts⟩ (c_V8_bitLength l dC dI A ad cA g_55 4 (pp ^ (i + 1)) hAW_52 (by decide) hv_60) (cwV 0 hts (goodIn_app (goodIn_r [Cond.methodLink RX6 125 yX8_bitLength, Cond.instanceMethod yX8_bitLength, Cond.selects RX8 yX8_bitLength yX8_bitLength, Cond.initialized RX8] [20, 21, 22, 15] rfl rfl) (goodIn_sub (fun w9 h9 => bk6 w9 h9) gw_V8_bitLength)) rfl rfl rfl (by decide +kernel) ⟨Nat.le_of_ble_eq_true rfl, Nat.le_of_ble_eq_true rfl⟩) ⟨fun a U g mk q => ⟨q.1, q.2.1, q.2.2.1, LY.moved (u := U) (U := U.calling g mk a) (Vm.Alike.refl U.vm) q.2.2.2⟩, va_recv hK hP (ci := 11) (q0 := (2 * 4)) rfl (wo_at (ns_w (by omega)) aw_61), fun U hU hW => ⟨rfl, by rw [hU]; exact fun q h => hA q (Nat.le_trans hS.1 h), by rw [hU]; exact hP, LY.moved hW.alike hL⟩⟩ rfl rfl hl.1 rfl (lv_room (Nat.le_of_ble_eq_true rfl)) dX6_makeNumberPower_87 ⟨(Nat.le_of_ble_eq_true rfl), (Nat.le_of_ble_eq_true rfl)⟩) hS (fun q _ h => h) (fun q h => h) (fun r_62 u8 t8 H1 locs ht8 hvm8 hw_63 hB hz1 hk1 hS => ?_)
        obtain ⟨⟩ := u8
        try dsimp only at hw_63 hB
        rw [ht8] at hB
        have hP := hB
        generalize H1 = H at hP hS ⊢
        obtain rfl := hw_63
        obtain ⟨bt, hbt⟩ : ∃ z, z = bl ((pp ^ (i + 1)).natAbs) := ⟨_, rfl⟩
        rw [← hbt]
        rw [← hbt] at fbt
        refine lv_sipush (v := nI 400) hx hb dX6_makeNumberPower_90 (by decide +kernel) ?_
        refine lv_icmp_gt (tgt := 112) hx hb dX6_makeNumberPower_93 (by decide) (fun c_64 => ?_) (fun c_64 => ?_)
        · have c_64 := (nI_ltI (a := 400) (b := bt) (by decide) (by omega)).mp c_64
          refine lv_bipush (v := -3) hx hb dX6_makeNumberPower_112 (by decide +kernel) ?_
          have hC_65 : CS ad cA g_55 L := CS.same hC hAW_52 (fun (k : Nat) (hk : (76 ≤ k ∧ k < 876) ∨ k = 2077 ∨ k = 2107 ∨ k = 2080 ∨ k = 2081 ∨ (2117 ≤ k ∧ k < 2517)) => (fr_56 k (by omega)).trans ((fr_48 k (by omega)).trans ((fr_36 k (by omega)).trans ((fr_28 k (by omega)).trans ((fr_10 k (by omega)).trans ((fr_6 k (by omega)).trans (rfl)))))))
          refine W.widen (k := 0) (n := 0) (by omega) (by omega) ?_
          exact W.iret (v := -3) hx hb hr (fun t9 ht9 hW9 => ⟨⟨-3, g_55, rfl, ⟨(fun (k : Nat) (hk : (14 ≤ k ∧ k < 76) ∨ (876 ≤ k ∧ k < 2080) ∨ (2081 ≤ k ∧ k < 2117)) => (fr_56 k (by omega)).trans ((fr_48 k (by omega)).trans ((fr_36 k (by omega)).trans ((fr_28 k (by omega)).trans ((fr_10 k (by omega)).trans ((fr_6 k (by omega)).trans (rfl))))))), by rw [← hpp, ← hqq]; exact CMK.bad (n := -3) (by decide) (np_bigp (i := i + 1) (by omega) (by omega)) (Or.inl rfl) hC_65⟩, by show va_P (dC, dI) vwCl _ t9.heap; rw [ht9]; exact hP⟩, hS.F ht9⟩) hS.2.2 dX6_makeNumberPower_114
        · have c_64 := mt (nI_ltI (a := 400) (b := bt) (by decide) (by omega)).mpr c_64
          refine lv_aload_n hx hb dX6_makeNumberPower_96 rfl (lv_at hl 0 rfl) ?_
          refine m_get (D := (dC, dI)) (v := .ref (ad 2107)) (C := RX6) (T := TX6) (N := 7) hx hb hts bk0 hown hK hP 2080 (by decide) f_58 rfl 5 (by decide) (hts (.fieldLink RX6 30 "GradientDesk$Shelf" "work" "LGradientDesk$Fraction;") (List.mem_of_getElem? (i := 1) rfl)) (fun _ h9 => h9) rfl dX6_makeNumberPower_97 ?_
          refine m_get (D := (dC, dI)) (v := .ref (ad (2 * 5))) (C := RX2) (T := TX2) (N := 2) hx hb hts bk3 hown hK hP 2107 (by decide) f_59 rfl 1 (by decide) (hts (.fieldLink RX6 122 "GradientDesk$Fraction" "bottom" "LGradientDesk$Whole;") (List.mem_of_getElem? (i := 19) rfl)) (fun _ h9 => h9) rfl dX6_makeNumberPower_100 ?_
          have fbu := bl_fit hv_57 (by decide)
          obtain ⟨mw_66, sw_66, nw_66, fw_66, aw_66, bw_66, cw_66, dw_66, ew_66⟩ := hAW_52 5 (by omega)
          have qw_66 : mw_66 ≤ 4096 := by rw [dw_66]; exact rmc_le _
          refine va_calli (va_runV (As := []) (rest := []) ⟨hx, hb, hml, hown, hts⟩ (c_V8_bitLength l dC dI A ad cA g_55 5 ((qq ^ (i + 1) : Nat) : Int) hAW_52 (by decide) hv_57) (cwV 0 hts (goodIn_app (goodIn_r [Cond.methodLink RX6 125 yX8_bitLength, Cond.instanceMethod yX8_bitLength, Cond.selects RX8 yX8_bitLength yX8_bitLength, Cond.initialized RX8] [20, 21, 22, 15] rfl rfl) (goodIn_sub (fun w9 h9 => bk6 w9 h9) gw_V8_bitLength)) rfl rfl rfl (by decide +kernel) ⟨Nat.le_of_ble_eq_true rfl, Nat.le_of_ble_eq_true rfl⟩) ⟨fun a U g mk q => ⟨q.1, q.2.1, q.2.2.1, LY.moved (u := U) (U := U.calling g mk a) (Vm.Alike.refl U.vm) q.2.2.2⟩, va_recv hK hP (ci := 11) (q0 := (2 * 5)) rfl (wo_at (ns_w (by omega)) aw_66), fun U hU hW => ⟨rfl, by rw [hU]; exact fun q h => hA q (Nat.le_trans hS.1 h), by rw [hU]; exact hP, LY.moved hW.alike hL⟩⟩ rfl rfl hl.1 rfl (lv_room (Nat.le_of_ble_eq_true rfl)) dX6_makeNumberPower_103 ⟨(Nat.le_of_ble_eq_true rfl), (Nat.le_of_ble_eq_true rfl)⟩) hS (fun q _ h => h) (fun q h => h) (fun r_67 u8 t8 H1 locs ht8 hvm8 hw_68 hB hz1 hk1 hS => ?_)
          obtain ⟨⟩ := u8
          try dsimp only at hw_68 hB
          rw [ht8] at hB
          have hP := hB
          generalize H1 = H at hP hS ⊢
          obtain rfl := hw_68
          rw [Int.natAbs_natCast]
          rw [Int.natAbs_natCast] at fbu
          obtain ⟨bu, hbu⟩ : ∃ z, z = bl (qq ^ (i + 1)) := ⟨_, rfl⟩
          rw [← hbu]
          rw [← hbu] at fbu
          refine lv_sipush (v := nI 400) hx hb dX6_makeNumberPower_106 (by decide +kernel) ?_
          refine lv_icmp_le (tgt := 115) hx hb dX6_makeNumberPower_109 (by decide) (fun c_69 => ?_) (fun c_69 => ?_)
          · have c_69 := (nI_leI (a := bu) (b := 400) (by omega) (by decide)).mp c_69
            refine lv_iinc (v := nI (i + 1)) (lv' := [(3, .int (nI (i + 1))), (0, .ref (ad 2080)), (1, .ref (ad (2118 + 2 * x1))), (2, .int (nI e9))]) hx hb dX6_makeNumberPower_115 hl (k := 3) rfl (nI_add i 1) (by decide) rfl (fun ls hl => ?_)
            refine lv_goto (tgt := 11) hx hb dX6_makeNumberPower_118 (by decide) ?_
            exact ih_8 (i + 1) g_55 (fun (k : Nat) (hk : k < 8 ∨ 14 ≤ k) => (fr_56 k (by omega)).trans ((fr_48 k (by omega)).trans ((fr_36 k (by omega)).trans ((fr_28 k (by omega)).trans ((fr_10 k (by omega)).trans (rfl)))))) (by omega) (by omega) (by omega) (by omega) hAW_52 hv_60 hv_57 _ _ _ hP hS (lv_sub (l' := [(0, .ref (ad 2080)), (1, .ref (ad (2118 + 2 * x1))), (2, .int (nI e9)), (3, .int (nI (i + 1)))]) hl [1, 2, 3, 0] rfl)
          · have c_69 := mt (nI_leI (a := bu) (b := 400) (by omega) (by decide)).mpr c_69
            refine lv_bipush (v := -3) hx hb dX6_makeNumberPower_112 (by decide +kernel) ?_
            have hC_72 : CS ad cA g_55 L := CS.same hC hAW_52 (fun (k : Nat) (hk : (76 ≤ k ∧ k < 876) ∨ k = 2077 ∨ k = 2107 ∨ k = 2080 ∨ k = 2081 ∨ (2117 ≤ k ∧ k < 2517)) => (fr_56 k (by omega)).trans ((fr_48 k (by omega)).trans ((fr_36 k (by omega)).trans ((fr_28 k (by omega)).trans ((fr_10 k (by omega)).trans ((fr_6 k (by omega)).trans (rfl)))))))
            refine W.widen (k := 0) (n := 0) (by omega) (by omega) ?_
            exact W.iret (v := -3) hx hb hr (fun t9 ht9 hW9 => ⟨⟨-3, g_55, rfl, ⟨(fun (k : Nat) (hk : (14 ≤ k ∧ k < 76) ∨ (876 ≤ k ∧ k < 2080) ∨ (2081 ≤ k ∧ k < 2117)) => (fr_56 k (by omega)).trans ((fr_48 k (by omega)).trans ((fr_36 k (by omega)).trans ((fr_28 k (by omega)).trans ((fr_10 k (by omega)).trans ((fr_6 k (by omega)).trans (rfl))))))), by rw [← hpp, ← hqq]; exact CMK.bad (n := -3) (by decide) (np_bigq (i := i + 1) (by omega) (by omega)) (Or.inl rfl) hC_72⟩, by show va_P (dC, dI) vwCl _ t9.heap; rw [ht9]; exact hP⟩, hS.F ht9⟩) hS.2.2 dX6_makeNumberPower_114
  exact loop_7 _ 0 g_5 (fun (k : Nat) (hk : k < 8 ∨ 14 ≤ k) => rfl) (Nat.lt_succ_self _) (by omega) (by rw [Int.pow_zero]; decide) (by rw [Nat.pow_zero]; decide) hAW_1 (by rw [Int.pow_zero]; exact hv_2) (by rw [Nat.pow_zero]; exact hv_3) _ _ _ hP hS (lv_sub (l' := [(0, .ref (ad 2080)), (1, .ref (ad (2118 + 2 * x1))), (2, .int (nI e9)), (3, .int (nI 0))]) hl [1, 2, 3, 0] rfl)
end
section
def wd_V6_makePower : List Cond := .code yX6_makePower cX6_makePower 5 (some .int) :: (([.fieldLink RX6 11 "GradientDesk$Shelf" "parts" "[LGradientDesk$Part;", .fieldLink RX6 64 "GradientDesk$Part" "sort" "I", .fieldLink RX6 79 "GradientDesk$Part" "sizeN" "I", .fieldLink RX6 91 "GradientDesk$Part" "degree" "I", .fieldLink RX6 82 "GradientDesk$Part" "sizeD" "I", .methodLink RX6 60 yX6_keep, .instanceMethod yX6_keep, .selects RX6 yX6_keep yX6_keep, .initialized RX6, .fieldLink RX6 68 "GradientDesk$Part" "number" "LGradientDesk$Fraction;", .methodLink RX6 105 yX6_makeNumberPower, .instanceMethod yX6_makeNumberPower, .selects RX6 yX6_makeNumberPower yX6_makeNumberPower, .methodLink RX6 101 yX6_makeWhole, .instanceMethod yX6_makeWhole, .selects RX6 yX6_makeWhole yX6_makeWhole] : List Cond) ++ (u_ws RX6 TX6 7 ++ (u_ws RX3 TX3 7 ++ (wd_V6_keep ++ (wd_V6_npow ++ (wd_V6_makeWhole ++ ([])))))))
theorem gw_V6_makePower : wd_V6_makePower.all goodWord = true := k_allc rfl (k_all (by decide +kernel) (k_all (gu_X6) (k_all (gu_X3) (k_all (gw_V6_keep) (k_all (gw_V6_npow) (k_all (gw_V6_makeWhole) (rfl)))))))
set_option maxHeartbeats 4000000 in
set_option maxRecDepth 100000 in
theorem c_V6_makePower (l : Launch) (dC : Nat → ClassId) (dI : Nat → Nat → Nat) (A : Nat → Prop) (ad : Nat → Nat) (cA : Nat → ClassId) (g : Nat → va_E) (L : List PD) (x1 : Nat) (e9 : Nat) (hC : CS ad cA g L) (hWf : WFL L) (ix : x1 < L.length) (he9 : e9 ≤ 9) : Met l yX6_makePower wd_V6_makePower ({ frames := 50, cells := 0, slots := 0, locals := 1000 }) (va_Pc [.ref (ad 2080), .int (nI x1), .int (nI e9)] (PR NSc tyc dC dI A ad cA g)) (va_Qi (fun (r : Int32) => fun (u : Nat → va_E) => match u with | g2 => (∀ k, (14 ≤ k ∧ k < 76) ∨ (876 ≤ k ∧ k < 2080) ∨ (2081 ≤ k ∧ k < 2117) → g2 k = g k) ∧ CMK ad cA g2 (powL L x1 e9) r) (fun (u : Nat → va_E) (t : State) => va_P (dC, dI) vwCl (wo ad NSc u) t.heap) A) (0) (0) A := by
  refine Met.ofW (cc := cX6_makePower) (maxL := 5) (ret := (some .int)) (by decide) rfl ?_
  intro p e s m args below meth c s₁ B hml hv
  obtain ⟨rfl, hA, hP, hL⟩ := hv
  have hx := B.exec
  have hb := B.bytes
  have hr := B.returns
  have hts := atoms_spec (ws := wd_V6_makePower) B.pre
  have hown : s.vm.findClass RX6 = some m.cls := findClass_of_methodNamed B.named
  have hlocks := B.notSynchronized
  have hK := hL.1
  have hD : ∀ g, va_D A (wo ad NSc g) := fun g => wo_D hL.2.1 hL.2.2 g
  have hS : va_S A s.heap s.heap [] := va_S.rf
  have bk0 : ∀ w ∈ u_ws RX6 TX6 7, w ∈ wd_V6_makePower := fun _ h => List.mem_cons_of_mem _ (List.mem_append_right _ (List.mem_append_left _ h))
  have bk1 : ∀ w ∈ u_ws RX3 TX3 7, w ∈ wd_V6_makePower := fun _ h => List.mem_cons_of_mem _ (List.mem_append_right _ (List.mem_append_right _ (List.mem_append_left _ h)))
  have bk2 : ∀ w ∈ wd_V6_keep, w ∈ wd_V6_makePower := fun _ h => List.mem_cons_of_mem _ (List.mem_append_right _ (List.mem_append_right _ (List.mem_append_right _ (List.mem_append_left _ h))))
  have bk3 : ∀ w ∈ wd_V6_npow, w ∈ wd_V6_makePower := fun _ h => List.mem_cons_of_mem _ (List.mem_append_right _ (List.mem_append_right _ (List.mem_append_right _ (List.mem_append_right _ (List.mem_append_left _ h)))))
  have bk4 : ∀ w ∈ wd_V6_makeWhole, w ∈ wd_V6_makePower := fun _ h => List.mem_cons_of_mem _ (List.mem_append_right _ (List.mem_append_right _ (List.mem_append_right _ (List.mem_append_right _ (List.mem_append_right _ (List.mem_append_left _ h))))))
  have hl := lv_entry ([.ref (ad 2080), .int (nI x1), .int (nI e9)]) (n := 5) (Nat.le_of_ble_eq_true rfl)
  rw [lg_entry_eq]
  generalize (lg_sl ([.ref (ad 2080), .int (nI x1), .int (nI e9)]) ++ List.replicate (5 - (lg_sl ([.ref (ad 2080), .int (nI x1), .int (nI e9)])).length) Slot.unset).toArray = ls at hl ⊢
  have hl : lv_has ls 5 [(0, .ref (ad 2080)), (1, .int (nI x1)), (2, .int (nI e9))] := hl
  have hC0 := hC
  obtain ⟨hLn, hW, ⟨hAr, hWk, hPa, hFr⟩, hO, pt, hPt, hM⟩ := hC0
  unfold CSO at hO
  have hpb := hPt.2
  obtain ⟨a0x1, a1x1, a2x1, a3x1, a4x1, a5x1, a6x1⟩ := hM x1 ix
  obtain ⟨w1x1, w2x1, w3x1, w4x1, w5x1, -⟩ := hWf x1 ix
  have hpx1 : g (2117 + 2 * x1) = .inr (6, [.ref (ad (2118 + 2 * x1)), .int (nI ((gd L x1).1)), .int (iI ((gd L x1).2.1)), .int (iI ((gd L x1).2.2.1)), .int (nI ((gd L x1).2.2.2.1)), .int (nI ((gd L x1).2.2.2.2.1)), .int (nI ((gd L x1).2.2.2.2.2.1))]) := by rw [hPt.1 x1 (by clear a6x1; omega), a0x1, a1x1, a2x1, a3x1, a4x1, a5x1, nI_iI, nI_iI, nI_iI, nI_iI]
  obtain ⟨fnx1, hfnx1⟩ : ∃ z : Prop, z = ((gd L x1).1 = 0 → CMN ad cA g (gd L x1) x1) := ⟨_, rfl⟩
  rw [← hfnx1] at a6x1
  have j1 : e9 * (gd L x1).2.2.2.1 ≤ 9 * 8 := Nat.mul_le_mul he9 w2x1
  have j2 : e9 * ((gd L x1).2.2.2.2.1 + 8) ≤ 9 * 408 := Nat.mul_le_mul he9 (by omega)
  have j3 : e9 * (gd L x1).2.2.2.2.2.1 ≤ 9 * 400 := Nat.mul_le_mul he9 w5x1
  refine lv_iload_n hx hb dX6_makePower_0 rfl (lv_at hl 1 rfl) ?_
  refine lv_if_lt (tgt := 9) hx hb dX6_makePower_1 (by decide) (fun c_1 => absurd ((nI_ltI (a := x1) (b := 0) (by omega) (by decide)).mp c_1) (by omega)) (fun c_1 => ?_)
  refine lv_iload_n hx hb dX6_makePower_4 rfl (lv_at hl 2 rfl) ?_
  refine lv_iconst (v := nI 1) hx hb dX6_makePower_5 (by decide +kernel) ?_
  refine lv_icmp_ne (tgt := 11) hx hb dX6_makePower_6 (by decide) (fun c_2 => ?_) (fun c_2 => ?_)
  · have c_2 := mt (nI_eq (a := e9) (b := 1) (by omega) (by decide)).mpr c_2
    refine lv_iload_n hx hb dX6_makePower_11 rfl (lv_at hl 2 rfl) ?_
    refine lv_if_ne (tgt := 21) hx hb dX6_makePower_12 (by decide) (fun c_3 => ?_) (fun c_3 => ?_)
    · have c_3 := mt (nI_eq (a := e9) (b := 0) (by omega) (by decide)).mpr c_3
      refine lv_aload_n hx hb dX6_makePower_21 rfl (lv_at hl 0 rfl) ?_
      refine m_get (D := (dC, dI)) (v := .ref (ad 2081)) (C := RX6) (T := TX6) (N := 7) hx hb hts bk0 hown hK hP 2080 (by decide) hO rfl 0 (by decide) (hts (.fieldLink RX6 11 "GradientDesk$Shelf" "parts" "[LGradientDesk$Part;") (List.mem_of_getElem? (i := 1) rfl)) (fun _ h9 => h9) rfl dX6_makePower_22 ?_
      refine lv_iload_n hx hb dX6_makePower_25 rfl (lv_at hl 1 rfl) ?_
      refine m_aald hx hb hK hP 2081 (by decide) rfl hPa (i := x1) (v := ad (2117 + 2 * x1)) (by omega) (by decide) rfl dX6_makePower_26 ?_
      refine lv_astore_n (lv' := [(3, .ref (ad (2117 + 2 * x1))), (0, .ref (ad 2080)), (1, .int (nI x1)), (2, .int (nI e9))]) hx hb dX6_makePower_27 rfl hl (by decide) rfl (fun ls hl => ?_)
      refine lv_aload_n hx hb dX6_makePower_28 rfl (lv_at hl 0 rfl) ?_
      refine m_get (D := (dC, dI)) (v := .int (nI ((gd L x1).1))) (C := RX3) (T := TX3) (N := 7) hx hb hts bk1 hown hK hP (2117 + 2 * x1) (ns_p (by omega)) hpx1 rfl 1 (by decide) (hts (.fieldLink RX6 64 "GradientDesk$Part" "sort" "I") (List.mem_of_getElem? (i := 2) rfl)) (fun _ h9 => h9) rfl dX6_makePower_29 ?_
      refine lv_if_ne (tgt := 45) hx hb dX6_makePower_32 (by decide) (fun c_4 => ?_) (fun c_4 => ?_)
      · have c_4 := mt (nI_eq (a := ((gd L x1).1)) (b := 0) (by omega) (by decide)).mpr c_4
        refine lv_iload_n hx hb dX6_makePower_45 rfl (lv_at hl 3 rfl) ?_
        refine lv_aload_n hx hb dX6_makePower_46 rfl (lv_at hl 0 rfl) ?_
        refine m_get (D := (dC, dI)) (v := .int (nI ((gd L x1).2.2.2.2.1))) (C := RX3) (T := TX3) (N := 7) hx hb hts bk1 hown hK hP (2117 + 2 * x1) (ns_p (by omega)) hpx1 rfl 5 (by decide) (hts (.fieldLink RX6 79 "GradientDesk$Part" "sizeN" "I") (List.mem_of_getElem? (i := 3) rfl)) (fun _ h9 => h9) rfl dX6_makePower_47 ?_
        refine lv_bipush (v := nI 8) hx hb dX6_makePower_50 (by decide +kernel) ?_
        refine lv_iadd hx hb dX6_makePower_52 ?_
        refine lv_topi (fun x_5 e_6 => ?_)
        obtain rfl : x_5 = nI ((gd L x1).2.2.2.2.1 + 8) := e_6.trans (nI_add ((gd L x1).2.2.2.2.1) 8)
        refine lv_imul hx hb dX6_makePower_53 ?_
        refine lv_topi (fun x_7 e_8 => ?_)
        obtain rfl : x_7 = nI (e9 * ((gd L x1).2.2.2.2.1 + 8)) := e_8.trans (pk_mul e9 ((gd L x1).2.2.2.2.1 + 8))
        refine lv_istore (lv' := [(4, .int (nI (e9 * ((gd L x1).2.2.2.2.1 + 8)))), (3, .ref (ad (2117 + 2 * x1))), (0, .ref (ad 2080)), (1, .int (nI x1)), (2, .int (nI e9))]) hx hb dX6_makePower_54 hl (by decide) rfl (fun ls hl => ?_)
        refine lv_aload_n hx hb dX6_makePower_56 rfl (lv_at hl 2 rfl) ?_
        refine lv_iconst (v := nI 4) hx hb dX6_makePower_57 (by decide +kernel) ?_
        refine lv_iload_n hx hb dX6_makePower_58 rfl (lv_at hl 3 rfl) ?_
        refine lv_iload_n hx hb dX6_makePower_59 rfl (lv_at hl 4 rfl) ?_
        refine lv_iload_n hx hb dX6_makePower_60 rfl (lv_at hl 4 rfl) ?_
        refine lv_aload_n hx hb dX6_makePower_61 rfl (lv_at hl 1 rfl) ?_
        refine m_get (D := (dC, dI)) (v := .int (nI ((gd L x1).2.2.2.1))) (C := RX3) (T := TX3) (N := 7) hx hb hts bk1 hown hK hP (2117 + 2 * x1) (ns_p (by omega)) hpx1 rfl 4 (by decide) (hts (.fieldLink RX6 91 "GradientDesk$Part" "degree" "I") (List.mem_of_getElem? (i := 4) rfl)) (fun _ h9 => h9) rfl dX6_makePower_62 ?_
        refine lv_imul hx hb dX6_makePower_65 ?_
        refine lv_topi (fun x_9 e_10 => ?_)
        obtain rfl : x_9 = nI (e9 * ((gd L x1).2.2.2.1)) := e_10.trans (pk_mul e9 ((gd L x1).2.2.2.1))
        refine lv_iload hx hb dX6_makePower_66 (lv_at hl 0 rfl) ?_
        refine lv_iload_n hx hb dX6_makePower_68 rfl (lv_at hl 4 rfl) ?_
        refine lv_aload_n hx hb dX6_makePower_69 rfl (lv_at hl 1 rfl) ?_
        refine m_get (D := (dC, dI)) (v := .int (nI ((gd L x1).2.2.2.2.2.1))) (C := RX3) (T := TX3) (N := 7) hx hb hts bk1 hown hK hP (2117 + 2 * x1) (ns_p (by omega)) hpx1 rfl 6 (by decide) (hts (.fieldLink RX6 82 "GradientDesk$Part" "sizeD" "I") (List.mem_of_getElem? (i := 5) rfl)) (fun _ h9 => h9) rfl dX6_makePower_70 ?_
        refine lv_imul hx hb dX6_makePower_73 ?_
        refine lv_topi (fun x_11 e_12 => ?_)
        obtain rfl : x_11 = nI (e9 * ((gd L x1).2.2.2.2.2.1)) := e_12.trans (pk_mul e9 ((gd L x1).2.2.2.2.2.1))
        refine va_calli (va_runV (As := [.int (nI 4), .int (nI x1), .int (nI e9), .int (nI (e9 * ((gd L x1).2.2.2.1))), .int (nI (e9 * ((gd L x1).2.2.2.2.1 + 8))), .int (nI (e9 * ((gd L x1).2.2.2.2.2.1)))]) (rest := []) ⟨hx, hb, hml, hown, hts⟩ (c_V6_keep l dC dI A ad cA g L (4, ((x1 : Nat) : Int), ((e9 : Nat) : Int), e9 * (gd L x1).2.2.2.1, e9 * ((gd L x1).2.2.2.2.1 + 8), e9 * (gd L x1).2.2.2.2.2.1, 0, 1) (nI 4) (nI x1) (nI e9) (nI (e9 * ((gd L x1).2.2.2.1))) (nI (e9 * ((gd L x1).2.2.2.2.1 + 8))) (nI (e9 * ((gd L x1).2.2.2.2.2.1))) hC ((show nI 4 = iI 4 from by decide).trans (congrArg iI (by rfl))) ((nI_iI x1).trans (congrArg iI (by rfl))) ((nI_iI e9).trans (congrArg iI (by rfl))) ((nI_iI (e9 * ((gd L x1).2.2.2.1))).trans (congrArg iI (by rfl))) ((nI_iI (e9 * ((gd L x1).2.2.2.2.1 + 8))).trans (congrArg iI (by rfl))) ((nI_iI (e9 * ((gd L x1).2.2.2.2.2.1))).trans (congrArg iI (by rfl))) (by show 4 ≤ 20000 ∧ -1 ≤ ((x1 : Nat) : Int) ∧ ((x1 : Nat) : Int) ≤ 20000 ∧ -1 ≤ ((e9 : Nat) : Int) ∧ ((e9 : Nat) : Int) ≤ 20000 ∧ e9 * (gd L x1).2.2.2.1 ≤ 20000 ∧ e9 * ((gd L x1).2.2.2.2.1 + 8) ≤ 20000 ∧ e9 * (gd L x1).2.2.2.2.2.1 ≤ 20000; omega) (show (4 : Nat) ≠ 0 from by decide)) (cwV 6 hts (goodIn_app (goodIn_r [Cond.methodLink RX6 60 yX6_keep, Cond.instanceMethod yX6_keep, Cond.selects RX6 yX6_keep yX6_keep, Cond.initialized RX6] [6, 7, 8, 9] rfl rfl) (goodIn_sub (fun w9 h9 => bk2 w9 h9) gw_V6_keep)) rfl rfl rfl (by decide +kernel) ⟨Nat.le_of_ble_eq_true rfl, Nat.le_of_ble_eq_true rfl⟩) ⟨fun a U g mk q => ⟨q.1, q.2.1, q.2.2.1, LY.moved (u := U) (U := U.calling g mk a) (Vm.Alike.refl U.vm) q.2.2.2⟩, va_recv hK hP (ci := 9) (q0 := 2080) rfl (wo_at (by decide) hO), fun U hU hW => ⟨rfl, by rw [hU]; exact fun q h => hA q (Nat.le_trans hS.1 h), by rw [hU]; exact hP, LY.moved hW.alike hL⟩⟩ rfl rfl hl.1 rfl (lv_room (Nat.le_of_ble_eq_true rfl)) dX6_makePower_74 ⟨(Nat.le_of_ble_eq_true rfl), (Nat.le_of_ble_eq_true rfl)⟩) hS (fun q _ h => h) (fun q h => h) (fun r_13 u8 t8 H1 locs ht8 hvm8 hw_14 hB hz1 hk1 hS => ?_)
        obtain ⟨g_15, rfl⟩ : ∃ z, z = u8 := ⟨_, rfl⟩
        try dsimp only at hw_14 hB
        rw [ht8] at hB
        have hP := hB
        generalize H1 = H at hP hS ⊢
        obtain ⟨fr_16, hK⟩ := hw_14
        refine W.widen (k := 0) (n := 0) (by omega) (by omega) ?_
        exact W.iret (v := r_13) hx hb hr (fun t9 ht9 hW9 => ⟨⟨r_13, g_15, rfl, ⟨(fun (k : Nat) (hk : (14 ≤ k ∧ k < 76) ∨ (876 ≤ k ∧ k < 2080) ∨ (2081 ≤ k ∧ k < 2117)) => (fr_16 k (by omega)).trans (rfl)), by unfold powL; rw [if_neg (show ¬ e9 = 0 by omega), if_neg (show ¬ e9 = 1 by omega), if_neg (show ¬ (gd L x1).1 = 0 by omega)]; exact hK⟩, by show va_P (dC, dI) vwCl _ t9.heap; rw [ht9]; exact hP⟩, hS.F ht9⟩) hS.2.2 dX6_makePower_77
      · have c_4 := (nI_eq (a := ((gd L x1).1)) (b := 0) (by omega) (by decide)).mp c_4
        refine lv_aload_n hx hb dX6_makePower_35 rfl (lv_at hl 1 rfl) ?_
        refine lv_aload_n hx hb dX6_makePower_36 rfl (lv_at hl 0 rfl) ?_
        refine m_get (D := (dC, dI)) (v := .ref (ad (2118 + 2 * x1))) (C := RX3) (T := TX3) (N := 7) hx hb hts bk1 hown hK hP (2117 + 2 * x1) (ns_p (by omega)) hpx1 rfl 0 (by decide) (hts (.fieldLink RX6 68 "GradientDesk$Part" "number" "LGradientDesk$Fraction;") (List.mem_of_getElem? (i := 10) rfl)) (fun _ h9 => h9) rfl dX6_makePower_37 ?_
        refine lv_iload_n hx hb dX6_makePower_40 rfl (lv_at hl 3 rfl) ?_
        refine va_calli (va_runV (As := [.ref (ad (2118 + 2 * x1)), .int (nI e9)]) (rest := []) ⟨hx, hb, hml, hown, hts⟩ (c_V6_npow l dC dI A ad cA g L x1 e9 hC hWf ix (by omega) he9) (cwV 2 hts (goodIn_app (goodIn_r [Cond.methodLink RX6 105 yX6_makeNumberPower, Cond.instanceMethod yX6_makeNumberPower, Cond.selects RX6 yX6_makeNumberPower yX6_makeNumberPower, Cond.initialized RX6] [11, 12, 13, 9] rfl rfl) (goodIn_sub (fun w9 h9 => bk3 w9 h9) gw_V6_npow)) rfl rfl rfl (by decide +kernel) ⟨Nat.le_of_ble_eq_true rfl, Nat.le_of_ble_eq_true rfl⟩) ⟨fun a U g mk q => ⟨q.1, q.2.1, q.2.2.1, LY.moved (u := U) (U := U.calling g mk a) (Vm.Alike.refl U.vm) q.2.2.2⟩, va_recv hK hP (ci := 9) (q0 := 2080) rfl (wo_at (by decide) hO), fun U hU hW => ⟨rfl, by rw [hU]; exact fun q h => hA q (Nat.le_trans hS.1 h), by rw [hU]; exact hP, LY.moved hW.alike hL⟩⟩ rfl rfl hl.1 rfl (lv_room (Nat.le_of_ble_eq_true rfl)) dX6_makePower_41 ⟨(Nat.le_of_ble_eq_true rfl), (Nat.le_of_ble_eq_true rfl)⟩) hS (fun q _ h => h) (fun q h => h) (fun r_17 u8 t8 H1 locs ht8 hvm8 hw_18 hB hz1 hk1 hS => ?_)
        obtain ⟨g_19, rfl⟩ : ∃ z, z = u8 := ⟨_, rfl⟩
        try dsimp only at hw_18 hB
        rw [ht8] at hB
        have hP := hB
        generalize H1 = H at hP hS ⊢
        obtain ⟨fr_20, hK⟩ := hw_18
        refine W.widen (k := 0) (n := 0) (by omega) (by omega) ?_
        exact W.iret (v := r_17) hx hb hr (fun t9 ht9 hW9 => ⟨⟨r_17, g_19, rfl, ⟨(fun (k : Nat) (hk : (14 ≤ k ∧ k < 76) ∨ (876 ≤ k ∧ k < 2080) ∨ (2081 ≤ k ∧ k < 2117)) => (fr_20 k (by omega)).trans (rfl)), by unfold powL; rw [if_neg (show ¬ e9 = 0 by omega), if_neg (show ¬ e9 = 1 by omega), if_pos (show (gd L x1).1 = 0 by omega)]; exact hK⟩, by show va_P (dC, dI) vwCl _ t9.heap; rw [ht9]; exact hP⟩, hS.F ht9⟩) hS.2.2 dX6_makePower_44
    · have c_3 := (nI_eq (a := e9) (b := 0) (by omega) (by decide)).mp c_3
      refine lv_aload_n hx hb dX6_makePower_15 rfl (lv_at hl 0 rfl) ?_
      refine lv_iconst (v := nI 1) hx hb dX6_makePower_16 (by decide +kernel) ?_
      refine va_calli (va_runV (As := [.int (nI 1)]) (rest := []) ⟨hx, hb, hml, hown, hts⟩ (c_V6_makeWhole l dC dI A ad cA g L (nI 1) 1 hC (by decide)) (cwV 1 hts (goodIn_app (goodIn_r [Cond.methodLink RX6 101 yX6_makeWhole, Cond.instanceMethod yX6_makeWhole, Cond.selects RX6 yX6_makeWhole yX6_makeWhole, Cond.initialized RX6] [14, 15, 16, 9] rfl rfl) (goodIn_sub (fun w9 h9 => bk4 w9 h9) gw_V6_makeWhole)) rfl rfl rfl (by decide +kernel) ⟨Nat.le_of_ble_eq_true rfl, Nat.le_of_ble_eq_true rfl⟩) ⟨fun a U g mk q => ⟨q.1, q.2.1, q.2.2.1, LY.moved (u := U) (U := U.calling g mk a) (Vm.Alike.refl U.vm) q.2.2.2⟩, va_recv hK hP (ci := 9) (q0 := 2080) rfl (wo_at (by decide) hO), fun U hU hW => ⟨rfl, by rw [hU]; exact fun q h => hA q (Nat.le_trans hS.1 h), by rw [hU]; exact hP, LY.moved hW.alike hL⟩⟩ rfl rfl hl.1 rfl (lv_room (Nat.le_of_ble_eq_true rfl)) dX6_makePower_17 ⟨(Nat.le_of_ble_eq_true rfl), (Nat.le_of_ble_eq_true rfl)⟩) hS (fun q _ h => h) (fun q h => h) (fun r_21 u8 t8 H1 locs ht8 hvm8 hw_22 hB hz1 hk1 hS => ?_)
      obtain ⟨g_23, rfl⟩ : ∃ z, z = u8 := ⟨_, rfl⟩
      try dsimp only at hw_22 hB
      rw [ht8] at hB
      have hP := hB
      generalize H1 = H at hP hS ⊢
      obtain ⟨fr_24, hK⟩ := hw_22
      refine W.widen (k := 0) (n := 0) (by omega) (by omega) ?_
      exact W.iret (v := r_21) hx hb hr (fun t9 ht9 hW9 => ⟨⟨r_21, g_23, rfl, ⟨(fun (k : Nat) (hk : (14 ≤ k ∧ k < 76) ∨ (876 ≤ k ∧ k < 2080) ∨ (2081 ≤ k ∧ k < 2117)) => (fr_24 k (by omega)).trans (rfl)), by unfold powL; rw [if_pos (show e9 = 0 by omega)]; exact hK⟩, by show va_P (dC, dI) vwCl _ t9.heap; rw [ht9]; exact hP⟩, hS.F ht9⟩) hS.2.2 dX6_makePower_20
  · have c_2 := (nI_eq (a := e9) (b := 1) (by omega) (by decide)).mp c_2
    refine lv_iload_n hx hb dX6_makePower_9 rfl (lv_at hl 1 rfl) ?_
    refine W.widen (k := 0) (n := 0) (by omega) (by omega) ?_
    exact W.iret (v := nI x1) hx hb hr (fun t9 ht9 hW9 => ⟨⟨nI x1, g, rfl, ⟨(fun (k : Nat) (hk : (14 ≤ k ∧ k < 76) ∨ (876 ≤ k ∧ k < 2080) ∨ (2081 ≤ k ∧ k < 2117)) => rfl), CMK.old (i := x1) (by unfold powL; rw [if_neg (show ¬ e9 = 0 by omega), if_pos (show e9 = 1 by omega)]) ix hC⟩, by show va_P (dC, dI) vwCl _ t9.heap; rw [ht9]; exact hP⟩, hS.F ht9⟩) hS.2.2 dX6_makePower_10
end
section
theorem seq_n {K : Int × List PD} {f : Nat → List PD → Int × List PD} (h : K.1 < 0) : seqL K f = K := if_pos h
theorem seq_p {K : Int × List PD} {f : Nat → List PD → Int × List PD} {n : Nat} (h : K.1 = (n : Int)) : seqL K f = f n K.2 := by
  unfold seqL
  rw [if_neg (by omega), h, Int.toNat_natCast]
theorem CMK.to {ad : Nat → Nat} {cA : Nat → ClassId} {g2 : Nat → va_E} {K K2 : Int × List PD} {r r2 : Int32} (h : CMK ad cA g2 K r) (e : K2 = K) (e2 : r2 = r) : CMK ad cA g2 K2 r2 := by rw [e, e2]; exact h
end
section
def wd_V6_sumN : List Cond := .code yX6_makeSum cX6_makeSum 6 (some .int) :: (([] : List Cond) ++ ([]))
theorem gw_V6_sumN : wd_V6_sumN.all goodWord = true := k_allc rfl (k_all (by decide +kernel) (rfl))
set_option maxHeartbeats 4000000 in
set_option maxRecDepth 100000 in
theorem c_V6_sumN (l : Launch) (dC : Nat → ClassId) (dI : Nat → Nat → Nat) (A : Nat → Prop) (ad : Nat → Nat) (cA : Nat → ClassId) (g : Nat → va_E) (a1 : Int32) (b1 : Int32) (za : Int) (zb : Int) (ha1 : a1 = iI za) (hb1 : b1 = iI zb) (hza : -4 ≤ za ∧ za ≤ 200) (hzb : -4 ≤ zb ∧ zb ≤ 200) (hng : za < 0 ∨ (0 ≤ za ∧ zb < 0)) : Met l yX6_makeSum wd_V6_sumN ({ frames := 10, cells := 0, slots := 0, locals := 200 }) (va_Pc [.ref (ad 2080), .int a1, .int b1] (PR NSc tyc dC dI A ad cA g)) (va_Qi (fun (r : Int32) => fun (u : Unit) => match u with | () => (za < 0 ∧ r = a1) ∨ (0 ≤ za ∧ r = b1)) (fun (u : Unit) (t : State) => va_P (dC, dI) vwCl (wo ad NSc g) t.heap) A) (0) (0) A := by
  refine Met.ofW (cc := cX6_makeSum) (maxL := 6) (ret := (some .int)) (by decide) rfl ?_
  intro p e s m args below meth c s₁ B hml hv
  obtain ⟨rfl, hA, hP, hL⟩ := hv
  have hx := B.exec
  have hb := B.bytes
  have hr := B.returns
  have hts := atoms_spec (ws := wd_V6_sumN) B.pre
  have hown : s.vm.findClass RX6 = some m.cls := findClass_of_methodNamed B.named
  have hlocks := B.notSynchronized
  have hK := hL.1
  have hD : ∀ g, va_D A (wo ad NSc g) := fun g => wo_D hL.2.1 hL.2.2 g
  have hS : va_S A s.heap s.heap [] := va_S.rf
  have hl := lv_entry ([.ref (ad 2080), .int a1, .int b1]) (n := 6) (Nat.le_of_ble_eq_true rfl)
  rw [lg_entry_eq]
  generalize (lg_sl ([.ref (ad 2080), .int a1, .int b1]) ++ List.replicate (6 - (lg_sl ([.ref (ad 2080), .int a1, .int b1])).length) Slot.unset).toArray = ls at hl ⊢
  have hl : lv_has ls 6 [(0, .ref (ad 2080)), (1, .int a1), (2, .int b1)] := hl
  refine lv_iload_n hx hb dX6_makeSum_0 rfl (lv_at hl 1 rfl) ?_
  refine lv_if_lt (tgt := 8) hx hb dX6_makeSum_1 (by decide) (fun c_1 => ?_) (fun c_1 => ?_)
  · have c_1 := (k_iLT (a := za) (b := 0) ha1 (show nI 0 = iI 0 from by decide) (by omega) (by omega)).mp c_1
    refine lv_iload_n hx hb dX6_makeSum_8 rfl (lv_at hl 1 rfl) ?_
    refine lv_if_ge (tgt := 16) hx hb dX6_makeSum_9 (by decide) (fun c_2 => ?_) (fun c_2 => ?_)
    · have c_2 := (k_iLE (a := 0) (b := za) (show nI 0 = iI 0 from by decide) ha1 (by omega) (by omega)).mp c_2
      refine lv_iload_n hx hb dX6_makeSum_16 rfl (lv_at hl 2 rfl) ?_
      refine W.widen (k := 0) (n := 0) (by omega) (by omega) ?_
      exact W.iret (v := b1) hx hb hr (fun t9 ht9 hW9 => ⟨⟨b1, (), rfl, Or.inr ⟨by omega, rfl⟩, by show va_P (dC, dI) vwCl _ t9.heap; rw [ht9]; exact hP⟩, hS.F ht9⟩) hS.2.2 dX6_makeSum_17
    · have c_2 := mt (k_iLE (a := 0) (b := za) (show nI 0 = iI 0 from by decide) ha1 (by omega) (by omega)).mpr c_2
      refine lv_iload_n hx hb dX6_makeSum_12 rfl (lv_at hl 1 rfl) ?_
      refine lv_goto (tgt := 17) hx hb dX6_makeSum_13 (by decide) ?_
      refine W.widen (k := 0) (n := 0) (by omega) (by omega) ?_
      exact W.iret (v := a1) hx hb hr (fun t9 ht9 hW9 => ⟨⟨a1, (), rfl, Or.inl ⟨by omega, rfl⟩, by show va_P (dC, dI) vwCl _ t9.heap; rw [ht9]; exact hP⟩, hS.F ht9⟩) hS.2.2 dX6_makeSum_17
  · have c_1 := mt (k_iLT (a := za) (b := 0) ha1 (show nI 0 = iI 0 from by decide) (by omega) (by omega)).mpr c_1
    refine lv_iload_n hx hb dX6_makeSum_4 rfl (lv_at hl 2 rfl) ?_
    refine lv_if_ge (tgt := 18) hx hb dX6_makeSum_5 (by decide) (fun c_3 => absurd ((k_iLE (a := 0) (b := zb) (show nI 0 = iI 0 from by decide) hb1 (by omega) (by omega)).mp c_3) (by omega)) (fun c_3 => ?_)
    refine lv_iload_n hx hb dX6_makeSum_8 rfl (lv_at hl 1 rfl) ?_
    refine lv_if_ge (tgt := 16) hx hb dX6_makeSum_9 (by decide) (fun c_4 => ?_) (fun c_4 => ?_)
    · have c_4 := (k_iLE (a := 0) (b := za) (show nI 0 = iI 0 from by decide) ha1 (by omega) (by omega)).mp c_4
      refine lv_iload_n hx hb dX6_makeSum_16 rfl (lv_at hl 2 rfl) ?_
      refine W.widen (k := 0) (n := 0) (by omega) (by omega) ?_
      exact W.iret (v := b1) hx hb hr (fun t9 ht9 hW9 => ⟨⟨b1, (), rfl, Or.inr ⟨by omega, rfl⟩, by show va_P (dC, dI) vwCl _ t9.heap; rw [ht9]; exact hP⟩, hS.F ht9⟩) hS.2.2 dX6_makeSum_17
    · have c_4 := mt (k_iLE (a := 0) (b := za) (show nI 0 = iI 0 from by decide) ha1 (by omega) (by omega)).mpr c_4
      refine lv_iload_n hx hb dX6_makeSum_12 rfl (lv_at hl 1 rfl) ?_
      refine lv_goto (tgt := 17) hx hb dX6_makeSum_13 (by decide) ?_
      refine W.widen (k := 0) (n := 0) (by omega) (by omega) ?_
      exact W.iret (v := a1) hx hb hr (fun t9 ht9 hW9 => ⟨⟨a1, (), rfl, Or.inl ⟨by omega, rfl⟩, by show va_P (dC, dI) vwCl _ t9.heap; rw [ht9]; exact hP⟩, hS.F ht9⟩) hS.2.2 dX6_makeSum_17
def wd_V6_prdN : List Cond := .code yX6_makeProduct cX6_makeProduct 6 (some .int) :: (([] : List Cond) ++ ([]))
theorem gw_V6_prdN : wd_V6_prdN.all goodWord = true := k_allc rfl (k_all (by decide +kernel) (rfl))
set_option maxHeartbeats 4000000 in
set_option maxRecDepth 100000 in
theorem c_V6_prdN (l : Launch) (dC : Nat → ClassId) (dI : Nat → Nat → Nat) (A : Nat → Prop) (ad : Nat → Nat) (cA : Nat → ClassId) (g : Nat → va_E) (a1 : Int32) (b1 : Int32) (za : Int) (zb : Int) (ha1 : a1 = iI za) (hb1 : b1 = iI zb) (hza : -4 ≤ za ∧ za ≤ 200) (hzb : -4 ≤ zb ∧ zb ≤ 200) (hng : za < 0 ∨ (0 ≤ za ∧ zb < 0)) : Met l yX6_makeProduct wd_V6_prdN ({ frames := 10, cells := 0, slots := 0, locals := 200 }) (va_Pc [.ref (ad 2080), .int a1, .int b1] (PR NSc tyc dC dI A ad cA g)) (va_Qi (fun (r : Int32) => fun (u : Unit) => match u with | () => (za < 0 ∧ r = a1) ∨ (0 ≤ za ∧ r = b1)) (fun (u : Unit) (t : State) => va_P (dC, dI) vwCl (wo ad NSc g) t.heap) A) (0) (0) A := by
  refine Met.ofW (cc := cX6_makeProduct) (maxL := 6) (ret := (some .int)) (by decide) rfl ?_
  intro p e s m args below meth c s₁ B hml hv
  obtain ⟨rfl, hA, hP, hL⟩ := hv
  have hx := B.exec
  have hb := B.bytes
  have hr := B.returns
  have hts := atoms_spec (ws := wd_V6_prdN) B.pre
  have hown : s.vm.findClass RX6 = some m.cls := findClass_of_methodNamed B.named
  have hlocks := B.notSynchronized
  have hK := hL.1
  have hD : ∀ g, va_D A (wo ad NSc g) := fun g => wo_D hL.2.1 hL.2.2 g
  have hS : va_S A s.heap s.heap [] := va_S.rf
  have hl := lv_entry ([.ref (ad 2080), .int a1, .int b1]) (n := 6) (Nat.le_of_ble_eq_true rfl)
  rw [lg_entry_eq]
  generalize (lg_sl ([.ref (ad 2080), .int a1, .int b1]) ++ List.replicate (6 - (lg_sl ([.ref (ad 2080), .int a1, .int b1])).length) Slot.unset).toArray = ls at hl ⊢
  have hl : lv_has ls 6 [(0, .ref (ad 2080)), (1, .int a1), (2, .int b1)] := hl
  refine lv_iload_n hx hb dX6_makeProduct_0 rfl (lv_at hl 1 rfl) ?_
  refine lv_if_lt (tgt := 8) hx hb dX6_makeProduct_1 (by decide) (fun c_1 => ?_) (fun c_1 => ?_)
  · have c_1 := (k_iLT (a := za) (b := 0) ha1 (show nI 0 = iI 0 from by decide) (by omega) (by omega)).mp c_1
    refine lv_iload_n hx hb dX6_makeProduct_8 rfl (lv_at hl 1 rfl) ?_
    refine lv_if_ge (tgt := 16) hx hb dX6_makeProduct_9 (by decide) (fun c_2 => ?_) (fun c_2 => ?_)
    · have c_2 := (k_iLE (a := 0) (b := za) (show nI 0 = iI 0 from by decide) ha1 (by omega) (by omega)).mp c_2
      refine lv_iload_n hx hb dX6_makeProduct_16 rfl (lv_at hl 2 rfl) ?_
      refine W.widen (k := 0) (n := 0) (by omega) (by omega) ?_
      exact W.iret (v := b1) hx hb hr (fun t9 ht9 hW9 => ⟨⟨b1, (), rfl, Or.inr ⟨by omega, rfl⟩, by show va_P (dC, dI) vwCl _ t9.heap; rw [ht9]; exact hP⟩, hS.F ht9⟩) hS.2.2 dX6_makeProduct_17
    · have c_2 := mt (k_iLE (a := 0) (b := za) (show nI 0 = iI 0 from by decide) ha1 (by omega) (by omega)).mpr c_2
      refine lv_iload_n hx hb dX6_makeProduct_12 rfl (lv_at hl 1 rfl) ?_
      refine lv_goto (tgt := 17) hx hb dX6_makeProduct_13 (by decide) ?_
      refine W.widen (k := 0) (n := 0) (by omega) (by omega) ?_
      exact W.iret (v := a1) hx hb hr (fun t9 ht9 hW9 => ⟨⟨a1, (), rfl, Or.inl ⟨by omega, rfl⟩, by show va_P (dC, dI) vwCl _ t9.heap; rw [ht9]; exact hP⟩, hS.F ht9⟩) hS.2.2 dX6_makeProduct_17
  · have c_1 := mt (k_iLT (a := za) (b := 0) ha1 (show nI 0 = iI 0 from by decide) (by omega) (by omega)).mpr c_1
    refine lv_iload_n hx hb dX6_makeProduct_4 rfl (lv_at hl 2 rfl) ?_
    refine lv_if_ge (tgt := 18) hx hb dX6_makeProduct_5 (by decide) (fun c_3 => absurd ((k_iLE (a := 0) (b := zb) (show nI 0 = iI 0 from by decide) hb1 (by omega) (by omega)).mp c_3) (by omega)) (fun c_3 => ?_)
    refine lv_iload_n hx hb dX6_makeProduct_8 rfl (lv_at hl 1 rfl) ?_
    refine lv_if_ge (tgt := 16) hx hb dX6_makeProduct_9 (by decide) (fun c_4 => ?_) (fun c_4 => ?_)
    · have c_4 := (k_iLE (a := 0) (b := za) (show nI 0 = iI 0 from by decide) ha1 (by omega) (by omega)).mp c_4
      refine lv_iload_n hx hb dX6_makeProduct_16 rfl (lv_at hl 2 rfl) ?_
      refine W.widen (k := 0) (n := 0) (by omega) (by omega) ?_
      exact W.iret (v := b1) hx hb hr (fun t9 ht9 hW9 => ⟨⟨b1, (), rfl, Or.inr ⟨by omega, rfl⟩, by show va_P (dC, dI) vwCl _ t9.heap; rw [ht9]; exact hP⟩, hS.F ht9⟩) hS.2.2 dX6_makeProduct_17
    · have c_4 := mt (k_iLE (a := 0) (b := za) (show nI 0 = iI 0 from by decide) ha1 (by omega) (by omega)).mpr c_4
      refine lv_iload_n hx hb dX6_makeProduct_12 rfl (lv_at hl 1 rfl) ?_
      refine lv_goto (tgt := 17) hx hb dX6_makeProduct_13 (by decide) ?_
      refine W.widen (k := 0) (n := 0) (by omega) (by omega) ?_
      exact W.iret (v := a1) hx hb hr (fun t9 ht9 hW9 => ⟨⟨a1, (), rfl, Or.inl ⟨by omega, rfl⟩, by show va_P (dC, dI) vwCl _ t9.heap; rw [ht9]; exact hP⟩, hS.F ht9⟩) hS.2.2 dX6_makeProduct_17
def wd_V6_makeNegative : List Cond := .code yX6_makeNegative cX6_makeNegative 2 (some .int) :: (([.methodLink RX6 101 yX6_makeWhole, .instanceMethod yX6_makeWhole, .selects RX6 yX6_makeWhole yX6_makeWhole, .initialized RX6, .methodLink RX6 109 yX6_makeProduct, .instanceMethod yX6_makeProduct, .selects RX6 yX6_makeProduct yX6_makeProduct] : List Cond) ++ (wd_V6_makeWhole ++ (wd_V6_prdN ++ (wd_V6_makeProduct ++ ([])))))
theorem gw_V6_makeNegative : wd_V6_makeNegative.all goodWord = true := k_allc rfl (k_all (by decide +kernel) (k_all (gw_V6_makeWhole) (k_all (gw_V6_prdN) (k_all (gw_V6_makeProduct) (rfl)))))
set_option maxHeartbeats 4000000 in
set_option maxRecDepth 100000 in
theorem c_V6_makeNegative (l : Launch) (dC : Nat → ClassId) (dI : Nat → Nat → Nat) (A : Nat → Prop) (ad : Nat → Nat) (cA : Nat → ClassId) (g : Nat → va_E) (L : List PD) (x1 : Nat) (hC : CS ad cA g L) (hWf : WFL L) (ix : x1 < L.length) : Met l yX6_makeNegative wd_V6_makeNegative ({ frames := 60, cells := 0, slots := 0, locals := 1200 }) (va_Pc [.ref (ad 2080), .int (nI x1)] (PR NSc tyc dC dI A ad cA g)) (va_Qi (fun (r : Int32) => fun (u : Nat → va_E) => match u with | g2 => (∀ k, (14 ≤ k ∧ k < 76) ∨ (876 ≤ k ∧ k < 2080) ∨ (2081 ≤ k ∧ k < 2117) → g2 k = g k) ∧ CMK ad cA g2 (negL L x1) r) (fun (u : Nat → va_E) (t : State) => va_P (dC, dI) vwCl (wo ad NSc u) t.heap) A) (0) (0) A := by
  refine Met.ofW (cc := cX6_makeNegative) (maxL := 2) (ret := (some .int)) (by decide) rfl ?_
  intro p e s m args below meth c s₁ B hml hv
  obtain ⟨rfl, hA, hP, hL⟩ := hv
  have hx := B.exec
  have hb := B.bytes
  have hr := B.returns
  have hts := atoms_spec (ws := wd_V6_makeNegative) B.pre
  have hown : s.vm.findClass RX6 = some m.cls := findClass_of_methodNamed B.named
  have hlocks := B.notSynchronized
  have hK := hL.1
  have hD : ∀ g, va_D A (wo ad NSc g) := fun g => wo_D hL.2.1 hL.2.2 g
  have hS : va_S A s.heap s.heap [] := va_S.rf
  have bk0 : ∀ w ∈ wd_V6_makeWhole, w ∈ wd_V6_makeNegative := fun _ h => List.mem_cons_of_mem _ (List.mem_append_right _ (List.mem_append_left _ h))
  have bk1 : ∀ w ∈ wd_V6_prdN, w ∈ wd_V6_makeNegative := fun _ h => List.mem_cons_of_mem _ (List.mem_append_right _ (List.mem_append_right _ (List.mem_append_left _ h)))
  have bk2 : ∀ w ∈ wd_V6_makeProduct, w ∈ wd_V6_makeNegative := fun _ h => List.mem_cons_of_mem _ (List.mem_append_right _ (List.mem_append_right _ (List.mem_append_right _ (List.mem_append_left _ h))))
  have hl := lv_entry ([.ref (ad 2080), .int (nI x1)]) (n := 2) (Nat.le_of_ble_eq_true rfl)
  rw [lg_entry_eq]
  generalize (lg_sl ([.ref (ad 2080), .int (nI x1)]) ++ List.replicate (2 - (lg_sl ([.ref (ad 2080), .int (nI x1)])).length) Slot.unset).toArray = ls at hl ⊢
  have hl : lv_has ls 2 [(0, .ref (ad 2080)), (1, .int (nI x1))] := hl
  have hC0 := hC
  obtain ⟨hLn, hW, ⟨hAr, hWk, hPa, hFr⟩, hO, pt, hPt, hM⟩ := hC0
  unfold CSO at hO
  have hpb := hPt.2
  refine lv_iload_n hx hb dX6_makeNegative_0 rfl (lv_at hl 1 rfl) ?_
  refine lv_if_ge (tgt := 6) hx hb dX6_makeNegative_1 (by decide) (fun c_1 => ?_) (fun c_1 => absurd (mt (nI_leI (a := 0) (b := x1) (by decide) (by omega)).mpr c_1) (by omega))
  refine lv_aload_n hx hb dX6_makeNegative_6 rfl (lv_at hl 0 rfl) ?_
  refine lv_aload_n hx hb dX6_makeNegative_7 rfl (lv_at hl 0 rfl) ?_
  refine lv_iconst (v := -1) hx hb dX6_makeNegative_8 (by decide +kernel) ?_
  refine va_calli (va_runV (As := [.int (-1)]) (rest := [.ref (ad 2080)]) ⟨hx, hb, hml, hown, hts⟩ (c_V6_makeWhole l dC dI A ad cA g L (-1) (-1) hC (by decide)) (cwV 1 hts (goodIn_app (goodIn_r [Cond.methodLink RX6 101 yX6_makeWhole, Cond.instanceMethod yX6_makeWhole, Cond.selects RX6 yX6_makeWhole yX6_makeWhole, Cond.initialized RX6] [1, 2, 3, 4] rfl rfl) (goodIn_sub (fun w9 h9 => bk0 w9 h9) gw_V6_makeWhole)) rfl rfl rfl (by decide +kernel) ⟨Nat.le_of_ble_eq_true rfl, Nat.le_of_ble_eq_true rfl⟩) ⟨fun a U g mk q => ⟨q.1, q.2.1, q.2.2.1, LY.moved (u := U) (U := U.calling g mk a) (Vm.Alike.refl U.vm) q.2.2.2⟩, va_recv hK hP (ci := 9) (q0 := 2080) rfl (wo_at (by decide) hO), fun U hU hW => ⟨rfl, by rw [hU]; exact fun q h => hA q (Nat.le_trans hS.1 h), by rw [hU]; exact hP, LY.moved hW.alike hL⟩⟩ rfl rfl hl.1 rfl (lv_room (Nat.le_of_ble_eq_true rfl)) dX6_makeNegative_9 ⟨(Nat.le_of_ble_eq_true rfl), (Nat.le_of_ble_eq_true rfl)⟩) hS (fun q _ h => h) (fun q h => h) (fun r_2 u8 t8 H1 locs ht8 hvm8 hw_3 hB hz1 hk1 hS => ?_)
  obtain ⟨g_4, rfl⟩ : ∃ z, z = u8 := ⟨_, rfl⟩
  try dsimp only at hw_3 hB
  rw [ht8] at hB
  have hP := hB
  generalize H1 = H at hP hS ⊢
  obtain ⟨fr_5, hKK1⟩ := hw_3
  obtain ⟨K1, heK1⟩ : ∃ z : Int × List PD, z = numL L (-1) 1 := ⟨_, rfl⟩
  rw [← heK1] at hKK1
  have hokK1 : OKK L K1 := by rw [heK1]; exact OKK.num hWf ⟨by decide, by decide⟩
  have hleK1 := hokK1.2.1.1
  have hcK1 := hKK1.2.1
  have hloK1 := hKK1.2.2.1
  have hhiK1 := hKK1.2.2.2
  have hrK1 := hKK1.1
  have hlnK1 := hcK1.1
  rcases Int.lt_or_le K1.1 0 with hnK1 | hnK1
  · skip
    have hdK1 := hcK1
    obtain ⟨hLnK1, hWK1, ⟨hArK1, hWkK1, hPaK1, hFrK1⟩, hOK1, ptK1, hPtK1, hMK1⟩ := hdK1
    unfold CSO at hOK1
    have hpbK1 := hPtK1.2
    refine lv_iload_n hx hb dX6_makeNegative_12 rfl (lv_at hl 1 rfl) ?_
    refine va_calli (va_runV (As := [.int r_2, .int (nI x1)]) (rest := []) ⟨hx, hb, hml, hown, hts⟩ (c_V6_prdN l dC dI A ad cA g_4 r_2 (nI x1) K1.1 ((x1 : Nat) : Int) hrK1 (nI_iI x1) (by omega) (by omega) (by omega)) (cwV 2 hts (goodIn_app (goodIn_r [Cond.methodLink RX6 109 yX6_makeProduct, Cond.instanceMethod yX6_makeProduct, Cond.selects RX6 yX6_makeProduct yX6_makeProduct, Cond.initialized RX6] [5, 6, 7, 4] rfl rfl) (goodIn_sub (fun w9 h9 => bk1 w9 h9) gw_V6_prdN)) rfl rfl rfl (by decide +kernel) ⟨Nat.le_of_ble_eq_true rfl, Nat.le_of_ble_eq_true rfl⟩) ⟨fun a U g mk q => ⟨q.1, q.2.1, q.2.2.1, LY.moved (u := U) (U := U.calling g mk a) (Vm.Alike.refl U.vm) q.2.2.2⟩, va_recv hK hP (ci := 9) (q0 := 2080) rfl (wo_at (by decide) hOK1), fun U hU hW => ⟨rfl, by rw [hU]; exact fun q h => hA q (Nat.le_trans hS.1 h), by rw [hU]; exact hP, LY.moved hW.alike hL⟩⟩ rfl rfl hl.1 rfl (lv_room (Nat.le_of_ble_eq_true rfl)) dX6_makeNegative_13 ⟨(Nat.le_of_ble_eq_true rfl), (Nat.le_of_ble_eq_true rfl)⟩) hS (fun q _ h => h) (fun q h => h) (fun r_6 u8 t8 H1 locs ht8 hvm8 hw_7 hB hz1 hk1 hS => ?_)
    obtain ⟨⟩ := u8
    try dsimp only at hw_7 hB
    rw [ht8] at hB
    have hP := hB
    generalize H1 = H at hP hS ⊢
    have hrr : r_6 = r_2 := by rcases hw_7 with ⟨h8, h9⟩ | ⟨h8, h9⟩; exact h9; omega
    clear hw_7
    rw [hrr]
    refine W.widen (k := 0) (n := 0) (by omega) (by omega) ?_
    exact W.iret (v := r_2) hx hb hr (fun t9 ht9 hW9 => ⟨⟨r_2, g_4, rfl, ⟨(fun (k : Nat) (hk : (14 ≤ k ∧ k < 76) ∨ (876 ≤ k ∧ k < 2080) ∨ (2081 ≤ k ∧ k < 2117)) => (fr_5 k (by omega)).trans (rfl)), hKK1.to (by unfold negL; rw [← heK1]; exact seq_n hnK1) rfl⟩, by show va_P (dC, dI) vwCl _ t9.heap; rw [ht9]; exact hP⟩, hS.F ht9⟩) hS.2.2 dX6_makeNegative_16
  · skip
    have hdK1 := hcK1
    obtain ⟨hLnK1, hWK1, ⟨hArK1, hWkK1, hPaK1, hFrK1⟩, hOK1, ptK1, hPtK1, hMK1⟩ := hdK1
    unfold CSO at hOK1
    have hpbK1 := hPtK1.2
    obtain ⟨nK1, hiK1⟩ : ∃ z : Nat, K1.1 = (z : Int) := ⟨K1.1.toNat, by omega⟩
    have hsK1 : r_2 = nI nK1 := by rw [hrK1, hiK1]; exact (nI_iI _).symm
    rw [hsK1]
    refine lv_iload_n hx hb dX6_makeNegative_12 rfl (lv_at hl 1 rfl) ?_
    refine va_calli (va_runV (As := [.int (nI nK1), .int (nI x1)]) (rest := []) ⟨hx, hb, hml, hown, hts⟩ (c_V6_makeProduct l dC dI A ad cA g_4 K1.2 nK1 x1 hcK1 hokK1.1 (by omega) (by omega)) (cwV 2 hts (goodIn_app (goodIn_r [Cond.methodLink RX6 109 yX6_makeProduct, Cond.instanceMethod yX6_makeProduct, Cond.selects RX6 yX6_makeProduct yX6_makeProduct, Cond.initialized RX6] [5, 6, 7, 4] rfl rfl) (goodIn_sub (fun w9 h9 => bk2 w9 h9) gw_V6_makeProduct)) rfl rfl rfl (by decide +kernel) ⟨Nat.le_of_ble_eq_true rfl, Nat.le_of_ble_eq_true rfl⟩) ⟨fun a U g mk q => ⟨q.1, q.2.1, q.2.2.1, LY.moved (u := U) (U := U.calling g mk a) (Vm.Alike.refl U.vm) q.2.2.2⟩, va_recv hK hP (ci := 9) (q0 := 2080) rfl (wo_at (by decide) hOK1), fun U hU hW => ⟨rfl, by rw [hU]; exact fun q h => hA q (Nat.le_trans hS.1 h), by rw [hU]; exact hP, LY.moved hW.alike hL⟩⟩ rfl rfl hl.1 rfl (lv_room (Nat.le_of_ble_eq_true rfl)) dX6_makeNegative_13 ⟨(Nat.le_of_ble_eq_true rfl), (Nat.le_of_ble_eq_true rfl)⟩) hS (fun q _ h => h) (fun q h => h) (fun r_8 u8 t8 H1 locs ht8 hvm8 hw_9 hB hz1 hk1 hS => ?_)
    obtain ⟨g_10, rfl⟩ : ∃ z, z = u8 := ⟨_, rfl⟩
    try dsimp only at hw_9 hB
    rw [ht8] at hB
    have hP := hB
    generalize H1 = H at hP hS ⊢
    obtain ⟨fr_11, hKK2⟩ := hw_9
    obtain ⟨K2, heK2⟩ : ∃ z : Int × List PD, z = prdL K1.2 nK1 x1 := ⟨_, rfl⟩
    rw [← heK2] at hKK2
    have hokK2 : OKK K1.2 K2 := by rw [heK2]; exact OKK.prd hokK1.1 (by omega) (by omega)
    have hleK2 := hokK2.2.1.1
    have hcK2 := hKK2.2.1
    have hloK2 := hKK2.2.2.1
    have hhiK2 := hKK2.2.2.2
    have hrK2 := hKK2.1
    have hlnK2 := hcK2.1
    rcases Int.lt_or_le K2.1 0 with hnK2 | hnK2
    · skip
      have hdK2 := hcK2
      obtain ⟨hLnK2, hWK2, ⟨hArK2, hWkK2, hPaK2, hFrK2⟩, hOK2, ptK2, hPtK2, hMK2⟩ := hdK2
      unfold CSO at hOK2
      have hpbK2 := hPtK2.2
      refine W.widen (k := 0) (n := 0) (by omega) (by omega) ?_
      exact W.iret (v := r_8) hx hb hr (fun t9 ht9 hW9 => ⟨⟨r_8, g_10, rfl, ⟨(fun (k : Nat) (hk : (14 ≤ k ∧ k < 76) ∨ (876 ≤ k ∧ k < 2080) ∨ (2081 ≤ k ∧ k < 2117)) => (fr_11 k (by omega)).trans ((fr_5 k (by omega)).trans (rfl))), hKK2.to (by unfold negL; rw [← heK1, heK2]; exact seq_p hiK1) rfl⟩, by show va_P (dC, dI) vwCl _ t9.heap; rw [ht9]; exact hP⟩, hS.F ht9⟩) hS.2.2 dX6_makeNegative_16
    · skip
      have hdK2 := hcK2
      obtain ⟨hLnK2, hWK2, ⟨hArK2, hWkK2, hPaK2, hFrK2⟩, hOK2, ptK2, hPtK2, hMK2⟩ := hdK2
      unfold CSO at hOK2
      have hpbK2 := hPtK2.2
      obtain ⟨nK2, hiK2⟩ : ∃ z : Nat, K2.1 = (z : Int) := ⟨K2.1.toNat, by omega⟩
      have hsK2 : r_8 = nI nK2 := by rw [hrK2, hiK2]; exact (nI_iI _).symm
      rw [hsK2]
      refine W.widen (k := 0) (n := 0) (by omega) (by omega) ?_
      exact W.iret (v := nI nK2) hx hb hr (fun t9 ht9 hW9 => ⟨⟨nI nK2, g_10, rfl, ⟨(fun (k : Nat) (hk : (14 ≤ k ∧ k < 76) ∨ (876 ≤ k ∧ k < 2080) ∨ (2081 ≤ k ∧ k < 2117)) => (fr_11 k (by omega)).trans ((fr_5 k (by omega)).trans (rfl))), hKK2.to (by unfold negL; rw [← heK1, heK2]; exact seq_p hiK1) hsK2.symm⟩, by show va_P (dC, dI) vwCl _ t9.heap; rw [ht9]; exact hP⟩, hS.F ht9⟩) hS.2.2 dX6_makeNegative_16
end
