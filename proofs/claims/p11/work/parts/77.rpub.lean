def wd_X10_thrown : List Cond := .code yX10_thrown cX10_thrown 1 (some .int) :: (([.fieldLink RX10 78 "GradientDeskModel" "thrown" "I"] : List Cond) ++ (u_ws RX10 TX10 29 ++ ([])))
theorem gw_X10_thrown : wd_X10_thrown.all goodWord = true := k_allc rfl (k_all (by decide +kernel) (k_all (gu_X10) (rfl)))
set_option maxHeartbeats 4000000 in
set_option maxRecDepth 100000 in
theorem c_X10_thrown (l : Launch) (dC : Nat → ClassId) (dI : Nat → Nat → Nat) (A : Nat → Prop) (ad : Nat → Nat) (cA : Nat → ClassId) (g : Nat → va_E) (x : Nat → Int32) (h0 : g 0 = .inr (13, Rob ad x)) : Met l yX10_thrown wd_X10_thrown ({ frames := 10, cells := 0, slots := 0, locals := 200 }) (va_Pc [.ref (ad 0)] (PR NSr tyr dC dI A ad cA g)) (va_Qi (fun (r : Int32) => fun (u : Unit) => match u with | () => r = x 0) (fun (u : Unit) (t : State) => va_P (dC, dI) vwCl (wo ad NSr g) t.heap) A) (0) (0) A := by
  refine Met.ofW (cc := cX10_thrown) (maxL := 1) (ret := (some .int)) (by decide) rfl ?_
  intro p e s m args below meth c s₁ B hml hv
  obtain ⟨rfl, hA, hP, hL⟩ := hv
  have hx := B.exec
  have hb := B.bytes
  have hr := B.returns
  have hts := atoms_spec (ws := wd_X10_thrown) B.pre
  have hown : s.vm.findClass RX10 = some m.cls := findClass_of_methodNamed B.named
  have hlocks := B.notSynchronized
  have hK := hL.1
  have hD : ∀ g, va_D A (wo ad NSr g) := fun g => wo_D hL.2.1 hL.2.2 g
  have hS : va_S A s.heap s.heap [] := va_S.rf
  have bk0 : ∀ w ∈ u_ws RX10 TX10 29, w ∈ wd_X10_thrown := fun _ h => List.mem_cons_of_mem _ (List.mem_append_right _ (List.mem_append_left _ h))
  have hl := lv_entry ([.ref (ad 0)]) (n := 1) (Nat.le_of_ble_eq_true rfl)
  rw [lg_entry_eq]
  generalize (lg_sl ([.ref (ad 0)]) ++ List.replicate (1 - (lg_sl ([.ref (ad 0)])).length) Slot.unset).toArray = ls at hl ⊢
  have hl : lv_has ls 1 [(0, .ref (ad 0))] := hl
  refine lv_aload_n hx hb dX10_thrown_0 rfl (lv_at hl 0 rfl) ?_
  refine m_get (D := (dC, dI)) (v := .int (x 0)) (C := RX10) (T := TX10) (N := 29) hx hb hts bk0 hown hK hP 0 (by decide) h0 rfl 0 (by decide) (hts (.fieldLink RX10 78 "GradientDeskModel" "thrown" "I") (List.mem_of_getElem? (i := 1) rfl)) (fun _ h9 => h9) rfl dX10_thrown_1 ?_
  refine W.widen (k := 0) (n := 0) (by omega) (by omega) ?_
  exact W.iret (v := x 0) hx hb hr (fun t9 ht9 hW9 => ⟨⟨x 0, (), rfl, rfl, by show va_P (dC, dI) vwCl _ t9.heap; rw [ht9]; exact hP⟩, hS.F ht9⟩) hS.2.2 dX10_thrown_4
def wd_X10_made : List Cond := .code yX10_made cX10_made 1 (some .int) :: (([.fieldLink RX10 78 "GradientDeskModel" "thrown" "I", .fieldLink RX10 149 "GradientDeskModel" "made" "I"] : List Cond) ++ (u_ws RX10 TX10 29 ++ ([])))
theorem gw_X10_made : wd_X10_made.all goodWord = true := k_allc rfl (k_all (by decide +kernel) (k_all (gu_X10) (rfl)))
set_option maxHeartbeats 4000000 in
set_option maxRecDepth 100000 in
theorem c_X10_made (l : Launch) (dC : Nat → ClassId) (dI : Nat → Nat → Nat) (A : Nat → Prop) (ad : Nat → Nat) (cA : Nat → ClassId) (g : Nat → va_E) (x : Nat → Int32) (L : List PD) (nm : Nat → Int) (tx : Nat → Nat) (ty : Nat) (wr : List Int) (hI : RIE ad cA g x L nm tx ty wr) : Met l yX10_made wd_X10_made ({ frames := 20, cells := 0, slots := 0, locals := 400 }) (va_Pc [.ref (ad 0)] (PR NSr tyr dC dI A ad cA g)) (va_Qi (fun (r : Int32) => fun (u : (Nat → va_E) × (Nat → Int32)) => match u with | (g2, x2) => RIE ad cA g2 x2 L nm tx ty wr ∧ x2 0 = nI 0 ∧ x2 2 = x 2 ∧ r = nI L.length) (fun (u : (Nat → va_E) × (Nat → Int32)) (t : State) => va_P (dC, dI) vwCl (wo ad NSr u.1) t.heap) A) (0) (0) A := by
  refine Met.ofW (cc := cX10_made) (maxL := 1) (ret := (some .int)) (by decide) rfl ?_
  intro p e s m args below meth c s₁ B hml hv
  obtain ⟨rfl, hA, hP, hL⟩ := hv
  have hx := B.exec
  have hb := B.bytes
  have hr := B.returns
  have hts := atoms_spec (ws := wd_X10_made) B.pre
  have hown : s.vm.findClass RX10 = some m.cls := findClass_of_methodNamed B.named
  have hlocks := B.notSynchronized
  have hK := hL.1
  have hD : ∀ g, va_D A (wo ad NSr g) := fun g => wo_D hL.2.1 hL.2.2 g
  have hS : va_S A s.heap s.heap [] := va_S.rf
  have bk0 : ∀ w ∈ u_ws RX10 TX10 29, w ∈ wd_X10_made := fun _ h => List.mem_cons_of_mem _ (List.mem_append_right _ (List.mem_append_left _ h))
  have hl := lv_entry ([.ref (ad 0)]) (n := 1) (Nat.le_of_ble_eq_true rfl)
  rw [lg_entry_eq]
  generalize (lg_sl ([.ref (ad 0)]) ++ List.replicate (1 - (lg_sl ([.ref (ad 0)])).length) Slot.unset).toArray = ls at hl ⊢
  have hl : lv_has ls 1 [(0, .ref (ad 0))] := hl
  obtain ⟨pf, qf, pt, hI0⟩ := hI
  have hI1 := hI0
  obtain ⟨hF, hPt, hM, hW, hL2, hmd, hTx, hty, hty2, hwr, hwr2, hVO, hBd⟩ := hI1
  have hVO0 := hVO
  have hPt0 := hPt
  have hTx0 := hTx
  have hF0 := hF
  obtain ⟨vf, hV, hq⟩ := hF
  have hc_1 := hV
  obtain ⟨pnz_2, lnz_2, bnz_2, hRz_2, hvz_2⟩ := hc_1
  obtain ⟨r_3, r_4, r_5, r_6, r_7, r_8, r_9⟩ := hRz_2
  obtain ⟨p_10, p_11, p_12, p_13, p_14, p_15, hpt_16⟩ := hPt
  obtain ⟨t4, t4b, t11, t11b, t11c⟩ := hTx
  obtain ⟨⟨rc, v12, v12b⟩, ⟨f13, v13⟩, ⟨f14, v14⟩, ⟨f15, v15⟩, ⟨f16, v16⟩, ⟨f17, v17⟩, ⟨f18, v18⟩, ⟨f19, v19⟩⟩ := hVO
  refine lv_aload_n hx hb dX10_made_0 rfl (lv_at hl 0 rfl) ?_
  refine lv_iconst (v := nI 0) hx hb dX10_made_1 (by decide +kernel) ?_
  refine m_put (D := (dC, dI)) (v := .int (nI 0)) (tv := .int) (C := RX10) (T := TX10) (N := 29) hx hb hts bk0 tyX10 tyX10_ok nmX10 hown hK hP hD hS 0 (by decide) r_3 rfl 0 (by decide) (hts (.fieldLink RX10 78 "GradientDeskModel" "thrown" "I") (List.mem_of_getElem? (i := 1) rfl)) (fun _ h9 => h9) rfl (by decide +kernel) rfl rfl (Nat.le_of_ble_eq_true rfl) dX10_made_2 (fun H locs g_17 f_18 fr_19 hP hS => ?_)
  have f_18 : g_17 0 = .inr (13, Rob ad (va_up x 0 (nI 0))) := f_18
  refine lv_aload_n hx hb dX10_made_5 rfl (lv_at hl 0 rfl) ?_
  refine m_get (D := (dC, dI)) (v := .int (nI L.length)) (C := RX10) (T := TX10) (N := 29) hx hb hts bk0 hown hK hP 0 (by decide) f_18 rfl 13 (by decide) (hts (.fieldLink RX10 149 "GradientDeskModel" "made" "I") (List.mem_of_getElem? (i := 2) rfl)) (fun _ h9 => h9) (congrArg (fun z => some (Value.int z)) (show (va_up x 0 (nI 0)) 3 = (nI L.length) from hmd)) dX10_made_6 ?_
  refine W.widen (k := 0) (n := 0) (by omega) (by omega) ?_
  exact W.iret (v := nI L.length) hx hb hr (fun t9 ht9 hW9 => ⟨⟨nI L.length, (g_17, va_up x 0 (nI 0)), rfl, ⟨RI.num hI0 (hF0.setx (fun (k : Nat) (hk : k = 1 ∨ k = 2 ∨ k = 3) => (fr_19 k (by omega)).trans (rfl)) f_18 rfl) (fun (k : Nat) (hk : (4 ≤ k ∧ k ≤ 11) ∨ k = 16) => (fr_19 k (by omega)).trans (rfl)) (hVO0.same (fun (k : Nat) (hk : 12 ≤ k ∧ k ≤ 19) => (fr_19 k (by omega)).trans (rfl))) (va_up_ne _ _ (by decide)) (va_up_ne _ _ (by decide)) (va_up_ne _ _ (by decide)) (fun _ _ => ⟨rfl, rfl⟩) hBd, va_up_self _ _ _, (va_up_ne _ _ (by decide)), rfl⟩, by show va_P (dC, dI) vwCl _ t9.heap; rw [ht9]; exact hP⟩, hS.F ht9⟩) hS.2.2 dX10_made_9
def wd_X10_place : List Cond := .code yX10_place cX10_place 1 (some .int) :: (([.fieldLink RX10 78 "GradientDeskModel" "thrown" "I", .fieldLink RX10 25 "GradientDeskModel" "place" "I"] : List Cond) ++ (u_ws RX10 TX10 29 ++ ([])))
theorem gw_X10_place : wd_X10_place.all goodWord = true := k_allc rfl (k_all (by decide +kernel) (k_all (gu_X10) (rfl)))
set_option maxHeartbeats 4000000 in
set_option maxRecDepth 100000 in
theorem c_X10_place (l : Launch) (dC : Nat → ClassId) (dI : Nat → Nat → Nat) (A : Nat → Prop) (ad : Nat → Nat) (cA : Nat → ClassId) (g : Nat → va_E) (x : Nat → Int32) (L : List PD) (nm : Nat → Int) (tx : Nat → Nat) (ty : Nat) (wr : List Int) (hI : RIE ad cA g x L nm tx ty wr) : Met l yX10_place wd_X10_place ({ frames := 20, cells := 0, slots := 0, locals := 400 }) (va_Pc [.ref (ad 0)] (PR NSr tyr dC dI A ad cA g)) (va_Qi (fun (r : Int32) => fun (u : (Nat → va_E) × (Nat → Int32)) => match u with | (g2, x2) => RIE ad cA g2 x2 L nm tx ty wr ∧ x2 0 = nI 0 ∧ x2 2 = x 2 ∧ r = x 2) (fun (u : (Nat → va_E) × (Nat → Int32)) (t : State) => va_P (dC, dI) vwCl (wo ad NSr u.1) t.heap) A) (0) (0) A := by
  refine Met.ofW (cc := cX10_place) (maxL := 1) (ret := (some .int)) (by decide) rfl ?_
  intro p e s m args below meth c s₁ B hml hv
  obtain ⟨rfl, hA, hP, hL⟩ := hv
  have hx := B.exec
  have hb := B.bytes
  have hr := B.returns
  have hts := atoms_spec (ws := wd_X10_place) B.pre
  have hown : s.vm.findClass RX10 = some m.cls := findClass_of_methodNamed B.named
  have hlocks := B.notSynchronized
  have hK := hL.1
  have hD : ∀ g, va_D A (wo ad NSr g) := fun g => wo_D hL.2.1 hL.2.2 g
  have hS : va_S A s.heap s.heap [] := va_S.rf
  have bk0 : ∀ w ∈ u_ws RX10 TX10 29, w ∈ wd_X10_place := fun _ h => List.mem_cons_of_mem _ (List.mem_append_right _ (List.mem_append_left _ h))
  have hl := lv_entry ([.ref (ad 0)]) (n := 1) (Nat.le_of_ble_eq_true rfl)
  rw [lg_entry_eq]
  generalize (lg_sl ([.ref (ad 0)]) ++ List.replicate (1 - (lg_sl ([.ref (ad 0)])).length) Slot.unset).toArray = ls at hl ⊢
  have hl : lv_has ls 1 [(0, .ref (ad 0))] := hl
  obtain ⟨pf, qf, pt, hI0⟩ := hI
  have hI1 := hI0
  obtain ⟨hF, hPt, hM, hW, hL2, hmd, hTx, hty, hty2, hwr, hwr2, hVO, hBd⟩ := hI1
  have hVO0 := hVO
  have hPt0 := hPt
  have hTx0 := hTx
  have hF0 := hF
  obtain ⟨vf, hV, hq⟩ := hF
  have hc_1 := hV
  obtain ⟨pnz_2, lnz_2, bnz_2, hRz_2, hvz_2⟩ := hc_1
  obtain ⟨r_3, r_4, r_5, r_6, r_7, r_8, r_9⟩ := hRz_2
  obtain ⟨p_10, p_11, p_12, p_13, p_14, p_15, hpt_16⟩ := hPt
  obtain ⟨t4, t4b, t11, t11b, t11c⟩ := hTx
  obtain ⟨⟨rc, v12, v12b⟩, ⟨f13, v13⟩, ⟨f14, v14⟩, ⟨f15, v15⟩, ⟨f16, v16⟩, ⟨f17, v17⟩, ⟨f18, v18⟩, ⟨f19, v19⟩⟩ := hVO
  refine lv_aload_n hx hb dX10_place_0 rfl (lv_at hl 0 rfl) ?_
  refine lv_iconst (v := nI 0) hx hb dX10_place_1 (by decide +kernel) ?_
  refine m_put (D := (dC, dI)) (v := .int (nI 0)) (tv := .int) (C := RX10) (T := TX10) (N := 29) hx hb hts bk0 tyX10 tyX10_ok nmX10 hown hK hP hD hS 0 (by decide) r_3 rfl 0 (by decide) (hts (.fieldLink RX10 78 "GradientDeskModel" "thrown" "I") (List.mem_of_getElem? (i := 1) rfl)) (fun _ h9 => h9) rfl (by decide +kernel) rfl rfl (Nat.le_of_ble_eq_true rfl) dX10_place_2 (fun H locs g_17 f_18 fr_19 hP hS => ?_)
  have f_18 : g_17 0 = .inr (13, Rob ad (va_up x 0 (nI 0))) := f_18
  refine lv_aload_n hx hb dX10_place_5 rfl (lv_at hl 0 rfl) ?_
  refine m_get (D := (dC, dI)) (v := .int ((va_up x 0 (nI 0)) 2)) (C := RX10) (T := TX10) (N := 29) hx hb hts bk0 hown hK hP 0 (by decide) f_18 rfl 6 (by decide) (hts (.fieldLink RX10 25 "GradientDeskModel" "place" "I") (List.mem_of_getElem? (i := 2) rfl)) (fun _ h9 => h9) rfl dX10_place_6 ?_
  refine W.widen (k := 0) (n := 0) (by omega) (by omega) ?_
  exact W.iret (v := (va_up x 0 (nI 0)) 2) hx hb hr (fun t9 ht9 hW9 => ⟨⟨(va_up x 0 (nI 0)) 2, (g_17, va_up x 0 (nI 0)), rfl, ⟨RI.num hI0 (hF0.setx (fun (k : Nat) (hk : k = 1 ∨ k = 2 ∨ k = 3) => (fr_19 k (by omega)).trans (rfl)) f_18 rfl) (fun (k : Nat) (hk : (4 ≤ k ∧ k ≤ 11) ∨ k = 16) => (fr_19 k (by omega)).trans (rfl)) (hVO0.same (fun (k : Nat) (hk : 12 ≤ k ∧ k ≤ 19) => (fr_19 k (by omega)).trans (rfl))) (va_up_ne _ _ (by decide)) (va_up_ne _ _ (by decide)) (va_up_ne _ _ (by decide)) (fun _ _ => ⟨rfl, rfl⟩) hBd, va_up_self _ _ _, (va_up_ne _ _ (by decide)), rfl⟩, by show va_P (dC, dI) vwCl _ t9.heap; rw [ht9]; exact hP⟩, hS.F ht9⟩) hS.2.2 dX10_place_9
def wd_X10_noResult : List Cond := .code yX10_noResult cX10_noResult 2 (some .boolean) :: (([] : List Cond) ++ ([]))
theorem gw_X10_noResult : wd_X10_noResult.all goodWord = true := k_allc rfl (k_all (by decide +kernel) (rfl))
set_option maxHeartbeats 4000000 in
set_option maxRecDepth 100000 in
theorem c_X10_noResult (l : Launch) (dC : Nat → ClassId) (dI : Nat → Nat → Nat) (A : Nat → Prop) (ad : Nat → Nat) (cA : Nat → ClassId) (g : Nat → va_E) (v : Int32) : Met l yX10_noResult wd_X10_noResult ({ frames := 10, cells := 0, slots := 0, locals := 200 }) (va_Pc [.ref (ad 0), .int v] (PR NSr tyr dC dI A ad cA g)) (va_Qi (fun (r : Int32) => fun (u : Unit) => match u with | () => (r = nI 0 ∧ 0 ≤ v.toInt ∧ v.toInt ≤ 7) ∨ (r = nI 1 ∧ ¬ (0 ≤ v.toInt ∧ v.toInt ≤ 7))) (fun (u : Unit) (t : State) => va_P (dC, dI) vwCl (wo ad NSr g) t.heap) A) (0) (0) A := by
  refine Met.ofW (cc := cX10_noResult) (maxL := 2) (ret := (some .boolean)) (by decide) rfl ?_
  intro p e s m args below meth c s₁ B hml hv
  obtain ⟨rfl, hA, hP, hL⟩ := hv
  have hx := B.exec
  have hb := B.bytes
  have hr := B.returns
  have hts := atoms_spec (ws := wd_X10_noResult) B.pre
  have hown : s.vm.findClass RX10 = some m.cls := findClass_of_methodNamed B.named
  have hlocks := B.notSynchronized
  have hK := hL.1
  have hD : ∀ g, va_D A (wo ad NSr g) := fun g => wo_D hL.2.1 hL.2.2 g
  have hS : va_S A s.heap s.heap [] := va_S.rf
  have hl := lv_entry ([.ref (ad 0), .int v]) (n := 2) (Nat.le_of_ble_eq_true rfl)
  rw [lg_entry_eq]
  generalize (lg_sl ([.ref (ad 0), .int v]) ++ List.replicate (2 - (lg_sl ([.ref (ad 0), .int v])).length) Slot.unset).toArray = ls at hl ⊢
  have hl : lv_has ls 2 [(0, .ref (ad 0)), (1, .int v)] := hl
  refine lv_iload_n hx hb dX10_noResult_0 rfl (lv_at hl 1 rfl) ?_
  refine lv_if_lt (tgt := 10) hx hb dX10_noResult_1 (by decide) (fun c_1 => ?_) (fun c_1 => ?_)
  · have c_1 := (k_lt v (nI 0)).mp c_1
    rw [show (nI 0).toInt = 0 from by decide] at c_1
    refine lv_iconst (v := nI 1) hx hb dX10_noResult_10 (by decide +kernel) ?_
    refine lv_goto (tgt := 15) hx hb dX10_noResult_11 (by decide) ?_
    refine W.widen (k := 0) (n := 0) (by omega) (by omega) ?_
    exact W.zret (v := nI 1) hx hb hr (by decide +kernel) (fun t9 ht9 hW9 => ⟨⟨nI 1, (), rfl, Or.inr ⟨rfl, by omega⟩, by show va_P (dC, dI) vwCl _ t9.heap; rw [ht9]; exact hP⟩, hS.F ht9⟩) hS.2.2 dX10_noResult_15
  · have c_1 := mt (k_lt v (nI 0)).mpr c_1
    rw [show (nI 0).toInt = 0 from by decide] at c_1
    refine lv_iload_n hx hb dX10_noResult_4 rfl (lv_at hl 1 rfl) ?_
    refine lv_bipush (v := nI 7) hx hb dX10_noResult_5 (by decide +kernel) ?_
    refine lv_icmp_le (tgt := 14) hx hb dX10_noResult_7 (by decide) (fun c_2 => ?_) (fun c_2 => ?_)
    · have c_2 := (k_le v (nI 7)).mp c_2
      rw [show (nI 7).toInt = 7 from by decide] at c_2
      refine lv_iconst (v := nI 0) hx hb dX10_noResult_14 (by decide +kernel) ?_
      refine W.widen (k := 0) (n := 0) (by omega) (by omega) ?_
      exact W.zret (v := nI 0) hx hb hr (by decide +kernel) (fun t9 ht9 hW9 => ⟨⟨nI 0, (), rfl, Or.inl ⟨rfl, by omega⟩, by show va_P (dC, dI) vwCl _ t9.heap; rw [ht9]; exact hP⟩, hS.F ht9⟩) hS.2.2 dX10_noResult_15
    · have c_2 := mt (k_le v (nI 7)).mpr c_2
      rw [show (nI 7).toInt = 7 from by decide] at c_2
      refine lv_iconst (v := nI 1) hx hb dX10_noResult_10 (by decide +kernel) ?_
      refine lv_goto (tgt := 15) hx hb dX10_noResult_11 (by decide) ?_
      refine W.widen (k := 0) (n := 0) (by omega) (by omega) ?_
      exact W.zret (v := nI 1) hx hb hr (by decide +kernel) (fun t9 ht9 hW9 => ⟨⟨nI 1, (), rfl, Or.inr ⟨rfl, by omega⟩, by show va_P (dC, dI) vwCl _ t9.heap; rw [ht9]; exact hP⟩, hS.F ht9⟩) hS.2.2 dX10_noResult_15
def wd_X10_set : List Cond := .code yX10_set cX10_set 4 none :: (([.fieldLink RX10 78 "GradientDeskModel" "thrown" "I", .methodLink RX10 139 yX10_setFraction, .instanceMethod yX10_setFraction, .selects RX10 yX10_setFraction yX10_setFraction, .initialized RX10] : List Cond) ++ (u_ws RX10 TX10 29 ++ (wd_X10_setFraction ++ ([]))))
theorem gw_X10_set : wd_X10_set.all goodWord = true := k_allc rfl (k_all (by decide +kernel) (k_all (gu_X10) (k_all (gw_X10_setFraction) (rfl))))
set_option maxHeartbeats 4000000 in
set_option maxRecDepth 100000 in
theorem c_X10_set (l : Launch) (dC : Nat → ClassId) (dI : Nat → Nat → Nat) (A : Nat → Prop) (ad : Nat → Nat) (cA : Nat → ClassId) (g : Nat → va_E) (x : Nat → Int32) (L : List PD) (nm : Nat → Int) (tx : Nat → Nat) (ty : Nat) (wr : List Int) (va : Int32) (vp : Int32) (vq : Int32) (hI : RIE ad cA g x L nm tx ty wr) : Met l yX10_set wd_X10_set ({ frames := 70, cells := 0, slots := 0, locals := 1400 }) (va_Pc [.ref (ad 0), .int va, .int vp, .int vq] (PR NSr tyr dC dI A ad cA g)) (va_Qv (fun (u : (Nat → va_E) × (Nat → Int32)) => match u with | (g2, x2) => RIE ad cA g2 x2 L nm tx ty wr ∧ x2 2 = x 2 ∧ (((0 ≤ va.toInt ∧ va.toInt ≤ 2 ∧ -9999 ≤ vp.toInt ∧ vp.toInt ≤ 9999 ∧ 1 ≤ vq.toInt ∧ vq.toInt ≤ 9999) ∧ x2 0 = nI 0) ∨ (¬ (0 ≤ va.toInt ∧ va.toInt ≤ 2 ∧ -9999 ≤ vp.toInt ∧ vp.toInt ≤ 9999 ∧ 1 ≤ vq.toInt ∧ vq.toInt ≤ 9999) ∧ x2 0 = nI 1))) (fun (u : (Nat → va_E) × (Nat → Int32)) (t : State) => va_P (dC, dI) vwCl (wo ad NSr u.1) t.heap) A) (0) (0) A := by
  refine Met.ofW (cc := cX10_set) (maxL := 4) (ret := none) (by decide) rfl ?_
  intro p e s m args below meth c s₁ B hml hv
  obtain ⟨rfl, hA, hP, hL⟩ := hv
  have hx := B.exec
  have hb := B.bytes
  have hr := B.returns
  have hts := atoms_spec (ws := wd_X10_set) B.pre
  have hown : s.vm.findClass RX10 = some m.cls := findClass_of_methodNamed B.named
  have hlocks := B.notSynchronized
  have hK := hL.1
  have hD : ∀ g, va_D A (wo ad NSr g) := fun g => wo_D hL.2.1 hL.2.2 g
  have hS : va_S A s.heap s.heap [] := va_S.rf
  have bk0 : ∀ w ∈ u_ws RX10 TX10 29, w ∈ wd_X10_set := fun _ h => List.mem_cons_of_mem _ (List.mem_append_right _ (List.mem_append_left _ h))
  have bk1 : ∀ w ∈ wd_X10_setFraction, w ∈ wd_X10_set := fun _ h => List.mem_cons_of_mem _ (List.mem_append_right _ (List.mem_append_right _ (List.mem_append_left _ h)))
  have hl := lv_entry ([.ref (ad 0), .int va, .int vp, .int vq]) (n := 4) (Nat.le_of_ble_eq_true rfl)
  rw [lg_entry_eq]
  generalize (lg_sl ([.ref (ad 0), .int va, .int vp, .int vq]) ++ List.replicate (4 - (lg_sl ([.ref (ad 0), .int va, .int vp, .int vq])).length) Slot.unset).toArray = ls at hl ⊢
  have hl : lv_has ls 4 [(0, .ref (ad 0)), (1, .int va), (2, .int vp), (3, .int vq)] := hl
  obtain ⟨pf, qf, pt, hI0⟩ := hI
  have hI1 := hI0
  obtain ⟨hF, hPt, hM, hW, hL2, hmd, hTx, hty, hty2, hwr, hwr2, hVO, hBd⟩ := hI1
  have hVO0 := hVO
  have hPt0 := hPt
  have hTx0 := hTx
  have hF0 := hF
  obtain ⟨vf, hV, hq⟩ := hF
  have hc_1 := hV
  obtain ⟨pnz_2, lnz_2, bnz_2, hRz_2, hvz_2⟩ := hc_1
  obtain ⟨r_3, r_4, r_5, r_6, r_7, r_8, r_9⟩ := hRz_2
  obtain ⟨p_10, p_11, p_12, p_13, p_14, p_15, hpt_16⟩ := hPt
  obtain ⟨t4, t4b, t11, t11b, t11c⟩ := hTx
  obtain ⟨⟨rc, v12, v12b⟩, ⟨f13, v13⟩, ⟨f14, v14⟩, ⟨f15, v15⟩, ⟨f16, v16⟩, ⟨f17, v17⟩, ⟨f18, v18⟩, ⟨f19, v19⟩⟩ := hVO
  refine lv_aload_n hx hb dX10_set_0 rfl (lv_at hl 0 rfl) ?_
  refine lv_iload_n hx hb dX10_set_1 rfl (lv_at hl 1 rfl) ?_
  refine lv_if_lt (tgt := 36) hx hb dX10_set_2 (by decide) (fun c_17 => ?_) (fun c_17 => ?_)
  · have c_17 := (k_lt va (nI 0)).mp c_17
    rw [show (nI 0).toInt = 0 from by decide] at c_17
    refine lv_iconst (v := nI 1) hx hb dX10_set_36 (by decide +kernel) ?_
    refine lv_goto (tgt := 41) hx hb dX10_set_37 (by decide) ?_
    refine m_put (D := (dC, dI)) (v := .int (nI 1)) (tv := .int) (C := RX10) (T := TX10) (N := 29) hx hb hts bk0 tyX10 tyX10_ok nmX10 hown hK hP hD hS 0 (by decide) r_3 rfl 0 (by decide) (hts (.fieldLink RX10 78 "GradientDeskModel" "thrown" "I") (List.mem_of_getElem? (i := 1) rfl)) (fun _ h9 => h9) rfl (by decide +kernel) rfl rfl (Nat.le_of_ble_eq_true rfl) dX10_set_41 (fun H locs g_18 f_19 fr_20 hP hS => ?_)
    have f_19 : g_18 0 = .inr (13, Rob ad (va_up x 0 (nI 1))) := f_19
    refine lv_aload_n hx hb dX10_set_44 rfl (lv_at hl 0 rfl) ?_
    refine m_get (D := (dC, dI)) (v := .int (nI 1)) (C := RX10) (T := TX10) (N := 29) hx hb hts bk0 hown hK hP 0 (by decide) f_19 rfl 0 (by decide) (hts (.fieldLink RX10 78 "GradientDeskModel" "thrown" "I") (List.mem_of_getElem? (i := 1) rfl)) (fun _ h9 => h9) (congrArg (fun z => some (Value.int z)) (show (va_up x 0 (nI 1)) 0 = (nI 1) from rfl)) dX10_set_45 ?_
    refine lv_if_ne (tgt := 64) hx hb dX10_set_48 (by decide) (fun c_21 => ?_) (fun c_21 => absurd c_21 (by decide))
    refine W.widen (k := 0) (n := 0) (by omega) (by omega) ?_
    exact W.vret hx hb hr (fun t9 ht9 hW9 => ⟨⟨(g_18, va_up x 0 (nI 1)), rfl, ⟨RI.num hI0 (hF0.setx (fun (k : Nat) (hk : k = 1 ∨ k = 2 ∨ k = 3) => (fr_20 k (by omega)).trans (rfl)) f_19 rfl) (fun (k : Nat) (hk : (4 ≤ k ∧ k ≤ 11) ∨ k = 16) => (fr_20 k (by omega)).trans (rfl)) (hVO0.same (fun (k : Nat) (hk : 12 ≤ k ∧ k ≤ 19) => (fr_20 k (by omega)).trans (rfl))) (va_up_ne _ _ (by decide)) (va_up_ne _ _ (by decide)) (va_up_ne _ _ (by decide)) (fun _ _ => ⟨rfl, rfl⟩) hBd, (va_up_ne _ _ (by decide)), Or.inr ⟨by omega, va_up_self _ _ _⟩⟩, by show va_P (dC, dI) vwCl _ t9.heap; rw [ht9]; exact hP⟩, hS.F ht9⟩) hS.2.2 dX10_set_64
  · have c_17 := mt (k_lt va (nI 0)).mpr c_17
    rw [show (nI 0).toInt = 0 from by decide] at c_17
    refine lv_iload_n hx hb dX10_set_5 rfl (lv_at hl 1 rfl) ?_
    refine lv_iconst (v := nI 2) hx hb dX10_set_6 (by decide +kernel) ?_
    refine lv_icmp_gt (tgt := 36) hx hb dX10_set_7 (by decide) (fun c_22 => ?_) (fun c_22 => ?_)
    · have c_22 := (k_lt (nI 2) va).mp c_22
      rw [show (nI 2).toInt = 2 from by decide] at c_22
      refine lv_iconst (v := nI 1) hx hb dX10_set_36 (by decide +kernel) ?_
      refine lv_goto (tgt := 41) hx hb dX10_set_37 (by decide) ?_
      refine m_put (D := (dC, dI)) (v := .int (nI 1)) (tv := .int) (C := RX10) (T := TX10) (N := 29) hx hb hts bk0 tyX10 tyX10_ok nmX10 hown hK hP hD hS 0 (by decide) r_3 rfl 0 (by decide) (hts (.fieldLink RX10 78 "GradientDeskModel" "thrown" "I") (List.mem_of_getElem? (i := 1) rfl)) (fun _ h9 => h9) rfl (by decide +kernel) rfl rfl (Nat.le_of_ble_eq_true rfl) dX10_set_41 (fun H locs g_23 f_24 fr_25 hP hS => ?_)
      have f_24 : g_23 0 = .inr (13, Rob ad (va_up x 0 (nI 1))) := f_24
      refine lv_aload_n hx hb dX10_set_44 rfl (lv_at hl 0 rfl) ?_
      refine m_get (D := (dC, dI)) (v := .int (nI 1)) (C := RX10) (T := TX10) (N := 29) hx hb hts bk0 hown hK hP 0 (by decide) f_24 rfl 0 (by decide) (hts (.fieldLink RX10 78 "GradientDeskModel" "thrown" "I") (List.mem_of_getElem? (i := 1) rfl)) (fun _ h9 => h9) (congrArg (fun z => some (Value.int z)) (show (va_up x 0 (nI 1)) 0 = (nI 1) from rfl)) dX10_set_45 ?_
      refine lv_if_ne (tgt := 64) hx hb dX10_set_48 (by decide) (fun c_26 => ?_) (fun c_26 => absurd c_26 (by decide))
      refine W.widen (k := 0) (n := 0) (by omega) (by omega) ?_
      exact W.vret hx hb hr (fun t9 ht9 hW9 => ⟨⟨(g_23, va_up x 0 (nI 1)), rfl, ⟨RI.num hI0 (hF0.setx (fun (k : Nat) (hk : k = 1 ∨ k = 2 ∨ k = 3) => (fr_25 k (by omega)).trans (rfl)) f_24 rfl) (fun (k : Nat) (hk : (4 ≤ k ∧ k ≤ 11) ∨ k = 16) => (fr_25 k (by omega)).trans (rfl)) (hVO0.same (fun (k : Nat) (hk : 12 ≤ k ∧ k ≤ 19) => (fr_25 k (by omega)).trans (rfl))) (va_up_ne _ _ (by decide)) (va_up_ne _ _ (by decide)) (va_up_ne _ _ (by decide)) (fun _ _ => ⟨rfl, rfl⟩) hBd, (va_up_ne _ _ (by decide)), Or.inr ⟨by omega, va_up_self _ _ _⟩⟩, by show va_P (dC, dI) vwCl _ t9.heap; rw [ht9]; exact hP⟩, hS.F ht9⟩) hS.2.2 dX10_set_64
    · have c_22 := mt (k_lt (nI 2) va).mpr c_22
      rw [show (nI 2).toInt = 2 from by decide] at c_22
      refine lv_iload_n hx hb dX10_set_10 rfl (lv_at hl 2 rfl) ?_
      refine lv_sipush (v := -9999) hx hb dX10_set_11 (by decide +kernel) ?_
      refine lv_icmp_lt (tgt := 36) hx hb dX10_set_14 (by decide) (fun c_27 => ?_) (fun c_27 => ?_)
      · have c_27 := (k_lt vp (-9999)).mp c_27
        rw [show ((-9999 : Int32)).toInt = -9999 from by decide] at c_27
        refine lv_iconst (v := nI 1) hx hb dX10_set_36 (by decide +kernel) ?_
        refine lv_goto (tgt := 41) hx hb dX10_set_37 (by decide) ?_
        refine m_put (D := (dC, dI)) (v := .int (nI 1)) (tv := .int) (C := RX10) (T := TX10) (N := 29) hx hb hts bk0 tyX10 tyX10_ok nmX10 hown hK hP hD hS 0 (by decide) r_3 rfl 0 (by decide) (hts (.fieldLink RX10 78 "GradientDeskModel" "thrown" "I") (List.mem_of_getElem? (i := 1) rfl)) (fun _ h9 => h9) rfl (by decide +kernel) rfl rfl (Nat.le_of_ble_eq_true rfl) dX10_set_41 (fun H locs g_28 f_29 fr_30 hP hS => ?_)
        have f_29 : g_28 0 = .inr (13, Rob ad (va_up x 0 (nI 1))) := f_29
        refine lv_aload_n hx hb dX10_set_44 rfl (lv_at hl 0 rfl) ?_
        refine m_get (D := (dC, dI)) (v := .int (nI 1)) (C := RX10) (T := TX10) (N := 29) hx hb hts bk0 hown hK hP 0 (by decide) f_29 rfl 0 (by decide) (hts (.fieldLink RX10 78 "GradientDeskModel" "thrown" "I") (List.mem_of_getElem? (i := 1) rfl)) (fun _ h9 => h9) (congrArg (fun z => some (Value.int z)) (show (va_up x 0 (nI 1)) 0 = (nI 1) from rfl)) dX10_set_45 ?_
        refine lv_if_ne (tgt := 64) hx hb dX10_set_48 (by decide) (fun c_31 => ?_) (fun c_31 => absurd c_31 (by decide))
        refine W.widen (k := 0) (n := 0) (by omega) (by omega) ?_
        exact W.vret hx hb hr (fun t9 ht9 hW9 => ⟨⟨(g_28, va_up x 0 (nI 1)), rfl, ⟨RI.num hI0 (hF0.setx (fun (k : Nat) (hk : k = 1 ∨ k = 2 ∨ k = 3) => (fr_30 k (by omega)).trans (rfl)) f_29 rfl) (fun (k : Nat) (hk : (4 ≤ k ∧ k ≤ 11) ∨ k = 16) => (fr_30 k (by omega)).trans (rfl)) (hVO0.same (fun (k : Nat) (hk : 12 ≤ k ∧ k ≤ 19) => (fr_30 k (by omega)).trans (rfl))) (va_up_ne _ _ (by decide)) (va_up_ne _ _ (by decide)) (va_up_ne _ _ (by decide)) (fun _ _ => ⟨rfl, rfl⟩) hBd, (va_up_ne _ _ (by decide)), Or.inr ⟨by omega, va_up_self _ _ _⟩⟩, by show va_P (dC, dI) vwCl _ t9.heap; rw [ht9]; exact hP⟩, hS.F ht9⟩) hS.2.2 dX10_set_64
      · have c_27 := mt (k_lt vp (-9999)).mpr c_27
        rw [show ((-9999 : Int32)).toInt = -9999 from by decide] at c_27
        refine lv_iload_n hx hb dX10_set_17 rfl (lv_at hl 2 rfl) ?_
        refine lv_sipush (v := nI 9999) hx hb dX10_set_18 (by decide +kernel) ?_
        refine lv_icmp_gt (tgt := 36) hx hb dX10_set_21 (by decide) (fun c_32 => ?_) (fun c_32 => ?_)
        · have c_32 := (k_lt (nI 9999) vp).mp c_32
          rw [show (nI 9999).toInt = 9999 from by decide] at c_32
          refine lv_iconst (v := nI 1) hx hb dX10_set_36 (by decide +kernel) ?_
          refine lv_goto (tgt := 41) hx hb dX10_set_37 (by decide) ?_
          refine m_put (D := (dC, dI)) (v := .int (nI 1)) (tv := .int) (C := RX10) (T := TX10) (N := 29) hx hb hts bk0 tyX10 tyX10_ok nmX10 hown hK hP hD hS 0 (by decide) r_3 rfl 0 (by decide) (hts (.fieldLink RX10 78 "GradientDeskModel" "thrown" "I") (List.mem_of_getElem? (i := 1) rfl)) (fun _ h9 => h9) rfl (by decide +kernel) rfl rfl (Nat.le_of_ble_eq_true rfl) dX10_set_41 (fun H locs g_33 f_34 fr_35 hP hS => ?_)
          have f_34 : g_33 0 = .inr (13, Rob ad (va_up x 0 (nI 1))) := f_34
          refine lv_aload_n hx hb dX10_set_44 rfl (lv_at hl 0 rfl) ?_
          refine m_get (D := (dC, dI)) (v := .int (nI 1)) (C := RX10) (T := TX10) (N := 29) hx hb hts bk0 hown hK hP 0 (by decide) f_34 rfl 0 (by decide) (hts (.fieldLink RX10 78 "GradientDeskModel" "thrown" "I") (List.mem_of_getElem? (i := 1) rfl)) (fun _ h9 => h9) (congrArg (fun z => some (Value.int z)) (show (va_up x 0 (nI 1)) 0 = (nI 1) from rfl)) dX10_set_45 ?_
          refine lv_if_ne (tgt := 64) hx hb dX10_set_48 (by decide) (fun c_36 => ?_) (fun c_36 => absurd c_36 (by decide))
          refine W.widen (k := 0) (n := 0) (by omega) (by omega) ?_
          exact W.vret hx hb hr (fun t9 ht9 hW9 => ⟨⟨(g_33, va_up x 0 (nI 1)), rfl, ⟨RI.num hI0 (hF0.setx (fun (k : Nat) (hk : k = 1 ∨ k = 2 ∨ k = 3) => (fr_35 k (by omega)).trans (rfl)) f_34 rfl) (fun (k : Nat) (hk : (4 ≤ k ∧ k ≤ 11) ∨ k = 16) => (fr_35 k (by omega)).trans (rfl)) (hVO0.same (fun (k : Nat) (hk : 12 ≤ k ∧ k ≤ 19) => (fr_35 k (by omega)).trans (rfl))) (va_up_ne _ _ (by decide)) (va_up_ne _ _ (by decide)) (va_up_ne _ _ (by decide)) (fun _ _ => ⟨rfl, rfl⟩) hBd, (va_up_ne _ _ (by decide)), Or.inr ⟨by omega, va_up_self _ _ _⟩⟩, by show va_P (dC, dI) vwCl _ t9.heap; rw [ht9]; exact hP⟩, hS.F ht9⟩) hS.2.2 dX10_set_64
        · have c_32 := mt (k_lt (nI 9999) vp).mpr c_32
          rw [show (nI 9999).toInt = 9999 from by decide] at c_32
          refine lv_iload_n hx hb dX10_set_24 rfl (lv_at hl 3 rfl) ?_
          refine lv_iconst (v := nI 1) hx hb dX10_set_25 (by decide +kernel) ?_
          refine lv_icmp_lt (tgt := 36) hx hb dX10_set_26 (by decide) (fun c_37 => ?_) (fun c_37 => ?_)
          · have c_37 := (k_lt vq (nI 1)).mp c_37
            rw [show (nI 1).toInt = 1 from by decide] at c_37
            refine lv_iconst (v := nI 1) hx hb dX10_set_36 (by decide +kernel) ?_
            refine lv_goto (tgt := 41) hx hb dX10_set_37 (by decide) ?_
            refine m_put (D := (dC, dI)) (v := .int (nI 1)) (tv := .int) (C := RX10) (T := TX10) (N := 29) hx hb hts bk0 tyX10 tyX10_ok nmX10 hown hK hP hD hS 0 (by decide) r_3 rfl 0 (by decide) (hts (.fieldLink RX10 78 "GradientDeskModel" "thrown" "I") (List.mem_of_getElem? (i := 1) rfl)) (fun _ h9 => h9) rfl (by decide +kernel) rfl rfl (Nat.le_of_ble_eq_true rfl) dX10_set_41 (fun H locs g_38 f_39 fr_40 hP hS => ?_)
            have f_39 : g_38 0 = .inr (13, Rob ad (va_up x 0 (nI 1))) := f_39
            refine lv_aload_n hx hb dX10_set_44 rfl (lv_at hl 0 rfl) ?_
            refine m_get (D := (dC, dI)) (v := .int (nI 1)) (C := RX10) (T := TX10) (N := 29) hx hb hts bk0 hown hK hP 0 (by decide) f_39 rfl 0 (by decide) (hts (.fieldLink RX10 78 "GradientDeskModel" "thrown" "I") (List.mem_of_getElem? (i := 1) rfl)) (fun _ h9 => h9) (congrArg (fun z => some (Value.int z)) (show (va_up x 0 (nI 1)) 0 = (nI 1) from rfl)) dX10_set_45 ?_
            refine lv_if_ne (tgt := 64) hx hb dX10_set_48 (by decide) (fun c_41 => ?_) (fun c_41 => absurd c_41 (by decide))
            refine W.widen (k := 0) (n := 0) (by omega) (by omega) ?_
            exact W.vret hx hb hr (fun t9 ht9 hW9 => ⟨⟨(g_38, va_up x 0 (nI 1)), rfl, ⟨RI.num hI0 (hF0.setx (fun (k : Nat) (hk : k = 1 ∨ k = 2 ∨ k = 3) => (fr_40 k (by omega)).trans (rfl)) f_39 rfl) (fun (k : Nat) (hk : (4 ≤ k ∧ k ≤ 11) ∨ k = 16) => (fr_40 k (by omega)).trans (rfl)) (hVO0.same (fun (k : Nat) (hk : 12 ≤ k ∧ k ≤ 19) => (fr_40 k (by omega)).trans (rfl))) (va_up_ne _ _ (by decide)) (va_up_ne _ _ (by decide)) (va_up_ne _ _ (by decide)) (fun _ _ => ⟨rfl, rfl⟩) hBd, (va_up_ne _ _ (by decide)), Or.inr ⟨by omega, va_up_self _ _ _⟩⟩, by show va_P (dC, dI) vwCl _ t9.heap; rw [ht9]; exact hP⟩, hS.F ht9⟩) hS.2.2 dX10_set_64
          · have c_37 := mt (k_lt vq (nI 1)).mpr c_37
            rw [show (nI 1).toInt = 1 from by decide] at c_37
            refine lv_iload_n hx hb dX10_set_29 rfl (lv_at hl 3 rfl) ?_
            refine lv_sipush (v := nI 9999) hx hb dX10_set_30 (by decide +kernel) ?_
            refine lv_icmp_le (tgt := 40) hx hb dX10_set_33 (by decide) (fun c_42 => ?_) (fun c_42 => ?_)
            · have c_42 := (k_le vq (nI 9999)).mp c_42
              rw [show (nI 9999).toInt = 9999 from by decide] at c_42
              refine lv_iconst (v := nI 0) hx hb dX10_set_40 (by decide +kernel) ?_
              refine m_put (D := (dC, dI)) (v := .int (nI 0)) (tv := .int) (C := RX10) (T := TX10) (N := 29) hx hb hts bk0 tyX10 tyX10_ok nmX10 hown hK hP hD hS 0 (by decide) r_3 rfl 0 (by decide) (hts (.fieldLink RX10 78 "GradientDeskModel" "thrown" "I") (List.mem_of_getElem? (i := 1) rfl)) (fun _ h9 => h9) rfl (by decide +kernel) rfl rfl (Nat.le_of_ble_eq_true rfl) dX10_set_41 (fun H locs g_43 f_44 fr_45 hP hS => ?_)
              have f_44 : g_43 0 = .inr (13, Rob ad (va_up x 0 (nI 0))) := f_44
              refine lv_aload_n hx hb dX10_set_44 rfl (lv_at hl 0 rfl) ?_
              refine m_get (D := (dC, dI)) (v := .int (nI 0)) (C := RX10) (T := TX10) (N := 29) hx hb hts bk0 hown hK hP 0 (by decide) f_44 rfl 0 (by decide) (hts (.fieldLink RX10 78 "GradientDeskModel" "thrown" "I") (List.mem_of_getElem? (i := 1) rfl)) (fun _ h9 => h9) (congrArg (fun z => some (Value.int z)) (show (va_up x 0 (nI 0)) 0 = (nI 0) from rfl)) dX10_set_45 ?_
              refine lv_if_ne (tgt := 64) hx hb dX10_set_48 (by decide) (fun c_46 => absurd c_46 (by decide)) (fun c_46 => ?_)
              obtain ⟨vn, hvn, evn, -⟩ := k_nat (x := va) (by omega)
              obtain ⟨qn, hqn, eqn, -⟩ := k_nat (x := vq) (by omega)
              subst hvn; subst hqn
              refine lv_aload_n hx hb dX10_set_51 rfl (lv_at hl 0 rfl) ?_
              refine lv_sipush (v := nI 1008) hx hb dX10_set_52 (by decide +kernel) ?_
              refine lv_iload_n hx hb dX10_set_55 rfl (lv_at hl 1 rfl) ?_
              refine lv_iadd hx hb dX10_set_56 ?_
              refine lv_topi (fun x_47 e_48 => ?_)
              obtain rfl : x_47 = nI (1008 + vn) := e_48.trans (nI_add 1008 vn)
              refine lv_iload_n hx hb dX10_set_57 rfl (lv_at hl 2 rfl) ?_
              refine lv_i2l hx hb dX10_set_58 rfl ?_
              refine lv_topl (fun y_49 e_50 => ?_)
              refine lv_iload_n hx hb dX10_set_59 rfl (lv_at hl 3 rfl) ?_
              refine lv_i2l hx hb dX10_set_60 rfl ?_
              refine lv_topl (fun y_51 e_52 => ?_)
              obtain rfl : y_51 = lN qn := e_52.trans (nI_l (by omega))
              have hF1 : RF ad cA g_43 (va_up x 0 (nI 0)) pf qf := hF0.setx (fun (k : Nat) (hk : k = 1 ∨ k = 2 ∨ k = 3) => (fr_45 k (by omega)).trans (rfl)) f_44 rfl
              refine va_callv (va_runV (As := [.int (nI (1008 + vn)), .long y_49, .long (lN qn)]) (rest := []) ⟨hx, hb, hml, hown, hts⟩ (c_X10_setFraction l dC dI A ad cA g_43 (va_up x 0 (nI 0)) pf qf (1008 + vn) y_49 (lN qn) vp.toInt qn hF1 (by omega) (by rw [e_50]; exact Int32.toInt_toInt64 _) (by omega) (lN_toInt (by omega)) (by omega) (by omega)) (cwV 3 hts (goodIn_app (goodIn_r [Cond.methodLink RX10 139 yX10_setFraction, Cond.instanceMethod yX10_setFraction, Cond.selects RX10 yX10_setFraction yX10_setFraction, Cond.initialized RX10] [2, 3, 4, 5] rfl rfl) (goodIn_sub (fun w9 h9 => bk1 w9 h9) gw_X10_setFraction)) rfl rfl rfl (by decide +kernel) ⟨Nat.le_of_ble_eq_true rfl, Nat.le_of_ble_eq_true rfl⟩) ⟨fun a U g mk q => ⟨q.1, q.2.1, q.2.2.1, LY.moved (u := U) (U := U.calling g mk a) (Vm.Alike.refl U.vm) q.2.2.2⟩, va_recv hK hP (ci := 13) (q0 := 0) rfl (wo_at (by decide) f_44), fun U hU hW => ⟨rfl, by rw [hU]; exact fun q h => hA q (Nat.le_trans hS.1 h), by rw [hU]; exact hP, LY.moved hW.alike hL⟩⟩ rfl rfl hl.1 rfl (lv_room (Nat.le_of_ble_eq_true rfl)) dX10_set_61 ⟨(Nat.le_of_ble_eq_true rfl), (Nat.le_of_ble_eq_true rfl)⟩) hS (fun q _ h => h) (fun q h => h) (fun u8 t8 H1 locs ht8 hvm8 hw_53 hB hz1 hk1 hS => ?_)
              obtain ⟨g_54, rfl⟩ : ∃ z, z = u8 := ⟨_, rfl⟩
              try dsimp only at hw_53 hB
              rw [ht8] at hB
              have hP := hB
              generalize H1 = H at hP hS ⊢
              obtain ⟨fr_55, hF2⟩ := hw_53
              have hrl := rd_le vp.toInt (show 0 < qn by omega)
              have hrd := rd_red vp.toInt (show 0 < qn by omega)
              refine W.widen (k := 0) (n := 0) (by omega) (by omega) ?_
              exact W.vret hx hb hr (fun t9 ht9 hW9 => ⟨⟨(g_54, va_up x 0 (nI 0)), rfl, ⟨RI.num hI0 hF2 (fun (k : Nat) (hk : (4 ≤ k ∧ k ≤ 11) ∨ k = 16) => (fr_55 k (by omega)).trans ((fr_45 k (by omega)).trans (rfl))) (hVO0.same (fun (k : Nat) (hk : 12 ≤ k ∧ k ≤ 19) => (fr_55 k (by omega)).trans ((fr_45 k (by omega)).trans (rfl)))) (va_up_ne _ _ (by decide)) (va_up_ne _ _ (by decide)) (va_up_ne _ _ (by decide)) (fun f hf => ⟨va_up_ne _ _ (by omega), va_up_ne _ _ (by omega)⟩) (hBd.res (fun r9 h9 => Or.inl ⟨va_up_ne _ _ (by omega), va_up_ne _ _ (by omega)⟩) (fun v9 h9 => by by_cases h8 : v9 = vn; subst h8; exact Or.inr ⟨by rw [va_up_self]; omega, by rw [va_up_self]; exact hrd.1, by rw [va_up_self]; omega⟩; exact Or.inl ⟨va_up_ne _ _ (by omega), va_up_ne _ _ (by omega)⟩)), (va_up_ne _ _ (by decide)), Or.inl ⟨by omega, va_up_self _ _ _⟩⟩, by show va_P (dC, dI) vwCl _ t9.heap; rw [ht9]; exact hP⟩, hS.F ht9⟩) hS.2.2 dX10_set_64
            · have c_42 := mt (k_le vq (nI 9999)).mpr c_42
              rw [show (nI 9999).toInt = 9999 from by decide] at c_42
              refine lv_iconst (v := nI 1) hx hb dX10_set_36 (by decide +kernel) ?_
              refine lv_goto (tgt := 41) hx hb dX10_set_37 (by decide) ?_
              refine m_put (D := (dC, dI)) (v := .int (nI 1)) (tv := .int) (C := RX10) (T := TX10) (N := 29) hx hb hts bk0 tyX10 tyX10_ok nmX10 hown hK hP hD hS 0 (by decide) r_3 rfl 0 (by decide) (hts (.fieldLink RX10 78 "GradientDeskModel" "thrown" "I") (List.mem_of_getElem? (i := 1) rfl)) (fun _ h9 => h9) rfl (by decide +kernel) rfl rfl (Nat.le_of_ble_eq_true rfl) dX10_set_41 (fun H locs g_56 f_57 fr_58 hP hS => ?_)
              have f_57 : g_56 0 = .inr (13, Rob ad (va_up x 0 (nI 1))) := f_57
              refine lv_aload_n hx hb dX10_set_44 rfl (lv_at hl 0 rfl) ?_
              refine m_get (D := (dC, dI)) (v := .int (nI 1)) (C := RX10) (T := TX10) (N := 29) hx hb hts bk0 hown hK hP 0 (by decide) f_57 rfl 0 (by decide) (hts (.fieldLink RX10 78 "GradientDeskModel" "thrown" "I") (List.mem_of_getElem? (i := 1) rfl)) (fun _ h9 => h9) (congrArg (fun z => some (Value.int z)) (show (va_up x 0 (nI 1)) 0 = (nI 1) from rfl)) dX10_set_45 ?_
              refine lv_if_ne (tgt := 64) hx hb dX10_set_48 (by decide) (fun c_59 => ?_) (fun c_59 => absurd c_59 (by decide))
              refine W.widen (k := 0) (n := 0) (by omega) (by omega) ?_
              exact W.vret hx hb hr (fun t9 ht9 hW9 => ⟨⟨(g_56, va_up x 0 (nI 1)), rfl, ⟨RI.num hI0 (hF0.setx (fun (k : Nat) (hk : k = 1 ∨ k = 2 ∨ k = 3) => (fr_58 k (by omega)).trans (rfl)) f_57 rfl) (fun (k : Nat) (hk : (4 ≤ k ∧ k ≤ 11) ∨ k = 16) => (fr_58 k (by omega)).trans (rfl)) (hVO0.same (fun (k : Nat) (hk : 12 ≤ k ∧ k ≤ 19) => (fr_58 k (by omega)).trans (rfl))) (va_up_ne _ _ (by decide)) (va_up_ne _ _ (by decide)) (va_up_ne _ _ (by decide)) (fun _ _ => ⟨rfl, rfl⟩) hBd, (va_up_ne _ _ (by decide)), Or.inr ⟨by omega, va_up_self _ _ _⟩⟩, by show va_P (dC, dI) vwCl _ t9.heap; rw [ht9]; exact hP⟩, hS.F ht9⟩) hS.2.2 dX10_set_64
