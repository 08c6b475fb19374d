def wd_X10_makeSumF : List Cond := .code yX10_makeSum cX10_makeSum 5 (some .int) :: (([.fieldLink RX10 146 "GradientDeskModel" "fault" "I"] : List Cond) ++ (u_ws RX10 TX10 29 ++ ([])))
theorem gw_X10_makeSumF : wd_X10_makeSumF.all goodWord = true := k_allc rfl (k_all (by decide +kernel) (k_all (gu_X10) (rfl)))
set_option maxHeartbeats 4000000 in
set_option maxRecDepth 100000 in
theorem c_X10_makeSumF (l : Launch) (dC : Nat → ClassId) (dI : Nat → Nat → Nat) (A : Nat → Prop) (ad : Nat → Nat) (cA : Nat → ClassId) (g : Nat → va_E) (x : Nat → Int32) (pf : Nat → Int) (qf : Nat → Nat) (pt : Nat → Nat → Int) (L : List PD) (u1 : Int32) (u2 : Int32) (ft : Int) (hF : RF ad cA g x pf qf) (hPt : PTF cA g pt) (hM : MT L pt pf qf) (hmd : x 3 = nI L.length) (hL2 : L.length ≤ 200) (hft : x 4 = iI ft) (hfr : ft = 0 ∨ (ft < 0 ∧ -4 ≤ ft)) (hng : ft < 0) : Met l yX10_makeSum wd_X10_makeSumF ({ frames := 80, cells := 0, slots := 0, locals := 1600 }) (va_Pc [.ref (ad 0), .int u1, .int u2] (PR NSr tyr dC dI A ad cA g)) (va_Qi (fun (r : Int32) => fun (u : (Nat → va_E) × (Nat → Int32) × (Nat → Nat → Int) × (Nat → Int) × (Nat → Nat)) => match u with | (g2, x2, pt2, pf2, qf2) => (∀ k, k ≠ 0 ∧ k ≠ 1 ∧ k ≠ 2 ∧ k ≠ 3 ∧ k ≠ 5 ∧ k ≠ 6 ∧ k ≠ 7 ∧ k ≠ 8 ∧ k ≠ 9 ∧ k ≠ 10 → g2 k = g k) ∧ MKP ad cA g2 x x2 pf qf ((ft, L)) r pt2 pf2 qf2) (fun (u : (Nat → va_E) × (Nat → Int32) × (Nat → Nat → Int) × (Nat → Int) × (Nat → Nat)) (t : State) => va_P (dC, dI) vwCl (wo ad NSr u.1) t.heap) A) (0) (0) A := by
  refine Met.ofW (cc := cX10_makeSum) (maxL := 5) (ret := (some .int)) (by decide) rfl ?_
  intro p e s m args below meth c s₁ B hml hv
  obtain ⟨rfl, hA, hP, hL⟩ := hv
  have hx := B.exec
  have hb := B.bytes
  have hr := B.returns
  have hts := atoms_spec (ws := wd_X10_makeSumF) B.pre
  have hown : s.vm.findClass RX10 = some m.cls := findClass_of_methodNamed B.named
  have hlocks := B.notSynchronized
  have hK := hL.1
  have hD : ∀ g, va_D A (wo ad NSr g) := fun g => wo_D hL.2.1 hL.2.2 g
  have hS : va_S A s.heap s.heap [] := va_S.rf
  have bk0 : ∀ w ∈ u_ws RX10 TX10 29, w ∈ wd_X10_makeSumF := fun _ h => List.mem_cons_of_mem _ (List.mem_append_right _ (List.mem_append_left _ h))
  have hl := lv_entry ([.ref (ad 0), .int u1, .int u2]) (n := 5) (Nat.le_of_ble_eq_true rfl)
  rw [lg_entry_eq]
  generalize (lg_sl ([.ref (ad 0), .int u1, .int u2]) ++ List.replicate (5 - (lg_sl ([.ref (ad 0), .int u1, .int u2])).length) Slot.unset).toArray = ls at hl ⊢
  have hl : lv_has ls 5 [(0, .ref (ad 0)), (1, .int u1), (2, .int u2)] := hl
  have hF0 := hF
  obtain ⟨vf, hV, hq⟩ := hF
  have hc_1 := hV
  obtain ⟨pnz_2, lnz_2, bnz_2, hRz_2, hvz_2⟩ := hc_1
  obtain ⟨r_3, r_4, r_5, r_6, r_7, r_8, r_9⟩ := hRz_2
  obtain ⟨p_10, p_11, p_12, p_13, p_14, p_15, hpt_16⟩ := hPt
  have hPt0 : PTF cA g pt := ⟨p_10, p_11, p_12, p_13, p_14, p_15, hpt_16⟩
  refine lv_aload_n hx hb dX10_makeSum_0 rfl (lv_at hl 0 rfl) ?_
  refine m_get (D := (dC, dI)) (v := .int (iI ft)) (C := RX10) (T := TX10) (N := 29) hx hb hts bk0 hown hK hP 0 (by decide) r_3 rfl 14 (by decide) (hts (.fieldLink RX10 146 "GradientDeskModel" "fault" "I") (List.mem_of_getElem? (i := 1) rfl)) (fun _ h9 => h9) (congrArg (fun z => some (Value.int z)) hft) dX10_makeSum_1 ?_
  refine lv_if_ge (tgt := 9) hx hb dX10_makeSum_4 (by decide) (fun c_17 => absurd ((k_iLE (a := 0) (b := ft) (show nI 0 = iI 0 from by decide) rfl (by omega) (by omega)).mp c_17) (by omega)) (fun c_17 => ?_)
  refine lv_iconst (v := -1) hx hb dX10_makeSum_7 (by decide +kernel) ?_
  refine W.widen (k := 0) (n := 0) (by omega) (by omega) ?_
  exact W.iret (v := -1) hx hb hr (fun t9 ht9 hW9 => ⟨⟨-1, (g, x, pt, pf, qf), rfl, ⟨(fun (k : Nat) (hk : k ≠ 0 ∧ k ≠ 1 ∧ k ≠ 2 ∧ k ≠ 3 ∧ k ≠ 5 ∧ k ≠ 6 ∧ k ≠ 7 ∧ k ≠ 8 ∧ k ≠ 9 ∧ k ≠ 10) => rfl), MKP.neg rfl (by omega) hF0 hPt0 hM hL2 hmd hft⟩, by show va_P (dC, dI) vwCl _ t9.heap; rw [ht9]; exact hP⟩, hS.F ht9⟩) hS.2.2 dX10_makeSum_8
def wd_X10_makeProductF : List Cond := .code yX10_makeProduct cX10_makeProduct 3 (some .int) :: (([.fieldLink RX10 146 "GradientDeskModel" "fault" "I"] : List Cond) ++ (u_ws RX10 TX10 29 ++ ([])))
theorem gw_X10_makeProductF : wd_X10_makeProductF.all goodWord = true := k_allc rfl (k_all (by decide +kernel) (k_all (gu_X10) (rfl)))
set_option maxHeartbeats 4000000 in
set_option maxRecDepth 100000 in
theorem c_X10_makeProductF (l : Launch) (dC : Nat → ClassId) (dI : Nat → Nat → Nat) (A : Nat → Prop) (ad : Nat → Nat) (cA : Nat → ClassId) (g : Nat → va_E) (x : Nat → Int32) (pf : Nat → Int) (qf : Nat → Nat) (pt : Nat → Nat → Int) (L : List PD) (u1 : Int32) (u2 : Int32) (ft : Int) (hF : RF ad cA g x pf qf) (hPt : PTF cA g pt) (hM : MT L pt pf qf) (hmd : x 3 = nI L.length) (hL2 : L.length ≤ 200) (hft : x 4 = iI ft) (hfr : ft = 0 ∨ (ft < 0 ∧ -4 ≤ ft)) (hng : ft < 0) : Met l yX10_makeProduct wd_X10_makeProductF ({ frames := 80, cells := 0, slots := 0, locals := 1600 }) (va_Pc [.ref (ad 0), .int u1, .int u2] (PR NSr tyr dC dI A ad cA g)) (va_Qi (fun (r : Int32) => fun (u : (Nat → va_E) × (Nat → Int32) × (Nat → Nat → Int) × (Nat → Int) × (Nat → Nat)) => match u with | (g2, x2, pt2, pf2, qf2) => (∀ k, k ≠ 0 ∧ k ≠ 1 ∧ k ≠ 2 ∧ k ≠ 3 ∧ k ≠ 5 ∧ k ≠ 6 ∧ k ≠ 7 ∧ k ≠ 8 ∧ k ≠ 9 ∧ k ≠ 10 → g2 k = g k) ∧ MKP ad cA g2 x x2 pf qf ((ft, L)) r pt2 pf2 qf2) (fun (u : (Nat → va_E) × (Nat → Int32) × (Nat → Nat → Int) × (Nat → Int) × (Nat → Nat)) (t : State) => va_P (dC, dI) vwCl (wo ad NSr u.1) t.heap) A) (0) (0) A := by
  refine Met.ofW (cc := cX10_makeProduct) (maxL := 3) (ret := (some .int)) (by decide) rfl ?_
  intro p e s m args below meth c s₁ B hml hv
  obtain ⟨rfl, hA, hP, hL⟩ := hv
  have hx := B.exec
  have hb := B.bytes
  have hr := B.returns
  have hts := atoms_spec (ws := wd_X10_makeProductF) B.pre
  have hown : s.vm.findClass RX10 = some m.cls := findClass_of_methodNamed B.named
  have hlocks := B.notSynchronized
  have hK := hL.1
  have hD : ∀ g, va_D A (wo ad NSr g) := fun g => wo_D hL.2.1 hL.2.2 g
  have hS : va_S A s.heap s.heap [] := va_S.rf
  have bk0 : ∀ w ∈ u_ws RX10 TX10 29, w ∈ wd_X10_makeProductF := fun _ h => List.mem_cons_of_mem _ (List.mem_append_right _ (List.mem_append_left _ h))
  have hl := lv_entry ([.ref (ad 0), .int u1, .int u2]) (n := 3) (Nat.le_of_ble_eq_true rfl)
  rw [lg_entry_eq]
  generalize (lg_sl ([.ref (ad 0), .int u1, .int u2]) ++ List.replicate (3 - (lg_sl ([.ref (ad 0), .int u1, .int u2])).length) Slot.unset).toArray = ls at hl ⊢
  have hl : lv_has ls 3 [(0, .ref (ad 0)), (1, .int u1), (2, .int u2)] := hl
  have hF0 := hF
  obtain ⟨vf, hV, hq⟩ := hF
  have hc_1 := hV
  obtain ⟨pnz_2, lnz_2, bnz_2, hRz_2, hvz_2⟩ := hc_1
  obtain ⟨r_3, r_4, r_5, r_6, r_7, r_8, r_9⟩ := hRz_2
  obtain ⟨p_10, p_11, p_12, p_13, p_14, p_15, hpt_16⟩ := hPt
  have hPt0 : PTF cA g pt := ⟨p_10, p_11, p_12, p_13, p_14, p_15, hpt_16⟩
  refine lv_aload_n hx hb dX10_makeProduct_0 rfl (lv_at hl 0 rfl) ?_
  refine m_get (D := (dC, dI)) (v := .int (iI ft)) (C := RX10) (T := TX10) (N := 29) hx hb hts bk0 hown hK hP 0 (by decide) r_3 rfl 14 (by decide) (hts (.fieldLink RX10 146 "GradientDeskModel" "fault" "I") (List.mem_of_getElem? (i := 1) rfl)) (fun _ h9 => h9) (congrArg (fun z => some (Value.int z)) hft) dX10_makeProduct_1 ?_
  refine lv_if_ge (tgt := 9) hx hb dX10_makeProduct_4 (by decide) (fun c_17 => absurd ((k_iLE (a := 0) (b := ft) (show nI 0 = iI 0 from by decide) rfl (by omega) (by omega)).mp c_17) (by omega)) (fun c_17 => ?_)
  refine lv_iconst (v := -1) hx hb dX10_makeProduct_7 (by decide +kernel) ?_
  refine W.widen (k := 0) (n := 0) (by omega) (by omega) ?_
  exact W.iret (v := -1) hx hb hr (fun t9 ht9 hW9 => ⟨⟨-1, (g, x, pt, pf, qf), rfl, ⟨(fun (k : Nat) (hk : k ≠ 0 ∧ k ≠ 1 ∧ k ≠ 2 ∧ k ≠ 3 ∧ k ≠ 5 ∧ k ≠ 6 ∧ k ≠ 7 ∧ k ≠ 8 ∧ k ≠ 9 ∧ k ≠ 10) => rfl), MKP.neg rfl (by omega) hF0 hPt0 hM hL2 hmd hft⟩, by show va_P (dC, dI) vwCl _ t9.heap; rw [ht9]; exact hP⟩, hS.F ht9⟩) hS.2.2 dX10_makeProduct_8
def wd_X10_makePowerF : List Cond := .code yX10_makePower cX10_makePower 5 (some .int) :: (([.fieldLink RX10 146 "GradientDeskModel" "fault" "I"] : List Cond) ++ (u_ws RX10 TX10 29 ++ ([])))
theorem gw_X10_makePowerF : wd_X10_makePowerF.all goodWord = true := k_allc rfl (k_all (by decide +kernel) (k_all (gu_X10) (rfl)))
set_option maxHeartbeats 4000000 in
set_option maxRecDepth 100000 in
theorem c_X10_makePowerF (l : Launch) (dC : Nat → ClassId) (dI : Nat → Nat → Nat) (A : Nat → Prop) (ad : Nat → Nat) (cA : Nat → ClassId) (g : Nat → va_E) (x : Nat → Int32) (pf : Nat → Int) (qf : Nat → Nat) (pt : Nat → Nat → Int) (L : List PD) (u1 : Int32) (u2 : Int32) (ft : Int) (hF : RF ad cA g x pf qf) (hPt : PTF cA g pt) (hM : MT L pt pf qf) (hmd : x 3 = nI L.length) (hL2 : L.length ≤ 200) (hft : x 4 = iI ft) (hfr : ft = 0 ∨ (ft < 0 ∧ -4 ≤ ft)) (hng : ft < 0) : Met l yX10_makePower wd_X10_makePowerF ({ frames := 90, cells := 0, slots := 0, locals := 1800 }) (va_Pc [.ref (ad 0), .int u1, .int u2] (PR NSr tyr dC dI A ad cA g)) (va_Qi (fun (r : Int32) => fun (u : (Nat → va_E) × (Nat → Int32) × (Nat → Nat → Int) × (Nat → Int) × (Nat → Nat)) => match u with | (g2, x2, pt2, pf2, qf2) => (∀ k, k ≠ 0 ∧ k ≠ 1 ∧ k ≠ 2 ∧ k ≠ 3 ∧ k ≠ 5 ∧ k ≠ 6 ∧ k ≠ 7 ∧ k ≠ 8 ∧ k ≠ 9 ∧ k ≠ 10 → g2 k = g k) ∧ MKP ad cA g2 x x2 pf qf ((ft, L)) r pt2 pf2 qf2) (fun (u : (Nat → va_E) × (Nat → Int32) × (Nat → Nat → Int) × (Nat → Int) × (Nat → Nat)) (t : State) => va_P (dC, dI) vwCl (wo ad NSr u.1) t.heap) A) (0) (0) A := by
  refine Met.ofW (cc := cX10_makePower) (maxL := 5) (ret := (some .int)) (by decide) rfl ?_
  intro p e s m args below meth c s₁ B hml hv
  obtain ⟨rfl, hA, hP, hL⟩ := hv
  have hx := B.exec
  have hb := B.bytes
  have hr := B.returns
  have hts := atoms_spec (ws := wd_X10_makePowerF) B.pre
  have hown : s.vm.findClass RX10 = some m.cls := findClass_of_methodNamed B.named
  have hlocks := B.notSynchronized
  have hK := hL.1
  have hD : ∀ g, va_D A (wo ad NSr g) := fun g => wo_D hL.2.1 hL.2.2 g
  have hS : va_S A s.heap s.heap [] := va_S.rf
  have bk0 : ∀ w ∈ u_ws RX10 TX10 29, w ∈ wd_X10_makePowerF := fun _ h => List.mem_cons_of_mem _ (List.mem_append_right _ (List.mem_append_left _ h))
  have hl := lv_entry ([.ref (ad 0), .int u1, .int u2]) (n := 5) (Nat.le_of_ble_eq_true rfl)
  rw [lg_entry_eq]
  generalize (lg_sl ([.ref (ad 0), .int u1, .int u2]) ++ List.replicate (5 - (lg_sl ([.ref (ad 0), .int u1, .int u2])).length) Slot.unset).toArray = ls at hl ⊢
  have hl : lv_has ls 5 [(0, .ref (ad 0)), (1, .int u1), (2, .int u2)] := hl
  have hF0 := hF
  obtain ⟨vf, hV, hq⟩ := hF
  have hc_1 := hV
  obtain ⟨pnz_2, lnz_2, bnz_2, hRz_2, hvz_2⟩ := hc_1
  obtain ⟨r_3, r_4, r_5, r_6, r_7, r_8, r_9⟩ := hRz_2
  obtain ⟨p_10, p_11, p_12, p_13, p_14, p_15, hpt_16⟩ := hPt
  have hPt0 : PTF cA g pt := ⟨p_10, p_11, p_12, p_13, p_14, p_15, hpt_16⟩
  refine lv_aload_n hx hb dX10_makePower_0 rfl (lv_at hl 0 rfl) ?_
  refine m_get (D := (dC, dI)) (v := .int (iI ft)) (C := RX10) (T := TX10) (N := 29) hx hb hts bk0 hown hK hP 0 (by decide) r_3 rfl 14 (by decide) (hts (.fieldLink RX10 146 "GradientDeskModel" "fault" "I") (List.mem_of_getElem? (i := 1) rfl)) (fun _ h9 => h9) (congrArg (fun z => some (Value.int z)) hft) dX10_makePower_1 ?_
  refine lv_if_ge (tgt := 9) hx hb dX10_makePower_4 (by decide) (fun c_17 => absurd ((k_iLE (a := 0) (b := ft) (show nI 0 = iI 0 from by decide) rfl (by omega) (by omega)).mp c_17) (by omega)) (fun c_17 => ?_)
  refine lv_iconst (v := -1) hx hb dX10_makePower_7 (by decide +kernel) ?_
  refine W.widen (k := 0) (n := 0) (by omega) (by omega) ?_
  exact W.iret (v := -1) hx hb hr (fun t9 ht9 hW9 => ⟨⟨-1, (g, x, pt, pf, qf), rfl, ⟨(fun (k : Nat) (hk : k ≠ 0 ∧ k ≠ 1 ∧ k ≠ 2 ∧ k ≠ 3 ∧ k ≠ 5 ∧ k ≠ 6 ∧ k ≠ 7 ∧ k ≠ 8 ∧ k ≠ 9 ∧ k ≠ 10) => rfl), MKP.neg rfl (by omega) hF0 hPt0 hM hL2 hmd hft⟩, by show va_P (dC, dI) vwCl _ t9.heap; rw [ht9]; exact hP⟩, hS.F ht9⟩) hS.2.2 dX10_makePower_8
def wd_X10_negative : List Cond := .code yX10_negative cX10_negative 3 (some .int) :: (([.constantLong RX10 213 (-1), .methodLink RX10 177 yX10_makeFraction, .instanceMethod yX10_makeFraction, .selects RX10 yX10_makeFraction yX10_makeFraction, .initialized RX10, .methodLink RX10 215 yX10_makeProduct, .instanceMethod yX10_makeProduct, .selects RX10 yX10_makeProduct yX10_makeProduct] : List Cond) ++ (wd_X10_makeFraction ++ (wd_X10_makeProductF ++ (wd_X10_makeProduct ++ ([])))))
theorem gw_X10_negative : wd_X10_negative.all goodWord = true := k_allc rfl (k_all (by decide +kernel) (k_all (gw_X10_makeFraction) (k_all (gw_X10_makeProductF) (k_all (gw_X10_makeProduct) (rfl)))))
set_option maxHeartbeats 4000000 in
set_option maxRecDepth 100000 in
theorem c_X10_negative (l : Launch) (dC : Nat → ClassId) (dI : Nat → Nat → Nat) (A : Nat → Prop) (ad : Nat → Nat) (cA : Nat → ClassId) (g : Nat → va_E) (x : Nat → Int32) (pf : Nat → Int) (qf : Nat → Nat) (pt : Nat → Nat → Int) (L : List PD) (u : Int32) (x1 : Nat) (ft : Int) (hF : RF ad cA g x pf qf) (hPt : PTF cA g pt) (hM : MT L pt pf qf) (hmd : x 3 = nI L.length) (hL2 : L.length ≤ 200) (hft : x 4 = iI ft) (hfr : ft = 0 ∨ (ft < 0 ∧ -4 ≤ ft)) (hW : WFL L) (hxx : ft < 0 ∨ (u = nI x1 ∧ x1 < L.length)) : Met l yX10_negative wd_X10_negative ({ frames := 90, cells := 0, slots := 0, locals := 1800 }) (va_Pc [.ref (ad 0), .int u] (PR NSr tyr dC dI A ad cA g)) (va_Qi (fun (r : Int32) => fun (u : (Nat → va_E) × (Nat → Int32) × (Nat → Nat → Int) × (Nat → Int) × (Nat → Nat)) => match u with | (g2, x2, pt2, pf2, qf2) => (∀ k, k ≠ 0 ∧ k ≠ 1 ∧ k ≠ 2 ∧ k ≠ 3 ∧ k ≠ 5 ∧ k ≠ 6 ∧ k ≠ 7 ∧ k ≠ 8 ∧ k ≠ 9 ∧ k ≠ 10 → g2 k = g k) ∧ MKP ad cA g2 x x2 pf qf (onF ft L (negL L x1)) r pt2 pf2 qf2) (fun (u : (Nat → va_E) × (Nat → Int32) × (Nat → Nat → Int) × (Nat → Int) × (Nat → Nat)) (t : State) => va_P (dC, dI) vwCl (wo ad NSr u.1) t.heap) A) (0) (0) A := by
  refine Met.ofW (cc := cX10_negative) (maxL := 3) (ret := (some .int)) (by decide) rfl ?_
  intro p e s m args below meth c s₁ B hml hv
  obtain ⟨rfl, hA, hP, hL⟩ := hv
  have hx := B.exec
  have hb := B.bytes
  have hr := B.returns
  have hts := atoms_spec (ws := wd_X10_negative) B.pre
  have hown : s.vm.findClass RX10 = some m.cls := findClass_of_methodNamed B.named
  have hlocks := B.notSynchronized
  have hK := hL.1
  have hD : ∀ g, va_D A (wo ad NSr g) := fun g => wo_D hL.2.1 hL.2.2 g
  have hS : va_S A s.heap s.heap [] := va_S.rf
  have bk0 : ∀ w ∈ wd_X10_makeFraction, w ∈ wd_X10_negative := fun _ h => List.mem_cons_of_mem _ (List.mem_append_right _ (List.mem_append_left _ h))
  have bk1 : ∀ w ∈ wd_X10_makeProductF, w ∈ wd_X10_negative := fun _ h => List.mem_cons_of_mem _ (List.mem_append_right _ (List.mem_append_right _ (List.mem_append_left _ h)))
  have bk2 : ∀ w ∈ wd_X10_makeProduct, w ∈ wd_X10_negative := fun _ h => List.mem_cons_of_mem _ (List.mem_append_right _ (List.mem_append_right _ (List.mem_append_right _ (List.mem_append_left _ h))))
  have hl := lv_entry ([.ref (ad 0), .int u]) (n := 3) (Nat.le_of_ble_eq_true rfl)
  rw [lg_entry_eq]
  generalize (lg_sl ([.ref (ad 0), .int u]) ++ List.replicate (3 - (lg_sl ([.ref (ad 0), .int u])).length) Slot.unset).toArray = ls at hl ⊢
  have hl : lv_has ls 3 [(0, .ref (ad 0)), (1, .int u)] := hl
  have hF0 := hF
  obtain ⟨vf, hV, hq⟩ := hF
  have hc_1 := hV
  obtain ⟨pnz_2, lnz_2, bnz_2, hRz_2, hvz_2⟩ := hc_1
  obtain ⟨r_3, r_4, r_5, r_6, r_7, r_8, r_9⟩ := hRz_2
  obtain ⟨p_10, p_11, p_12, p_13, p_14, p_15, hpt_16⟩ := hPt
  have hPt0 : PTF cA g pt := ⟨p_10, p_11, p_12, p_13, p_14, p_15, hpt_16⟩
  by_cases hng : ft < 0
  · skip
    refine lv_aload_n hx hb dX10_negative_0 rfl (lv_at hl 0 rfl) ?_
    refine lv_ldc2 (v := -1) hx hb hown (hts (.constantLong RX10 213 (-1)) (List.mem_of_getElem? (i := 1) rfl)) dX10_negative_1 ?_
    refine lv_lconst (v := lN 1) hx hb dX10_negative_4 (by decide +kernel) ?_
    have bx0 : ∀ j, j ≠ 3 → j ≠ 4 → x j = x j := fun _ _ _ => rfl
    have bp0 : ∀ f, 200 ≤ f → f < 1011 → pf f = pf f ∧ qf f = qf f := fun _ _ _ => ⟨rfl, rfl⟩
    refine va_calli (va_runV (As := [.long (-1), .long (lN 1)]) (rest := []) ⟨hx, hb, hml, hown, hts⟩ (c_X10_makeFraction l dC dI A ad cA g x pf qf pt L (-1) (lN 1) (-1) 1 ft hF0 hPt0 hM hmd hL2 hft hfr (by decide) (by decide) (by decide) (by decide) (by decide)) (cwV 2 hts (goodIn_app (goodIn_r [Cond.methodLink RX10 177 yX10_makeFraction, Cond.instanceMethod yX10_makeFraction, Cond.selects RX10 yX10_makeFraction yX10_makeFraction, Cond.initialized RX10] [2, 3, 4, 5] rfl rfl) (goodIn_sub (fun w9 h9 => bk0 w9 h9) gw_X10_makeFraction)) rfl rfl rfl (by decide +kernel) ⟨Nat.le_of_ble_eq_true rfl, Nat.le_of_ble_eq_true rfl⟩) ⟨fun a U g mk q => ⟨q.1, q.2.1, q.2.2.1, LY.moved (u := U) (U := U.calling g mk a) (Vm.Alike.refl U.vm) q.2.2.2⟩, va_recv hK hP (ci := 13) (q0 := 0) rfl (wo_at (by decide) r_3), fun U hU hW => ⟨rfl, by rw [hU]; exact fun q h => hA q (Nat.le_trans hS.1 h), by rw [hU]; exact hP, LY.moved hW.alike hL⟩⟩ rfl rfl hl.1 rfl (lv_room (Nat.le_of_ble_eq_true rfl)) dX10_negative_5 ⟨(Nat.le_of_ble_eq_true rfl), (Nat.le_of_ble_eq_true rfl)⟩) hS (fun q _ h => h) (fun q h => h) (fun r_17 u8 t8 H1 locs ht8 hvm8 hw_18 hB hz1 hk1 hS => ?_)
    obtain ⟨g_19, x2_20, pt2_21, pf2_22, qf2_23⟩ := u8
    try dsimp only at hw_18 hB
    rw [ht8] at hB
    have hP := hB
    generalize H1 = H at hP hS ⊢
    obtain ⟨fr_24, hK9⟩ := hw_18
    obtain ⟨K_25, eK_25⟩ : ∃ z9, z9 = ((ft, L) : Int × List PD) := ⟨_, rfl⟩
    rw [show (onF ft L (numL L (rdp (-1) 1) (rdq (-1) 1))) = K_25 from by rw [eK_25]; exact onF_neg hng] at hK9
    obtain ⟨hFK_25, hPtK_25, hMK_25, hlK_25, hmdK_25, hxK_25, hoK_25, hRK_25⟩ := hK9
    have hLEK_25 : LE L K_25.2 := LE.tr LE.rf (by rw [eK_25]; exact LE.rf)
    have hWK_25 : WFL K_25.2 := by rw [eK_25]; exact hW
    have hleK_25 := hLEK_25.1
    have hzK_25 : (L).length ≤ K_25.2.length := by rw [eK_25]; exact (LE.rf).1
    have bxK_25 : ∀ j, j ≠ 3 → j ≠ 4 → x2_20 j = x j := fun j h3 h4 => (hxK_25 j h3 h4).trans (bx0 j h3 h4)
    have bpK_25 : ∀ f, 200 ≤ f → f < 1011 → pf2_22 f = pf f ∧ qf2_23 f = qf f := fun f h1 h2 => ⟨(hoK_25 f h1 h2).1.trans (bp0 f h1 h2).1, (hoK_25 f h1 h2).2.trans (bp0 f h1 h2).2⟩
    rcases hRK_25 with ⟨hnK_25, hmK_25, rfl, hfK_25⟩ | ⟨hnK_25, hmK_25, rfl, hfK_25⟩
    · skip
      obtain ⟨iK_25, hiK_25⟩ : ∃ z9 : Nat, K_25.1 = (z9 : Int) := ⟨K_25.1.toNat, by omega⟩
      have hjK_25 : iK_25 < K_25.2.length := by omega
      rw [hiK_25, ← nI_iI]
      have hc_26 := hPtK_25
      obtain ⟨p_27, p_28, p_29, p_30, p_31, p_32, hpt_33⟩ := hc_26
      have hc_34 := hFK_25
      obtain ⟨vfz_35, hVz_35, hqz_35⟩ := hc_34
      have hc_36 := hVz_35
      obtain ⟨pnz_37, lnz_37, bnz_37, hRz_37, hvz_37⟩ := hc_36
      obtain ⟨r_38, r_39, r_40, r_41, r_42, r_43, r_44⟩ := hRz_37
      refine lv_istore_n (lv' := [(2, .int (nI iK_25)), (0, .ref (ad 0)), (1, .int u)]) hx hb dX10_negative_8 rfl hl (by decide) rfl (fun ls hl => ?_)
      refine lv_aload_n hx hb dX10_negative_9 rfl (lv_at hl 1 rfl) ?_
      refine lv_iload_n hx hb dX10_negative_10 rfl (lv_at hl 0 rfl) ?_
      refine lv_iload_n hx hb dX10_negative_11 rfl (lv_at hl 2 rfl) ?_
      exact absurd hnK_25 (by rw [eK_25]; show ¬ (0 : Int) ≤ ft; omega)
    · skip
      have hc_45 := hPtK_25
      obtain ⟨p_46, p_47, p_48, p_49, p_50, p_51, hpt_52⟩ := hc_45
      have hc_53 := hFK_25
      obtain ⟨vfz_54, hVz_54, hqz_54⟩ := hc_53
      have hc_55 := hVz_54
      obtain ⟨pnz_56, lnz_56, bnz_56, hRz_56, hvz_56⟩ := hc_55
      obtain ⟨r_57, r_58, r_59, r_60, r_61, r_62, r_63⟩ := hRz_56
      refine lv_istore_n (lv' := [(2, .int (-1)), (0, .ref (ad 0)), (1, .int u)]) hx hb dX10_negative_8 rfl hl (by decide) rfl (fun ls hl => ?_)
      refine lv_aload_n hx hb dX10_negative_9 rfl (lv_at hl 1 rfl) ?_
      refine lv_iload_n hx hb dX10_negative_10 rfl (lv_at hl 0 rfl) ?_
      refine lv_iload_n hx hb dX10_negative_11 rfl (lv_at hl 2 rfl) ?_
      refine va_calli (va_runV (As := [.int (-1), .int u]) (rest := []) ⟨hx, hb, hml, hown, hts⟩ (c_X10_makeProductF l dC dI A ad cA g_19 x2_20 pf2_22 qf2_23 pt2_21 K_25.2 (-1) u K_25.1 hFK_25 hPtK_25 hMK_25 hmdK_25 hlK_25 hfK_25 (Or.inr ⟨hnK_25, hmK_25⟩) hnK_25) (cwV 2 hts (goodIn_app (goodIn_r [Cond.methodLink RX10 215 yX10_makeProduct, Cond.instanceMethod yX10_makeProduct, Cond.selects RX10 yX10_makeProduct yX10_makeProduct, Cond.initialized RX10] [6, 7, 8, 5] rfl rfl) (goodIn_sub (fun w9 h9 => bk1 w9 h9) gw_X10_makeProductF)) rfl rfl rfl (by decide +kernel) ⟨Nat.le_of_ble_eq_true rfl, Nat.le_of_ble_eq_true rfl⟩) ⟨fun a U g mk q => ⟨q.1, q.2.1, q.2.2.1, LY.moved (u := U) (U := U.calling g mk a) (Vm.Alike.refl U.vm) q.2.2.2⟩, va_recv hK hP (ci := 13) (q0 := 0) rfl (wo_at (by decide) r_57), fun U hU hW => ⟨rfl, by rw [hU]; exact fun q h => hA q (Nat.le_trans hS.1 h), by rw [hU]; exact hP, LY.moved hW.alike hL⟩⟩ rfl rfl hl.1 rfl (lv_room (Nat.le_of_ble_eq_true rfl)) dX10_negative_12 ⟨(Nat.le_of_ble_eq_true rfl), (Nat.le_of_ble_eq_true rfl)⟩) hS (fun q _ h => h) (fun q h => h) (fun r_64 u8 t8 H1 locs ht8 hvm8 hw_65 hB hz1 hk1 hS => ?_)
      obtain ⟨g_66, x2_67, pt2_68, pf2_69, qf2_70⟩ := u8
      try dsimp only at hw_65 hB
      rw [ht8] at hB
      have hP := hB
      generalize H1 = H at hP hS ⊢
      obtain ⟨fr_71, hK⟩ := hw_65
      refine W.widen (k := 0) (n := 0) (by omega) (by omega) ?_
      exact W.iret (v := r_64) hx hb hr (fun t9 ht9 hW9 => ⟨⟨r_64, (g_66, x2_67, pt2_68, pf2_69, qf2_70), rfl, ⟨(fun (k : Nat) (hk : k ≠ 0 ∧ k ≠ 1 ∧ k ≠ 2 ∧ k ≠ 3 ∧ k ≠ 5 ∧ k ≠ 6 ∧ k ≠ 7 ∧ k ≠ 8 ∧ k ≠ 9 ∧ k ≠ 10) => (fr_71 k (by omega)).trans ((fr_24 k (by omega)).trans (rfl))), by rw [onF_neg hng]; rw [eK_25] at hK; exact hK.base bxK_25 bpK_25⟩, by show va_P (dC, dI) vwCl _ t9.heap; rw [ht9]; exact hP⟩, hS.F ht9⟩) hS.2.2 dX10_negative_15
  · skip
    obtain ⟨rfl, ix⟩ := hxx.resolve_left hng
    obtain rfl : ft = 0 := by omega
    refine lv_aload_n hx hb dX10_negative_0 rfl (lv_at hl 0 rfl) ?_
    refine lv_ldc2 (v := -1) hx hb hown (hts (.constantLong RX10 213 (-1)) (List.mem_of_getElem? (i := 1) rfl)) dX10_negative_1 ?_
    refine lv_lconst (v := lN 1) hx hb dX10_negative_4 (by decide +kernel) ?_
    have bx0 : ∀ j, j ≠ 3 → j ≠ 4 → x j = x j := fun _ _ _ => rfl
    have bp0 : ∀ f, 200 ≤ f → f < 1011 → pf f = pf f ∧ qf f = qf f := fun _ _ _ => ⟨rfl, rfl⟩
    refine va_calli (va_runV (As := [.long (-1), .long (lN 1)]) (rest := []) ⟨hx, hb, hml, hown, hts⟩ (c_X10_makeFraction l dC dI A ad cA g x pf qf pt L (-1) (lN 1) (-1) 1 0 hF0 hPt0 hM hmd hL2 hft (Or.inl rfl) (by decide) (by decide) (by decide) (by decide) (by decide)) (cwV 2 hts (goodIn_app (goodIn_r [Cond.methodLink RX10 177 yX10_makeFraction, Cond.instanceMethod yX10_makeFraction, Cond.selects RX10 yX10_makeFraction yX10_makeFraction, Cond.initialized RX10] [2, 3, 4, 5] rfl rfl) (goodIn_sub (fun w9 h9 => bk0 w9 h9) gw_X10_makeFraction)) rfl rfl rfl (by decide +kernel) ⟨Nat.le_of_ble_eq_true rfl, Nat.le_of_ble_eq_true rfl⟩) ⟨fun a U g mk q => ⟨q.1, q.2.1, q.2.2.1, LY.moved (u := U) (U := U.calling g mk a) (Vm.Alike.refl U.vm) q.2.2.2⟩, va_recv hK hP (ci := 13) (q0 := 0) rfl (wo_at (by decide) r_3), fun U hU hW => ⟨rfl, by rw [hU]; exact fun q h => hA q (Nat.le_trans hS.1 h), by rw [hU]; exact hP, LY.moved hW.alike hL⟩⟩ rfl rfl hl.1 rfl (lv_room (Nat.le_of_ble_eq_true rfl)) dX10_negative_5 ⟨(Nat.le_of_ble_eq_true rfl), (Nat.le_of_ble_eq_true rfl)⟩) hS (fun q _ h => h) (fun q h => h) (fun r_72 u8 t8 H1 locs ht8 hvm8 hw_73 hB hz1 hk1 hS => ?_)
    obtain ⟨g_74, x2_75, pt2_76, pf2_77, qf2_78⟩ := u8
    try dsimp only at hw_73 hB
    rw [ht8] at hB
    have hP := hB
    generalize H1 = H at hP hS ⊢
    obtain ⟨fr_79, hK9⟩ := hw_73
    obtain ⟨K_80, eK_80⟩ : ∃ z9, z9 = numL L (-1) 1 := ⟨_, rfl⟩
    rw [show (onF 0 L (numL L (rdp (-1) 1) (rdq (-1) 1))) = K_80 from by rw [eK_80]; rw [onF_0, show rdp (-1) 1 = -1 from by decide, show rdq (-1) 1 = 1 from by decide]] at hK9
    obtain ⟨hFK_80, hPtK_80, hMK_80, hlK_80, hmdK_80, hxK_80, hoK_80, hRK_80⟩ := hK9
    have hLEK_80 : LE L K_80.2 := LE.tr LE.rf (by rw [eK_80]; exact numL_le _ _ _)
    have hWK_80 : WFL K_80.2 := by rw [eK_80]; exact numL_wf hW ⟨by decide, by decide⟩
    have hleK_80 := hLEK_80.1
    have hzK_80 : (L).length ≤ K_80.2.length := by rw [eK_80]; exact (numL_le _ _ _).1
    have bxK_80 : ∀ j, j ≠ 3 → j ≠ 4 → x2_75 j = x j := fun j h3 h4 => (hxK_80 j h3 h4).trans (bx0 j h3 h4)
    have bpK_80 : ∀ f, 200 ≤ f → f < 1011 → pf2_77 f = pf f ∧ qf2_78 f = qf f := fun f h1 h2 => ⟨(hoK_80 f h1 h2).1.trans (bp0 f h1 h2).1, (hoK_80 f h1 h2).2.trans (bp0 f h1 h2).2⟩
    rcases hRK_80 with ⟨hnK_80, hmK_80, rfl, hfK_80⟩ | ⟨hnK_80, hmK_80, rfl, hfK_80⟩
    · skip
      obtain ⟨iK_80, hiK_80⟩ : ∃ z9 : Nat, K_80.1 = (z9 : Int) := ⟨K_80.1.toNat, by omega⟩
      have hjK_80 : iK_80 < K_80.2.length := by omega
      rw [hiK_80, ← nI_iI]
      have hc_81 := hPtK_80
      obtain ⟨p_82, p_83, p_84, p_85, p_86, p_87, hpt_88⟩ := hc_81
      have hc_89 := hFK_80
      obtain ⟨vfz_90, hVz_90, hqz_90⟩ := hc_89
      have hc_91 := hVz_90
      obtain ⟨pnz_92, lnz_92, bnz_92, hRz_92, hvz_92⟩ := hc_91
      obtain ⟨r_93, r_94, r_95, r_96, r_97, r_98, r_99⟩ := hRz_92
      refine lv_istore_n (lv' := [(2, .int (nI iK_80)), (0, .ref (ad 0)), (1, .int (nI x1))]) hx hb dX10_negative_8 rfl hl (by decide) rfl (fun ls hl => ?_)
      refine lv_aload_n hx hb dX10_negative_9 rfl (lv_at hl 1 rfl) ?_
      refine lv_iload_n hx hb dX10_negative_10 rfl (lv_at hl 0 rfl) ?_
      refine lv_iload_n hx hb dX10_negative_11 rfl (lv_at hl 2 rfl) ?_
      refine va_calli (va_runV (As := [.int (nI iK_80), .int (nI x1)]) (rest := []) ⟨hx, hb, hml, hown, hts⟩ (c_X10_makeProduct l dC dI A ad cA g_74 x2_75 pf2_77 qf2_78 pt2_76 K_80.2 iK_80 x1 0 hFK_80 hPtK_80 hMK_80 hmdK_80 hlK_80 hfK_80 (Or.inl rfl) hWK_80 hjK_80 (by omega)) (cwV 2 hts (goodIn_app (goodIn_r [Cond.methodLink RX10 215 yX10_makeProduct, Cond.instanceMethod yX10_makeProduct, Cond.selects RX10 yX10_makeProduct yX10_makeProduct, Cond.initialized RX10] [6, 7, 8, 5] rfl rfl) (goodIn_sub (fun w9 h9 => bk2 w9 h9) gw_X10_makeProduct)) rfl rfl rfl (by decide +kernel) ⟨Nat.le_of_ble_eq_true rfl, Nat.le_of_ble_eq_true rfl⟩) ⟨fun a U g mk q => ⟨q.1, q.2.1, q.2.2.1, LY.moved (u := U) (U := U.calling g mk a) (Vm.Alike.refl U.vm) q.2.2.2⟩, va_recv hK hP (ci := 13) (q0 := 0) rfl (wo_at (by decide) r_93), fun U hU hW => ⟨rfl, by rw [hU]; exact fun q h => hA q (Nat.le_trans hS.1 h), by rw [hU]; exact hP, LY.moved hW.alike hL⟩⟩ rfl rfl hl.1 rfl (lv_room (Nat.le_of_ble_eq_true rfl)) dX10_negative_12 ⟨(Nat.le_of_ble_eq_true rfl), (Nat.le_of_ble_eq_true rfl)⟩) hS (fun q _ h => h) (fun q h => h) (fun r_100 u8 t8 H1 locs ht8 hvm8 hw_101 hB hz1 hk1 hS => ?_)
      obtain ⟨g_102, x2_103, pt2_104, pf2_105, qf2_106⟩ := u8
      try dsimp only at hw_101 hB
      rw [ht8] at hB
      have hP := hB
      generalize H1 = H at hP hS ⊢
      obtain ⟨fr_107, hK⟩ := hw_101
      refine W.widen (k := 0) (n := 0) (by omega) (by omega) ?_
      exact W.iret (v := r_100) hx hb hr (fun t9 ht9 hW9 => ⟨⟨r_100, (g_102, x2_103, pt2_104, pf2_105, qf2_106), rfl, ⟨(fun (k : Nat) (hk : k ≠ 0 ∧ k ≠ 1 ∧ k ≠ 2 ∧ k ≠ 3 ∧ k ≠ 5 ∧ k ≠ 6 ∧ k ≠ 7 ∧ k ≠ 8 ∧ k ≠ 9 ∧ k ≠ 10) => (fr_107 k (by omega)).trans ((fr_79 k (by omega)).trans (rfl))), by rw [onF_0] at hK ⊢; unfold negL seqL; rw [← eK_80, if_neg (by omega), hiK_80, Int.toNat_natCast]; exact hK.base bxK_80 bpK_80⟩, by show va_P (dC, dI) vwCl _ t9.heap; rw [ht9]; exact hP⟩, hS.F ht9⟩) hS.2.2 dX10_negative_15
    · skip
      have hc_108 := hPtK_80
      obtain ⟨p_109, p_110, p_111, p_112, p_113, p_114, hpt_115⟩ := hc_108
      have hc_116 := hFK_80
      obtain ⟨vfz_117, hVz_117, hqz_117⟩ := hc_116
      have hc_118 := hVz_117
      obtain ⟨pnz_119, lnz_119, bnz_119, hRz_119, hvz_119⟩ := hc_118
      obtain ⟨r_120, r_121, r_122, r_123, r_124, r_125, r_126⟩ := hRz_119
      refine lv_istore_n (lv' := [(2, .int (-1)), (0, .ref (ad 0)), (1, .int (nI x1))]) hx hb dX10_negative_8 rfl hl (by decide) rfl (fun ls hl => ?_)
      refine lv_aload_n hx hb dX10_negative_9 rfl (lv_at hl 1 rfl) ?_
      refine lv_iload_n hx hb dX10_negative_10 rfl (lv_at hl 0 rfl) ?_
      refine lv_iload_n hx hb dX10_negative_11 rfl (lv_at hl 2 rfl) ?_
      refine va_calli (va_runV (As := [.int (-1), .int (nI x1)]) (rest := []) ⟨hx, hb, hml, hown, hts⟩ (c_X10_makeProductF l dC dI A ad cA g_74 x2_75 pf2_77 qf2_78 pt2_76 K_80.2 (-1) (nI x1) K_80.1 hFK_80 hPtK_80 hMK_80 hmdK_80 hlK_80 hfK_80 (Or.inr ⟨hnK_80, hmK_80⟩) hnK_80) (cwV 2 hts (goodIn_app (goodIn_r [Cond.methodLink RX10 215 yX10_makeProduct, Cond.instanceMethod yX10_makeProduct, Cond.selects RX10 yX10_makeProduct yX10_makeProduct, Cond.initialized RX10] [6, 7, 8, 5] rfl rfl) (goodIn_sub (fun w9 h9 => bk1 w9 h9) gw_X10_makeProductF)) rfl rfl rfl (by decide +kernel) ⟨Nat.le_of_ble_eq_true rfl, Nat.le_of_ble_eq_true rfl⟩) ⟨fun a U g mk q => ⟨q.1, q.2.1, q.2.2.1, LY.moved (u := U) (U := U.calling g mk a) (Vm.Alike.refl U.vm) q.2.2.2⟩, va_recv hK hP (ci := 13) (q0 := 0) rfl (wo_at (by decide) r_120), fun U hU hW => ⟨rfl, by rw [hU]; exact fun q h => hA q (Nat.le_trans hS.1 h), by rw [hU]; exact hP, LY.moved hW.alike hL⟩⟩ rfl rfl hl.1 rfl (lv_room (Nat.le_of_ble_eq_true rfl)) dX10_negative_12 ⟨(Nat.le_of_ble_eq_true rfl), (Nat.le_of_ble_eq_true rfl)⟩) hS (fun q _ h => h) (fun q h => h) (fun r_127 u8 t8 H1 locs ht8 hvm8 hw_128 hB hz1 hk1 hS => ?_)
      obtain ⟨g_129, x2_130, pt2_131, pf2_132, qf2_133⟩ := u8
      try dsimp only at hw_128 hB
      rw [ht8] at hB
      have hP := hB
      generalize H1 = H at hP hS ⊢
      obtain ⟨fr_134, hK⟩ := hw_128
      refine W.widen (k := 0) (n := 0) (by omega) (by omega) ?_
      exact W.iret (v := r_127) hx hb hr (fun t9 ht9 hW9 => ⟨⟨r_127, (g_129, x2_130, pt2_131, pf2_132, qf2_133), rfl, ⟨(fun (k : Nat) (hk : k ≠ 0 ∧ k ≠ 1 ∧ k ≠ 2 ∧ k ≠ 3 ∧ k ≠ 5 ∧ k ≠ 6 ∧ k ≠ 7 ∧ k ≠ 8 ∧ k ≠ 9 ∧ k ≠ 10) => (fr_134 k (by omega)).trans ((fr_79 k (by omega)).trans (rfl))), by rw [onF_0]; unfold negL seqL; rw [← eK_80, if_pos hnK_80]; exact hK.base bxK_80 bpK_80⟩, by show va_P (dC, dI) vwCl _ t9.heap; rw [ht9]; exact hP⟩, hS.F ht9⟩) hS.2.2 dX10_negative_15
