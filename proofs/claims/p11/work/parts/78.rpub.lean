section
def wd_X10_noName : List Cond := .code yX10_noName cX10_noName 2 (some .boolean) :: (([.fieldLink RX10 78 "GradientDeskModel" "thrown" "I", .fieldLink RX10 47 "GradientDeskModel" "names" "[I"] : List Cond) ++ (u_ws RX10 TX10 29 ++ ([])))
theorem gw_X10_noName : wd_X10_noName.all goodWord = true := k_allc rfl (k_all (by decide +kernel) (k_all (gu_X10) (rfl)))
set_option maxHeartbeats 4000000 in
set_option maxRecDepth 100000 in
theorem c_X10_noName (l : Launch) (dC : Nat → ClassId) (dI : Nat → Nat → Nat) (A : Nat → Prop) (ad : Nat → Nat) (cA : Nat → ClassId) (g : Nat → va_E) (x : Nat → Int32) (L : List PD) (nm : Nat → Int) (tx : Nat → Nat) (ty : Nat) (wr : List Int) (v : Int32) (hI : RIE ad cA g x L nm tx ty wr) : Met l yX10_noName wd_X10_noName ({ frames := 10, cells := 0, slots := 0, locals := 200 }) (va_Pc [.ref (ad 0), .int v] (PR NSr tyr dC dI A ad cA g)) (va_Qi (fun (r : Int32) => fun (u : (Nat → va_E) × (Nat → Int32)) => match u with | (g2, x2) => RIE ad cA g2 x2 L nm tx ty wr ∧ x2 2 = x 2 ∧ ((r = nI 0 ∧ x2 0 = nI 0 ∧ ∃ vn, v = nI vn ∧ vn ≤ 7 ∧ 0 ≤ nm vn) ∨ (r = nI 1 ∧ ((¬ (0 ≤ v.toInt ∧ v.toInt ≤ 7) ∧ x2 0 = nI 1) ∨ (∃ a9 : Nat, v = nI a9 ∧ a9 ≤ 7 ∧ nm a9 < 0 ∧ x2 0 = nI 2))))) (fun (u : (Nat → va_E) × (Nat → Int32)) (t : State) => va_P (dC, dI) vwCl (wo ad NSr u.1) t.heap) A) (0) (0) A := by
  refine Met.ofW (cc := cX10_noName) (maxL := 2) (ret := (some .boolean)) (by decide) rfl ?_
  intro p e s m args below meth c s₁ B hml hv
  obtain ⟨rfl, hA, hP, hL⟩ := hv
  have hx := B.exec
  have hb := B.bytes
  have hr := B.returns
  have hts := atoms_spec (ws := wd_X10_noName) B.pre
  have hown : s.vm.findClass RX10 = some m.cls := findClass_of_methodNamed B.named
  have hlocks := B.notSynchronized
  have hK := hL.1
  have hD : ∀ g, va_D A (wo ad NSr g) := fun g => wo_D hL.2.1 hL.2.2 g
  have hS : va_S A s.heap s.heap [] := va_S.rf
  have bk0 : ∀ w ∈ u_ws RX10 TX10 29, w ∈ wd_X10_noName := fun _ h => List.mem_cons_of_mem _ (List.mem_append_right _ (List.mem_append_left _ h))
  have hl := lv_entry ([.ref (ad 0), .int v]) (n := 2) (Nat.le_of_ble_eq_true rfl)
  rw [lg_entry_eq]
  generalize (lg_sl ([.ref (ad 0), .int v]) ++ List.replicate (2 - (lg_sl ([.ref (ad 0), .int v])).length) Slot.unset).toArray = ls at hl ⊢
  have hl : lv_has ls 2 [(0, .ref (ad 0)), (1, .int v)] := hl
  obtain ⟨pf, qf, pt, hI0⟩ := hI
  have hI1 := hI0
  obtain ⟨hF, hPt, hM, hW, hL2, hmd, hTx, hty, hty2, hwr, hwr2, hVO, hBd⟩ := hI1
  have hVO0 := hVO
  have hPt0 := hPt
  have hTx0 := hTx
  have hF0 := hF
  obtain ⟨vf, hV, hq⟩ := hF
  have hc_1 := hV
  obtain ⟨pnz_2, lnz_2, bnz_2, hRz_2, hvz_2⟩ := hc_1
  obtain ⟨r_3, r_4, r_5, r_6, r_7, r_8, r_9⟩ := hRz_2
  obtain ⟨p_10, p_11, p_12, p_13, p_14, p_15, hpt_16⟩ := hPt
  obtain ⟨t4, t4b, t11, t11b, t11c⟩ := hTx
  obtain ⟨⟨rc, v12, v12b⟩, ⟨f13, v13⟩, ⟨f14, v14⟩, ⟨f15, v15⟩, ⟨f16, v16⟩, ⟨f17, v17⟩, ⟨f18, v18⟩, ⟨f19, v19⟩⟩ := hVO
  refine lv_aload_n hx hb dX10_noName_0 rfl (lv_at hl 0 rfl) ?_
  refine lv_iload_n hx hb dX10_noName_1 rfl (lv_at hl 1 rfl) ?_
  refine lv_if_lt (tgt := 11) hx hb dX10_noName_2 (by decide) (fun c_17 => ?_) (fun c_17 => ?_)
  · have c_17 := (k_lt v (nI 0)).mp c_17
    rw [show (nI 0).toInt = 0 from by decide] at c_17
    refine lv_iconst (v := nI 1) hx hb dX10_noName_11 (by decide +kernel) ?_
    refine lv_goto (tgt := 29) hx hb dX10_noName_12 (by decide) ?_
    refine m_put (D := (dC, dI)) (v := .int (nI 1)) (tv := .int) (C := RX10) (T := TX10) (N := 29) hx hb hts bk0 tyX10 tyX10_ok nmX10 hown hK hP hD hS 0 (by decide) r_3 rfl 0 (by decide) (hts (.fieldLink RX10 78 "GradientDeskModel" "thrown" "I") (List.mem_of_getElem? (i := 1) rfl)) (fun _ h9 => h9) rfl (by decide +kernel) rfl rfl (Nat.le_of_ble_eq_true rfl) dX10_noName_29 (fun H locs g_18 f_19 fr_20 hP hS => ?_)
    have f_19 : g_18 0 = .inr (13, Rob ad (va_up x 0 (nI 1))) := f_19
    refine lv_aload_n hx hb dX10_noName_32 rfl (lv_at hl 0 rfl) ?_
    refine m_get (D := (dC, dI)) (v := .int (nI 1)) (C := RX10) (T := TX10) (N := 29) hx hb hts bk0 hown hK hP 0 (by decide) f_19 rfl 0 (by decide) (hts (.fieldLink RX10 78 "GradientDeskModel" "thrown" "I") (List.mem_of_getElem? (i := 1) rfl)) (fun _ h9 => h9) (congrArg (fun z => some (Value.int z)) (show (va_up x 0 (nI 1)) 0 = (nI 1) from rfl)) dX10_noName_33 ?_
    refine lv_if_le (tgt := 43) hx hb dX10_noName_36 (by decide) (fun c_21 => absurd c_21 (by decide)) (fun c_21 => ?_)
    refine lv_iconst (v := nI 1) hx hb dX10_noName_39 (by decide +kernel) ?_
    refine lv_goto (tgt := 44) hx hb dX10_noName_40 (by decide) ?_
    refine W.widen (k := 0) (n := 0) (by omega) (by omega) ?_
    exact W.zret (v := nI 1) hx hb hr (by decide +kernel) (fun t9 ht9 hW9 => ⟨⟨nI 1, (g_18, va_up x 0 (nI 1)), rfl, ⟨RI.num hI0 (hF0.setx (fun (k : Nat) (hk : k = 1 ∨ k = 2 ∨ k = 3) => (fr_20 k (by omega)).trans (rfl)) f_19 rfl) (fun (k : Nat) (hk : (4 ≤ k ∧ k ≤ 11) ∨ k = 16) => (fr_20 k (by omega)).trans (rfl)) (hVO0.same (fun (k : Nat) (hk : 12 ≤ k ∧ k ≤ 19) => (fr_20 k (by omega)).trans (rfl))) (va_up_ne _ _ (by decide)) (va_up_ne _ _ (by decide)) (va_up_ne _ _ (by decide)) (fun _ _ => ⟨rfl, rfl⟩) hBd, (va_up_ne _ _ (by decide)), Or.inr ⟨rfl, Or.inl ⟨by omega, va_up_self _ _ _⟩⟩⟩, by show va_P (dC, dI) vwCl _ t9.heap; rw [ht9]; exact hP⟩, hS.F ht9⟩) hS.2.2 dX10_noName_44
  · have c_17 := mt (k_lt v (nI 0)).mpr c_17
    rw [show (nI 0).toInt = 0 from by decide] at c_17
    refine lv_iload_n hx hb dX10_noName_5 rfl (lv_at hl 1 rfl) ?_
    refine lv_bipush (v := nI 7) hx hb dX10_noName_6 (by decide +kernel) ?_
    refine lv_icmp_le (tgt := 15) hx hb dX10_noName_8 (by decide) (fun c_22 => ?_) (fun c_22 => ?_)
    · have c_22 := (k_le v (nI 7)).mp c_22
      rw [show (nI 7).toInt = 7 from by decide] at c_22
      obtain ⟨vn, hvn, evn, -⟩ := k_nat (x := v) (by omega)
      subst hvn
      refine lv_aload_n hx hb dX10_noName_15 rfl (lv_at hl 0 rfl) ?_
      refine m_get (D := (dC, dI)) (v := .ref (ad 11)) (C := RX10) (T := TX10) (N := 29) hx hb hts bk0 hown hK hP 0 (by decide) r_3 rfl 15 (by decide) (hts (.fieldLink RX10 47 "GradientDeskModel" "names" "[I") (List.mem_of_getElem? (i := 2) rfl)) (fun _ h9 => h9) rfl dX10_noName_16 ?_
      refine lv_iload_n hx hb dX10_noName_19 rfl (lv_at hl 1 rfl) ?_
      refine m_iald hx hb hK hP 11 (by decide) rfl t11 (i := vn) (by omega) (by decide) dX10_noName_20 ?_
      have b_23 := t11b vn
      refine lv_if_ge (tgt := 28) hx hb dX10_noName_21 (by decide) (fun c_24 => ?_) (fun c_24 => ?_)
      · have c_24 := (k_iLE (a := 0) (b := nm vn) (show nI 0 = iI 0 from by decide) rfl (by omega) (by omega)).mp c_24
        refine lv_iconst (v := nI 0) hx hb dX10_noName_28 (by decide +kernel) ?_
        refine m_put (D := (dC, dI)) (v := .int (nI 0)) (tv := .int) (C := RX10) (T := TX10) (N := 29) hx hb hts bk0 tyX10 tyX10_ok nmX10 hown hK hP hD hS 0 (by decide) r_3 rfl 0 (by decide) (hts (.fieldLink RX10 78 "GradientDeskModel" "thrown" "I") (List.mem_of_getElem? (i := 1) rfl)) (fun _ h9 => h9) rfl (by decide +kernel) rfl rfl (Nat.le_of_ble_eq_true rfl) dX10_noName_29 (fun H locs g_25 f_26 fr_27 hP hS => ?_)
        have f_26 : g_25 0 = .inr (13, Rob ad (va_up x 0 (nI 0))) := f_26
        refine lv_aload_n hx hb dX10_noName_32 rfl (lv_at hl 0 rfl) ?_
        refine m_get (D := (dC, dI)) (v := .int (nI 0)) (C := RX10) (T := TX10) (N := 29) hx hb hts bk0 hown hK hP 0 (by decide) f_26 rfl 0 (by decide) (hts (.fieldLink RX10 78 "GradientDeskModel" "thrown" "I") (List.mem_of_getElem? (i := 1) rfl)) (fun _ h9 => h9) (congrArg (fun z => some (Value.int z)) (show (va_up x 0 (nI 0)) 0 = (nI 0) from rfl)) dX10_noName_33 ?_
        refine lv_if_le (tgt := 43) hx hb dX10_noName_36 (by decide) (fun c_28 => ?_) (fun c_28 => absurd c_28 (by decide))
        refine lv_iconst (v := nI 0) hx hb dX10_noName_43 (by decide +kernel) ?_
        refine W.widen (k := 0) (n := 0) (by omega) (by omega) ?_
        exact W.zret (v := nI 0) hx hb hr (by decide +kernel) (fun t9 ht9 hW9 => ⟨⟨nI 0, (g_25, va_up x 0 (nI 0)), rfl, ⟨RI.num hI0 (hF0.setx (fun (k : Nat) (hk : k = 1 ∨ k = 2 ∨ k = 3) => (fr_27 k (by omega)).trans (rfl)) f_26 rfl) (fun (k : Nat) (hk : (4 ≤ k ∧ k ≤ 11) ∨ k = 16) => (fr_27 k (by omega)).trans (rfl)) (hVO0.same (fun (k : Nat) (hk : 12 ≤ k ∧ k ≤ 19) => (fr_27 k (by omega)).trans (rfl))) (va_up_ne _ _ (by decide)) (va_up_ne _ _ (by decide)) (va_up_ne _ _ (by decide)) (fun _ _ => ⟨rfl, rfl⟩) hBd, (va_up_ne _ _ (by decide)), Or.inl ⟨rfl, va_up_self _ _ _, vn, rfl, by omega, by omega⟩⟩, by show va_P (dC, dI) vwCl _ t9.heap; rw [ht9]; exact hP⟩, hS.F ht9⟩) hS.2.2 dX10_noName_44
      · have c_24 := mt (k_iLE (a := 0) (b := nm vn) (show nI 0 = iI 0 from by decide) rfl (by omega) (by omega)).mpr c_24
        refine lv_iconst (v := nI 2) hx hb dX10_noName_24 (by decide +kernel) ?_
        refine lv_goto (tgt := 29) hx hb dX10_noName_25 (by decide) ?_
        refine m_put (D := (dC, dI)) (v := .int (nI 2)) (tv := .int) (C := RX10) (T := TX10) (N := 29) hx hb hts bk0 tyX10 tyX10_ok nmX10 hown hK hP hD hS 0 (by decide) r_3 rfl 0 (by decide) (hts (.fieldLink RX10 78 "GradientDeskModel" "thrown" "I") (List.mem_of_getElem? (i := 1) rfl)) (fun _ h9 => h9) rfl (by decide +kernel) rfl rfl (Nat.le_of_ble_eq_true rfl) dX10_noName_29 (fun H locs g_29 f_30 fr_31 hP hS => ?_)
        have f_30 : g_29 0 = .inr (13, Rob ad (va_up x 0 (nI 2))) := f_30
        refine lv_aload_n hx hb dX10_noName_32 rfl (lv_at hl 0 rfl) ?_
        refine m_get (D := (dC, dI)) (v := .int (nI 2)) (C := RX10) (T := TX10) (N := 29) hx hb hts bk0 hown hK hP 0 (by decide) f_30 rfl 0 (by decide) (hts (.fieldLink RX10 78 "GradientDeskModel" "thrown" "I") (List.mem_of_getElem? (i := 1) rfl)) (fun _ h9 => h9) (congrArg (fun z => some (Value.int z)) (show (va_up x 0 (nI 2)) 0 = (nI 2) from rfl)) dX10_noName_33 ?_
        refine lv_if_le (tgt := 43) hx hb dX10_noName_36 (by decide) (fun c_32 => absurd c_32 (by decide)) (fun c_32 => ?_)
        refine lv_iconst (v := nI 1) hx hb dX10_noName_39 (by decide +kernel) ?_
        refine lv_goto (tgt := 44) hx hb dX10_noName_40 (by decide) ?_
        refine W.widen (k := 0) (n := 0) (by omega) (by omega) ?_
        exact W.zret (v := nI 1) hx hb hr (by decide +kernel) (fun t9 ht9 hW9 => ⟨⟨nI 1, (g_29, va_up x 0 (nI 2)), rfl, ⟨RI.num hI0 (hF0.setx (fun (k : Nat) (hk : k = 1 ∨ k = 2 ∨ k = 3) => (fr_31 k (by omega)).trans (rfl)) f_30 rfl) (fun (k : Nat) (hk : (4 ≤ k ∧ k ≤ 11) ∨ k = 16) => (fr_31 k (by omega)).trans (rfl)) (hVO0.same (fun (k : Nat) (hk : 12 ≤ k ∧ k ≤ 19) => (fr_31 k (by omega)).trans (rfl))) (va_up_ne _ _ (by decide)) (va_up_ne _ _ (by decide)) (va_up_ne _ _ (by decide)) (fun _ _ => ⟨rfl, rfl⟩) hBd, (va_up_ne _ _ (by decide)), Or.inr ⟨rfl, Or.inr ⟨vn, rfl, by omega, by omega, va_up_self _ _ _⟩⟩⟩, by show va_P (dC, dI) vwCl _ t9.heap; rw [ht9]; exact hP⟩, hS.F ht9⟩) hS.2.2 dX10_noName_44
    · have c_22 := mt (k_le v (nI 7)).mpr c_22
      rw [show (nI 7).toInt = 7 from by decide] at c_22
      refine lv_iconst (v := nI 1) hx hb dX10_noName_11 (by decide +kernel) ?_
      refine lv_goto (tgt := 29) hx hb dX10_noName_12 (by decide) ?_
      refine m_put (D := (dC, dI)) (v := .int (nI 1)) (tv := .int) (C := RX10) (T := TX10) (N := 29) hx hb hts bk0 tyX10 tyX10_ok nmX10 hown hK hP hD hS 0 (by decide) r_3 rfl 0 (by decide) (hts (.fieldLink RX10 78 "GradientDeskModel" "thrown" "I") (List.mem_of_getElem? (i := 1) rfl)) (fun _ h9 => h9) rfl (by decide +kernel) rfl rfl (Nat.le_of_ble_eq_true rfl) dX10_noName_29 (fun H locs g_33 f_34 fr_35 hP hS => ?_)
      have f_34 : g_33 0 = .inr (13, Rob ad (va_up x 0 (nI 1))) := f_34
      refine lv_aload_n hx hb dX10_noName_32 rfl (lv_at hl 0 rfl) ?_
      refine m_get (D := (dC, dI)) (v := .int (nI 1)) (C := RX10) (T := TX10) (N := 29) hx hb hts bk0 hown hK hP 0 (by decide) f_34 rfl 0 (by decide) (hts (.fieldLink RX10 78 "GradientDeskModel" "thrown" "I") (List.mem_of_getElem? (i := 1) rfl)) (fun _ h9 => h9) (congrArg (fun z => some (Value.int z)) (show (va_up x 0 (nI 1)) 0 = (nI 1) from rfl)) dX10_noName_33 ?_
      refine lv_if_le (tgt := 43) hx hb dX10_noName_36 (by decide) (fun c_36 => absurd c_36 (by decide)) (fun c_36 => ?_)
      refine lv_iconst (v := nI 1) hx hb dX10_noName_39 (by decide +kernel) ?_
      refine lv_goto (tgt := 44) hx hb dX10_noName_40 (by decide) ?_
      refine W.widen (k := 0) (n := 0) (by omega) (by omega) ?_
      exact W.zret (v := nI 1) hx hb hr (by decide +kernel) (fun t9 ht9 hW9 => ⟨⟨nI 1, (g_33, va_up x 0 (nI 1)), rfl, ⟨RI.num hI0 (hF0.setx (fun (k : Nat) (hk : k = 1 ∨ k = 2 ∨ k = 3) => (fr_35 k (by omega)).trans (rfl)) f_34 rfl) (fun (k : Nat) (hk : (4 ≤ k ∧ k ≤ 11) ∨ k = 16) => (fr_35 k (by omega)).trans (rfl)) (hVO0.same (fun (k : Nat) (hk : 12 ≤ k ∧ k ≤ 19) => (fr_35 k (by omega)).trans (rfl))) (va_up_ne _ _ (by decide)) (va_up_ne _ _ (by decide)) (va_up_ne _ _ (by decide)) (fun _ _ => ⟨rfl, rfl⟩) hBd, (va_up_ne _ _ (by decide)), Or.inr ⟨rfl, Or.inl ⟨by omega, va_up_self _ _ _⟩⟩⟩, by show va_P (dC, dI) vwCl _ t9.heap; rw [ht9]; exact hP⟩, hS.F ht9⟩) hS.2.2 dX10_noName_44
def wd_X10_part : List Cond := .code yX10_part cX10_part 3 (some .int) :: (([.fieldLink RX10 78 "GradientDeskModel" "thrown" "I", .fieldLink RX10 149 "GradientDeskModel" "made" "I", .fieldLink RX10 44 "GradientDeskModel" "sizeD" "[I", .fieldLink RX10 41 "GradientDeskModel" "sizeN" "[I", .fieldLink RX10 38 "GradientDeskModel" "degree" "[I", .fieldLink RX10 35 "GradientDeskModel" "second" "[I", .fieldLink RX10 32 "GradientDeskModel" "first" "[I", .fieldLink RX10 29 "GradientDeskModel" "sort" "[I"] : List Cond) ++ (u_ws RX10 TX10 29 ++ ([])))
theorem gw_X10_part : wd_X10_part.all goodWord = true := k_allc rfl (k_all (by decide +kernel) (k_all (gu_X10) (rfl)))
set_option maxHeartbeats 4000000 in
set_option maxRecDepth 100000 in
theorem c_X10_part (l : Launch) (dC : Nat → ClassId) (dI : Nat → Nat → Nat) (A : Nat → Prop) (ad : Nat → Nat) (cA : Nat → ClassId) (g : Nat → va_E) (x : Nat → Int32) (L : List PD) (nm : Nat → Int) (tx : Nat → Nat) (ty : Nat) (wr : List Int) (v : Int32) (w1 : Int32) (hI : RIE ad cA g x L nm tx ty wr) : Met l yX10_part wd_X10_part ({ frames := 10, cells := 0, slots := 0, locals := 200 }) (va_Pc [.ref (ad 0), .int v, .int w1] (PR NSr tyr dC dI A ad cA g)) (va_Qi (fun (r : Int32) => fun (u : (Nat → va_E) × (Nat → Int32)) => match u with | (g2, x2) => RIE ad cA g2 x2 L nm tx ty wr ∧ x2 2 = x 2 ∧ ((x2 0 = nI 0 ∧ ∃ kn fn, v = nI kn ∧ kn < L.length ∧ w1 = nI fn ∧ fn ≤ 5 ∧ r = iI (fld (gd L kn) fn)) ∨ (r = nI 0 ∧ ((¬ (0 ≤ v.toInt ∧ v.toInt < L.length) ∧ x2 0 = nI 1) ∨ ((0 ≤ v.toInt ∧ v.toInt < L.length) ∧ ¬ (0 ≤ w1.toInt ∧ w1.toInt ≤ 5) ∧ x2 0 = nI 2))))) (fun (u : (Nat → va_E) × (Nat → Int32)) (t : State) => va_P (dC, dI) vwCl (wo ad NSr u.1) t.heap) A) (0) (0) A := by
  refine Met.ofW (cc := cX10_part) (maxL := 3) (ret := (some .int)) (by decide) rfl ?_
  intro p e s m args below meth c s₁ B hml hv
  obtain ⟨rfl, hA, hP, hL⟩ := hv
  have hx := B.exec
  have hb := B.bytes
  have hr := B.returns
  have hts := atoms_spec (ws := wd_X10_part) B.pre
  have hown : s.vm.findClass RX10 = some m.cls := findClass_of_methodNamed B.named
  have hlocks := B.notSynchronized
  have hK := hL.1
  have hD : ∀ g, va_D A (wo ad NSr g) := fun g => wo_D hL.2.1 hL.2.2 g
  have hS : va_S A s.heap s.heap [] := va_S.rf
  have bk0 : ∀ w ∈ u_ws RX10 TX10 29, w ∈ wd_X10_part := fun _ h => List.mem_cons_of_mem _ (List.mem_append_right _ (List.mem_append_left _ h))
  have hl := lv_entry ([.ref (ad 0), .int v, .int w1]) (n := 3) (Nat.le_of_ble_eq_true rfl)
  rw [lg_entry_eq]
  generalize (lg_sl ([.ref (ad 0), .int v, .int w1]) ++ List.replicate (3 - (lg_sl ([.ref (ad 0), .int v, .int w1])).length) Slot.unset).toArray = ls at hl ⊢
  have hl : lv_has ls 3 [(0, .ref (ad 0)), (1, .int v), (2, .int w1)] := hl
  obtain ⟨pf, qf, pt, hI0⟩ := hI
  have hI1 := hI0
  obtain ⟨hF, hPt, hM, hW, hL2, hmd, hTx, hty, hty2, hwr, hwr2, hVO, hBd⟩ := hI1
  have hVO0 := hVO
  have hPt0 := hPt
  have hTx0 := hTx
  have hF0 := hF
  obtain ⟨vf, hV, hq⟩ := hF
  have hc_1 := hV
  obtain ⟨pnz_2, lnz_2, bnz_2, hRz_2, hvz_2⟩ := hc_1
  obtain ⟨r_3, r_4, r_5, r_6, r_7, r_8, r_9⟩ := hRz_2
  obtain ⟨p_10, p_11, p_12, p_13, p_14, p_15, hpt_16⟩ := hPt
  obtain ⟨t4, t4b, t11, t11b, t11c⟩ := hTx
  obtain ⟨⟨rc, v12, v12b⟩, ⟨f13, v13⟩, ⟨f14, v14⟩, ⟨f15, v15⟩, ⟨f16, v16⟩, ⟨f17, v17⟩, ⟨f18, v18⟩, ⟨f19, v19⟩⟩ := hVO
  refine lv_aload_n hx hb dX10_part_0 rfl (lv_at hl 0 rfl) ?_
  refine lv_iload_n hx hb dX10_part_1 rfl (lv_at hl 1 rfl) ?_
  refine lv_if_lt (tgt := 13) hx hb dX10_part_2 (by decide) (fun c_17 => ?_) (fun c_17 => ?_)
  · have c_17 := (k_lt v (nI 0)).mp c_17
    rw [show (nI 0).toInt = 0 from by decide] at c_17
    refine lv_iconst (v := nI 1) hx hb dX10_part_13 (by decide +kernel) ?_
    refine lv_goto (tgt := 31) hx hb dX10_part_14 (by decide) ?_
    refine m_put (D := (dC, dI)) (v := .int (nI 1)) (tv := .int) (C := RX10) (T := TX10) (N := 29) hx hb hts bk0 tyX10 tyX10_ok nmX10 hown hK hP hD hS 0 (by decide) r_3 rfl 0 (by decide) (hts (.fieldLink RX10 78 "GradientDeskModel" "thrown" "I") (List.mem_of_getElem? (i := 1) rfl)) (fun _ h9 => h9) rfl (by decide +kernel) rfl rfl (Nat.le_of_ble_eq_true rfl) dX10_part_31 (fun H locs g_18 f_19 fr_20 hP hS => ?_)
    have f_19 : g_18 0 = .inr (13, Rob ad (va_up x 0 (nI 1))) := f_19
    refine lv_aload_n hx hb dX10_part_34 rfl (lv_at hl 0 rfl) ?_
    refine m_get (D := (dC, dI)) (v := .int (nI 1)) (C := RX10) (T := TX10) (N := 29) hx hb hts bk0 hown hK hP 0 (by decide) f_19 rfl 0 (by decide) (hts (.fieldLink RX10 78 "GradientDeskModel" "thrown" "I") (List.mem_of_getElem? (i := 1) rfl)) (fun _ h9 => h9) (congrArg (fun z => some (Value.int z)) (show (va_up x 0 (nI 1)) 0 = (nI 1) from rfl)) dX10_part_35 ?_
    refine lv_if_le (tgt := 43) hx hb dX10_part_38 (by decide) (fun c_21 => absurd c_21 (by decide)) (fun c_21 => ?_)
    refine lv_iconst (v := nI 0) hx hb dX10_part_41 (by decide +kernel) ?_
    refine W.widen (k := 0) (n := 0) (by omega) (by omega) ?_
    exact W.iret (v := nI 0) hx hb hr (fun t9 ht9 hW9 => ⟨⟨nI 0, (g_18, va_up x 0 (nI 1)), rfl, ⟨RI.num hI0 (hF0.setx (fun (k : Nat) (hk : k = 1 ∨ k = 2 ∨ k = 3) => (fr_20 k (by omega)).trans (rfl)) f_19 rfl) (fun (k : Nat) (hk : (4 ≤ k ∧ k ≤ 11) ∨ k = 16) => (fr_20 k (by omega)).trans (rfl)) (hVO0.same (fun (k : Nat) (hk : 12 ≤ k ∧ k ≤ 19) => (fr_20 k (by omega)).trans (rfl))) (va_up_ne _ _ (by decide)) (va_up_ne _ _ (by decide)) (va_up_ne _ _ (by decide)) (fun _ _ => ⟨rfl, rfl⟩) hBd, (va_up_ne _ _ (by decide)), Or.inr ⟨rfl, Or.inl ⟨by omega, va_up_self _ _ _⟩⟩⟩, by show va_P (dC, dI) vwCl _ t9.heap; rw [ht9]; exact hP⟩, hS.F ht9⟩) hS.2.2 dX10_part_42
  · have c_17 := mt (k_lt v (nI 0)).mpr c_17
    rw [show (nI 0).toInt = 0 from by decide] at c_17
    refine lv_iload_n hx hb dX10_part_5 rfl (lv_at hl 1 rfl) ?_
    refine lv_aload_n hx hb dX10_part_6 rfl (lv_at hl 0 rfl) ?_
    refine m_get (D := (dC, dI)) (v := .int (nI L.length)) (C := RX10) (T := TX10) (N := 29) hx hb hts bk0 hown hK hP 0 (by decide) r_3 rfl 13 (by decide) (hts (.fieldLink RX10 149 "GradientDeskModel" "made" "I") (List.mem_of_getElem? (i := 2) rfl)) (fun _ h9 => h9) (congrArg (fun z => some (Value.int z)) hmd) dX10_part_7 ?_
    refine lv_icmp_lt (tgt := 17) hx hb dX10_part_10 (by decide) (fun c_22 => ?_) (fun c_22 => ?_)
    · have c_22 := (k_lt v (nI L.length)).mp c_22
      rw [nI_toInt (show L.length < 2 ^ 31 by omega)] at c_22
      refine lv_iload_n hx hb dX10_part_17 rfl (lv_at hl 2 rfl) ?_
      refine lv_if_lt (tgt := 26) hx hb dX10_part_18 (by decide) (fun c_23 => ?_) (fun c_23 => ?_)
      · have c_23 := (k_lt w1 (nI 0)).mp c_23
        rw [show (nI 0).toInt = 0 from by decide] at c_23
        refine lv_iconst (v := nI 2) hx hb dX10_part_26 (by decide +kernel) ?_
        refine lv_goto (tgt := 31) hx hb dX10_part_27 (by decide) ?_
        refine m_put (D := (dC, dI)) (v := .int (nI 2)) (tv := .int) (C := RX10) (T := TX10) (N := 29) hx hb hts bk0 tyX10 tyX10_ok nmX10 hown hK hP hD hS 0 (by decide) r_3 rfl 0 (by decide) (hts (.fieldLink RX10 78 "GradientDeskModel" "thrown" "I") (List.mem_of_getElem? (i := 1) rfl)) (fun _ h9 => h9) rfl (by decide +kernel) rfl rfl (Nat.le_of_ble_eq_true rfl) dX10_part_31 (fun H locs g_24 f_25 fr_26 hP hS => ?_)
        have f_25 : g_24 0 = .inr (13, Rob ad (va_up x 0 (nI 2))) := f_25
        refine lv_aload_n hx hb dX10_part_34 rfl (lv_at hl 0 rfl) ?_
        refine m_get (D := (dC, dI)) (v := .int (nI 2)) (C := RX10) (T := TX10) (N := 29) hx hb hts bk0 hown hK hP 0 (by decide) f_25 rfl 0 (by decide) (hts (.fieldLink RX10 78 "GradientDeskModel" "thrown" "I") (List.mem_of_getElem? (i := 1) rfl)) (fun _ h9 => h9) (congrArg (fun z => some (Value.int z)) (show (va_up x 0 (nI 2)) 0 = (nI 2) from rfl)) dX10_part_35 ?_
        refine lv_if_le (tgt := 43) hx hb dX10_part_38 (by decide) (fun c_27 => absurd c_27 (by decide)) (fun c_27 => ?_)
        refine lv_iconst (v := nI 0) hx hb dX10_part_41 (by decide +kernel) ?_
        refine W.widen (k := 0) (n := 0) (by omega) (by omega) ?_
        exact W.iret (v := nI 0) hx hb hr (fun t9 ht9 hW9 => ⟨⟨nI 0, (g_24, va_up x 0 (nI 2)), rfl, ⟨RI.num hI0 (hF0.setx (fun (k : Nat) (hk : k = 1 ∨ k = 2 ∨ k = 3) => (fr_26 k (by omega)).trans (rfl)) f_25 rfl) (fun (k : Nat) (hk : (4 ≤ k ∧ k ≤ 11) ∨ k = 16) => (fr_26 k (by omega)).trans (rfl)) (hVO0.same (fun (k : Nat) (hk : 12 ≤ k ∧ k ≤ 19) => (fr_26 k (by omega)).trans (rfl))) (va_up_ne _ _ (by decide)) (va_up_ne _ _ (by decide)) (va_up_ne _ _ (by decide)) (fun _ _ => ⟨rfl, rfl⟩) hBd, (va_up_ne _ _ (by decide)), Or.inr ⟨rfl, Or.inr ⟨by omega, by omega, va_up_self _ _ _⟩⟩⟩, by show va_P (dC, dI) vwCl _ t9.heap; rw [ht9]; exact hP⟩, hS.F ht9⟩) hS.2.2 dX10_part_42
      · have c_23 := mt (k_lt w1 (nI 0)).mpr c_23
        rw [show (nI 0).toInt = 0 from by decide] at c_23
        refine lv_iload_n hx hb dX10_part_21 rfl (lv_at hl 2 rfl) ?_
        refine lv_iconst (v := nI 5) hx hb dX10_part_22 (by decide +kernel) ?_
        refine lv_icmp_le (tgt := 30) hx hb dX10_part_23 (by decide) (fun c_28 => ?_) (fun c_28 => ?_)
        · have c_28 := (k_le w1 (nI 5)).mp c_28
          rw [show (nI 5).toInt = 5 from by decide] at c_28
          refine lv_iconst (v := nI 0) hx hb dX10_part_30 (by decide +kernel) ?_
          refine m_put (D := (dC, dI)) (v := .int (nI 0)) (tv := .int) (C := RX10) (T := TX10) (N := 29) hx hb hts bk0 tyX10 tyX10_ok nmX10 hown hK hP hD hS 0 (by decide) r_3 rfl 0 (by decide) (hts (.fieldLink RX10 78 "GradientDeskModel" "thrown" "I") (List.mem_of_getElem? (i := 1) rfl)) (fun _ h9 => h9) rfl (by decide +kernel) rfl rfl (Nat.le_of_ble_eq_true rfl) dX10_part_31 (fun H locs g_29 f_30 fr_31 hP hS => ?_)
          have f_30 : g_29 0 = .inr (13, Rob ad (va_up x 0 (nI 0))) := f_30
          refine lv_aload_n hx hb dX10_part_34 rfl (lv_at hl 0 rfl) ?_
          refine m_get (D := (dC, dI)) (v := .int (nI 0)) (C := RX10) (T := TX10) (N := 29) hx hb hts bk0 hown hK hP 0 (by decide) f_30 rfl 0 (by decide) (hts (.fieldLink RX10 78 "GradientDeskModel" "thrown" "I") (List.mem_of_getElem? (i := 1) rfl)) (fun _ h9 => h9) (congrArg (fun z => some (Value.int z)) (show (va_up x 0 (nI 0)) 0 = (nI 0) from rfl)) dX10_part_35 ?_
          refine lv_if_le (tgt := 43) hx hb dX10_part_38 (by decide) (fun c_32 => ?_) (fun c_32 => absurd c_32 (by decide))
          obtain ⟨kn, hkn, ekn, -⟩ := k_nat (x := v) (by omega)
          subst hkn
          obtain ⟨fn, hfn, efn, -⟩ := k_nat (x := w1) (by omega)
          subst hfn
          obtain ⟨m0, m1, m2, m3, m4, m5, m6⟩ := hM kn (by omega)
          refine lv_iload_n hx hb dX10_part_43 rfl (lv_at hl 2 rfl) ?_
          refine lv_if_ne (tgt := 56) hx hb dX10_part_44 (by decide) (fun c_33 => ?_) (fun c_33 => ?_)
          · have c_33 := mt (nI_eq (a := fn) (b := 0) (by omega) (by decide)).mpr c_33
            refine lv_iload_n hx hb dX10_part_56 rfl (lv_at hl 2 rfl) ?_
            refine lv_iconst (v := nI 1) hx hb dX10_part_57 (by decide +kernel) ?_
            refine lv_icmp_ne (tgt := 70) hx hb dX10_part_58 (by decide) (fun c_34 => ?_) (fun c_34 => ?_)
            · have c_34 := mt (nI_eq (a := fn) (b := 1) (by omega) (by decide)).mpr c_34
              refine lv_iload_n hx hb dX10_part_70 rfl (lv_at hl 2 rfl) ?_
              refine lv_iconst (v := nI 2) hx hb dX10_part_71 (by decide +kernel) ?_
              refine lv_icmp_ne (tgt := 84) hx hb dX10_part_72 (by decide) (fun c_35 => ?_) (fun c_35 => ?_)
              · have c_35 := mt (nI_eq (a := fn) (b := 2) (by omega) (by decide)).mpr c_35
                refine lv_iload_n hx hb dX10_part_84 rfl (lv_at hl 2 rfl) ?_
                refine lv_iconst (v := nI 3) hx hb dX10_part_85 (by decide +kernel) ?_
                refine lv_icmp_ne (tgt := 98) hx hb dX10_part_86 (by decide) (fun c_36 => ?_) (fun c_36 => ?_)
                · have c_36 := mt (nI_eq (a := fn) (b := 3) (by omega) (by decide)).mpr c_36
                  refine lv_iload_n hx hb dX10_part_98 rfl (lv_at hl 2 rfl) ?_
                  refine lv_iconst (v := nI 4) hx hb dX10_part_99 (by decide +kernel) ?_
                  refine lv_icmp_ne (tgt := 112) hx hb dX10_part_100 (by decide) (fun c_37 => ?_) (fun c_37 => ?_)
                  · have c_37 := mt (nI_eq (a := fn) (b := 4) (by omega) (by decide)).mpr c_37
                    refine lv_aload_n hx hb dX10_part_112 rfl (lv_at hl 0 rfl) ?_
                    refine m_get (D := (dC, dI)) (v := .ref (ad 10)) (C := RX10) (T := TX10) (N := 29) hx hb hts bk0 hown hK hP 0 (by decide) f_30 rfl 12 (by decide) (hts (.fieldLink RX10 44 "GradientDeskModel" "sizeD" "[I") (List.mem_of_getElem? (i := 3) rfl)) (fun _ h9 => h9) rfl dX10_part_113 ?_
                    refine lv_iload_n hx hb dX10_part_116 rfl (lv_at hl 1 rfl) ?_
                    have f_38 : g_29 10 = .inl (cA 10, 201, .inl (fun j => iI ((pt 5) j))) := (fr_31 10 (by omega)).trans p_15
                    refine m_iald hx hb hK hP 10 (by decide) rfl f_38 (i := kn) (by omega) (by decide) dX10_part_117 ?_
                    have b_39 := (hpt_16 5) kn
                    refine W.widen (k := 0) (n := 0) (by omega) (by omega) ?_
                    exact W.iret (v := iI ((pt 5) kn)) hx hb hr (fun t9 ht9 hW9 => ⟨⟨iI ((pt 5) kn), (g_29, va_up x 0 (nI 0)), rfl, ⟨RI.num hI0 (hF0.setx (fun (k : Nat) (hk : k = 1 ∨ k = 2 ∨ k = 3) => (fr_31 k (by omega)).trans (rfl)) f_30 rfl) (fun (k : Nat) (hk : (4 ≤ k ∧ k ≤ 11) ∨ k = 16) => (fr_31 k (by omega)).trans (rfl)) (hVO0.same (fun (k : Nat) (hk : 12 ≤ k ∧ k ≤ 19) => (fr_31 k (by omega)).trans (rfl))) (va_up_ne _ _ (by decide)) (va_up_ne _ _ (by decide)) (va_up_ne _ _ (by decide)) (fun _ _ => ⟨rfl, rfl⟩) hBd, (va_up_ne _ _ (by decide)), Or.inl ⟨va_up_self _ _ _, kn, 5, rfl, by omega, (congrArg nI (show fn = 5 by omega)), by decide, congrArg iI (show pt 5 kn = fld (gd L kn) 5 from m5)⟩⟩, by show va_P (dC, dI) vwCl _ t9.heap; rw [ht9]; exact hP⟩, hS.F ht9⟩) hS.2.2 dX10_part_118
                  · have c_37 := (nI_eq (a := fn) (b := 4) (by omega) (by decide)).mp c_37
                    refine lv_aload_n hx hb dX10_part_103 rfl (lv_at hl 0 rfl) ?_
                    refine m_get (D := (dC, dI)) (v := .ref (ad 9)) (C := RX10) (T := TX10) (N := 29) hx hb hts bk0 hown hK hP 0 (by decide) f_30 rfl 11 (by decide) (hts (.fieldLink RX10 41 "GradientDeskModel" "sizeN" "[I") (List.mem_of_getElem? (i := 4) rfl)) (fun _ h9 => h9) rfl dX10_part_104 ?_
                    refine lv_iload_n hx hb dX10_part_107 rfl (lv_at hl 1 rfl) ?_
                    have f_40 : g_29 9 = .inl (cA 9, 201, .inl (fun j => iI ((pt 4) j))) := (fr_31 9 (by omega)).trans p_14
                    refine m_iald hx hb hK hP 9 (by decide) rfl f_40 (i := kn) (by omega) (by decide) dX10_part_108 ?_
                    have b_41 := (hpt_16 4) kn
                    refine lv_goto (tgt := 118) hx hb dX10_part_109 (by decide) ?_
                    refine W.widen (k := 0) (n := 0) (by omega) (by omega) ?_
                    exact W.iret (v := iI ((pt 4) kn)) hx hb hr (fun t9 ht9 hW9 => ⟨⟨iI ((pt 4) kn), (g_29, va_up x 0 (nI 0)), rfl, ⟨RI.num hI0 (hF0.setx (fun (k : Nat) (hk : k = 1 ∨ k = 2 ∨ k = 3) => (fr_31 k (by omega)).trans (rfl)) f_30 rfl) (fun (k : Nat) (hk : (4 ≤ k ∧ k ≤ 11) ∨ k = 16) => (fr_31 k (by omega)).trans (rfl)) (hVO0.same (fun (k : Nat) (hk : 12 ≤ k ∧ k ≤ 19) => (fr_31 k (by omega)).trans (rfl))) (va_up_ne _ _ (by decide)) (va_up_ne _ _ (by decide)) (va_up_ne _ _ (by decide)) (fun _ _ => ⟨rfl, rfl⟩) hBd, (va_up_ne _ _ (by decide)), Or.inl ⟨va_up_self _ _ _, kn, 4, rfl, by omega, (congrArg nI (show fn = 4 by omega)), by decide, congrArg iI (show pt 4 kn = fld (gd L kn) 4 from m4)⟩⟩, by show va_P (dC, dI) vwCl _ t9.heap; rw [ht9]; exact hP⟩, hS.F ht9⟩) hS.2.2 dX10_part_118
                · have c_36 := (nI_eq (a := fn) (b := 3) (by omega) (by decide)).mp c_36
                  refine lv_aload_n hx hb dX10_part_89 rfl (lv_at hl 0 rfl) ?_
                  refine m_get (D := (dC, dI)) (v := .ref (ad 8)) (C := RX10) (T := TX10) (N := 29) hx hb hts bk0 hown hK hP 0 (by decide) f_30 rfl 10 (by decide) (hts (.fieldLink RX10 38 "GradientDeskModel" "degree" "[I") (List.mem_of_getElem? (i := 5) rfl)) (fun _ h9 => h9) rfl dX10_part_90 ?_
                  refine lv_iload_n hx hb dX10_part_93 rfl (lv_at hl 1 rfl) ?_
                  have f_42 : g_29 8 = .inl (cA 8, 201, .inl (fun j => iI ((pt 3) j))) := (fr_31 8 (by omega)).trans p_13
                  refine m_iald hx hb hK hP 8 (by decide) rfl f_42 (i := kn) (by omega) (by decide) dX10_part_94 ?_
                  have b_43 := (hpt_16 3) kn
                  refine lv_goto (tgt := 118) hx hb dX10_part_95 (by decide) ?_
                  refine W.widen (k := 0) (n := 0) (by omega) (by omega) ?_
                  exact W.iret (v := iI ((pt 3) kn)) hx hb hr (fun t9 ht9 hW9 => ⟨⟨iI ((pt 3) kn), (g_29, va_up x 0 (nI 0)), rfl, ⟨RI.num hI0 (hF0.setx (fun (k : Nat) (hk : k = 1 ∨ k = 2 ∨ k = 3) => (fr_31 k (by omega)).trans (rfl)) f_30 rfl) (fun (k : Nat) (hk : (4 ≤ k ∧ k ≤ 11) ∨ k = 16) => (fr_31 k (by omega)).trans (rfl)) (hVO0.same (fun (k : Nat) (hk : 12 ≤ k ∧ k ≤ 19) => (fr_31 k (by omega)).trans (rfl))) (va_up_ne _ _ (by decide)) (va_up_ne _ _ (by decide)) (va_up_ne _ _ (by decide)) (fun _ _ => ⟨rfl, rfl⟩) hBd, (va_up_ne _ _ (by decide)), Or.inl ⟨va_up_self _ _ _, kn, 3, rfl, by omega, (congrArg nI (show fn = 3 by omega)), by decide, congrArg iI (show pt 3 kn = fld (gd L kn) 3 from m3)⟩⟩, by show va_P (dC, dI) vwCl _ t9.heap; rw [ht9]; exact hP⟩, hS.F ht9⟩) hS.2.2 dX10_part_118
              · have c_35 := (nI_eq (a := fn) (b := 2) (by omega) (by decide)).mp c_35
                refine lv_aload_n hx hb dX10_part_75 rfl (lv_at hl 0 rfl) ?_
                refine m_get (D := (dC, dI)) (v := .ref (ad 7)) (C := RX10) (T := TX10) (N := 29) hx hb hts bk0 hown hK hP 0 (by decide) f_30 rfl 9 (by decide) (hts (.fieldLink RX10 35 "GradientDeskModel" "second" "[I") (List.mem_of_getElem? (i := 6) rfl)) (fun _ h9 => h9) rfl dX10_part_76 ?_
                refine lv_iload_n hx hb dX10_part_79 rfl (lv_at hl 1 rfl) ?_
                have f_44 : g_29 7 = .inl (cA 7, 201, .inl (fun j => iI ((pt 2) j))) := (fr_31 7 (by omega)).trans p_12
                refine m_iald hx hb hK hP 7 (by decide) rfl f_44 (i := kn) (by omega) (by decide) dX10_part_80 ?_
                have b_45 := (hpt_16 2) kn
                refine lv_goto (tgt := 118) hx hb dX10_part_81 (by decide) ?_
                refine W.widen (k := 0) (n := 0) (by omega) (by omega) ?_
                exact W.iret (v := iI ((pt 2) kn)) hx hb hr (fun t9 ht9 hW9 => ⟨⟨iI ((pt 2) kn), (g_29, va_up x 0 (nI 0)), rfl, ⟨RI.num hI0 (hF0.setx (fun (k : Nat) (hk : k = 1 ∨ k = 2 ∨ k = 3) => (fr_31 k (by omega)).trans (rfl)) f_30 rfl) (fun (k : Nat) (hk : (4 ≤ k ∧ k ≤ 11) ∨ k = 16) => (fr_31 k (by omega)).trans (rfl)) (hVO0.same (fun (k : Nat) (hk : 12 ≤ k ∧ k ≤ 19) => (fr_31 k (by omega)).trans (rfl))) (va_up_ne _ _ (by decide)) (va_up_ne _ _ (by decide)) (va_up_ne _ _ (by decide)) (fun _ _ => ⟨rfl, rfl⟩) hBd, (va_up_ne _ _ (by decide)), Or.inl ⟨va_up_self _ _ _, kn, 2, rfl, by omega, (congrArg nI (show fn = 2 by omega)), by decide, congrArg iI (show pt 2 kn = fld (gd L kn) 2 from m2)⟩⟩, by show va_P (dC, dI) vwCl _ t9.heap; rw [ht9]; exact hP⟩, hS.F ht9⟩) hS.2.2 dX10_part_118
            · have c_34 := (nI_eq (a := fn) (b := 1) (by omega) (by decide)).mp c_34
              refine lv_aload_n hx hb dX10_part_61 rfl (lv_at hl 0 rfl) ?_
              refine m_get (D := (dC, dI)) (v := .ref (ad 6)) (C := RX10) (T := TX10) (N := 29) hx hb hts bk0 hown hK hP 0 (by decide) f_30 rfl 8 (by decide) (hts (.fieldLink RX10 32 "GradientDeskModel" "first" "[I") (List.mem_of_getElem? (i := 7) rfl)) (fun _ h9 => h9) rfl dX10_part_62 ?_
              refine lv_iload_n hx hb dX10_part_65 rfl (lv_at hl 1 rfl) ?_
              have f_46 : g_29 6 = .inl (cA 6, 201, .inl (fun j => iI ((pt 1) j))) := (fr_31 6 (by omega)).trans p_11
              refine m_iald hx hb hK hP 6 (by decide) rfl f_46 (i := kn) (by omega) (by decide) dX10_part_66 ?_
              have b_47 := (hpt_16 1) kn
              refine lv_goto (tgt := 118) hx hb dX10_part_67 (by decide) ?_
              refine W.widen (k := 0) (n := 0) (by omega) (by omega) ?_
              exact W.iret (v := iI ((pt 1) kn)) hx hb hr (fun t9 ht9 hW9 => ⟨⟨iI ((pt 1) kn), (g_29, va_up x 0 (nI 0)), rfl, ⟨RI.num hI0 (hF0.setx (fun (k : Nat) (hk : k = 1 ∨ k = 2 ∨ k = 3) => (fr_31 k (by omega)).trans (rfl)) f_30 rfl) (fun (k : Nat) (hk : (4 ≤ k ∧ k ≤ 11) ∨ k = 16) => (fr_31 k (by omega)).trans (rfl)) (hVO0.same (fun (k : Nat) (hk : 12 ≤ k ∧ k ≤ 19) => (fr_31 k (by omega)).trans (rfl))) (va_up_ne _ _ (by decide)) (va_up_ne _ _ (by decide)) (va_up_ne _ _ (by decide)) (fun _ _ => ⟨rfl, rfl⟩) hBd, (va_up_ne _ _ (by decide)), Or.inl ⟨va_up_self _ _ _, kn, 1, rfl, by omega, (congrArg nI (show fn = 1 by omega)), by decide, congrArg iI (show pt 1 kn = fld (gd L kn) 1 from m1)⟩⟩, by show va_P (dC, dI) vwCl _ t9.heap; rw [ht9]; exact hP⟩, hS.F ht9⟩) hS.2.2 dX10_part_118
          · have c_33 := (nI_eq (a := fn) (b := 0) (by omega) (by decide)).mp c_33
            refine lv_aload_n hx hb dX10_part_47 rfl (lv_at hl 0 rfl) ?_
            refine m_get (D := (dC, dI)) (v := .ref (ad 5)) (C := RX10) (T := TX10) (N := 29) hx hb hts bk0 hown hK hP 0 (by decide) f_30 rfl 7 (by decide) (hts (.fieldLink RX10 29 "GradientDeskModel" "sort" "[I") (List.mem_of_getElem? (i := 8) rfl)) (fun _ h9 => h9) rfl dX10_part_48 ?_
            refine lv_iload_n hx hb dX10_part_51 rfl (lv_at hl 1 rfl) ?_
            have f_48 : g_29 5 = .inl (cA 5, 201, .inl (fun j => iI ((pt 0) j))) := (fr_31 5 (by omega)).trans p_10
            refine m_iald hx hb hK hP 5 (by decide) rfl f_48 (i := kn) (by omega) (by decide) dX10_part_52 ?_
            have b_49 := (hpt_16 0) kn
            refine lv_goto (tgt := 118) hx hb dX10_part_53 (by decide) ?_
            refine W.widen (k := 0) (n := 0) (by omega) (by omega) ?_
            exact W.iret (v := iI ((pt 0) kn)) hx hb hr (fun t9 ht9 hW9 => ⟨⟨iI ((pt 0) kn), (g_29, va_up x 0 (nI 0)), rfl, ⟨RI.num hI0 (hF0.setx (fun (k : Nat) (hk : k = 1 ∨ k = 2 ∨ k = 3) => (fr_31 k (by omega)).trans (rfl)) f_30 rfl) (fun (k : Nat) (hk : (4 ≤ k ∧ k ≤ 11) ∨ k = 16) => (fr_31 k (by omega)).trans (rfl)) (hVO0.same (fun (k : Nat) (hk : 12 ≤ k ∧ k ≤ 19) => (fr_31 k (by omega)).trans (rfl))) (va_up_ne _ _ (by decide)) (va_up_ne _ _ (by decide)) (va_up_ne _ _ (by decide)) (fun _ _ => ⟨rfl, rfl⟩) hBd, (va_up_ne _ _ (by decide)), Or.inl ⟨va_up_self _ _ _, kn, 0, rfl, by omega, (congrArg nI (show fn = 0 by omega)), by decide, congrArg iI (show pt 0 kn = fld (gd L kn) 0 from m0)⟩⟩, by show va_P (dC, dI) vwCl _ t9.heap; rw [ht9]; exact hP⟩, hS.F ht9⟩) hS.2.2 dX10_part_118
        · have c_28 := mt (k_le w1 (nI 5)).mpr c_28
          rw [show (nI 5).toInt = 5 from by decide] at c_28
          refine lv_iconst (v := nI 2) hx hb dX10_part_26 (by decide +kernel) ?_
          refine lv_goto (tgt := 31) hx hb dX10_part_27 (by decide) ?_
          refine m_put (D := (dC, dI)) (v := .int (nI 2)) (tv := .int) (C := RX10) (T := TX10) (N := 29) hx hb hts bk0 tyX10 tyX10_ok nmX10 hown hK hP hD hS 0 (by decide) r_3 rfl 0 (by decide) (hts (.fieldLink RX10 78 "GradientDeskModel" "thrown" "I") (List.mem_of_getElem? (i := 1) rfl)) (fun _ h9 => h9) rfl (by decide +kernel) rfl rfl (Nat.le_of_ble_eq_true rfl) dX10_part_31 (fun H locs g_50 f_51 fr_52 hP hS => ?_)
          have f_51 : g_50 0 = .inr (13, Rob ad (va_up x 0 (nI 2))) := f_51
          refine lv_aload_n hx hb dX10_part_34 rfl (lv_at hl 0 rfl) ?_
          refine m_get (D := (dC, dI)) (v := .int (nI 2)) (C := RX10) (T := TX10) (N := 29) hx hb hts bk0 hown hK hP 0 (by decide) f_51 rfl 0 (by decide) (hts (.fieldLink RX10 78 "GradientDeskModel" "thrown" "I") (List.mem_of_getElem? (i := 1) rfl)) (fun _ h9 => h9) (congrArg (fun z => some (Value.int z)) (show (va_up x 0 (nI 2)) 0 = (nI 2) from rfl)) dX10_part_35 ?_
          refine lv_if_le (tgt := 43) hx hb dX10_part_38 (by decide) (fun c_53 => absurd c_53 (by decide)) (fun c_53 => ?_)
          refine lv_iconst (v := nI 0) hx hb dX10_part_41 (by decide +kernel) ?_
          refine W.widen (k := 0) (n := 0) (by omega) (by omega) ?_
          exact W.iret (v := nI 0) hx hb hr (fun t9 ht9 hW9 => ⟨⟨nI 0, (g_50, va_up x 0 (nI 2)), rfl, ⟨RI.num hI0 (hF0.setx (fun (k : Nat) (hk : k = 1 ∨ k = 2 ∨ k = 3) => (fr_52 k (by omega)).trans (rfl)) f_51 rfl) (fun (k : Nat) (hk : (4 ≤ k ∧ k ≤ 11) ∨ k = 16) => (fr_52 k (by omega)).trans (rfl)) (hVO0.same (fun (k : Nat) (hk : 12 ≤ k ∧ k ≤ 19) => (fr_52 k (by omega)).trans (rfl))) (va_up_ne _ _ (by decide)) (va_up_ne _ _ (by decide)) (va_up_ne _ _ (by decide)) (fun _ _ => ⟨rfl, rfl⟩) hBd, (va_up_ne _ _ (by decide)), Or.inr ⟨rfl, Or.inr ⟨by omega, by omega, va_up_self _ _ _⟩⟩⟩, by show va_P (dC, dI) vwCl _ t9.heap; rw [ht9]; exact hP⟩, hS.F ht9⟩) hS.2.2 dX10_part_42
    · have c_22 := mt (k_lt v (nI L.length)).mpr c_22
      rw [nI_toInt (show L.length < 2 ^ 31 by omega)] at c_22
      refine lv_iconst (v := nI 1) hx hb dX10_part_13 (by decide +kernel) ?_
      refine lv_goto (tgt := 31) hx hb dX10_part_14 (by decide) ?_
      refine m_put (D := (dC, dI)) (v := .int (nI 1)) (tv := .int) (C := RX10) (T := TX10) (N := 29) hx hb hts bk0 tyX10 tyX10_ok nmX10 hown hK hP hD hS 0 (by decide) r_3 rfl 0 (by decide) (hts (.fieldLink RX10 78 "GradientDeskModel" "thrown" "I") (List.mem_of_getElem? (i := 1) rfl)) (fun _ h9 => h9) rfl (by decide +kernel) rfl rfl (Nat.le_of_ble_eq_true rfl) dX10_part_31 (fun H locs g_54 f_55 fr_56 hP hS => ?_)
      have f_55 : g_54 0 = .inr (13, Rob ad (va_up x 0 (nI 1))) := f_55
      refine lv_aload_n hx hb dX10_part_34 rfl (lv_at hl 0 rfl) ?_
      refine m_get (D := (dC, dI)) (v := .int (nI 1)) (C := RX10) (T := TX10) (N := 29) hx hb hts bk0 hown hK hP 0 (by decide) f_55 rfl 0 (by decide) (hts (.fieldLink RX10 78 "GradientDeskModel" "thrown" "I") (List.mem_of_getElem? (i := 1) rfl)) (fun _ h9 => h9) (congrArg (fun z => some (Value.int z)) (show (va_up x 0 (nI 1)) 0 = (nI 1) from rfl)) dX10_part_35 ?_
      refine lv_if_le (tgt := 43) hx hb dX10_part_38 (by decide) (fun c_57 => absurd c_57 (by decide)) (fun c_57 => ?_)
      refine lv_iconst (v := nI 0) hx hb dX10_part_41 (by decide +kernel) ?_
      refine W.widen (k := 0) (n := 0) (by omega) (by omega) ?_
      exact W.iret (v := nI 0) hx hb hr (fun t9 ht9 hW9 => ⟨⟨nI 0, (g_54, va_up x 0 (nI 1)), rfl, ⟨RI.num hI0 (hF0.setx (fun (k : Nat) (hk : k = 1 ∨ k = 2 ∨ k = 3) => (fr_56 k (by omega)).trans (rfl)) f_55 rfl) (fun (k : Nat) (hk : (4 ≤ k ∧ k ≤ 11) ∨ k = 16) => (fr_56 k (by omega)).trans (rfl)) (hVO0.same (fun (k : Nat) (hk : 12 ≤ k ∧ k ≤ 19) => (fr_56 k (by omega)).trans (rfl))) (va_up_ne _ _ (by decide)) (va_up_ne _ _ (by decide)) (va_up_ne _ _ (by decide)) (fun _ _ => ⟨rfl, rfl⟩) hBd, (va_up_ne _ _ (by decide)), Or.inr ⟨rfl, Or.inl ⟨by omega, va_up_self _ _ _⟩⟩⟩, by show va_P (dC, dI) vwCl _ t9.heap; rw [ht9]; exact hP⟩, hS.F ht9⟩) hS.2.2 dX10_part_42
def wd_X10_number : List Cond := .code yX10_number cX10_number 4 (some .boolean) :: (([.fieldLink RX10 78 "GradientDeskModel" "thrown" "I", .fieldLink RX10 149 "GradientDeskModel" "made" "I", .methodLink RX10 266 yX10_noResult, .instanceMethod yX10_noResult, .selects RX10 yX10_noResult yX10_noResult, .initialized RX10, .fieldLink RX10 29 "GradientDeskModel" "sort" "[I", .methodLink RX10 139 yX10_setFraction, .instanceMethod yX10_setFraction, .selects RX10 yX10_setFraction yX10_setFraction, .methodLink RX10 136 yX10_copyFraction, .instanceMethod yX10_copyFraction, .selects RX10 yX10_copyFraction yX10_copyFraction] : List Cond) ++ (u_ws RX10 TX10 29 ++ (wd_X10_noResult ++ (wd_X10_setFraction ++ (wd_X10_copyFraction ++ ([]))))))
theorem gw_X10_number : wd_X10_number.all goodWord = true := k_allc rfl (k_all (by decide +kernel) (k_all (gu_X10) (k_all (gw_X10_noResult) (k_all (gw_X10_setFraction) (k_all (gw_X10_copyFraction) (rfl))))))
set_option maxHeartbeats 4000000 in
set_option maxRecDepth 100000 in
theorem c_X10_number (l : Launch) (dC : Nat → ClassId) (dI : Nat → Nat → Nat) (A : Nat → Prop) (ad : Nat → Nat) (cA : Nat → ClassId) (g : Nat → va_E) (x : Nat → Int32) (L : List PD) (nm : Nat → Int) (tx : Nat → Nat) (ty : Nat) (wr : List Int) (v : Int32) (w1 : Int32) (hI : RIE ad cA g x L nm tx ty wr) : Met l yX10_number wd_X10_number ({ frames := 70, cells := 0, slots := 0, locals := 1400 }) (va_Pc [.ref (ad 0), .int v, .int w1] (PR NSr tyr dC dI A ad cA g)) (va_Qi (fun (r : Int32) => fun (u : (Nat → va_E) × (Nat → Int32)) => match u with | (g2, x2) => RIE ad cA g2 x2 L nm tx ty wr ∧ x2 2 = x 2 ∧ ((¬ (0 ≤ v.toInt ∧ v.toInt < L.length ∧ 0 ≤ w1.toInt ∧ w1.toInt ≤ 7) ∧ r = nI 0 ∧ x2 0 = nI 1) ∨ (x2 0 = nI 0 ∧ ∃ kn rn : Nat, v = nI kn ∧ kn < L.length ∧ w1 = nI rn ∧ rn ≤ 7 ∧ r = nI (if (gd L kn).1 = 0 then 1 else 0)))) (fun (u : (Nat → va_E) × (Nat → Int32)) (t : State) => va_P (dC, dI) vwCl (wo ad NSr u.1) t.heap) A) (0) (0) A := by
  refine Met.ofW (cc := cX10_number) (maxL := 4) (ret := (some .boolean)) (by decide) rfl ?_
  intro p e s m args below meth c s₁ B hml hv
  obtain ⟨rfl, hA, hP, hL⟩ := hv
  have hx := B.exec
  have hb := B.bytes
  have hr := B.returns
  have hts := atoms_spec (ws := wd_X10_number) B.pre
  have hown : s.vm.findClass RX10 = some m.cls := findClass_of_methodNamed B.named
  have hlocks := B.notSynchronized
  have hK := hL.1
  have hD : ∀ g, va_D A (wo ad NSr g) := fun g => wo_D hL.2.1 hL.2.2 g
  have hS : va_S A s.heap s.heap [] := va_S.rf
  have bk0 : ∀ w ∈ u_ws RX10 TX10 29, w ∈ wd_X10_number := fun _ h => List.mem_cons_of_mem _ (List.mem_append_right _ (List.mem_append_left _ h))
  have bk1 : ∀ w ∈ wd_X10_noResult, w ∈ wd_X10_number := fun _ h => List.mem_cons_of_mem _ (List.mem_append_right _ (List.mem_append_right _ (List.mem_append_left _ h)))
  have bk2 : ∀ w ∈ wd_X10_setFraction, w ∈ wd_X10_number := fun _ h => List.mem_cons_of_mem _ (List.mem_append_right _ (List.mem_append_right _ (List.mem_append_right _ (List.mem_append_left _ h))))
  have bk3 : ∀ w ∈ wd_X10_copyFraction, w ∈ wd_X10_number := fun _ h => List.mem_cons_of_mem _ (List.mem_append_right _ (List.mem_append_right _ (List.mem_append_right _ (List.mem_append_right _ (List.mem_append_left _ h)))))
  have hl := lv_entry ([.ref (ad 0), .int v, .int w1]) (n := 4) (Nat.le_of_ble_eq_true rfl)
  rw [lg_entry_eq]
  generalize (lg_sl ([.ref (ad 0), .int v, .int w1]) ++ List.replicate (4 - (lg_sl ([.ref (ad 0), .int v, .int w1])).length) Slot.unset).toArray = ls at hl ⊢
  have hl : lv_has ls 4 [(0, .ref (ad 0)), (1, .int v), (2, .int w1)] := hl
  obtain ⟨pf, qf, pt, hI0⟩ := hI
  have hI1 := hI0
  obtain ⟨hF, hPt, hM, hW, hL2, hmd, hTx, hty, hty2, hwr, hwr2, hVO, hBd⟩ := hI1
  have hVO0 := hVO
  have hPt0 := hPt
  have hTx0 := hTx
  have hF0 := hF
  obtain ⟨vf, hV, hq⟩ := hF
  have hc_1 := hV
  obtain ⟨pnz_2, lnz_2, bnz_2, hRz_2, hvz_2⟩ := hc_1
  obtain ⟨r_3, r_4, r_5, r_6, r_7, r_8, r_9⟩ := hRz_2
  obtain ⟨p_10, p_11, p_12, p_13, p_14, p_15, hpt_16⟩ := hPt
  obtain ⟨t4, t4b, t11, t11b, t11c⟩ := hTx
  obtain ⟨⟨rc, v12, v12b⟩, ⟨f13, v13⟩, ⟨f14, v14⟩, ⟨f15, v15⟩, ⟨f16, v16⟩, ⟨f17, v17⟩, ⟨f18, v18⟩, ⟨f19, v19⟩⟩ := hVO
  refine lv_aload_n hx hb dX10_number_0 rfl (lv_at hl 0 rfl) ?_
  refine lv_iload_n hx hb dX10_number_1 rfl (lv_at hl 1 rfl) ?_
  refine lv_if_lt (tgt := 21) hx hb dX10_number_2 (by decide) (fun c_17 => ?_) (fun c_17 => ?_)
  · have c_17 := (k_lt v (nI 0)).mp c_17
    rw [show (nI 0).toInt = 0 from by decide] at c_17
    refine lv_iconst (v := nI 1) hx hb dX10_number_21 (by decide +kernel) ?_
    refine lv_goto (tgt := 26) hx hb dX10_number_22 (by decide) ?_
    refine m_put (D := (dC, dI)) (v := .int (nI 1)) (tv := .int) (C := RX10) (T := TX10) (N := 29) hx hb hts bk0 tyX10 tyX10_ok nmX10 hown hK hP hD hS 0 (by decide) r_3 rfl 0 (by decide) (hts (.fieldLink RX10 78 "GradientDeskModel" "thrown" "I") (List.mem_of_getElem? (i := 1) rfl)) (fun _ h9 => h9) rfl (by decide +kernel) rfl rfl (Nat.le_of_ble_eq_true rfl) dX10_number_26 (fun H locs g_18 f_19 fr_20 hP hS => ?_)
    have f_19 : g_18 0 = .inr (13, Rob ad (va_up x 0 (nI 1))) := f_19
    refine lv_aload_n hx hb dX10_number_29 rfl (lv_at hl 0 rfl) ?_
    refine m_get (D := (dC, dI)) (v := .int (nI 1)) (C := RX10) (T := TX10) (N := 29) hx hb hts bk0 hown hK hP 0 (by decide) f_19 rfl 0 (by decide) (hts (.fieldLink RX10 78 "GradientDeskModel" "thrown" "I") (List.mem_of_getElem? (i := 1) rfl)) (fun _ h9 => h9) (congrArg (fun z => some (Value.int z)) (show (va_up x 0 (nI 1)) 0 = (nI 1) from rfl)) dX10_number_30 ?_
    refine lv_if_le (tgt := 38) hx hb dX10_number_33 (by decide) (fun c_21 => absurd c_21 (by decide)) (fun c_21 => ?_)
    refine lv_iconst (v := nI 0) hx hb dX10_number_36 (by decide +kernel) ?_
    refine W.widen (k := 0) (n := 0) (by omega) (by omega) ?_
    exact W.zret (v := nI 0) hx hb hr (by decide +kernel) (fun t9 ht9 hW9 => ⟨⟨nI 0, (g_18, va_up x 0 (nI 1)), rfl, ⟨RI.num hI0 (hF0.setx (fun (k : Nat) (hk : k = 1 ∨ k = 2 ∨ k = 3) => (fr_20 k (by omega)).trans (rfl)) f_19 rfl) (fun (k : Nat) (hk : (4 ≤ k ∧ k ≤ 11) ∨ k = 16) => (fr_20 k (by omega)).trans (rfl)) (hVO0.same (fun (k : Nat) (hk : 12 ≤ k ∧ k ≤ 19) => (fr_20 k (by omega)).trans (rfl))) (va_up_ne _ _ (by decide)) (va_up_ne _ _ (by decide)) (va_up_ne _ _ (by decide)) (fun _ _ => ⟨rfl, rfl⟩) hBd, (va_up_ne _ _ (by decide)), Or.inl ⟨by omega, rfl, va_up_self _ _ _⟩⟩, by show va_P (dC, dI) vwCl _ t9.heap; rw [ht9]; exact hP⟩, hS.F ht9⟩) hS.2.2 dX10_number_37
  · have c_17 := mt (k_lt v (nI 0)).mpr c_17
    rw [show (nI 0).toInt = 0 from by decide] at c_17
    refine lv_iload_n hx hb dX10_number_5 rfl (lv_at hl 1 rfl) ?_
    refine lv_aload_n hx hb dX10_number_6 rfl (lv_at hl 0 rfl) ?_
    refine m_get (D := (dC, dI)) (v := .int (nI L.length)) (C := RX10) (T := TX10) (N := 29) hx hb hts bk0 hown hK hP 0 (by decide) r_3 rfl 13 (by decide) (hts (.fieldLink RX10 149 "GradientDeskModel" "made" "I") (List.mem_of_getElem? (i := 2) rfl)) (fun _ h9 => h9) (congrArg (fun z => some (Value.int z)) hmd) dX10_number_7 ?_
    refine lv_icmp_ge (tgt := 21) hx hb dX10_number_10 (by decide) (fun c_22 => ?_) (fun c_22 => ?_)
    · have c_22 := (k_le (nI L.length) v).mp c_22
      rw [nI_toInt (show L.length < 2 ^ 31 by omega)] at c_22
      refine lv_iconst (v := nI 1) hx hb dX10_number_21 (by decide +kernel) ?_
      refine lv_goto (tgt := 26) hx hb dX10_number_22 (by decide) ?_
      refine m_put (D := (dC, dI)) (v := .int (nI 1)) (tv := .int) (C := RX10) (T := TX10) (N := 29) hx hb hts bk0 tyX10 tyX10_ok nmX10 hown hK hP hD hS 0 (by decide) r_3 rfl 0 (by decide) (hts (.fieldLink RX10 78 "GradientDeskModel" "thrown" "I") (List.mem_of_getElem? (i := 1) rfl)) (fun _ h9 => h9) rfl (by decide +kernel) rfl rfl (Nat.le_of_ble_eq_true rfl) dX10_number_26 (fun H locs g_23 f_24 fr_25 hP hS => ?_)
      have f_24 : g_23 0 = .inr (13, Rob ad (va_up x 0 (nI 1))) := f_24
      refine lv_aload_n hx hb dX10_number_29 rfl (lv_at hl 0 rfl) ?_
      refine m_get (D := (dC, dI)) (v := .int (nI 1)) (C := RX10) (T := TX10) (N := 29) hx hb hts bk0 hown hK hP 0 (by decide) f_24 rfl 0 (by decide) (hts (.fieldLink RX10 78 "GradientDeskModel" "thrown" "I") (List.mem_of_getElem? (i := 1) rfl)) (fun _ h9 => h9) (congrArg (fun z => some (Value.int z)) (show (va_up x 0 (nI 1)) 0 = (nI 1) from rfl)) dX10_number_30 ?_
      refine lv_if_le (tgt := 38) hx hb dX10_number_33 (by decide) (fun c_26 => absurd c_26 (by decide)) (fun c_26 => ?_)
      refine lv_iconst (v := nI 0) hx hb dX10_number_36 (by decide +kernel) ?_
      refine W.widen (k := 0) (n := 0) (by omega) (by omega) ?_
      exact W.zret (v := nI 0) hx hb hr (by decide +kernel) (fun t9 ht9 hW9 => ⟨⟨nI 0, (g_23, va_up x 0 (nI 1)), rfl, ⟨RI.num hI0 (hF0.setx (fun (k : Nat) (hk : k = 1 ∨ k = 2 ∨ k = 3) => (fr_25 k (by omega)).trans (rfl)) f_24 rfl) (fun (k : Nat) (hk : (4 ≤ k ∧ k ≤ 11) ∨ k = 16) => (fr_25 k (by omega)).trans (rfl)) (hVO0.same (fun (k : Nat) (hk : 12 ≤ k ∧ k ≤ 19) => (fr_25 k (by omega)).trans (rfl))) (va_up_ne _ _ (by decide)) (va_up_ne _ _ (by decide)) (va_up_ne _ _ (by decide)) (fun _ _ => ⟨rfl, rfl⟩) hBd, (va_up_ne _ _ (by decide)), Or.inl ⟨by omega, rfl, va_up_self _ _ _⟩⟩, by show va_P (dC, dI) vwCl _ t9.heap; rw [ht9]; exact hP⟩, hS.F ht9⟩) hS.2.2 dX10_number_37
    · have c_22 := mt (k_le (nI L.length) v).mpr c_22
      rw [nI_toInt (show L.length < 2 ^ 31 by omega)] at c_22
      refine lv_aload_n hx hb dX10_number_13 rfl (lv_at hl 0 rfl) ?_
      refine lv_iload_n hx hb dX10_number_14 rfl (lv_at hl 2 rfl) ?_
      refine va_calli (va_runV (As := [.int w1]) (rest := [.ref (ad 0)]) ⟨hx, hb, hml, hown, hts⟩ (c_X10_noResult l dC dI A ad cA g w1 ) (cwV 1 hts (goodIn_app (goodIn_r [Cond.methodLink RX10 266 yX10_noResult, Cond.instanceMethod yX10_noResult, Cond.selects RX10 yX10_noResult yX10_noResult, Cond.initialized RX10] [3, 4, 5, 6] rfl rfl) (goodIn_sub (fun w9 h9 => bk1 w9 h9) gw_X10_noResult)) rfl rfl rfl (by decide +kernel) ⟨Nat.le_of_ble_eq_true rfl, Nat.le_of_ble_eq_true rfl⟩) ⟨fun a U g mk q => ⟨q.1, q.2.1, q.2.2.1, LY.moved (u := U) (U := U.calling g mk a) (Vm.Alike.refl U.vm) q.2.2.2⟩, va_recv hK hP (ci := 13) (q0 := 0) rfl (wo_at (by decide) r_3), fun U hU hW => ⟨rfl, by rw [hU]; exact fun q h => hA q (Nat.le_trans hS.1 h), by rw [hU]; exact hP, LY.moved hW.alike hL⟩⟩ rfl rfl hl.1 rfl (lv_room (Nat.le_of_ble_eq_true rfl)) dX10_number_15 ⟨(Nat.le_of_ble_eq_true rfl), (Nat.le_of_ble_eq_true rfl)⟩) hS (fun q _ h => h) (fun q h => h) (fun r_27 u8 t8 H1 locs ht8 hvm8 hw_28 hB hz1 hk1 hS => ?_)
      obtain ⟨⟩ := u8
      try dsimp only at hw_28 hB
      rw [ht8] at hB
      have hP := hB
      generalize H1 = H at hP hS ⊢
      rcases hw_28 with ⟨rfl, hnr⟩ | ⟨rfl, hnr⟩
      · skip
        refine lv_if_eq (tgt := 25) hx hb dX10_number_18 (by decide) (fun c_29 => ?_) (fun c_29 => absurd c_29 (by decide))
        refine lv_iconst (v := nI 0) hx hb dX10_number_25 (by decide +kernel) ?_
        refine m_put (D := (dC, dI)) (v := .int (nI 0)) (tv := .int) (C := RX10) (T := TX10) (N := 29) hx hb hts bk0 tyX10 tyX10_ok nmX10 hown hK hP hD hS 0 (by decide) r_3 rfl 0 (by decide) (hts (.fieldLink RX10 78 "GradientDeskModel" "thrown" "I") (List.mem_of_getElem? (i := 1) rfl)) (fun _ h9 => h9) rfl (by decide +kernel) rfl rfl (Nat.le_of_ble_eq_true rfl) dX10_number_26 (fun H locs g_30 f_31 fr_32 hP hS => ?_)
        have f_31 : g_30 0 = .inr (13, Rob ad (va_up x 0 (nI 0))) := f_31
        refine lv_aload_n hx hb dX10_number_29 rfl (lv_at hl 0 rfl) ?_
        refine m_get (D := (dC, dI)) (v := .int (nI 0)) (C := RX10) (T := TX10) (N := 29) hx hb hts bk0 hown hK hP 0 (by decide) f_31 rfl 0 (by decide) (hts (.fieldLink RX10 78 "GradientDeskModel" "thrown" "I") (List.mem_of_getElem? (i := 1) rfl)) (fun _ h9 => h9) (congrArg (fun z => some (Value.int z)) (show (va_up x 0 (nI 0)) 0 = (nI 0) from rfl)) dX10_number_30 ?_
        refine lv_if_le (tgt := 38) hx hb dX10_number_33 (by decide) (fun c_33 => ?_) (fun c_33 => absurd c_33 (by decide))
        obtain ⟨kn, hkn, ekn, -⟩ := k_nat (x := v) (by omega)
        subst hkn
        obtain ⟨rn, hrn, ern, -⟩ := k_nat (x := w1) (by omega)
        subst hrn
        obtain ⟨m0, -, -, -, -, -, m6⟩ := hM kn (by omega)
        refine lv_aload_n hx hb dX10_number_38 rfl (lv_at hl 0 rfl) ?_
        refine m_get (D := (dC, dI)) (v := .ref (ad 5)) (C := RX10) (T := TX10) (N := 29) hx hb hts bk0 hown hK hP 0 (by decide) f_31 rfl 7 (by decide) (hts (.fieldLink RX10 29 "GradientDeskModel" "sort" "[I") (List.mem_of_getElem? (i := 7) rfl)) (fun _ h9 => h9) rfl dX10_number_39 ?_
        refine lv_iload_n hx hb dX10_number_42 rfl (lv_at hl 1 rfl) ?_
        have f_34 : g_30 5 = .inl (cA 5, 201, .inl (fun j => iI ((pt 0) j))) := (fr_32 5 (by omega)).trans p_10
        refine m_iald hx hb hK hP 5 (by decide) rfl f_34 (i := kn) (by omega) (by decide) dX10_number_43 ?_
        have b_35 := (hpt_16 0) kn
        refine lv_if_ne (tgt := 51) hx hb dX10_number_44 (by decide) (fun c_36 => ?_) (fun c_36 => ?_)
        · have c_36 := mt (k_iEQ (a := (pt 0) kn) (b := 0) rfl (show nI 0 = iI 0 from by decide) (by omega) (by omega)).mpr c_36
          refine lv_iconst (v := nI 0) hx hb dX10_number_51 (by decide +kernel) ?_
          refine lv_istore_n (lv' := [(3, .int (nI 0)), (0, .ref (ad 0)), (1, .int (nI kn)), (2, .int (nI rn))]) hx hb dX10_number_52 rfl hl (by decide) rfl (fun ls hl => ?_)
          refine lv_iload_n hx hb dX10_number_53 rfl (lv_at hl 0 rfl) ?_
          refine lv_if_eq (tgt := 70) hx hb dX10_number_54 (by decide) (fun c_37 => ?_) (fun c_37 => absurd c_37 (by decide))
          refine lv_aload_n hx hb dX10_number_70 rfl (lv_at hl 1 rfl) ?_
          refine lv_sipush (v := nI 1000) hx hb dX10_number_71 (by decide +kernel) ?_
          refine lv_iload_n hx hb dX10_number_74 rfl (lv_at hl 3 rfl) ?_
          refine lv_iadd hx hb dX10_number_75 ?_
          refine lv_topi (fun x_38 e_39 => ?_)
          obtain rfl : x_38 = nI (1000 + rn) := e_39.trans (nI_add 1000 rn)
          refine lv_lconst (v := lN 0) hx hb dX10_number_76 (by decide +kernel) ?_
          refine lv_lconst (v := lN 1) hx hb dX10_number_77 (by decide +kernel) ?_
          have hF1 : RF ad cA g_30 (va_up x 0 (nI 0)) pf qf := hF0.setx (fun (k : Nat) (hk : k = 1 ∨ k = 2 ∨ k = 3) => (fr_32 k (by omega)).trans (rfl)) f_31 rfl
          refine va_callv (va_runV (As := [.int (nI (1000 + rn)), .long (lN 0), .long (lN 1)]) (rest := []) ⟨hx, hb, hml, hown, hts⟩ (c_X10_setFraction l dC dI A ad cA g_30 (va_up x 0 (nI 0)) pf qf (1000 + rn) (lN 0) (lN 1) 0 1 hF1 (by omega) (by decide) (by decide) (by decide) (by decide) (by decide)) (cwV 3 hts (goodIn_app (goodIn_r [Cond.methodLink RX10 139 yX10_setFraction, Cond.instanceMethod yX10_setFraction, Cond.selects RX10 yX10_setFraction yX10_setFraction, Cond.initialized RX10] [8, 9, 10, 6] rfl rfl) (goodIn_sub (fun w9 h9 => bk2 w9 h9) gw_X10_setFraction)) rfl rfl rfl (by decide +kernel) ⟨Nat.le_of_ble_eq_true rfl, Nat.le_of_ble_eq_true rfl⟩) ⟨fun a U g mk q => ⟨q.1, q.2.1, q.2.2.1, LY.moved (u := U) (U := U.calling g mk a) (Vm.Alike.refl U.vm) q.2.2.2⟩, va_recv hK hP (ci := 13) (q0 := 0) rfl (wo_at (by decide) f_31), fun U hU hW => ⟨rfl, by rw [hU]; exact fun q h => hA q (Nat.le_trans hS.1 h), by rw [hU]; exact hP, LY.moved hW.alike hL⟩⟩ rfl rfl hl.1 rfl (lv_room (Nat.le_of_ble_eq_true rfl)) dX10_number_78 ⟨(Nat.le_of_ble_eq_true rfl), (Nat.le_of_ble_eq_true rfl)⟩) hS (fun q _ h => h) (fun q h => h) (fun u8 t8 H1 locs ht8 hvm8 hw_40 hB hz1 hk1 hS => ?_)
          obtain ⟨g_41, rfl⟩ : ∃ z, z = u8 := ⟨_, rfl⟩
          try dsimp only at hw_40 hB
          rw [ht8] at hB
          have hP := hB
          generalize H1 = H at hP hS ⊢
          obtain ⟨fr_42, hF2⟩ := hw_40
          rw [(rdp_1 0).1, (rdp_1 0).2] at hF2
          refine lv_iload_n hx hb dX10_number_81 rfl (lv_at hl 0 rfl) ?_
          have hrp : (0 : Int).natAbs < 2 ^ 1000 ∧ 1 < 2 ^ 1000 := ⟨Nat.two_pow_pos 1000, Nat.one_lt_two_pow (by decide)⟩
          refine W.widen (k := 0) (n := 0) (by omega) (by omega) ?_
          exact W.zret (v := nI 0) hx hb hr (by decide +kernel) (fun t9 ht9 hW9 => ⟨⟨nI 0, (g_41, va_up x 0 (nI 0)), rfl, ⟨RI.num hI0 hF2 (fun (k : Nat) (hk : (4 ≤ k ∧ k ≤ 11) ∨ k = 16) => (fr_42 k (by omega)).trans ((fr_32 k (by omega)).trans (rfl))) (hVO0.same (fun (k : Nat) (hk : 12 ≤ k ∧ k ≤ 19) => (fr_42 k (by omega)).trans ((fr_32 k (by omega)).trans (rfl)))) (va_up_ne _ _ (by decide)) (va_up_ne _ _ (by decide)) (va_up_ne _ _ (by decide)) (fun f hf => ⟨va_up_ne _ _ (by omega), va_up_ne _ _ (by omega)⟩) (hBd.res (fun r9 h9 => by by_cases h8 : r9 = rn; subst h8; exact Or.inr (by rw [va_up_self, va_up_self]; exact hrp); exact Or.inl ⟨va_up_ne _ _ (by omega), va_up_ne _ _ (by omega)⟩) (fun v9 h9 => Or.inl ⟨va_up_ne _ _ (by omega), va_up_ne _ _ (by omega)⟩)), (va_up_ne _ _ (by decide)), Or.inr ⟨va_up_self _ _ _, kn, rn, rfl, by omega, rfl, by omega, by rw [if_neg (by omega)]⟩⟩, by show va_P (dC, dI) vwCl _ t9.heap; rw [ht9]; exact hP⟩, hS.F ht9⟩) hS.2.2 dX10_number_82
        · have c_36 := (k_iEQ (a := (pt 0) kn) (b := 0) rfl (show nI 0 = iI 0 from by decide) (by omega) (by omega)).mp c_36
          refine lv_iconst (v := nI 1) hx hb dX10_number_47 (by decide +kernel) ?_
          refine lv_goto (tgt := 52) hx hb dX10_number_48 (by decide) ?_
          refine lv_istore_n (lv' := [(3, .int (nI 1)), (0, .ref (ad 0)), (1, .int (nI kn)), (2, .int (nI rn))]) hx hb dX10_number_52 rfl hl (by decide) rfl (fun ls hl => ?_)
          refine lv_iload_n hx hb dX10_number_53 rfl (lv_at hl 0 rfl) ?_
          refine lv_if_eq (tgt := 70) hx hb dX10_number_54 (by decide) (fun c_43 => absurd c_43 (by decide)) (fun c_43 => ?_)
          refine lv_aload_n hx hb dX10_number_57 rfl (lv_at hl 1 rfl) ?_
          refine lv_sipush (v := nI 1000) hx hb dX10_number_58 (by decide +kernel) ?_
          refine lv_iload_n hx hb dX10_number_61 rfl (lv_at hl 3 rfl) ?_
          refine lv_iadd hx hb dX10_number_62 ?_
          refine lv_topi (fun x_44 e_45 => ?_)
          obtain rfl : x_44 = nI (1000 + rn) := e_45.trans (nI_add 1000 rn)
          refine lv_iload_n hx hb dX10_number_63 rfl (lv_at hl 2 rfl) ?_
          have hF1 : RF ad cA g_30 (va_up x 0 (nI 0)) pf qf := hF0.setx (fun (k : Nat) (hk : k = 1 ∨ k = 2 ∨ k = 3) => (fr_32 k (by omega)).trans (rfl)) f_31 rfl
          have hs0 : (gd L kn).1 = 0 := by omega
          refine va_callv (va_runV (As := [.int (nI (1000 + rn)), .int (nI kn)]) (rest := []) ⟨hx, hb, hml, hown, hts⟩ (c_X10_copyFraction l dC dI A ad cA g_30 (va_up x 0 (nI 0)) pf qf (1000 + rn) kn hF1 (by omega) (by omega)) (cwV 2 hts (goodIn_app (goodIn_r [Cond.methodLink RX10 136 yX10_copyFraction, Cond.instanceMethod yX10_copyFraction, Cond.selects RX10 yX10_copyFraction yX10_copyFraction, Cond.initialized RX10] [11, 12, 13, 6] rfl rfl) (goodIn_sub (fun w9 h9 => bk3 w9 h9) gw_X10_copyFraction)) rfl rfl rfl (by decide +kernel) ⟨Nat.le_of_ble_eq_true rfl, Nat.le_of_ble_eq_true rfl⟩) ⟨fun a U g mk q => ⟨q.1, q.2.1, q.2.2.1, LY.moved (u := U) (U := U.calling g mk a) (Vm.Alike.refl U.vm) q.2.2.2⟩, va_recv hK hP (ci := 13) (q0 := 0) rfl (wo_at (by decide) f_31), fun U hU hW => ⟨rfl, by rw [hU]; exact fun q h => hA q (Nat.le_trans hS.1 h), by rw [hU]; exact hP, LY.moved hW.alike hL⟩⟩ rfl rfl hl.1 rfl (lv_room (Nat.le_of_ble_eq_true rfl)) dX10_number_64 ⟨(Nat.le_of_ble_eq_true rfl), (Nat.le_of_ble_eq_true rfl)⟩) hS (fun q _ h => h) (fun q h => h) (fun u8 t8 H1 locs ht8 hvm8 hw_46 hB hz1 hk1 hS => ?_)
          obtain ⟨g_47, rfl⟩ : ∃ z, z = u8 := ⟨_, rfl⟩
          try dsimp only at hw_46 hB
          rw [ht8] at hB
          have hP := hB
          generalize H1 = H at hP hS ⊢
          obtain ⟨fr_48, hF2⟩ := hw_46
          refine lv_goto (tgt := 81) hx hb dX10_number_67 (by decide) ?_
          refine lv_iload_n hx hb dX10_number_81 rfl (lv_at hl 0 rfl) ?_
          have hrp := wf_num hW (by omega) hs0 (m6 hs0).1 (m6 hs0).2
          refine W.widen (k := 0) (n := 0) (by omega) (by omega) ?_
          exact W.zret (v := nI 1) hx hb hr (by decide +kernel) (fun t9 ht9 hW9 => ⟨⟨nI 1, (g_47, va_up x 0 (nI 0)), rfl, ⟨RI.num hI0 hF2 (fun (k : Nat) (hk : (4 ≤ k ∧ k ≤ 11) ∨ k = 16) => (fr_48 k (by omega)).trans ((fr_32 k (by omega)).trans (rfl))) (hVO0.same (fun (k : Nat) (hk : 12 ≤ k ∧ k ≤ 19) => (fr_48 k (by omega)).trans ((fr_32 k (by omega)).trans (rfl)))) (va_up_ne _ _ (by decide)) (va_up_ne _ _ (by decide)) (va_up_ne _ _ (by decide)) (fun f hf => ⟨va_up_ne _ _ (by omega), va_up_ne _ _ (by omega)⟩) (hBd.res (fun r9 h9 => by by_cases h8 : r9 = rn; subst h8; exact Or.inr (by rw [va_up_self, va_up_self]; exact hrp); exact Or.inl ⟨va_up_ne _ _ (by omega), va_up_ne _ _ (by omega)⟩) (fun v9 h9 => Or.inl ⟨va_up_ne _ _ (by omega), va_up_ne _ _ (by omega)⟩)), (va_up_ne _ _ (by decide)), Or.inr ⟨va_up_self _ _ _, kn, rn, rfl, by omega, rfl, by omega, by rw [if_pos (by omega)]⟩⟩, by show va_P (dC, dI) vwCl _ t9.heap; rw [ht9]; exact hP⟩, hS.F ht9⟩) hS.2.2 dX10_number_82
      · skip
        refine lv_if_eq (tgt := 25) hx hb dX10_number_18 (by decide) (fun c_49 => absurd c_49 (by decide)) (fun c_49 => ?_)
        refine lv_iconst (v := nI 1) hx hb dX10_number_21 (by decide +kernel) ?_
        refine lv_goto (tgt := 26) hx hb dX10_number_22 (by decide) ?_
        refine m_put (D := (dC, dI)) (v := .int (nI 1)) (tv := .int) (C := RX10) (T := TX10) (N := 29) hx hb hts bk0 tyX10 tyX10_ok nmX10 hown hK hP hD hS 0 (by decide) r_3 rfl 0 (by decide) (hts (.fieldLink RX10 78 "GradientDeskModel" "thrown" "I") (List.mem_of_getElem? (i := 1) rfl)) (fun _ h9 => h9) rfl (by decide +kernel) rfl rfl (Nat.le_of_ble_eq_true rfl) dX10_number_26 (fun H locs g_50 f_51 fr_52 hP hS => ?_)
        have f_51 : g_50 0 = .inr (13, Rob ad (va_up x 0 (nI 1))) := f_51
        refine lv_aload_n hx hb dX10_number_29 rfl (lv_at hl 0 rfl) ?_
        refine m_get (D := (dC, dI)) (v := .int (nI 1)) (C := RX10) (T := TX10) (N := 29) hx hb hts bk0 hown hK hP 0 (by decide) f_51 rfl 0 (by decide) (hts (.fieldLink RX10 78 "GradientDeskModel" "thrown" "I") (List.mem_of_getElem? (i := 1) rfl)) (fun _ h9 => h9) (congrArg (fun z => some (Value.int z)) (show (va_up x 0 (nI 1)) 0 = (nI 1) from rfl)) dX10_number_30 ?_
        refine lv_if_le (tgt := 38) hx hb dX10_number_33 (by decide) (fun c_53 => absurd c_53 (by decide)) (fun c_53 => ?_)
        refine lv_iconst (v := nI 0) hx hb dX10_number_36 (by decide +kernel) ?_
        refine W.widen (k := 0) (n := 0) (by omega) (by omega) ?_
        exact W.zret (v := nI 0) hx hb hr (by decide +kernel) (fun t9 ht9 hW9 => ⟨⟨nI 0, (g_50, va_up x 0 (nI 1)), rfl, ⟨RI.num hI0 (hF0.setx (fun (k : Nat) (hk : k = 1 ∨ k = 2 ∨ k = 3) => (fr_52 k (by omega)).trans (rfl)) f_51 rfl) (fun (k : Nat) (hk : (4 ≤ k ∧ k ≤ 11) ∨ k = 16) => (fr_52 k (by omega)).trans (rfl)) (hVO0.same (fun (k : Nat) (hk : 12 ≤ k ∧ k ≤ 19) => (fr_52 k (by omega)).trans (rfl))) (va_up_ne _ _ (by decide)) (va_up_ne _ _ (by decide)) (va_up_ne _ _ (by decide)) (fun _ _ => ⟨rfl, rfl⟩) hBd, (va_up_ne _ _ (by decide)), Or.inl ⟨by omega, rfl, va_up_self _ _ _⟩⟩, by show va_P (dC, dI) vwCl _ t9.heap; rw [ht9]; exact hP⟩, hS.F ht9⟩) hS.2.2 dX10_number_37
end
section
def wd_X10_clear : List Cond := .code yX10_clear cX10_clear 2 none :: (([.fieldLink RX10 78 "GradientDeskModel" "thrown" "I", .fieldLink RX10 149 "GradientDeskModel" "made" "I", .fieldLink RX10 47 "GradientDeskModel" "names" "[I"] : List Cond) ++ (u_ws RX10 TX10 29 ++ ([])))
theorem gw_X10_clear : wd_X10_clear.all goodWord = true := k_allc rfl (k_all (by decide +kernel) (k_all (gu_X10) (rfl)))
set_option maxHeartbeats 4000000 in
set_option maxRecDepth 100000 in
theorem c_X10_clear (l : Launch) (dC : Nat → ClassId) (dI : Nat → Nat → Nat) (A : Nat → Prop) (ad : Nat → Nat) (cA : Nat → ClassId) (g : Nat → va_E) (x : Nat → Int32) (L : List PD) (nm : Nat → Int) (tx : Nat → Nat) (ty : Nat) (wr : List Int) (hI : RIE ad cA g x L nm tx ty wr) : Met l yX10_clear wd_X10_clear ({ frames := 10, cells := 0, slots := 0, locals := 200 }) (va_Pc [.ref (ad 0)] (PR NSr tyr dC dI A ad cA g)) (va_Qv (fun (u : (Nat → va_E) × (Nat → Int32) × (Nat → Int)) => match u with | (g2, x2, nm2) => RIE ad cA g2 x2 [] nm2 tx ty wr ∧ x2 2 = x 2 ∧ x2 0 = nI 0 ∧ ∀ j, j < 8 → nm2 j = -1) (fun (u : (Nat → va_E) × (Nat → Int32) × (Nat → Int)) (t : State) => va_P (dC, dI) vwCl (wo ad NSr u.1) t.heap) A) (0) (0) A := by
  refine Met.ofW (cc := cX10_clear) (maxL := 2) (ret := none) (by decide) rfl ?_
  intro p e s m args below meth c s₁ B hml hv
  obtain ⟨rfl, hA, hP, hL⟩ := hv
  have hx := B.exec
  have hb := B.bytes
  have hr := B.returns
  have hts := atoms_spec (ws := wd_X10_clear) B.pre
  have hown : s.vm.findClass RX10 = some m.cls := findClass_of_methodNamed B.named
  have hlocks := B.notSynchronized
  have hK := hL.1
  have hD : ∀ g, va_D A (wo ad NSr g) := fun g => wo_D hL.2.1 hL.2.2 g
  have hS : va_S A s.heap s.heap [] := va_S.rf
  have bk0 : ∀ w ∈ u_ws RX10 TX10 29, w ∈ wd_X10_clear := fun _ h => List.mem_cons_of_mem _ (List.mem_append_right _ (List.mem_append_left _ h))
  have hl := lv_entry ([.ref (ad 0)]) (n := 2) (Nat.le_of_ble_eq_true rfl)
  rw [lg_entry_eq]
  generalize (lg_sl ([.ref (ad 0)]) ++ List.replicate (2 - (lg_sl ([.ref (ad 0)])).length) Slot.unset).toArray = ls at hl ⊢
  have hl : lv_has ls 2 [(0, .ref (ad 0))] := hl
  obtain ⟨pf, qf, pt, hI0⟩ := hI
  have hI1 := hI0
  obtain ⟨hF, hPt, hM, hW, hL2, hmd, hTx, hty, hty2, hwr, hwr2, hVO, hBd⟩ := hI1
  have hVO0 := hVO
  have hPt0 := hPt
  have hTx0 := hTx
  have hF0 := hF
  obtain ⟨vf, hV, hq⟩ := hF
  have hc_1 := hV
  obtain ⟨pnz_2, lnz_2, bnz_2, hRz_2, hvz_2⟩ := hc_1
  obtain ⟨r_3, r_4, r_5, r_6, r_7, r_8, r_9⟩ := hRz_2
  obtain ⟨p_10, p_11, p_12, p_13, p_14, p_15, hpt_16⟩ := hPt
  obtain ⟨t4, t4b, t11, t11b, t11c⟩ := hTx
  obtain ⟨⟨rc, v12, v12b⟩, ⟨f13, v13⟩, ⟨f14, v14⟩, ⟨f15, v15⟩, ⟨f16, v16⟩, ⟨f17, v17⟩, ⟨f18, v18⟩, ⟨f19, v19⟩⟩ := hVO
  refine lv_aload_n hx hb dX10_clear_0 rfl (lv_at hl 0 rfl) ?_
  refine lv_iconst (v := nI 0) hx hb dX10_clear_1 (by decide +kernel) ?_
  refine m_put (D := (dC, dI)) (v := .int (nI 0)) (tv := .int) (C := RX10) (T := TX10) (N := 29) hx hb hts bk0 tyX10 tyX10_ok nmX10 hown hK hP hD hS 0 (by decide) r_3 rfl 0 (by decide) (hts (.fieldLink RX10 78 "GradientDeskModel" "thrown" "I") (List.mem_of_getElem? (i := 1) rfl)) (fun _ h9 => h9) rfl (by decide +kernel) rfl rfl (Nat.le_of_ble_eq_true rfl) dX10_clear_2 (fun H locs g_17 f_18 fr_19 hP hS => ?_)
  have f_18 : g_17 0 = .inr (13, Rob ad (va_up x 0 (nI 0))) := f_18
  refine lv_aload_n hx hb dX10_clear_5 rfl (lv_at hl 0 rfl) ?_
  refine lv_iconst (v := nI 0) hx hb dX10_clear_6 (by decide +kernel) ?_
  refine m_put (D := (dC, dI)) (v := .int (nI 0)) (tv := .int) (C := RX10) (T := TX10) (N := 29) hx hb hts bk0 tyX10 tyX10_ok nmX10 hown hK hP hD hS 0 (by decide) f_18 rfl 13 (by decide) (hts (.fieldLink RX10 149 "GradientDeskModel" "made" "I") (List.mem_of_getElem? (i := 2) rfl)) (fun _ h9 => h9) rfl (by decide +kernel) rfl rfl (Nat.le_of_ble_eq_true rfl) dX10_clear_7 (fun H locs g_20 f_21 fr_22 hP hS => ?_)
  have f_21 : g_20 0 = .inr (13, Rob ad (va_up (va_up x 0 (nI 0)) 3 (nI 0))) := f_21
  refine lv_iconst (v := nI 0) hx hb dX10_clear_10 (by decide +kernel) ?_
  refine lv_istore_n (lv' := [(1, .int (nI 0)), (0, .ref (ad 0))]) hx hb dX10_clear_11 rfl hl (by decide) rfl (fun ls hl => ?_)
  have loop_23 : ∀ (k9 : Nat) (i : Nat) (n1 : Nat → Int) (g_25 : Nat → va_E) (fr_26 : ∀ k, (k ≠ 11) → g_25 k = g_20 k), 8 - i < k9 → (i ≤ 8) → (∀ j, -1 ≤ n1 j ∧ n1 j ≤ 200) → (∀ j, j < i → n1 j = -1) → (g_25 11 = .inl (cA 11, 8, .inl (fun j => iI (n1 j)))) → ∀ (H : Heap) (locs : List Loc) (ls : Array Slot), va_P (dC, dI) vwCl (wo ad NSr g_25) H → va_S A s.heap H locs → lv_has ls 2 [(0, .ref (ad 0)), (1, .int (nI i))] → W p l e (headSpec wd_X10_clear ({ frames := 10, cells := 0, slots := 0, locals := 200 })).room s m ([.ref (ad 0)] : List Value).toArray below meth c H locs (0) (0) (MQ below (va_Qv (fun (u : (Nat → va_E) × (Nat → Int32) × (Nat → Int)) => match u with | (g2, x2, nm2) => RIE ad cA g2 x2 [] nm2 tx ty wr ∧ x2 2 = x 2 ∧ x2 0 = nI 0 ∧ ∀ j, j < 8 → nm2 j = -1) (fun (u : (Nat → va_E) × (Nat → Int32) × (Nat → Int)) (t : State) => va_P (dC, dI) vwCl (wo ad NSr u.1) t.heap) A) ([.ref (ad 0)] : List Value).toArray s (0) (0) A) (F0 m 12 ls []) := by
    intro k9
    induction k9 with
    | zero => intro i n1 g_25 fr_26 h9; exact absurd h9 (Nat.not_lt_zero _)
    | succ k9 ih_24 =>
      intro i n1 g_25 fr_26 h9 hi hb1 hs f_27 H locs ls hP hS hl
      refine lv_iload_n hx hb dX10_clear_12 rfl (lv_at hl 1 rfl) ?_
      refine lv_bipush (v := nI 8) hx hb dX10_clear_13 (by decide +kernel) ?_
      refine lv_icmp_ge (tgt := 31) hx hb dX10_clear_15 (by decide) (fun c_28 => ?_) (fun c_28 => ?_)
      · have c_28 := (nI_leI (a := 8) (b := i) (by decide) (by omega)).mp c_28
        have f_29 : g_25 0 = .inr (13, Rob ad (va_up (va_up x 0 (nI 0)) 3 (nI 0))) := (fr_26 0 (by omega)).trans f_21
        have f_30 : g_25 4 = .inl (cA 4, 64, .inl (fun j => nI (tx j))) := (fr_26 4 (by omega)).trans ((fr_22 4 (by omega)).trans ((fr_19 4 (by omega)).trans t4))
        refine W.widen (k := 0) (n := 0) (by omega) (by omega) ?_
        exact W.vret hx hb hr (fun t9 ht9 hW9 => ⟨⟨(g_25, va_up (va_up x 0 (nI 0)) 3 (nI 0), n1), rfl, ⟨⟨pf, qf, pt, hF0.setx (fun (k : Nat) (hk : k = 1 ∨ k = 2 ∨ k = 3) => (fr_26 k (by omega)).trans ((fr_22 k (by omega)).trans ((fr_19 k (by omega)).trans (rfl)))) f_29 rfl, hPt0.same (fun (k : Nat) (hk : 5 ≤ k ∧ k ≤ 10) => (fr_26 k (by omega)).trans ((fr_22 k (by omega)).trans ((fr_19 k (by omega)).trans (rfl)))), MT.nil, WFL.nil, by decide, va_up_self _ _ _, ⟨f_30, t4b, f_27, hb1, fun j hj => by rw [hs j (by omega)]; decide⟩, (va_up_ne _ _ (by decide)).trans ((va_up_ne _ _ (by decide)).trans hty), hty2, (va_up_ne _ _ (by decide)).trans ((va_up_ne _ _ (by decide)).trans hwr), ⟨hwr2.1, hwr2.2.same ((fun (k : Nat) (hk : k = 16) => (fr_26 k (by omega)).trans ((fr_22 k (by omega)).trans ((fr_19 k (by omega)).trans (rfl)))) 16 rfl)⟩, hVO0.same (fun (k : Nat) (hk : 12 ≤ k ∧ k ≤ 19) => (fr_26 k (by omega)).trans ((fr_22 k (by omega)).trans ((fr_19 k (by omega)).trans (rfl)))), hBd⟩, (va_up_ne _ _ (by decide)).trans (va_up_ne _ _ (by decide)), (va_up_ne _ _ (by decide)).trans (va_up_self _ _ _), fun j hj => hs j (by omega)⟩, by show va_P (dC, dI) vwCl _ t9.heap; rw [ht9]; exact hP⟩, hS.F ht9⟩) hS.2.2 dX10_clear_31
      · have c_28 := mt (nI_leI (a := 8) (b := i) (by decide) (by omega)).mpr c_28
        refine lv_aload_n hx hb dX10_clear_18 rfl (lv_at hl 0 rfl) ?_
        have f_31 : g_25 0 = .inr (13, Rob ad (va_up (va_up x 0 (nI 0)) 3 (nI 0))) := (fr_26 0 (by omega)).trans f_21
        refine m_get (D := (dC, dI)) (v := .ref (ad 11)) (C := RX10) (T := TX10) (N := 29) hx hb hts bk0 hown hK hP 0 (by decide) f_31 rfl 15 (by decide) (hts (.fieldLink RX10 47 "GradientDeskModel" "names" "[I") (List.mem_of_getElem? (i := 3) rfl)) (fun _ h9 => h9) rfl dX10_clear_19 ?_
        refine lv_iload_n hx hb dX10_clear_22 rfl (lv_at hl 1 rfl) ?_
        refine lv_iconst (v := -1) hx hb dX10_clear_23 (by decide +kernel) ?_
        refine m_iast hx hb hK hP hD hS 11 (by decide) rfl f_27 (i := i) (x := -1) (by omega) (by decide) dX10_clear_24 (fun H locs g_32 f_33 fr_34 hP hS => ?_)
        rw [(show (-1 : Int32) = iI (-1) from by decide), k_updZ] at f_33
        have b_35 : ∀ j, -1 ≤ (va_up n1 i (-1)) j ∧ (va_up n1 i (-1)) j ≤ 200 := k_up_in hb1 (by omega)
        have f_33 : g_32 11 = .inl (cA 11, 8, .inl (fun j => iI ((va_up n1 i (-1)) j))) := f_33
        refine lv_iinc (v := nI (i + 1)) (lv' := [(1, .int (nI (i + 1))), (0, .ref (ad 0))]) hx hb dX10_clear_25 hl (k := 1) rfl (nI_add i 1) (by decide) rfl (fun ls hl => ?_)
        refine lv_goto (tgt := 12) hx hb dX10_clear_28 (by decide) ?_
        exact ih_24 (i + 1) (va_up n1 i (-1)) g_32 (fun (k : Nat) (hk : k ≠ 11) => (fr_34 k (by omega)).trans ((fr_26 k (by omega)).trans (rfl))) (by omega) (by omega) b_35 (fun j hj => by by_cases h9 : j = i; rw [h9, va_up_self]; rw [va_up_ne _ _ h9]; exact hs j (by omega)) f_33 _ _ _ hP hS (lv_sub (l' := [(0, .ref (ad 0)), (1, .int (nI (i + 1)))]) hl [1, 0] rfl)
  have f_38 : g_20 11 = .inl (cA 11, 8, .inl (fun j => iI (nm j))) := (fr_22 11 (by omega)).trans ((fr_19 11 (by omega)).trans t11)
  exact loop_23 _ 0 nm g_20 (fun (k : Nat) (hk : k ≠ 11) => rfl) (Nat.lt_succ_self _) (by omega) t11b (fun j h => absurd h (by omega)) f_38 _ _ _ hP hS (lv_sub (l' := [(0, .ref (ad 0)), (1, .int (nI 0))]) hl [1, 0] rfl)
def wd_X10_parts : List Cond := .code yX10_parts cX10_parts 4 (some .int) :: (([.methodLink RX10 263 yX10_noName, .instanceMethod yX10_noName, .selects RX10 yX10_noName yX10_noName, .initialized RX10, .fieldLink RX10 47 "GradientDeskModel" "names" "[I", .methodLink RX10 257 yX10_reach, .instanceMethod yX10_reach, .selects RX10 yX10_reach yX10_reach, .fieldLink RX10 50 "GradientDeskModel" "reached" "[Z"] : List Cond) ++ (wd_X10_noName ++ (u_ws RX10 TX10 29 ++ (wd_X10_reach ++ ([])))))
theorem gw_X10_parts : wd_X10_parts.all goodWord = true := k_allc rfl (k_all (by decide +kernel) (k_all (gw_X10_noName) (k_all (gu_X10) (k_all (gw_X10_reach) (rfl)))))
set_option maxHeartbeats 4000000 in
set_option maxRecDepth 100000 in
theorem c_X10_parts (l : Launch) (dC : Nat → ClassId) (dI : Nat → Nat → Nat) (A : Nat → Prop) (ad : Nat → Nat) (cA : Nat → ClassId) (g : Nat → va_E) (x : Nat → Int32) (L : List PD) (nm : Nat → Int) (tx : Nat → Nat) (ty : Nat) (wr : List Int) (v : Int32) (hI : RIE ad cA g x L nm tx ty wr) : Met l yX10_parts wd_X10_parts ({ frames := 20, cells := 0, slots := 0, locals := 400 }) (va_Pc [.ref (ad 0), .int v] (PR NSr tyr dC dI A ad cA g)) (va_Qi (fun (r : Int32) => fun (u : (Nat → va_E) × (Nat → Int32)) => match u with | (g2, x2) => RIE ad cA g2 x2 L nm tx ty wr ∧ x2 2 = x 2 ∧ ((x2 0 = nI 0 ∧ ∃ vn, v = nI vn ∧ vn ≤ 7 ∧ 0 ≤ nm vn ∧ r = nI (cntB (rchN L (nm vn).toNat ((nm vn).toNat + 1)) 200)) ∨ (r = nI 0 ∧ ((¬ (0 ≤ v.toInt ∧ v.toInt ≤ 7) ∧ x2 0 = nI 1) ∨ (∃ a9 : Nat, v = nI a9 ∧ a9 ≤ 7 ∧ nm a9 < 0 ∧ x2 0 = nI 2))))) (fun (u : (Nat → va_E) × (Nat → Int32)) (t : State) => va_P (dC, dI) vwCl (wo ad NSr u.1) t.heap) A) (0) (0) A := by
  refine Met.ofW (cc := cX10_parts) (maxL := 4) (ret := (some .int)) (by decide) rfl ?_
  intro p e s m args below meth c s₁ B hml hv
  obtain ⟨rfl, hA, hP, hL⟩ := hv
  have hx := B.exec
  have hb := B.bytes
  have hr := B.returns
  have hts := atoms_spec (ws := wd_X10_parts) B.pre
  have hown : s.vm.findClass RX10 = some m.cls := findClass_of_methodNamed B.named
  have hlocks := B.notSynchronized
  have hK := hL.1
  have hD : ∀ g, va_D A (wo ad NSr g) := fun g => wo_D hL.2.1 hL.2.2 g
  have hS : va_S A s.heap s.heap [] := va_S.rf
  have bk0 : ∀ w ∈ wd_X10_noName, w ∈ wd_X10_parts := fun _ h => List.mem_cons_of_mem _ (List.mem_append_right _ (List.mem_append_left _ h))
  have bk1 : ∀ w ∈ u_ws RX10 TX10 29, w ∈ wd_X10_parts := fun _ h => List.mem_cons_of_mem _ (List.mem_append_right _ (List.mem_append_right _ (List.mem_append_left _ h)))
  have bk2 : ∀ w ∈ wd_X10_reach, w ∈ wd_X10_parts := fun _ h => List.mem_cons_of_mem _ (List.mem_append_right _ (List.mem_append_right _ (List.mem_append_right _ (List.mem_append_left _ h))))
  have hl := lv_entry ([.ref (ad 0), .int v]) (n := 4) (Nat.le_of_ble_eq_true rfl)
  rw [lg_entry_eq]
  generalize (lg_sl ([.ref (ad 0), .int v]) ++ List.replicate (4 - (lg_sl ([.ref (ad 0), .int v])).length) Slot.unset).toArray = ls at hl ⊢
  have hl : lv_has ls 4 [(0, .ref (ad 0)), (1, .int v)] := hl
  have hIk := hI
  obtain ⟨pf, qf, pt, hI0⟩ := hIk
  have hF := hI0.1
  have h0o := hF.obj
  obtain ⟨t4, t4b, t11, t11b, t11c⟩ := hI0.2.2.2.2.2.2.1
  refine lv_aload_n hx hb dX10_parts_0 rfl (lv_at hl 0 rfl) ?_
  refine lv_iload_n hx hb dX10_parts_1 rfl (lv_at hl 1 rfl) ?_
  refine va_calli (va_runV (As := [.int v]) (rest := []) ⟨hx, hb, hml, hown, hts⟩ (c_X10_noName l dC dI A ad cA g x L nm tx ty wr v hI) (cwV 1 hts (goodIn_app (goodIn_r [Cond.methodLink RX10 263 yX10_noName, Cond.instanceMethod yX10_noName, Cond.selects RX10 yX10_noName yX10_noName, Cond.initialized RX10] [1, 2, 3, 4] rfl rfl) (goodIn_sub (fun w9 h9 => bk0 w9 h9) gw_X10_noName)) rfl rfl rfl (by decide +kernel) ⟨Nat.le_of_ble_eq_true rfl, Nat.le_of_ble_eq_true rfl⟩) ⟨fun a U g mk q => ⟨q.1, q.2.1, q.2.2.1, LY.moved (u := U) (U := U.calling g mk a) (Vm.Alike.refl U.vm) q.2.2.2⟩, va_recv hK hP (ci := 13) (q0 := 0) rfl (wo_at (by decide) h0o), fun U hU hW => ⟨rfl, by rw [hU]; exact fun q h => hA q (Nat.le_trans hS.1 h), by rw [hU]; exact hP, LY.moved hW.alike hL⟩⟩ rfl rfl hl.1 rfl (lv_room (Nat.le_of_ble_eq_true rfl)) dX10_parts_2 ⟨(Nat.le_of_ble_eq_true rfl), (Nat.le_of_ble_eq_true rfl)⟩) hS (fun q _ h => h) (fun q h => h) (fun r_1 u8 t8 H1 locs ht8 hvm8 hw_2 hB hz1 hk1 hS => ?_)
  obtain ⟨g_3, x2_4⟩ := u8
  try dsimp only at hw_2 hB
  rw [ht8] at hB
  have hP := hB
  generalize H1 = H at hP hS ⊢
  have fr_5 := hw_2
  obtain ⟨hR2, hx22, hcc⟩ := hw_2
  rcases hcc with ⟨rfl, hx20, vn, hvv, hvn, hnv⟩ | ⟨rfl, hx20⟩
  · skip
    rw [hvv] at hl
    obtain ⟨pf2, qf2, pt2, hI2⟩ := hR2
    have hI3 := hI2
    obtain ⟨hF2, hPt2, hM2, hW2, hL22, hmd2, hTx2, hty_2, hty2_2, hwr_2, hwr2_2, hVO2, hBd2⟩ := hI3
    have hVO20 := hVO2
    have hPt20 := hPt2
    have hF20 := hF2
    have hTx20 := hTx2
    obtain ⟨u4, u4b, u11, u11b, u11c⟩ := hTx2
    obtain ⟨⟨rc9, y12, y12b⟩, yy⟩ := hVO2
    have hob2 := hF2.obj
    refine lv_if_eq (tgt := 10) hx hb dX10_parts_5 (by decide) (fun c_6 => ?_) (fun c_6 => absurd c_6 (by decide))
    refine lv_aload_n hx hb dX10_parts_10 rfl (lv_at hl 0 rfl) ?_
    refine lv_aload_n hx hb dX10_parts_11 rfl (lv_at hl 0 rfl) ?_
    refine m_get (D := (dC, dI)) (v := .ref (ad 11)) (C := RX10) (T := TX10) (N := 29) hx hb hts bk1 hown hK hP 0 (by decide) hob2 rfl 15 (by decide) (hts (.fieldLink RX10 47 "GradientDeskModel" "names" "[I") (List.mem_of_getElem? (i := 5) rfl)) (fun _ h9 => h9) rfl dX10_parts_12 ?_
    refine lv_iload_n hx hb dX10_parts_15 rfl (lv_at hl 1 rfl) ?_
    refine m_iald hx hb hK hP 11 (by decide) rfl u11 (i := vn) (by omega) (by decide) dX10_parts_16 ?_
    have b_7 := u11b vn
    obtain ⟨rt, hrt⟩ : ∃ z9 : Nat, nm vn = (z9 : Int) := ⟨(nm vn).toNat, by omega⟩
    have hr9 := t11c vn (by omega)
    rw [hrt, ← nI_iI]
    refine va_callv (va_runV (As := [.int (nI rt)]) (rest := []) ⟨hx, hb, hml, hown, hts⟩ (c_X10_reach l dC dI A ad cA g_3 x2_4 pt2 pf2 qf2 L rc9 rt hob2 hPt20 hM2 hW2 hL22 y12 y12b (by omega)) (cwV 1 hts (goodIn_app (goodIn_r [Cond.methodLink RX10 257 yX10_reach, Cond.instanceMethod yX10_reach, Cond.selects RX10 yX10_reach yX10_reach, Cond.initialized RX10] [6, 7, 8, 4] rfl rfl) (goodIn_sub (fun w9 h9 => bk2 w9 h9) gw_X10_reach)) rfl rfl rfl (by decide +kernel) ⟨Nat.le_of_ble_eq_true rfl, Nat.le_of_ble_eq_true rfl⟩) ⟨fun a U g mk q => ⟨q.1, q.2.1, q.2.2.1, LY.moved (u := U) (U := U.calling g mk a) (Vm.Alike.refl U.vm) q.2.2.2⟩, va_recv hK hP (ci := 13) (q0 := 0) rfl (wo_at (by decide) hob2), fun U hU hW => ⟨rfl, by rw [hU]; exact fun q h => hA q (Nat.le_trans hS.1 h), by rw [hU]; exact hP, LY.moved hW.alike hL⟩⟩ rfl rfl hl.1 rfl (lv_room (Nat.le_of_ble_eq_true rfl)) dX10_parts_17 ⟨(Nat.le_of_ble_eq_true rfl), (Nat.le_of_ble_eq_true rfl)⟩) hS (fun q _ h => h) (fun q h => h) (fun u8 t8 H1 locs ht8 hvm8 hw_8 hB hz1 hk1 hS => ?_)
    obtain ⟨g_9, rc2_10⟩ := u8
    try dsimp only at hw_8 hB
    rw [ht8] at hB
    have hP := hB
    generalize H1 = H at hP hS ⊢
    obtain ⟨fr_11, q12, q12b, q12c⟩ := hw_8
    refine lv_iconst (v := nI 0) hx hb dX10_parts_20 (by decide +kernel) ?_
    refine lv_istore_n (lv' := [(2, .int (nI 0)), (0, .ref (ad 0)), (1, .int (nI vn))]) hx hb dX10_parts_21 rfl hl (by decide) rfl (fun ls hl => ?_)
    refine lv_iconst (v := nI 0) hx hb dX10_parts_22 (by decide +kernel) ?_
    refine lv_istore_n (lv' := [(3, .int (nI 0)), (2, .int (nI 0)), (0, .ref (ad 0)), (1, .int (nI vn))]) hx hb dX10_parts_23 rfl hl (by decide) rfl (fun ls hl => ?_)
    have loop_12 : ∀ (k9 : Nat) (i : Nat) (n : Nat), 200 - i < k9 → (i ≤ 200) → (n ≤ i) → (n = cntB (rchN L rt (rt + 1)) i) → ∀ (H : Heap) (locs : List Loc) (ls : Array Slot), va_P (dC, dI) vwCl (wo ad NSr g_9) H → va_S A s.heap H locs → lv_has ls 4 [(0, .ref (ad 0)), (1, .int (nI vn)), (2, .int (nI n)), (3, .int (nI i))] → W p l e (headSpec wd_X10_parts ({ frames := 20, cells := 0, slots := 0, locals := 400 })).room s m ([.ref (ad 0), .int v] : List Value).toArray below meth c H locs (0) (0) (MQ below (va_Qi (fun (r : Int32) => fun (u : (Nat → va_E) × (Nat → Int32)) => match u with | (g2, x2) => RIE ad cA g2 x2 L nm tx ty wr ∧ x2 2 = x 2 ∧ ((x2 0 = nI 0 ∧ ∃ vn, v = nI vn ∧ vn ≤ 7 ∧ 0 ≤ nm vn ∧ r = nI (cntB (rchN L (nm vn).toNat ((nm vn).toNat + 1)) 200)) ∨ (r = nI 0 ∧ ((¬ (0 ≤ v.toInt ∧ v.toInt ≤ 7) ∧ x2 0 = nI 1) ∨ (∃ a9 : Nat, v = nI a9 ∧ a9 ≤ 7 ∧ nm a9 < 0 ∧ x2 0 = nI 2))))) (fun (u : (Nat → va_E) × (Nat → Int32)) (t : State) => va_P (dC, dI) vwCl (wo ad NSr u.1) t.heap) A) ([.ref (ad 0), .int v] : List Value).toArray s (0) (0) A) (F0 m 24 ls []) := by
      intro k9
      induction k9 with
      | zero => intro i n h9; exact absurd h9 (Nat.not_lt_zero _)
      | succ k9 ih_13 =>
        intro i n h9 hi hn hc H locs ls hP hS hl
        refine lv_iload_n hx hb dX10_parts_24 rfl (lv_at hl 3 rfl) ?_
        refine lv_sipush (v := nI 200) hx hb dX10_parts_25 (by decide +kernel) ?_
        refine lv_icmp_ge (tgt := 54) hx hb dX10_parts_28 (by decide) (fun c_16 => ?_) (fun c_16 => ?_)
        · have c_16 := (nI_leI (a := 200) (b := i) (by decide) (by omega)).mp c_16
          refine lv_iload_n hx hb dX10_parts_54 rfl (lv_at hl 2 rfl) ?_
          have f_17 : g_9 0 = .inr (13, Rob ad x2_4) := (fr_11 0 (by omega)).trans hob2
          refine W.widen (k := 0) (n := 0) (by omega) (by omega) ?_
          exact W.iret (v := nI n) hx hb hr (fun t9 ht9 hW9 => ⟨⟨nI n, (g_9, x2_4), rfl, ⟨RI.num hI2 (hF20.setx (fun (k : Nat) (hk : k = 1 ∨ k = 2 ∨ k = 3) => (fr_11 k (by omega)).trans (rfl)) f_17 rfl) (fun (k : Nat) (hk : (4 ≤ k ∧ k ≤ 11) ∨ k = 16) => (fr_11 k (by omega)).trans (rfl)) (VO.reach hVO20 q12 q12b (fun (k : Nat) (hk : 13 ≤ k ∧ k ≤ 19) => (fr_11 k (by omega)).trans (rfl))) rfl rfl rfl (fun _ _ => ⟨rfl, rfl⟩) hBd2, hx22, Or.inl ⟨hx20, vn, hvv, hvn, hnv, by rw [hrt, Int.toNat_natCast, hc, show i = 200 by omega]⟩⟩, by show va_P (dC, dI) vwCl _ t9.heap; rw [ht9]; exact hP⟩, hS.F ht9⟩) hS.2.2 dX10_parts_55
        · have c_16 := mt (nI_leI (a := 200) (b := i) (by decide) (by omega)).mpr c_16
          refine lv_aload_n hx hb dX10_parts_31 rfl (lv_at hl 0 rfl) ?_
          have f_18 : g_9 0 = .inr (13, Rob ad x2_4) := (fr_11 0 (by omega)).trans hob2
          refine m_get (D := (dC, dI)) (v := .ref (ad 12)) (C := RX10) (T := TX10) (N := 29) hx hb hts bk1 hown hK hP 0 (by decide) f_18 rfl 16 (by decide) (hts (.fieldLink RX10 50 "GradientDeskModel" "reached" "[Z") (List.mem_of_getElem? (i := 9) rfl)) (fun _ h9 => h9) rfl dX10_parts_32 ?_
          refine lv_iload_n hx hb dX10_parts_35 rfl (lv_at hl 3 rfl) ?_
          refine m_zald hx hb hK hP 12 (by decide) rfl q12 (i := i) (by omega) (by decide) dX10_parts_36 ?_
          have b_19 := q12b i
          refine lv_if_eq (tgt := 46) hx hb dX10_parts_37 (by decide) (fun c_20 => ?_) (fun c_20 => ?_)
          · have c_20 := (nI_eq (a := (rc2_10 i)) (b := 0) (by omega) (by decide)).mp c_20
            refine lv_iload_n hx hb dX10_parts_46 rfl (lv_at hl 2 rfl) ?_
            refine lv_istore_n (lv' := [(2, .int (nI n)), (0, .ref (ad 0)), (1, .int (nI vn)), (3, .int (nI i))]) hx hb dX10_parts_47 rfl hl (by decide) rfl (fun ls hl => ?_)
            refine lv_iinc (v := nI (i + 1)) (lv' := [(3, .int (nI (i + 1))), (2, .int (nI n)), (0, .ref (ad 0)), (1, .int (nI vn))]) hx hb dX10_parts_48 hl (k := 3) rfl (nI_add i 1) (by decide) rfl (fun ls hl => ?_)
            refine lv_goto (tgt := 24) hx hb dX10_parts_51 (by decide) ?_
            exact ih_13 (i + 1) n (by omega) (by omega) (by omega) (by have h7 := q12c i (by omega); rw [cntB_s, ← hc]; split <;> omega) _ _ _ hP hS (lv_sub (l' := [(0, .ref (ad 0)), (1, .int (nI vn)), (2, .int (nI n)), (3, .int (nI (i + 1)))]) hl [2, 3, 1, 0] rfl)
          · have c_20 := mt (nI_eq (a := (rc2_10 i)) (b := 0) (by omega) (by decide)).mpr c_20
            refine lv_iload_n hx hb dX10_parts_40 rfl (lv_at hl 2 rfl) ?_
            refine lv_iconst (v := nI 1) hx hb dX10_parts_41 (by decide +kernel) ?_
            refine lv_iadd hx hb dX10_parts_42 ?_
            refine lv_topi (fun x_23 e_24 => ?_)
            obtain rfl : x_23 = nI (n + 1) := e_24.trans (nI_add n 1)
            refine lv_goto (tgt := 47) hx hb dX10_parts_43 (by decide) ?_
            refine lv_istore_n (lv' := [(2, .int (nI (n + 1))), (0, .ref (ad 0)), (1, .int (nI vn)), (3, .int (nI i))]) hx hb dX10_parts_47 rfl hl (by decide) rfl (fun ls hl => ?_)
            refine lv_iinc (v := nI (i + 1)) (lv' := [(3, .int (nI (i + 1))), (2, .int (nI (n + 1))), (0, .ref (ad 0)), (1, .int (nI vn))]) hx hb dX10_parts_48 hl (k := 3) rfl (nI_add i 1) (by decide) rfl (fun ls hl => ?_)
            refine lv_goto (tgt := 24) hx hb dX10_parts_51 (by decide) ?_
            exact ih_13 (i + 1) (n + 1) (by omega) (by omega) (by omega) (by have h7 := q12c i (by omega); rw [cntB_s, ← hc]; split <;> omega) _ _ _ hP hS (lv_sub (l' := [(0, .ref (ad 0)), (1, .int (nI vn)), (2, .int (nI (n + 1))), (3, .int (nI (i + 1)))]) hl [2, 3, 1, 0] rfl)
    exact loop_12 _ 0 0 (Nat.lt_succ_self _) (by omega) (by omega) rfl _ _ _ hP hS (lv_sub (l' := [(0, .ref (ad 0)), (1, .int (nI vn)), (2, .int (nI 0)), (3, .int (nI 0))]) hl [2, 3, 1, 0] rfl)
  · skip
    refine lv_if_eq (tgt := 10) hx hb dX10_parts_5 (by decide) (fun c_27 => absurd c_27 (by decide)) (fun c_27 => ?_)
    refine lv_iconst (v := nI 0) hx hb dX10_parts_8 (by decide +kernel) ?_
    refine W.widen (k := 0) (n := 0) (by omega) (by omega) ?_
    exact W.iret (v := nI 0) hx hb hr (fun t9 ht9 hW9 => ⟨⟨nI 0, (g_3, x2_4), rfl, ⟨hR2, hx22, Or.inr ⟨rfl, hx20⟩⟩, by show va_P (dC, dI) vwCl _ t9.heap; rw [ht9]; exact hP⟩, hS.F ht9⟩) hS.2.2 dX10_parts_9
end
section
def wd_X10_sign : List Cond := .code yX10_sign cX10_sign 2 (some .int) :: (([.methodLink RX10 266 yX10_noResult, .instanceMethod yX10_noResult, .selects RX10 yX10_noResult yX10_noResult, .initialized RX10, .fieldLink RX10 78 "GradientDeskModel" "thrown" "I", .fieldLink RX10 14 "GradientDeskModel" "length" "[I", .fieldLink RX10 18 "GradientDeskModel" "below" "[Z"] : List Cond) ++ (wd_X10_noResult ++ (u_ws RX10 TX10 29 ++ ([]))))
theorem gw_X10_sign : wd_X10_sign.all goodWord = true := k_allc rfl (k_all (by decide +kernel) (k_all (gw_X10_noResult) (k_all (gu_X10) (rfl))))
set_option maxHeartbeats 4000000 in
set_option maxRecDepth 100000 in
theorem c_X10_sign (l : Launch) (dC : Nat → ClassId) (dI : Nat → Nat → Nat) (A : Nat → Prop) (ad : Nat → Nat) (cA : Nat → ClassId) (g : Nat → va_E) (x : Nat → Int32) (L : List PD) (nm : Nat → Int) (tx : Nat → Nat) (ty : Nat) (wr : List Int) (v : Int32) (hI : RIE ad cA g x L nm tx ty wr) : Met l yX10_sign wd_X10_sign ({ frames := 20, cells := 0, slots := 0, locals := 400 }) (va_Pc [.ref (ad 0), .int v] (PR NSr tyr dC dI A ad cA g)) (va_Qi (fun (r : Int32) => fun (u : (Nat → va_E) × (Nat → Int32)) => match u with | (g2, x2) => RIE ad cA g2 x2 L nm tx ty wr ∧ x2 2 = x 2 ∧ (x2 0 = nI 0 ∨ x2 0 = nI 1 ∨ x2 0 = nI 2)) (fun (u : (Nat → va_E) × (Nat → Int32)) (t : State) => va_P (dC, dI) vwCl (wo ad NSr u.1) t.heap) A) (0) (0) A := by
  refine Met.ofW (cc := cX10_sign) (maxL := 2) (ret := (some .int)) (by decide) rfl ?_
  intro p e s m args below meth c s₁ B hml hv
  obtain ⟨rfl, hA, hP, hL⟩ := hv
  have hx := B.exec
  have hb := B.bytes
  have hr := B.returns
  have hts := atoms_spec (ws := wd_X10_sign) B.pre
  have hown : s.vm.findClass RX10 = some m.cls := findClass_of_methodNamed B.named
  have hlocks := B.notSynchronized
  have hK := hL.1
  have hD : ∀ g, va_D A (wo ad NSr g) := fun g => wo_D hL.2.1 hL.2.2 g
  have hS : va_S A s.heap s.heap [] := va_S.rf
  have bk0 : ∀ w ∈ wd_X10_noResult, w ∈ wd_X10_sign := fun _ h => List.mem_cons_of_mem _ (List.mem_append_right _ (List.mem_append_left _ h))
  have bk1 : ∀ w ∈ u_ws RX10 TX10 29, w ∈ wd_X10_sign := fun _ h => List.mem_cons_of_mem _ (List.mem_append_right _ (List.mem_append_right _ (List.mem_append_left _ h)))
  have hl := lv_entry ([.ref (ad 0), .int v]) (n := 2) (Nat.le_of_ble_eq_true rfl)
  rw [lg_entry_eq]
  generalize (lg_sl ([.ref (ad 0), .int v]) ++ List.replicate (2 - (lg_sl ([.ref (ad 0), .int v])).length) Slot.unset).toArray = ls at hl ⊢
  have hl : lv_has ls 2 [(0, .ref (ad 0)), (1, .int v)] := hl
  obtain ⟨pf, qf, pt, hI0⟩ := hI
  have hI1 := hI0
  obtain ⟨hF, hPt, hM, hW, hL2, hmd, hTx, hty, hty2, hwr, hwr2, hVO, hBd⟩ := hI1
  have hVO0 := hVO
  have hPt0 := hPt
  have hTx0 := hTx
  have hF0 := hF
  obtain ⟨vf, hV, hq⟩ := hF
  have hc_1 := hV
  obtain ⟨pnz_2, lnz_2, bnz_2, hRz_2, hvz_2⟩ := hc_1
  obtain ⟨r_3, r_4, r_5, r_6, r_7, r_8, r_9⟩ := hRz_2
  obtain ⟨p_10, p_11, p_12, p_13, p_14, p_15, hpt_16⟩ := hPt
  obtain ⟨t4, t4b, t11, t11b, t11c⟩ := hTx
  obtain ⟨⟨rc, v12, v12b⟩, ⟨f13, v13⟩, ⟨f14, v14⟩, ⟨f15, v15⟩, ⟨f16, v16⟩, ⟨f17, v17⟩, ⟨f18, v18⟩, ⟨f19, v19⟩⟩ := hVO
  refine lv_aload_n hx hb dX10_sign_0 rfl (lv_at hl 0 rfl) ?_
  refine lv_aload_n hx hb dX10_sign_1 rfl (lv_at hl 0 rfl) ?_
  refine lv_iload_n hx hb dX10_sign_2 rfl (lv_at hl 1 rfl) ?_
  refine va_calli (va_runV (As := [.int v]) (rest := [.ref (ad 0)]) ⟨hx, hb, hml, hown, hts⟩ (c_X10_noResult l dC dI A ad cA g v ) (cwV 1 hts (goodIn_app (goodIn_r [Cond.methodLink RX10 266 yX10_noResult, Cond.instanceMethod yX10_noResult, Cond.selects RX10 yX10_noResult yX10_noResult, Cond.initialized RX10] [1, 2, 3, 4] rfl rfl) (goodIn_sub (fun w9 h9 => bk0 w9 h9) gw_X10_noResult)) rfl rfl rfl (by decide +kernel) ⟨Nat.le_of_ble_eq_true rfl, Nat.le_of_ble_eq_true rfl⟩) ⟨fun a U g mk q => ⟨q.1, q.2.1, q.2.2.1, LY.moved (u := U) (U := U.calling g mk a) (Vm.Alike.refl U.vm) q.2.2.2⟩, va_recv hK hP (ci := 13) (q0 := 0) rfl (wo_at (by decide) r_3), fun U hU hW => ⟨rfl, by rw [hU]; exact fun q h => hA q (Nat.le_trans hS.1 h), by rw [hU]; exact hP, LY.moved hW.alike hL⟩⟩ rfl rfl hl.1 rfl (lv_room (Nat.le_of_ble_eq_true rfl)) dX10_sign_3 ⟨(Nat.le_of_ble_eq_true rfl), (Nat.le_of_ble_eq_true rfl)⟩) hS (fun q _ h => h) (fun q h => h) (fun r_17 u8 t8 H1 locs ht8 hvm8 hw_18 hB hz1 hk1 hS => ?_)
  obtain ⟨⟩ := u8
  try dsimp only at hw_18 hB
  rw [ht8] at hB
  have hP := hB
  generalize H1 = H at hP hS ⊢
  rcases hw_18 with ⟨rfl, hnrv⟩ | ⟨rfl, hnrv⟩
  · skip
    refine lv_if_eq (tgt := 13) hx hb dX10_sign_6 (by decide) (fun c_19 => ?_) (fun c_19 => absurd c_19 (by decide))
    refine lv_iconst (v := nI 0) hx hb dX10_sign_13 (by decide +kernel) ?_
    refine m_put (D := (dC, dI)) (v := .int (nI 0)) (tv := .int) (C := RX10) (T := TX10) (N := 29) hx hb hts bk1 tyX10 tyX10_ok nmX10 hown hK hP hD hS 0 (by decide) r_3 rfl 0 (by decide) (hts (.fieldLink RX10 78 "GradientDeskModel" "thrown" "I") (List.mem_of_getElem? (i := 5) rfl)) (fun _ h9 => h9) rfl (by decide +kernel) rfl rfl (Nat.le_of_ble_eq_true rfl) dX10_sign_14 (fun H locs g_20 f_21 fr_22 hP hS => ?_)
    have f_21 : g_20 0 = .inr (13, Rob ad (va_up x 0 (nI 0))) := f_21
    refine lv_aload_n hx hb dX10_sign_17 rfl (lv_at hl 0 rfl) ?_
    refine m_get (D := (dC, dI)) (v := .int (nI 0)) (C := RX10) (T := TX10) (N := 29) hx hb hts bk1 hown hK hP 0 (by decide) f_21 rfl 0 (by decide) (hts (.fieldLink RX10 78 "GradientDeskModel" "thrown" "I") (List.mem_of_getElem? (i := 5) rfl)) (fun _ h9 => h9) (congrArg (fun z => some (Value.int z)) (show (va_up x 0 (nI 0)) 0 = (nI 0) from rfl)) dX10_sign_18 ?_
    refine lv_if_gt (tgt := 39) hx hb dX10_sign_21 (by decide) (fun c_23 => absurd c_23 (by decide)) (fun c_23 => ?_)
    obtain ⟨rn, hrn, ern, -⟩ := k_nat (x := v) (by omega)
    subst hrn
    refine lv_aload_n hx hb dX10_sign_24 rfl (lv_at hl 0 rfl) ?_
    refine m_get (D := (dC, dI)) (v := .ref (ad 2)) (C := RX10) (T := TX10) (N := 29) hx hb hts bk1 hown hK hP 0 (by decide) f_21 rfl 2 (by decide) (hts (.fieldLink RX10 14 "GradientDeskModel" "length" "[I") (List.mem_of_getElem? (i := 6) rfl)) (fun _ h9 => h9) rfl dX10_sign_25 ?_
    refine lv_iconst (v := nI 2) hx hb dX10_sign_28 (by decide +kernel) ?_
    refine lv_sipush (v := nI 1000) hx hb dX10_sign_29 (by decide +kernel) ?_
    refine lv_iload_n hx hb dX10_sign_32 rfl (lv_at hl 1 rfl) ?_
    refine lv_iadd hx hb dX10_sign_33 ?_
    refine lv_topi (fun x_24 e_25 => ?_)
    obtain rfl : x_24 = nI (1000 + rn) := e_25.trans (nI_add 1000 rn)
    refine lv_imul hx hb dX10_sign_34 ?_
    refine lv_topi (fun x_26 e_27 => ?_)
    obtain rfl : x_26 = nI (2 * (1000 + rn)) := e_27.trans (pk_mul 2 (1000 + rn))
    have f_28 : g_20 2 = .inl (cA 2, 2068, .inl (fun j => nI (lnz_2 j))) := (fr_22 2 (by omega)).trans r_5
    refine m_iald hx hb hK hP 2 (by decide) rfl f_28 (i := 2 * (1000 + rn)) (by omega) (by decide) dX10_sign_35 ?_
    have b_29 := r_8 (2 * (1000 + rn))
    refine lv_if_ne (tgt := 43) hx hb dX10_sign_36 (by decide) (fun c_30 => ?_) (fun c_30 => ?_)
    · have c_30 := mt (nI_eq (a := (lnz_2 (2 * (1000 + rn)))) (b := 0) (by omega) (by decide)).mpr c_30
      refine lv_aload_n hx hb dX10_sign_43 rfl (lv_at hl 0 rfl) ?_
      refine m_get (D := (dC, dI)) (v := .ref (ad 3)) (C := RX10) (T := TX10) (N := 29) hx hb hts bk1 hown hK hP 0 (by decide) f_21 rfl 3 (by decide) (hts (.fieldLink RX10 18 "GradientDeskModel" "below" "[Z") (List.mem_of_getElem? (i := 7) rfl)) (fun _ h9 => h9) rfl dX10_sign_44 ?_
      refine lv_iconst (v := nI 2) hx hb dX10_sign_47 (by decide +kernel) ?_
      refine lv_sipush (v := nI 1000) hx hb dX10_sign_48 (by decide +kernel) ?_
      refine lv_iload_n hx hb dX10_sign_51 rfl (lv_at hl 1 rfl) ?_
      refine lv_iadd hx hb dX10_sign_52 ?_
      refine lv_topi (fun x_31 e_32 => ?_)
      obtain rfl : x_31 = nI (1000 + rn) := e_32.trans (nI_add 1000 rn)
      refine lv_imul hx hb dX10_sign_53 ?_
      refine lv_topi (fun x_33 e_34 => ?_)
      obtain rfl : x_33 = nI (2 * (1000 + rn)) := e_34.trans (pk_mul 2 (1000 + rn))
      have f_35 : g_20 3 = .inl (cA 3, 2068, .inl (fun j => nI (bnz_2 j))) := (fr_22 3 (by omega)).trans r_6
      refine m_zald hx hb hK hP 3 (by decide) rfl f_35 (i := 2 * (1000 + rn)) (by omega) (by decide) dX10_sign_54 ?_
      have b_36 := r_9 (2 * (1000 + rn))
      refine lv_if_eq (tgt := 62) hx hb dX10_sign_55 (by decide) (fun c_37 => ?_) (fun c_37 => ?_)
      · have c_37 := (nI_eq (a := (bnz_2 (2 * (1000 + rn)))) (b := 0) (by omega) (by decide)).mp c_37
        refine lv_iconst (v := nI 1) hx hb dX10_sign_62 (by decide +kernel) ?_
        refine W.widen (k := 0) (n := 0) (by omega) (by omega) ?_
        exact W.iret (v := nI 1) hx hb hr (fun t9 ht9 hW9 => ⟨⟨nI 1, (g_20, va_up x 0 (nI 0)), rfl, ⟨RI.num hI0 (hF0.setx (fun (k : Nat) (hk : k = 1 ∨ k = 2 ∨ k = 3) => (fr_22 k (by omega)).trans (rfl)) f_21 rfl) (fun (k : Nat) (hk : (4 ≤ k ∧ k ≤ 11) ∨ k = 16) => (fr_22 k (by omega)).trans (rfl)) (hVO0.same (fun (k : Nat) (hk : 12 ≤ k ∧ k ≤ 19) => (fr_22 k (by omega)).trans (rfl))) (va_up_ne _ _ (by decide)) (va_up_ne _ _ (by decide)) (va_up_ne _ _ (by decide)) (fun _ _ => ⟨rfl, rfl⟩) hBd, (va_up_ne _ _ (by decide)), Or.inl (va_up_self _ _ _)⟩, by show va_P (dC, dI) vwCl _ t9.heap; rw [ht9]; exact hP⟩, hS.F ht9⟩) hS.2.2 dX10_sign_63
      · have c_37 := mt (nI_eq (a := (bnz_2 (2 * (1000 + rn)))) (b := 0) (by omega) (by decide)).mpr c_37
        refine lv_iconst (v := -1) hx hb dX10_sign_58 (by decide +kernel) ?_
        refine lv_goto (tgt := 63) hx hb dX10_sign_59 (by decide) ?_
        refine W.widen (k := 0) (n := 0) (by omega) (by omega) ?_
        exact W.iret (v := -1) hx hb hr (fun t9 ht9 hW9 => ⟨⟨-1, (g_20, va_up x 0 (nI 0)), rfl, ⟨RI.num hI0 (hF0.setx (fun (k : Nat) (hk : k = 1 ∨ k = 2 ∨ k = 3) => (fr_22 k (by omega)).trans (rfl)) f_21 rfl) (fun (k : Nat) (hk : (4 ≤ k ∧ k ≤ 11) ∨ k = 16) => (fr_22 k (by omega)).trans (rfl)) (hVO0.same (fun (k : Nat) (hk : 12 ≤ k ∧ k ≤ 19) => (fr_22 k (by omega)).trans (rfl))) (va_up_ne _ _ (by decide)) (va_up_ne _ _ (by decide)) (va_up_ne _ _ (by decide)) (fun _ _ => ⟨rfl, rfl⟩) hBd, (va_up_ne _ _ (by decide)), Or.inl (va_up_self _ _ _)⟩, by show va_P (dC, dI) vwCl _ t9.heap; rw [ht9]; exact hP⟩, hS.F ht9⟩) hS.2.2 dX10_sign_63
    · have c_30 := (nI_eq (a := (lnz_2 (2 * (1000 + rn)))) (b := 0) (by omega) (by decide)).mp c_30
      refine lv_iconst (v := nI 0) hx hb dX10_sign_39 (by decide +kernel) ?_
      refine lv_goto (tgt := 63) hx hb dX10_sign_40 (by decide) ?_
      refine W.widen (k := 0) (n := 0) (by omega) (by omega) ?_
      exact W.iret (v := nI 0) hx hb hr (fun t9 ht9 hW9 => ⟨⟨nI 0, (g_20, va_up x 0 (nI 0)), rfl, ⟨RI.num hI0 (hF0.setx (fun (k : Nat) (hk : k = 1 ∨ k = 2 ∨ k = 3) => (fr_22 k (by omega)).trans (rfl)) f_21 rfl) (fun (k : Nat) (hk : (4 ≤ k ∧ k ≤ 11) ∨ k = 16) => (fr_22 k (by omega)).trans (rfl)) (hVO0.same (fun (k : Nat) (hk : 12 ≤ k ∧ k ≤ 19) => (fr_22 k (by omega)).trans (rfl))) (va_up_ne _ _ (by decide)) (va_up_ne _ _ (by decide)) (va_up_ne _ _ (by decide)) (fun _ _ => ⟨rfl, rfl⟩) hBd, (va_up_ne _ _ (by decide)), Or.inl (va_up_self _ _ _)⟩, by show va_P (dC, dI) vwCl _ t9.heap; rw [ht9]; exact hP⟩, hS.F ht9⟩) hS.2.2 dX10_sign_63
  · skip
    refine lv_if_eq (tgt := 13) hx hb dX10_sign_6 (by decide) (fun c_38 => absurd c_38 (by decide)) (fun c_38 => ?_)
    refine lv_iconst (v := nI 1) hx hb dX10_sign_9 (by decide +kernel) ?_
    refine lv_goto (tgt := 14) hx hb dX10_sign_10 (by decide) ?_
    refine m_put (D := (dC, dI)) (v := .int (nI 1)) (tv := .int) (C := RX10) (T := TX10) (N := 29) hx hb hts bk1 tyX10 tyX10_ok nmX10 hown hK hP hD hS 0 (by decide) r_3 rfl 0 (by decide) (hts (.fieldLink RX10 78 "GradientDeskModel" "thrown" "I") (List.mem_of_getElem? (i := 5) rfl)) (fun _ h9 => h9) rfl (by decide +kernel) rfl rfl (Nat.le_of_ble_eq_true rfl) dX10_sign_14 (fun H locs g_39 f_40 fr_41 hP hS => ?_)
    have f_40 : g_39 0 = .inr (13, Rob ad (va_up x 0 (nI 1))) := f_40
    refine lv_aload_n hx hb dX10_sign_17 rfl (lv_at hl 0 rfl) ?_
    refine m_get (D := (dC, dI)) (v := .int (nI 1)) (C := RX10) (T := TX10) (N := 29) hx hb hts bk1 hown hK hP 0 (by decide) f_40 rfl 0 (by decide) (hts (.fieldLink RX10 78 "GradientDeskModel" "thrown" "I") (List.mem_of_getElem? (i := 5) rfl)) (fun _ h9 => h9) (congrArg (fun z => some (Value.int z)) (show (va_up x 0 (nI 1)) 0 = (nI 1) from rfl)) dX10_sign_18 ?_
    refine lv_if_gt (tgt := 39) hx hb dX10_sign_21 (by decide) (fun c_42 => ?_) (fun c_42 => absurd c_42 (by decide))
    refine lv_iconst (v := nI 0) hx hb dX10_sign_39 (by decide +kernel) ?_
    refine lv_goto (tgt := 63) hx hb dX10_sign_40 (by decide) ?_
    refine W.widen (k := 0) (n := 0) (by omega) (by omega) ?_
    exact W.iret (v := nI 0) hx hb hr (fun t9 ht9 hW9 => ⟨⟨nI 0, (g_39, va_up x 0 (nI 1)), rfl, ⟨RI.num hI0 (hF0.setx (fun (k : Nat) (hk : k = 1 ∨ k = 2 ∨ k = 3) => (fr_41 k (by omega)).trans (rfl)) f_40 rfl) (fun (k : Nat) (hk : (4 ≤ k ∧ k ≤ 11) ∨ k = 16) => (fr_41 k (by omega)).trans (rfl)) (hVO0.same (fun (k : Nat) (hk : 12 ≤ k ∧ k ≤ 19) => (fr_41 k (by omega)).trans (rfl))) (va_up_ne _ _ (by decide)) (va_up_ne _ _ (by decide)) (va_up_ne _ _ (by decide)) (fun _ _ => ⟨rfl, rfl⟩) hBd, (va_up_ne _ _ (by decide)), Or.inr (Or.inl (va_up_self _ _ _))⟩, by show va_P (dC, dI) vwCl _ t9.heap; rw [ht9]; exact hP⟩, hS.F ht9⟩) hS.2.2 dX10_sign_63
def wd_X10_bits : List Cond := .code yX10_bits cX10_bits 3 (some .int) :: (([.methodLink RX10 266 yX10_noResult, .instanceMethod yX10_noResult, .selects RX10 yX10_noResult yX10_noResult, .initialized RX10, .fieldLink RX10 78 "GradientDeskModel" "thrown" "I", .methodLink RX10 117 yX10_bitsOf, .instanceMethod yX10_bitsOf, .selects RX10 yX10_bitsOf yX10_bitsOf] : List Cond) ++ (wd_X10_noResult ++ (u_ws RX10 TX10 29 ++ (wd_X10_bitsOf ++ ([])))))
theorem gw_X10_bits : wd_X10_bits.all goodWord = true := k_allc rfl (k_all (by decide +kernel) (k_all (gw_X10_noResult) (k_all (gu_X10) (k_all (gw_X10_bitsOf) (rfl)))))
set_option maxHeartbeats 4000000 in
set_option maxRecDepth 100000 in
theorem c_X10_bits (l : Launch) (dC : Nat → ClassId) (dI : Nat → Nat → Nat) (A : Nat → Prop) (ad : Nat → Nat) (cA : Nat → ClassId) (g : Nat → va_E) (x : Nat → Int32) (L : List PD) (nm : Nat → Int) (tx : Nat → Nat) (ty : Nat) (wr : List Int) (v : Int32) (w1 : Int32) (hI : RIE ad cA g x L nm tx ty wr) : Met l yX10_bits wd_X10_bits ({ frames := 30, cells := 0, slots := 0, locals := 600 }) (va_Pc [.ref (ad 0), .int v, .int w1] (PR NSr tyr dC dI A ad cA g)) (va_Qi (fun (r : Int32) => fun (u : (Nat → va_E) × (Nat → Int32)) => match u with | (g2, x2) => RIE ad cA g2 x2 L nm tx ty wr ∧ x2 2 = x 2 ∧ (x2 0 = nI 0 ∨ x2 0 = nI 1 ∨ x2 0 = nI 2)) (fun (u : (Nat → va_E) × (Nat → Int32)) (t : State) => va_P (dC, dI) vwCl (wo ad NSr u.1) t.heap) A) (0) (0) A := by
  refine Met.ofW (cc := cX10_bits) (maxL := 3) (ret := (some .int)) (by decide) rfl ?_
  intro p e s m args below meth c s₁ B hml hv
  obtain ⟨rfl, hA, hP, hL⟩ := hv
  have hx := B.exec
  have hb := B.bytes
  have hr := B.returns
  have hts := atoms_spec (ws := wd_X10_bits) B.pre
  have hown : s.vm.findClass RX10 = some m.cls := findClass_of_methodNamed B.named
  have hlocks := B.notSynchronized
  have hK := hL.1
  have hD : ∀ g, va_D A (wo ad NSr g) := fun g => wo_D hL.2.1 hL.2.2 g
  have hS : va_S A s.heap s.heap [] := va_S.rf
  have bk0 : ∀ w ∈ wd_X10_noResult, w ∈ wd_X10_bits := fun _ h => List.mem_cons_of_mem _ (List.mem_append_right _ (List.mem_append_left _ h))
  have bk1 : ∀ w ∈ u_ws RX10 TX10 29, w ∈ wd_X10_bits := fun _ h => List.mem_cons_of_mem _ (List.mem_append_right _ (List.mem_append_right _ (List.mem_append_left _ h)))
  have bk2 : ∀ w ∈ wd_X10_bitsOf, w ∈ wd_X10_bits := fun _ h => List.mem_cons_of_mem _ (List.mem_append_right _ (List.mem_append_right _ (List.mem_append_right _ (List.mem_append_left _ h))))
  have hl := lv_entry ([.ref (ad 0), .int v, .int w1]) (n := 3) (Nat.le_of_ble_eq_true rfl)
  rw [lg_entry_eq]
  generalize (lg_sl ([.ref (ad 0), .int v, .int w1]) ++ List.replicate (3 - (lg_sl ([.ref (ad 0), .int v, .int w1])).length) Slot.unset).toArray = ls at hl ⊢
  have hl : lv_has ls 3 [(0, .ref (ad 0)), (1, .int v), (2, .int w1)] := hl
  obtain ⟨pf, qf, pt, hI0⟩ := hI
  have hI1 := hI0
  obtain ⟨hF, hPt, hM, hW, hL2, hmd, hTx, hty, hty2, hwr, hwr2, hVO, hBd⟩ := hI1
  have hVO0 := hVO
  have hPt0 := hPt
  have hTx0 := hTx
  have hF0 := hF
  obtain ⟨vf, hV, hq⟩ := hF
  have hc_1 := hV
  obtain ⟨pnz_2, lnz_2, bnz_2, hRz_2, hvz_2⟩ := hc_1
  obtain ⟨r_3, r_4, r_5, r_6, r_7, r_8, r_9⟩ := hRz_2
  obtain ⟨p_10, p_11, p_12, p_13, p_14, p_15, hpt_16⟩ := hPt
  obtain ⟨t4, t4b, t11, t11b, t11c⟩ := hTx
  obtain ⟨⟨rc, v12, v12b⟩, ⟨f13, v13⟩, ⟨f14, v14⟩, ⟨f15, v15⟩, ⟨f16, v16⟩, ⟨f17, v17⟩, ⟨f18, v18⟩, ⟨f19, v19⟩⟩ := hVO
  refine lv_aload_n hx hb dX10_bits_0 rfl (lv_at hl 0 rfl) ?_
  refine lv_aload_n hx hb dX10_bits_1 rfl (lv_at hl 0 rfl) ?_
  refine lv_iload_n hx hb dX10_bits_2 rfl (lv_at hl 1 rfl) ?_
  refine va_calli (va_runV (As := [.int v]) (rest := [.ref (ad 0)]) ⟨hx, hb, hml, hown, hts⟩ (c_X10_noResult l dC dI A ad cA g v ) (cwV 1 hts (goodIn_app (goodIn_r [Cond.methodLink RX10 266 yX10_noResult, Cond.instanceMethod yX10_noResult, Cond.selects RX10 yX10_noResult yX10_noResult, Cond.initialized RX10] [1, 2, 3, 4] rfl rfl) (goodIn_sub (fun w9 h9 => bk0 w9 h9) gw_X10_noResult)) rfl rfl rfl (by decide +kernel) ⟨Nat.le_of_ble_eq_true rfl, Nat.le_of_ble_eq_true rfl⟩) ⟨fun a U g mk q => ⟨q.1, q.2.1, q.2.2.1, LY.moved (u := U) (U := U.calling g mk a) (Vm.Alike.refl U.vm) q.2.2.2⟩, va_recv hK hP (ci := 13) (q0 := 0) rfl (wo_at (by decide) r_3), fun U hU hW => ⟨rfl, by rw [hU]; exact fun q h => hA q (Nat.le_trans hS.1 h), by rw [hU]; exact hP, LY.moved hW.alike hL⟩⟩ rfl rfl hl.1 rfl (lv_room (Nat.le_of_ble_eq_true rfl)) dX10_bits_3 ⟨(Nat.le_of_ble_eq_true rfl), (Nat.le_of_ble_eq_true rfl)⟩) hS (fun q _ h => h) (fun q h => h) (fun r_17 u8 t8 H1 locs ht8 hvm8 hw_18 hB hz1 hk1 hS => ?_)
  obtain ⟨⟩ := u8
  try dsimp only at hw_18 hB
  rw [ht8] at hB
  have hP := hB
  generalize H1 = H at hP hS ⊢
  rcases hw_18 with ⟨rfl, hnrv⟩ | ⟨rfl, hnrv⟩
  · skip
    refine lv_if_eq (tgt := 13) hx hb dX10_bits_6 (by decide) (fun c_19 => ?_) (fun c_19 => absurd c_19 (by decide))
    refine lv_iload_n hx hb dX10_bits_13 rfl (lv_at hl 2 rfl) ?_
    refine lv_if_eq (tgt := 26) hx hb dX10_bits_14 (by decide) (fun c_20 => ?_) (fun c_20 => ?_)
    · have c_20 := congrArg Int32.toInt c_20
      rw [show (0 : Int32).toInt = 0 from by decide] at c_20
      refine lv_iconst (v := nI 0) hx hb dX10_bits_26 (by decide +kernel) ?_
      refine m_put (D := (dC, dI)) (v := .int (nI 0)) (tv := .int) (C := RX10) (T := TX10) (N := 29) hx hb hts bk1 tyX10 tyX10_ok nmX10 hown hK hP hD hS 0 (by decide) r_3 rfl 0 (by decide) (hts (.fieldLink RX10 78 "GradientDeskModel" "thrown" "I") (List.mem_of_getElem? (i := 5) rfl)) (fun _ h9 => h9) rfl (by decide +kernel) rfl rfl (Nat.le_of_ble_eq_true rfl) dX10_bits_27 (fun H locs g_21 f_22 fr_23 hP hS => ?_)
      have f_22 : g_21 0 = .inr (13, Rob ad (va_up x 0 (nI 0))) := f_22
      refine lv_aload_n hx hb dX10_bits_30 rfl (lv_at hl 0 rfl) ?_
      refine m_get (D := (dC, dI)) (v := .int (nI 0)) (C := RX10) (T := TX10) (N := 29) hx hb hts bk1 hown hK hP 0 (by decide) f_22 rfl 0 (by decide) (hts (.fieldLink RX10 78 "GradientDeskModel" "thrown" "I") (List.mem_of_getElem? (i := 5) rfl)) (fun _ h9 => h9) (congrArg (fun z => some (Value.int z)) (show (va_up x 0 (nI 0)) 0 = (nI 0) from rfl)) dX10_bits_31 ?_
      refine lv_if_le (tgt := 41) hx hb dX10_bits_34 (by decide) (fun c_24 => ?_) (fun c_24 => absurd c_24 (by decide))
      obtain ⟨rn, hrn, ern, -⟩ := k_nat (x := v) (by omega)
      subst hrn
      obtain ⟨tn, htn, etn, -⟩ := k_nat (x := w1) (by omega)
      subst htn
      refine lv_aload_n hx hb dX10_bits_41 rfl (lv_at hl 0 rfl) ?_
      refine lv_iconst (v := nI 2) hx hb dX10_bits_42 (by decide +kernel) ?_
      refine lv_sipush (v := nI 1000) hx hb dX10_bits_43 (by decide +kernel) ?_
      refine lv_iload_n hx hb dX10_bits_46 rfl (lv_at hl 1 rfl) ?_
      refine lv_iadd hx hb dX10_bits_47 ?_
      refine lv_topi (fun x_25 e_26 => ?_)
      obtain rfl : x_25 = nI (1000 + rn) := e_26.trans (nI_add 1000 rn)
      refine lv_imul hx hb dX10_bits_48 ?_
      refine lv_topi (fun x_27 e_28 => ?_)
      obtain rfl : x_27 = nI (2 * (1000 + rn)) := e_28.trans (pk_mul 2 (1000 + rn))
      refine lv_iload_n hx hb dX10_bits_49 rfl (lv_at hl 2 rfl) ?_
      refine lv_iadd hx hb dX10_bits_50 ?_
      refine lv_topi (fun x_29 e_30 => ?_)
      obtain rfl : x_29 = nI (2 * (1000 + rn) + tn) := e_30.trans (nI_add (2 * (1000 + rn)) tn)
      have hV9 : RV ad cA g_21 (va_up x 0 (nI 0)) vf := hV.setx (fun (k : Nat) (hk : k = 1 ∨ k = 2 ∨ k = 3) => (fr_23 k (by omega)).trans (rfl)) f_22
      refine va_calli (va_runV (As := [.int (nI (2 * (1000 + rn) + tn))]) (rest := []) ⟨hx, hb, hml, hown, hts⟩ (c_X10_bitsOf l dC dI A ad cA g_21 (va_up x 0 (nI 0)) vf (2 * (1000 + rn) + tn) hV9 (by omega)) (cwV 1 hts (goodIn_app (goodIn_r [Cond.methodLink RX10 117 yX10_bitsOf, Cond.instanceMethod yX10_bitsOf, Cond.selects RX10 yX10_bitsOf yX10_bitsOf, Cond.initialized RX10] [6, 7, 8, 4] rfl rfl) (goodIn_sub (fun w9 h9 => bk2 w9 h9) gw_X10_bitsOf)) rfl rfl rfl (by decide +kernel) ⟨Nat.le_of_ble_eq_true rfl, Nat.le_of_ble_eq_true rfl⟩) ⟨fun a U g mk q => ⟨q.1, q.2.1, q.2.2.1, LY.moved (u := U) (U := U.calling g mk a) (Vm.Alike.refl U.vm) q.2.2.2⟩, va_recv hK hP (ci := 13) (q0 := 0) rfl (wo_at (by decide) f_22), fun U hU hW => ⟨rfl, by rw [hU]; exact fun q h => hA q (Nat.le_trans hS.1 h), by rw [hU]; exact hP, LY.moved hW.alike hL⟩⟩ rfl rfl hl.1 rfl (lv_room (Nat.le_of_ble_eq_true rfl)) dX10_bits_51 ⟨(Nat.le_of_ble_eq_true rfl), (Nat.le_of_ble_eq_true rfl)⟩) hS (fun q _ h => h) (fun q h => h) (fun r_31 u8 t8 H1 locs ht8 hvm8 hw_32 hB hz1 hk1 hS => ?_)
      obtain ⟨⟩ := u8
      try dsimp only at hw_32 hB
      rw [ht8] at hB
      have hP := hB
      generalize H1 = H at hP hS ⊢
      refine W.widen (k := 0) (n := 0) (by omega) (by omega) ?_
      exact W.iret (v := r_31) hx hb hr (fun t9 ht9 hW9 => ⟨⟨r_31, (g_21, va_up x 0 (nI 0)), rfl, ⟨RI.num hI0 (hF0.setx (fun (k : Nat) (hk : k = 1 ∨ k = 2 ∨ k = 3) => (fr_23 k (by omega)).trans (rfl)) f_22 rfl) (fun (k : Nat) (hk : (4 ≤ k ∧ k ≤ 11) ∨ k = 16) => (fr_23 k (by omega)).trans (rfl)) (hVO0.same (fun (k : Nat) (hk : 12 ≤ k ∧ k ≤ 19) => (fr_23 k (by omega)).trans (rfl))) (va_up_ne _ _ (by decide)) (va_up_ne _ _ (by decide)) (va_up_ne _ _ (by decide)) (fun _ _ => ⟨rfl, rfl⟩) hBd, (va_up_ne _ _ (by decide)), Or.inl (va_up_self _ _ _)⟩, by show va_P (dC, dI) vwCl _ t9.heap; rw [ht9]; exact hP⟩, hS.F ht9⟩) hS.2.2 dX10_bits_54
    · have c_20 := mt Int32.toInt_inj.mp c_20
      rw [show (0 : Int32).toInt = 0 from by decide] at c_20
      refine lv_iload_n hx hb dX10_bits_17 rfl (lv_at hl 2 rfl) ?_
      refine lv_iconst (v := nI 1) hx hb dX10_bits_18 (by decide +kernel) ?_
      refine lv_icmp_eq (tgt := 26) hx hb dX10_bits_19 (by decide) (fun c_33 => ?_) (fun c_33 => ?_)
      · have c_33 := congrArg Int32.toInt c_33
        rw [show (nI 1).toInt = 1 from by decide] at c_33
        refine lv_iconst (v := nI 0) hx hb dX10_bits_26 (by decide +kernel) ?_
        refine m_put (D := (dC, dI)) (v := .int (nI 0)) (tv := .int) (C := RX10) (T := TX10) (N := 29) hx hb hts bk1 tyX10 tyX10_ok nmX10 hown hK hP hD hS 0 (by decide) r_3 rfl 0 (by decide) (hts (.fieldLink RX10 78 "GradientDeskModel" "thrown" "I") (List.mem_of_getElem? (i := 5) rfl)) (fun _ h9 => h9) rfl (by decide +kernel) rfl rfl (Nat.le_of_ble_eq_true rfl) dX10_bits_27 (fun H locs g_34 f_35 fr_36 hP hS => ?_)
        have f_35 : g_34 0 = .inr (13, Rob ad (va_up x 0 (nI 0))) := f_35
        refine lv_aload_n hx hb dX10_bits_30 rfl (lv_at hl 0 rfl) ?_
        refine m_get (D := (dC, dI)) (v := .int (nI 0)) (C := RX10) (T := TX10) (N := 29) hx hb hts bk1 hown hK hP 0 (by decide) f_35 rfl 0 (by decide) (hts (.fieldLink RX10 78 "GradientDeskModel" "thrown" "I") (List.mem_of_getElem? (i := 5) rfl)) (fun _ h9 => h9) (congrArg (fun z => some (Value.int z)) (show (va_up x 0 (nI 0)) 0 = (nI 0) from rfl)) dX10_bits_31 ?_
        refine lv_if_le (tgt := 41) hx hb dX10_bits_34 (by decide) (fun c_37 => ?_) (fun c_37 => absurd c_37 (by decide))
        obtain ⟨rn, hrn, ern, -⟩ := k_nat (x := v) (by omega)
        subst hrn
        obtain ⟨tn, htn, etn, -⟩ := k_nat (x := w1) (by omega)
        subst htn
        refine lv_aload_n hx hb dX10_bits_41 rfl (lv_at hl 0 rfl) ?_
        refine lv_iconst (v := nI 2) hx hb dX10_bits_42 (by decide +kernel) ?_
        refine lv_sipush (v := nI 1000) hx hb dX10_bits_43 (by decide +kernel) ?_
        refine lv_iload_n hx hb dX10_bits_46 rfl (lv_at hl 1 rfl) ?_
        refine lv_iadd hx hb dX10_bits_47 ?_
        refine lv_topi (fun x_38 e_39 => ?_)
        obtain rfl : x_38 = nI (1000 + rn) := e_39.trans (nI_add 1000 rn)
        refine lv_imul hx hb dX10_bits_48 ?_
        refine lv_topi (fun x_40 e_41 => ?_)
        obtain rfl : x_40 = nI (2 * (1000 + rn)) := e_41.trans (pk_mul 2 (1000 + rn))
        refine lv_iload_n hx hb dX10_bits_49 rfl (lv_at hl 2 rfl) ?_
        refine lv_iadd hx hb dX10_bits_50 ?_
        refine lv_topi (fun x_42 e_43 => ?_)
        obtain rfl : x_42 = nI (2 * (1000 + rn) + tn) := e_43.trans (nI_add (2 * (1000 + rn)) tn)
        have hV9 : RV ad cA g_34 (va_up x 0 (nI 0)) vf := hV.setx (fun (k : Nat) (hk : k = 1 ∨ k = 2 ∨ k = 3) => (fr_36 k (by omega)).trans (rfl)) f_35
        refine va_calli (va_runV (As := [.int (nI (2 * (1000 + rn) + tn))]) (rest := []) ⟨hx, hb, hml, hown, hts⟩ (c_X10_bitsOf l dC dI A ad cA g_34 (va_up x 0 (nI 0)) vf (2 * (1000 + rn) + tn) hV9 (by omega)) (cwV 1 hts (goodIn_app (goodIn_r [Cond.methodLink RX10 117 yX10_bitsOf, Cond.instanceMethod yX10_bitsOf, Cond.selects RX10 yX10_bitsOf yX10_bitsOf, Cond.initialized RX10] [6, 7, 8, 4] rfl rfl) (goodIn_sub (fun w9 h9 => bk2 w9 h9) gw_X10_bitsOf)) rfl rfl rfl (by decide +kernel) ⟨Nat.le_of_ble_eq_true rfl, Nat.le_of_ble_eq_true rfl⟩) ⟨fun a U g mk q => ⟨q.1, q.2.1, q.2.2.1, LY.moved (u := U) (U := U.calling g mk a) (Vm.Alike.refl U.vm) q.2.2.2⟩, va_recv hK hP (ci := 13) (q0 := 0) rfl (wo_at (by decide) f_35), fun U hU hW => ⟨rfl, by rw [hU]; exact fun q h => hA q (Nat.le_trans hS.1 h), by rw [hU]; exact hP, LY.moved hW.alike hL⟩⟩ rfl rfl hl.1 rfl (lv_room (Nat.le_of_ble_eq_true rfl)) dX10_bits_51 ⟨(Nat.le_of_ble_eq_true rfl), (Nat.le_of_ble_eq_true rfl)⟩) hS (fun q _ h => h) (fun q h => h) (fun r_44 u8 t8 H1 locs ht8 hvm8 hw_45 hB hz1 hk1 hS => ?_)
        obtain ⟨⟩ := u8
        try dsimp only at hw_45 hB
        rw [ht8] at hB
        have hP := hB
        generalize H1 = H at hP hS ⊢
        refine W.widen (k := 0) (n := 0) (by omega) (by omega) ?_
        exact W.iret (v := r_44) hx hb hr (fun t9 ht9 hW9 => ⟨⟨r_44, (g_34, va_up x 0 (nI 0)), rfl, ⟨RI.num hI0 (hF0.setx (fun (k : Nat) (hk : k = 1 ∨ k = 2 ∨ k = 3) => (fr_36 k (by omega)).trans (rfl)) f_35 rfl) (fun (k : Nat) (hk : (4 ≤ k ∧ k ≤ 11) ∨ k = 16) => (fr_36 k (by omega)).trans (rfl)) (hVO0.same (fun (k : Nat) (hk : 12 ≤ k ∧ k ≤ 19) => (fr_36 k (by omega)).trans (rfl))) (va_up_ne _ _ (by decide)) (va_up_ne _ _ (by decide)) (va_up_ne _ _ (by decide)) (fun _ _ => ⟨rfl, rfl⟩) hBd, (va_up_ne _ _ (by decide)), Or.inl (va_up_self _ _ _)⟩, by show va_P (dC, dI) vwCl _ t9.heap; rw [ht9]; exact hP⟩, hS.F ht9⟩) hS.2.2 dX10_bits_54
      · have c_33 := mt Int32.toInt_inj.mp c_33
        rw [show (nI 1).toInt = 1 from by decide] at c_33
        refine lv_iconst (v := nI 2) hx hb dX10_bits_22 (by decide +kernel) ?_
        refine lv_goto (tgt := 27) hx hb dX10_bits_23 (by decide) ?_
        refine m_put (D := (dC, dI)) (v := .int (nI 2)) (tv := .int) (C := RX10) (T := TX10) (N := 29) hx hb hts bk1 tyX10 tyX10_ok nmX10 hown hK hP hD hS 0 (by decide) r_3 rfl 0 (by decide) (hts (.fieldLink RX10 78 "GradientDeskModel" "thrown" "I") (List.mem_of_getElem? (i := 5) rfl)) (fun _ h9 => h9) rfl (by decide +kernel) rfl rfl (Nat.le_of_ble_eq_true rfl) dX10_bits_27 (fun H locs g_46 f_47 fr_48 hP hS => ?_)
        have f_47 : g_46 0 = .inr (13, Rob ad (va_up x 0 (nI 2))) := f_47
        refine lv_aload_n hx hb dX10_bits_30 rfl (lv_at hl 0 rfl) ?_
        refine m_get (D := (dC, dI)) (v := .int (nI 2)) (C := RX10) (T := TX10) (N := 29) hx hb hts bk1 hown hK hP 0 (by decide) f_47 rfl 0 (by decide) (hts (.fieldLink RX10 78 "GradientDeskModel" "thrown" "I") (List.mem_of_getElem? (i := 5) rfl)) (fun _ h9 => h9) (congrArg (fun z => some (Value.int z)) (show (va_up x 0 (nI 2)) 0 = (nI 2) from rfl)) dX10_bits_31 ?_
        refine lv_if_le (tgt := 41) hx hb dX10_bits_34 (by decide) (fun c_49 => absurd c_49 (by decide)) (fun c_49 => ?_)
        refine lv_iconst (v := nI 0) hx hb dX10_bits_37 (by decide +kernel) ?_
        refine lv_goto (tgt := 54) hx hb dX10_bits_38 (by decide) ?_
        refine W.widen (k := 0) (n := 0) (by omega) (by omega) ?_
        exact W.iret (v := nI 0) hx hb hr (fun t9 ht9 hW9 => ⟨⟨nI 0, (g_46, va_up x 0 (nI 2)), rfl, ⟨RI.num hI0 (hF0.setx (fun (k : Nat) (hk : k = 1 ∨ k = 2 ∨ k = 3) => (fr_48 k (by omega)).trans (rfl)) f_47 rfl) (fun (k : Nat) (hk : (4 ≤ k ∧ k ≤ 11) ∨ k = 16) => (fr_48 k (by omega)).trans (rfl)) (hVO0.same (fun (k : Nat) (hk : 12 ≤ k ∧ k ≤ 19) => (fr_48 k (by omega)).trans (rfl))) (va_up_ne _ _ (by decide)) (va_up_ne _ _ (by decide)) (va_up_ne _ _ (by decide)) (fun _ _ => ⟨rfl, rfl⟩) hBd, (va_up_ne _ _ (by decide)), Or.inr (Or.inr (va_up_self _ _ _))⟩, by show va_P (dC, dI) vwCl _ t9.heap; rw [ht9]; exact hP⟩, hS.F ht9⟩) hS.2.2 dX10_bits_54
  · skip
    refine lv_if_eq (tgt := 13) hx hb dX10_bits_6 (by decide) (fun c_50 => absurd c_50 (by decide)) (fun c_50 => ?_)
    refine lv_iconst (v := nI 1) hx hb dX10_bits_9 (by decide +kernel) ?_
    refine lv_goto (tgt := 27) hx hb dX10_bits_10 (by decide) ?_
    refine m_put (D := (dC, dI)) (v := .int (nI 1)) (tv := .int) (C := RX10) (T := TX10) (N := 29) hx hb hts bk1 tyX10 tyX10_ok nmX10 hown hK hP hD hS 0 (by decide) r_3 rfl 0 (by decide) (hts (.fieldLink RX10 78 "GradientDeskModel" "thrown" "I") (List.mem_of_getElem? (i := 5) rfl)) (fun _ h9 => h9) rfl (by decide +kernel) rfl rfl (Nat.le_of_ble_eq_true rfl) dX10_bits_27 (fun H locs g_51 f_52 fr_53 hP hS => ?_)
    have f_52 : g_51 0 = .inr (13, Rob ad (va_up x 0 (nI 1))) := f_52
    refine lv_aload_n hx hb dX10_bits_30 rfl (lv_at hl 0 rfl) ?_
    refine m_get (D := (dC, dI)) (v := .int (nI 1)) (C := RX10) (T := TX10) (N := 29) hx hb hts bk1 hown hK hP 0 (by decide) f_52 rfl 0 (by decide) (hts (.fieldLink RX10 78 "GradientDeskModel" "thrown" "I") (List.mem_of_getElem? (i := 5) rfl)) (fun _ h9 => h9) (congrArg (fun z => some (Value.int z)) (show (va_up x 0 (nI 1)) 0 = (nI 1) from rfl)) dX10_bits_31 ?_
    refine lv_if_le (tgt := 41) hx hb dX10_bits_34 (by decide) (fun c_54 => absurd c_54 (by decide)) (fun c_54 => ?_)
    refine lv_iconst (v := nI 0) hx hb dX10_bits_37 (by decide +kernel) ?_
    refine lv_goto (tgt := 54) hx hb dX10_bits_38 (by decide) ?_
    refine W.widen (k := 0) (n := 0) (by omega) (by omega) ?_
    exact W.iret (v := nI 0) hx hb hr (fun t9 ht9 hW9 => ⟨⟨nI 0, (g_51, va_up x 0 (nI 1)), rfl, ⟨RI.num hI0 (hF0.setx (fun (k : Nat) (hk : k = 1 ∨ k = 2 ∨ k = 3) => (fr_53 k (by omega)).trans (rfl)) f_52 rfl) (fun (k : Nat) (hk : (4 ≤ k ∧ k ≤ 11) ∨ k = 16) => (fr_53 k (by omega)).trans (rfl)) (hVO0.same (fun (k : Nat) (hk : 12 ≤ k ∧ k ≤ 19) => (fr_53 k (by omega)).trans (rfl))) (va_up_ne _ _ (by decide)) (va_up_ne _ _ (by decide)) (va_up_ne _ _ (by decide)) (fun _ _ => ⟨rfl, rfl⟩) hBd, (va_up_ne _ _ (by decide)), Or.inr (Or.inl (va_up_self _ _ _))⟩, by show va_P (dC, dI) vwCl _ t9.heap; rw [ht9]; exact hP⟩, hS.F ht9⟩) hS.2.2 dX10_bits_54
def wd_X10_word : List Cond := .code yX10_word cX10_word 4 (some .int) :: (([.methodLink RX10 266 yX10_noResult, .instanceMethod yX10_noResult, .selects RX10 yX10_noResult yX10_noResult, .initialized RX10, .fieldLink RX10 78 "GradientDeskModel" "thrown" "I", .methodLink RX10 87 yX10_piece, .instanceMethod yX10_piece, .selects RX10 yX10_piece yX10_piece] : List Cond) ++ (wd_X10_noResult ++ (u_ws RX10 TX10 29 ++ (wd_X10_piece ++ ([])))))
theorem gw_X10_word : wd_X10_word.all goodWord = true := k_allc rfl (k_all (by decide +kernel) (k_all (gw_X10_noResult) (k_all (gu_X10) (k_all (gw_X10_piece) (rfl)))))
set_option maxHeartbeats 4000000 in
set_option maxRecDepth 100000 in
theorem c_X10_word (l : Launch) (dC : Nat → ClassId) (dI : Nat → Nat → Nat) (A : Nat → Prop) (ad : Nat → Nat) (cA : Nat → ClassId) (g : Nat → va_E) (x : Nat → Int32) (L : List PD) (nm : Nat → Int) (tx : Nat → Nat) (ty : Nat) (wr : List Int) (v : Int32) (w1 : Int32) (w2 : Int32) (hI : RIE ad cA g x L nm tx ty wr) : Met l yX10_word wd_X10_word ({ frames := 30, cells := 0, slots := 0, locals := 600 }) (va_Pc [.ref (ad 0), .int v, .int w1, .int w2] (PR NSr tyr dC dI A ad cA g)) (va_Qi (fun (r : Int32) => fun (u : (Nat → va_E) × (Nat → Int32)) => match u with | (g2, x2) => RIE ad cA g2 x2 L nm tx ty wr ∧ x2 2 = x 2 ∧ (x2 0 = nI 0 ∨ x2 0 = nI 1 ∨ x2 0 = nI 2)) (fun (u : (Nat → va_E) × (Nat → Int32)) (t : State) => va_P (dC, dI) vwCl (wo ad NSr u.1) t.heap) A) (0) (0) A := by
  refine Met.ofW (cc := cX10_word) (maxL := 4) (ret := (some .int)) (by decide) rfl ?_
  intro p e s m args below meth c s₁ B hml hv
  obtain ⟨rfl, hA, hP, hL⟩ := hv
  have hx := B.exec
  have hb := B.bytes
  have hr := B.returns
  have hts := atoms_spec (ws := wd_X10_word) B.pre
  have hown : s.vm.findClass RX10 = some m.cls := findClass_of_methodNamed B.named
  have hlocks := B.notSynchronized
  have hK := hL.1
  have hD : ∀ g, va_D A (wo ad NSr g) := fun g => wo_D hL.2.1 hL.2.2 g
  have hS : va_S A s.heap s.heap [] := va_S.rf
  have bk0 : ∀ w ∈ wd_X10_noResult, w ∈ wd_X10_word := fun _ h => List.mem_cons_of_mem _ (List.mem_append_right _ (List.mem_append_left _ h))
  have bk1 : ∀ w ∈ u_ws RX10 TX10 29, w ∈ wd_X10_word := fun _ h => List.mem_cons_of_mem _ (List.mem_append_right _ (List.mem_append_right _ (List.mem_append_left _ h)))
  have bk2 : ∀ w ∈ wd_X10_piece, w ∈ wd_X10_word := fun _ h => List.mem_cons_of_mem _ (List.mem_append_right _ (List.mem_append_right _ (List.mem_append_right _ (List.mem_append_left _ h))))
  have hl := lv_entry ([.ref (ad 0), .int v, .int w1, .int w2]) (n := 4) (Nat.le_of_ble_eq_true rfl)
  rw [lg_entry_eq]
  generalize (lg_sl ([.ref (ad 0), .int v, .int w1, .int w2]) ++ List.replicate (4 - (lg_sl ([.ref (ad 0), .int v, .int w1, .int w2])).length) Slot.unset).toArray = ls at hl ⊢
  have hl : lv_has ls 4 [(0, .ref (ad 0)), (1, .int v), (2, .int w1), (3, .int w2)] := hl
  obtain ⟨pf, qf, pt, hI0⟩ := hI
  have hI1 := hI0
  obtain ⟨hF, hPt, hM, hW, hL2, hmd, hTx, hty, hty2, hwr, hwr2, hVO, hBd⟩ := hI1
  have hVO0 := hVO
  have hPt0 := hPt
  have hTx0 := hTx
  have hF0 := hF
  obtain ⟨vf, hV, hq⟩ := hF
  have hc_1 := hV
  obtain ⟨pnz_2, lnz_2, bnz_2, hRz_2, hvz_2⟩ := hc_1
  obtain ⟨r_3, r_4, r_5, r_6, r_7, r_8, r_9⟩ := hRz_2
  obtain ⟨p_10, p_11, p_12, p_13, p_14, p_15, hpt_16⟩ := hPt
  obtain ⟨t4, t4b, t11, t11b, t11c⟩ := hTx
  obtain ⟨⟨rc, v12, v12b⟩, ⟨f13, v13⟩, ⟨f14, v14⟩, ⟨f15, v15⟩, ⟨f16, v16⟩, ⟨f17, v17⟩, ⟨f18, v18⟩, ⟨f19, v19⟩⟩ := hVO
  refine lv_aload_n hx hb dX10_word_0 rfl (lv_at hl 0 rfl) ?_
  refine lv_aload_n hx hb dX10_word_1 rfl (lv_at hl 0 rfl) ?_
  refine lv_iload_n hx hb dX10_word_2 rfl (lv_at hl 1 rfl) ?_
  refine va_calli (va_runV (As := [.int v]) (rest := [.ref (ad 0)]) ⟨hx, hb, hml, hown, hts⟩ (c_X10_noResult l dC dI A ad cA g v ) (cwV 1 hts (goodIn_app (goodIn_r [Cond.methodLink RX10 266 yX10_noResult, Cond.instanceMethod yX10_noResult, Cond.selects RX10 yX10_noResult yX10_noResult, Cond.initialized RX10] [1, 2, 3, 4] rfl rfl) (goodIn_sub (fun w9 h9 => bk0 w9 h9) gw_X10_noResult)) rfl rfl rfl (by decide +kernel) ⟨Nat.le_of_ble_eq_true rfl, Nat.le_of_ble_eq_true rfl⟩) ⟨fun a U g mk q => ⟨q.1, q.2.1, q.2.2.1, LY.moved (u := U) (U := U.calling g mk a) (Vm.Alike.refl U.vm) q.2.2.2⟩, va_recv hK hP (ci := 13) (q0 := 0) rfl (wo_at (by decide) r_3), fun U hU hW => ⟨rfl, by rw [hU]; exact fun q h => hA q (Nat.le_trans hS.1 h), by rw [hU]; exact hP, LY.moved hW.alike hL⟩⟩ rfl rfl hl.1 rfl (lv_room (Nat.le_of_ble_eq_true rfl)) dX10_word_3 ⟨(Nat.le_of_ble_eq_true rfl), (Nat.le_of_ble_eq_true rfl)⟩) hS (fun q _ h => h) (fun q h => h) (fun r_17 u8 t8 H1 locs ht8 hvm8 hw_18 hB hz1 hk1 hS => ?_)
  obtain ⟨⟩ := u8
  try dsimp only at hw_18 hB
  rw [ht8] at hB
  have hP := hB
  generalize H1 = H at hP hS ⊢
  rcases hw_18 with ⟨rfl, hnrv⟩ | ⟨rfl, hnrv⟩
  · skip
    refine lv_if_ne (tgt := 19) hx hb dX10_word_6 (by decide) (fun c_19 => absurd c_19 (by decide)) (fun c_19 => ?_)
    refine lv_iload_n hx hb dX10_word_9 rfl (lv_at hl 3 rfl) ?_
    refine lv_if_lt (tgt := 19) hx hb dX10_word_10 (by decide) (fun c_20 => ?_) (fun c_20 => ?_)
    · have c_20 := (k_lt w2 (nI 0)).mp c_20
      rw [show (nI 0).toInt = 0 from by decide] at c_20
      refine lv_iconst (v := nI 1) hx hb dX10_word_19 (by decide +kernel) ?_
      refine lv_goto (tgt := 37) hx hb dX10_word_20 (by decide) ?_
      refine m_put (D := (dC, dI)) (v := .int (nI 1)) (tv := .int) (C := RX10) (T := TX10) (N := 29) hx hb hts bk1 tyX10 tyX10_ok nmX10 hown hK hP hD hS 0 (by decide) r_3 rfl 0 (by decide) (hts (.fieldLink RX10 78 "GradientDeskModel" "thrown" "I") (List.mem_of_getElem? (i := 5) rfl)) (fun _ h9 => h9) rfl (by decide +kernel) rfl rfl (Nat.le_of_ble_eq_true rfl) dX10_word_37 (fun H locs g_21 f_22 fr_23 hP hS => ?_)
      have f_22 : g_21 0 = .inr (13, Rob ad (va_up x 0 (nI 1))) := f_22
      refine lv_aload_n hx hb dX10_word_40 rfl (lv_at hl 0 rfl) ?_
      refine m_get (D := (dC, dI)) (v := .int (nI 1)) (C := RX10) (T := TX10) (N := 29) hx hb hts bk1 hown hK hP 0 (by decide) f_22 rfl 0 (by decide) (hts (.fieldLink RX10 78 "GradientDeskModel" "thrown" "I") (List.mem_of_getElem? (i := 5) rfl)) (fun _ h9 => h9) (congrArg (fun z => some (Value.int z)) (show (va_up x 0 (nI 1)) 0 = (nI 1) from rfl)) dX10_word_41 ?_
      refine lv_if_le (tgt := 51) hx hb dX10_word_44 (by decide) (fun c_24 => absurd c_24 (by decide)) (fun c_24 => ?_)
      refine lv_iconst (v := nI 0) hx hb dX10_word_47 (by decide +kernel) ?_
      refine lv_goto (tgt := 66) hx hb dX10_word_48 (by decide) ?_
      refine W.widen (k := 0) (n := 0) (by omega) (by omega) ?_
      exact W.iret (v := nI 0) hx hb hr (fun t9 ht9 hW9 => ⟨⟨nI 0, (g_21, va_up x 0 (nI 1)), rfl, ⟨RI.num hI0 (hF0.setx (fun (k : Nat) (hk : k = 1 ∨ k = 2 ∨ k = 3) => (fr_23 k (by omega)).trans (rfl)) f_22 rfl) (fun (k : Nat) (hk : (4 ≤ k ∧ k ≤ 11) ∨ k = 16) => (fr_23 k (by omega)).trans (rfl)) (hVO0.same (fun (k : Nat) (hk : 12 ≤ k ∧ k ≤ 19) => (fr_23 k (by omega)).trans (rfl))) (va_up_ne _ _ (by decide)) (va_up_ne _ _ (by decide)) (va_up_ne _ _ (by decide)) (fun _ _ => ⟨rfl, rfl⟩) hBd, (va_up_ne _ _ (by decide)), Or.inr (Or.inl (va_up_self _ _ _))⟩, by show va_P (dC, dI) vwCl _ t9.heap; rw [ht9]; exact hP⟩, hS.F ht9⟩) hS.2.2 dX10_word_66
    · have c_20 := mt (k_lt w2 (nI 0)).mpr c_20
      rw [show (nI 0).toInt = 0 from by decide] at c_20
      refine lv_iload_n hx hb dX10_word_13 rfl (lv_at hl 3 rfl) ?_
      refine lv_bipush (v := nI 63) hx hb dX10_word_14 (by decide +kernel) ?_
      refine lv_icmp_le (tgt := 23) hx hb dX10_word_16 (by decide) (fun c_25 => ?_) (fun c_25 => ?_)
      · have c_25 := (k_le w2 (nI 63)).mp c_25
        rw [show (nI 63).toInt = 63 from by decide] at c_25
        refine lv_iload_n hx hb dX10_word_23 rfl (lv_at hl 2 rfl) ?_
        refine lv_if_eq (tgt := 36) hx hb dX10_word_24 (by decide) (fun c_26 => ?_) (fun c_26 => ?_)
        · have c_26 := congrArg Int32.toInt c_26
          rw [show (0 : Int32).toInt = 0 from by decide] at c_26
          refine lv_iconst (v := nI 0) hx hb dX10_word_36 (by decide +kernel) ?_
          refine m_put (D := (dC, dI)) (v := .int (nI 0)) (tv := .int) (C := RX10) (T := TX10) (N := 29) hx hb hts bk1 tyX10 tyX10_ok nmX10 hown hK hP hD hS 0 (by decide) r_3 rfl 0 (by decide) (hts (.fieldLink RX10 78 "GradientDeskModel" "thrown" "I") (List.mem_of_getElem? (i := 5) rfl)) (fun _ h9 => h9) rfl (by decide +kernel) rfl rfl (Nat.le_of_ble_eq_true rfl) dX10_word_37 (fun H locs g_27 f_28 fr_29 hP hS => ?_)
          have f_28 : g_27 0 = .inr (13, Rob ad (va_up x 0 (nI 0))) := f_28
          refine lv_aload_n hx hb dX10_word_40 rfl (lv_at hl 0 rfl) ?_
          refine m_get (D := (dC, dI)) (v := .int (nI 0)) (C := RX10) (T := TX10) (N := 29) hx hb hts bk1 hown hK hP 0 (by decide) f_28 rfl 0 (by decide) (hts (.fieldLink RX10 78 "GradientDeskModel" "thrown" "I") (List.mem_of_getElem? (i := 5) rfl)) (fun _ h9 => h9) (congrArg (fun z => some (Value.int z)) (show (va_up x 0 (nI 0)) 0 = (nI 0) from rfl)) dX10_word_41 ?_
          refine lv_if_le (tgt := 51) hx hb dX10_word_44 (by decide) (fun c_30 => ?_) (fun c_30 => absurd c_30 (by decide))
          obtain ⟨rn, hrn, ern, -⟩ := k_nat (x := v) (by omega)
          subst hrn
          obtain ⟨tn, htn, etn, -⟩ := k_nat (x := w1) (by omega)
          subst htn
          obtain ⟨kn, hkn, ekn, -⟩ := k_nat (x := w2) (by omega)
          subst hkn
          refine lv_aload_n hx hb dX10_word_51 rfl (lv_at hl 0 rfl) ?_
          refine lv_iconst (v := nI 2) hx hb dX10_word_52 (by decide +kernel) ?_
          refine lv_sipush (v := nI 1000) hx hb dX10_word_53 (by decide +kernel) ?_
          refine lv_iload_n hx hb dX10_word_56 rfl (lv_at hl 1 rfl) ?_
          refine lv_iadd hx hb dX10_word_57 ?_
          refine lv_topi (fun x_31 e_32 => ?_)
          obtain rfl : x_31 = nI (1000 + rn) := e_32.trans (nI_add 1000 rn)
          refine lv_imul hx hb dX10_word_58 ?_
          refine lv_topi (fun x_33 e_34 => ?_)
          obtain rfl : x_33 = nI (2 * (1000 + rn)) := e_34.trans (pk_mul 2 (1000 + rn))
          refine lv_iload_n hx hb dX10_word_59 rfl (lv_at hl 2 rfl) ?_
          refine lv_iadd hx hb dX10_word_60 ?_
          refine lv_topi (fun x_35 e_36 => ?_)
          obtain rfl : x_35 = nI (2 * (1000 + rn) + tn) := e_36.trans (nI_add (2 * (1000 + rn)) tn)
          refine lv_iload_n hx hb dX10_word_61 rfl (lv_at hl 3 rfl) ?_
          have hV9 : RV ad cA g_27 (va_up x 0 (nI 0)) vf := hV.setx (fun (k : Nat) (hk : k = 1 ∨ k = 2 ∨ k = 3) => (fr_29 k (by omega)).trans (rfl)) f_28
          obtain ⟨pn9, ln9, bn9, hN9, hv9⟩ := hV9
          have hl9 := (hv9 (2 * (1000 + rn) + tn) (by omega)).1
          refine va_calll (va_runV (As := [.int (nI (2 * (1000 + rn) + tn)), .int (nI kn)]) (rest := []) ⟨hx, hb, hml, hown, hts⟩ (c_X10_piece l dC dI A ad cA g_27 (va_up x 0 (nI 0)) pn9 ln9 bn9 (2 * (1000 + rn) + tn) kn hN9 (by omega) hl9 (by omega)) (cwV 2 hts (goodIn_app (goodIn_r [Cond.methodLink RX10 87 yX10_piece, Cond.instanceMethod yX10_piece, Cond.selects RX10 yX10_piece yX10_piece, Cond.initialized RX10] [6, 7, 8, 4] rfl rfl) (goodIn_sub (fun w9 h9 => bk2 w9 h9) gw_X10_piece)) rfl rfl rfl (by decide +kernel) ⟨Nat.le_of_ble_eq_true rfl, Nat.le_of_ble_eq_true rfl⟩) ⟨fun a U g mk q => ⟨q.1, q.2.1, q.2.2.1, LY.moved (u := U) (U := U.calling g mk a) (Vm.Alike.refl U.vm) q.2.2.2⟩, va_recv hK hP (ci := 13) (q0 := 0) rfl (wo_at (by decide) f_28), fun U hU hW => ⟨rfl, by rw [hU]; exact fun q h => hA q (Nat.le_trans hS.1 h), by rw [hU]; exact hP, LY.moved hW.alike hL⟩⟩ rfl rfl hl.1 rfl (lv_room (Nat.le_of_ble_eq_true rfl)) dX10_word_62 ⟨(Nat.le_of_ble_eq_true rfl), (Nat.le_of_ble_eq_true rfl)⟩) hS (fun q _ h => h) (fun q h => h) (fun r_37 u8 t8 H1 locs ht8 hvm8 hw_38 hB hz1 hk1 hS => ?_)
          obtain ⟨⟩ := u8
          try dsimp only at hw_38 hB
          rw [ht8] at hB
          have hP := hB
          generalize H1 = H at hP hS ⊢
          refine lv_l2i hx hb dX10_word_65 rfl ?_
          refine lv_topi (fun x_39 e_40 => ?_)
          refine W.widen (k := 0) (n := 0) (by omega) (by omega) ?_
          exact W.iret (v := x_39) hx hb hr (fun t9 ht9 hW9 => ⟨⟨x_39, (g_27, va_up x 0 (nI 0)), rfl, ⟨RI.num hI0 (hF0.setx (fun (k : Nat) (hk : k = 1 ∨ k = 2 ∨ k = 3) => (fr_29 k (by omega)).trans (rfl)) f_28 rfl) (fun (k : Nat) (hk : (4 ≤ k ∧ k ≤ 11) ∨ k = 16) => (fr_29 k (by omega)).trans (rfl)) (hVO0.same (fun (k : Nat) (hk : 12 ≤ k ∧ k ≤ 19) => (fr_29 k (by omega)).trans (rfl))) (va_up_ne _ _ (by decide)) (va_up_ne _ _ (by decide)) (va_up_ne _ _ (by decide)) (fun _ _ => ⟨rfl, rfl⟩) hBd, (va_up_ne _ _ (by decide)), Or.inl (va_up_self _ _ _)⟩, by show va_P (dC, dI) vwCl _ t9.heap; rw [ht9]; exact hP⟩, hS.F ht9⟩) hS.2.2 dX10_word_66
        · have c_26 := mt Int32.toInt_inj.mp c_26
          rw [show (0 : Int32).toInt = 0 from by decide] at c_26
          refine lv_iload_n hx hb dX10_word_27 rfl (lv_at hl 2 rfl) ?_
          refine lv_iconst (v := nI 1) hx hb dX10_word_28 (by decide +kernel) ?_
          refine lv_icmp_eq (tgt := 36) hx hb dX10_word_29 (by decide) (fun c_41 => ?_) (fun c_41 => ?_)
          · have c_41 := congrArg Int32.toInt c_41
            rw [show (nI 1).toInt = 1 from by decide] at c_41
            refine lv_iconst (v := nI 0) hx hb dX10_word_36 (by decide +kernel) ?_
            refine m_put (D := (dC, dI)) (v := .int (nI 0)) (tv := .int) (C := RX10) (T := TX10) (N := 29) hx hb hts bk1 tyX10 tyX10_ok nmX10 hown hK hP hD hS 0 (by decide) r_3 rfl 0 (by decide) (hts (.fieldLink RX10 78 "GradientDeskModel" "thrown" "I") (List.mem_of_getElem? (i := 5) rfl)) (fun _ h9 => h9) rfl (by decide +kernel) rfl rfl (Nat.le_of_ble_eq_true rfl) dX10_word_37 (fun H locs g_42 f_43 fr_44 hP hS => ?_)
            have f_43 : g_42 0 = .inr (13, Rob ad (va_up x 0 (nI 0))) := f_43
            refine lv_aload_n hx hb dX10_word_40 rfl (lv_at hl 0 rfl) ?_
            refine m_get (D := (dC, dI)) (v := .int (nI 0)) (C := RX10) (T := TX10) (N := 29) hx hb hts bk1 hown hK hP 0 (by decide) f_43 rfl 0 (by decide) (hts (.fieldLink RX10 78 "GradientDeskModel" "thrown" "I") (List.mem_of_getElem? (i := 5) rfl)) (fun _ h9 => h9) (congrArg (fun z => some (Value.int z)) (show (va_up x 0 (nI 0)) 0 = (nI 0) from rfl)) dX10_word_41 ?_
            refine lv_if_le (tgt := 51) hx hb dX10_word_44 (by decide) (fun c_45 => ?_) (fun c_45 => absurd c_45 (by decide))
            obtain ⟨rn, hrn, ern, -⟩ := k_nat (x := v) (by omega)
            subst hrn
            obtain ⟨tn, htn, etn, -⟩ := k_nat (x := w1) (by omega)
            subst htn
            obtain ⟨kn, hkn, ekn, -⟩ := k_nat (x := w2) (by omega)
            subst hkn
            refine lv_aload_n hx hb dX10_word_51 rfl (lv_at hl 0 rfl) ?_
            refine lv_iconst (v := nI 2) hx hb dX10_word_52 (by decide +kernel) ?_
            refine lv_sipush (v := nI 1000) hx hb dX10_word_53 (by decide +kernel) ?_
            refine lv_iload_n hx hb dX10_word_56 rfl (lv_at hl 1 rfl) ?_
            refine lv_iadd hx hb dX10_word_57 ?_
            refine lv_topi (fun x_46 e_47 => ?_)
            obtain rfl : x_46 = nI (1000 + rn) := e_47.trans (nI_add 1000 rn)
            refine lv_imul hx hb dX10_word_58 ?_
            refine lv_topi (fun x_48 e_49 => ?_)
            obtain rfl : x_48 = nI (2 * (1000 + rn)) := e_49.trans (pk_mul 2 (1000 + rn))
            refine lv_iload_n hx hb dX10_word_59 rfl (lv_at hl 2 rfl) ?_
            refine lv_iadd hx hb dX10_word_60 ?_
            refine lv_topi (fun x_50 e_51 => ?_)
            obtain rfl : x_50 = nI (2 * (1000 + rn) + tn) := e_51.trans (nI_add (2 * (1000 + rn)) tn)
            refine lv_iload_n hx hb dX10_word_61 rfl (lv_at hl 3 rfl) ?_
            have hV9 : RV ad cA g_42 (va_up x 0 (nI 0)) vf := hV.setx (fun (k : Nat) (hk : k = 1 ∨ k = 2 ∨ k = 3) => (fr_44 k (by omega)).trans (rfl)) f_43
            obtain ⟨pn9, ln9, bn9, hN9, hv9⟩ := hV9
            have hl9 := (hv9 (2 * (1000 + rn) + tn) (by omega)).1
            refine va_calll (va_runV (As := [.int (nI (2 * (1000 + rn) + tn)), .int (nI kn)]) (rest := []) ⟨hx, hb, hml, hown, hts⟩ (c_X10_piece l dC dI A ad cA g_42 (va_up x 0 (nI 0)) pn9 ln9 bn9 (2 * (1000 + rn) + tn) kn hN9 (by omega) hl9 (by omega)) (cwV 2 hts (goodIn_app (goodIn_r [Cond.methodLink RX10 87 yX10_piece, Cond.instanceMethod yX10_piece, Cond.selects RX10 yX10_piece yX10_piece, Cond.initialized RX10] [6, 7, 8, 4] rfl rfl) (goodIn_sub (fun w9 h9 => bk2 w9 h9) gw_X10_piece)) rfl rfl rfl (by decide +kernel) ⟨Nat.le_of_ble_eq_true rfl, Nat.le_of_ble_eq_true rfl⟩) ⟨fun a U g mk q => ⟨q.1, q.2.1, q.2.2.1, LY.moved (u := U) (U := U.calling g mk a) (Vm.Alike.refl U.vm) q.2.2.2⟩, va_recv hK hP (ci := 13) (q0 := 0) rfl (wo_at (by decide) f_43), fun U hU hW => ⟨rfl, by rw [hU]; exact fun q h => hA q (Nat.le_trans hS.1 h), by rw [hU]; exact hP, LY.moved hW.alike hL⟩⟩ rfl rfl hl.1 rfl (lv_room (Nat.le_of_ble_eq_true rfl)) dX10_word_62 ⟨(Nat.le_of_ble_eq_true rfl), (Nat.le_of_ble_eq_true rfl)⟩) hS (fun q _ h => h) (fun q h => h) (fun r_52 u8 t8 H1 locs ht8 hvm8 hw_53 hB hz1 hk1 hS => ?_)
            obtain ⟨⟩ := u8
            try dsimp only at hw_53 hB
            rw [ht8] at hB
            have hP := hB
            generalize H1 = H at hP hS ⊢
            refine lv_l2i hx hb dX10_word_65 rfl ?_
            refine lv_topi (fun x_54 e_55 => ?_)
            refine W.widen (k := 0) (n := 0) (by omega) (by omega) ?_
            exact W.iret (v := x_54) hx hb hr (fun t9 ht9 hW9 => ⟨⟨x_54, (g_42, va_up x 0 (nI 0)), rfl, ⟨RI.num hI0 (hF0.setx (fun (k : Nat) (hk : k = 1 ∨ k = 2 ∨ k = 3) => (fr_44 k (by omega)).trans (rfl)) f_43 rfl) (fun (k : Nat) (hk : (4 ≤ k ∧ k ≤ 11) ∨ k = 16) => (fr_44 k (by omega)).trans (rfl)) (hVO0.same (fun (k : Nat) (hk : 12 ≤ k ∧ k ≤ 19) => (fr_44 k (by omega)).trans (rfl))) (va_up_ne _ _ (by decide)) (va_up_ne _ _ (by decide)) (va_up_ne _ _ (by decide)) (fun _ _ => ⟨rfl, rfl⟩) hBd, (va_up_ne _ _ (by decide)), Or.inl (va_up_self _ _ _)⟩, by show va_P (dC, dI) vwCl _ t9.heap; rw [ht9]; exact hP⟩, hS.F ht9⟩) hS.2.2 dX10_word_66
          · have c_41 := mt Int32.toInt_inj.mp c_41
            rw [show (nI 1).toInt = 1 from by decide] at c_41
            refine lv_iconst (v := nI 2) hx hb dX10_word_32 (by decide +kernel) ?_
            refine lv_goto (tgt := 37) hx hb dX10_word_33 (by decide) ?_
            refine m_put (D := (dC, dI)) (v := .int (nI 2)) (tv := .int) (C := RX10) (T := TX10) (N := 29) hx hb hts bk1 tyX10 tyX10_ok nmX10 hown hK hP hD hS 0 (by decide) r_3 rfl 0 (by decide) (hts (.fieldLink RX10 78 "GradientDeskModel" "thrown" "I") (List.mem_of_getElem? (i := 5) rfl)) (fun _ h9 => h9) rfl (by decide +kernel) rfl rfl (Nat.le_of_ble_eq_true rfl) dX10_word_37 (fun H locs g_56 f_57 fr_58 hP hS => ?_)
            have f_57 : g_56 0 = .inr (13, Rob ad (va_up x 0 (nI 2))) := f_57
            refine lv_aload_n hx hb dX10_word_40 rfl (lv_at hl 0 rfl) ?_
            refine m_get (D := (dC, dI)) (v := .int (nI 2)) (C := RX10) (T := TX10) (N := 29) hx hb hts bk1 hown hK hP 0 (by decide) f_57 rfl 0 (by decide) (hts (.fieldLink RX10 78 "GradientDeskModel" "thrown" "I") (List.mem_of_getElem? (i := 5) rfl)) (fun _ h9 => h9) (congrArg (fun z => some (Value.int z)) (show (va_up x 0 (nI 2)) 0 = (nI 2) from rfl)) dX10_word_41 ?_
            refine lv_if_le (tgt := 51) hx hb dX10_word_44 (by decide) (fun c_59 => absurd c_59 (by decide)) (fun c_59 => ?_)
            refine lv_iconst (v := nI 0) hx hb dX10_word_47 (by decide +kernel) ?_
            refine lv_goto (tgt := 66) hx hb dX10_word_48 (by decide) ?_
            refine W.widen (k := 0) (n := 0) (by omega) (by omega) ?_
            exact W.iret (v := nI 0) hx hb hr (fun t9 ht9 hW9 => ⟨⟨nI 0, (g_56, va_up x 0 (nI 2)), rfl, ⟨RI.num hI0 (hF0.setx (fun (k : Nat) (hk : k = 1 ∨ k = 2 ∨ k = 3) => (fr_58 k (by omega)).trans (rfl)) f_57 rfl) (fun (k : Nat) (hk : (4 ≤ k ∧ k ≤ 11) ∨ k = 16) => (fr_58 k (by omega)).trans (rfl)) (hVO0.same (fun (k : Nat) (hk : 12 ≤ k ∧ k ≤ 19) => (fr_58 k (by omega)).trans (rfl))) (va_up_ne _ _ (by decide)) (va_up_ne _ _ (by decide)) (va_up_ne _ _ (by decide)) (fun _ _ => ⟨rfl, rfl⟩) hBd, (va_up_ne _ _ (by decide)), Or.inr (Or.inr (va_up_self _ _ _))⟩, by show va_P (dC, dI) vwCl _ t9.heap; rw [ht9]; exact hP⟩, hS.F ht9⟩) hS.2.2 dX10_word_66
      · have c_25 := mt (k_le w2 (nI 63)).mpr c_25
        rw [show (nI 63).toInt = 63 from by decide] at c_25
        refine lv_iconst (v := nI 1) hx hb dX10_word_19 (by decide +kernel) ?_
        refine lv_goto (tgt := 37) hx hb dX10_word_20 (by decide) ?_
        refine m_put (D := (dC, dI)) (v := .int (nI 1)) (tv := .int) (C := RX10) (T := TX10) (N := 29) hx hb hts bk1 tyX10 tyX10_ok nmX10 hown hK hP hD hS 0 (by decide) r_3 rfl 0 (by decide) (hts (.fieldLink RX10 78 "GradientDeskModel" "thrown" "I") (List.mem_of_getElem? (i := 5) rfl)) (fun _ h9 => h9) rfl (by decide +kernel) rfl rfl (Nat.le_of_ble_eq_true rfl) dX10_word_37 (fun H locs g_60 f_61 fr_62 hP hS => ?_)
        have f_61 : g_60 0 = .inr (13, Rob ad (va_up x 0 (nI 1))) := f_61
        refine lv_aload_n hx hb dX10_word_40 rfl (lv_at hl 0 rfl) ?_
        refine m_get (D := (dC, dI)) (v := .int (nI 1)) (C := RX10) (T := TX10) (N := 29) hx hb hts bk1 hown hK hP 0 (by decide) f_61 rfl 0 (by decide) (hts (.fieldLink RX10 78 "GradientDeskModel" "thrown" "I") (List.mem_of_getElem? (i := 5) rfl)) (fun _ h9 => h9) (congrArg (fun z => some (Value.int z)) (show (va_up x 0 (nI 1)) 0 = (nI 1) from rfl)) dX10_word_41 ?_
        refine lv_if_le (tgt := 51) hx hb dX10_word_44 (by decide) (fun c_63 => absurd c_63 (by decide)) (fun c_63 => ?_)
        refine lv_iconst (v := nI 0) hx hb dX10_word_47 (by decide +kernel) ?_
        refine lv_goto (tgt := 66) hx hb dX10_word_48 (by decide) ?_
        refine W.widen (k := 0) (n := 0) (by omega) (by omega) ?_
        exact W.iret (v := nI 0) hx hb hr (fun t9 ht9 hW9 => ⟨⟨nI 0, (g_60, va_up x 0 (nI 1)), rfl, ⟨RI.num hI0 (hF0.setx (fun (k : Nat) (hk : k = 1 ∨ k = 2 ∨ k = 3) => (fr_62 k (by omega)).trans (rfl)) f_61 rfl) (fun (k : Nat) (hk : (4 ≤ k ∧ k ≤ 11) ∨ k = 16) => (fr_62 k (by omega)).trans (rfl)) (hVO0.same (fun (k : Nat) (hk : 12 ≤ k ∧ k ≤ 19) => (fr_62 k (by omega)).trans (rfl))) (va_up_ne _ _ (by decide)) (va_up_ne _ _ (by decide)) (va_up_ne _ _ (by decide)) (fun _ _ => ⟨rfl, rfl⟩) hBd, (va_up_ne _ _ (by decide)), Or.inr (Or.inl (va_up_self _ _ _))⟩, by show va_P (dC, dI) vwCl _ t9.heap; rw [ht9]; exact hP⟩, hS.F ht9⟩) hS.2.2 dX10_word_66
  · skip
    refine lv_if_ne (tgt := 19) hx hb dX10_word_6 (by decide) (fun c_64 => ?_) (fun c_64 => absurd c_64 (by decide))
    refine lv_iconst (v := nI 1) hx hb dX10_word_19 (by decide +kernel) ?_
    refine lv_goto (tgt := 37) hx hb dX10_word_20 (by decide) ?_
    refine m_put (D := (dC, dI)) (v := .int (nI 1)) (tv := .int) (C := RX10) (T := TX10) (N := 29) hx hb hts bk1 tyX10 tyX10_ok nmX10 hown hK hP hD hS 0 (by decide) r_3 rfl 0 (by decide) (hts (.fieldLink RX10 78 "GradientDeskModel" "thrown" "I") (List.mem_of_getElem? (i := 5) rfl)) (fun _ h9 => h9) rfl (by decide +kernel) rfl rfl (Nat.le_of_ble_eq_true rfl) dX10_word_37 (fun H locs g_65 f_66 fr_67 hP hS => ?_)
    have f_66 : g_65 0 = .inr (13, Rob ad (va_up x 0 (nI 1))) := f_66
    refine lv_aload_n hx hb dX10_word_40 rfl (lv_at hl 0 rfl) ?_
    refine m_get (D := (dC, dI)) (v := .int (nI 1)) (C := RX10) (T := TX10) (N := 29) hx hb hts bk1 hown hK hP 0 (by decide) f_66 rfl 0 (by decide) (hts (.fieldLink RX10 78 "GradientDeskModel" "thrown" "I") (List.mem_of_getElem? (i := 5) rfl)) (fun _ h9 => h9) (congrArg (fun z => some (Value.int z)) (show (va_up x 0 (nI 1)) 0 = (nI 1) from rfl)) dX10_word_41 ?_
    refine lv_if_le (tgt := 51) hx hb dX10_word_44 (by decide) (fun c_68 => absurd c_68 (by decide)) (fun c_68 => ?_)
    refine lv_iconst (v := nI 0) hx hb dX10_word_47 (by decide +kernel) ?_
    refine lv_goto (tgt := 66) hx hb dX10_word_48 (by decide) ?_
    refine W.widen (k := 0) (n := 0) (by omega) (by omega) ?_
    exact W.iret (v := nI 0) hx hb hr (fun t9 ht9 hW9 => ⟨⟨nI 0, (g_65, va_up x 0 (nI 1)), rfl, ⟨RI.num hI0 (hF0.setx (fun (k : Nat) (hk : k = 1 ∨ k = 2 ∨ k = 3) => (fr_67 k (by omega)).trans (rfl)) f_66 rfl) (fun (k : Nat) (hk : (4 ≤ k ∧ k ≤ 11) ∨ k = 16) => (fr_67 k (by omega)).trans (rfl)) (hVO0.same (fun (k : Nat) (hk : 12 ≤ k ∧ k ≤ 19) => (fr_67 k (by omega)).trans (rfl))) (va_up_ne _ _ (by decide)) (va_up_ne _ _ (by decide)) (va_up_ne _ _ (by decide)) (fun _ _ => ⟨rfl, rfl⟩) hBd, (va_up_ne _ _ (by decide)), Or.inr (Or.inl (va_up_self _ _ _))⟩, by show va_P (dC, dI) vwCl _ t9.heap; rw [ht9]; exact hP⟩, hS.F ht9⟩) hS.2.2 dX10_word_66
end
section
def wd_X10_reckonAll : List Cond := .code yX10_reckonAll cX10_reckonAll 3 none :: (([.methodLink RX10 257 yX10_reach, .instanceMethod yX10_reach, .selects RX10 yX10_reach yX10_reach, .initialized RX10, .fieldLink RX10 50 "GradientDeskModel" "reached" "[Z", .methodLink RX10 272 yX10_reckonPart, .instanceMethod yX10_reckonPart, .selects RX10 yX10_reckonPart yX10_reckonPart] : List Cond) ++ (wd_X10_reach ++ (u_ws RX10 TX10 29 ++ (wd_X10_reckonPart ++ ([])))))
theorem gw_X10_reckonAll : wd_X10_reckonAll.all goodWord = true := k_allc rfl (k_all (by decide +kernel) (k_all (gw_X10_reach) (k_all (gu_X10) (k_all (gw_X10_reckonPart) (rfl)))))
set_option maxHeartbeats 4000000 in
set_option maxRecDepth 100000 in
theorem c_X10_reckonAll (l : Launch) (dC : Nat → ClassId) (dI : Nat → Nat → Nat) (A : Nat → Prop) (ad : Nat → Nat) (cA : Nat → ClassId) (g : Nat → va_E) (x : Nat → Int32) (pf : Nat → Int) (qf : Nat → Nat) (pt : Nat → Nat → Int) (L : List PD) (rc0 : Nat → Nat) (root : Nat) (Q : Nat) (hF : RF ad cA g x pf qf) (hPt : PTF cA g pt) (hM : MT L pt pf qf) (hL2 : L.length ≤ 200) (hW : WFL L) (h12 : g 12 = .inl (cA 12, 200, .inl (fun j => nI (rc0 j)))) (hrc : ∀ j, rc0 j < 2) (hrt : root < L.length) (hQ : Q = qf 1008 * qf 1009 * qf 1010) (hP8 : ∀ v, v < 3 → (pf (1008 + v)).natAbs ≤ 9999 ∧ 0 < qf (1008 + v) ∧ qf (1008 + v) ≤ 9999) : Met l yX10_reckonAll wd_X10_reckonAll ({ frames := 100, cells := 0, slots := 0, locals := 2000 }) (va_Pc [.ref (ad 0), .int (nI root)] (PR NSr tyr dC dI A ad cA g)) (va_Qv (fun (u : (Nat → va_E) × (Nat → Int) × (Nat → Nat)) => match u with | (g2, pf2, qf2) => (∀ k, k ≠ 1 ∧ k ≠ 2 ∧ k ≠ 3 ∧ k ≠ 12 → g2 k = g k) ∧ (∃ rc2 : Nat → Nat, g2 12 = .inl (cA 12, 200, .inl (fun j => nI (rc2 j))) ∧ ∀ j, rc2 j < 2) ∧ RF ad cA g2 x pf2 qf2 ∧ TV L Q root pf2 qf2 ∧ (∀ f, (f < 200 ∨ (1000 ≤ f ∧ f ≤ 1011)) → pf2 f = pf f ∧ qf2 f = qf f)) (fun (u : (Nat → va_E) × (Nat → Int) × (Nat → Nat)) (t : State) => va_P (dC, dI) vwCl (wo ad NSr u.1) t.heap) A) (0) (0) A := by
  refine Met.ofW (cc := cX10_reckonAll) (maxL := 3) (ret := none) (by decide) rfl ?_
  intro p e s m args below meth c s₁ B hml hv
  obtain ⟨rfl, hA, hP, hL⟩ := hv
  have hx := B.exec
  have hb := B.bytes
  have hr := B.returns
  have hts := atoms_spec (ws := wd_X10_reckonAll) B.pre
  have hown : s.vm.findClass RX10 = some m.cls := findClass_of_methodNamed B.named
  have hlocks := B.notSynchronized
  have hK := hL.1
  have hD : ∀ g, va_D A (wo ad NSr g) := fun g => wo_D hL.2.1 hL.2.2 g
  have hS : va_S A s.heap s.heap [] := va_S.rf
  have bk0 : ∀ w ∈ wd_X10_reach, w ∈ wd_X10_reckonAll := fun _ h => List.mem_cons_of_mem _ (List.mem_append_right _ (List.mem_append_left _ h))
  have bk1 : ∀ w ∈ u_ws RX10 TX10 29, w ∈ wd_X10_reckonAll := fun _ h => List.mem_cons_of_mem _ (List.mem_append_right _ (List.mem_append_right _ (List.mem_append_left _ h)))
  have bk2 : ∀ w ∈ wd_X10_reckonPart, w ∈ wd_X10_reckonAll := fun _ h => List.mem_cons_of_mem _ (List.mem_append_right _ (List.mem_append_right _ (List.mem_append_right _ (List.mem_append_left _ h))))
  have hl := lv_entry ([.ref (ad 0), .int (nI root)]) (n := 3) (Nat.le_of_ble_eq_true rfl)
  rw [lg_entry_eq]
  generalize (lg_sl ([.ref (ad 0), .int (nI root)]) ++ List.replicate (3 - (lg_sl ([.ref (ad 0), .int (nI root)])).length) Slot.unset).toArray = ls at hl ⊢
  have hl : lv_has ls 3 [(0, .ref (ad 0)), (1, .int (nI root))] := hl
  have hF0 := hF
  obtain ⟨vf, hV, hq⟩ := hF
  have hc_1 := hV
  obtain ⟨pnz_2, lnz_2, bnz_2, hRz_2, hvz_2⟩ := hc_1
  obtain ⟨r_3, r_4, r_5, r_6, r_7, r_8, r_9⟩ := hRz_2
  obtain ⟨p_10, p_11, p_12, p_13, p_14, p_15, hpt_16⟩ := hPt
  have hPt0 : PTF cA g pt := ⟨p_10, p_11, p_12, p_13, p_14, p_15, hpt_16⟩
  have hob := hF0.obj
  refine lv_aload_n hx hb dX10_reckonAll_0 rfl (lv_at hl 0 rfl) ?_
  refine lv_iload_n hx hb dX10_reckonAll_1 rfl (lv_at hl 1 rfl) ?_
  refine va_callv (va_runV (As := [.int (nI root)]) (rest := []) ⟨hx, hb, hml, hown, hts⟩ (c_X10_reach l dC dI A ad cA g x pt pf qf L rc0 root hob hPt0 hM hW hL2 h12 hrc hrt) (cwV 1 hts (goodIn_app (goodIn_r [Cond.methodLink RX10 257 yX10_reach, Cond.instanceMethod yX10_reach, Cond.selects RX10 yX10_reach yX10_reach, Cond.initialized RX10] [1, 2, 3, 4] rfl rfl) (goodIn_sub (fun w9 h9 => bk0 w9 h9) gw_X10_reach)) rfl rfl rfl (by decide +kernel) ⟨Nat.le_of_ble_eq_true rfl, Nat.le_of_ble_eq_true rfl⟩) ⟨fun a U g mk q => ⟨q.1, q.2.1, q.2.2.1, LY.moved (u := U) (U := U.calling g mk a) (Vm.Alike.refl U.vm) q.2.2.2⟩, va_recv hK hP (ci := 13) (q0 := 0) rfl (wo_at (by decide) r_3), fun U hU hW => ⟨rfl, by rw [hU]; exact fun q h => hA q (Nat.le_trans hS.1 h), by rw [hU]; exact hP, LY.moved hW.alike hL⟩⟩ rfl rfl hl.1 rfl (lv_room (Nat.le_of_ble_eq_true rfl)) dX10_reckonAll_2 ⟨(Nat.le_of_ble_eq_true rfl), (Nat.le_of_ble_eq_true rfl)⟩) hS (fun q _ h => h) (fun q h => h) (fun u8 t8 H1 locs ht8 hvm8 hw_17 hB hz1 hk1 hS => ?_)
  obtain ⟨g_18, rc2_19⟩ := u8
  try dsimp only at hw_17 hB
  rw [ht8] at hB
  have hP := hB
  generalize H1 = H at hP hS ⊢
  obtain ⟨fr_20, q12, q12b, q12c⟩ := hw_17
  have f_21 : g_18 0 = .inr (13, Rob ad x) := (fr_20 0 (by omega)).trans r_3
  have hFr : RF ad cA g_18 x pf qf := hF0.setx (fun (k : Nat) (hk : k = 1 ∨ k = 2 ∨ k = 3) => (fr_20 k (by omega)).trans (rfl)) f_21 rfl
  refine lv_iconst (v := nI 0) hx hb dX10_reckonAll_5 (by decide +kernel) ?_
  refine lv_istore_n (lv' := [(2, .int (nI 0)), (0, .ref (ad 0)), (1, .int (nI root))]) hx hb dX10_reckonAll_6 rfl hl (by decide) rfl (fun ls hl => ?_)
  have loop_22 : ∀ (k9 : Nat) (kk : Nat) (p1 : Nat → Int) (q1 : Nat → Nat) (g_24 : Nat → va_E) (fr_25 : ∀ k, (k ≠ 1 ∧ k ≠ 2 ∧ k ≠ 3) → g_24 k = g_18 k), root + 1 - kk < k9 → (kk ≤ root + 1) → (∀ f, (f < 200 ∨ (1000 ≤ f ∧ f ≤ 1011)) → p1 f = pf f ∧ q1 f = qf f) → (∀ j, j < kk → rchN L root (root + 1) j = 1 → TV L Q j p1 q1) → (RF ad cA g_24 x p1 q1) → ∀ (H : Heap) (locs : List Loc) (ls : Array Slot), va_P (dC, dI) vwCl (wo ad NSr g_24) H → va_S A s.heap H locs → lv_has ls 3 [(0, .ref (ad 0)), (1, .int (nI root)), (2, .int (nI kk))] → W p l e (headSpec wd_X10_reckonAll ({ frames := 100, cells := 0, slots := 0, locals := 2000 })).room s m ([.ref (ad 0), .int (nI root)] : List Value).toArray below meth c H locs (0) (0) (MQ below (va_Qv (fun (u : (Nat → va_E) × (Nat → Int) × (Nat → Nat)) => match u with | (g2, pf2, qf2) => (∀ k, k ≠ 1 ∧ k ≠ 2 ∧ k ≠ 3 ∧ k ≠ 12 → g2 k = g k) ∧ (∃ rc2 : Nat → Nat, g2 12 = .inl (cA 12, 200, .inl (fun j => nI (rc2 j))) ∧ ∀ j, rc2 j < 2) ∧ RF ad cA g2 x pf2 qf2 ∧ TV L Q root pf2 qf2 ∧ (∀ f, (f < 200 ∨ (1000 ≤ f ∧ f ≤ 1011)) → pf2 f = pf f ∧ qf2 f = qf f)) (fun (u : (Nat → va_E) × (Nat → Int) × (Nat → Nat)) (t : State) => va_P (dC, dI) vwCl (wo ad NSr u.1) t.heap) A) ([.ref (ad 0), .int (nI root)] : List Value).toArray s (0) (0) A) (F0 m 7 ls []) := by
    intro k9
    induction k9 with
    | zero => intro kk p1 q1 g_24 fr_25 h9; exact absurd h9 (Nat.not_lt_zero _)
    | succ k9 ih_23 =>
      intro kk p1 q1 g_24 fr_25 h9 hk1 hO hT hFL H locs ls hP hS hl
      refine lv_iload_n hx hb dX10_reckonAll_7 rfl (lv_at hl 2 rfl) ?_
      refine lv_iload_n hx hb dX10_reckonAll_8 rfl (lv_at hl 1 rfl) ?_
      refine lv_icmp_gt (tgt := 32) hx hb dX10_reckonAll_9 (by decide) (fun c_26 => ?_) (fun c_26 => ?_)
      · have c_26 := (nI_ltI (a := root) (b := kk) (by omega) (by omega)).mp c_26
        have f_27 : g_24 12 = .inl (cA 12, 200, .inl (fun j => nI (rc2_19 j))) := (fr_25 12 (by omega)).trans q12
        refine W.widen (k := 0) (n := 0) (by omega) (by omega) ?_
        exact W.vret hx hb hr (fun t9 ht9 hW9 => ⟨⟨(g_24, p1, q1), rfl, ⟨(fun (k : Nat) (hk : k ≠ 1 ∧ k ≠ 2 ∧ k ≠ 3 ∧ k ≠ 12) => (fr_25 k (by omega)).trans ((fr_20 k (by omega)).trans (rfl))), ⟨_, f_27, q12b⟩, hFL, hT root (by omega) rchN_root, hO⟩, by show va_P (dC, dI) vwCl _ t9.heap; rw [ht9]; exact hP⟩, hS.F ht9⟩) hS.2.2 dX10_reckonAll_32
      · have c_26 := mt (nI_ltI (a := root) (b := kk) (by omega) (by omega)).mpr c_26
        refine lv_aload_n hx hb dX10_reckonAll_12 rfl (lv_at hl 0 rfl) ?_
        have f_28 : g_24 0 = .inr (13, Rob ad x) := (fr_25 0 (by omega)).trans f_21
        refine m_get (D := (dC, dI)) (v := .ref (ad 12)) (C := RX10) (T := TX10) (N := 29) hx hb hts bk1 hown hK hP 0 (by decide) f_28 rfl 16 (by decide) (hts (.fieldLink RX10 50 "GradientDeskModel" "reached" "[Z") (List.mem_of_getElem? (i := 5) rfl)) (fun _ h9 => h9) rfl dX10_reckonAll_13 ?_
        refine lv_iload_n hx hb dX10_reckonAll_16 rfl (lv_at hl 2 rfl) ?_
        have f_29 : g_24 12 = .inl (cA 12, 200, .inl (fun j => nI (rc2_19 j))) := (fr_25 12 (by omega)).trans q12
        refine m_zald hx hb hK hP 12 (by decide) rfl f_29 (i := kk) (by omega) (by decide) dX10_reckonAll_17 ?_
        have b_30 := q12b kk
        refine lv_if_eq (tgt := 26) hx hb dX10_reckonAll_18 (by decide) (fun c_31 => ?_) (fun c_31 => ?_)
        · have c_31 := (nI_eq (a := (rc2_19 kk)) (b := 0) (by omega) (by decide)).mp c_31
          refine lv_iinc (v := nI (kk + 1)) (lv' := [(2, .int (nI (kk + 1))), (0, .ref (ad 0)), (1, .int (nI root))]) hx hb dX10_reckonAll_26 hl (k := 2) rfl (nI_add kk 1) (by decide) rfl (fun ls hl => ?_)
          refine lv_goto (tgt := 7) hx hb dX10_reckonAll_29 (by decide) ?_
          exact ih_23 (kk + 1) p1 q1 g_24 (fun (k : Nat) (hk : k ≠ 1 ∧ k ≠ 2 ∧ k ≠ 3) => (fr_25 k (by omega)).trans (rfl)) (by omega) (by omega) hO (fun j hj h9 => by by_cases h8 : j = kk; subst h8; exact absurd h9 (by have := q12c j (by omega); omega); exact hT j (by omega) h9) hFL _ _ _ hP hS (lv_sub (l' := [(0, .ref (ad 0)), (1, .int (nI root)), (2, .int (nI (kk + 1)))]) hl [1, 2, 0] rfl)
        · have c_31 := mt (nI_eq (a := (rc2_19 kk)) (b := 0) (by omega) (by decide)).mpr c_31
          refine lv_aload_n hx hb dX10_reckonAll_21 rfl (lv_at hl 0 rfl) ?_
          refine lv_iload_n hx hb dX10_reckonAll_22 rfl (lv_at hl 2 rfl) ?_
          have hre : rchN L root (root + 1) kk = 1 := by have h7 := q12c kk (by omega); have h8 := q12b kk; omega
          have hM1 : MT L pt p1 q1 := hM.same (fun _ _ _ => rfl) (fun i9 h9 => hO i9 (Or.inl (by omega)))
          have hPt1 : PTF cA g_24 pt := hPt0.same (fun (k : Nat) (hk : 5 ≤ k ∧ k ≤ 10) => (fr_25 k (by omega)).trans ((fr_20 k (by omega)).trans (rfl)))
          have hp8 : ∀ v, v < 3 → p1 (1008 + v) = pf (1008 + v) ∧ q1 (1008 + v) = qf (1008 + v) := fun v9 h9 => hO _ (Or.inr (by omega))
          have hQ1 : Q = q1 1008 * q1 1009 * q1 1010 := by rw [(hO 1008 (by omega)).2, (hO 1009 (by omega)).2, (hO 1010 (by omega)).2]; exact hQ
          have hP1 : ∀ v, v < 3 → (p1 (1008 + v)).natAbs ≤ 9999 ∧ 0 < q1 (1008 + v) ∧ q1 (1008 + v) ≤ 9999 := fun v9 h9 => by rw [(hp8 v9 h9).1, (hp8 v9 h9).2]; exact hP8 v9 h9
          refine va_callv (va_runV (As := [.int (nI kk)]) (rest := []) ⟨hx, hb, hml, hown, hts⟩ (c_X10_reckonPart l dC dI A ad cA g_24 x p1 q1 pt L kk Q hFL hPt1 hM1 hL2 hW (by omega) hQ1 hP1 (fun h9 => by obtain ⟨a9, h8, h7⟩ := hW.op1 (k := kk) (by omega) h9; have h6 := (rch_closed hW hrt (by omega) hre h9).1; rw [h7, Int.toNat_natCast] at h6 ⊢; exact hT a9 h8 h6) (fun h9 => by obtain ⟨a9, h8, h7⟩ := hW.op2 (k := kk) (by omega) h9; have h6 := (rch_closed hW hrt (by omega) hre (by omega)).2 (by omega); rw [h7, Int.toNat_natCast] at h6 ⊢; exact hT a9 h8 h6)) (cwV 1 hts (goodIn_app (goodIn_r [Cond.methodLink RX10 272 yX10_reckonPart, Cond.instanceMethod yX10_reckonPart, Cond.selects RX10 yX10_reckonPart yX10_reckonPart, Cond.initialized RX10] [6, 7, 8, 4] rfl rfl) (goodIn_sub (fun w9 h9 => bk2 w9 h9) gw_X10_reckonPart)) rfl rfl rfl (by decide +kernel) ⟨Nat.le_of_ble_eq_true rfl, Nat.le_of_ble_eq_true rfl⟩) ⟨fun a U g mk q => ⟨q.1, q.2.1, q.2.2.1, LY.moved (u := U) (U := U.calling g mk a) (Vm.Alike.refl U.vm) q.2.2.2⟩, va_recv hK hP (ci := 13) (q0 := 0) rfl (wo_at (by decide) f_28), fun U hU hW => ⟨rfl, by rw [hU]; exact fun q h => hA q (Nat.le_trans hS.1 h), by rw [hU]; exact hP, LY.moved hW.alike hL⟩⟩ rfl rfl hl.1 rfl (lv_room (Nat.le_of_ble_eq_true rfl)) dX10_reckonAll_23 ⟨(Nat.le_of_ble_eq_true rfl), (Nat.le_of_ble_eq_true rfl)⟩) hS (fun q _ h => h) (fun q h => h) (fun u8 t8 H1 locs ht8 hvm8 hw_34 hB hz1 hk1 hS => ?_)
          obtain ⟨g_35, pf2_36, qf2_37⟩ := u8
          try dsimp only at hw_34 hB
          rw [ht8] at hB
          have hP := hB
          generalize H1 = H at hP hS ⊢
          obtain ⟨fr_38, hFn, hTn, hOn⟩ := hw_34
          have hOm : ∀ f, f ≠ 200 + kk → f ≠ 400 + kk → f ≠ 600 + kk → f ≠ 800 + kk → f ≠ 1012 → f ≠ 1013 → f ≠ 1014 → f ≠ 1016 → pf2_36 f = p1 f ∧ qf2_37 f = q1 f := hOn
          have fN : ∀ f, (f < 200 ∨ (1000 ≤ f ∧ f ≤ 1011)) → pf2_36 f = pf f ∧ qf2_37 f = qf f := fun f h9 => ⟨(hOm f (by omega) (by omega) (by omega) (by omega) (by omega) (by omega) (by omega) (by omega)).1.trans (hO f h9).1, (hOm f (by omega) (by omega) (by omega) (by omega) (by omega) (by omega) (by omega) (by omega)).2.trans (hO f h9).2⟩
          have fT : ∀ j, j < (kk + 1) → rchN L root (root + 1) j = 1 → TV L Q j pf2_36 qf2_37 := fun j hj h9 => by by_cases h8 : j = kk; subst h8; exact hTn; exact (hT j (by omega) h9).same (hOm _ (by omega) (by omega) (by omega) (by omega) (by omega) (by omega) (by omega) (by omega)) (fun v hv => hOm _ (by omega) (by omega) (by omega) (by omega) (by omega) (by omega) (by omega) (by omega))
          refine lv_iinc (v := nI (kk + 1)) (lv' := [(2, .int (nI (kk + 1))), (0, .ref (ad 0)), (1, .int (nI root))]) hx hb dX10_reckonAll_26 hl (k := 2) rfl (nI_add kk 1) (by decide) rfl (fun ls hl => ?_)
          refine lv_goto (tgt := 7) hx hb dX10_reckonAll_29 (by decide) ?_
          exact ih_23 (kk + 1) pf2_36 qf2_37 g_35 (fun (k : Nat) (hk : k ≠ 1 ∧ k ≠ 2 ∧ k ≠ 3) => (fr_38 k (by omega)).trans ((fr_25 k (by omega)).trans (rfl))) (by omega) (by omega) fN fT hFn _ _ _ hP hS (lv_sub (l' := [(0, .ref (ad 0)), (1, .int (nI root)), (2, .int (nI (kk + 1)))]) hl [1, 2, 0] rfl)
  exact loop_22 _ 0 pf qf g_18 (fun (k : Nat) (hk : k ≠ 1 ∧ k ≠ 2 ∧ k ≠ 3) => rfl) (Nat.lt_succ_self _) (by omega) (fun _ _ => ⟨rfl, rfl⟩) (fun j hj => absurd hj (by omega)) hFr _ _ _ hP hS (lv_sub (l' := [(0, .ref (ad 0)), (1, .int (nI root)), (2, .int (nI 0))]) hl [1, 2, 0] rfl)
end
section
def wd_X10_gradient : List Cond := .code yX10_gradient cX10_gradient 4 none :: (([.methodLink RX10 263 yX10_noName, .instanceMethod yX10_noName, .selects RX10 yX10_noName yX10_noName, .initialized RX10, .fieldLink RX10 47 "GradientDeskModel" "names" "[I", .methodLink RX10 275 yX10_reckonAll, .instanceMethod yX10_reckonAll, .selects RX10 yX10_reckonAll yX10_reckonAll, .methodLink RX10 136 yX10_copyFraction, .instanceMethod yX10_copyFraction, .selects RX10 yX10_copyFraction yX10_copyFraction, .methodLink RX10 269 yX10_derivativeCell, .static yX10_derivativeCell] : List Cond) ++ (wd_X10_noName ++ (u_ws RX10 TX10 29 ++ (wd_X10_reckonAll ++ (wd_X10_copyFraction ++ (wd_X10_derivativeCell ++ ([])))))))
theorem gw_X10_gradient : wd_X10_gradient.all goodWord = true := k_allc rfl (k_all (by decide +kernel) (k_all (gw_X10_noName) (k_all (gu_X10) (k_all (gw_X10_reckonAll) (k_all (gw_X10_copyFraction) (k_all (gw_X10_derivativeCell) (rfl)))))))
set_option maxHeartbeats 4000000 in
set_option maxRecDepth 100000 in
theorem c_X10_gradient (l : Launch) (dC : Nat → ClassId) (dI : Nat → Nat → Nat) (A : Nat → Prop) (ad : Nat → Nat) (cA : Nat → ClassId) (g : Nat → va_E) (x : Nat → Int32) (L : List PD) (nm : Nat → Int) (tx : Nat → Nat) (ty : Nat) (wr : List Int) (v : Int32) (hI : RIE ad cA g x L nm tx ty wr) : Met l yX10_gradient wd_X10_gradient ({ frames := 110, cells := 0, slots := 0, locals := 2200 }) (va_Pc [.ref (ad 0), .int v] (PR NSr tyr dC dI A ad cA g)) (va_Qv (fun (u : (Nat → va_E) × (Nat → Int32)) => match u with | (g2, x2) => RIE ad cA g2 x2 L nm tx ty wr ∧ x2 2 = x 2 ∧ ((x2 0 = nI 0 ∧ ∃ vn, v = nI vn ∧ vn ≤ 7 ∧ 0 ≤ nm vn) ∨ ((¬ (0 ≤ v.toInt ∧ v.toInt ≤ 7) ∧ x2 0 = nI 1) ∨ (∃ a9 : Nat, v = nI a9 ∧ a9 ≤ 7 ∧ nm a9 < 0 ∧ x2 0 = nI 2)))) (fun (u : (Nat → va_E) × (Nat → Int32)) (t : State) => va_P (dC, dI) vwCl (wo ad NSr u.1) t.heap) A) (0) (0) A := by
  refine Met.ofW (cc := cX10_gradient) (maxL := 4) (ret := none) (by decide) rfl ?_
  intro p e s m args below meth c s₁ B hml hv
  obtain ⟨rfl, hA, hP, hL⟩ := hv
  have hx := B.exec
  have hb := B.bytes
  have hr := B.returns
  have hts := atoms_spec (ws := wd_X10_gradient) B.pre
  have hown : s.vm.findClass RX10 = some m.cls := findClass_of_methodNamed B.named
  have hlocks := B.notSynchronized
  have hK := hL.1
  have hD : ∀ g, va_D A (wo ad NSr g) := fun g => wo_D hL.2.1 hL.2.2 g
  have hS : va_S A s.heap s.heap [] := va_S.rf
  have bk0 : ∀ w ∈ wd_X10_noName, w ∈ wd_X10_gradient := fun _ h => List.mem_cons_of_mem _ (List.mem_append_right _ (List.mem_append_left _ h))
  have bk1 : ∀ w ∈ u_ws RX10 TX10 29, w ∈ wd_X10_gradient := fun _ h => List.mem_cons_of_mem _ (List.mem_append_right _ (List.mem_append_right _ (List.mem_append_left _ h)))
  have bk2 : ∀ w ∈ wd_X10_reckonAll, w ∈ wd_X10_gradient := fun _ h => List.mem_cons_of_mem _ (List.mem_append_right _ (List.mem_append_right _ (List.mem_append_right _ (List.mem_append_left _ h))))
  have bk3 : ∀ w ∈ wd_X10_copyFraction, w ∈ wd_X10_gradient := fun _ h => List.mem_cons_of_mem _ (List.mem_append_right _ (List.mem_append_right _ (List.mem_append_right _ (List.mem_append_right _ (List.mem_append_left _ h)))))
  have bk4 : ∀ w ∈ wd_X10_derivativeCell, w ∈ wd_X10_gradient := fun _ h => List.mem_cons_of_mem _ (List.mem_append_right _ (List.mem_append_right _ (List.mem_append_right _ (List.mem_append_right _ (List.mem_append_right _ (List.mem_append_left _ h))))))
  have hl := lv_entry ([.ref (ad 0), .int v]) (n := 4) (Nat.le_of_ble_eq_true rfl)
  rw [lg_entry_eq]
  generalize (lg_sl ([.ref (ad 0), .int v]) ++ List.replicate (4 - (lg_sl ([.ref (ad 0), .int v])).length) Slot.unset).toArray = ls at hl ⊢
  have hl : lv_has ls 4 [(0, .ref (ad 0)), (1, .int v)] := hl
  have hIk := hI
  obtain ⟨pf, qf, pt, hI0⟩ := hIk
  have hF := hI0.1
  have h0o := hF.obj
  obtain ⟨t4, t4b, t11, t11b, t11c⟩ := hI0.2.2.2.2.2.2.1
  refine lv_aload_n hx hb dX10_gradient_0 rfl (lv_at hl 0 rfl) ?_
  refine lv_iload_n hx hb dX10_gradient_1 rfl (lv_at hl 1 rfl) ?_
  refine va_calli (va_runV (As := [.int v]) (rest := []) ⟨hx, hb, hml, hown, hts⟩ (c_X10_noName l dC dI A ad cA g x L nm tx ty wr v hI) (cwV 1 hts (goodIn_app (goodIn_r [Cond.methodLink RX10 263 yX10_noName, Cond.instanceMethod yX10_noName, Cond.selects RX10 yX10_noName yX10_noName, Cond.initialized RX10] [1, 2, 3, 4] rfl rfl) (goodIn_sub (fun w9 h9 => bk0 w9 h9) gw_X10_noName)) rfl rfl rfl (by decide +kernel) ⟨Nat.le_of_ble_eq_true rfl, Nat.le_of_ble_eq_true rfl⟩) ⟨fun a U g mk q => ⟨q.1, q.2.1, q.2.2.1, LY.moved (u := U) (U := U.calling g mk a) (Vm.Alike.refl U.vm) q.2.2.2⟩, va_recv hK hP (ci := 13) (q0 := 0) rfl (wo_at (by decide) h0o), fun U hU hW => ⟨rfl, by rw [hU]; exact fun q h => hA q (Nat.le_trans hS.1 h), by rw [hU]; exact hP, LY.moved hW.alike hL⟩⟩ rfl rfl hl.1 rfl (lv_room (Nat.le_of_ble_eq_true rfl)) dX10_gradient_2 ⟨(Nat.le_of_ble_eq_true rfl), (Nat.le_of_ble_eq_true rfl)⟩) hS (fun q _ h => h) (fun q h => h) (fun r_1 u8 t8 H1 locs ht8 hvm8 hw_2 hB hz1 hk1 hS => ?_)
  obtain ⟨g_3, x2_4⟩ := u8
  try dsimp only at hw_2 hB
  rw [ht8] at hB
  have hP := hB
  generalize H1 = H at hP hS ⊢
  have fr_5 := hw_2
  obtain ⟨hR2, hx22, hcc⟩ := hw_2
  rcases hcc with ⟨rfl, hx20, vn, hvv, hvn, hnv⟩ | ⟨rfl, hx20⟩
  · skip
    rw [hvv] at hl
    obtain ⟨pf2, qf2, pt2, hI2⟩ := hR2
    have hI3 := hI2
    obtain ⟨hF2, hPt2, hM2, hW2, hL22, hmd2, hTx2, hty_2, hty2_2, hwr_2, hwr2_2, hVO2, hBd2⟩ := hI3
    have hVO20 := hVO2
    have hPt20 := hPt2
    have hF20 := hF2
    have hTx20 := hTx2
    obtain ⟨u4, u4b, u11, u11b, u11c⟩ := hTx2
    obtain ⟨⟨rc9, y12, y12b⟩, yy⟩ := hVO2
    have hob2 := hF2.obj
    refine lv_if_eq (tgt := 9) hx hb dX10_gradient_5 (by decide) (fun c_6 => ?_) (fun c_6 => absurd c_6 (by decide))
    refine lv_aload_n hx hb dX10_gradient_9 rfl (lv_at hl 0 rfl) ?_
    refine m_get (D := (dC, dI)) (v := .ref (ad 11)) (C := RX10) (T := TX10) (N := 29) hx hb hts bk1 hown hK hP 0 (by decide) hob2 rfl 15 (by decide) (hts (.fieldLink RX10 47 "GradientDeskModel" "names" "[I") (List.mem_of_getElem? (i := 5) rfl)) (fun _ h9 => h9) rfl dX10_gradient_10 ?_
    refine lv_iload_n hx hb dX10_gradient_13 rfl (lv_at hl 1 rfl) ?_
    refine m_iald hx hb hK hP 11 (by decide) rfl u11 (i := vn) (by omega) (by decide) dX10_gradient_14 ?_
    have b_7 := u11b vn
    obtain ⟨rt, hrt⟩ : ∃ z9 : Nat, nm vn = (z9 : Int) := ⟨(nm vn).toNat, by omega⟩
    have hr9 := t11c vn (by omega)
    have hrl : rt < L.length := by omega
    rw [hrt, ← nI_iI]
    refine lv_istore_n (lv' := [(2, .int (nI rt)), (0, .ref (ad 0)), (1, .int (nI vn))]) hx hb dX10_gradient_15 rfl hl (by decide) rfl (fun ls hl => ?_)
    refine lv_aload_n hx hb dX10_gradient_16 rfl (lv_at hl 1 rfl) ?_
    refine lv_iload_n hx hb dX10_gradient_17 rfl (lv_at hl 0 rfl) ?_
    obtain ⟨Q9, hQ9⟩ : ∃ z : Nat, z = qf2 1008 * qf2 1009 * qf2 1010 := ⟨_, rfl⟩
    have hQb : 0 < Q9 ∧ Q9 ≤ 1099511627776 := by obtain ⟨-, u1, u2⟩ := hBd2.2 0 (by decide); obtain ⟨-, u3, u4⟩ := hBd2.2 1 (by decide); obtain ⟨-, u5, u6⟩ := hBd2.2 2 (by decide); exact ⟨by rw [hQ9]; exact Nat.mul_pos (Nat.mul_pos u1 u3) u5, by rw [hQ9]; exact Nat.le_trans (Nat.mul_le_mul (Nat.mul_le_mul u2 u4) u6) (by decide)⟩
    refine va_callv (va_runV (As := [.int (nI rt)]) (rest := []) ⟨hx, hb, hml, hown, hts⟩ (c_X10_reckonAll l dC dI A ad cA g_3 x2_4 pf2 qf2 pt2 L rc9 rt Q9 hF20 hPt20 hM2 hL22 hW2 y12 y12b hrl hQ9 hBd2.2) (cwV 1 hts (goodIn_app (goodIn_r [Cond.methodLink RX10 275 yX10_reckonAll, Cond.instanceMethod yX10_reckonAll, Cond.selects RX10 yX10_reckonAll yX10_reckonAll, Cond.initialized RX10] [6, 7, 8, 4] rfl rfl) (goodIn_sub (fun w9 h9 => bk2 w9 h9) gw_X10_reckonAll)) rfl rfl rfl (by decide +kernel) ⟨Nat.le_of_ble_eq_true rfl, Nat.le_of_ble_eq_true rfl⟩) ⟨fun a U g mk q => ⟨q.1, q.2.1, q.2.2.1, LY.moved (u := U) (U := U.calling g mk a) (Vm.Alike.refl U.vm) q.2.2.2⟩, va_recv hK hP (ci := 13) (q0 := 0) rfl (wo_at (by decide) hob2), fun U hU hW => ⟨rfl, by rw [hU]; exact fun q h => hA q (Nat.le_trans hS.1 h), by rw [hU]; exact hP, LY.moved hW.alike hL⟩⟩ rfl rfl hl.1 rfl (lv_room (Nat.le_of_ble_eq_true rfl)) dX10_gradient_18 ⟨(Nat.le_of_ble_eq_true rfl), (Nat.le_of_ble_eq_true rfl)⟩) hS (fun q _ h => h) (fun q h => h) (fun u8 t8 H1 locs ht8 hvm8 hw_8 hB hz1 hk1 hS => ?_)
    obtain ⟨g_9, pf2_10, qf2_11⟩ := u8
    try dsimp only at hw_8 hB
    rw [ht8] at hB
    have hP := hB
    generalize H1 = H at hP hS ⊢
    obtain ⟨fr_12, ⟨rc3, r12, r12b⟩, hFa, hTa, hOa⟩ := hw_8
    have hfb := hTa.fb hQb hW2 hrl hL22 (fun f9 h9 => hFa.red h9)
    refine lv_aload_n hx hb dX10_gradient_21 rfl (lv_at hl 1 rfl) ?_
    refine lv_sipush (v := nI 1000) hx hb dX10_gradient_22 (by decide +kernel) ?_
    refine lv_sipush (v := nI 200) hx hb dX10_gradient_25 (by decide +kernel) ?_
    refine lv_iload_n hx hb dX10_gradient_28 rfl (lv_at hl 0 rfl) ?_
    refine lv_iadd hx hb dX10_gradient_29 ?_
    refine lv_topi (fun x_13 e_14 => ?_)
    obtain rfl : x_13 = nI (200 + rt) := e_14.trans (nI_add 200 rt)
    have f_15 : g_9 0 = .inr (13, Rob ad x2_4) := (fr_12 0 (by omega)).trans hob2
    refine va_callv (va_runV (As := [.int (nI 1000), .int (nI (200 + rt))]) (rest := []) ⟨hx, hb, hml, hown, hts⟩ (c_X10_copyFraction l dC dI A ad cA g_9 x2_4 pf2_10 qf2_11 1000 (200 + rt) hFa (by omega) (by omega)) (cwV 2 hts (goodIn_app (goodIn_r [Cond.methodLink RX10 136 yX10_copyFraction, Cond.instanceMethod yX10_copyFraction, Cond.selects RX10 yX10_copyFraction yX10_copyFraction, Cond.initialized RX10] [9, 10, 11, 4] rfl rfl) (goodIn_sub (fun w9 h9 => bk3 w9 h9) gw_X10_copyFraction)) rfl rfl rfl (by decide +kernel) ⟨Nat.le_of_ble_eq_true rfl, Nat.le_of_ble_eq_true rfl⟩) ⟨fun a U g mk q => ⟨q.1, q.2.1, q.2.2.1, LY.moved (u := U) (U := U.calling g mk a) (Vm.Alike.refl U.vm) q.2.2.2⟩, va_recv hK hP (ci := 13) (q0 := 0) rfl (wo_at (by decide) f_15), fun U hU hW => ⟨rfl, by rw [hU]; exact fun q h => hA q (Nat.le_trans hS.1 h), by rw [hU]; exact hP, LY.moved hW.alike hL⟩⟩ rfl rfl hl.1 rfl (lv_room (Nat.le_of_ble_eq_true rfl)) dX10_gradient_30 ⟨(Nat.le_of_ble_eq_true rfl), (Nat.le_of_ble_eq_true rfl)⟩) hS (fun q _ h => h) (fun q h => h) (fun u8 t8 H1 locs ht8 hvm8 hw_16 hB hz1 hk1 hS => ?_)
    obtain ⟨g_17, rfl⟩ : ∃ z, z = u8 := ⟨_, rfl⟩
    try dsimp only at hw_16 hB
    rw [ht8] at hB
    have hP := hB
    generalize H1 = H at hP hS ⊢
    obtain ⟨fr_18, hFc⟩ := hw_16
    refine lv_iconst (v := nI 0) hx hb dX10_gradient_33 (by decide +kernel) ?_
    refine lv_istore_n (lv' := [(3, .int (nI 0)), (2, .int (nI rt)), (0, .ref (ad 0)), (1, .int (nI vn))]) hx hb dX10_gradient_34 rfl hl (by decide) rfl (fun ls hl => ?_)
    have loop_19 : ∀ (k9 : Nat) (vv : Nat) (p1 : Nat → Int) (q1 : Nat → Nat) (g_21 : Nat → va_E) (fr_22 : ∀ k, (k ≠ 1 ∧ k ≠ 2 ∧ k ≠ 3) → g_21 k = g_17 k), 3 - vv < k9 → (vv ≤ 3) → (∀ f, ¬ (1000 ≤ f ∧ f ≤ 1003) → p1 f = pf2_10 f ∧ q1 f = qf2_11 f) → (∀ r9, r9 < 8 → (p1 (1000 + r9)).natAbs < 2 ^ 1000 ∧ q1 (1000 + r9) < 2 ^ 1000) → (RF ad cA g_21 x2_4 p1 q1) → ∀ (H : Heap) (locs : List Loc) (ls : Array Slot), va_P (dC, dI) vwCl (wo ad NSr g_21) H → va_S A s.heap H locs → lv_has ls 4 [(0, .ref (ad 0)), (1, .int (nI vn)), (2, .int (nI rt)), (3, .int (nI vv))] → W p l e (headSpec wd_X10_gradient ({ frames := 110, cells := 0, slots := 0, locals := 2200 })).room s m ([.ref (ad 0), .int v] : List Value).toArray below meth c H locs (0) (0) (MQ below (va_Qv (fun (u : (Nat → va_E) × (Nat → Int32)) => match u with | (g2, x2) => RIE ad cA g2 x2 L nm tx ty wr ∧ x2 2 = x 2 ∧ ((x2 0 = nI 0 ∧ ∃ vn, v = nI vn ∧ vn ≤ 7 ∧ 0 ≤ nm vn) ∨ ((¬ (0 ≤ v.toInt ∧ v.toInt ≤ 7) ∧ x2 0 = nI 1) ∨ (∃ a9 : Nat, v = nI a9 ∧ a9 ≤ 7 ∧ nm a9 < 0 ∧ x2 0 = nI 2)))) (fun (u : (Nat → va_E) × (Nat → Int32)) (t : State) => va_P (dC, dI) vwCl (wo ad NSr u.1) t.heap) A) ([.ref (ad 0), .int v] : List Value).toArray s (0) (0) A) (F0 m 35 ls []) := by
      intro k9
      induction k9 with
      | zero => intro vv p1 q1 g_21 fr_22 h9; exact absurd h9 (Nat.not_lt_zero _)
      | succ k9 ih_20 =>
        intro vv p1 q1 g_21 fr_22 h9 hv3 hO hBr hFL H locs ls hP hS hl
        refine lv_iload_n hx hb dX10_gradient_35 rfl (lv_at hl 3 rfl) ?_
        refine lv_iconst (v := nI 3) hx hb dX10_gradient_36 (by decide +kernel) ?_
        refine lv_icmp_ge (tgt := 60) hx hb dX10_gradient_37 (by decide) (fun c_23 => ?_) (fun c_23 => ?_)
        · have c_23 := (nI_leI (a := 3) (b := vv) (by decide) (by omega)).mp c_23
          have f_24 : g_21 12 = .inl (cA 12, 200, .inl (fun j => nI (rc3 j))) := (fr_22 12 (by omega)).trans ((fr_18 12 (by omega)).trans r12)
          refine W.widen (k := 0) (n := 0) (by omega) (by omega) ?_
          exact W.vret hx hb hr (fun t9 ht9 hW9 => ⟨⟨(g_21, x2_4), rfl, ⟨RI.num hI2 hFL (fun (k : Nat) (hk : (4 ≤ k ∧ k ≤ 11) ∨ k = 16) => (fr_22 k (by omega)).trans ((fr_18 k (by omega)).trans ((fr_12 k (by omega)).trans (rfl)))) (VO.reach hVO20 f_24 r12b (fun (k : Nat) (hk : 13 ≤ k ∧ k ≤ 19) => (fr_22 k (by omega)).trans ((fr_18 k (by omega)).trans ((fr_12 k (by omega)).trans (rfl))))) rfl rfl rfl (fun f hf => ⟨(hO f (by omega)).1.trans (hOa f (Or.inl hf)).1, (hO f (by omega)).2.trans (hOa f (Or.inl hf)).2⟩) ⟨hBr, fun v9 h9 => by rw [(hO (1008 + v9) (by omega)).1, (hO (1008 + v9) (by omega)).2, (hOa (1008 + v9) (Or.inr (by omega))).1, (hOa (1008 + v9) (Or.inr (by omega))).2]; exact hBd2.2 v9 h9⟩, hx22, Or.inl ⟨hx20, vn, hvv, hvn, hnv⟩⟩, by show va_P (dC, dI) vwCl _ t9.heap; rw [ht9]; exact hP⟩, hS.F ht9⟩) hS.2.2 dX10_gradient_60
        · have c_23 := mt (nI_leI (a := 3) (b := vv) (by decide) (by omega)).mpr c_23
          refine lv_aload_n hx hb dX10_gradient_40 rfl (lv_at hl 0 rfl) ?_
          refine lv_sipush (v := nI 1001) hx hb dX10_gradient_41 (by decide +kernel) ?_
          refine lv_iload_n hx hb dX10_gradient_44 rfl (lv_at hl 3 rfl) ?_
          refine lv_iadd hx hb dX10_gradient_45 ?_
          refine lv_topi (fun x_25 e_26 => ?_)
          obtain rfl : x_25 = nI (1001 + vv) := e_26.trans (nI_add 1001 vv)
          refine lv_iload_n hx hb dX10_gradient_46 rfl (lv_at hl 2 rfl) ?_
          refine lv_iload_n hx hb dX10_gradient_47 rfl (lv_at hl 3 rfl) ?_
          refine va_calli (va_runS (As := [.int (nI rt), .int (nI vv)]) (rest := [.int (nI (1001 + vv)), .ref (ad 0)]) ⟨hx, hb, hml, hown, hts⟩ (c_X10_derivativeCell l dC dI A ad cA g_21 rt vv ) (va_cwS 2 hts (goodIn_app (goodIn_r [Cond.methodLink RX10 269 yX10_derivativeCell, Cond.static yX10_derivativeCell, Cond.initialized RX10] [12, 13, 4] rfl rfl) (goodIn_sub (fun w9 h9 => bk4 w9 h9) gw_X10_derivativeCell)) rfl rfl rfl (by decide +kernel) ⟨Nat.le_of_ble_eq_true rfl, Nat.le_of_ble_eq_true rfl⟩) ⟨fun a U g mk q => ⟨q.1, q.2.1, q.2.2.1, LY.moved (u := U) (U := U.calling g mk a) (Vm.Alike.refl U.vm) q.2.2.2⟩, fun U hU hW => ⟨rfl, by rw [hU]; exact fun q h => hA q (Nat.le_trans hS.1 h), by rw [hU]; exact hP, LY.moved hW.alike hL⟩⟩ rfl rfl hl.1 rfl (lv_room (Nat.le_of_ble_eq_true rfl)) dX10_gradient_48 ⟨(Nat.le_of_ble_eq_true rfl), (Nat.le_of_ble_eq_true rfl)⟩) hS (fun q _ h => h) (fun q h => h) (fun r_27 u8 t8 H1 locs ht8 hvm8 hw_28 hB hz1 hk1 hS => ?_)
          obtain ⟨⟩ := u8
          try dsimp only at hw_28 hB
          rw [ht8] at hB
          have hP := hB
          generalize H1 = H at hP hS ⊢
          obtain rfl := hw_28
          have f_29 : g_21 0 = .inr (13, Rob ad x2_4) := (fr_22 0 (by omega)).trans ((fr_18 0 (by omega)).trans f_15)
          refine va_callv (va_runV (As := [.int (nI (1001 + vv)), .int (nI (400 + 200 * vv + rt))]) (rest := []) ⟨hx, hb, hml, hown, hts⟩ (c_X10_copyFraction l dC dI A ad cA g_21 x2_4 p1 q1 (1001 + vv) (400 + 200 * vv + rt) hFL (by omega) (by omega)) (cwV 2 hts (goodIn_app (goodIn_r [Cond.methodLink RX10 136 yX10_copyFraction, Cond.instanceMethod yX10_copyFraction, Cond.selects RX10 yX10_copyFraction yX10_copyFraction, Cond.initialized RX10] [9, 10, 11, 4] rfl rfl) (goodIn_sub (fun w9 h9 => bk3 w9 h9) gw_X10_copyFraction)) rfl rfl rfl (by decide +kernel) ⟨Nat.le_of_ble_eq_true rfl, Nat.le_of_ble_eq_true rfl⟩) ⟨fun a U g mk q => ⟨q.1, q.2.1, q.2.2.1, LY.moved (u := U) (U := U.calling g mk a) (Vm.Alike.refl U.vm) q.2.2.2⟩, va_recv hK hP (ci := 13) (q0 := 0) rfl (wo_at (by decide) f_29), fun U hU hW => ⟨rfl, by rw [hU]; exact fun q h => hA q (Nat.le_trans hS.1 h), by rw [hU]; exact hP, LY.moved hW.alike hL⟩⟩ rfl rfl hl.1 rfl (lv_room (Nat.le_of_ble_eq_true rfl)) dX10_gradient_51 ⟨(Nat.le_of_ble_eq_true rfl), (Nat.le_of_ble_eq_true rfl)⟩) hS (fun q _ h => h) (fun q h => h) (fun u8 t8 H1 locs ht8 hvm8 hw_30 hB hz1 hk1 hS => ?_)
          obtain ⟨g_31, rfl⟩ : ∃ z, z = u8 := ⟨_, rfl⟩
          try dsimp only at hw_30 hB
          rw [ht8] at hB
          have hP := hB
          generalize H1 = H at hP hS ⊢
          obtain ⟨fr_32, hFd⟩ := hw_30
          refine lv_iinc (v := nI (vv + 1)) (lv' := [(3, .int (nI (vv + 1))), (0, .ref (ad 0)), (1, .int (nI vn)), (2, .int (nI rt))]) hx hb dX10_gradient_54 hl (k := 3) rfl (nI_add vv 1) (by decide) rfl (fun ls hl => ?_)
          refine lv_goto (tgt := 35) hx hb dX10_gradient_57 (by decide) ?_
          exact ih_20 (vv + 1) (va_up p1 (1001 + vv) (p1 (400 + 200 * vv + rt))) (va_up q1 (1001 + vv) (q1 (400 + 200 * vv + rt))) g_31 (fun (k : Nat) (hk : k ≠ 1 ∧ k ≠ 2 ∧ k ≠ 3) => (fr_32 k (by omega)).trans ((fr_22 k (by omega)).trans (rfl))) (by omega) (by omega) (fun f hf => ⟨(va_up_ne _ _ (by omega)).trans (hO f hf).1, (va_up_ne _ _ (by omega)).trans (hO f hf).2⟩) (fun r9 h9 => by by_cases h8 : 1000 + r9 = 1001 + vv; rw [h8, va_up_self, va_up_self, (hO (400 + 200 * vv + rt) (by omega)).1, (hO (400 + 200 * vv + rt) (by omega)).2]; exact hfb.2 vv (by omega); rw [va_up_ne _ _ h8, va_up_ne _ _ h8]; exact hBr r9 h9) hFd _ _ _ hP hS (lv_sub (l' := [(0, .ref (ad 0)), (1, .int (nI vn)), (2, .int (nI rt)), (3, .int (nI (vv + 1)))]) hl [1, 2, 3, 0] rfl)
    exact loop_19 _ 0 (va_up pf2_10 (1000) (pf2_10 (200 + rt))) (va_up qf2_11 (1000) (qf2_11 (200 + rt))) g_17 (fun (k : Nat) (hk : k ≠ 1 ∧ k ≠ 2 ∧ k ≠ 3) => rfl) (Nat.lt_succ_self _) (by omega) (fun f hf => ⟨va_up_ne _ _ (by omega), va_up_ne _ _ (by omega)⟩) (fun r9 h9 => by by_cases h8 : 1000 + r9 = 1000; rw [h8, va_up_self, va_up_self]; exact hfb.1; rw [va_up_ne _ _ h8, va_up_ne _ _ h8, (hOa (1000 + r9) (Or.inr (by omega))).1, (hOa (1000 + r9) (Or.inr (by omega))).2]; exact hBd2.1 r9 h9) hFc _ _ _ hP hS (lv_sub (l' := [(0, .ref (ad 0)), (1, .int (nI vn)), (2, .int (nI rt)), (3, .int (nI 0))]) hl [2, 3, 1, 0] rfl)
  · skip
    refine lv_if_eq (tgt := 9) hx hb dX10_gradient_5 (by decide) (fun c_35 => absurd c_35 (by decide)) (fun c_35 => ?_)
    refine W.widen (k := 0) (n := 0) (by omega) (by omega) ?_
    exact W.vret hx hb hr (fun t9 ht9 hW9 => ⟨⟨(g_3, x2_4), rfl, ⟨hR2, hx22, Or.inr hx20⟩, by show va_P (dC, dI) vwCl _ t9.heap; rw [ht9]; exact hP⟩, hS.F ht9⟩) hS.2.2 dX10_gradient_8
end
