def wd_X10_noName : List Cond := .code yX10_noName cX10_noName 2 (some .boolean) :: (([.fieldLink RX10 78 "GradientDeskModel" "thrown" "I", .fieldLink RX10 47 "GradientDeskModel" "names" "[I"] : List Cond) ++ (u_ws RX10 TX10 29 ++ ([])))
theorem gw_X10_noName : wd_X10_noName.all goodWord = true := k_allc rfl (k_all (by decide +kernel) (k_all (gu_X10) (rfl)))
set_option maxHeartbeats 4000000 in
set_option maxRecDepth 100000 in
theorem c_X10_noName (l : Launch) (dC : Nat → ClassId) (dI : Nat → Nat → Nat) (A : Nat → Prop) (ad : Nat → Nat) (cA : Nat → ClassId) (g : Nat → va_E) (x : Nat → Int32) (L : List PD) (nm : Nat → Int) (tx : Nat → Nat) (ty : Nat) (wr : List Int) (v : Int32) (hI : RIE ad cA g x L nm tx ty wr) : Met l yX10_noName wd_X10_noName ({ frames := 10, cells := 0, slots := 0, locals := 200 }) (va_Pc [.ref (ad 0), .int v] (PR NSr tyr dC dI A ad cA g)) (va_Qi (fun (r : Int32) => fun (u : (Nat → va_E) × (Nat → Int32)) => match u with | (g2, x2) => RIE ad cA g2 x2 L nm tx ty wr ∧ x2 2 = x 2 ∧ ((r = nI 0 ∧ x2 0 = nI 0 ∧ ∃ vn, v = nI vn ∧ vn ≤ 7 ∧ 0 ≤ nm vn) ∨ (r = nI 1 ∧ ((¬ (0 ≤ v.toInt ∧ v.toInt ≤ 7) ∧ x2 0 = nI 1) ∨ (∃ a9 : Nat, v = nI a9 ∧ a9 ≤ 7 ∧ nm a9 < 0 ∧ x2 0 = nI 2))))) (fun (u : (Nat → va_E) × (Nat → Int32)) (t : State) => va_P (dC, dI) vwCl (wo ad NSr u.1) t.heap) A) (0) (0) A := by
  refine Met.ofW (cc := cX10_noName) (maxL := 2) (ret := (some .boolean)) (by decide) rfl ?_
  intro p e s m args below meth c s₁ B hml hv
  obtain ⟨rfl, hA, hP, hL⟩ := hv
  have hx := B.exec
  have hb := B.bytes
  have hr := B.returns
  have hts := atoms_spec (ws := wd_X10_noName) B.pre
  have hown : s.vm.findClass RX10 = some m.cls := findClass_of_methodNamed B.named
  have hlocks := B.notSynchronized
  have hK := hL.1
  have hD : ∀ g, va_D A (wo ad NSr g) := fun g => wo_D hL.2.1 hL.2.2 g
  have hS : va_S A s.heap s.heap [] := va_S.rf
  have bk0 : ∀ w ∈ u_ws RX10 TX10 29, w ∈ wd_X10_noName := fun _ h => List.mem_cons_of_mem _ (List.mem_append_right _ (List.mem_append_left _ h))
  have hl := lv_entry ([.ref (ad 0), .int v]) (n := 2) (Nat.le_of_ble_eq_true rfl)
  rw [lg_entry_eq]
  generalize (lg_sl ([.ref (ad 0), .int v]) ++ List.replicate (2 - (lg_sl ([.ref (ad 0), .int v])).length) Slot.unset).toArray = ls at hl ⊢
  have hl : lv_has ls 2 [(0, .ref (ad 0)), (1, .int v)] := hl
  obtain ⟨pf, qf, pt, hI0⟩ := hI
  have hI1 := hI0
  obtain ⟨hF, hPt, hM, hW, hL2, hmd, hTx, hty, hty2, hwr, hwr2, hVO, hBd⟩ := hI1
  have hVO0 := hVO
  have hPt0 := hPt
  have hTx0 := hTx
  have hF0 := hF
  obtain ⟨vf, hV, hq⟩ := hF
  have hc_1 := hV
  obtain ⟨pnz_2, lnz_2, bnz_2, hRz_2, hvz_2⟩ := hc_1
  obtain ⟨r_3, r_4, r_5, r_6, r_7, r_8, r_9⟩ := hRz_2
  obtain ⟨p_10, p_11, p_12, p_13, p_14, p_15, hpt_16⟩ := hPt
  obtain ⟨t4, t4b, t11, t11b, t11c⟩ := hTx
  obtain ⟨⟨rc, v12, v12b⟩, ⟨f13, v13⟩, ⟨f14, v14⟩, ⟨f15, v15⟩, ⟨f16, v16⟩, ⟨f17, v17⟩, ⟨f18, v18⟩, ⟨f19, v19⟩⟩ := hVO
  refine lv_aload_n hx hb dX10_noName_0 rfl (lv_at hl 0 rfl) ?_
  refine lv_iload_n hx hb dX10_noName_1 rfl (lv_at hl 1 rfl) ?_
  refine lv_if_lt (tgt := 11) hx hb dX10_noName_2 (by decide) (fun c_17 => ?_) (fun c_17 => ?_)
  · have c_17 := (k_lt v (nI 0)).mp c_17
    rw [show (nI 0).toInt = 0 from by decide] at c_17
    refine lv_iconst (v := nI 1) hx hb dX10_noName_11 (by decide +kernel) ?_
    refine lv_goto (tgt := 29) hx hb dX10_noName_12 (by decide) ?_
    refine m_put (D := (dC, dI)) (v := .int (nI 1)) (tv := .int) (C := RX10) (T := TX10) (N := 29) hx hb hts bk0 tyX10 tyX10_ok nmX10 hown hK hP hD hS 0 (by decide) r_3 rfl 0 (by decide) (hts (.fieldLink RX10 78 "GradientDeskModel" "thrown" "I") (List.mem_of_getElem? (i := 1) rfl)) (fun _ h9 => h9) rfl (by decide +kernel) rfl rfl (Nat.le_of_ble_eq_true rfl) dX10_noName_29 (fun H locs g_18 f_19 fr_20 hP hS => ?_)
    have f_19 : g_18 0 = .inr (13, Rob ad (va_up x 0 (nI 1))) := f_19
    refine lv_aload_n hx hb dX10_noName_32 rfl (lv_at hl 0 rfl) ?_
    refine m_get (D := (dC, dI)) (v := .int (nI 1)) (C := RX10) (T := TX10) (N := 29) hx hb hts bk0 hown hK hP 0 (by decide) f_19 rfl 0 (by decide) (hts (.fieldLink RX10 78 "GradientDeskModel" "thrown" "I") (List.mem_of_getElem? (i := 1) rfl)) (fun _ h9 => h9) (congrArg (fun z => some (Value.int z)) (show (va_up x 0 (nI 1)) 0 = (nI 1) from rfl)) dX10_noName_33 ?_
    refine lv_if_le (tgt := 43) hx hb dX10_noName_36 (by decide) (fun c_21 => absurd c_21 (by decide)) (fun c_21 => ?_)
    refine lv_iconst (v := nI 1) hx hb dX10_noName_39 (by decide +kernel) ?_
    refine lv_goto (tgt := 44) hx hb dX10_noName_40 (by decide) ?_
    refine W.widen (k := 0) (n := 0) (by omega) (by omega) ?_
    exact W.zret (v := nI 1) hx hb hr (by decide +kernel) (fun t9 ht9 hW9 => ⟨⟨nI 1, (g_18, va_up x 0 (nI 1)), rfl, ⟨RI.num hI0 (hF0.setx (fun (k : Nat) (hk : k = 1 ∨ k = 2 ∨ k = 3) => (fr_20 k (by omega)).trans (rfl)) f_19 rfl) (fun (k : Nat) (hk : (4 ≤ k ∧ k ≤ 11) ∨ k = 16) => (fr_20 k (by omega)).trans (rfl)) (hVO0.same (fun (k : Nat) (hk : 12 ≤ k ∧ k ≤ 19) => (fr_20 k (by omega)).trans (rfl))) (va_up_ne _ _ (by decide)) (va_up_ne _ _ (by decide)) (va_up_ne _ _ (by decide)) (fun _ _ => ⟨rfl, rfl⟩) hBd, (va_up_ne _ _ (by decide)), Or.inr ⟨rfl, Or.inl ⟨by omega, va_up_self _ _ _⟩⟩⟩, by show va_P (dC, dI) vwCl _ t9.heap; rw [ht9]; exact hP⟩, hS.F ht9⟩) hS.2.2 dX10_noName_44
  · have c_17 := mt (k_lt v (nI 0)).mpr c_17
    rw [show (nI 0).toInt = 0 from by decide] at c_17
    refine lv_iload_n hx hb dX10_noName_5 rfl (lv_at hl 1 rfl) ?_
    refine lv_bipush (v := nI 7) hx hb dX10_noName_6 (by decide +kernel) ?_
    refine lv_icmp_le (tgt := 15) hx hb dX10_noName_8 (by decide) (fun c_22 => ?_) (fun c_22 => ?_)
    · have c_22 := (k_le v (nI 7)).mp c_22
      rw [show (nI 7).toInt = 7 from by decide] at c_22
      obtain ⟨vn, hvn, evn, -⟩ := k_nat (x := v) (by omega)
      subst hvn
      refine lv_aload_n hx hb dX10_noName_15 rfl (lv_at hl 0 rfl) ?_
      refine m_get (D := (dC, dI)) (v := .ref (ad 11)) (C := RX10) (T := TX10) (N := 29) hx hb hts bk0 hown hK hP 0 (by decide) r_3 rfl 15 (by decide) (hts (.fieldLink RX10 47 "GradientDeskModel" "names" "[I") (List.mem_of_getElem? (i := 2) rfl)) (fun _ h9 => h9) rfl dX10_noName_16 ?_
      refine lv_iload_n hx hb dX10_noName_19 rfl (lv_at hl 1 rfl) ?_
      refine m_iald hx hb hK hP 11 (by decide) rfl t11 (i := vn) (by omega) (by decide) dX10_noName_20 ?_
      have b_23 := t11b vn
      refine lv_if_ge (tgt := 28) hx hb dX10_noName_21 (by decide) (fun c_24 => ?_) (fun c_24 => ?_)
      · have c_24 := (k_iLE (a := 0) (b := nm vn) (show nI 0 = iI 0 from by decide) rfl (by omega) (by omega)).mp c_24
        refine lv_iconst (v := nI 0) hx hb dX10_noName_28 (by decide +kernel) ?_
        refine m_put (D := (dC, dI)) (v := .int (nI 0)) (tv := .int) (C := RX10) (T := TX10) (N := 29) hx hb hts bk0 tyX10 tyX10_ok nmX10 hown hK hP hD hS 0 (by decide) r_3 rfl 0 (by decide) (hts (.fieldLink RX10 78 "GradientDeskModel" "thrown" "I") (List.mem_of_getElem? (i := 1) rfl)) (fun _ h9 => h9) rfl (by decide +kernel) rfl rfl (Nat.le_of_ble_eq_true rfl) dX10_noName_29 (fun H locs g_25 f_26 fr_27 hP hS => ?_)
        have f_26 : g_25 0 = .inr (13, Rob ad (va_up x 0 (nI 0))) := f_26
        refine lv_aload_n hx hb dX10_noName_32 rfl (lv_at hl 0 rfl) ?_
        refine m_get (D := (dC, dI)) (v := .int (nI 0)) (C := RX10) (T := TX10) (N := 29) hx hb hts bk0 hown hK hP 0 (by decide) f_26 rfl 0 (by decide) (hts (.fieldLink RX10 78 "GradientDeskModel" "thrown" "I") (List.mem_of_getElem? (i := 1) rfl)) (fun _ h9 => h9) (congrArg (fun z => some (Value.int z)) (show (va_up x 0 (nI 0)) 0 = (nI 0) from rfl)) dX10_noName_33 ?_
        refine lv_if_le (tgt := 43) hx hb dX10_noName_36 (by decide) (fun c_28 => ?_) (fun c_28 => absurd c_28 (by decide))
        refine lv_iconst (v := nI 0) hx hb dX10_noName_43 (by decide +kernel) ?_
        refine W.widen (k := 0) (n := 0) (by omega) (by omega) ?_
        exact W.zret (v := nI 0) hx hb hr (by decide +kernel) (fun t9 ht9 hW9 => ⟨⟨nI 0, (g_25, va_up x 0 (nI 0)), rfl, ⟨RI.num hI0 (hF0.setx (fun (k : Nat) (hk : k = 1 ∨ k = 2 ∨ k = 3) => (fr_27 k (by omega)).trans (rfl)) f_26 rfl) (fun (k : Nat) (hk : (4 ≤ k ∧ k ≤ 11) ∨ k = 16) => (fr_27 k (by omega)).trans (rfl)) (hVO0.same (fun (k : Nat) (hk : 12 ≤ k ∧ k ≤ 19) => (fr_27 k (by omega)).trans (rfl))) (va_up_ne _ _ (by decide)) (va_up_ne _ _ (by decide)) (va_up_ne _ _ (by decide)) (fun _ _ => ⟨rfl, rfl⟩) hBd, (va_up_ne _ _ (by decide)), Or.inl ⟨rfl, va_up_self _ _ _, vn, rfl, by omega, by omega⟩⟩, by show va_P (dC, dI) vwCl _ t9.heap; rw [ht9]; exact hP⟩, hS.F ht9⟩) hS.2.2 dX10_noName_44
      · have c_24 := mt (k_iLE (a := 0) (b := nm vn) (show nI 0 = iI 0 from by decide) rfl (by omega) (by omega)).mpr c_24
        refine lv_iconst (v := nI 2) hx hb dX10_noName_24 (by decide +kernel) ?_
        refine lv_goto (tgt := 29) hx hb dX10_noName_25 (by decide) ?_
        refine m_put (D := (dC, dI)) (v := .int (nI 2)) (tv := .int) (C := RX10) (T := TX10) (N := 29) hx hb hts bk0 tyX10 tyX10_ok nmX10 hown hK hP hD hS 0 (by decide) r_3 rfl 0 (by decide) (hts (.fieldLink RX10 78 "GradientDeskModel" "thrown" "I") (List.mem_of_getElem? (i := 1) rfl)) (fun _ h9 => h9) rfl (by decide +kernel) rfl rfl (Nat.le_of_ble_eq_true rfl) dX10_noName_29 (fun H locs g_29 f_30 fr_31 hP hS => ?_)
        have f_30 : g_29 0 = .inr (13, Rob ad (va_up x 0 (nI 2))) := f_30
        refine lv_aload_n hx hb dX10_noName_32 rfl (lv_at hl 0 rfl) ?_
        refine m_get (D := (dC, dI)) (v := .int (nI 2)) (C := RX10) (T := TX10) (N := 29) hx hb hts bk0 hown hK hP 0 (by decide) f_30 rfl 0 (by decide) (hts (.fieldLink RX10 78 "GradientDeskModel" "thrown" "I") (List.mem_of_getElem? (i := 1) rfl)) (fun _ h9 => h9) (congrArg (fun z => some (Value.int z)) (show (va_up x 0 (nI 2)) 0 = (nI 2) from rfl)) dX10_noName_33 ?_
        refine lv_if_le (tgt := 43) hx hb dX10_noName_36 (by decide) (fun c_32 => absurd c_32 (by decide)) (fun c_32 => ?_)
        refine lv_iconst (v := nI 1) hx hb dX10_noName_39 (by decide +kernel) ?_
        refine lv_goto (tgt := 44) hx hb dX10_noName_40 (by decide) ?_
        refine W.widen (k := 0) (n := 0) (by omega) (by omega) ?_
        exact W.zret (v := nI 1) hx hb hr (by decide +kernel) (fun t9 ht9 hW9 => ⟨⟨nI 1, (g_29, va_up x 0 (nI 2)), rfl, ⟨RI.num hI0 (hF0.setx (fun (k : Nat) (hk : k = 1 ∨ k = 2 ∨ k = 3) => (fr_31 k (by omega)).trans (rfl)) f_30 rfl) (fun (k : Nat) (hk : (4 ≤ k ∧ k ≤ 11) ∨ k = 16) => (fr_31 k (by omega)).trans (rfl)) (hVO0.same (fun (k : Nat) (hk : 12 ≤ k ∧ k ≤ 19) => (fr_31 k (by omega)).trans (rfl))) (va_up_ne _ _ (by decide)) (va_up_ne _ _ (by decide)) (va_up_ne _ _ (by decide)) (fun _ _ => ⟨rfl, rfl⟩) hBd, (va_up_ne _ _ (by decide)), Or.inr ⟨rfl, Or.inr ⟨vn, rfl, by omega, by omega, va_up_self _ _ _⟩⟩⟩, by show va_P (dC, dI) vwCl _ t9.heap; rw [ht9]; exact hP⟩, hS.F ht9⟩) hS.2.2 dX10_noName_44
    · have c_22 := mt (k_le v (nI 7)).mpr c_22
      rw [show (nI 7).toInt = 7 from by decide] at c_22
      refine lv_iconst (v := nI 1) hx hb dX10_noName_11 (by decide +kernel) ?_
      refine lv_goto (tgt := 29) hx hb dX10_noName_12 (by decide) ?_
      refine m_put (D := (dC, dI)) (v := .int (nI 1)) (tv := .int) (C := RX10) (T := TX10) (N := 29) hx hb hts bk0 tyX10 tyX10_ok nmX10 hown hK hP hD hS 0 (by decide) r_3 rfl 0 (by decide) (hts (.fieldLink RX10 78 "GradientDeskModel" "thrown" "I") (List.mem_of_getElem? (i := 1) rfl)) (fun _ h9 => h9) rfl (by decide +kernel) rfl rfl (Nat.le_of_ble_eq_true rfl) dX10_noName_29 (fun H locs g_33 f_34 fr_35 hP hS => ?_)
      have f_34 : g_33 0 = .inr (13, Rob ad (va_up x 0 (nI 1))) := f_34
      refine lv_aload_n hx hb dX10_noName_32 rfl (lv_at hl 0 rfl) ?_
      refine m_get (D := (dC, dI)) (v := .int (nI 1)) (C := RX10) (T := TX10) (N := 29) hx hb hts bk0 hown hK hP 0 (by decide) f_34 rfl 0 (by decide) (hts (.fieldLink RX10 78 "GradientDeskModel" "thrown" "I") (List.mem_of_getElem? (i := 1) rfl)) (fun _ h9 => h9) (congrArg (fun z => some (Value.int z)) (show (va_up x 0 (nI 1)) 0 = (nI 1) from rfl)) dX10_noName_33 ?_
      refine lv_if_le (tgt := 43) hx hb dX10_noName_36 (by decide) (fun c_36 => absurd c_36 (by decide)) (fun c_36 => ?_)
      refine lv_iconst (v := nI 1) hx hb dX10_noName_39 (by decide +kernel) ?_
      refine lv_goto (tgt := 44) hx hb dX10_noName_40 (by decide) ?_
      refine W.widen (k := 0) (n := 0) (by omega) (by omega) ?_
      exact W.zret (v := nI 1) hx hb hr (by decide +kernel) (fun t9 ht9 hW9 => ⟨⟨nI 1, (g_33, va_up x 0 (nI 1)), rfl, ⟨RI.num hI0 (hF0.setx (fun (k : Nat) (hk : k = 1 ∨ k = 2 ∨ k = 3) => (fr_35 k (by omega)).trans (rfl)) f_34 rfl) (fun (k : Nat) (hk : (4 ≤ k ∧ k ≤ 11) ∨ k = 16) => (fr_35 k (by omega)).trans (rfl)) (hVO0.same (fun (k : Nat) (hk : 12 ≤ k ∧ k ≤ 19) => (fr_35 k (by omega)).trans (rfl))) (va_up_ne _ _ (by decide)) (va_up_ne _ _ (by decide)) (va_up_ne _ _ (by decide)) (fun _ _ => ⟨rfl, rfl⟩) hBd, (va_up_ne _ _ (by decide)), Or.inr ⟨rfl, Or.inl ⟨by omega, va_up_self _ _ _⟩⟩⟩, by show va_P (dC, dI) vwCl _ t9.heap; rw [ht9]; exact hP⟩, hS.F ht9⟩) hS.2.2 dX10_noName_44
def wd_X10_part : List Cond := .code yX10_part cX10_part 3 (some .int) :: (([.fieldLink RX10 78 "GradientDeskModel" "thrown" "I", .fieldLink RX10 149 "GradientDeskModel" "made" "I", .fieldLink RX10 44 "GradientDeskModel" "sizeD" "[I", .fieldLink RX10 41 "GradientDeskModel" "sizeN" "[I", .fieldLink RX10 38 "GradientDeskModel" "degree" "[I", .fieldLink RX10 35 "GradientDeskModel" "second" "[I", .fieldLink RX10 32 "GradientDeskModel" "first" "[I", .fieldLink RX10 29 "GradientDeskModel" "sort" "[I"] : List Cond) ++ (u_ws RX10 TX10 29 ++ ([])))
theorem gw_X10_part : wd_X10_part.all goodWord = true := k_allc rfl (k_all (by decide +kernel) (k_all (gu_X10) (rfl)))
set_option maxHeartbeats 4000000 in
set_option maxRecDepth 100000 in
theorem c_X10_part (l : Launch) (dC : Nat → ClassId) (dI : Nat → Nat → Nat) (A : Nat → Prop) (ad : Nat → Nat) (cA : Nat → ClassId) (g : Nat → va_E) (x : Nat → Int32) (L : List PD) (nm : Nat → Int) (tx : Nat → Nat) (ty : Nat) (wr : List Int) (v : Int32) (w1 : Int32) (hI : RIE ad cA g x L nm tx ty wr) : Met l yX10_part wd_X10_part ({ frames := 10, cells := 0, slots := 0, locals := 200 }) (va_Pc [.ref (ad 0), .int v, .int w1] (PR NSr tyr dC dI A ad cA g)) (va_Qi (fun (r : Int32) => fun (u : (Nat → va_E) × (Nat → Int32)) => match u with | (g2, x2) => RIE ad cA g2 x2 L nm tx ty wr ∧ x2 2 = x 2 ∧ ((x2 0 = nI 0 ∧ ∃ kn fn, v = nI kn ∧ kn < L.length ∧ w1 = nI fn ∧ fn ≤ 5 ∧ r = iI (fld (gd L kn) fn)) ∨ (r = nI 0 ∧ ((¬ (0 ≤ v.toInt ∧ v.toInt < L.length) ∧ x2 0 = nI 1) ∨ ((0 ≤ v.toInt ∧ v.toInt < L.length) ∧ ¬ (0 ≤ w1.toInt ∧ w1.toInt ≤ 5) ∧ x2 0 = nI 2))))) (fun (u : (Nat → va_E) × (Nat → Int32)) (t : State) => va_P (dC, dI) vwCl (wo ad NSr u.1) t.heap) A) (0) (0) A := by
  refine Met.ofW (cc := cX10_part) (maxL := 3) (ret := (some .int)) (by decide) rfl ?_
  intro p e s m args below meth c s₁ B hml hv
  obtain ⟨rfl, hA, hP, hL⟩ := hv
  have hx := B.exec
  have hb := B.bytes
  have hr := B.returns
  have hts := atoms_spec (ws := wd_X10_part) B.pre
  have hown : s.vm.findClass RX10 = some m.cls := findClass_of_methodNamed B.named
  have hlocks := B.notSynchronized
  have hK := hL.1
  have hD : ∀ g, va_D A (wo ad NSr g) := fun g => wo_D hL.2.1 hL.2.2 g
  have hS : va_S A s.heap s.heap [] := va_S.rf
  have bk0 : ∀ w ∈ u_ws RX10 TX10 29, w ∈ wd_X10_part := fun _ h => List.mem_cons_of_mem _ (List.mem_append_right _ (List.mem_append_left _ h))
  have hl := lv_entry ([.ref (ad 0), .int v, .int w1]) (n := 3) (Nat.le_of_ble_eq_true rfl)
  rw [lg_entry_eq]
  generalize (lg_sl ([.ref (ad 0), .int v, .int w1]) ++ List.replicate (3 - (lg_sl ([.ref (ad 0), .int v, .int w1])).length) Slot.unset).toArray = ls at hl ⊢
  have hl : lv_has ls 3 [(0, .ref (ad 0)), (1, .int v), (2, .int w1)] := hl
  obtain ⟨pf, qf, pt, hI0⟩ := hI
  have hI1 := hI0
  obtain ⟨hF, hPt, hM, hW, hL2, hmd, hTx, hty, hty2, hwr, hwr2, hVO, hBd⟩ := hI1
  have hVO0 := hVO
  have hPt0 := hPt
  have hTx0 := hTx
  have hF0 := hF
  obtain ⟨vf, hV, hq⟩ := hF
  have hc_1 := hV
  obtain ⟨pnz_2, lnz_2, bnz_2, hRz_2, hvz_2⟩ := hc_1
  obtain ⟨r_3, r_4, r_5, r_6, r_7, r_8, r_9⟩ := hRz_2
  obtain ⟨p_10, p_11, p_12, p_13, p_14, p_15, hpt_16⟩ := hPt
  obtain ⟨t4, t4b, t11, t11b, t11c⟩ := hTx
  obtain ⟨⟨rc, v12, v12b⟩, ⟨f13, v13⟩, ⟨f14, v14⟩, ⟨f15, v15⟩, ⟨f16, v16⟩, ⟨f17, v17⟩, ⟨f18, v18⟩, ⟨f19, v19⟩⟩ := hVO
  refine lv_aload_n hx hb dX10_part_0 rfl (lv_at hl 0 rfl) ?_
  refine lv_iload_n hx hb dX10_part_1 rfl (lv_at hl 1 rfl) ?_
  refine lv_if_lt (tgt := 13) hx hb dX10_part_2 (by decide) (fun c_17 => ?_) (fun c_17 => ?_)
  · have c_17 := (k_lt v (nI 0)).mp c_17
    rw [show (nI 0).toInt = 0 from by decide] at c_17
    refine lv_iconst (v := nI 1) hx hb dX10_part_13 (by decide +kernel) ?_
    refine lv_goto (tgt := 31) hx hb dX10_part_14 (by decide) ?_
    refine m_put (D := (dC, dI)) (v := .int (nI 1)) (tv := .int) (C := RX10) (T := TX10) (N := 29) hx hb hts bk0 tyX10 tyX10_ok nmX10 hown hK hP hD hS 0 (by decide) r_3 rfl 0 (by decide) (hts (.fieldLink RX10 78 "GradientDeskModel" "thrown" "I") (List.mem_of_getElem? (i := 1) rfl)) (fun _ h9 => h9) rfl (by decide +kernel) rfl rfl (Nat.le_of_ble_eq_true rfl) dX10_part_31 (fun H locs g_18 f_19 fr_20 hP hS => ?_)
    have f_19 : g_18 0 = .inr (13, Rob ad (va_up x 0 (nI 1))) := f_19
    refine lv_aload_n hx hb dX10_part_34 rfl (lv_at hl 0 rfl) ?_
    refine m_get (D := (dC, dI)) (v := .int (nI 1)) (C := RX10) (T := TX10) (N := 29) hx hb hts bk0 hown hK hP 0 (by decide) f_19 rfl 0 (by decide) (hts (.fieldLink RX10 78 "GradientDeskModel" "thrown" "I") (List.mem_of_getElem? (i := 1) rfl)) (fun _ h9 => h9) (congrArg (fun z => some (Value.int z)) (show (va_up x 0 (nI 1)) 0 = (nI 1) from rfl)) dX10_part_35 ?_
    refine lv_if_le (tgt := 43) hx hb dX10_part_38 (by decide) (fun c_21 => absurd c_21 (by decide)) (fun c_21 => ?_)
    refine lv_iconst (v := nI 0) hx hb dX10_part_41 (by decide +kernel) ?_
    refine W.widen (k := 0) (n := 0) (by omega) (by omega) ?_
    exact W.iret (v := nI 0) hx hb hr (fun t9 ht9 hW9 => ⟨⟨nI 0, (g_18, va_up x 0 (nI 1)), rfl, ⟨RI.num hI0 (hF0.setx (fun (k : Nat) (hk : k = 1 ∨ k = 2 ∨ k = 3) => (fr_20 k (by omega)).trans (rfl)) f_19 rfl) (fun (k : Nat) (hk : (4 ≤ k ∧ k ≤ 11) ∨ k = 16) => (fr_20 k (by omega)).trans (rfl)) (hVO0.same (fun (k : Nat) (hk : 12 ≤ k ∧ k ≤ 19) => (fr_20 k (by omega)).trans (rfl))) (va_up_ne _ _ (by decide)) (va_up_ne _ _ (by decide)) (va_up_ne _ _ (by decide)) (fun _ _ => ⟨rfl, rfl⟩) hBd, (va_up_ne _ _ (by decide)), Or.inr ⟨rfl, Or.inl ⟨by omega, va_up_self _ _ _⟩⟩⟩, by show va_P (dC, dI) vwCl _ t9.heap; rw [ht9]; exact hP⟩, hS.F ht9⟩) hS.2.2 dX10_part_42
  · have c_17 := mt (k_lt v (nI 0)).mpr c_17
    rw [show (nI 0).toInt = 0 from by decide] at c_17
    refine lv_iload_n hx hb dX10_part_5 rfl (lv_at hl 1 rfl) ?_
    refine lv_aload_n hx hb dX10_part_6 rfl (lv_at hl 0 rfl) ?_
    refine m_get (D := (dC, dI)) (v := .int (nI L.length)) (C := RX10) (T := TX10) (N := 29) hx hb hts bk0 hown hK hP 0 (by decide) r_3 rfl 13 (by decide) (hts (.fieldLink RX10 149 "GradientDeskModel" "made" "I") (List.mem_of_getElem? (i := 2) rfl)) (fun _ h9 => h9) (congrArg (fun z => some (Value.int z)) hmd) dX10_part_7 ?_
    refine lv_icmp_lt (tgt := 17) hx hb dX10_part_10 (by decide) (fun c_22 => ?_) (fun c_22 => ?_)
    · have c_22 := (k_lt v (nI L.length)).mp c_22
      rw [nI_toInt (show L.length < 2 ^ 31 by omega)] at c_22
      refine lv_iload_n hx hb dX10_part_17 rfl (lv_at hl 2 rfl) ?_
      refine lv_if_lt (tgt := 26) hx hb dX10_part_18 (by decide) (fun c_23 => ?_) (fun c_23 => ?_)
      · have c_23 := (k_lt w1 (nI 0)).mp c_23
        rw [show (nI 0).toInt = 0 from by decide] at c_23
        refine lv_iconst (v := nI 2) hx hb dX10_part_26 (by decide +kernel) ?_
        refine lv_goto (tgt := 31) hx hb dX10_part_27 (by decide) ?_
        refine m_put (D := (dC, dI)) (v := .int (nI 2)) (tv := .int) (C := RX10) (T := TX10) (N := 29) hx hb hts bk0 tyX10 tyX10_ok nmX10 hown hK hP hD hS 0 (by decide) r_3 rfl 0 (by decide) (hts (.fieldLink RX10 78 "GradientDeskModel" "thrown" "I") (List.mem_of_getElem? (i := 1) rfl)) (fun _ h9 => h9) rfl (by decide +kernel) rfl rfl (Nat.le_of_ble_eq_true rfl) dX10_part_31 (fun H locs g_24 f_25 fr_26 hP hS => ?_)
        have f_25 : g_24 0 = .inr (13, Rob ad (va_up x 0 (nI 2))) := f_25
        refine lv_aload_n hx hb dX10_part_34 rfl (lv_at hl 0 rfl) ?_
        refine m_get (D := (dC, dI)) (v := .int (nI 2)) (C := RX10) (T := TX10) (N := 29) hx hb hts bk0 hown hK hP 0 (by decide) f_25 rfl 0 (by decide) (hts (.fieldLink RX10 78 "GradientDeskModel" "thrown" "I") (List.mem_of_getElem? (i := 1) rfl)) (fun _ h9 => h9) (congrArg (fun z => some (Value.int z)) (show (va_up x 0 (nI 2)) 0 = (nI 2) from rfl)) dX10_part_35 ?_
        refine lv_if_le (tgt := 43) hx hb dX10_part_38 (by decide) (fun c_27 => absurd c_27 (by decide)) (fun c_27 => ?_)
        refine lv_iconst (v := nI 0) hx hb dX10_part_41 (by decide +kernel) ?_
        refine W.widen (k := 0) (n := 0) (by omega) (by omega) ?_
        exact W.iret (v := nI 0) hx hb hr (fun t9 ht9 hW9 => ⟨⟨nI 0, (g_24, va_up x 0 (nI 2)), rfl, ⟨RI.num hI0 (hF0.setx (fun (k : Nat) (hk : k = 1 ∨ k = 2 ∨ k = 3) => (fr_26 k (by omega)).trans (rfl)) f_25 rfl) (fun (k : Nat) (hk : (4 ≤ k ∧ k ≤ 11) ∨ k = 16) => (fr_26 k (by omega)).trans (rfl)) (hVO0.same (fun (k : Nat) (hk : 12 ≤ k ∧ k ≤ 19) => (fr_26 k (by omega)).trans (rfl))) (va_up_ne _ _ (by decide)) (va_up_ne _ _ (by decide)) (va_up_ne _ _ (by decide)) (fun _ _ => ⟨rfl, rfl⟩) hBd, (va_up_ne _ _ (by decide)), Or.inr ⟨rfl, Or.inr ⟨by omega, by omega, va_up_self _ _ _⟩⟩⟩, by show va_P (dC, dI) vwCl _ t9.heap; rw [ht9]; exact hP⟩, hS.F ht9⟩) hS.2.2 dX10_part_42
      · have c_23 := mt (k_lt w1 (nI 0)).mpr c_23
        rw [show (nI 0).toInt = 0 from by decide] at c_23
        refine lv_iload_n hx hb dX10_part_21 rfl (lv_at hl 2 rfl) ?_
        refine lv_iconst (v := nI 5) hx hb dX10_part_22 (by decide +kernel) ?_
        refine lv_icmp_le (tgt := 30) hx hb dX10_part_23 (by decide) (fun c_28 => ?_) (fun c_28 => ?_)
        · have c_28 := (k_le w1 (nI 5)).mp c_28
          rw [show (nI 5).toInt = 5 from by decide] at c_28
          refine lv_iconst (v := nI 0) hx hb dX10_part_30 (by decide +kernel) ?_
          refine m_put (D := (dC, dI)) (v := .int (nI 0)) (tv := .int) (C := RX10) (T := TX10) (N := 29) hx hb hts bk0 tyX10 tyX10_ok nmX10 hown hK hP hD hS 0 (by decide) r_3 rfl 0 (by decide) (hts (.fieldLink RX10 78 "GradientDeskModel" "thrown" "I") (List.mem_of_getElem? (i := 1) rfl)) (fun _ h9 => h9) rfl (by decide +kernel) rfl rfl (Nat.le_of_ble_eq_true rfl) dX10_part_31 (fun H locs g_29 f_30 fr_31 hP hS => ?_)
          have f_30 : g_29 0 = .inr (13, Rob ad (va_up x 0 (nI 0))) := f_30
          refine lv_aload_n hx hb dX10_part_34 rfl (lv_at hl 0 rfl) ?_
          refine m_get (D := (dC, dI)) (v := .int (nI 0)) (C := RX10) (T := TX10) (N := 29) hx hb hts bk0 hown hK hP 0 (by decide) f_30 rfl 0 (by decide) (hts (.fieldLink RX10 78 "GradientDeskModel" "thrown" "I") (List.mem_of_getElem? (i := 1) rfl)) (fun _ h9 => h9) (congrArg (fun z => some (Value.int z)) (show (va_up x 0 (nI 0)) 0 = (nI 0) from rfl)) dX10_part_35 ?_
          refine lv_if_le (tgt := 43) hx hb dX10_part_38 (by decide) (fun c_32 => ?_) (fun c_32 => absurd c_32 (by decide))
          obtain ⟨kn, hkn, ekn, -⟩ := k_nat (x := v) (by omega)
          subst hkn
          obtain ⟨fn, hfn, efn, -⟩ := k_nat (x := w1) (by omega)
          subst hfn
          obtain ⟨m0, m1, m2, m3, m4, m5, m6⟩ := hM kn (by omega)
          refine lv_iload_n hx hb dX10_part_43 rfl (lv_at hl 2 rfl) ?_
          refine lv_if_ne (tgt := 56) hx hb dX10_part_44 (by decide) (fun c_33 => ?_) (fun c_33 => ?_)
          · have c_33 := mt (nI_eq (a := fn) (b := 0) (by omega) (by decide)).mpr c_33
            refine lv_iload_n hx hb dX10_part_56 rfl (lv_at hl 2 rfl) ?_
            refine lv_iconst (v := nI 1) hx hb dX10_part_57 (by decide +kernel) ?_
            refine lv_icmp_ne (tgt := 70) hx hb dX10_part_58 (by decide) (fun c_34 => ?_) (fun c_34 => ?_)
            · have c_34 := mt (nI_eq (a := fn) (b := 1) (by omega) (by decide)).mpr c_34
              refine lv_iload_n hx hb dX10_part_70 rfl (lv_at hl 2 rfl) ?_
              refine lv_iconst (v := nI 2) hx hb dX10_part_71 (by decide +kernel) ?_
              refine lv_icmp_ne (tgt := 84) hx hb dX10_part_72 (by decide) (fun c_35 => ?_) (fun c_35 => ?_)
              · have c_35 := mt (nI_eq (a := fn) (b := 2) (by omega) (by decide)).mpr c_35
                refine lv_iload_n hx hb dX10_part_84 rfl (lv_at hl 2 rfl) ?_
                refine lv_iconst (v := nI 3) hx hb dX10_part_85 (by decide +kernel) ?_
                refine lv_icmp_ne (tgt := 98) hx hb dX10_part_86 (by decide) (fun c_36 => ?_) (fun c_36 => ?_)
                · have c_36 := mt (nI_eq (a := fn) (b := 3) (by omega) (by decide)).mpr c_36
                  refine lv_iload_n hx hb dX10_part_98 rfl (lv_at hl 2 rfl) ?_
                  refine lv_iconst (v := nI 4) hx hb dX10_part_99 (by decide +kernel) ?_
                  refine lv_icmp_ne (tgt := 112) hx hb dX10_part_100 (by decide) (fun c_37 => ?_) (fun c_37 => ?_)
                  · have c_37 := mt (nI_eq (a := fn) (b := 4) (by omega) (by decide)).mpr c_37
                    refine lv_aload_n hx hb dX10_part_112 rfl (lv_at hl 0 rfl) ?_
                    refine m_get (D := (dC, dI)) (v := .ref (ad 10)) (C := RX10) (T := TX10) (N := 29) hx hb hts bk0 hown hK hP 0 (by decide) f_30 rfl 12 (by decide) (hts (.fieldLink RX10 44 "GradientDeskModel" "sizeD" "[I") (List.mem_of_getElem? (i := 3) rfl)) (fun _ h9 => h9) rfl dX10_part_113 ?_
                    refine lv_iload_n hx hb dX10_part_116 rfl (lv_at hl 1 rfl) ?_
                    have f_38 : g_29 10 = .inl (cA 10, 201, .inl (fun j => iI ((pt 5) j))) := (fr_31 10 (by omega)).trans p_15
                    refine m_iald hx hb hK hP 10 (by decide) rfl f_38 (i := kn) (by omega) (by decide) dX10_part_117 ?_
                    have b_39 := (hpt_16 5) kn
                    refine W.widen (k := 0) (n := 0) (by omega) (by omega) ?_
                    exact W.iret (v := iI ((pt 5) kn)) hx hb hr (fun t9 ht9 hW9 => ⟨⟨iI ((pt 5) kn), (g_29, va_up x 0 (nI 0)), rfl, ⟨RI.num hI0 (hF0.setx (fun (k : Nat) (hk : k = 1 ∨ k = 2 ∨ k = 3) => (fr_31 k (by omega)).trans (rfl)) f_30 rfl) (fun (k : Nat) (hk : (4 ≤ k ∧ k ≤ 11) ∨ k = 16) => (fr_31 k (by omega)).trans (rfl)) (hVO0.same (fun (k : Nat) (hk : 12 ≤ k ∧ k ≤ 19) => (fr_31 k (by omega)).trans (rfl))) (va_up_ne _ _ (by decide)) (va_up_ne _ _ (by decide)) (va_up_ne _ _ (by decide)) (fun _ _ => ⟨rfl, rfl⟩) hBd, (va_up_ne _ _ (by decide)), Or.inl ⟨va_up_self _ _ _, kn, 5, rfl, by omega, (congrArg nI (show fn = 5 by omega)), by decide, congrArg iI (show pt 5 kn = fld (gd L kn) 5 from m5)⟩⟩, by show va_P (dC, dI) vwCl _ t9.heap; rw [ht9]; exact hP⟩, hS.F ht9⟩) hS.2.2 dX10_part_118
                  · have c_37 := (nI_eq (a := fn) (b := 4) (by omega) (by decide)).mp c_37
                    refine lv_aload_n hx hb dX10_part_103 rfl (lv_at hl 0 rfl) ?_
                    refine m_get (D := (dC, dI)) (v := .ref (ad 9)) (C := RX10) (T := TX10) (N := 29) hx hb hts bk0 hown hK hP 0 (by decide) f_30 rfl 11 (by decide) (hts (.fieldLink RX10 41 "GradientDeskModel" "sizeN" "[I") (List.mem_of_getElem? (i := 4) rfl)) (fun _ h9 => h9) rfl dX10_part_104 ?_
                    refine lv_iload_n hx hb dX10_part_107 rfl (lv_at hl 1 rfl) ?_
                    have f_40 : g_29 9 = .inl (cA 9, 201, .inl (fun j => iI ((pt 4) j))) := (fr_31 9 (by omega)).trans p_14
                    refine m_iald hx hb hK hP 9 (by decide) rfl f_40 (i := kn) (by omega) (by decide) dX10_part_108 ?_
                    have b_41 := (hpt_16 4) kn
                    refine lv_goto (tgt := 118) hx hb dX10_part_109 (by decide) ?_
                    refine W.widen (k := 0) (n := 0) (by omega) (by omega) ?_
                    exact W.iret (v := iI ((pt 4) kn)) hx hb hr (fun t9 ht9 hW9 => ⟨⟨iI ((pt 4) kn), (g_29, va_up x 0 (nI 0)), rfl, ⟨RI.num hI0 (hF0.setx (fun (k : Nat) (hk : k = 1 ∨ k = 2 ∨ k = 3) => (fr_31 k (by omega)).trans (rfl)) f_30 rfl) (fun (k : Nat) (hk : (4 ≤ k ∧ k ≤ 11) ∨ k = 16) => (fr_31 k (by omega)).trans (rfl)) (hVO0.same (fun (k : Nat) (hk : 12 ≤ k ∧ k ≤ 19) => (fr_31 k (by omega)).trans (rfl))) (va_up_ne _ _ (by decide)) (va_up_ne _ _ (by decide)) (va_up_ne _ _ (by decide)) (fun _ _ => ⟨rfl, rfl⟩) hBd, (va_up_ne _ _ (by decide)), Or.inl ⟨va_up_self _ _ _, kn, 4, rfl, by omega, (congrArg nI (show fn = 4 by omega)), by decide, congrArg iI (show pt 4 kn = fld (gd L kn) 4 from m4)⟩⟩, by show va_P (dC, dI) vwCl _ t9.heap; rw [ht9]; exact hP⟩, hS.F ht9⟩) hS.2.2 dX10_part_118
                · have c_36 := (nI_eq (a := fn) (b := 3) (by omega) (by decide)).mp c_36
                  refine lv_aload_n hx hb dX10_part_89 rfl (lv_at hl 0 rfl) ?_
                  refine m_get (D := (dC, dI)) (v := .ref (ad 8)) (C := RX10) (T := TX10) (N := 29) hx hb hts bk0 hown hK hP 0 (by decide) f_30 rfl 10 (by decide) (hts (.fieldLink RX10 38 "GradientDeskModel" "degree" "[I") (List.mem_of_getElem? (i := 5) rfl)) (fun _ h9 => h9) rfl dX10_part_90 ?_
                  refine lv_iload_n hx hb dX10_part_93 rfl (lv_at hl 1 rfl) ?_
                  have f_42 : g_29 8 = .inl (cA 8, 201, .inl (fun j => iI ((pt 3) j))) := (fr_31 8 (by omega)).trans p_13
                  refine m_iald hx hb hK hP 8 (by decide) rfl f_42 (i := kn) (by omega) (by decide) dX10_part_94 ?_
                  have b_43 := (hpt_16 3) kn
                  refine lv_goto (tgt := 118) hx hb dX10_part_95 (by decide) ?_
                  refine W.widen (k := 0) (n := 0) (by omega) (by omega) ?_
                  exact W.iret (v := iI ((pt 3) kn)) hx hb hr (fun t9 ht9 hW9 => ⟨⟨iI ((pt 3) kn), (g_29, va_up x 0 (nI 0)), rfl, ⟨RI.num hI0 (hF0.setx (fun (k : Nat) (hk : k = 1 ∨ k = 2 ∨ k = 3) => (fr_31 k (by omega)).trans (rfl)) f_30 rfl) (fun (k : Nat) (hk : (4 ≤ k ∧ k ≤ 11) ∨ k = 16) => (fr_31 k (by omega)).trans (rfl)) (hVO0.same (fun (k : Nat) (hk : 12 ≤ k ∧ k ≤ 19) => (fr_31 k (by omega)).trans (rfl))) (va_up_ne _ _ (by decide)) (va_up_ne _ _ (by decide)) (va_up_ne _ _ (by decide)) (fun _ _ => ⟨rfl, rfl⟩) hBd, (va_up_ne _ _ (by decide)), Or.inl ⟨va_up_self _ _ _, kn, 3, rfl, by omega, (congrArg nI (show fn = 3 by omega)), by decide, congrArg iI (show pt 3 kn = fld (gd L kn) 3 from m3)⟩⟩, by show va_P (dC, dI) vwCl _ t9.heap; rw [ht9]; exact hP⟩, hS.F ht9⟩) hS.2.2 dX10_part_118
              · have c_35 := (nI_eq (a := fn) (b := 2) (by omega) (by decide)).mp c_35
                refine lv_aload_n hx hb dX10_part_75 rfl (lv_at hl 0 rfl) ?_
                refine m_get (D := (dC, dI)) (v := .ref (ad 7)) (C := RX10) (T := TX10) (N := 29) hx hb hts bk0 hown hK hP 0 (by decide) f_30 rfl 9 (by decide) (hts (.fieldLink RX10 35 "GradientDeskModel" "second" "[I") (List.mem_of_getElem? (i := 6) rfl)) (fun _ h9 => h9) rfl dX10_part_76 ?_
                refine lv_iload_n hx hb dX10_part_79 rfl (lv_at hl 1 rfl) ?_
                have f_44 : g_29 7 = .inl (cA 7, 201, .inl (fun j => iI ((pt 2) j))) := (fr_31 7 (by omega)).trans p_12
                refine m_iald hx hb hK hP 7 (by decide) rfl f_44 (i := kn) (by omega) (by decide) dX10_part_80 ?_
                have b_45 := (hpt_16 2) kn
                refine lv_goto (tgt := 118) hx hb dX10_part_81 (by decide) ?_
                refine W.widen (k := 0) (n := 0) (by omega) (by omega) ?_
                exact W.iret (v := iI ((pt 2) kn)) hx hb hr (fun t9 ht9 hW9 => ⟨⟨iI ((pt 2) kn), (g_29, va_up x 0 (nI 0)), rfl, ⟨RI.num hI0 (hF0.setx (fun (k : Nat) (hk : k = 1 ∨ k = 2 ∨ k = 3) => (fr_31 k (by omega)).trans (rfl)) f_30 rfl) (fun (k : Nat) (hk : (4 ≤ k ∧ k ≤ 11) ∨ k = 16) => (fr_31 k (by omega)).trans (rfl)) (hVO0.same (fun (k : Nat) (hk : 12 ≤ k ∧ k ≤ 19) => (fr_31 k (by omega)).trans (rfl))) (va_up_ne _ _ (by decide)) (va_up_ne _ _ (by decide)) (va_up_ne _ _ (by decide)) (fun _ _ => ⟨rfl, rfl⟩) hBd, (va_up_ne _ _ (by decide)), Or.inl ⟨va_up_self _ _ _, kn, 2, rfl, by omega, (congrArg nI (show fn = 2 by omega)), by decide, congrArg iI (show pt 2 kn = fld (gd L kn) 2 from m2)⟩⟩, by show va_P (dC, dI) vwCl _ t9.heap; rw [ht9]; exact hP⟩, hS.F ht9⟩) hS.2.2 dX10_part_118
            · have c_34 := (nI_eq (a := fn) (b := 1) (by omega) (by decide)).mp c_34
              refine lv_aload_n hx hb dX10_part_61 rfl (lv_at hl 0 rfl) ?_
              refine m_get (D := (dC, dI)) (v := .ref (ad 6)) (C := RX10) (T := TX10) (N := 29) hx hb hts bk0 hown hK hP 0 (by decide) f_30 rfl 8 (by decide) (hts (.fieldLink RX10 32 "GradientDeskModel" "first" "[I") (List.mem_of_getElem? (i := 7) rfl)) (fun _ h9 => h9) rfl dX10_part_62 ?_
              refine lv_iload_n hx hb dX10_part_65 rfl (lv_at hl 1 rfl) ?_
              have f_46 : g_29 6 = .inl (cA 6, 201, .inl (fun j => iI ((pt 1) j))) := (fr_31 6 (by omega)).trans p_11
              refine m_iald hx hb hK hP 6 (by decide) rfl f_46 (i := kn) (by omega) (by decide) dX10_part_66 ?_
              have b_47 := (hpt_16 1) kn
              refine lv_goto (tgt := 118) hx hb dX10_part_67 (by decide) ?_
              refine W.widen (k := 0) (n := 0) (by omega) (by omega) ?_
              exact W.iret (v := iI ((pt 1) kn)) hx hb hr (fun t9 ht9 hW9 => ⟨⟨iI ((pt 1) kn), (g_29, va_up x 0 (nI 0)), rfl, ⟨RI.num hI0 (hF0.setx (fun (k : Nat) (hk : k = 1 ∨ k = 2 ∨ k = 3) => (fr_31 k (by omega)).trans (rfl)) f_30 rfl) (fun (k : Nat) (hk : (4 ≤ k ∧ k ≤ 11) ∨ k = 16) => (fr_31 k (by omega)).trans (rfl)) (hVO0.same (fun (k : Nat) (hk : 12 ≤ k ∧ k ≤ 19) => (fr_31 k (by omega)).trans (rfl))) (va_up_ne _ _ (by decide)) (va_up_ne _ _ (by decide)) (va_up_ne _ _ (by decide)) (fun _ _ => ⟨rfl, rfl⟩) hBd, (va_up_ne _ _ (by decide)), Or.inl ⟨va_up_self _ _ _, kn, 1, rfl, by omega, (congrArg nI (show fn = 1 by omega)), by decide, congrArg iI (show pt 1 kn = fld (gd L kn) 1 from m1)⟩⟩, by show va_P (dC, dI) vwCl _ t9.heap; rw [ht9]; exact hP⟩, hS.F ht9⟩) hS.2.2 dX10_part_118
          · have c_33 := (nI_eq (a := fn) (b := 0) (by omega) (by decide)).mp c_33
            refine lv_aload_n hx hb dX10_part_47 rfl (lv_at hl 0 rfl) ?_
            refine m_get (D := (dC, dI)) (v := .ref (ad 5)) (C := RX10) (T := TX10) (N := 29) hx hb hts bk0 hown hK hP 0 (by decide) f_30 rfl 7 (by decide) (hts (.fieldLink RX10 29 "GradientDeskModel" "sort" "[I") (List.mem_of_getElem? (i := 8) rfl)) (fun _ h9 => h9) rfl dX10_part_48 ?_
            refine lv_iload_n hx hb dX10_part_51 rfl (lv_at hl 1 rfl) ?_
            have f_48 : g_29 5 = .inl (cA 5, 201, .inl (fun j => iI ((pt 0) j))) := (fr_31 5 (by omega)).trans p_10
            refine m_iald hx hb hK hP 5 (by decide) rfl f_48 (i := kn) (by omega) (by decide) dX10_part_52 ?_
            have b_49 := (hpt_16 0) kn
            refine lv_goto (tgt := 118) hx hb dX10_part_53 (by decide) ?_
            refine W.widen (k := 0) (n := 0) (by omega) (by omega) ?_
            exact W.iret (v := iI ((pt 0) kn)) hx hb hr (fun t9 ht9 hW9 => ⟨⟨iI ((pt 0) kn), (g_29, va_up x 0 (nI 0)), rfl, ⟨RI.num hI0 (hF0.setx (fun (k : Nat) (hk : k = 1 ∨ k = 2 ∨ k = 3) => (fr_31 k (by omega)).trans (rfl)) f_30 rfl) (fun (k : Nat) (hk : (4 ≤ k ∧ k ≤ 11) ∨ k = 16) => (fr_31 k (by omega)).trans (rfl)) (hVO0.same (fun (k : Nat) (hk : 12 ≤ k ∧ k ≤ 19) => (fr_31 k (by omega)).trans (rfl))) (va_up_ne _ _ (by decide)) (va_up_ne _ _ (by decide)) (va_up_ne _ _ (by decide)) (fun _ _ => ⟨rfl, rfl⟩) hBd, (va_up_ne _ _ (by decide)), Or.inl ⟨va_up_self _ _ _, kn, 0, rfl, by omega, (congrArg nI (show fn = 0 by omega)), by decide, congrArg iI (show pt 0 kn = fld (gd L kn) 0 from m0)⟩⟩, by show va_P (dC, dI) vwCl _ t9.heap; rw [ht9]; exact hP⟩, hS.F ht9⟩) hS.2.2 dX10_part_118
        · have c_28 := mt (k_le w1 (nI 5)).mpr c_28
          rw [show (nI 5).toInt = 5 from by decide] at c_28
          refine lv_iconst (v := nI 2) hx hb dX10_part_26 (by decide +kernel) ?_
          refine lv_goto (tgt := 31) hx hb dX10_part_27 (by decide) ?_
          refine m_put (D := (dC, dI)) (v := .int (nI 2)) (tv := .int) (C := RX10) (T := TX10) (N := 29) hx hb hts bk0 tyX10 tyX10_ok nmX10 hown hK hP hD hS 0 (by decide) r_3 rfl 0 (by decide) (hts (.fieldLink RX10 78 "GradientDeskModel" "thrown" "I") (List.mem_of_getElem? (i := 1) rfl)) (fun _ h9 => h9) rfl (by decide +kernel) rfl rfl (Nat.le_of_ble_eq_true rfl) dX10_part_31 (fun H locs g_50 f_51 fr_52 hP hS => ?_)
          have f_51 : g_50 0 = .inr (13, Rob ad (va_up x 0 (nI 2))) := f_51
          refine lv_aload_n hx hb dX10_part_34 rfl (lv_at hl 0 rfl) ?_
          refine m_get (D := (dC, dI)) (v := .int (nI 2)) (C := RX10) (T := TX10) (N := 29) hx hb hts bk0 hown hK hP 0 (by decide) f_51 rfl 0 (by decide) (hts (.fieldLink RX10 78 "GradientDeskModel" "thrown" "I") (List.mem_of_getElem? (i := 1) rfl)) (fun _ h9 => h9) (congrArg (fun z => some (Value.int z)) (show (va_up x 0 (nI 2)) 0 = (nI 2) from rfl)) dX10_part_35 ?_
          refine lv_if_le (tgt := 43) hx hb dX10_part_38 (by decide) (fun c_53 => absurd c_53 (by decide)) (fun c_53 => ?_)
          refine lv_iconst (v := nI 0) hx hb dX10_part_41 (by decide +kernel) ?_
          refine W.widen (k := 0) (n := 0) (by omega) (by omega) ?_
          exact W.iret (v := nI 0) hx hb hr (fun t9 ht9 hW9 => ⟨⟨nI 0, (g_50, va_up x 0 (nI 2)), rfl, ⟨RI.num hI0 (hF0.setx (fun (k : Nat) (hk : k = 1 ∨ k = 2 ∨ k = 3) => (fr_52 k (by omega)).trans (rfl)) f_51 rfl) (fun (k : Nat) (hk : (4 ≤ k ∧ k ≤ 11) ∨ k = 16) => (fr_52 k (by omega)).trans (rfl)) (hVO0.same (fun (k : Nat) (hk : 12 ≤ k ∧ k ≤ 19) => (fr_52 k (by omega)).trans (rfl))) (va_up_ne _ _ (by decide)) (va_up_ne _ _ (by decide)) (va_up_ne _ _ (by decide)) (fun _ _ => ⟨rfl, rfl⟩) hBd, (va_up_ne _ _ (by decide)), Or.inr ⟨rfl, Or.inr ⟨by omega, by omega, va_up_self _ _ _⟩⟩⟩, by show va_P (dC, dI) vwCl _ t9.heap; rw [ht9]; exact hP⟩, hS.F ht9⟩) hS.2.2 dX10_part_42
    · have c_22 := mt (k_lt v (nI L.length)).mpr c_22
      rw [nI_toInt (show L.length < 2 ^ 31 by omega)] at c_22
      refine lv_iconst (v := nI 1) hx hb dX10_part_13 (by decide +kernel) ?_
      refine lv_goto (tgt := 31) hx hb dX10_part_14 (by decide) ?_
      refine m_put (D := (dC, dI)) (v := .int (nI 1)) (tv := .int) (C := RX10) (T := TX10) (N := 29) hx hb hts bk0 tyX10 tyX10_ok nmX10 hown hK hP hD hS 0 (by decide) r_3 rfl 0 (by decide) (hts (.fieldLink RX10 78 "GradientDeskModel" "thrown" "I") (List.mem_of_getElem? (i := 1) rfl)) (fun _ h9 => h9) rfl (by decide +kernel) rfl rfl (Nat.le_of_ble_eq_true rfl) dX10_part_31 (fun H locs g_54 f_55 fr_56 hP hS => ?_)
      have f_55 : g_54 0 = .inr (13, Rob ad (va_up x 0 (nI 1))) := f_55
      refine lv_aload_n hx hb dX10_part_34 rfl (lv_at hl 0 rfl) ?_
      refine m_get (D := (dC, dI)) (v := .int (nI 1)) (C := RX10) (T := TX10) (N := 29) hx hb hts bk0 hown hK hP 0 (by decide) f_55 rfl 0 (by decide) (hts (.fieldLink RX10 78 "GradientDeskModel" "thrown" "I") (List.mem_of_getElem? (i := 1) rfl)) (fun _ h9 => h9) (congrArg (fun z => some (Value.int z)) (show (va_up x 0 (nI 1)) 0 = (nI 1) from rfl)) dX10_part_35 ?_
      refine lv_if_le (tgt := 43) hx hb dX10_part_38 (by decide) (fun c_57 => absurd c_57 (by decide)) (fun c_57 => ?_)
      refine lv_iconst (v := nI 0) hx hb dX10_part_41 (by decide +kernel) ?_
      refine W.widen (k := 0) (n := 0) (by omega) (by omega) ?_
      exact W.iret (v := nI 0) hx hb hr (fun t9 ht9 hW9 => ⟨⟨nI 0, (g_54, va_up x 0 (nI 1)), rfl, ⟨RI.num hI0 (hF0.setx (fun (k : Nat) (hk : k = 1 ∨ k = 2 ∨ k = 3) => (fr_56 k (by omega)).trans (rfl)) f_55 rfl) (fun (k : Nat) (hk : (4 ≤ k ∧ k ≤ 11) ∨ k = 16) => (fr_56 k (by omega)).trans (rfl)) (hVO0.same (fun (k : Nat) (hk : 12 ≤ k ∧ k ≤ 19) => (fr_56 k (by omega)).trans (rfl))) (va_up_ne _ _ (by decide)) (va_up_ne _ _ (by decide)) (va_up_ne _ _ (by decide)) (fun _ _ => ⟨rfl, rfl⟩) hBd, (va_up_ne _ _ (by decide)), Or.inr ⟨rfl, Or.inl ⟨by omega, va_up_self _ _ _⟩⟩⟩, by show va_P (dC, dI) vwCl _ t9.heap; rw [ht9]; exact hP⟩, hS.F ht9⟩) hS.2.2 dX10_part_42
def wd_X10_number : List Cond := .code yX10_number cX10_number 4 (some .boolean) :: (([.fieldLink RX10 78 "GradientDeskModel" "thrown" "I", .fieldLink RX10 149 "GradientDeskModel" "made" "I", .methodLink RX10 266 yX10_noResult, .instanceMethod yX10_noResult, .selects RX10 yX10_noResult yX10_noResult, .initialized RX10, .fieldLink RX10 29 "GradientDeskModel" "sort" "[I", .methodLink RX10 139 yX10_setFraction, .instanceMethod yX10_setFraction, .selects RX10 yX10_setFraction yX10_setFraction, .methodLink RX10 136 yX10_copyFraction, .instanceMethod yX10_copyFraction, .selects RX10 yX10_copyFraction yX10_copyFraction] : List Cond) ++ (u_ws RX10 TX10 29 ++ (wd_X10_noResult ++ (wd_X10_setFraction ++ (wd_X10_copyFraction ++ ([]))))))
theorem gw_X10_number : wd_X10_number.all goodWord = true := k_allc rfl (k_all (by decide +kernel) (k_all (gu_X10) (k_all (gw_X10_noResult) (k_all (gw_X10_setFraction) (k_all (gw_X10_copyFraction) (rfl))))))
set_option maxHeartbeats 4000000 in
set_option maxRecDepth 100000 in
theorem c_X10_number (l : Launch) (dC : Nat → ClassId) (dI : Nat → Nat → Nat) (A : Nat → Prop) (ad : Nat → Nat) (cA : Nat → ClassId) (g : Nat → va_E) (x : Nat → Int32) (L : List PD) (nm : Nat → Int) (tx : Nat → Nat) (ty : Nat) (wr : List Int) (v : Int32) (w1 : Int32) (hI : RIE ad cA g x L nm tx ty wr) : Met l yX10_number wd_X10_number ({ frames := 70, cells := 0, slots := 0, locals := 1400 }) (va_Pc [.ref (ad 0), .int v, .int w1] (PR NSr tyr dC dI A ad cA g)) (va_Qi (fun (r : Int32) => fun (u : (Nat → va_E) × (Nat → Int32)) => match u with | (g2, x2) => RIE ad cA g2 x2 L nm tx ty wr ∧ x2 2 = x 2 ∧ ((¬ (0 ≤ v.toInt ∧ v.toInt < L.length ∧ 0 ≤ w1.toInt ∧ w1.toInt ≤ 7) ∧ r = nI 0 ∧ x2 0 = nI 1) ∨ (x2 0 = nI 0 ∧ ∃ kn rn : Nat, v = nI kn ∧ kn < L.length ∧ w1 = nI rn ∧ rn ≤ 7 ∧ r = nI (if (gd L kn).1 = 0 then 1 else 0)))) (fun (u : (Nat → va_E) × (Nat → Int32)) (t : State) => va_P (dC, dI) vwCl (wo ad NSr u.1) t.heap) A) (0) (0) A := by
  refine Met.ofW (cc := cX10_number) (maxL := 4) (ret := (some .boolean)) (by decide) rfl ?_
  intro p e s m args below meth c s₁ B hml hv
  obtain ⟨rfl, hA, hP, hL⟩ := hv
  have hx := B.exec
  have hb := B.bytes
  have hr := B.returns
  have hts := atoms_spec (ws := wd_X10_number) B.pre
  have hown : s.vm.findClass RX10 = some m.cls := findClass_of_methodNamed B.named
  have hlocks := B.notSynchronized
  have hK := hL.1
  have hD : ∀ g, va_D A (wo ad NSr g) := fun g => wo_D hL.2.1 hL.2.2 g
  have hS : va_S A s.heap s.heap [] := va_S.rf
  have bk0 : ∀ w ∈ u_ws RX10 TX10 29, w ∈ wd_X10_number := fun _ h => List.mem_cons_of_mem _ (List.mem_append_right _ (List.mem_append_left _ h))
  have bk1 : ∀ w ∈ wd_X10_noResult, w ∈ wd_X10_number := fun _ h => List.mem_cons_of_mem _ (List.mem_append_right _ (List.mem_append_right _ (List.mem_append_left _ h)))
  have bk2 : ∀ w ∈ wd_X10_setFraction, w ∈ wd_X10_number := fun _ h => List.mem_cons_of_mem _ (List.mem_append_right _ (List.mem_append_right _ (List.mem_append_right _ (List.mem_append_left _ h))))
  have bk3 : ∀ w ∈ wd_X10_copyFraction, w ∈ wd_X10_number := fun _ h => List.mem_cons_of_mem _ (List.mem_append_right _ (List.mem_append_right _ (List.mem_append_right _ (List.mem_append_right _ (List.mem_append_left _ h)))))
  have hl := lv_entry ([.ref (ad 0), .int v, .int w1]) (n := 4) (Nat.le_of_ble_eq_true rfl)
  rw [lg_entry_eq]
  generalize (lg_sl ([.ref (ad 0), .int v, .int w1]) ++ List.replicate (4 - (lg_sl ([.ref (ad 0), .int v, .int w1])).length) Slot.unset).toArray = ls at hl ⊢
  have hl : lv_has ls 4 [(0, .ref (ad 0)), (1, .int v), (2, .int w1)] := hl
  obtain ⟨pf, qf, pt, hI0⟩ := hI
  have hI1 := hI0
  obtain ⟨hF, hPt, hM, hW, hL2, hmd, hTx, hty, hty2, hwr, hwr2, hVO, hBd⟩ := hI1
  have hVO0 := hVO
  have hPt0 := hPt
  have hTx0 := hTx
  have hF0 := hF
  obtain ⟨vf, hV, hq⟩ := hF
  have hc_1 := hV
  obtain ⟨pnz_2, lnz_2, bnz_2, hRz_2, hvz_2⟩ := hc_1
  obtain ⟨r_3, r_4, r_5, r_6, r_7, r_8, r_9⟩ := hRz_2
  obtain ⟨p_10, p_11, p_12, p_13, p_14, p_15, hpt_16⟩ := hPt
  obtain ⟨t4, t4b, t11, t11b, t11c⟩ := hTx
  obtain ⟨⟨rc, v12, v12b⟩, ⟨f13, v13⟩, ⟨f14, v14⟩, ⟨f15, v15⟩, ⟨f16, v16⟩, ⟨f17, v17⟩, ⟨f18, v18⟩, ⟨f19, v19⟩⟩ := hVO
  refine lv_aload_n hx hb dX10_number_0 rfl (lv_at hl 0 rfl) ?_
  refine lv_iload_n hx hb dX10_number_1 rfl (lv_at hl 1 rfl) ?_
  refine lv_if_lt (tgt := 21) hx hb dX10_number_2 (by decide) (fun c_17 => ?_) (fun c_17 => ?_)
  · have c_17 := (k_lt v (nI 0)).mp c_17
    rw [show (nI 0).toInt = 0 from by decide] at c_17
    refine lv_iconst (v := nI 1) hx hb dX10_number_21 (by decide +kernel) ?_
    refine lv_goto (tgt := 26) hx hb dX10_number_22 (by decide) ?_
    refine m_put (D := (dC, dI)) (v := .int (nI 1)) (tv := .int) (C := RX10) (T := TX10) (N := 29) hx hb hts bk0 tyX10 tyX10_ok nmX10 hown hK hP hD hS 0 (by decide) r_3 rfl 0 (by decide) (hts (.fieldLink RX10 78 "GradientDeskModel" "thrown" "I") (List.mem_of_getElem? (i := 1) rfl)) (fun _ h9 => h9) rfl (by decide +kernel) rfl rfl (Nat.le_of_ble_eq_true rfl) dX10_number_26 (fun H locs g_18 f_19 fr_20 hP hS => ?_)
    have f_19 : g_18 0 = .inr (13, Rob ad (va_up x 0 (nI 1))) := f_19
    refine lv_aload_n hx hb dX10_number_29 rfl (lv_at hl 0 rfl) ?_
    refine m_get (D := (dC, dI)) (v := .int (nI 1)) (C := RX10) (T := TX10) (N := 29) hx hb hts bk0 hown hK hP 0 (by decide) f_19 rfl 0 (by decide) (hts (.fieldLink RX10 78 "GradientDeskModel" "thrown" "I") (List.mem_of_getElem? (i := 1) rfl)) (fun _ h9 => h9) (congrArg (fun z => some (Value.int z)) (show (va_up x 0 (nI 1)) 0 = (nI 1) from rfl)) dX10_number_30 ?_
    refine lv_if_le (tgt := 38) hx hb dX10_number_33 (by decide) (fun c_21 => absurd c_21 (by decide)) (fun c_21 => ?_)
    refine lv_iconst (v := nI 0) hx hb dX10_number_36 (by decide +kernel) ?_
    refine W.widen (k := 0) (n := 0) (by omega) (by omega) ?_
    exact W.zret (v := nI 0) hx hb hr (by decide +kernel) (fun t9 ht9 hW9 => ⟨⟨nI 0, (g_18, va_up x 0 (nI 1)), rfl, ⟨RI.num hI0 (hF0.setx (fun (k : Nat) (hk : k = 1 ∨ k = 2 ∨ k = 3) => (fr_20 k (by omega)).trans (rfl)) f_19 rfl) (fun (k : Nat) (hk : (4 ≤ k ∧ k ≤ 11) ∨ k = 16) => (fr_20 k (by omega)).trans (rfl)) (hVO0.same (fun (k : Nat) (hk : 12 ≤ k ∧ k ≤ 19) => (fr_20 k (by omega)).trans (rfl))) (va_up_ne _ _ (by decide)) (va_up_ne _ _ (by decide)) (va_up_ne _ _ (by decide)) (fun _ _ => ⟨rfl, rfl⟩) hBd, (va_up_ne _ _ (by decide)), Or.inl ⟨by omega, rfl, va_up_self _ _ _⟩⟩, by show va_P (dC, dI) vwCl _ t9.heap; rw [ht9]; exact hP⟩, hS.F ht9⟩) hS.2.2 dX10_number_37
  · have c_17 := mt (k_lt v (nI 0)).mpr c_17
    rw [show (nI 0).toInt = 0 from by decide] at c_17
    refine lv_iload_n hx hb dX10_number_5 rfl (lv_at hl 1 rfl) ?_
    refine lv_aload_n hx hb dX10_number_6 rfl (lv_at hl 0 rfl) ?_
    refine m_get (D := (dC, dI)) (v := .int (nI L.length)) (C := RX10) (T := TX10) (N := 29) hx hb hts bk0 hown hK hP 0 (by decide) r_3 rfl 13 (by decide) (hts (.fieldLink RX10 149 "GradientDeskModel" "made" "I") (List.mem_of_getElem? (i := 2) rfl)) (fun _ h9 => h9) (congrArg (fun z => some (Value.int z)) hmd) dX10_number_7 ?_
    refine lv_icmp_ge (tgt := 21) hx hb dX10_number_10 (by decide) (fun c_22 => ?_) (fun c_22 => ?_)
    · have c_22 := (k_le (nI L.length) v).mp c_22
      rw [nI_toInt (show L.length < 2 ^ 31 by omega)] at c_22
      refine lv_iconst (v := nI 1) hx hb dX10_number_21 (by decide +kernel) ?_
      refine lv_goto (tgt := 26) hx hb dX10_number_22 (by decide) ?_
      refine m_put (D := (dC, dI)) (v := .int (nI 1)) (tv := .int) (C := RX10) (T := TX10) (N := 29) hx hb hts bk0 tyX10 tyX10_ok nmX10 hown hK hP hD hS 0 (by decide) r_3 rfl 0 (by decide) (hts (.fieldLink RX10 78 "GradientDeskModel" "thrown" "I") (List.mem_of_getElem? (i := 1) rfl)) (fun _ h9 => h9) rfl (by decide +kernel) rfl rfl (Nat.le_of_ble_eq_true rfl) dX10_number_26 (fun H locs g_23 f_24 fr_25 hP hS => ?_)
      have f_24 : g_23 0 = .inr (13, Rob ad (va_up x 0 (nI 1))) := f_24
      refine lv_aload_n hx hb dX10_number_29 rfl (lv_at hl 0 rfl) ?_
      refine m_get (D := (dC, dI)) (v := .int (nI 1)) (C := RX10) (T := TX10) (N := 29) hx hb hts bk0 hown hK hP 0 (by decide) f_24 rfl 0 (by decide) (hts (.fieldLink RX10 78 "GradientDeskModel" "thrown" "I") (List.mem_of_getElem? (i := 1) rfl)) (fun _ h9 => h9) (congrArg (fun z => some (Value.int z)) (show (va_up x 0 (nI 1)) 0 = (nI 1) from rfl)) dX10_number_30 ?_
      refine lv_if_le (tgt := 38) hx hb dX10_number_33 (by decide) (fun c_26 => absurd c_26 (by decide)) (fun c_26 => ?_)
      refine lv_iconst (v := nI 0) hx hb dX10_number_36 (by decide +kernel) ?_
      refine W.widen (k := 0) (n := 0) (by omega) (by omega) ?_
      exact W.zret (v := nI 0) hx hb hr (by decide +kernel) (fun t9 ht9 hW9 => ⟨⟨nI 0, (g_23, va_up x 0 (nI 1)), rfl, ⟨RI.num hI0 (hF0.setx (fun (k : Nat) (hk : k = 1 ∨ k = 2 ∨ k = 3) => (fr_25 k (by omega)).trans (rfl)) f_24 rfl) (fun (k : Nat) (hk : (4 ≤ k ∧ k ≤ 11) ∨ k = 16) => (fr_25 k (by omega)).trans (rfl)) (hVO0.same (fun (k : Nat) (hk : 12 ≤ k ∧ k ≤ 19) => (fr_25 k (by omega)).trans (rfl))) (va_up_ne _ _ (by decide)) (va_up_ne _ _ (by decide)) (va_up_ne _ _ (by decide)) (fun _ _ => ⟨rfl, rfl⟩) hBd, (va_up_ne _ _ (by decide)), Or.inl ⟨by omega, rfl, va_up_self _ _ _⟩⟩, by show va_P (dC, dI) vwCl _ t9.heap; rw [ht9]; exact hP⟩, hS.F ht9⟩) hS.2.2 dX10_number_37
    · have c_22 := mt (k_le (nI L.length) v).mpr c_22
      rw [nI_toInt (show L.length < 2 ^ 31 by omega)] at c_22
      refine lv_aload_n hx hb dX10_number_13 rfl (lv_at hl 0 rfl) ?_
      refine lv_iload_n hx hb dX10_number_14 rfl (lv_at hl 2 rfl) ?_
      refine va_calli (va_runV (As := [.int w1]) (rest := [.ref (ad 0)]) ⟨hx, hb, hml, hown, hts⟩ (c_X10_noResult l dC dI A ad cA g w1 ) (cwV 1 hts (goodIn_app (goodIn_r [Cond.methodLink RX10 266 yX10_noResult, Cond.instanceMethod yX10_noResult, Cond.selects RX10 yX10_noResult yX10_noResult, Cond.initialized RX10] [3, 4, 5, 6] rfl rfl) (goodIn_sub (fun w9 h9 => bk1 w9 h9) gw_X10_noResult)) rfl rfl rfl (by decide +kernel) ⟨Nat.le_of_ble_eq_true rfl, Nat.le_of_ble_eq_true rfl⟩) ⟨fun a U g mk q => ⟨q.1, q.2.1, q.2.2.1, LY.moved (u := U) (U := U.calling g mk a) (Vm.Alike.refl U.vm) q.2.2.2⟩, va_recv hK hP (ci := 13) (q0 := 0) rfl (wo_at (by decide) r_3), fun U hU hW => ⟨rfl, by rw [hU]; exact fun q h => hA q (Nat.le_trans hS.1 h), by rw [hU]; exact hP, LY.moved hW.alike hL⟩⟩ rfl rfl hl.1 rfl (lv_room (Nat.le_of_ble_eq_true rfl)) dX10_number_15 ⟨(Nat.le_of_ble_eq_true rfl), (Nat.le_of_ble_eq_true rfl)⟩) hS (fun q _ h => h) (fun q h => h) (fun r_27 u8 t8 H1 locs ht8 hvm8 hw_28 hB hz1 hk1 hS => ?_)
      obtain ⟨⟩ := u8
      try dsimp only at hw_28 hB
      rw [ht8] at hB
      have hP := hB
      generalize H1 = H at hP hS ⊢
      rcases hw_28 with ⟨rfl, hnr⟩ | ⟨rfl, hnr⟩
      · skip
        refine lv_if_eq (tgt := 25) hx hb dX10_number_18 (by decide) (fun c_29 => ?_) (fun c_29 => absurd c_29 (by decide))
        refine lv_iconst (v := nI 0) hx hb dX10_number_25 (by decide +kernel) ?_
        refine m_put (D := (dC, dI)) (v := .int (nI 0)) (tv := .int) (C := RX10) (T := TX10) (N := 29) hx hb hts bk0 tyX10 tyX10_ok nmX10 hown hK hP hD hS 0 (by decide) r_3 rfl 0 (by decide) (hts (.fieldLink RX10 78 "GradientDeskModel" "thrown" "I") (List.mem_of_getElem? (i := 1) rfl)) (fun _ h9 => h9) rfl (by decide +kernel) rfl rfl (Nat.le_of_ble_eq_true rfl) dX10_number_26 (fun H locs g_30 f_31 fr_32 hP hS => ?_)
        have f_31 : g_30 0 = .inr (13, Rob ad (va_up x 0 (nI 0))) := f_31
        refine lv_aload_n hx hb dX10_number_29 rfl (lv_at hl 0 rfl) ?_
        refine m_get (D := (dC, dI)) (v := .int (nI 0)) (C := RX10) (T := TX10) (N := 29) hx hb hts bk0 hown hK hP 0 (by decide) f_31 rfl 0 (by decide) (hts (.fieldLink RX10 78 "GradientDeskModel" "thrown" "I") (List.mem_of_getElem? (i := 1) rfl)) (fun _ h9 => h9) (congrArg (fun z => some (Value.int z)) (show (va_up x 0 (nI 0)) 0 = (nI 0) from rfl)) dX10_number_30 ?_
        refine lv_if_le (tgt := 38) hx hb dX10_number_33 (by decide) (fun c_33 => ?_) (fun c_33 => absurd c_33 (by decide))
        obtain ⟨kn, hkn, ekn, -⟩ := k_nat (x := v) (by omega)
        subst hkn
        obtain ⟨rn, hrn, ern, -⟩ := k_nat (x := w1) (by omega)
        subst hrn
        obtain ⟨m0, -, -, -, -, -, m6⟩ := hM kn (by omega)
        refine lv_aload_n hx hb dX10_number_38 rfl (lv_at hl 0 rfl) ?_
        refine m_get (D := (dC, dI)) (v := .ref (ad 5)) (C := RX10) (T := TX10) (N := 29) hx hb hts bk0 hown hK hP 0 (by decide) f_31 rfl 7 (by decide) (hts (.fieldLink RX10 29 "GradientDeskModel" "sort" "[I") (List.mem_of_getElem? (i := 7) rfl)) (fun _ h9 => h9) rfl dX10_number_39 ?_
        refine lv_iload_n hx hb dX10_number_42 rfl (lv_at hl 1 rfl) ?_
        have f_34 : g_30 5 = .inl (cA 5, 201, .inl (fun j => iI ((pt 0) j))) := (fr_32 5 (by omega)).trans p_10
        refine m_iald hx hb hK hP 5 (by decide) rfl f_34 (i := kn) (by omega) (by decide) dX10_number_43 ?_
        have b_35 := (hpt_16 0) kn
        refine lv_if_ne (tgt := 51) hx hb dX10_number_44 (by decide) (fun c_36 => ?_) (fun c_36 => ?_)
        · have c_36 := mt (k_iEQ (a := (pt 0) kn) (b := 0) rfl (show nI 0 = iI 0 from by decide) (by omega) (by omega)).mpr c_36
          refine lv_iconst (v := nI 0) hx hb dX10_number_51 (by decide +kernel) ?_
          refine lv_istore_n (lv' := [(3, .int (nI 0)), (0, .ref (ad 0)), (1, .int (nI kn)), (2, .int (nI rn))]) hx hb dX10_number_52 rfl hl (by decide) rfl (fun ls hl => ?_)
          refine lv_iload_n hx hb dX10_number_53 rfl (lv_at hl 0 rfl) ?_
          refine lv_if_eq (tgt := 70) hx hb dX10_number_54 (by decide) (fun c_37 => ?_) (fun c_37 => absurd c_37 (by decide))
          refine lv_aload_n hx hb dX10_number_70 rfl (lv_at hl 1 rfl) ?_
          refine lv_sipush (v := nI 1000) hx hb dX10_number_71 (by decide +kernel) ?_
          refine lv_iload_n hx hb dX10_number_74 rfl (lv_at hl 3 rfl) ?_
          refine lv_iadd hx hb dX10_number_75 ?_
          refine lv_topi (fun x_38 e_39 => ?_)
          obtain rfl : x_38 = nI (1000 + rn) := e_39.trans (nI_add 1000 rn)
          refine lv_lconst (v := lN 0) hx hb dX10_number_76 (by decide +kernel) ?_
          refine lv_lconst (v := lN 1) hx hb dX10_number_77 (by decide +kernel) ?_
          have hF1 : RF ad cA g_30 (va_up x 0 (nI 0)) pf qf := hF0.setx (fun (k : Nat) (hk : k = 1 ∨ k = 2 ∨ k = 3) => (fr_32 k (by omega)).trans (rfl)) f_31 rfl
          refine va_callv (va_runV (As := [.int (nI (1000 + rn)), .long (lN 0), .long (lN 1)]) (rest := []) ⟨hx, hb, hml, hown, hts⟩ (c_X10_setFraction l dC dI A ad cA g_30 (va_up x 0 (nI 0)) pf qf (1000 + rn) (lN 0) (lN 1) 0 1 hF1 (by omega) (by decide) (by decide) (by decide) (by decide) (by decide)) (cwV 3 hts (goodIn_app (goodIn_r [Cond.methodLink RX10 139 yX10_setFraction, Cond.instanceMethod yX10_setFraction, Cond.selects RX10 yX10_setFraction yX10_setFraction, Cond.initialized RX10] [8, 9, 10, 6] rfl rfl) (goodIn_sub (fun w9 h9 => bk2 w9 h9) gw_X10_setFraction)) rfl rfl rfl (by decide +kernel) ⟨Nat.le_of_ble_eq_true rfl, Nat.le_of_ble_eq_true rfl⟩) ⟨fun a U g mk q => ⟨q.1, q.2.1, q.2.2.1, LY.moved (u := U) (U := U.calling g mk a) (Vm.Alike.refl U.vm) q.2.2.2⟩, va_recv hK hP (ci := 13) (q0 := 0) rfl (wo_at (by decide) f_31), fun U hU hW => ⟨rfl, by rw [hU]; exact fun q h => hA q (Nat.le_trans hS.1 h), by rw [hU]; exact hP, LY.moved hW.alike hL⟩⟩ rfl rfl hl.1 rfl (lv_room (Nat.le_of_ble_eq_true rfl)) dX10_number_78 ⟨(Nat.le_of_ble_eq_true rfl), (Nat.le_of_ble_eq_true rfl)⟩) hS (fun q _ h => h) (fun q h => h) (fun u8 t8 H1 locs ht8 hvm8 hw_40 hB hz1 hk1 hS => ?_)
          obtain ⟨g_41, rfl⟩ : ∃ z, z = u8 := ⟨_, rfl⟩
          try dsimp only at hw_40 hB
          rw [ht8] at hB
          have hP := hB
          generalize H1 = H at hP hS ⊢
          obtain ⟨fr_42, hF2⟩ := hw_40
          rw [(rdp_1 0).1, (rdp_1 0).2] at hF2
          refine lv_iload_n hx hb dX10_number_81 rfl (lv_at hl 0 rfl) ?_
          have hrp : (0 : Int).natAbs < 2 ^ 1000 ∧ 1 < 2 ^ 1000 := ⟨Nat.two_pow_pos 1000, Nat.one_lt_two_pow (by decide)⟩
          refine W.widen (k := 0) (n := 0) (by omega) (by omega) ?_
          exact W.zret (v := nI 0) hx hb hr (by decide +kernel) (fun t9 ht9 hW9 => ⟨⟨nI 0, (g_41, va_up x 0 (nI 0)), rfl, ⟨RI.num hI0 hF2 (fun (k : Nat) (hk : (4 ≤ k ∧ k ≤ 11) ∨ k = 16) => (fr_42 k (by omega)).trans ((fr_32 k (by omega)).trans (rfl))) (hVO0.same (fun (k : Nat) (hk : 12 ≤ k ∧ k ≤ 19) => (fr_42 k (by omega)).trans ((fr_32 k (by omega)).trans (rfl)))) (va_up_ne _ _ (by decide)) (va_up_ne _ _ (by decide)) (va_up_ne _ _ (by decide)) (fun f hf => ⟨va_up_ne _ _ (by omega), va_up_ne _ _ (by omega)⟩) (hBd.res (fun r9 h9 => by by_cases h8 : r9 = rn; subst h8; exact Or.inr (by rw [va_up_self, va_up_self]; exact hrp); exact Or.inl ⟨va_up_ne _ _ (by omega), va_up_ne _ _ (by omega)⟩) (fun v9 h9 => Or.inl ⟨va_up_ne _ _ (by omega), va_up_ne _ _ (by omega)⟩)), (va_up_ne _ _ (by decide)), Or.inr ⟨va_up_self _ _ _, kn, rn, rfl, by omega, rfl, by omega, by rw [if_neg (by omega)]⟩⟩, by show va_P (dC, dI) vwCl _ t9.heap; rw [ht9]; exact hP⟩, hS.F ht9⟩) hS.2.2 dX10_number_82
        · have c_36 := (k_iEQ (a := (pt 0) kn) (b := 0) rfl (show nI 0 = iI 0 from by decide) (by omega) (by omega)).mp c_36
          refine lv_iconst (v := nI 1) hx hb dX10_number_47 (by decide +kernel) ?_
          refine lv_goto (tgt := 52) hx hb dX10_number_48 (by decide) ?_
          refine lv_istore_n (lv' := [(3, .int (nI 1)), (0, .ref (ad 0)), (1, .int (nI kn)), (2, .int (nI rn))]) hx hb dX10_number_52 rfl hl (by decide) rfl (fun ls hl => ?_)
          refine lv_iload_n hx hb dX10_number_53 rfl (lv_at hl 0 rfl) ?_
          refine lv_if_eq (tgt := 70) hx hb dX10_number_54 (by decide) (fun c_43 => absurd c_43 (by decide)) (fun c_43 => ?_)
          refine lv_aload_n hx hb dX10_number_57 rfl (lv_at hl 1 rfl) ?_
          refine lv_sipush (v := nI 1000) hx hb dX10_number_58 (by decide +kernel) ?_
          refine lv_iload_n hx hb dX10_number_61 rfl (lv_at hl 3 rfl) ?_
          refine lv_iadd hx hb dX10_number_62 ?_
          refine lv_topi (fun x_44 e_45 => ?_)
          obtain rfl : x_44 = nI (1000 + rn) := e_45.trans (nI_add 1000 rn)
          refine lv_iload_n hx hb dX10_number_63 rfl (lv_at hl 2 rfl) ?_
          have hF1 : RF ad cA g_30 (va_up x 0 (nI 0)) pf qf := hF0.setx (fun (k : Nat) (hk : k = 1 ∨ k = 2 ∨ k = 3) => (fr_32 k (by omega)).trans (rfl)) f_31 rfl
          have hs0 : (gd L kn).1 = 0 := by omega
          refine va_callv (va_runV (As := [.int (nI (1000 + rn)), .int (nI kn)]) (rest := []) ⟨hx, hb, hml, hown, hts⟩ (c_X10_copyFraction l dC dI A ad cA g_30 (va_up x 0 (nI 0)) pf qf (1000 + rn) kn hF1 (by omega) (by omega)) (cwV 2 hts (goodIn_app (goodIn_r [Cond.methodLink RX10 136 yX10_copyFraction, Cond.instanceMethod yX10_copyFraction, Cond.selects RX10 yX10_copyFraction yX10_copyFraction, Cond.initialized RX10] [11, 12, 13, 6] rfl rfl) (goodIn_sub (fun w9 h9 => bk3 w9 h9) gw_X10_copyFraction)) rfl rfl rfl (by decide +kernel) ⟨Nat.le_of_ble_eq_true rfl, Nat.le_of_ble_eq_true rfl⟩) ⟨fun a U g mk q => ⟨q.1, q.2.1, q.2.2.1, LY.moved (u := U) (U := U.calling g mk a) (Vm.Alike.refl U.vm) q.2.2.2⟩, va_recv hK hP (ci := 13) (q0 := 0) rfl (wo_at (by decide) f_31), fun U hU hW => ⟨rfl, by rw [hU]; exact fun q h => hA q (Nat.le_trans hS.1 h), by rw [hU]; exact hP, LY.moved hW.alike hL⟩⟩ rfl rfl hl.1 rfl (lv_room (Nat.le_of_ble_eq_true rfl)) dX10_number_64 ⟨(Nat.le_of_ble_eq_true rfl), (Nat.le_of_ble_eq_true rfl)⟩) hS (fun q _ h => h) (fun q h => h) (fun u8 t8 H1 locs ht8 hvm8 hw_46 hB hz1 hk1 hS => ?_)
          obtain ⟨g_47, rfl⟩ : ∃ z, z = u8 := ⟨_, rfl⟩
          try dsimp only at hw_46 hB
          rw [ht8] at hB
          have hP := hB
          generalize H1 = H at hP hS ⊢
          obtain ⟨fr_48, hF2⟩ := hw_46
          refine lv_goto (tgt := 81) hx hb dX10_number_67 (by decide) ?_
          refine lv_iload_n hx hb dX10_number_81 rfl (lv_at hl 0 rfl) ?_
          have hrp := wf_num hW (by omega) hs0 (m6 hs0).1 (m6 hs0).2
          refine W.widen (k := 0) (n := 0) (by omega) (by omega) ?_
          exact W.zret (v := nI 1) hx hb hr (by decide +kernel) (fun t9 ht9 hW9 => ⟨⟨nI 1, (g_47, va_up x 0 (nI 0)), rfl, ⟨RI.num hI0 hF2 (fun (k : Nat) (hk : (4 ≤ k ∧ k ≤ 11) ∨ k = 16) => (fr_48 k (by omega)).trans ((fr_32 k (by omega)).trans (rfl))) (hVO0.same (fun (k : Nat) (hk : 12 ≤ k ∧ k ≤ 19) => (fr_48 k (by omega)).trans ((fr_32 k (by omega)).trans (rfl)))) (va_up_ne _ _ (by decide)) (va_up_ne _ _ (by decide)) (va_up_ne _ _ (by decide)) (fun f hf => ⟨va_up_ne _ _ (by omega), va_up_ne _ _ (by omega)⟩) (hBd.res (fun r9 h9 => by by_cases h8 : r9 = rn; subst h8; exact Or.inr (by rw [va_up_self, va_up_self]; exact hrp); exact Or.inl ⟨va_up_ne _ _ (by omega), va_up_ne _ _ (by omega)⟩) (fun v9 h9 => Or.inl ⟨va_up_ne _ _ (by omega), va_up_ne _ _ (by omega)⟩)), (va_up_ne _ _ (by decide)), Or.inr ⟨va_up_self _ _ _, kn, rn, rfl, by omega, rfl, by omega, by rw [if_pos (by omega)]⟩⟩, by show va_P (dC, dI) vwCl _ t9.heap; rw [ht9]; exact hP⟩, hS.F ht9⟩) hS.2.2 dX10_number_82
      · skip
        refine lv_if_eq (tgt := 25) hx hb dX10_number_18 (by decide) (fun c_49 => absurd c_49 (by decide)) (fun c_49 => ?_)
        refine lv_iconst (v := nI 1) hx hb dX10_number_21 (by decide +kernel) ?_
        refine lv_goto (tgt := 26) hx hb dX10_number_22 (by decide) ?_
        refine m_put (D := (dC, dI)) (v := .int (nI 1)) (tv := .int) (C := RX10) (T := TX10) (N := 29) hx hb hts bk0 tyX10 tyX10_ok nmX10 hown hK hP hD hS 0 (by decide) r_3 rfl 0 (by decide) (hts (.fieldLink RX10 78 "GradientDeskModel" "thrown" "I") (List.mem_of_getElem? (i := 1) rfl)) (fun _ h9 => h9) rfl (by decide +kernel) rfl rfl (Nat.le_of_ble_eq_true rfl) dX10_number_26 (fun H locs g_50 f_51 fr_52 hP hS => ?_)
        have f_51 : g_50 0 = .inr (13, Rob ad (va_up x 0 (nI 1))) := f_51
        refine lv_aload_n hx hb dX10_number_29 rfl (lv_at hl 0 rfl) ?_
        refine m_get (D := (dC, dI)) (v := .int (nI 1)) (C := RX10) (T := TX10) (N := 29) hx hb hts bk0 hown hK hP 0 (by decide) f_51 rfl 0 (by decide) (hts (.fieldLink RX10 78 "GradientDeskModel" "thrown" "I") (List.mem_of_getElem? (i := 1) rfl)) (fun _ h9 => h9) (congrArg (fun z => some (Value.int z)) (show (va_up x 0 (nI 1)) 0 = (nI 1) from rfl)) dX10_number_30 ?_
        refine lv_if_le (tgt := 38) hx hb dX10_number_33 (by decide) (fun c_53 => absurd c_53 (by decide)) (fun c_53 => ?_)
        refine lv_iconst (v := nI 0) hx hb dX10_number_36 (by decide +kernel) ?_
        refine W.widen (k := 0) (n := 0) (by omega) (by omega) ?_
        exact W.zret (v := nI 0) hx hb hr (by decide +kernel) (fun t9 ht9 hW9 => ⟨⟨nI 0, (g_50, va_up x 0 (nI 1)), rfl, ⟨RI.num hI0 (hF0.setx (fun (k : Nat) (hk : k = 1 ∨ k = 2 ∨ k = 3) => (fr_52 k (by omega)).trans (rfl)) f_51 rfl) (fun (k : Nat) (hk : (4 ≤ k ∧ k ≤ 11) ∨ k = 16) => (fr_52 k (by omega)).trans (rfl)) (hVO0.same (fun (k : Nat) (hk : 12 ≤ k ∧ k ≤ 19) => (fr_52 k (by omega)).trans (rfl))) (va_up_ne _ _ (by decide)) (va_up_ne _ _ (by decide)) (va_up_ne _ _ (by decide)) (fun _ _ => ⟨rfl, rfl⟩) hBd, (va_up_ne _ _ (by decide)), Or.inl ⟨by omega, rfl, va_up_self _ _ _⟩⟩, by show va_P (dC, dI) vwCl _ t9.heap; rw [ht9]; exact hP⟩, hS.F ht9⟩) hS.2.2 dX10_number_37
