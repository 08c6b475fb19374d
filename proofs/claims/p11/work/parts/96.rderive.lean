def wd_X10_derive : List Cond := .code yX10_derive cX10_derive 8 (some .int) :: (([.fieldLink RX10 78 "GradientDeskModel" "thrown" "I", .fieldLink RX10 47 "GradientDeskModel" "names" "[I", .methodLink RX10 257 yX10_reach, .instanceMethod yX10_reach, .selects RX10 yX10_reach yX10_reach, .initialized RX10, .fieldLink RX10 149 "GradientDeskModel" "made" "I", .fieldLink RX10 146 "GradientDeskModel" "fault" "I", .fieldLink RX10 53 "GradientDeskModel" "derived" "[I", .fieldLink RX10 50 "GradientDeskModel" "reached" "[Z", .methodLink RX10 260 yX10_derivativeOf, .instanceMethod yX10_derivativeOf, .selects RX10 yX10_derivativeOf yX10_derivativeOf] : List Cond) ++ (u_ws RX10 TX10 29 ++ (wd_X10_reach ++ (wd_X10_derivativeOf ++ ([])))))
theorem gw_X10_derive : wd_X10_derive.all goodWord = true := k_allc rfl (k_all (by decide +kernel) (k_all (gu_X10) (k_all (gw_X10_reach) (k_all (gw_X10_derivativeOf) (rfl)))))
set_option maxHeartbeats 4000000 in
set_option maxRecDepth 100000 in
theorem c_X10_derive (l : Launch) (dC : Nat → ClassId) (dI : Nat → Nat → Nat) (A : Nat → Prop) (ad : Nat → Nat) (cA : Nat → ClassId) (g : Nat → va_E) (x : Nat → Int32) (L : List PD) (nm : Nat → Int) (tx : Nat → Nat) (ty : Nat) (wr : List Int) (v : Int32) (w1 : Int32) (w2 : Int32) (hI : RIE ad cA g x L nm tx ty wr) : Met l yX10_derive wd_X10_derive ({ frames := 110, cells := 0, slots := 0, locals := 2200 }) (va_Pc [.ref (ad 0), .int v, .int w1, .int w2] (PR NSr tyr dC dI A ad cA g)) (va_Qi (fun (r : Int32) => fun (u : (Nat → va_E) × (Nat → Int32) × (List PD) × (Nat → Int)) => match u with | (g2, x2, L2, nm2) => RIE ad cA g2 x2 L2 nm2 tx ty wr ∧ x2 2 = x 2 ∧ DVR nm L v w1 w2 (x2 0) r L2 nm2) (fun (u : (Nat → va_E) × (Nat → Int32) × (List PD) × (Nat → Int)) (t : State) => va_P (dC, dI) vwCl (wo ad NSr u.1) t.heap) A) (0) (0) A := by
  refine Met.ofW (cc := cX10_derive) (maxL := 8) (ret := (some .int)) (by decide) rfl ?_
  intro p e s m args below meth c s₁ B hml hv
  obtain ⟨rfl, hA, hP, hL⟩ := hv
  have hx := B.exec
  have hb := B.bytes
  have hr := B.returns
  have hts := atoms_spec (ws := wd_X10_derive) B.pre
  have hown : s.vm.findClass RX10 = some m.cls := findClass_of_methodNamed B.named
  have hlocks := B.notSynchronized
  have hK := hL.1
  have hD : ∀ g, va_D A (wo ad NSr g) := fun g => wo_D hL.2.1 hL.2.2 g
  have hS : va_S A s.heap s.heap [] := va_S.rf
  have bk0 : ∀ w ∈ u_ws RX10 TX10 29, w ∈ wd_X10_derive := fun _ h => List.mem_cons_of_mem _ (List.mem_append_right _ (List.mem_append_left _ h))
  have bk1 : ∀ w ∈ wd_X10_reach, w ∈ wd_X10_derive := fun _ h => List.mem_cons_of_mem _ (List.mem_append_right _ (List.mem_append_right _ (List.mem_append_left _ h)))
  have bk2 : ∀ w ∈ wd_X10_derivativeOf, w ∈ wd_X10_derive := fun _ h => List.mem_cons_of_mem _ (List.mem_append_right _ (List.mem_append_right _ (List.mem_append_right _ (List.mem_append_left _ h))))
  have hl := lv_entry ([.ref (ad 0), .int v, .int w1, .int w2]) (n := 8) (Nat.le_of_ble_eq_true rfl)
  rw [lg_entry_eq]
  generalize (lg_sl ([.ref (ad 0), .int v, .int w1, .int w2]) ++ List.replicate (8 - (lg_sl ([.ref (ad 0), .int v, .int w1, .int w2])).length) Slot.unset).toArray = ls at hl ⊢
  have hl : lv_has ls 8 [(0, .ref (ad 0)), (1, .int v), (2, .int w1), (3, .int w2)] := hl
  obtain ⟨pf, qf, pt, hI0⟩ := hI
  have hI1 := hI0
  obtain ⟨hF, hPt, hM, hW, hL2, hmd, hTx, hty, hty2, hwr, hwr2, hVO, hBd⟩ := hI1
  have hVO0 := hVO
  have hPt0 := hPt
  have hTx0 := hTx
  have hF0 := hF
  obtain ⟨vf, hV, hq⟩ := hF
  have hc_1 := hV
  obtain ⟨pnz_2, lnz_2, bnz_2, hRz_2, hvz_2⟩ := hc_1
  obtain ⟨r_3, r_4, r_5, r_6, r_7, r_8, r_9⟩ := hRz_2
  obtain ⟨p_10, p_11, p_12, p_13, p_14, p_15, hpt_16⟩ := hPt
  obtain ⟨t4, t4b, t11, t11b, t11c⟩ := hTx
  obtain ⟨⟨rc, v12, v12b⟩, ⟨f13, v13⟩, ⟨f14, v14⟩, ⟨f15, v15⟩, ⟨f16, v16⟩, ⟨f17, v17⟩, ⟨f18, v18⟩, ⟨f19, v19⟩⟩ := hVO
  refine lv_iload_n hx hb dX10_derive_0 rfl (lv_at hl 1 rfl) ?_
  refine lv_if_lt (tgt := 29) hx hb dX10_derive_1 (by decide) (fun c_17 => ?_) (fun c_17 => ?_)
  · have c_17 := (k_lt v (nI 0)).mp c_17
    rw [show (nI 0).toInt = 0 from by decide] at c_17
    refine lv_iconst (v := nI 1) hx hb dX10_derive_29 (by decide +kernel) ?_
    refine lv_goto (tgt := 34) hx hb dX10_derive_30 (by decide) ?_
    refine lv_istore (lv' := [(4, .int (nI 1)), (0, .ref (ad 0)), (1, .int v), (2, .int w1), (3, .int w2)]) hx hb dX10_derive_34 hl (by decide) rfl (fun ls hl => ?_)
    refine lv_aload_n hx hb dX10_derive_36 rfl (lv_at hl 1 rfl) ?_
    refine lv_iload hx hb dX10_derive_37 (lv_at hl 0 rfl) ?_
    refine lv_if_eq (tgt := 46) hx hb dX10_derive_39 (by decide) (fun c_18 => absurd c_18 (by decide)) (fun c_18 => ?_)
    refine lv_iconst (v := nI 1) hx hb dX10_derive_42 (by decide +kernel) ?_
    refine lv_goto (tgt := 60) hx hb dX10_derive_43 (by decide) ?_
    refine m_put (D := (dC, dI)) (v := .int (nI 1)) (tv := .int) (C := RX10) (T := TX10) (N := 29) hx hb hts bk0 tyX10 tyX10_ok nmX10 hown hK hP hD hS 0 (by decide) r_3 rfl 0 (by decide) (hts (.fieldLink RX10 78 "GradientDeskModel" "thrown" "I") (List.mem_of_getElem? (i := 1) rfl)) (fun _ h9 => h9) rfl (by decide +kernel) rfl rfl (Nat.le_of_ble_eq_true rfl) dX10_derive_60 (fun H locs g_19 f_20 fr_21 hP hS => ?_)
    have f_20 : g_19 0 = .inr (13, Rob ad (va_up x 0 (nI 1))) := f_20
    refine lv_aload_n hx hb dX10_derive_63 rfl (lv_at hl 1 rfl) ?_
    refine m_get (D := (dC, dI)) (v := .int (nI 1)) (C := RX10) (T := TX10) (N := 29) hx hb hts bk0 hown hK hP 0 (by decide) f_20 rfl 0 (by decide) (hts (.fieldLink RX10 78 "GradientDeskModel" "thrown" "I") (List.mem_of_getElem? (i := 1) rfl)) (fun _ h9 => h9) (congrArg (fun z => some (Value.int z)) (show (va_up x 0 (nI 1)) 0 = (nI 1) from rfl)) dX10_derive_64 ?_
    refine lv_if_le (tgt := 72) hx hb dX10_derive_67 (by decide) (fun c_22 => absurd c_22 (by decide)) (fun c_22 => ?_)
    refine lv_iconst (v := nI 0) hx hb dX10_derive_70 (by decide +kernel) ?_
    refine W.widen (k := 0) (n := 0) (by omega) (by omega) ?_
    exact W.iret (v := nI 0) hx hb hr (fun t9 ht9 hW9 => ⟨⟨nI 0, (g_19, va_up x 0 (nI 1), L, nm), rfl, ⟨RI.num hI0 (hF0.setx (fun (k : Nat) (hk : k = 1 ∨ k = 2 ∨ k = 3) => (fr_21 k (by omega)).trans (rfl)) f_20 rfl) (fun (k : Nat) (hk : (4 ≤ k ∧ k ≤ 11) ∨ k = 16) => (fr_21 k (by omega)).trans (rfl)) (hVO0.same (fun (k : Nat) (hk : 12 ≤ k ∧ k ≤ 19) => (fr_21 k (by omega)).trans (rfl))) (va_up_ne _ _ (by decide)) (va_up_ne _ _ (by decide)) (va_up_ne _ _ (by decide)) (fun _ _ => ⟨rfl, rfl⟩) hBd, (va_up_ne _ _ (by decide)), Or.inl ⟨by omega, va_up_self _ _ _, rfl, rfl, rfl⟩⟩, by show va_P (dC, dI) vwCl _ t9.heap; rw [ht9]; exact hP⟩, hS.F ht9⟩) hS.2.2 dX10_derive_71
  · have c_17 := mt (k_lt v (nI 0)).mpr c_17
    rw [show (nI 0).toInt = 0 from by decide] at c_17
    refine lv_iload_n hx hb dX10_derive_4 rfl (lv_at hl 1 rfl) ?_
    refine lv_bipush (v := nI 7) hx hb dX10_derive_5 (by decide +kernel) ?_
    refine lv_icmp_gt (tgt := 29) hx hb dX10_derive_7 (by decide) (fun c_23 => ?_) (fun c_23 => ?_)
    · have c_23 := (k_lt (nI 7) v).mp c_23
      rw [show (nI 7).toInt = 7 from by decide] at c_23
      refine lv_iconst (v := nI 1) hx hb dX10_derive_29 (by decide +kernel) ?_
      refine lv_goto (tgt := 34) hx hb dX10_derive_30 (by decide) ?_
      refine lv_istore (lv' := [(4, .int (nI 1)), (0, .ref (ad 0)), (1, .int v), (2, .int w1), (3, .int w2)]) hx hb dX10_derive_34 hl (by decide) rfl (fun ls hl => ?_)
      refine lv_aload_n hx hb dX10_derive_36 rfl (lv_at hl 1 rfl) ?_
      refine lv_iload hx hb dX10_derive_37 (lv_at hl 0 rfl) ?_
      refine lv_if_eq (tgt := 46) hx hb dX10_derive_39 (by decide) (fun c_24 => absurd c_24 (by decide)) (fun c_24 => ?_)
      refine lv_iconst (v := nI 1) hx hb dX10_derive_42 (by decide +kernel) ?_
      refine lv_goto (tgt := 60) hx hb dX10_derive_43 (by decide) ?_
      refine m_put (D := (dC, dI)) (v := .int (nI 1)) (tv := .int) (C := RX10) (T := TX10) (N := 29) hx hb hts bk0 tyX10 tyX10_ok nmX10 hown hK hP hD hS 0 (by decide) r_3 rfl 0 (by decide) (hts (.fieldLink RX10 78 "GradientDeskModel" "thrown" "I") (List.mem_of_getElem? (i := 1) rfl)) (fun _ h9 => h9) rfl (by decide +kernel) rfl rfl (Nat.le_of_ble_eq_true rfl) dX10_derive_60 (fun H locs g_25 f_26 fr_27 hP hS => ?_)
      have f_26 : g_25 0 = .inr (13, Rob ad (va_up x 0 (nI 1))) := f_26
      refine lv_aload_n hx hb dX10_derive_63 rfl (lv_at hl 1 rfl) ?_
      refine m_get (D := (dC, dI)) (v := .int (nI 1)) (C := RX10) (T := TX10) (N := 29) hx hb hts bk0 hown hK hP 0 (by decide) f_26 rfl 0 (by decide) (hts (.fieldLink RX10 78 "GradientDeskModel" "thrown" "I") (List.mem_of_getElem? (i := 1) rfl)) (fun _ h9 => h9) (congrArg (fun z => some (Value.int z)) (show (va_up x 0 (nI 1)) 0 = (nI 1) from rfl)) dX10_derive_64 ?_
      refine lv_if_le (tgt := 72) hx hb dX10_derive_67 (by decide) (fun c_28 => absurd c_28 (by decide)) (fun c_28 => ?_)
      refine lv_iconst (v := nI 0) hx hb dX10_derive_70 (by decide +kernel) ?_
      refine W.widen (k := 0) (n := 0) (by omega) (by omega) ?_
      exact W.iret (v := nI 0) hx hb hr (fun t9 ht9 hW9 => ⟨⟨nI 0, (g_25, va_up x 0 (nI 1), L, nm), rfl, ⟨RI.num hI0 (hF0.setx (fun (k : Nat) (hk : k = 1 ∨ k = 2 ∨ k = 3) => (fr_27 k (by omega)).trans (rfl)) f_26 rfl) (fun (k : Nat) (hk : (4 ≤ k ∧ k ≤ 11) ∨ k = 16) => (fr_27 k (by omega)).trans (rfl)) (hVO0.same (fun (k : Nat) (hk : 12 ≤ k ∧ k ≤ 19) => (fr_27 k (by omega)).trans (rfl))) (va_up_ne _ _ (by decide)) (va_up_ne _ _ (by decide)) (va_up_ne _ _ (by decide)) (fun _ _ => ⟨rfl, rfl⟩) hBd, (va_up_ne _ _ (by decide)), Or.inl ⟨by omega, va_up_self _ _ _, rfl, rfl, rfl⟩⟩, by show va_P (dC, dI) vwCl _ t9.heap; rw [ht9]; exact hP⟩, hS.F ht9⟩) hS.2.2 dX10_derive_71
    · have c_23 := mt (k_lt (nI 7) v).mpr c_23
      rw [show (nI 7).toInt = 7 from by decide] at c_23
      refine lv_iload_n hx hb dX10_derive_10 rfl (lv_at hl 3 rfl) ?_
      refine lv_if_lt (tgt := 29) hx hb dX10_derive_11 (by decide) (fun c_29 => ?_) (fun c_29 => ?_)
      · have c_29 := (k_lt w2 (nI 0)).mp c_29
        rw [show (nI 0).toInt = 0 from by decide] at c_29
        refine lv_iconst (v := nI 1) hx hb dX10_derive_29 (by decide +kernel) ?_
        refine lv_goto (tgt := 34) hx hb dX10_derive_30 (by decide) ?_
        refine lv_istore (lv' := [(4, .int (nI 1)), (0, .ref (ad 0)), (1, .int v), (2, .int w1), (3, .int w2)]) hx hb dX10_derive_34 hl (by decide) rfl (fun ls hl => ?_)
        refine lv_aload_n hx hb dX10_derive_36 rfl (lv_at hl 1 rfl) ?_
        refine lv_iload hx hb dX10_derive_37 (lv_at hl 0 rfl) ?_
        refine lv_if_eq (tgt := 46) hx hb dX10_derive_39 (by decide) (fun c_30 => absurd c_30 (by decide)) (fun c_30 => ?_)
        refine lv_iconst (v := nI 1) hx hb dX10_derive_42 (by decide +kernel) ?_
        refine lv_goto (tgt := 60) hx hb dX10_derive_43 (by decide) ?_
        refine m_put (D := (dC, dI)) (v := .int (nI 1)) (tv := .int) (C := RX10) (T := TX10) (N := 29) hx hb hts bk0 tyX10 tyX10_ok nmX10 hown hK hP hD hS 0 (by decide) r_3 rfl 0 (by decide) (hts (.fieldLink RX10 78 "GradientDeskModel" "thrown" "I") (List.mem_of_getElem? (i := 1) rfl)) (fun _ h9 => h9) rfl (by decide +kernel) rfl rfl (Nat.le_of_ble_eq_true rfl) dX10_derive_60 (fun H locs g_31 f_32 fr_33 hP hS => ?_)
        have f_32 : g_31 0 = .inr (13, Rob ad (va_up x 0 (nI 1))) := f_32
        refine lv_aload_n hx hb dX10_derive_63 rfl (lv_at hl 1 rfl) ?_
        refine m_get (D := (dC, dI)) (v := .int (nI 1)) (C := RX10) (T := TX10) (N := 29) hx hb hts bk0 hown hK hP 0 (by decide) f_32 rfl 0 (by decide) (hts (.fieldLink RX10 78 "GradientDeskModel" "thrown" "I") (List.mem_of_getElem? (i := 1) rfl)) (fun _ h9 => h9) (congrArg (fun z => some (Value.int z)) (show (va_up x 0 (nI 1)) 0 = (nI 1) from rfl)) dX10_derive_64 ?_
        refine lv_if_le (tgt := 72) hx hb dX10_derive_67 (by decide) (fun c_34 => absurd c_34 (by decide)) (fun c_34 => ?_)
        refine lv_iconst (v := nI 0) hx hb dX10_derive_70 (by decide +kernel) ?_
        refine W.widen (k := 0) (n := 0) (by omega) (by omega) ?_
        exact W.iret (v := nI 0) hx hb hr (fun t9 ht9 hW9 => ⟨⟨nI 0, (g_31, va_up x 0 (nI 1), L, nm), rfl, ⟨RI.num hI0 (hF0.setx (fun (k : Nat) (hk : k = 1 ∨ k = 2 ∨ k = 3) => (fr_33 k (by omega)).trans (rfl)) f_32 rfl) (fun (k : Nat) (hk : (4 ≤ k ∧ k ≤ 11) ∨ k = 16) => (fr_33 k (by omega)).trans (rfl)) (hVO0.same (fun (k : Nat) (hk : 12 ≤ k ∧ k ≤ 19) => (fr_33 k (by omega)).trans (rfl))) (va_up_ne _ _ (by decide)) (va_up_ne _ _ (by decide)) (va_up_ne _ _ (by decide)) (fun _ _ => ⟨rfl, rfl⟩) hBd, (va_up_ne _ _ (by decide)), Or.inl ⟨by omega, va_up_self _ _ _, rfl, rfl, rfl⟩⟩, by show va_P (dC, dI) vwCl _ t9.heap; rw [ht9]; exact hP⟩, hS.F ht9⟩) hS.2.2 dX10_derive_71
      · have c_29 := mt (k_lt w2 (nI 0)).mpr c_29
        rw [show (nI 0).toInt = 0 from by decide] at c_29
        refine lv_iload_n hx hb dX10_derive_14 rfl (lv_at hl 3 rfl) ?_
        refine lv_bipush (v := nI 7) hx hb dX10_derive_15 (by decide +kernel) ?_
        refine lv_icmp_gt (tgt := 29) hx hb dX10_derive_17 (by decide) (fun c_35 => ?_) (fun c_35 => ?_)
        · have c_35 := (k_lt (nI 7) w2).mp c_35
          rw [show (nI 7).toInt = 7 from by decide] at c_35
          refine lv_iconst (v := nI 1) hx hb dX10_derive_29 (by decide +kernel) ?_
          refine lv_goto (tgt := 34) hx hb dX10_derive_30 (by decide) ?_
          refine lv_istore (lv' := [(4, .int (nI 1)), (0, .ref (ad 0)), (1, .int v), (2, .int w1), (3, .int w2)]) hx hb dX10_derive_34 hl (by decide) rfl (fun ls hl => ?_)
          refine lv_aload_n hx hb dX10_derive_36 rfl (lv_at hl 1 rfl) ?_
          refine lv_iload hx hb dX10_derive_37 (lv_at hl 0 rfl) ?_
          refine lv_if_eq (tgt := 46) hx hb dX10_derive_39 (by decide) (fun c_36 => absurd c_36 (by decide)) (fun c_36 => ?_)
          refine lv_iconst (v := nI 1) hx hb dX10_derive_42 (by decide +kernel) ?_
          refine lv_goto (tgt := 60) hx hb dX10_derive_43 (by decide) ?_
          refine m_put (D := (dC, dI)) (v := .int (nI 1)) (tv := .int) (C := RX10) (T := TX10) (N := 29) hx hb hts bk0 tyX10 tyX10_ok nmX10 hown hK hP hD hS 0 (by decide) r_3 rfl 0 (by decide) (hts (.fieldLink RX10 78 "GradientDeskModel" "thrown" "I") (List.mem_of_getElem? (i := 1) rfl)) (fun _ h9 => h9) rfl (by decide +kernel) rfl rfl (Nat.le_of_ble_eq_true rfl) dX10_derive_60 (fun H locs g_37 f_38 fr_39 hP hS => ?_)
          have f_38 : g_37 0 = .inr (13, Rob ad (va_up x 0 (nI 1))) := f_38
          refine lv_aload_n hx hb dX10_derive_63 rfl (lv_at hl 1 rfl) ?_
          refine m_get (D := (dC, dI)) (v := .int (nI 1)) (C := RX10) (T := TX10) (N := 29) hx hb hts bk0 hown hK hP 0 (by decide) f_38 rfl 0 (by decide) (hts (.fieldLink RX10 78 "GradientDeskModel" "thrown" "I") (List.mem_of_getElem? (i := 1) rfl)) (fun _ h9 => h9) (congrArg (fun z => some (Value.int z)) (show (va_up x 0 (nI 1)) 0 = (nI 1) from rfl)) dX10_derive_64 ?_
          refine lv_if_le (tgt := 72) hx hb dX10_derive_67 (by decide) (fun c_40 => absurd c_40 (by decide)) (fun c_40 => ?_)
          refine lv_iconst (v := nI 0) hx hb dX10_derive_70 (by decide +kernel) ?_
          refine W.widen (k := 0) (n := 0) (by omega) (by omega) ?_
          exact W.iret (v := nI 0) hx hb hr (fun t9 ht9 hW9 => ⟨⟨nI 0, (g_37, va_up x 0 (nI 1), L, nm), rfl, ⟨RI.num hI0 (hF0.setx (fun (k : Nat) (hk : k = 1 ∨ k = 2 ∨ k = 3) => (fr_39 k (by omega)).trans (rfl)) f_38 rfl) (fun (k : Nat) (hk : (4 ≤ k ∧ k ≤ 11) ∨ k = 16) => (fr_39 k (by omega)).trans (rfl)) (hVO0.same (fun (k : Nat) (hk : 12 ≤ k ∧ k ≤ 19) => (fr_39 k (by omega)).trans (rfl))) (va_up_ne _ _ (by decide)) (va_up_ne _ _ (by decide)) (va_up_ne _ _ (by decide)) (fun _ _ => ⟨rfl, rfl⟩) hBd, (va_up_ne _ _ (by decide)), Or.inl ⟨by omega, va_up_self _ _ _, rfl, rfl, rfl⟩⟩, by show va_P (dC, dI) vwCl _ t9.heap; rw [ht9]; exact hP⟩, hS.F ht9⟩) hS.2.2 dX10_derive_71
        · have c_35 := mt (k_lt (nI 7) w2).mpr c_35
          rw [show (nI 7).toInt = 7 from by decide] at c_35
          refine lv_iload_n hx hb dX10_derive_20 rfl (lv_at hl 2 rfl) ?_
          refine lv_if_lt (tgt := 29) hx hb dX10_derive_21 (by decide) (fun c_41 => ?_) (fun c_41 => ?_)
          · have c_41 := (k_lt w1 (nI 0)).mp c_41
            rw [show (nI 0).toInt = 0 from by decide] at c_41
            refine lv_iconst (v := nI 1) hx hb dX10_derive_29 (by decide +kernel) ?_
            refine lv_goto (tgt := 34) hx hb dX10_derive_30 (by decide) ?_
            refine lv_istore (lv' := [(4, .int (nI 1)), (0, .ref (ad 0)), (1, .int v), (2, .int w1), (3, .int w2)]) hx hb dX10_derive_34 hl (by decide) rfl (fun ls hl => ?_)
            refine lv_aload_n hx hb dX10_derive_36 rfl (lv_at hl 1 rfl) ?_
            refine lv_iload hx hb dX10_derive_37 (lv_at hl 0 rfl) ?_
            refine lv_if_eq (tgt := 46) hx hb dX10_derive_39 (by decide) (fun c_42 => absurd c_42 (by decide)) (fun c_42 => ?_)
            refine lv_iconst (v := nI 1) hx hb dX10_derive_42 (by decide +kernel) ?_
            refine lv_goto (tgt := 60) hx hb dX10_derive_43 (by decide) ?_
            refine m_put (D := (dC, dI)) (v := .int (nI 1)) (tv := .int) (C := RX10) (T := TX10) (N := 29) hx hb hts bk0 tyX10 tyX10_ok nmX10 hown hK hP hD hS 0 (by decide) r_3 rfl 0 (by decide) (hts (.fieldLink RX10 78 "GradientDeskModel" "thrown" "I") (List.mem_of_getElem? (i := 1) rfl)) (fun _ h9 => h9) rfl (by decide +kernel) rfl rfl (Nat.le_of_ble_eq_true rfl) dX10_derive_60 (fun H locs g_43 f_44 fr_45 hP hS => ?_)
            have f_44 : g_43 0 = .inr (13, Rob ad (va_up x 0 (nI 1))) := f_44
            refine lv_aload_n hx hb dX10_derive_63 rfl (lv_at hl 1 rfl) ?_
            refine m_get (D := (dC, dI)) (v := .int (nI 1)) (C := RX10) (T := TX10) (N := 29) hx hb hts bk0 hown hK hP 0 (by decide) f_44 rfl 0 (by decide) (hts (.fieldLink RX10 78 "GradientDeskModel" "thrown" "I") (List.mem_of_getElem? (i := 1) rfl)) (fun _ h9 => h9) (congrArg (fun z => some (Value.int z)) (show (va_up x 0 (nI 1)) 0 = (nI 1) from rfl)) dX10_derive_64 ?_
            refine lv_if_le (tgt := 72) hx hb dX10_derive_67 (by decide) (fun c_46 => absurd c_46 (by decide)) (fun c_46 => ?_)
            refine lv_iconst (v := nI 0) hx hb dX10_derive_70 (by decide +kernel) ?_
            refine W.widen (k := 0) (n := 0) (by omega) (by omega) ?_
            exact W.iret (v := nI 0) hx hb hr (fun t9 ht9 hW9 => ⟨⟨nI 0, (g_43, va_up x 0 (nI 1), L, nm), rfl, ⟨RI.num hI0 (hF0.setx (fun (k : Nat) (hk : k = 1 ∨ k = 2 ∨ k = 3) => (fr_45 k (by omega)).trans (rfl)) f_44 rfl) (fun (k : Nat) (hk : (4 ≤ k ∧ k ≤ 11) ∨ k = 16) => (fr_45 k (by omega)).trans (rfl)) (hVO0.same (fun (k : Nat) (hk : 12 ≤ k ∧ k ≤ 19) => (fr_45 k (by omega)).trans (rfl))) (va_up_ne _ _ (by decide)) (va_up_ne _ _ (by decide)) (va_up_ne _ _ (by decide)) (fun _ _ => ⟨rfl, rfl⟩) hBd, (va_up_ne _ _ (by decide)), Or.inl ⟨by omega, va_up_self _ _ _, rfl, rfl, rfl⟩⟩, by show va_P (dC, dI) vwCl _ t9.heap; rw [ht9]; exact hP⟩, hS.F ht9⟩) hS.2.2 dX10_derive_71
          · have c_41 := mt (k_lt w1 (nI 0)).mpr c_41
            rw [show (nI 0).toInt = 0 from by decide] at c_41
            refine lv_iload_n hx hb dX10_derive_24 rfl (lv_at hl 2 rfl) ?_
            refine lv_iconst (v := nI 2) hx hb dX10_derive_25 (by decide +kernel) ?_
            refine lv_icmp_le (tgt := 33) hx hb dX10_derive_26 (by decide) (fun c_47 => ?_) (fun c_47 => ?_)
            · have c_47 := (k_le w1 (nI 2)).mp c_47
              rw [show (nI 2).toInt = 2 from by decide] at c_47
              refine lv_iconst (v := nI 0) hx hb dX10_derive_33 (by decide +kernel) ?_
              refine lv_istore (lv' := [(4, .int (nI 0)), (0, .ref (ad 0)), (1, .int v), (2, .int w1), (3, .int w2)]) hx hb dX10_derive_34 hl (by decide) rfl (fun ls hl => ?_)
              refine lv_aload_n hx hb dX10_derive_36 rfl (lv_at hl 1 rfl) ?_
              refine lv_iload hx hb dX10_derive_37 (lv_at hl 0 rfl) ?_
              refine lv_if_eq (tgt := 46) hx hb dX10_derive_39 (by decide) (fun c_48 => ?_) (fun c_48 => absurd c_48 (by decide))
              obtain ⟨vn, hvn, evn, -⟩ := k_nat (x := v) (by omega)
              rw [hvn] at hl
              obtain ⟨bn9, hbn9, ebn9, -⟩ := k_nat (x := w1) (by omega)
              rw [hbn9] at hl
              obtain ⟨dn9, hdn9, edn9, -⟩ := k_nat (x := w2) (by omega)
              rw [hdn9] at hl
              refine lv_aload_n hx hb dX10_derive_46 rfl (lv_at hl 1 rfl) ?_
              refine m_get (D := (dC, dI)) (v := .ref (ad 11)) (C := RX10) (T := TX10) (N := 29) hx hb hts bk0 hown hK hP 0 (by decide) r_3 rfl 15 (by decide) (hts (.fieldLink RX10 47 "GradientDeskModel" "names" "[I") (List.mem_of_getElem? (i := 2) rfl)) (fun _ h9 => h9) rfl dX10_derive_47 ?_
              refine lv_iload_n hx hb dX10_derive_50 rfl (lv_at hl 2 rfl) ?_
              refine m_iald hx hb hK hP 11 (by decide) rfl t11 (i := vn) (by omega) (by decide) dX10_derive_51 ?_
              have b_49 := t11b vn
              refine lv_if_ge (tgt := 59) hx hb dX10_derive_52 (by decide) (fun c_50 => ?_) (fun c_50 => ?_)
              · have c_50 := (k_iLE (a := 0) (b := nm vn) (show nI 0 = iI 0 from by decide) rfl (by omega) (by omega)).mp c_50
                refine lv_iconst (v := nI 0) hx hb dX10_derive_59 (by decide +kernel) ?_
                refine m_put (D := (dC, dI)) (v := .int (nI 0)) (tv := .int) (C := RX10) (T := TX10) (N := 29) hx hb hts bk0 tyX10 tyX10_ok nmX10 hown hK hP hD hS 0 (by decide) r_3 rfl 0 (by decide) (hts (.fieldLink RX10 78 "GradientDeskModel" "thrown" "I") (List.mem_of_getElem? (i := 1) rfl)) (fun _ h9 => h9) rfl (by decide +kernel) rfl rfl (Nat.le_of_ble_eq_true rfl) dX10_derive_60 (fun H locs g_51 f_52 fr_53 hP hS => ?_)
                have f_52 : g_51 0 = .inr (13, Rob ad (va_up x 0 (nI 0))) := f_52
                refine lv_aload_n hx hb dX10_derive_63 rfl (lv_at hl 1 rfl) ?_
                refine m_get (D := (dC, dI)) (v := .int (nI 0)) (C := RX10) (T := TX10) (N := 29) hx hb hts bk0 hown hK hP 0 (by decide) f_52 rfl 0 (by decide) (hts (.fieldLink RX10 78 "GradientDeskModel" "thrown" "I") (List.mem_of_getElem? (i := 1) rfl)) (fun _ h9 => h9) (congrArg (fun z => some (Value.int z)) (show (va_up x 0 (nI 0)) 0 = (nI 0) from rfl)) dX10_derive_64 ?_
                refine lv_if_le (tgt := 72) hx hb dX10_derive_67 (by decide) (fun c_54 => ?_) (fun c_54 => absurd c_54 (by decide))
                refine lv_aload_n hx hb dX10_derive_72 rfl (lv_at hl 1 rfl) ?_
                refine m_get (D := (dC, dI)) (v := .ref (ad 11)) (C := RX10) (T := TX10) (N := 29) hx hb hts bk0 hown hK hP 0 (by decide) f_52 rfl 15 (by decide) (hts (.fieldLink RX10 47 "GradientDeskModel" "names" "[I") (List.mem_of_getElem? (i := 2) rfl)) (fun _ h9 => h9) rfl dX10_derive_73 ?_
                refine lv_iload_n hx hb dX10_derive_76 rfl (lv_at hl 2 rfl) ?_
                have f_55 : g_51 11 = .inl (cA 11, 8, .inl (fun j => iI (nm j))) := (fr_53 11 (by omega)).trans t11
                refine m_iald hx hb hK hP 11 (by decide) rfl f_55 (i := vn) (by omega) (by decide) dX10_derive_77 ?_
                have b_56 := t11b vn
                obtain ⟨rt, hrt⟩ : ∃ z9 : Nat, nm vn = (z9 : Int) := ⟨(nm vn).toNat, by omega⟩
                have hr9 := t11c vn (by omega)
                have hrl : rt < L.length := by omega
                rw [hrt, ← nI_iI]
                refine lv_istore (lv' := [(5, .int (nI rt)), (4, .int (nI 0)), (0, .ref (ad 0)), (1, .int (nI vn)), (2, .int (nI bn9)), (3, .int (nI dn9))]) hx hb dX10_derive_78 hl (by decide) rfl (fun ls hl => ?_)
                refine lv_aload_n hx hb dX10_derive_80 rfl (lv_at hl 2 rfl) ?_
                refine lv_iload hx hb dX10_derive_81 (lv_at hl 0 rfl) ?_
                have f_57 : g_51 12 = .inl (cA 12, 200, .inl (fun j => nI (rc j))) := (fr_53 12 (by omega)).trans v12
                refine va_callv (va_runV (As := [.int (nI rt)]) (rest := []) ⟨hx, hb, hml, hown, hts⟩ (c_X10_reach l dC dI A ad cA g_51 (va_up x 0 (nI 0)) pt pf qf L rc rt f_52 (hPt0.same (fun (k : Nat) (hk : 5 ≤ k ∧ k ≤ 10) => (fr_53 k (by omega)).trans (rfl))) hM hW hL2 f_57 v12b hrl) (cwV 1 hts (goodIn_app (goodIn_r [Cond.methodLink RX10 257 yX10_reach, Cond.instanceMethod yX10_reach, Cond.selects RX10 yX10_reach yX10_reach, Cond.initialized RX10] [3, 4, 5, 6] rfl rfl) (goodIn_sub (fun w9 h9 => bk1 w9 h9) gw_X10_reach)) rfl rfl rfl (by decide +kernel) ⟨Nat.le_of_ble_eq_true rfl, Nat.le_of_ble_eq_true rfl⟩) ⟨fun a U g mk q => ⟨q.1, q.2.1, q.2.2.1, LY.moved (u := U) (U := U.calling g mk a) (Vm.Alike.refl U.vm) q.2.2.2⟩, va_recv hK hP (ci := 13) (q0 := 0) rfl (wo_at (by decide) f_52), fun U hU hW => ⟨rfl, by rw [hU]; exact fun q h => hA q (Nat.le_trans hS.1 h), by rw [hU]; exact hP, LY.moved hW.alike hL⟩⟩ rfl rfl hl.1 rfl (lv_room (Nat.le_of_ble_eq_true rfl)) dX10_derive_83 ⟨(Nat.le_of_ble_eq_true rfl), (Nat.le_of_ble_eq_true rfl)⟩) hS (fun q _ h => h) (fun q h => h) (fun u8 t8 H1 locs ht8 hvm8 hw_58 hB hz1 hk1 hS => ?_)
                obtain ⟨g_59, rc2_60⟩ := u8
                try dsimp only at hw_58 hB
                rw [ht8] at hB
                have hP := hB
                generalize H1 = H at hP hS ⊢
                obtain ⟨fr_61, q12, q12b, q12c⟩ := hw_58
                refine lv_aload_n hx hb dX10_derive_86 rfl (lv_at hl 2 rfl) ?_
                have f_62 : g_59 0 = .inr (13, Rob ad (va_up x 0 (nI 0))) := (fr_61 0 (by omega)).trans f_52
                refine m_get (D := (dC, dI)) (v := .int (nI L.length)) (C := RX10) (T := TX10) (N := 29) hx hb hts bk0 hown hK hP 0 (by decide) f_62 rfl 13 (by decide) (hts (.fieldLink RX10 149 "GradientDeskModel" "made" "I") (List.mem_of_getElem? (i := 7) rfl)) (fun _ h9 => h9) (congrArg (fun z => some (Value.int z)) (show (va_up x 0 (nI 0)) 3 = (nI L.length) from hmd)) dX10_derive_87 ?_
                refine lv_istore (lv' := [(6, .int (nI L.length)), (5, .int (nI rt)), (4, .int (nI 0)), (0, .ref (ad 0)), (1, .int (nI vn)), (2, .int (nI bn9)), (3, .int (nI dn9))]) hx hb dX10_derive_90 hl (by decide) rfl (fun ls hl => ?_)
                refine lv_aload_n hx hb dX10_derive_92 rfl (lv_at hl 3 rfl) ?_
                refine lv_iconst (v := nI 0) hx hb dX10_derive_93 (by decide +kernel) ?_
                refine m_put (D := (dC, dI)) (v := .int (nI 0)) (tv := .int) (C := RX10) (T := TX10) (N := 29) hx hb hts bk0 tyX10 tyX10_ok nmX10 hown hK hP hD hS 0 (by decide) f_62 rfl 14 (by decide) (hts (.fieldLink RX10 146 "GradientDeskModel" "fault" "I") (List.mem_of_getElem? (i := 8) rfl)) (fun _ h9 => h9) rfl (by decide +kernel) rfl rfl (Nat.le_of_ble_eq_true rfl) dX10_derive_94 (fun H locs g_63 f_64 fr_65 hP hS => ?_)
                have f_64 : g_63 0 = .inr (13, Rob ad (va_up (va_up x 0 (nI 0)) 4 (nI 0))) := f_64
                refine lv_iconst (v := nI 0) hx hb dX10_derive_97 (by decide +kernel) ?_
                refine lv_istore (lv' := [(7, .int (nI 0)), (6, .int (nI L.length)), (5, .int (nI rt)), (4, .int (nI 0)), (0, .ref (ad 0)), (1, .int (nI vn)), (2, .int (nI bn9)), (3, .int (nI dn9))]) hx hb dX10_derive_98 hl (by decide) rfl (fun ls hl => ?_)
                have loop_66 : ∀ (k9 : Nat) (kk : Nat) (DD : DX) (dz : Nat → Int) (xx : Nat → Int32) (pt1 : Nat → Nat → Int) (pf1 : Nat → Int) (qf1 : Nat → Nat) (g_68 : Nat → va_E) (fr_69 : ∀ k, (k ≠ 0 ∧ k ≠ 1 ∧ k ≠ 2 ∧ k ≠ 3 ∧ k ≠ 5 ∧ k ≠ 6 ∧ k ≠ 7 ∧ k ≠ 8 ∧ k ≠ 9 ∧ k ≠ 10 ∧ k ≠ 13) → g_68 k = g_63 k), rt + 1 - kk < k9 → (kk ≤ rt + 1) → (DD.1 = 0 → drS L (rchN L rt (rt + 1)) bn9 kk = DD ∧ ∀ j, j < kk → (rchN L rt (rt + 1)) j = 1 → dz j = ((DD.2.1 j : Nat) : Int) ∧ DD.2.1 j < DD.2.2.length) → (DD.1 < 0 → drS L (rchN L rt (rt + 1)) bn9 (rt + 1) = DD) → (g_68 0 = .inr (13, Rob ad xx)) → (g_68 13 = .inl (cA 13, 200, .inl (fun j => iI (dz j)))) → (MKD ad cA g_68 (va_up x 0 (nI 0)) xx pf qf L DD pt1 pf1 qf1) → ∀ (H : Heap) (locs : List Loc) (ls : Array Slot), va_P (dC, dI) vwCl (wo ad NSr g_68) H → va_S A s.heap H locs → lv_has ls 8 [(0, .ref (ad 0)), (1, .int (nI vn)), (2, .int (nI bn9)), (3, .int (nI dn9)), (5, .int (nI rt)), (6, .int (nI L.length)), (7, .int (nI kk))] → W p l e (headSpec wd_X10_derive ({ frames := 110, cells := 0, slots := 0, locals := 2200 })).room s m ([.ref (ad 0), .int v, .int w1, .int w2] : List Value).toArray below meth c H locs (0) (0) (MQ below (va_Qi (fun (r : Int32) => fun (u : (Nat → va_E) × (Nat → Int32) × (List PD) × (Nat → Int)) => match u with | (g2, x2, L2, nm2) => RIE ad cA g2 x2 L2 nm2 tx ty wr ∧ x2 2 = x 2 ∧ DVR nm L v w1 w2 (x2 0) r L2 nm2) (fun (u : (Nat → va_E) × (Nat → Int32) × (List PD) × (Nat → Int)) (t : State) => va_P (dC, dI) vwCl (wo ad NSr u.1) t.heap) A) ([.ref (ad 0), .int v, .int w1, .int w2] : List Value).toArray s (0) (0) A) (F0 m 100 ls []) := by
                  intro k9
                  induction k9 with
                  | zero => intro kk DD dz xx pt1 pf1 qf1 g_68 fr_69 h9; exact absurd h9 (Nat.not_lt_zero _)
                  | succ k9 ih_67 =>
                    intro kk DD dz xx pt1 pf1 qf1 g_68 fr_69 h9 hk1 hI9 hB9 f_70 f_71 hMD H locs ls hP hS hl
                    refine lv_iload hx hb dX10_derive_100 (lv_at hl 6 rfl) ?_
                    obtain ⟨sF, sP, sM, sW, sE, sL, s3, sx, so, s4, sr⟩ := hMD
                    have hse := sE.1
                    rcases sr with hz | ⟨hz, hz4⟩
                    · skip
                      obtain ⟨i1, i2⟩ := hI9 hz
                      have s40 : xx 4 = iI 0 := by rw [s4, hz]
                      refine lv_iload hx hb dX10_derive_102 (lv_at hl 4 rfl) ?_
                      refine lv_icmp_gt (tgt := 144) hx hb dX10_derive_104 (by decide) (fun c_72 => ?_) (fun c_72 => ?_)
                      · have c_72 := (nI_ltI (a := rt) (b := kk) (by omega) (by omega)).mp c_72
                        refine lv_aload_n hx hb dX10_derive_144 rfl (lv_at hl 0 rfl) ?_
                        refine m_get (D := (dC, dI)) (v := .int (iI 0)) (C := RX10) (T := TX10) (N := 29) hx hb hts bk0 hown hK hP 0 (by decide) f_70 rfl 14 (by decide) (hts (.fieldLink RX10 146 "GradientDeskModel" "fault" "I") (List.mem_of_getElem? (i := 8) rfl)) (fun _ h9 => h9) (congrArg (fun z => some (Value.int z)) s40) dX10_derive_145 ?_
                        refine lv_if_ge (tgt := 162) hx hb dX10_derive_148 (by decide) (fun c_73 => ?_) (fun c_73 => absurd (mt (k_iLE (a := 0) (b := 0) (show nI 0 = iI 0 from by decide) rfl (by omega) (by omega)).mpr c_73) (by omega))
                        refine lv_aload_n hx hb dX10_derive_162 rfl (lv_at hl 0 rfl) ?_
                        refine m_get (D := (dC, dI)) (v := .ref (ad 11)) (C := RX10) (T := TX10) (N := 29) hx hb hts bk0 hown hK hP 0 (by decide) f_70 rfl 15 (by decide) (hts (.fieldLink RX10 47 "GradientDeskModel" "names" "[I") (List.mem_of_getElem? (i := 2) rfl)) (fun _ h9 => h9) rfl dX10_derive_163 ?_
                        refine lv_iload_n hx hb dX10_derive_166 rfl (lv_at hl 3 rfl) ?_
                        refine lv_aload_n hx hb dX10_derive_167 rfl (lv_at hl 0 rfl) ?_
                        refine m_get (D := (dC, dI)) (v := .ref (ad 13)) (C := RX10) (T := TX10) (N := 29) hx hb hts bk0 hown hK hP 0 (by decide) f_70 rfl 17 (by decide) (hts (.fieldLink RX10 53 "GradientDeskModel" "derived" "[I") (List.mem_of_getElem? (i := 9) rfl)) (fun _ h9 => h9) rfl dX10_derive_168 ?_
                        refine lv_iload hx hb dX10_derive_171 (lv_at hl 4 rfl) ?_
                        refine m_iald hx hb hK hP 13 (by decide) rfl f_71 (i := rt) (by omega) (by decide) dX10_derive_173 ?_
                        have hkr : kk = rt + 1 := by omega
                        obtain ⟨d1, d2⟩ := i2 rt (by omega) rchN_root
                        rw [d1, ← nI_iI]
                        have hdn : DD.2.1 rt < DD.2.2.length := d2
                        have f_74 : g_68 11 = .inl (cA 11, 8, .inl (fun j => iI (nm j))) := (fr_69 11 (by omega)).trans ((fr_65 11 (by omega)).trans ((fr_61 11 (by omega)).trans f_55))
                        refine m_iast hx hb hK hP hD hS 11 (by decide) rfl f_74 (i := dn9) (x := nI (DD.2.1 rt)) (by omega) (by decide) dX10_derive_174 (fun H locs g_75 f_76 fr_77 hP hS => ?_)
                        rw [(nI_iI (DD.2.1 rt)), k_updZ] at f_76
                        have b_78 : ∀ j, -1 ≤ (va_up nm dn9 ((DD.2.1 rt : Nat) : Int)) j ∧ (va_up nm dn9 ((DD.2.1 rt : Nat) : Int)) j ≤ 200 := k_up_in t11b (by omega)
                        have f_76 : g_75 11 = .inl (cA 11, 8, .inl (fun j => iI ((va_up nm dn9 ((DD.2.1 rt : Nat) : Int)) j))) := f_76
                        refine lv_aload_n hx hb dX10_derive_175 rfl (lv_at hl 0 rfl) ?_
                        have f_79 : g_75 0 = .inr (13, Rob ad xx) := (fr_77 0 (by omega)).trans f_70
                        refine m_get (D := (dC, dI)) (v := .ref (ad 11)) (C := RX10) (T := TX10) (N := 29) hx hb hts bk0 hown hK hP 0 (by decide) f_79 rfl 15 (by decide) (hts (.fieldLink RX10 47 "GradientDeskModel" "names" "[I") (List.mem_of_getElem? (i := 2) rfl)) (fun _ h9 => h9) rfl dX10_derive_176 ?_
                        refine lv_iload_n hx hb dX10_derive_179 rfl (lv_at hl 3 rfl) ?_
                        refine m_iald hx hb hK hP 11 (by decide) rfl f_76 (i := dn9) (by omega) (by decide) dX10_derive_180 ?_
                        refine lv_topi (fun x_80 e_81 => ?_)
                        obtain rfl : x_80 = iI ((DD.2.1 rt : Nat) : Int) := e_81.trans (congrArg iI (va_up_self _ _ _))
                        have b_82 := b_78 dn9
                        have f_83 : g_75 4 = .inl (cA 4, 64, .inl (fun j => nI (tx j))) := (fr_77 4 (by omega)).trans ((fr_69 4 (by omega)).trans ((fr_65 4 (by omega)).trans ((fr_61 4 (by omega)).trans ((fr_53 4 (by omega)).trans t4))))
                        have f_84 : g_75 12 = .inl (cA 12, 200, .inl (fun j => nI (rc2_60 j))) := (fr_77 12 (by omega)).trans ((fr_69 12 (by omega)).trans ((fr_65 12 (by omega)).trans q12))
                        have f_85 : g_75 13 = .inl (cA 13, 200, .inl (fun j => iI (dz j))) := (fr_77 13 (by omega)).trans f_71
                        have hri : RIE ad cA g_75 xx DD.2.2 (va_up nm dn9 ((DD.2.1 rt : Nat) : Int)) tx ty wr := RI.mk9 hI0 (sF.setx (fun (k : Nat) (hk : k = 1 ∨ k = 2 ∨ k = 3) => (fr_77 k (by omega)).trans (rfl)) f_79 rfl) (sP.same (fun (k : Nat) (hk : 5 ≤ k ∧ k ≤ 10) => (fr_77 k (by omega)).trans (rfl))) sM sW sL s3 ⟨f_83, t4b, f_76, b_78, fun j hj => by by_cases h9 : j = dn9; rw [h9, va_up_self]; omega; rw [va_up_ne _ _ h9]; exact Int.lt_of_lt_of_le (t11c j hj) (by omega)⟩ (((sx 1 (by decide) (by decide)).trans (va_up_ne _ _ (by decide))).trans hty) hty2 ((sx 8 (by decide) (by decide)).trans (va_up_ne _ _ (by decide))) (VO.der hVO0 f_84 q12b f_85 (fun (k : Nat) (hk : 14 ≤ k ∧ k ≤ 19) => (fr_77 k (by omega)).trans ((fr_69 k (by omega)).trans ((fr_65 k (by omega)).trans ((fr_61 k (by omega)).trans ((fr_53 k (by omega)).trans (rfl))))))) (hBd.res (fun r9 h9 => Or.inl (so _ (by omega) (by omega))) (fun v9 h9 => Or.inl (so _ (by omega) (by omega)))) (fun (k : Nat) (hk : k = 16) => (fr_77 k (by omega)).trans ((fr_69 k (by omega)).trans ((fr_65 k (by omega)).trans ((fr_61 k (by omega)).trans ((fr_53 k (by omega)).trans (rfl))))))
                        rw [hkr] at i1
                        refine W.widen (k := 0) (n := 0) (by omega) (by omega) ?_
                        exact W.iret (v := iI ((DD.2.1 rt : Nat) : Int)) hx hb hr (fun t9 ht9 hW9 => ⟨⟨iI ((DD.2.1 rt : Nat) : Int), (g_75, xx, DD.2.2, (va_up nm dn9 ((DD.2.1 rt : Nat) : Int))), rfl, ⟨hri, (sx 2 (by decide) (by decide)).trans (va_up_ne _ _ (by decide)), Or.inr ⟨vn, bn9, dn9, hvn, by omega, hbn9, by omega, hdn9, by omega, Or.inr ⟨rt, hrt, (sx 0 (by decide) (by decide)).trans (va_up_self _ _ _), Or.inr (by rw [i1]; exact ⟨hz, rfl, rfl, rfl⟩)⟩⟩⟩, by show va_P (dC, dI) vwCl _ t9.heap; rw [ht9]; exact hP⟩, hS.F ht9⟩) hS.2.2 dX10_derive_181
                      · have c_72 := mt (nI_ltI (a := rt) (b := kk) (by omega) (by omega)).mpr c_72
                        refine lv_aload_n hx hb dX10_derive_107 rfl (lv_at hl 0 rfl) ?_
                        refine m_get (D := (dC, dI)) (v := .int (iI 0)) (C := RX10) (T := TX10) (N := 29) hx hb hts bk0 hown hK hP 0 (by decide) f_70 rfl 14 (by decide) (hts (.fieldLink RX10 146 "GradientDeskModel" "fault" "I") (List.mem_of_getElem? (i := 8) rfl)) (fun _ h9 => h9) (congrArg (fun z => some (Value.int z)) s40) dX10_derive_108 ?_
                        refine lv_if_ne (tgt := 144) hx hb dX10_derive_111 (by decide) (fun c_86 => absurd (mt (k_iEQ (a := 0) (b := 0) rfl (show nI 0 = iI 0 from by decide) (by omega) (by omega)).mpr c_86) (by omega)) (fun c_86 => ?_)
                        refine lv_aload_n hx hb dX10_derive_114 rfl (lv_at hl 0 rfl) ?_
                        refine m_get (D := (dC, dI)) (v := .ref (ad 12)) (C := RX10) (T := TX10) (N := 29) hx hb hts bk0 hown hK hP 0 (by decide) f_70 rfl 16 (by decide) (hts (.fieldLink RX10 50 "GradientDeskModel" "reached" "[Z") (List.mem_of_getElem? (i := 10) rfl)) (fun _ h9 => h9) rfl dX10_derive_115 ?_
                        refine lv_iload hx hb dX10_derive_118 (lv_at hl 6 rfl) ?_
                        have f_87 : g_68 12 = .inl (cA 12, 200, .inl (fun j => nI (rc2_60 j))) := (fr_69 12 (by omega)).trans ((fr_65 12 (by omega)).trans q12)
                        refine m_zald hx hb hK hP 12 (by decide) rfl f_87 (i := kk) (by omega) (by decide) dX10_derive_120 ?_
                        have b_88 := q12b kk
                        refine lv_if_eq (tgt := 138) hx hb dX10_derive_121 (by decide) (fun c_89 => ?_) (fun c_89 => ?_)
                        · have c_89 := (nI_eq (a := (rc2_60 kk)) (b := 0) (by omega) (by decide)).mp c_89
                          have hnr : ¬ (rchN L rt (rt + 1)) kk = 1 := by have h7 := q12c kk (by omega); omega
                          have hMD0 : MKD ad cA g_68 (va_up x 0 (nI 0)) xx pf qf L DD pt1 pf1 qf1 := ⟨sF, sP, sM, sW, sE, sL, s3, sx, so, s4, Or.inl hz⟩
                          refine lv_iinc (v := nI (kk + 1)) (lv' := [(7, .int (nI (kk + 1))), (0, .ref (ad 0)), (1, .int (nI vn)), (2, .int (nI bn9)), (3, .int (nI dn9)), (5, .int (nI rt)), (6, .int (nI L.length))]) hx hb dX10_derive_138 hl (k := 6) rfl (nI_add kk 1) (by decide) rfl (fun ls hl => ?_)
                          refine lv_goto (tgt := 100) hx hb dX10_derive_141 (by decide) ?_
                          exact ih_67 (kk + 1) DD dz xx pt1 pf1 qf1 g_68 (fun (k : Nat) (hk : k ≠ 0 ∧ k ≠ 1 ∧ k ≠ 2 ∧ k ≠ 3 ∧ k ≠ 5 ∧ k ≠ 6 ∧ k ≠ 7 ∧ k ≠ 8 ∧ k ≠ 9 ∧ k ≠ 10 ∧ k ≠ 13) => (fr_69 k (by omega)).trans (rfl)) (by omega) (by omega) (fun _ => ⟨drS_no i1 hz hnr, fun j hj h9 => by by_cases h8 : j = kk; rw [h8] at h9; exact absurd h9 hnr; exact i2 j (by omega) h9⟩) (fun h9 => absurd h9 (by omega)) f_70 f_71 hMD0 _ _ _ hP hS (lv_sub (l' := [(0, .ref (ad 0)), (1, .int (nI vn)), (2, .int (nI bn9)), (3, .int (nI dn9)), (5, .int (nI rt)), (6, .int (nI L.length)), (7, .int (nI (kk + 1)))]) hl [1, 2, 3, 4, 5, 6, 0] rfl)
                        · have c_89 := mt (nI_eq (a := (rc2_60 kk)) (b := 0) (by omega) (by decide)).mpr c_89
                          refine lv_aload_n hx hb dX10_derive_124 rfl (lv_at hl 0 rfl) ?_
                          refine m_get (D := (dC, dI)) (v := .ref (ad 13)) (C := RX10) (T := TX10) (N := 29) hx hb hts bk0 hown hK hP 0 (by decide) f_70 rfl 17 (by decide) (hts (.fieldLink RX10 53 "GradientDeskModel" "derived" "[I") (List.mem_of_getElem? (i := 9) rfl)) (fun _ h9 => h9) rfl dX10_derive_125 ?_
                          refine lv_iload hx hb dX10_derive_128 (lv_at hl 6 rfl) ?_
                          refine lv_aload_n hx hb dX10_derive_130 rfl (lv_at hl 0 rfl) ?_
                          refine lv_iload hx hb dX10_derive_131 (lv_at hl 6 rfl) ?_
                          refine lv_iload_n hx hb dX10_derive_133 rfl (lv_at hl 2 rfl) ?_
                          have hre : (rchN L rt (rt + 1)) kk = 1 := by have h7 := q12c kk (by omega); have h8 := q12b kk; omega
                          have hgk : gd DD.2.2 kk = gd L kk := sE.2 kk (by omega)
                          have hd1 : 1 < (gd DD.2.2 kk).1 → dz (gd DD.2.2 kk).2.1.toNat = ((DD.2.1 (gd DD.2.2 kk).2.1.toNat : Nat) : Int) ∧ DD.2.1 (gd DD.2.2 kk).2.1.toNat < DD.2.2.length := fun h9 => by rw [hgk] at h9 ⊢; obtain ⟨a9, h8, h7⟩ := hW.op1 (k := kk) (by omega) h9; have h6 := (rch_closed hW hrl (by omega) hre h9).1; rw [h7, Int.toNat_natCast] at h6 ⊢; exact i2 a9 h8 h6
                          have hd2 : (gd DD.2.2 kk).1 = 2 ∨ (gd DD.2.2 kk).1 = 3 → dz (gd DD.2.2 kk).2.2.1.toNat = ((DD.2.1 (gd DD.2.2 kk).2.2.1.toNat : Nat) : Int) ∧ DD.2.1 (gd DD.2.2 kk).2.2.1.toNat < DD.2.2.length := fun h9 => by rw [hgk] at h9 ⊢; obtain ⟨a9, h8, h7⟩ := hW.op2 (k := kk) (by omega) h9; have h6 := (rch_closed hW hrl (by omega) hre (by omega)).2 (by omega); rw [h7, Int.toNat_natCast] at h6 ⊢; exact i2 a9 h8 h6
                          have hokk := OKK.der (v := bn9) sW (show kk < DD.2.2.length by omega) (fun h9 => (hd1 h9).2) (fun h9 => (hd2 h9).2)
                          refine va_calli (va_runV (As := [.int (nI kk), .int (nI bn9)]) (rest := [.int (nI kk), .ref (ad 13)]) ⟨hx, hb, hml, hown, hts⟩ (c_X10_derivativeOf l dC dI A ad cA g_68 xx pf1 qf1 pt1 DD.2.2 kk bn9 dz DD.2.1 sF sP sM s3 sL s40 sW (by omega) (by omega) f_71 hd1 hd2) (cwV 2 hts (goodIn_app (goodIn_r [Cond.methodLink RX10 260 yX10_derivativeOf, Cond.instanceMethod yX10_derivativeOf, Cond.selects RX10 yX10_derivativeOf yX10_derivativeOf, Cond.initialized RX10] [11, 12, 13, 6] rfl rfl) (goodIn_sub (fun w9 h9 => bk2 w9 h9) gw_X10_derivativeOf)) rfl rfl rfl (by decide +kernel) ⟨Nat.le_of_ble_eq_true rfl, Nat.le_of_ble_eq_true rfl⟩) ⟨fun a U g mk q => ⟨q.1, q.2.1, q.2.2.1, LY.moved (u := U) (U := U.calling g mk a) (Vm.Alike.refl U.vm) q.2.2.2⟩, va_recv hK hP (ci := 13) (q0 := 0) rfl (wo_at (by decide) f_70), fun U hU hW => ⟨rfl, by rw [hU]; exact fun q h => hA q (Nat.le_trans hS.1 h), by rw [hU]; exact hP, LY.moved hW.alike hL⟩⟩ rfl rfl hl.1 rfl (lv_room (Nat.le_of_ble_eq_true rfl)) dX10_derive_134 ⟨(Nat.le_of_ble_eq_true rfl), (Nat.le_of_ble_eq_true rfl)⟩) hS (fun q _ h => h) (fun q h => h) (fun r_92 u8 t8 H1 locs ht8 hvm8 hw_93 hB hz1 hk1 hS => ?_)
                          obtain ⟨g_94, x2_95, pt2_96, pf2_97, qf2_98⟩ := u8
                          try dsimp only at hw_93 hB
                          rw [ht8] at hB
                          have hP := hB
                          generalize H1 = H at hP hS ⊢
                          obtain ⟨fr_99, hK⟩ := hw_93
                          obtain ⟨K9, eK9⟩ : ∃ z9, z9 = derL DD.2.2 kk bn9 DD.2.1 := ⟨_, rfl⟩
                          rw [← eK9] at hK hokk
                          obtain ⟨kF, kP, kM, kL, k3, kx, ko, kR⟩ := hK
                          have hob9 := kF.obj
                          have hle9 := hokk.2.1.1
                          rcases kR with ⟨j1, j2, j3, j4⟩ | ⟨j1, j2, j3, j4⟩
                          · skip
                            obtain ⟨i9, hi9⟩ : ∃ z9 : Nat, K9.1 = (z9 : Int) := ⟨K9.1.toNat, by omega⟩
                            rw [hi9, ← nI_iI] at j3
                            rw [j3]
                            have f_100 : g_94 13 = .inl (cA 13, 200, .inl (fun j => iI (dz j))) := (fr_99 13 (by omega)).trans f_71
                            refine m_iast hx hb hK hP hD hS 13 (by decide) rfl f_100 (i := kk) (x := nI i9) (by omega) (by decide) dX10_derive_137 (fun H locs g_101 f_102 fr_103 hP hS => ?_)
                            rw [(nI_iI i9), k_updZ] at f_102
                            have f_102 : g_101 13 = .inl (cA 13, 200, .inl (fun j => iI ((va_up dz kk ((i9 : Nat) : Int)) j))) := f_102
                            have f_104 : g_101 0 = .inr (13, Rob ad x2_95) := (fr_103 0 (by omega)).trans hob9
                            have hMD2 : MKD ad cA g_101 (va_up x 0 (nI 0)) x2_95 pf qf L (0, va_up DD.2.1 kk i9, K9.2) pt2_96 pf2_97 qf2_98 := ⟨kF.setx (fun (k : Nat) (hk : k = 1 ∨ k = 2 ∨ k = 3) => (fr_103 k (by omega)).trans (rfl)) f_104 rfl, kP.same (fun (k : Nat) (hk : 5 ≤ k ∧ k ≤ 10) => (fr_103 k (by omega)).trans (rfl)), kM, hokk.1, LE.tr sE hokk.2.1, kL, k3, fun j h3 h4 => (kx j h3 h4).trans (sx j h3 h4), fun f9 h1 h2 => ⟨(ko f9 h1 h2).1.trans (so f9 h1 h2).1, (ko f9 h1 h2).2.trans (so f9 h1 h2).2⟩, j4, Or.inl rfl⟩
                            have hE9 : drS L (rchN L rt (rt + 1)) bn9 (kk + 1) = (0, va_up DD.2.1 kk i9, K9.2) := by have h9 := drS_ok i1 hz hre (i := i9) (by rw [← eK9]; exact hi9); rw [← eK9] at h9; exact h9
                            refine lv_iinc (v := nI (kk + 1)) (lv' := [(7, .int (nI (kk + 1))), (0, .ref (ad 0)), (1, .int (nI vn)), (2, .int (nI bn9)), (3, .int (nI dn9)), (5, .int (nI rt)), (6, .int (nI L.length))]) hx hb dX10_derive_138 hl (k := 6) rfl (nI_add kk 1) (by decide) rfl (fun ls hl => ?_)
                            refine lv_goto (tgt := 100) hx hb dX10_derive_141 (by decide) ?_
                            exact ih_67 (kk + 1) (0, va_up DD.2.1 kk i9, K9.2) (va_up dz kk ((i9 : Nat) : Int)) x2_95 pt2_96 pf2_97 qf2_98 g_101 (fun (k : Nat) (hk : k ≠ 0 ∧ k ≠ 1 ∧ k ≠ 2 ∧ k ≠ 3 ∧ k ≠ 5 ∧ k ≠ 6 ∧ k ≠ 7 ∧ k ≠ 8 ∧ k ≠ 9 ∧ k ≠ 10 ∧ k ≠ 13) => (fr_103 k (by omega)).trans ((fr_99 k (by omega)).trans ((fr_69 k (by omega)).trans (rfl)))) (by omega) (by omega) (fun _ => ⟨hE9, fun j hj h9 => by dsimp only; by_cases h8 : j = kk; subst h8; refine ⟨by rw [va_up_self, va_up_self], by rw [va_up_self]; omega⟩; rw [va_up_ne _ _ h8, va_up_ne _ _ h8]; obtain ⟨h6, h7⟩ := i2 j (by omega) h9; exact ⟨h6, Nat.lt_of_lt_of_le h7 hle9⟩⟩) (fun h9 => absurd (show (0 : Int) < 0 from h9) (by decide)) f_104 f_102 hMD2 _ _ _ hP hS (lv_sub (l' := [(0, .ref (ad 0)), (1, .int (nI vn)), (2, .int (nI bn9)), (3, .int (nI dn9)), (5, .int (nI rt)), (6, .int (nI L.length)), (7, .int (nI (kk + 1)))]) hl [1, 2, 3, 4, 5, 6, 0] rfl)
                          · skip
                            rw [j3]
                            have f_107 : g_94 13 = .inl (cA 13, 200, .inl (fun j => iI (dz j))) := (fr_99 13 (by omega)).trans f_71
                            refine m_iast hx hb hK hP hD hS 13 (by decide) rfl f_107 (i := kk) (x := -1) (by omega) (by decide) dX10_derive_137 (fun H locs g_108 f_109 fr_110 hP hS => ?_)
                            rw [(show (-1 : Int32) = iI (-1) from by decide), k_updZ] at f_109
                            have f_109 : g_108 13 = .inl (cA 13, 200, .inl (fun j => iI ((va_up dz kk (-1)) j))) := f_109
                            have f_111 : g_108 0 = .inr (13, Rob ad x2_95) := (fr_110 0 (by omega)).trans hob9
                            have hMD2 : MKD ad cA g_108 (va_up x 0 (nI 0)) x2_95 pf qf L (K9.1, DD.2.1, K9.2) pt2_96 pf2_97 qf2_98 := ⟨kF.setx (fun (k : Nat) (hk : k = 1 ∨ k = 2 ∨ k = 3) => (fr_110 k (by omega)).trans (rfl)) f_111 rfl, kP.same (fun (k : Nat) (hk : 5 ≤ k ∧ k ≤ 10) => (fr_110 k (by omega)).trans (rfl)), kM, hokk.1, LE.tr sE hokk.2.1, kL, k3, fun j h3 h4 => (kx j h3 h4).trans (sx j h3 h4), fun f9 h1 h2 => ⟨(ko f9 h1 h2).1.trans (so f9 h1 h2).1, (ko f9 h1 h2).2.trans (so f9 h1 h2).2⟩, j4, Or.inr ⟨j1, j2⟩⟩
                            have hE9 : drS L (rchN L rt (rt + 1)) bn9 (rt + 1) = (K9.1, DD.2.1, K9.2) := by have h9 := drS_bad i1 hz hre (by rw [← eK9]; exact j1); rw [← eK9] at h9; exact drS_end h9 j1 (by omega)
                            refine lv_iinc (v := nI (kk + 1)) (lv' := [(7, .int (nI (kk + 1))), (0, .ref (ad 0)), (1, .int (nI vn)), (2, .int (nI bn9)), (3, .int (nI dn9)), (5, .int (nI rt)), (6, .int (nI L.length))]) hx hb dX10_derive_138 hl (k := 6) rfl (nI_add kk 1) (by decide) rfl (fun ls hl => ?_)
                            refine lv_goto (tgt := 100) hx hb dX10_derive_141 (by decide) ?_
                            exact ih_67 (kk + 1) (K9.1, DD.2.1, K9.2) (va_up dz kk (-1)) x2_95 pt2_96 pf2_97 qf2_98 g_108 (fun (k : Nat) (hk : k ≠ 0 ∧ k ≠ 1 ∧ k ≠ 2 ∧ k ≠ 3 ∧ k ≠ 5 ∧ k ≠ 6 ∧ k ≠ 7 ∧ k ≠ 8 ∧ k ≠ 9 ∧ k ≠ 10 ∧ k ≠ 13) => (fr_110 k (by omega)).trans ((fr_99 k (by omega)).trans ((fr_69 k (by omega)).trans (rfl)))) (by omega) (by omega) (fun h9 => absurd (show K9.1 = 0 from h9) (by omega)) (fun _ => hE9) f_111 f_109 hMD2 _ _ _ hP hS (lv_sub (l' := [(0, .ref (ad 0)), (1, .int (nI vn)), (2, .int (nI bn9)), (3, .int (nI dn9)), (5, .int (nI rt)), (6, .int (nI L.length)), (7, .int (nI (kk + 1)))]) hl [1, 2, 3, 4, 5, 6, 0] rfl)
                    · skip
                      refine lv_iload hx hb dX10_derive_102 (lv_at hl 4 rfl) ?_
                      refine lv_icmp_gt (tgt := 144) hx hb dX10_derive_104 (by decide) (fun c_114 => ?_) (fun c_114 => ?_)
                      · have c_114 := (nI_ltI (a := rt) (b := kk) (by omega) (by omega)).mp c_114
                        refine lv_aload_n hx hb dX10_derive_144 rfl (lv_at hl 0 rfl) ?_
                        refine m_get (D := (dC, dI)) (v := .int (iI DD.1)) (C := RX10) (T := TX10) (N := 29) hx hb hts bk0 hown hK hP 0 (by decide) f_70 rfl 14 (by decide) (hts (.fieldLink RX10 146 "GradientDeskModel" "fault" "I") (List.mem_of_getElem? (i := 8) rfl)) (fun _ h9 => h9) (congrArg (fun z => some (Value.int z)) s4) dX10_derive_145 ?_
                        refine lv_if_ge (tgt := 162) hx hb dX10_derive_148 (by decide) (fun c_115 => absurd ((k_iLE (a := 0) (b := DD.1) (show nI 0 = iI 0 from by decide) rfl (by omega) (by omega)).mp c_115) (by omega)) (fun c_115 => ?_)
                        refine lv_aload_n hx hb dX10_derive_151 rfl (lv_at hl 0 rfl) ?_
                        refine lv_iload hx hb dX10_derive_152 (lv_at hl 5 rfl) ?_
                        refine m_put (D := (dC, dI)) (v := .int (nI L.length)) (tv := .int) (C := RX10) (T := TX10) (N := 29) hx hb hts bk0 tyX10 tyX10_ok nmX10 hown hK hP hD hS 0 (by decide) f_70 rfl 13 (by decide) (hts (.fieldLink RX10 149 "GradientDeskModel" "made" "I") (List.mem_of_getElem? (i := 7) rfl)) (fun _ h9 => h9) rfl (by decide +kernel) rfl rfl (Nat.le_of_ble_eq_true rfl) dX10_derive_154 (fun H locs g_116 f_117 fr_118 hP hS => ?_)
                        have f_117 : g_116 0 = .inr (13, Rob ad (va_up xx 3 (nI L.length))) := f_117
                        refine lv_aload_n hx hb dX10_derive_157 rfl (lv_at hl 0 rfl) ?_
                        refine m_get (D := (dC, dI)) (v := .int (iI DD.1)) (C := RX10) (T := TX10) (N := 29) hx hb hts bk0 hown hK hP 0 (by decide) f_117 rfl 14 (by decide) (hts (.fieldLink RX10 146 "GradientDeskModel" "fault" "I") (List.mem_of_getElem? (i := 8) rfl)) (fun _ h9 => h9) (congrArg (fun z => some (Value.int z)) (show (va_up xx 3 (nI L.length)) 4 = (iI DD.1) from s4)) dX10_derive_158 ?_
                        have f_119 : g_116 4 = .inl (cA 4, 64, .inl (fun j => nI (tx j))) := (fr_118 4 (by omega)).trans ((fr_69 4 (by omega)).trans ((fr_65 4 (by omega)).trans ((fr_61 4 (by omega)).trans ((fr_53 4 (by omega)).trans t4))))
                        have f_120 : g_116 11 = .inl (cA 11, 8, .inl (fun j => iI (nm j))) := (fr_118 11 (by omega)).trans ((fr_69 11 (by omega)).trans ((fr_65 11 (by omega)).trans ((fr_61 11 (by omega)).trans f_55)))
                        have f_121 : g_116 12 = .inl (cA 12, 200, .inl (fun j => nI (rc2_60 j))) := (fr_118 12 (by omega)).trans ((fr_69 12 (by omega)).trans ((fr_65 12 (by omega)).trans q12))
                        have f_122 : g_116 13 = .inl (cA 13, 200, .inl (fun j => iI (dz j))) := (fr_118 13 (by omega)).trans f_71
                        have hri : RIE ad cA g_116 (va_up xx 3 (nI L.length)) L nm tx ty wr := RI.mk9 hI0 (sF.setx (fun (k : Nat) (hk : k = 1 ∨ k = 2 ∨ k = 3) => (fr_118 k (by omega)).trans (rfl)) f_117 rfl) (sP.same (fun (k : Nat) (hk : 5 ≤ k ∧ k ≤ 10) => (fr_118 k (by omega)).trans (rfl))) (sM.le sE) hW hL2 (va_up_self _ _ _) ⟨f_119, t4b, f_120, t11b, t11c⟩ ((va_up_ne _ _ (by decide)).trans (((sx 1 (by decide) (by decide)).trans (va_up_ne _ _ (by decide))).trans hty)) hty2 ((va_up_ne _ _ (by decide)).trans ((sx 8 (by decide) (by decide)).trans (va_up_ne _ _ (by decide)))) (VO.der hVO0 f_121 q12b f_122 (fun (k : Nat) (hk : 14 ≤ k ∧ k ≤ 19) => (fr_118 k (by omega)).trans ((fr_69 k (by omega)).trans ((fr_65 k (by omega)).trans ((fr_61 k (by omega)).trans ((fr_53 k (by omega)).trans (rfl))))))) (hBd.res (fun r9 h9 => Or.inl (so _ (by omega) (by omega))) (fun v9 h9 => Or.inl (so _ (by omega) (by omega)))) (fun (k : Nat) (hk : k = 16) => (fr_118 k (by omega)).trans ((fr_69 k (by omega)).trans ((fr_65 k (by omega)).trans ((fr_61 k (by omega)).trans ((fr_53 k (by omega)).trans (rfl))))))
                        have hE := hB9 hz
                        refine W.widen (k := 0) (n := 0) (by omega) (by omega) ?_
                        exact W.iret (v := iI DD.1) hx hb hr (fun t9 ht9 hW9 => ⟨⟨iI DD.1, (g_116, va_up xx 3 (nI L.length), L, nm), rfl, ⟨hri, (va_up_ne _ _ (by decide)).trans ((sx 2 (by decide) (by decide)).trans (va_up_ne _ _ (by decide))), Or.inr ⟨vn, bn9, dn9, hvn, by omega, hbn9, by omega, hdn9, by omega, Or.inr ⟨rt, hrt, (va_up_ne _ _ (by decide)).trans ((sx 0 (by decide) (by decide)).trans (va_up_self _ _ _)), Or.inl (by rw [hE]; exact ⟨hz, rfl, rfl, rfl⟩)⟩⟩⟩, by show va_P (dC, dI) vwCl _ t9.heap; rw [ht9]; exact hP⟩, hS.F ht9⟩) hS.2.2 dX10_derive_161
                      · have c_114 := mt (nI_ltI (a := rt) (b := kk) (by omega) (by omega)).mpr c_114
                        refine lv_aload_n hx hb dX10_derive_107 rfl (lv_at hl 0 rfl) ?_
                        refine m_get (D := (dC, dI)) (v := .int (iI DD.1)) (C := RX10) (T := TX10) (N := 29) hx hb hts bk0 hown hK hP 0 (by decide) f_70 rfl 14 (by decide) (hts (.fieldLink RX10 146 "GradientDeskModel" "fault" "I") (List.mem_of_getElem? (i := 8) rfl)) (fun _ h9 => h9) (congrArg (fun z => some (Value.int z)) s4) dX10_derive_108 ?_
                        refine lv_if_ne (tgt := 144) hx hb dX10_derive_111 (by decide) (fun c_123 => ?_) (fun c_123 => absurd ((k_iEQ (a := DD.1) (b := 0) rfl (show nI 0 = iI 0 from by decide) (by omega) (by omega)).mp c_123) (by omega))
                        refine lv_aload_n hx hb dX10_derive_144 rfl (lv_at hl 0 rfl) ?_
                        refine m_get (D := (dC, dI)) (v := .int (iI DD.1)) (C := RX10) (T := TX10) (N := 29) hx hb hts bk0 hown hK hP 0 (by decide) f_70 rfl 14 (by decide) (hts (.fieldLink RX10 146 "GradientDeskModel" "fault" "I") (List.mem_of_getElem? (i := 8) rfl)) (fun _ h9 => h9) (congrArg (fun z => some (Value.int z)) s4) dX10_derive_145 ?_
                        refine lv_if_ge (tgt := 162) hx hb dX10_derive_148 (by decide) (fun c_124 => absurd ((k_iLE (a := 0) (b := DD.1) (show nI 0 = iI 0 from by decide) rfl (by omega) (by omega)).mp c_124) (by omega)) (fun c_124 => ?_)
                        refine lv_aload_n hx hb dX10_derive_151 rfl (lv_at hl 0 rfl) ?_
                        refine lv_iload hx hb dX10_derive_152 (lv_at hl 5 rfl) ?_
                        refine m_put (D := (dC, dI)) (v := .int (nI L.length)) (tv := .int) (C := RX10) (T := TX10) (N := 29) hx hb hts bk0 tyX10 tyX10_ok nmX10 hown hK hP hD hS 0 (by decide) f_70 rfl 13 (by decide) (hts (.fieldLink RX10 149 "GradientDeskModel" "made" "I") (List.mem_of_getElem? (i := 7) rfl)) (fun _ h9 => h9) rfl (by decide +kernel) rfl rfl (Nat.le_of_ble_eq_true rfl) dX10_derive_154 (fun H locs g_125 f_126 fr_127 hP hS => ?_)
                        have f_126 : g_125 0 = .inr (13, Rob ad (va_up xx 3 (nI L.length))) := f_126
                        refine lv_aload_n hx hb dX10_derive_157 rfl (lv_at hl 0 rfl) ?_
                        refine m_get (D := (dC, dI)) (v := .int (iI DD.1)) (C := RX10) (T := TX10) (N := 29) hx hb hts bk0 hown hK hP 0 (by decide) f_126 rfl 14 (by decide) (hts (.fieldLink RX10 146 "GradientDeskModel" "fault" "I") (List.mem_of_getElem? (i := 8) rfl)) (fun _ h9 => h9) (congrArg (fun z => some (Value.int z)) (show (va_up xx 3 (nI L.length)) 4 = (iI DD.1) from s4)) dX10_derive_158 ?_
                        have f_128 : g_125 4 = .inl (cA 4, 64, .inl (fun j => nI (tx j))) := (fr_127 4 (by omega)).trans ((fr_69 4 (by omega)).trans ((fr_65 4 (by omega)).trans ((fr_61 4 (by omega)).trans ((fr_53 4 (by omega)).trans t4))))
                        have f_129 : g_125 11 = .inl (cA 11, 8, .inl (fun j => iI (nm j))) := (fr_127 11 (by omega)).trans ((fr_69 11 (by omega)).trans ((fr_65 11 (by omega)).trans ((fr_61 11 (by omega)).trans f_55)))
                        have f_130 : g_125 12 = .inl (cA 12, 200, .inl (fun j => nI (rc2_60 j))) := (fr_127 12 (by omega)).trans ((fr_69 12 (by omega)).trans ((fr_65 12 (by omega)).trans q12))
                        have f_131 : g_125 13 = .inl (cA 13, 200, .inl (fun j => iI (dz j))) := (fr_127 13 (by omega)).trans f_71
                        have hri : RIE ad cA g_125 (va_up xx 3 (nI L.length)) L nm tx ty wr := RI.mk9 hI0 (sF.setx (fun (k : Nat) (hk : k = 1 ∨ k = 2 ∨ k = 3) => (fr_127 k (by omega)).trans (rfl)) f_126 rfl) (sP.same (fun (k : Nat) (hk : 5 ≤ k ∧ k ≤ 10) => (fr_127 k (by omega)).trans (rfl))) (sM.le sE) hW hL2 (va_up_self _ _ _) ⟨f_128, t4b, f_129, t11b, t11c⟩ ((va_up_ne _ _ (by decide)).trans (((sx 1 (by decide) (by decide)).trans (va_up_ne _ _ (by decide))).trans hty)) hty2 ((va_up_ne _ _ (by decide)).trans ((sx 8 (by decide) (by decide)).trans (va_up_ne _ _ (by decide)))) (VO.der hVO0 f_130 q12b f_131 (fun (k : Nat) (hk : 14 ≤ k ∧ k ≤ 19) => (fr_127 k (by omega)).trans ((fr_69 k (by omega)).trans ((fr_65 k (by omega)).trans ((fr_61 k (by omega)).trans ((fr_53 k (by omega)).trans (rfl))))))) (hBd.res (fun r9 h9 => Or.inl (so _ (by omega) (by omega))) (fun v9 h9 => Or.inl (so _ (by omega) (by omega)))) (fun (k : Nat) (hk : k = 16) => (fr_127 k (by omega)).trans ((fr_69 k (by omega)).trans ((fr_65 k (by omega)).trans ((fr_61 k (by omega)).trans ((fr_53 k (by omega)).trans (rfl))))))
                        have hE := hB9 hz
                        refine W.widen (k := 0) (n := 0) (by omega) (by omega) ?_
                        exact W.iret (v := iI DD.1) hx hb hr (fun t9 ht9 hW9 => ⟨⟨iI DD.1, (g_125, va_up xx 3 (nI L.length), L, nm), rfl, ⟨hri, (va_up_ne _ _ (by decide)).trans ((sx 2 (by decide) (by decide)).trans (va_up_ne _ _ (by decide))), Or.inr ⟨vn, bn9, dn9, hvn, by omega, hbn9, by omega, hdn9, by omega, Or.inr ⟨rt, hrt, (va_up_ne _ _ (by decide)).trans ((sx 0 (by decide) (by decide)).trans (va_up_self _ _ _)), Or.inl (by rw [hE]; exact ⟨hz, rfl, rfl, rfl⟩)⟩⟩⟩, by show va_P (dC, dI) vwCl _ t9.heap; rw [ht9]; exact hP⟩, hS.F ht9⟩) hS.2.2 dX10_derive_161
                have f_132 : g_63 13 = .inl (cA 13, 200, .inl (fun j => iI (f13 j))) := (fr_65 13 (by omega)).trans ((fr_61 13 (by omega)).trans ((fr_53 13 (by omega)).trans v13))
                exact loop_66 _ 0 (0, fun _ => 0, L) f13 (va_up (va_up x 0 (nI 0)) 4 (nI 0)) pt pf qf g_63 (fun (k : Nat) (hk : k ≠ 0 ∧ k ≠ 1 ∧ k ≠ 2 ∧ k ≠ 3 ∧ k ≠ 5 ∧ k ≠ 6 ∧ k ≠ 7 ∧ k ≠ 8 ∧ k ≠ 9 ∧ k ≠ 10 ∧ k ≠ 13) => rfl) (Nat.lt_succ_self _) (by omega) (fun _ => ⟨rfl, fun j hj => absurd hj (by omega)⟩) (fun h9 => absurd (show (0 : Int) < 0 from h9) (by decide)) f_64 f_132 (⟨hF0.setx (fun (k : Nat) (hk : k = 1 ∨ k = 2 ∨ k = 3) => (fr_65 k (by omega)).trans ((fr_61 k (by omega)).trans ((fr_53 k (by omega)).trans (rfl)))) f_64 rfl, hPt0.same (fun (k : Nat) (hk : 5 ≤ k ∧ k ≤ 10) => (fr_65 k (by omega)).trans ((fr_61 k (by omega)).trans ((fr_53 k (by omega)).trans (rfl)))), hM, hW, LE.rf, hL2, (va_up_ne _ _ (by decide)).trans ((va_up_ne _ _ (by decide)).trans hmd), fun j h3 h4 => va_up_ne _ _ h4, fun _ _ _ => ⟨rfl, rfl⟩, (va_up_self _ _ _).trans (show nI 0 = iI 0 by decide), Or.inl rfl⟩) _ _ _ hP hS (lv_sub (l' := [(0, .ref (ad 0)), (1, .int (nI vn)), (2, .int (nI bn9)), (3, .int (nI dn9)), (5, .int (nI rt)), (6, .int (nI L.length)), (7, .int (nI 0))]) hl [4, 5, 6, 7, 2, 1, 0] rfl)
              · have c_50 := mt (k_iLE (a := 0) (b := nm vn) (show nI 0 = iI 0 from by decide) rfl (by omega) (by omega)).mpr c_50
                refine lv_iconst (v := nI 2) hx hb dX10_derive_55 (by decide +kernel) ?_
                refine lv_goto (tgt := 60) hx hb dX10_derive_56 (by decide) ?_
                refine m_put (D := (dC, dI)) (v := .int (nI 2)) (tv := .int) (C := RX10) (T := TX10) (N := 29) hx hb hts bk0 tyX10 tyX10_ok nmX10 hown hK hP hD hS 0 (by decide) r_3 rfl 0 (by decide) (hts (.fieldLink RX10 78 "GradientDeskModel" "thrown" "I") (List.mem_of_getElem? (i := 1) rfl)) (fun _ h9 => h9) rfl (by decide +kernel) rfl rfl (Nat.le_of_ble_eq_true rfl) dX10_derive_60 (fun H locs g_133 f_134 fr_135 hP hS => ?_)
                have f_134 : g_133 0 = .inr (13, Rob ad (va_up x 0 (nI 2))) := f_134
                refine lv_aload_n hx hb dX10_derive_63 rfl (lv_at hl 1 rfl) ?_
                refine m_get (D := (dC, dI)) (v := .int (nI 2)) (C := RX10) (T := TX10) (N := 29) hx hb hts bk0 hown hK hP 0 (by decide) f_134 rfl 0 (by decide) (hts (.fieldLink RX10 78 "GradientDeskModel" "thrown" "I") (List.mem_of_getElem? (i := 1) rfl)) (fun _ h9 => h9) (congrArg (fun z => some (Value.int z)) (show (va_up x 0 (nI 2)) 0 = (nI 2) from rfl)) dX10_derive_64 ?_
                refine lv_if_le (tgt := 72) hx hb dX10_derive_67 (by decide) (fun c_136 => absurd c_136 (by decide)) (fun c_136 => ?_)
                refine lv_iconst (v := nI 0) hx hb dX10_derive_70 (by decide +kernel) ?_
                refine W.widen (k := 0) (n := 0) (by omega) (by omega) ?_
                exact W.iret (v := nI 0) hx hb hr (fun t9 ht9 hW9 => ⟨⟨nI 0, (g_133, va_up x 0 (nI 2), L, nm), rfl, ⟨RI.num hI0 (hF0.setx (fun (k : Nat) (hk : k = 1 ∨ k = 2 ∨ k = 3) => (fr_135 k (by omega)).trans (rfl)) f_134 rfl) (fun (k : Nat) (hk : (4 ≤ k ∧ k ≤ 11) ∨ k = 16) => (fr_135 k (by omega)).trans (rfl)) (hVO0.same (fun (k : Nat) (hk : 12 ≤ k ∧ k ≤ 19) => (fr_135 k (by omega)).trans (rfl))) (va_up_ne _ _ (by decide)) (va_up_ne _ _ (by decide)) (va_up_ne _ _ (by decide)) (fun _ _ => ⟨rfl, rfl⟩) hBd, (va_up_ne _ _ (by decide)), Or.inr ⟨vn, bn9, dn9, hvn, by omega, hbn9, by omega, hdn9, by omega, Or.inl ⟨by omega, va_up_self _ _ _, rfl, rfl, rfl⟩⟩⟩, by show va_P (dC, dI) vwCl _ t9.heap; rw [ht9]; exact hP⟩, hS.F ht9⟩) hS.2.2 dX10_derive_71
            · have c_47 := mt (k_le w1 (nI 2)).mpr c_47
              rw [show (nI 2).toInt = 2 from by decide] at c_47
              refine lv_iconst (v := nI 1) hx hb dX10_derive_29 (by decide +kernel) ?_
              refine lv_goto (tgt := 34) hx hb dX10_derive_30 (by decide) ?_
              refine lv_istore (lv' := [(4, .int (nI 1)), (0, .ref (ad 0)), (1, .int v), (2, .int w1), (3, .int w2)]) hx hb dX10_derive_34 hl (by decide) rfl (fun ls hl => ?_)
              refine lv_aload_n hx hb dX10_derive_36 rfl (lv_at hl 1 rfl) ?_
              refine lv_iload hx hb dX10_derive_37 (lv_at hl 0 rfl) ?_
              refine lv_if_eq (tgt := 46) hx hb dX10_derive_39 (by decide) (fun c_137 => absurd c_137 (by decide)) (fun c_137 => ?_)
              refine lv_iconst (v := nI 1) hx hb dX10_derive_42 (by decide +kernel) ?_
              refine lv_goto (tgt := 60) hx hb dX10_derive_43 (by decide) ?_
              refine m_put (D := (dC, dI)) (v := .int (nI 1)) (tv := .int) (C := RX10) (T := TX10) (N := 29) hx hb hts bk0 tyX10 tyX10_ok nmX10 hown hK hP hD hS 0 (by decide) r_3 rfl 0 (by decide) (hts (.fieldLink RX10 78 "GradientDeskModel" "thrown" "I") (List.mem_of_getElem? (i := 1) rfl)) (fun _ h9 => h9) rfl (by decide +kernel) rfl rfl (Nat.le_of_ble_eq_true rfl) dX10_derive_60 (fun H locs g_138 f_139 fr_140 hP hS => ?_)
              have f_139 : g_138 0 = .inr (13, Rob ad (va_up x 0 (nI 1))) := f_139
              refine lv_aload_n hx hb dX10_derive_63 rfl (lv_at hl 1 rfl) ?_
              refine m_get (D := (dC, dI)) (v := .int (nI 1)) (C := RX10) (T := TX10) (N := 29) hx hb hts bk0 hown hK hP 0 (by decide) f_139 rfl 0 (by decide) (hts (.fieldLink RX10 78 "GradientDeskModel" "thrown" "I") (List.mem_of_getElem? (i := 1) rfl)) (fun _ h9 => h9) (congrArg (fun z => some (Value.int z)) (show (va_up x 0 (nI 1)) 0 = (nI 1) from rfl)) dX10_derive_64 ?_
              refine lv_if_le (tgt := 72) hx hb dX10_derive_67 (by decide) (fun c_141 => absurd c_141 (by decide)) (fun c_141 => ?_)
              refine lv_iconst (v := nI 0) hx hb dX10_derive_70 (by decide +kernel) ?_
              refine W.widen (k := 0) (n := 0) (by omega) (by omega) ?_
              exact W.iret (v := nI 0) hx hb hr (fun t9 ht9 hW9 => ⟨⟨nI 0, (g_138, va_up x 0 (nI 1), L, nm), rfl, ⟨RI.num hI0 (hF0.setx (fun (k : Nat) (hk : k = 1 ∨ k = 2 ∨ k = 3) => (fr_140 k (by omega)).trans (rfl)) f_139 rfl) (fun (k : Nat) (hk : (4 ≤ k ∧ k ≤ 11) ∨ k = 16) => (fr_140 k (by omega)).trans (rfl)) (hVO0.same (fun (k : Nat) (hk : 12 ≤ k ∧ k ≤ 19) => (fr_140 k (by omega)).trans (rfl))) (va_up_ne _ _ (by decide)) (va_up_ne _ _ (by decide)) (va_up_ne _ _ (by decide)) (fun _ _ => ⟨rfl, rfl⟩) hBd, (va_up_ne _ _ (by decide)), Or.inl ⟨by omega, va_up_self _ _ _, rfl, rfl, rfl⟩⟩, by show va_P (dC, dI) vwCl _ t9.heap; rw [ht9]; exact hP⟩, hS.F ht9⟩) hS.2.2 dX10_derive_71
