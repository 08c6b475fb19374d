def wd_X10_along : List Cond := .code yX10_along cX10_along 8 none :: (([.fieldLink RX10 78 "GradientDeskModel" "thrown" "I", .fieldLink RX10 47 "GradientDeskModel" "names" "[I", .methodLink RX10 275 yX10_reckonAll, .instanceMethod yX10_reckonAll, .selects RX10 yX10_reckonAll yX10_reckonAll, .initialized RX10, .methodLink RX10 136 yX10_copyFraction, .instanceMethod yX10_copyFraction, .selects RX10 yX10_copyFraction yX10_copyFraction, .methodLink RX10 139 yX10_setFraction, .instanceMethod yX10_setFraction, .selects RX10 yX10_setFraction yX10_setFraction, .methodLink RX10 269 yX10_derivativeCell, .static yX10_derivativeCell, .methodLink RX10 143 yX10_timesFractions, .instanceMethod yX10_timesFractions, .selects RX10 yX10_timesFractions yX10_timesFractions, .methodLink RX10 171 yX10_addFractions, .instanceMethod yX10_addFractions, .selects RX10 yX10_addFractions yX10_addFractions] : List Cond) ++ (u_ws RX10 TX10 29 ++ (wd_X10_reckonAll ++ (wd_X10_copyFraction ++ (wd_X10_setFraction ++ (wd_X10_derivativeCell ++ (wd_X10_timesFractions ++ (wd_X10_addFractions ++ ([])))))))))
theorem gw_X10_along : wd_X10_along.all goodWord = true := k_allc rfl (k_all (by decide +kernel) (k_all (gu_X10) (k_all (gw_X10_reckonAll) (k_all (gw_X10_copyFraction) (k_all (gw_X10_setFraction) (k_all (gw_X10_derivativeCell) (k_all (gw_X10_timesFractions) (k_all (gw_X10_addFractions) (rfl)))))))))
set_option maxHeartbeats 4000000 in
set_option maxRecDepth 100000 in
theorem c_X10_along (l : Launch) (dC : Nat → ClassId) (dI : Nat → Nat → Nat) (A : Nat → Prop) (ad : Nat → Nat) (cA : Nat → ClassId) (g : Nat → va_E) (x : Nat → Int32) (L : List PD) (nm : Nat → Int) (tx : Nat → Nat) (ty : Nat) (wr : List Int) (v : Int32) (w1 : Int32) (w2 : Int32) (w3 : Int32) (hI : RIE ad cA g x L nm tx ty wr) : Met l yX10_along wd_X10_along ({ frames := 110, cells := 0, slots := 0, locals := 2200 }) (va_Pc [.ref (ad 0), .int v, .int w1, .int w2, .int w3] (PR NSr tyr dC dI A ad cA g)) (va_Qv (fun (u : (Nat → va_E) × (Nat → Int32)) => match u with | (g2, x2) => RIE ad cA g2 x2 L nm tx ty wr ∧ x2 2 = x 2 ∧ ((¬ (0 ≤ v.toInt ∧ v.toInt ≤ 7 ∧ -999 ≤ w1.toInt ∧ w1.toInt ≤ 999 ∧ -999 ≤ w2.toInt ∧ w2.toInt ≤ 999 ∧ -999 ≤ w3.toInt ∧ w3.toInt ≤ 999) ∧ x2 0 = nI 1) ∨ ((0 ≤ v.toInt ∧ v.toInt ≤ 7 ∧ -999 ≤ w1.toInt ∧ w1.toInt ≤ 999 ∧ -999 ≤ w2.toInt ∧ w2.toInt ≤ 999 ∧ -999 ≤ w3.toInt ∧ w3.toInt ≤ 999) ∧ ∃ vn, v = nI vn ∧ vn ≤ 7 ∧ ((nm vn < 0 ∧ x2 0 = nI 2) ∨ (0 ≤ nm vn ∧ x2 0 = nI 0))))) (fun (u : (Nat → va_E) × (Nat → Int32)) (t : State) => va_P (dC, dI) vwCl (wo ad NSr u.1) t.heap) A) (0) (0) A := by
  refine Met.ofW (cc := cX10_along) (maxL := 8) (ret := none) (by decide) rfl ?_
  intro p e s m args below meth c s₁ B hml hv
  obtain ⟨rfl, hA, hP, hL⟩ := hv
  have hx := B.exec
  have hb := B.bytes
  have hr := B.returns
  have hts := atoms_spec (ws := wd_X10_along) B.pre
  have hown : s.vm.findClass RX10 = some m.cls := findClass_of_methodNamed B.named
  have hlocks := B.notSynchronized
  have hK := hL.1
  have hD : ∀ g, va_D A (wo ad NSr g) := fun g => wo_D hL.2.1 hL.2.2 g
  have hS : va_S A s.heap s.heap [] := va_S.rf
  have bk0 : ∀ w ∈ u_ws RX10 TX10 29, w ∈ wd_X10_along := fun _ h => List.mem_cons_of_mem _ (List.mem_append_right _ (List.mem_append_left _ h))
  have bk1 : ∀ w ∈ wd_X10_reckonAll, w ∈ wd_X10_along := fun _ h => List.mem_cons_of_mem _ (List.mem_append_right _ (List.mem_append_right _ (List.mem_append_left _ h)))
  have bk2 : ∀ w ∈ wd_X10_copyFraction, w ∈ wd_X10_along := fun _ h => List.mem_cons_of_mem _ (List.mem_append_right _ (List.mem_append_right _ (List.mem_append_right _ (List.mem_append_left _ h))))
  have bk3 : ∀ w ∈ wd_X10_setFraction, w ∈ wd_X10_along := fun _ h => List.mem_cons_of_mem _ (List.mem_append_right _ (List.mem_append_right _ (List.mem_append_right _ (List.mem_append_right _ (List.mem_append_left _ h)))))
  have bk4 : ∀ w ∈ wd_X10_derivativeCell, w ∈ wd_X10_along := fun _ h => List.mem_cons_of_mem _ (List.mem_append_right _ (List.mem_append_right _ (List.mem_append_right _ (List.mem_append_right _ (List.mem_append_right _ (List.mem_append_left _ h))))))
  have bk5 : ∀ w ∈ wd_X10_timesFractions, w ∈ wd_X10_along := fun _ h => List.mem_cons_of_mem _ (List.mem_append_right _ (List.mem_append_right _ (List.mem_append_right _ (List.mem_append_right _ (List.mem_append_right _ (List.mem_append_right _ (List.mem_append_left _ h)))))))
  have bk6 : ∀ w ∈ wd_X10_addFractions, w ∈ wd_X10_along := fun _ h => List.mem_cons_of_mem _ (List.mem_append_right _ (List.mem_append_right _ (List.mem_append_right _ (List.mem_append_right _ (List.mem_append_right _ (List.mem_append_right _ (List.mem_append_right _ (List.mem_append_left _ h))))))))
  have hl := lv_entry ([.ref (ad 0), .int v, .int w1, .int w2, .int w3]) (n := 8) (Nat.le_of_ble_eq_true rfl)
  rw [lg_entry_eq]
  generalize (lg_sl ([.ref (ad 0), .int v, .int w1, .int w2, .int w3]) ++ List.replicate (8 - (lg_sl ([.ref (ad 0), .int v, .int w1, .int w2, .int w3])).length) Slot.unset).toArray = ls at hl ⊢
  have hl : lv_has ls 8 [(0, .ref (ad 0)), (1, .int v), (2, .int w1), (3, .int w2), (4, .int w3)] := hl
  obtain ⟨pf, qf, pt, hI0⟩ := hI
  have hI1 := hI0
  obtain ⟨hF, hPt, hM, hW, hL2, hmd, hTx, hty, hty2, hwr, hwr2, hVO, hBd⟩ := hI1
  have hVO0 := hVO
  have hPt0 := hPt
  have hTx0 := hTx
  have hF0 := hF
  obtain ⟨vf, hV, hq⟩ := hF
  have hc_1 := hV
  obtain ⟨pnz_2, lnz_2, bnz_2, hRz_2, hvz_2⟩ := hc_1
  obtain ⟨r_3, r_4, r_5, r_6, r_7, r_8, r_9⟩ := hRz_2
  obtain ⟨p_10, p_11, p_12, p_13, p_14, p_15, hpt_16⟩ := hPt
  obtain ⟨t4, t4b, t11, t11b, t11c⟩ := hTx
  obtain ⟨⟨rc, v12, v12b⟩, ⟨f13, v13⟩, ⟨f14, v14⟩, ⟨f15, v15⟩, ⟨f16, v16⟩, ⟨f17, v17⟩, ⟨f18, v18⟩, ⟨f19, v19⟩⟩ := hVO
  refine lv_iload_n hx hb dX10_along_0 rfl (lv_at hl 1 rfl) ?_
  refine lv_if_lt (tgt := 54) hx hb dX10_along_1 (by decide) (fun c_17 => ?_) (fun c_17 => ?_)
  · have c_17 := (k_lt v (nI 0)).mp c_17
    rw [show (nI 0).toInt = 0 from by decide] at c_17
    refine lv_iconst (v := nI 1) hx hb dX10_along_54 (by decide +kernel) ?_
    refine lv_goto (tgt := 59) hx hb dX10_along_55 (by decide) ?_
    refine lv_istore (lv' := [(5, .int (nI 1)), (0, .ref (ad 0)), (1, .int v), (2, .int w1), (3, .int w2), (4, .int w3)]) hx hb dX10_along_59 hl (by decide) rfl (fun ls hl => ?_)
    refine lv_aload_n hx hb dX10_along_61 rfl (lv_at hl 1 rfl) ?_
    refine lv_iload hx hb dX10_along_62 (lv_at hl 0 rfl) ?_
    refine lv_if_eq (tgt := 71) hx hb dX10_along_64 (by decide) (fun c_18 => absurd c_18 (by decide)) (fun c_18 => ?_)
    refine lv_iconst (v := nI 1) hx hb dX10_along_67 (by decide +kernel) ?_
    refine lv_goto (tgt := 85) hx hb dX10_along_68 (by decide) ?_
    refine m_put (D := (dC, dI)) (v := .int (nI 1)) (tv := .int) (C := RX10) (T := TX10) (N := 29) hx hb hts bk0 tyX10 tyX10_ok nmX10 hown hK hP hD hS 0 (by decide) r_3 rfl 0 (by decide) (hts (.fieldLink RX10 78 "GradientDeskModel" "thrown" "I") (List.mem_of_getElem? (i := 1) rfl)) (fun _ h9 => h9) rfl (by decide +kernel) rfl rfl (Nat.le_of_ble_eq_true rfl) dX10_along_85 (fun H locs g_19 f_20 fr_21 hP hS => ?_)
    have f_20 : g_19 0 = .inr (13, Rob ad (va_up x 0 (nI 1))) := f_20
    refine lv_aload_n hx hb dX10_along_88 rfl (lv_at hl 1 rfl) ?_
    refine m_get (D := (dC, dI)) (v := .int (nI 1)) (C := RX10) (T := TX10) (N := 29) hx hb hts bk0 hown hK hP 0 (by decide) f_20 rfl 0 (by decide) (hts (.fieldLink RX10 78 "GradientDeskModel" "thrown" "I") (List.mem_of_getElem? (i := 1) rfl)) (fun _ h9 => h9) (congrArg (fun z => some (Value.int z)) (show (va_up x 0 (nI 1)) 0 = (nI 1) from rfl)) dX10_along_89 ?_
    refine lv_if_le (tgt := 96) hx hb dX10_along_92 (by decide) (fun c_22 => absurd c_22 (by decide)) (fun c_22 => ?_)
    refine W.widen (k := 0) (n := 0) (by omega) (by omega) ?_
    exact W.vret hx hb hr (fun t9 ht9 hW9 => ⟨⟨(g_19, va_up x 0 (nI 1)), rfl, ⟨RI.num hI0 (hF0.setx (fun (k : Nat) (hk : k = 1 ∨ k = 2 ∨ k = 3) => (fr_21 k (by omega)).trans (rfl)) f_20 rfl) (fun (k : Nat) (hk : (4 ≤ k ∧ k ≤ 11) ∨ k = 16) => (fr_21 k (by omega)).trans (rfl)) (hVO0.same (fun (k : Nat) (hk : 12 ≤ k ∧ k ≤ 19) => (fr_21 k (by omega)).trans (rfl))) (va_up_ne _ _ (by decide)) (va_up_ne _ _ (by decide)) (va_up_ne _ _ (by decide)) (fun _ _ => ⟨rfl, rfl⟩) hBd, (va_up_ne _ _ (by decide)), Or.inl ⟨by omega, va_up_self _ _ _⟩⟩, by show va_P (dC, dI) vwCl _ t9.heap; rw [ht9]; exact hP⟩, hS.F ht9⟩) hS.2.2 dX10_along_95
  · have c_17 := mt (k_lt v (nI 0)).mpr c_17
    rw [show (nI 0).toInt = 0 from by decide] at c_17
    refine lv_iload_n hx hb dX10_along_4 rfl (lv_at hl 1 rfl) ?_
    refine lv_bipush (v := nI 7) hx hb dX10_along_5 (by decide +kernel) ?_
    refine lv_icmp_gt (tgt := 54) hx hb dX10_along_7 (by decide) (fun c_23 => ?_) (fun c_23 => ?_)
    · have c_23 := (k_lt (nI 7) v).mp c_23
      rw [show (nI 7).toInt = 7 from by decide] at c_23
      refine lv_iconst (v := nI 1) hx hb dX10_along_54 (by decide +kernel) ?_
      refine lv_goto (tgt := 59) hx hb dX10_along_55 (by decide) ?_
      refine lv_istore (lv' := [(5, .int (nI 1)), (0, .ref (ad 0)), (1, .int v), (2, .int w1), (3, .int w2), (4, .int w3)]) hx hb dX10_along_59 hl (by decide) rfl (fun ls hl => ?_)
      refine lv_aload_n hx hb dX10_along_61 rfl (lv_at hl 1 rfl) ?_
      refine lv_iload hx hb dX10_along_62 (lv_at hl 0 rfl) ?_
      refine lv_if_eq (tgt := 71) hx hb dX10_along_64 (by decide) (fun c_24 => absurd c_24 (by decide)) (fun c_24 => ?_)
      refine lv_iconst (v := nI 1) hx hb dX10_along_67 (by decide +kernel) ?_
      refine lv_goto (tgt := 85) hx hb dX10_along_68 (by decide) ?_
      refine m_put (D := (dC, dI)) (v := .int (nI 1)) (tv := .int) (C := RX10) (T := TX10) (N := 29) hx hb hts bk0 tyX10 tyX10_ok nmX10 hown hK hP hD hS 0 (by decide) r_3 rfl 0 (by decide) (hts (.fieldLink RX10 78 "GradientDeskModel" "thrown" "I") (List.mem_of_getElem? (i := 1) rfl)) (fun _ h9 => h9) rfl (by decide +kernel) rfl rfl (Nat.le_of_ble_eq_true rfl) dX10_along_85 (fun H locs g_25 f_26 fr_27 hP hS => ?_)
      have f_26 : g_25 0 = .inr (13, Rob ad (va_up x 0 (nI 1))) := f_26
      refine lv_aload_n hx hb dX10_along_88 rfl (lv_at hl 1 rfl) ?_
      refine m_get (D := (dC, dI)) (v := .int (nI 1)) (C := RX10) (T := TX10) (N := 29) hx hb hts bk0 hown hK hP 0 (by decide) f_26 rfl 0 (by decide) (hts (.fieldLink RX10 78 "GradientDeskModel" "thrown" "I") (List.mem_of_getElem? (i := 1) rfl)) (fun _ h9 => h9) (congrArg (fun z => some (Value.int z)) (show (va_up x 0 (nI 1)) 0 = (nI 1) from rfl)) dX10_along_89 ?_
      refine lv_if_le (tgt := 96) hx hb dX10_along_92 (by decide) (fun c_28 => absurd c_28 (by decide)) (fun c_28 => ?_)
      refine W.widen (k := 0) (n := 0) (by omega) (by omega) ?_
      exact W.vret hx hb hr (fun t9 ht9 hW9 => ⟨⟨(g_25, va_up x 0 (nI 1)), rfl, ⟨RI.num hI0 (hF0.setx (fun (k : Nat) (hk : k = 1 ∨ k = 2 ∨ k = 3) => (fr_27 k (by omega)).trans (rfl)) f_26 rfl) (fun (k : Nat) (hk : (4 ≤ k ∧ k ≤ 11) ∨ k = 16) => (fr_27 k (by omega)).trans (rfl)) (hVO0.same (fun (k : Nat) (hk : 12 ≤ k ∧ k ≤ 19) => (fr_27 k (by omega)).trans (rfl))) (va_up_ne _ _ (by decide)) (va_up_ne _ _ (by decide)) (va_up_ne _ _ (by decide)) (fun _ _ => ⟨rfl, rfl⟩) hBd, (va_up_ne _ _ (by decide)), Or.inl ⟨by omega, va_up_self _ _ _⟩⟩, by show va_P (dC, dI) vwCl _ t9.heap; rw [ht9]; exact hP⟩, hS.F ht9⟩) hS.2.2 dX10_along_95
    · have c_23 := mt (k_lt (nI 7) v).mpr c_23
      rw [show (nI 7).toInt = 7 from by decide] at c_23
      refine lv_iload_n hx hb dX10_along_10 rfl (lv_at hl 2 rfl) ?_
      refine lv_sipush (v := -999) hx hb dX10_along_11 (by decide +kernel) ?_
      refine lv_icmp_lt (tgt := 54) hx hb dX10_along_14 (by decide) (fun c_29 => ?_) (fun c_29 => ?_)
      · have c_29 := (k_lt w1 (-999)).mp c_29
        rw [show ((-999 : Int32)).toInt = -999 from by decide] at c_29
        refine lv_iconst (v := nI 1) hx hb dX10_along_54 (by decide +kernel) ?_
        refine lv_goto (tgt := 59) hx hb dX10_along_55 (by decide) ?_
        refine lv_istore (lv' := [(5, .int (nI 1)), (0, .ref (ad 0)), (1, .int v), (2, .int w1), (3, .int w2), (4, .int w3)]) hx hb dX10_along_59 hl (by decide) rfl (fun ls hl => ?_)
        refine lv_aload_n hx hb dX10_along_61 rfl (lv_at hl 1 rfl) ?_
        refine lv_iload hx hb dX10_along_62 (lv_at hl 0 rfl) ?_
        refine lv_if_eq (tgt := 71) hx hb dX10_along_64 (by decide) (fun c_30 => absurd c_30 (by decide)) (fun c_30 => ?_)
        refine lv_iconst (v := nI 1) hx hb dX10_along_67 (by decide +kernel) ?_
        refine lv_goto (tgt := 85) hx hb dX10_along_68 (by decide) ?_
        refine m_put (D := (dC, dI)) (v := .int (nI 1)) (tv := .int) (C := RX10) (T := TX10) (N := 29) hx hb hts bk0 tyX10 tyX10_ok nmX10 hown hK hP hD hS 0 (by decide) r_3 rfl 0 (by decide) (hts (.fieldLink RX10 78 "GradientDeskModel" "thrown" "I") (List.mem_of_getElem? (i := 1) rfl)) (fun _ h9 => h9) rfl (by decide +kernel) rfl rfl (Nat.le_of_ble_eq_true rfl) dX10_along_85 (fun H locs g_31 f_32 fr_33 hP hS => ?_)
        have f_32 : g_31 0 = .inr (13, Rob ad (va_up x 0 (nI 1))) := f_32
        refine lv_aload_n hx hb dX10_along_88 rfl (lv_at hl 1 rfl) ?_
        refine m_get (D := (dC, dI)) (v := .int (nI 1)) (C := RX10) (T := TX10) (N := 29) hx hb hts bk0 hown hK hP 0 (by decide) f_32 rfl 0 (by decide) (hts (.fieldLink RX10 78 "GradientDeskModel" "thrown" "I") (List.mem_of_getElem? (i := 1) rfl)) (fun _ h9 => h9) (congrArg (fun z => some (Value.int z)) (show (va_up x 0 (nI 1)) 0 = (nI 1) from rfl)) dX10_along_89 ?_
        refine lv_if_le (tgt := 96) hx hb dX10_along_92 (by decide) (fun c_34 => absurd c_34 (by decide)) (fun c_34 => ?_)
        refine W.widen (k := 0) (n := 0) (by omega) (by omega) ?_
        exact W.vret hx hb hr (fun t9 ht9 hW9 => ⟨⟨(g_31, va_up x 0 (nI 1)), rfl, ⟨RI.num hI0 (hF0.setx (fun (k : Nat) (hk : k = 1 ∨ k = 2 ∨ k = 3) => (fr_33 k (by omega)).trans (rfl)) f_32 rfl) (fun (k : Nat) (hk : (4 ≤ k ∧ k ≤ 11) ∨ k = 16) => (fr_33 k (by omega)).trans (rfl)) (hVO0.same (fun (k : Nat) (hk : 12 ≤ k ∧ k ≤ 19) => (fr_33 k (by omega)).trans (rfl))) (va_up_ne _ _ (by decide)) (va_up_ne _ _ (by decide)) (va_up_ne _ _ (by decide)) (fun _ _ => ⟨rfl, rfl⟩) hBd, (va_up_ne _ _ (by decide)), Or.inl ⟨by omega, va_up_self _ _ _⟩⟩, by show va_P (dC, dI) vwCl _ t9.heap; rw [ht9]; exact hP⟩, hS.F ht9⟩) hS.2.2 dX10_along_95
      · have c_29 := mt (k_lt w1 (-999)).mpr c_29
        rw [show ((-999 : Int32)).toInt = -999 from by decide] at c_29
        refine lv_iload_n hx hb dX10_along_17 rfl (lv_at hl 2 rfl) ?_
        refine lv_sipush (v := nI 999) hx hb dX10_along_18 (by decide +kernel) ?_
        refine lv_icmp_gt (tgt := 54) hx hb dX10_along_21 (by decide) (fun c_35 => ?_) (fun c_35 => ?_)
        · have c_35 := (k_lt (nI 999) w1).mp c_35
          rw [show (nI 999).toInt = 999 from by decide] at c_35
          refine lv_iconst (v := nI 1) hx hb dX10_along_54 (by decide +kernel) ?_
          refine lv_goto (tgt := 59) hx hb dX10_along_55 (by decide) ?_
          refine lv_istore (lv' := [(5, .int (nI 1)), (0, .ref (ad 0)), (1, .int v), (2, .int w1), (3, .int w2), (4, .int w3)]) hx hb dX10_along_59 hl (by decide) rfl (fun ls hl => ?_)
          refine lv_aload_n hx hb dX10_along_61 rfl (lv_at hl 1 rfl) ?_
          refine lv_iload hx hb dX10_along_62 (lv_at hl 0 rfl) ?_
          refine lv_if_eq (tgt := 71) hx hb dX10_along_64 (by decide) (fun c_36 => absurd c_36 (by decide)) (fun c_36 => ?_)
          refine lv_iconst (v := nI 1) hx hb dX10_along_67 (by decide +kernel) ?_
          refine lv_goto (tgt := 85) hx hb dX10_along_68 (by decide) ?_
          refine m_put (D := (dC, dI)) (v := .int (nI 1)) (tv := .int) (C := RX10) (T := TX10) (N := 29) hx hb hts bk0 tyX10 tyX10_ok nmX10 hown hK hP hD hS 0 (by decide) r_3 rfl 0 (by decide) (hts (.fieldLink RX10 78 "GradientDeskModel" "thrown" "I") (List.mem_of_getElem? (i := 1) rfl)) (fun _ h9 => h9) rfl (by decide +kernel) rfl rfl (Nat.le_of_ble_eq_true rfl) dX10_along_85 (fun H locs g_37 f_38 fr_39 hP hS => ?_)
          have f_38 : g_37 0 = .inr (13, Rob ad (va_up x 0 (nI 1))) := f_38
          refine lv_aload_n hx hb dX10_along_88 rfl (lv_at hl 1 rfl) ?_
          refine m_get (D := (dC, dI)) (v := .int (nI 1)) (C := RX10) (T := TX10) (N := 29) hx hb hts bk0 hown hK hP 0 (by decide) f_38 rfl 0 (by decide) (hts (.fieldLink RX10 78 "GradientDeskModel" "thrown" "I") (List.mem_of_getElem? (i := 1) rfl)) (fun _ h9 => h9) (congrArg (fun z => some (Value.int z)) (show (va_up x 0 (nI 1)) 0 = (nI 1) from rfl)) dX10_along_89 ?_
          refine lv_if_le (tgt := 96) hx hb dX10_along_92 (by decide) (fun c_40 => absurd c_40 (by decide)) (fun c_40 => ?_)
          refine W.widen (k := 0) (n := 0) (by omega) (by omega) ?_
          exact W.vret hx hb hr (fun t9 ht9 hW9 => ⟨⟨(g_37, va_up x 0 (nI 1)), rfl, ⟨RI.num hI0 (hF0.setx (fun (k : Nat) (hk : k = 1 ∨ k = 2 ∨ k = 3) => (fr_39 k (by omega)).trans (rfl)) f_38 rfl) (fun (k : Nat) (hk : (4 ≤ k ∧ k ≤ 11) ∨ k = 16) => (fr_39 k (by omega)).trans (rfl)) (hVO0.same (fun (k : Nat) (hk : 12 ≤ k ∧ k ≤ 19) => (fr_39 k (by omega)).trans (rfl))) (va_up_ne _ _ (by decide)) (va_up_ne _ _ (by decide)) (va_up_ne _ _ (by decide)) (fun _ _ => ⟨rfl, rfl⟩) hBd, (va_up_ne _ _ (by decide)), Or.inl ⟨by omega, va_up_self _ _ _⟩⟩, by show va_P (dC, dI) vwCl _ t9.heap; rw [ht9]; exact hP⟩, hS.F ht9⟩) hS.2.2 dX10_along_95
        · have c_35 := mt (k_lt (nI 999) w1).mpr c_35
          rw [show (nI 999).toInt = 999 from by decide] at c_35
          refine lv_iload_n hx hb dX10_along_24 rfl (lv_at hl 3 rfl) ?_
          refine lv_sipush (v := -999) hx hb dX10_along_25 (by decide +kernel) ?_
          refine lv_icmp_lt (tgt := 54) hx hb dX10_along_28 (by decide) (fun c_41 => ?_) (fun c_41 => ?_)
          · have c_41 := (k_lt w2 (-999)).mp c_41
            rw [show ((-999 : Int32)).toInt = -999 from by decide] at c_41
            refine lv_iconst (v := nI 1) hx hb dX10_along_54 (by decide +kernel) ?_
            refine lv_goto (tgt := 59) hx hb dX10_along_55 (by decide) ?_
            refine lv_istore (lv' := [(5, .int (nI 1)), (0, .ref (ad 0)), (1, .int v), (2, .int w1), (3, .int w2), (4, .int w3)]) hx hb dX10_along_59 hl (by decide) rfl (fun ls hl => ?_)
            refine lv_aload_n hx hb dX10_along_61 rfl (lv_at hl 1 rfl) ?_
            refine lv_iload hx hb dX10_along_62 (lv_at hl 0 rfl) ?_
            refine lv_if_eq (tgt := 71) hx hb dX10_along_64 (by decide) (fun c_42 => absurd c_42 (by decide)) (fun c_42 => ?_)
            refine lv_iconst (v := nI 1) hx hb dX10_along_67 (by decide +kernel) ?_
            refine lv_goto (tgt := 85) hx hb dX10_along_68 (by decide) ?_
            refine m_put (D := (dC, dI)) (v := .int (nI 1)) (tv := .int) (C := RX10) (T := TX10) (N := 29) hx hb hts bk0 tyX10 tyX10_ok nmX10 hown hK hP hD hS 0 (by decide) r_3 rfl 0 (by decide) (hts (.fieldLink RX10 78 "GradientDeskModel" "thrown" "I") (List.mem_of_getElem? (i := 1) rfl)) (fun _ h9 => h9) rfl (by decide +kernel) rfl rfl (Nat.le_of_ble_eq_true rfl) dX10_along_85 (fun H locs g_43 f_44 fr_45 hP hS => ?_)
            have f_44 : g_43 0 = .inr (13, Rob ad (va_up x 0 (nI 1))) := f_44
            refine lv_aload_n hx hb dX10_along_88 rfl (lv_at hl 1 rfl) ?_
            refine m_get (D := (dC, dI)) (v := .int (nI 1)) (C := RX10) (T := TX10) (N := 29) hx hb hts bk0 hown hK hP 0 (by decide) f_44 rfl 0 (by decide) (hts (.fieldLink RX10 78 "GradientDeskModel" "thrown" "I") (List.mem_of_getElem? (i := 1) rfl)) (fun _ h9 => h9) (congrArg (fun z => some (Value.int z)) (show (va_up x 0 (nI 1)) 0 = (nI 1) from rfl)) dX10_along_89 ?_
            refine lv_if_le (tgt := 96) hx hb dX10_along_92 (by decide) (fun c_46 => absurd c_46 (by decide)) (fun c_46 => ?_)
            refine W.widen (k := 0) (n := 0) (by omega) (by omega) ?_
            exact W.vret hx hb hr (fun t9 ht9 hW9 => ⟨⟨(g_43, va_up x 0 (nI 1)), rfl, ⟨RI.num hI0 (hF0.setx (fun (k : Nat) (hk : k = 1 ∨ k = 2 ∨ k = 3) => (fr_45 k (by omega)).trans (rfl)) f_44 rfl) (fun (k : Nat) (hk : (4 ≤ k ∧ k ≤ 11) ∨ k = 16) => (fr_45 k (by omega)).trans (rfl)) (hVO0.same (fun (k : Nat) (hk : 12 ≤ k ∧ k ≤ 19) => (fr_45 k (by omega)).trans (rfl))) (va_up_ne _ _ (by decide)) (va_up_ne _ _ (by decide)) (va_up_ne _ _ (by decide)) (fun _ _ => ⟨rfl, rfl⟩) hBd, (va_up_ne _ _ (by decide)), Or.inl ⟨by omega, va_up_self _ _ _⟩⟩, by show va_P (dC, dI) vwCl _ t9.heap; rw [ht9]; exact hP⟩, hS.F ht9⟩) hS.2.2 dX10_along_95
          · have c_41 := mt (k_lt w2 (-999)).mpr c_41
            rw [show ((-999 : Int32)).toInt = -999 from by decide] at c_41
            refine lv_iload_n hx hb dX10_along_31 rfl (lv_at hl 3 rfl) ?_
            refine lv_sipush (v := nI 999) hx hb dX10_along_32 (by decide +kernel) ?_
            refine lv_icmp_gt (tgt := 54) hx hb dX10_along_35 (by decide) (fun c_47 => ?_) (fun c_47 => ?_)
            · have c_47 := (k_lt (nI 999) w2).mp c_47
              rw [show (nI 999).toInt = 999 from by decide] at c_47
              refine lv_iconst (v := nI 1) hx hb dX10_along_54 (by decide +kernel) ?_
              refine lv_goto (tgt := 59) hx hb dX10_along_55 (by decide) ?_
              refine lv_istore (lv' := [(5, .int (nI 1)), (0, .ref (ad 0)), (1, .int v), (2, .int w1), (3, .int w2), (4, .int w3)]) hx hb dX10_along_59 hl (by decide) rfl (fun ls hl => ?_)
              refine lv_aload_n hx hb dX10_along_61 rfl (lv_at hl 1 rfl) ?_
              refine lv_iload hx hb dX10_along_62 (lv_at hl 0 rfl) ?_
              refine lv_if_eq (tgt := 71) hx hb dX10_along_64 (by decide) (fun c_48 => absurd c_48 (by decide)) (fun c_48 => ?_)
              refine lv_iconst (v := nI 1) hx hb dX10_along_67 (by decide +kernel) ?_
              refine lv_goto (tgt := 85) hx hb dX10_along_68 (by decide) ?_
              refine m_put (D := (dC, dI)) (v := .int (nI 1)) (tv := .int) (C := RX10) (T := TX10) (N := 29) hx hb hts bk0 tyX10 tyX10_ok nmX10 hown hK hP hD hS 0 (by decide) r_3 rfl 0 (by decide) (hts (.fieldLink RX10 78 "GradientDeskModel" "thrown" "I") (List.mem_of_getElem? (i := 1) rfl)) (fun _ h9 => h9) rfl (by decide +kernel) rfl rfl (Nat.le_of_ble_eq_true rfl) dX10_along_85 (fun H locs g_49 f_50 fr_51 hP hS => ?_)
              have f_50 : g_49 0 = .inr (13, Rob ad (va_up x 0 (nI 1))) := f_50
              refine lv_aload_n hx hb dX10_along_88 rfl (lv_at hl 1 rfl) ?_
              refine m_get (D := (dC, dI)) (v := .int (nI 1)) (C := RX10) (T := TX10) (N := 29) hx hb hts bk0 hown hK hP 0 (by decide) f_50 rfl 0 (by decide) (hts (.fieldLink RX10 78 "GradientDeskModel" "thrown" "I") (List.mem_of_getElem? (i := 1) rfl)) (fun _ h9 => h9) (congrArg (fun z => some (Value.int z)) (show (va_up x 0 (nI 1)) 0 = (nI 1) from rfl)) dX10_along_89 ?_
              refine lv_if_le (tgt := 96) hx hb dX10_along_92 (by decide) (fun c_52 => absurd c_52 (by decide)) (fun c_52 => ?_)
              refine W.widen (k := 0) (n := 0) (by omega) (by omega) ?_
              exact W.vret hx hb hr (fun t9 ht9 hW9 => ⟨⟨(g_49, va_up x 0 (nI 1)), rfl, ⟨RI.num hI0 (hF0.setx (fun (k : Nat) (hk : k = 1 ∨ k = 2 ∨ k = 3) => (fr_51 k (by omega)).trans (rfl)) f_50 rfl) (fun (k : Nat) (hk : (4 ≤ k ∧ k ≤ 11) ∨ k = 16) => (fr_51 k (by omega)).trans (rfl)) (hVO0.same (fun (k : Nat) (hk : 12 ≤ k ∧ k ≤ 19) => (fr_51 k (by omega)).trans (rfl))) (va_up_ne _ _ (by decide)) (va_up_ne _ _ (by decide)) (va_up_ne _ _ (by decide)) (fun _ _ => ⟨rfl, rfl⟩) hBd, (va_up_ne _ _ (by decide)), Or.inl ⟨by omega, va_up_self _ _ _⟩⟩, by show va_P (dC, dI) vwCl _ t9.heap; rw [ht9]; exact hP⟩, hS.F ht9⟩) hS.2.2 dX10_along_95
            · have c_47 := mt (k_lt (nI 999) w2).mpr c_47
              rw [show (nI 999).toInt = 999 from by decide] at c_47
              refine lv_iload hx hb dX10_along_38 (lv_at hl 4 rfl) ?_
              refine lv_sipush (v := -999) hx hb dX10_along_40 (by decide +kernel) ?_
              refine lv_icmp_lt (tgt := 54) hx hb dX10_along_43 (by decide) (fun c_53 => ?_) (fun c_53 => ?_)
              · have c_53 := (k_lt w3 (-999)).mp c_53
                rw [show ((-999 : Int32)).toInt = -999 from by decide] at c_53
                refine lv_iconst (v := nI 1) hx hb dX10_along_54 (by decide +kernel) ?_
                refine lv_goto (tgt := 59) hx hb dX10_along_55 (by decide) ?_
                refine lv_istore (lv' := [(5, .int (nI 1)), (0, .ref (ad 0)), (1, .int v), (2, .int w1), (3, .int w2), (4, .int w3)]) hx hb dX10_along_59 hl (by decide) rfl (fun ls hl => ?_)
                refine lv_aload_n hx hb dX10_along_61 rfl (lv_at hl 1 rfl) ?_
                refine lv_iload hx hb dX10_along_62 (lv_at hl 0 rfl) ?_
                refine lv_if_eq (tgt := 71) hx hb dX10_along_64 (by decide) (fun c_54 => absurd c_54 (by decide)) (fun c_54 => ?_)
                refine lv_iconst (v := nI 1) hx hb dX10_along_67 (by decide +kernel) ?_
                refine lv_goto (tgt := 85) hx hb dX10_along_68 (by decide) ?_
                refine m_put (D := (dC, dI)) (v := .int (nI 1)) (tv := .int) (C := RX10) (T := TX10) (N := 29) hx hb hts bk0 tyX10 tyX10_ok nmX10 hown hK hP hD hS 0 (by decide) r_3 rfl 0 (by decide) (hts (.fieldLink RX10 78 "GradientDeskModel" "thrown" "I") (List.mem_of_getElem? (i := 1) rfl)) (fun _ h9 => h9) rfl (by decide +kernel) rfl rfl (Nat.le_of_ble_eq_true rfl) dX10_along_85 (fun H locs g_55 f_56 fr_57 hP hS => ?_)
                have f_56 : g_55 0 = .inr (13, Rob ad (va_up x 0 (nI 1))) := f_56
                refine lv_aload_n hx hb dX10_along_88 rfl (lv_at hl 1 rfl) ?_
                refine m_get (D := (dC, dI)) (v := .int (nI 1)) (C := RX10) (T := TX10) (N := 29) hx hb hts bk0 hown hK hP 0 (by decide) f_56 rfl 0 (by decide) (hts (.fieldLink RX10 78 "GradientDeskModel" "thrown" "I") (List.mem_of_getElem? (i := 1) rfl)) (fun _ h9 => h9) (congrArg (fun z => some (Value.int z)) (show (va_up x 0 (nI 1)) 0 = (nI 1) from rfl)) dX10_along_89 ?_
                refine lv_if_le (tgt := 96) hx hb dX10_along_92 (by decide) (fun c_58 => absurd c_58 (by decide)) (fun c_58 => ?_)
                refine W.widen (k := 0) (n := 0) (by omega) (by omega) ?_
                exact W.vret hx hb hr (fun t9 ht9 hW9 => ⟨⟨(g_55, va_up x 0 (nI 1)), rfl, ⟨RI.num hI0 (hF0.setx (fun (k : Nat) (hk : k = 1 ∨ k = 2 ∨ k = 3) => (fr_57 k (by omega)).trans (rfl)) f_56 rfl) (fun (k : Nat) (hk : (4 ≤ k ∧ k ≤ 11) ∨ k = 16) => (fr_57 k (by omega)).trans (rfl)) (hVO0.same (fun (k : Nat) (hk : 12 ≤ k ∧ k ≤ 19) => (fr_57 k (by omega)).trans (rfl))) (va_up_ne _ _ (by decide)) (va_up_ne _ _ (by decide)) (va_up_ne _ _ (by decide)) (fun _ _ => ⟨rfl, rfl⟩) hBd, (va_up_ne _ _ (by decide)), Or.inl ⟨by omega, va_up_self _ _ _⟩⟩, by show va_P (dC, dI) vwCl _ t9.heap; rw [ht9]; exact hP⟩, hS.F ht9⟩) hS.2.2 dX10_along_95
              · have c_53 := mt (k_lt w3 (-999)).mpr c_53
                rw [show ((-999 : Int32)).toInt = -999 from by decide] at c_53
                refine lv_iload hx hb dX10_along_46 (lv_at hl 4 rfl) ?_
                refine lv_sipush (v := nI 999) hx hb dX10_along_48 (by decide +kernel) ?_
                refine lv_icmp_le (tgt := 58) hx hb dX10_along_51 (by decide) (fun c_59 => ?_) (fun c_59 => ?_)
                · have c_59 := (k_le w3 (nI 999)).mp c_59
                  rw [show (nI 999).toInt = 999 from by decide] at c_59
                  refine lv_iconst (v := nI 0) hx hb dX10_along_58 (by decide +kernel) ?_
                  refine lv_istore (lv' := [(5, .int (nI 0)), (0, .ref (ad 0)), (1, .int v), (2, .int w1), (3, .int w2), (4, .int w3)]) hx hb dX10_along_59 hl (by decide) rfl (fun ls hl => ?_)
                  refine lv_aload_n hx hb dX10_along_61 rfl (lv_at hl 1 rfl) ?_
                  refine lv_iload hx hb dX10_along_62 (lv_at hl 0 rfl) ?_
                  refine lv_if_eq (tgt := 71) hx hb dX10_along_64 (by decide) (fun c_60 => ?_) (fun c_60 => absurd c_60 (by decide))
                  obtain ⟨vn, hvn, evn, -⟩ := k_nat (x := v) (by omega)
                  rw [hvn] at hl
                  have hok : (0 ≤ v.toInt ∧ v.toInt ≤ 7 ∧ -999 ≤ w1.toInt ∧ w1.toInt ≤ 999 ∧ -999 ≤ w2.toInt ∧ w2.toInt ≤ 999 ∧ -999 ≤ w3.toInt ∧ w3.toInt ≤ 999) := by omega
                  refine lv_aload_n hx hb dX10_along_71 rfl (lv_at hl 1 rfl) ?_
                  refine m_get (D := (dC, dI)) (v := .ref (ad 11)) (C := RX10) (T := TX10) (N := 29) hx hb hts bk0 hown hK hP 0 (by decide) r_3 rfl 15 (by decide) (hts (.fieldLink RX10 47 "GradientDeskModel" "names" "[I") (List.mem_of_getElem? (i := 2) rfl)) (fun _ h9 => h9) rfl dX10_along_72 ?_
                  refine lv_iload_n hx hb dX10_along_75 rfl (lv_at hl 2 rfl) ?_
                  refine m_iald hx hb hK hP 11 (by decide) rfl t11 (i := vn) (by omega) (by decide) dX10_along_76 ?_
                  have b_61 := t11b vn
                  refine lv_if_ge (tgt := 84) hx hb dX10_along_77 (by decide) (fun c_62 => ?_) (fun c_62 => ?_)
                  · have c_62 := (k_iLE (a := 0) (b := nm vn) (show nI 0 = iI 0 from by decide) rfl (by omega) (by omega)).mp c_62
                    refine lv_iconst (v := nI 0) hx hb dX10_along_84 (by decide +kernel) ?_
                    refine m_put (D := (dC, dI)) (v := .int (nI 0)) (tv := .int) (C := RX10) (T := TX10) (N := 29) hx hb hts bk0 tyX10 tyX10_ok nmX10 hown hK hP hD hS 0 (by decide) r_3 rfl 0 (by decide) (hts (.fieldLink RX10 78 "GradientDeskModel" "thrown" "I") (List.mem_of_getElem? (i := 1) rfl)) (fun _ h9 => h9) rfl (by decide +kernel) rfl rfl (Nat.le_of_ble_eq_true rfl) dX10_along_85 (fun H locs g_63 f_64 fr_65 hP hS => ?_)
                    have f_64 : g_63 0 = .inr (13, Rob ad (va_up x 0 (nI 0))) := f_64
                    refine lv_aload_n hx hb dX10_along_88 rfl (lv_at hl 1 rfl) ?_
                    refine m_get (D := (dC, dI)) (v := .int (nI 0)) (C := RX10) (T := TX10) (N := 29) hx hb hts bk0 hown hK hP 0 (by decide) f_64 rfl 0 (by decide) (hts (.fieldLink RX10 78 "GradientDeskModel" "thrown" "I") (List.mem_of_getElem? (i := 1) rfl)) (fun _ h9 => h9) (congrArg (fun z => some (Value.int z)) (show (va_up x 0 (nI 0)) 0 = (nI 0) from rfl)) dX10_along_89 ?_
                    refine lv_if_le (tgt := 96) hx hb dX10_along_92 (by decide) (fun c_66 => ?_) (fun c_66 => absurd c_66 (by decide))
                    refine lv_aload_n hx hb dX10_along_96 rfl (lv_at hl 1 rfl) ?_
                    refine m_get (D := (dC, dI)) (v := .ref (ad 11)) (C := RX10) (T := TX10) (N := 29) hx hb hts bk0 hown hK hP 0 (by decide) f_64 rfl 15 (by decide) (hts (.fieldLink RX10 47 "GradientDeskModel" "names" "[I") (List.mem_of_getElem? (i := 2) rfl)) (fun _ h9 => h9) rfl dX10_along_97 ?_
                    refine lv_iload_n hx hb dX10_along_100 rfl (lv_at hl 2 rfl) ?_
                    have f_67 : g_63 11 = .inl (cA 11, 8, .inl (fun j => iI (nm j))) := (fr_65 11 (by omega)).trans t11
                    refine m_iald hx hb hK hP 11 (by decide) rfl f_67 (i := vn) (by omega) (by decide) dX10_along_101 ?_
                    have b_68 := t11b vn
                    obtain ⟨rt, hrt⟩ : ∃ z9 : Nat, nm vn = (z9 : Int) := ⟨(nm vn).toNat, by omega⟩
                    have hr9 := t11c vn (by omega)
                    have hrl : rt < L.length := by omega
                    rw [hrt, ← nI_iI]
                    refine lv_istore (lv' := [(6, .int (nI rt)), (5, .int (nI 0)), (0, .ref (ad 0)), (1, .int (nI vn)), (2, .int w1), (3, .int w2), (4, .int w3)]) hx hb dX10_along_102 hl (by decide) rfl (fun ls hl => ?_)
                    refine lv_aload_n hx hb dX10_along_104 rfl (lv_at hl 2 rfl) ?_
                    refine lv_iload hx hb dX10_along_105 (lv_at hl 0 rfl) ?_
                    have hF1 : RF ad cA g_63 (va_up x 0 (nI 0)) pf qf := hF0.setx (fun (k : Nat) (hk : k = 1 ∨ k = 2 ∨ k = 3) => (fr_65 k (by omega)).trans (rfl)) f_64 rfl
                    obtain ⟨Q9, hQ9⟩ : ∃ z : Nat, z = qf 1008 * qf 1009 * qf 1010 := ⟨_, rfl⟩
                    have hQb : 0 < Q9 ∧ Q9 ≤ 1099511627776 := by obtain ⟨-, u1, u2⟩ := hBd.2 0 (by decide); obtain ⟨-, u3, u4⟩ := hBd.2 1 (by decide); obtain ⟨-, u5, u6⟩ := hBd.2 2 (by decide); exact ⟨by rw [hQ9]; exact Nat.mul_pos (Nat.mul_pos u1 u3) u5, by rw [hQ9]; exact Nat.le_trans (Nat.mul_le_mul (Nat.mul_le_mul u2 u4) u6) (by decide)⟩
                    have f_69 : g_63 12 = .inl (cA 12, 200, .inl (fun j => nI (rc j))) := (fr_65 12 (by omega)).trans v12
                    refine va_callv (va_runV (As := [.int (nI rt)]) (rest := []) ⟨hx, hb, hml, hown, hts⟩ (c_X10_reckonAll l dC dI A ad cA g_63 (va_up x 0 (nI 0)) pf qf pt L rc rt Q9 hF1 (hPt0.same (fun (k : Nat) (hk : 5 ≤ k ∧ k ≤ 10) => (fr_65 k (by omega)).trans (rfl))) hM hL2 hW f_69 v12b hrl hQ9 hBd.2) (cwV 1 hts (goodIn_app (goodIn_r [Cond.methodLink RX10 275 yX10_reckonAll, Cond.instanceMethod yX10_reckonAll, Cond.selects RX10 yX10_reckonAll yX10_reckonAll, Cond.initialized RX10] [3, 4, 5, 6] rfl rfl) (goodIn_sub (fun w9 h9 => bk1 w9 h9) gw_X10_reckonAll)) rfl rfl rfl (by decide +kernel) ⟨Nat.le_of_ble_eq_true rfl, Nat.le_of_ble_eq_true rfl⟩) ⟨fun a U g mk q => ⟨q.1, q.2.1, q.2.2.1, LY.moved (u := U) (U := U.calling g mk a) (Vm.Alike.refl U.vm) q.2.2.2⟩, va_recv hK hP (ci := 13) (q0 := 0) rfl (wo_at (by decide) f_64), fun U hU hW => ⟨rfl, by rw [hU]; exact fun q h => hA q (Nat.le_trans hS.1 h), by rw [hU]; exact hP, LY.moved hW.alike hL⟩⟩ rfl rfl hl.1 rfl (lv_room (Nat.le_of_ble_eq_true rfl)) dX10_along_107 ⟨(Nat.le_of_ble_eq_true rfl), (Nat.le_of_ble_eq_true rfl)⟩) hS (fun q _ h => h) (fun q h => h) (fun u8 t8 H1 locs ht8 hvm8 hw_70 hB hz1 hk1 hS => ?_)
                    obtain ⟨g_71, pf2_72, qf2_73⟩ := u8
                    try dsimp only at hw_70 hB
                    rw [ht8] at hB
                    have hP := hB
                    generalize H1 = H at hP hS ⊢
                    obtain ⟨fr_74, ⟨rc3, r12, r12b⟩, hFa, hTa, hOa⟩ := hw_70
                    have hfb := hTa.fb hQb hW hrl hL2 (fun f9 h9 => hFa.red h9)
                    obtain ⟨p3, hp3⟩ : ∃ z9, z9 = pf2_72 := ⟨_, rfl⟩
                    obtain ⟨q3, hq3⟩ : ∃ z9, z9 = qf2_73 := ⟨_, rfl⟩
                    rw [← hp3, ← hq3] at hFa hTa hOa hfb
                    obtain ⟨N9, b9, D9, a1, -, a3⟩ := hTa
                    obtain ⟨-, w2d, -, w4d, w5d, -⟩ := hW rt hrl
                    have hM9 := k_M hQb ⟨a1.1, a1.2.1⟩ w5d w2d
                    obtain ⟨M9, eM9⟩ : ∃ z9, z9 = b9 * Q9 ^ (gd L rt).2.2.2.1 := ⟨_, rfl⟩
                    rw [← eM9] at hM9 a3
                    have hDb : ∀ v, v < 3 → (D9 v).natAbs ≤ 2 ^ 723 := fun v hv => (a3 v hv).1.le w4d w2d
                    refine lv_aload_n hx hb dX10_along_110 rfl (lv_at hl 2 rfl) ?_
                    refine lv_sipush (v := nI 1004) hx hb dX10_along_111 (by decide +kernel) ?_
                    refine lv_sipush (v := nI 200) hx hb dX10_along_114 (by decide +kernel) ?_
                    refine lv_iload hx hb dX10_along_117 (lv_at hl 0 rfl) ?_
                    refine lv_iadd hx hb dX10_along_119 ?_
                    refine lv_topi (fun x_75 e_76 => ?_)
                    obtain rfl : x_75 = nI (200 + rt) := e_76.trans (nI_add 200 rt)
                    have f_77 : g_71 0 = .inr (13, Rob ad (va_up x 0 (nI 0))) := (fr_74 0 (by omega)).trans f_64
                    refine va_callv (va_runV (As := [.int (nI 1004), .int (nI (200 + rt))]) (rest := []) ⟨hx, hb, hml, hown, hts⟩ (c_X10_copyFraction l dC dI A ad cA g_71 (va_up x 0 (nI 0)) p3 q3 1004 (200 + rt) hFa (by decide) (by omega)) (cwV 2 hts (goodIn_app (goodIn_r [Cond.methodLink RX10 136 yX10_copyFraction, Cond.instanceMethod yX10_copyFraction, Cond.selects RX10 yX10_copyFraction yX10_copyFraction, Cond.initialized RX10] [7, 8, 9, 6] rfl rfl) (goodIn_sub (fun w9 h9 => bk2 w9 h9) gw_X10_copyFraction)) rfl rfl rfl (by decide +kernel) ⟨Nat.le_of_ble_eq_true rfl, Nat.le_of_ble_eq_true rfl⟩) ⟨fun a U g mk q => ⟨q.1, q.2.1, q.2.2.1, LY.moved (u := U) (U := U.calling g mk a) (Vm.Alike.refl U.vm) q.2.2.2⟩, va_recv hK hP (ci := 13) (q0 := 0) rfl (wo_at (by decide) f_77), fun U hU hW => ⟨rfl, by rw [hU]; exact fun q h => hA q (Nat.le_trans hS.1 h), by rw [hU]; exact hP, LY.moved hW.alike hL⟩⟩ rfl rfl hl.1 rfl (lv_room (Nat.le_of_ble_eq_true rfl)) dX10_along_120 ⟨(Nat.le_of_ble_eq_true rfl), (Nat.le_of_ble_eq_true rfl)⟩) hS (fun q _ h => h) (fun q h => h) (fun u8 t8 H1 locs ht8 hvm8 hw_78 hB hz1 hk1 hS => ?_)
                    obtain ⟨g_79, rfl⟩ : ∃ z, z = u8 := ⟨_, rfl⟩
                    try dsimp only at hw_78 hB
                    rw [ht8] at hB
                    have hP := hB
                    generalize H1 = H at hP hS ⊢
                    obtain ⟨fr_80, hFc⟩ := hw_78
                    refine lv_aload_n hx hb dX10_along_123 rfl (lv_at hl 2 rfl) ?_
                    refine lv_sipush (v := nI 1015) hx hb dX10_along_124 (by decide +kernel) ?_
                    refine lv_lconst (v := lN 0) hx hb dX10_along_127 (by decide +kernel) ?_
                    refine lv_lconst (v := lN 1) hx hb dX10_along_128 (by decide +kernel) ?_
                    have f_81 : g_79 0 = .inr (13, Rob ad (va_up x 0 (nI 0))) := (fr_80 0 (by omega)).trans f_77
                    refine va_callv (va_runV (As := [.int (nI 1015), .long (lN 0), .long (lN 1)]) (rest := []) ⟨hx, hb, hml, hown, hts⟩ (c_X10_setFraction l dC dI A ad cA g_79 (va_up x 0 (nI 0)) (va_up p3 1004 (p3 (200 + rt))) (va_up q3 1004 (q3 (200 + rt))) 1015 (lN 0) (lN 1) 0 1 hFc (by decide) (by decide) (by decide) (by decide) (by decide) (by decide)) (cwV 3 hts (goodIn_app (goodIn_r [Cond.methodLink RX10 139 yX10_setFraction, Cond.instanceMethod yX10_setFraction, Cond.selects RX10 yX10_setFraction yX10_setFraction, Cond.initialized RX10] [10, 11, 12, 6] rfl rfl) (goodIn_sub (fun w9 h9 => bk3 w9 h9) gw_X10_setFraction)) rfl rfl rfl (by decide +kernel) ⟨Nat.le_of_ble_eq_true rfl, Nat.le_of_ble_eq_true rfl⟩) ⟨fun a U g mk q => ⟨q.1, q.2.1, q.2.2.1, LY.moved (u := U) (U := U.calling g mk a) (Vm.Alike.refl U.vm) q.2.2.2⟩, va_recv hK hP (ci := 13) (q0 := 0) rfl (wo_at (by decide) f_81), fun U hU hW => ⟨rfl, by rw [hU]; exact fun q h => hA q (Nat.le_trans hS.1 h), by rw [hU]; exact hP, LY.moved hW.alike hL⟩⟩ rfl rfl hl.1 rfl (lv_room (Nat.le_of_ble_eq_true rfl)) dX10_along_129 ⟨(Nat.le_of_ble_eq_true rfl), (Nat.le_of_ble_eq_true rfl)⟩) hS (fun q _ h => h) (fun q h => h) (fun u8 t8 H1 locs ht8 hvm8 hw_82 hB hz1 hk1 hS => ?_)
                    obtain ⟨g_83, rfl⟩ : ∃ z, z = u8 := ⟨_, rfl⟩
                    try dsimp only at hw_82 hB
                    rw [ht8] at hB
                    have hP := hB
                    generalize H1 = H at hP hS ⊢
                    obtain ⟨fr_84, hFs⟩ := hw_82
                    rw [(rdp_1 0).1, (rdp_1 0).2] at hFs
                    refine lv_iconst (v := nI 0) hx hb dX10_along_132 (by decide +kernel) ?_
                    refine lv_istore (lv' := [(7, .int (nI 0)), (6, .int (nI rt)), (5, .int (nI 0)), (0, .ref (ad 0)), (1, .int (nI vn)), (2, .int w1), (3, .int w2), (4, .int w3)]) hx hb dX10_along_133 hl (by decide) rfl (fun ls hl => ?_)
                    have loop_85 : ∀ (k9 : Nat) (vv : Nat) (p1 : Nat → Int) (q1 : Nat → Nat) (g_87 : Nat → va_E) (fr_88 : ∀ k, (k ≠ 1 ∧ k ≠ 2 ∧ k ≠ 3) → g_87 k = g_83 k), 3 - vv < k9 → (vv ≤ 3) → ((∀ f, f ≠ 1004 → f ≠ 1012 → f ≠ 1015 → f ≠ 1016 → p1 f = p3 f ∧ q1 f = q3 f) ∧ p1 1004 = p3 (200 + rt) ∧ q1 1004 = q3 (200 + rt)) → (∃ S : Int, S.natAbs ≤ vv * (999 * 2 ^ 723) ∧ Eqv (p1 1015) (q1 1015) S M9) → (RF ad cA g_87 (va_up x 0 (nI 0)) p1 q1) → ∀ (H : Heap) (locs : List Loc) (ls : Array Slot), va_P (dC, dI) vwCl (wo ad NSr g_87) H → va_S A s.heap H locs → lv_has ls 8 [(0, .ref (ad 0)), (1, .int (nI vn)), (2, .int w1), (3, .int w2), (4, .int w3), (6, .int (nI rt)), (7, .int (nI vv))] → W p l e (headSpec wd_X10_along ({ frames := 110, cells := 0, slots := 0, locals := 2200 })).room s m ([.ref (ad 0), .int v, .int w1, .int w2, .int w3] : List Value).toArray below meth c H locs (0) (0) (MQ below (va_Qv (fun (u : (Nat → va_E) × (Nat → Int32)) => match u with | (g2, x2) => RIE ad cA g2 x2 L nm tx ty wr ∧ x2 2 = x 2 ∧ ((¬ (0 ≤ v.toInt ∧ v.toInt ≤ 7 ∧ -999 ≤ w1.toInt ∧ w1.toInt ≤ 999 ∧ -999 ≤ w2.toInt ∧ w2.toInt ≤ 999 ∧ -999 ≤ w3.toInt ∧ w3.toInt ≤ 999) ∧ x2 0 = nI 1) ∨ ((0 ≤ v.toInt ∧ v.toInt ≤ 7 ∧ -999 ≤ w1.toInt ∧ w1.toInt ≤ 999 ∧ -999 ≤ w2.toInt ∧ w2.toInt ≤ 999 ∧ -999 ≤ w3.toInt ∧ w3.toInt ≤ 999) ∧ ∃ vn, v = nI vn ∧ vn ≤ 7 ∧ ((nm vn < 0 ∧ x2 0 = nI 2) ∨ (0 ≤ nm vn ∧ x2 0 = nI 0))))) (fun (u : (Nat → va_E) × (Nat → Int32)) (t : State) => va_P (dC, dI) vwCl (wo ad NSr u.1) t.heap) A) ([.ref (ad 0), .int v, .int w1, .int w2, .int w3] : List Value).toArray s (0) (0) A) (F0 m 135 ls []) := by
                      intro k9
                      induction k9 with
                      | zero => intro vv p1 q1 g_87 fr_88 h9; exact absurd h9 (Nat.not_lt_zero _)
                      | succ k9 ih_86 =>
                        intro vv p1 q1 g_87 fr_88 h9 hv3 hO hS9 hFL H locs ls hP hS hl
                        refine lv_iload hx hb dX10_along_135 (lv_at hl 6 rfl) ?_
                        refine lv_iconst (v := nI 3) hx hb dX10_along_137 (by decide +kernel) ?_
                        refine lv_icmp_ge (tgt := 209) hx hb dX10_along_138 (by decide) (fun c_89 => ?_) (fun c_89 => ?_)
                        · have c_89 := (nI_leI (a := 3) (b := vv) (by decide) (by omega)).mp c_89
                          refine lv_aload_n hx hb dX10_along_209 rfl (lv_at hl 0 rfl) ?_
                          refine lv_sipush (v := nI 1005) hx hb dX10_along_210 (by decide +kernel) ?_
                          refine lv_sipush (v := nI 1015) hx hb dX10_along_213 (by decide +kernel) ?_
                          obtain ⟨S9, hSb, hSe⟩ := hS9
                          have hb15 := k_fbS hSe (hFL.red (by decide)) hM9.1 (Nat.le_trans hSb (Nat.mul_le_mul_right _ hv3)) hM9.2
                          have f_90 : g_87 0 = .inr (13, Rob ad (va_up x 0 (nI 0))) := (fr_88 0 (by omega)).trans ((fr_84 0 (by omega)).trans f_81)
                          refine va_callv (va_runV (As := [.int (nI 1005), .int (nI 1015)]) (rest := []) ⟨hx, hb, hml, hown, hts⟩ (c_X10_copyFraction l dC dI A ad cA g_87 (va_up x 0 (nI 0)) p1 q1 1005 1015 hFL (by decide) (by decide)) (cwV 2 hts (goodIn_app (goodIn_r [Cond.methodLink RX10 136 yX10_copyFraction, Cond.instanceMethod yX10_copyFraction, Cond.selects RX10 yX10_copyFraction yX10_copyFraction, Cond.initialized RX10] [7, 8, 9, 6] rfl rfl) (goodIn_sub (fun w9 h9 => bk2 w9 h9) gw_X10_copyFraction)) rfl rfl rfl (by decide +kernel) ⟨Nat.le_of_ble_eq_true rfl, Nat.le_of_ble_eq_true rfl⟩) ⟨fun a U g mk q => ⟨q.1, q.2.1, q.2.2.1, LY.moved (u := U) (U := U.calling g mk a) (Vm.Alike.refl U.vm) q.2.2.2⟩, va_recv hK hP (ci := 13) (q0 := 0) rfl (wo_at (by decide) f_90), fun U hU hW => ⟨rfl, by rw [hU]; exact fun q h => hA q (Nat.le_trans hS.1 h), by rw [hU]; exact hP, LY.moved hW.alike hL⟩⟩ rfl rfl hl.1 rfl (lv_room (Nat.le_of_ble_eq_true rfl)) dX10_along_216 ⟨(Nat.le_of_ble_eq_true rfl), (Nat.le_of_ble_eq_true rfl)⟩) hS (fun q _ h => h) (fun q h => h) (fun u8 t8 H1 locs ht8 hvm8 hw_91 hB hz1 hk1 hS => ?_)
                          obtain ⟨g_92, rfl⟩ : ∃ z, z = u8 := ⟨_, rfl⟩
                          try dsimp only at hw_91 hB
                          rw [ht8] at hB
                          have hP := hB
                          generalize H1 = H at hP hS ⊢
                          obtain ⟨fr_93, hF7⟩ := hw_91
                          have f_94 : g_92 12 = .inl (cA 12, 200, .inl (fun j => nI (rc3 j))) := (fr_93 12 (by omega)).trans ((fr_88 12 (by omega)).trans ((fr_84 12 (by omega)).trans ((fr_80 12 (by omega)).trans r12)))
                          refine W.widen (k := 0) (n := 0) (by omega) (by omega) ?_
                          exact W.vret hx hb hr (fun t9 ht9 hW9 => ⟨⟨(g_92, va_up x 0 (nI 0)), rfl, ⟨RI.num hI0 hF7 (fun (k : Nat) (hk : (4 ≤ k ∧ k ≤ 11) ∨ k = 16) => (fr_93 k (by omega)).trans ((fr_88 k (by omega)).trans ((fr_84 k (by omega)).trans ((fr_80 k (by omega)).trans ((fr_74 k (by omega)).trans ((fr_65 k (by omega)).trans (rfl))))))) (VO.reach hVO0 f_94 r12b (fun (k : Nat) (hk : 13 ≤ k ∧ k ≤ 19) => (fr_93 k (by omega)).trans ((fr_88 k (by omega)).trans ((fr_84 k (by omega)).trans ((fr_80 k (by omega)).trans ((fr_74 k (by omega)).trans ((fr_65 k (by omega)).trans (rfl)))))))) (va_up_ne _ _ (by decide)) (va_up_ne _ _ (by decide)) (va_up_ne _ _ (by decide)) (fun f hf => ⟨(va_up_ne _ _ (by omega)).trans ((hO.1 f (by omega) (by omega) (by omega) (by omega)).1.trans (hOa f (Or.inl hf)).1), (va_up_ne _ _ (by omega)).trans ((hO.1 f (by omega) (by omega) (by omega) (by omega)).2.trans (hOa f (Or.inl hf)).2)⟩) ⟨fun r9 h9 => by by_cases h8 : 1000 + r9 = 1005; rw [h8, va_up_self, va_up_self]; exact hb15; rw [va_up_ne _ _ h8, va_up_ne _ _ h8]; by_cases h7 : 1000 + r9 = 1004; rw [h7, hO.2.1, hO.2.2]; exact hfb.1; rw [(hO.1 (1000 + r9) h7 (by omega) (by omega) (by omega)).1, (hO.1 (1000 + r9) h7 (by omega) (by omega) (by omega)).2, (hOa (1000 + r9) (Or.inr (by omega))).1, (hOa (1000 + r9) (Or.inr (by omega))).2]; exact hBd.1 r9 h9, fun v9 h9 => by rw [va_up_ne _ _ (by omega), va_up_ne _ _ (by omega), (hO.1 (1008 + v9) (by omega) (by omega) (by omega) (by omega)).1, (hO.1 (1008 + v9) (by omega) (by omega) (by omega) (by omega)).2, (hOa (1008 + v9) (Or.inr (by omega))).1, (hOa (1008 + v9) (Or.inr (by omega))).2]; exact hBd.2 v9 h9⟩, (va_up_ne _ _ (by decide)), Or.inr ⟨hok, vn, hvn, by omega, Or.inr ⟨by omega, va_up_self _ _ _⟩⟩⟩, by show va_P (dC, dI) vwCl _ t9.heap; rw [ht9]; exact hP⟩, hS.F ht9⟩) hS.2.2 dX10_along_219
                        · have c_89 := mt (nI_leI (a := 3) (b := vv) (by decide) (by omega)).mpr c_89
                          refine lv_aload_n hx hb dX10_along_141 rfl (lv_at hl 0 rfl) ?_
                          refine lv_sipush (v := nI 1012) hx hb dX10_along_142 (by decide +kernel) ?_
                          refine lv_iload hx hb dX10_along_145 (lv_at hl 6 rfl) ?_
                          refine lv_if_ne (tgt := 155) hx hb dX10_along_147 (by decide) (fun c_95 => ?_) (fun c_95 => ?_)
                          · have c_95 := mt (nI_eq (a := vv) (b := 0) (by omega) (by decide)).mpr c_95
                            refine lv_iload hx hb dX10_along_155 (lv_at hl 6 rfl) ?_
                            refine lv_iconst (v := nI 1) hx hb dX10_along_157 (by decide +kernel) ?_
                            refine lv_icmp_ne (tgt := 166) hx hb dX10_along_158 (by decide) (fun c_96 => ?_) (fun c_96 => ?_)
                            · have c_96 := mt (nI_eq (a := vv) (b := 1) (by omega) (by decide)).mpr c_96
                              refine lv_iload hx hb dX10_along_166 (lv_at hl 4 rfl) ?_
                              refine lv_i2l hx hb dX10_along_168 rfl ?_
                              refine lv_topl (fun y_97 e_98 => ?_)
                              refine lv_lconst (v := lN 1) hx hb dX10_along_169 (by decide +kernel) ?_
                              have f_99 : g_87 0 = .inr (13, Rob ad (va_up x 0 (nI 0))) := (fr_88 0 (by omega)).trans ((fr_84 0 (by omega)).trans f_81)
                              refine va_callv (va_runV (As := [.int (nI 1012), .long y_97, .long (lN 1)]) (rest := []) ⟨hx, hb, hml, hown, hts⟩ (c_X10_setFraction l dC dI A ad cA g_87 (va_up x 0 (nI 0)) p1 q1 1012 y_97 (lN 1) w3.toInt 1 hFL (by decide) (by rw [e_98]; exact Int32.toInt_toInt64 _) (by omega) (by decide) (by decide) (by decide)) (cwV 3 hts (goodIn_app (goodIn_r [Cond.methodLink RX10 139 yX10_setFraction, Cond.instanceMethod yX10_setFraction, Cond.selects RX10 yX10_setFraction yX10_setFraction, Cond.initialized RX10] [10, 11, 12, 6] rfl rfl) (goodIn_sub (fun w9 h9 => bk3 w9 h9) gw_X10_setFraction)) rfl rfl rfl (by decide +kernel) ⟨Nat.le_of_ble_eq_true rfl, Nat.le_of_ble_eq_true rfl⟩) ⟨fun a U g mk q => ⟨q.1, q.2.1, q.2.2.1, LY.moved (u := U) (U := U.calling g mk a) (Vm.Alike.refl U.vm) q.2.2.2⟩, va_recv hK hP (ci := 13) (q0 := 0) rfl (wo_at (by decide) f_99), fun U hU hW => ⟨rfl, by rw [hU]; exact fun q h => hA q (Nat.le_trans hS.1 h), by rw [hU]; exact hP, LY.moved hW.alike hL⟩⟩ rfl rfl hl.1 rfl (lv_room (Nat.le_of_ble_eq_true rfl)) dX10_along_170 ⟨(Nat.le_of_ble_eq_true rfl), (Nat.le_of_ble_eq_true rfl)⟩) hS (fun q _ h => h) (fun q h => h) (fun u8 t8 H1 locs ht8 hvm8 hw_100 hB hz1 hk1 hS => ?_)
                              obtain ⟨g_101, rfl⟩ : ∃ z, z = u8 := ⟨_, rfl⟩
                              try dsimp only at hw_100 hB
                              rw [ht8] at hB
                              have hP := hB
                              generalize H1 = H at hP hS ⊢
                              obtain ⟨fr_102, hF4⟩ := hw_100
                              rw [(rdp_1 _).1, (rdp_1 _).2] at hF4
                              refine lv_aload_n hx hb dX10_along_173 rfl (lv_at hl 0 rfl) ?_
                              refine lv_sipush (v := nI 1012) hx hb dX10_along_174 (by decide +kernel) ?_
                              refine lv_sipush (v := nI 1012) hx hb dX10_along_177 (by decide +kernel) ?_
                              refine lv_iload hx hb dX10_along_180 (lv_at hl 5 rfl) ?_
                              refine lv_iload hx hb dX10_along_182 (lv_at hl 6 rfl) ?_
                              refine va_calli (va_runS (As := [.int (nI rt), .int (nI vv)]) (rest := [.int (nI 1012), .int (nI 1012), .ref (ad 0)]) ⟨hx, hb, hml, hown, hts⟩ (c_X10_derivativeCell l dC dI A ad cA g_101 rt vv ) (va_cwS 2 hts (goodIn_app (goodIn_r [Cond.methodLink RX10 269 yX10_derivativeCell, Cond.static yX10_derivativeCell, Cond.initialized RX10] [13, 14, 6] rfl rfl) (goodIn_sub (fun w9 h9 => bk4 w9 h9) gw_X10_derivativeCell)) rfl rfl rfl (by decide +kernel) ⟨Nat.le_of_ble_eq_true rfl, Nat.le_of_ble_eq_true rfl⟩) ⟨fun a U g mk q => ⟨q.1, q.2.1, q.2.2.1, LY.moved (u := U) (U := U.calling g mk a) (Vm.Alike.refl U.vm) q.2.2.2⟩, fun U hU hW => ⟨rfl, by rw [hU]; exact fun q h => hA q (Nat.le_trans hS.1 h), by rw [hU]; exact hP, LY.moved hW.alike hL⟩⟩ rfl rfl hl.1 rfl (lv_room (Nat.le_of_ble_eq_true rfl)) dX10_along_184 ⟨(Nat.le_of_ble_eq_true rfl), (Nat.le_of_ble_eq_true rfl)⟩) hS (fun q _ h => h) (fun q h => h) (fun r_103 u8 t8 H1 locs ht8 hvm8 hw_104 hB hz1 hk1 hS => ?_)
                              obtain ⟨⟩ := u8
                              try dsimp only at hw_104 hB
                              rw [ht8] at hB
                              have hP := hB
                              generalize H1 = H at hP hS ⊢
                              obtain rfl := hw_104
                              have e1 : ((va_up p1 1012 w3.toInt)) (400 + 200 * vv + rt) = p3 (400 + 200 * vv + rt) := (va_up_ne _ _ (by omega)).trans (hO.1 _ (by omega) (by omega) (by omega) (by omega)).1
                              have e2 : ((va_up q1 1012 1)) (400 + 200 * vv + rt) = q3 (400 + 200 * vv + rt) := (va_up_ne _ _ (by omega)).trans (hO.1 _ (by omega) (by omega) (by omega) (by omega)).2
                              have b19 : 999 < 2 ^ 1200 := by decide +kernel
                              have f_105 : g_101 0 = .inr (13, Rob ad (va_up x 0 (nI 0))) := (fr_102 0 (by omega)).trans f_99
                              refine va_callv (va_runV (As := [.int (nI 1012), .int (nI 1012), .int (nI (400 + 200 * vv + rt))]) (rest := []) ⟨hx, hb, hml, hown, hts⟩ (c_X10_timesFractions l dC dI A ad cA g_101 (va_up x 0 (nI 0)) (va_up p1 1012 w3.toInt) (va_up q1 1012 1) 1012 1012 (400 + 200 * vv + rt) hF4 (by decide) (by decide) (by omega) (⟨by rw [va_up_self]; exact Nat.lt_of_le_of_lt (show _ ≤ 999 by omega) b19, by rw [va_up_self]; exact Nat.one_lt_two_pow (by decide)⟩) (by rw [e1, e2]; exact k_1012 (hfb.2 vv (by omega)))) (cwV 3 hts (goodIn_app (goodIn_r [Cond.methodLink RX10 143 yX10_timesFractions, Cond.instanceMethod yX10_timesFractions, Cond.selects RX10 yX10_timesFractions yX10_timesFractions, Cond.initialized RX10] [15, 16, 17, 6] rfl rfl) (goodIn_sub (fun w9 h9 => bk5 w9 h9) gw_X10_timesFractions)) rfl rfl rfl (by decide +kernel) ⟨Nat.le_of_ble_eq_true rfl, Nat.le_of_ble_eq_true rfl⟩) ⟨fun a U g mk q => ⟨q.1, q.2.1, q.2.2.1, LY.moved (u := U) (U := U.calling g mk a) (Vm.Alike.refl U.vm) q.2.2.2⟩, va_recv hK hP (ci := 13) (q0 := 0) rfl (wo_at (by decide) f_105), fun U hU hW => ⟨rfl, by rw [hU]; exact fun q h => hA q (Nat.le_trans hS.1 h), by rw [hU]; exact hP, LY.moved hW.alike hL⟩⟩ rfl rfl hl.1 rfl (lv_room (Nat.le_of_ble_eq_true rfl)) dX10_along_187 ⟨(Nat.le_of_ble_eq_true rfl), (Nat.le_of_ble_eq_true rfl)⟩) hS (fun q _ h => h) (fun q h => h) (fun u8 t8 H1 locs ht8 hvm8 hw_106 hB hz1 hk1 hS => ?_)
                              obtain ⟨g_107, pf2_108, qf2_109⟩ := u8
                              try dsimp only at hw_106 hB
                              rw [ht8] at hB
                              have hP := hB
                              generalize H1 = H at hP hS ⊢
                              obtain ⟨fr_110, hF5, hp5, hq5, ho5⟩ := hw_106
                              rw [e1, e2, va_up_self, va_up_self] at hp5 hq5
                              refine lv_aload_n hx hb dX10_along_190 rfl (lv_at hl 0 rfl) ?_
                              refine lv_sipush (v := nI 1015) hx hb dX10_along_191 (by decide +kernel) ?_
                              refine lv_sipush (v := nI 1015) hx hb dX10_along_194 (by decide +kernel) ?_
                              refine lv_sipush (v := nI 1012) hx hb dX10_along_197 (by decide +kernel) ?_
                              have f1 : pf2_108 1015 = p1 1015 ∧ qf2_109 1015 = q1 1015 := ⟨(ho5 1015 (by decide) (by decide)).1.trans (va_up_ne _ _ (by decide)), (ho5 1015 (by decide) (by decide)).2.trans (va_up_ne _ _ (by decide))⟩
                              obtain ⟨S9, hSb, hSe⟩ := hS9
                              have hS3 : S9.natAbs ≤ 3 * (999 * 2 ^ 723) := Nat.le_trans hSb (Nat.mul_le_mul_right _ hv3)
                              have hb15 := k_fbS hSe (hFL.red (by decide)) hM9.1 hS3 hM9.2
                              have hb12 : (pf2_108 1012).natAbs < 2 ^ 1000 ∧ qf2_109 1012 < 2 ^ 1000 := by have h9 := Eqv.times hp5 hq5 (show Eqv w3.toInt 1 w3.toInt 1 from rfl) (a3 vv (by omega)).2 (by decide) (hFa.red (by omega)).1; refine k_fbS h9 (hF5.red (by decide)) (by have := hM9.1; omega) ?_ (by have := hM9.2; omega); rw [Int.natAbs_mul]; have h8 := Nat.mul_le_mul (show w3.toInt.natAbs ≤ 999 by omega) (hDb vv (by omega)); omega
                              have f_111 : g_107 0 = .inr (13, Rob ad (va_up x 0 (nI 0))) := (fr_110 0 (by omega)).trans f_105
                              refine va_callv (va_runV (As := [.int (nI 1015), .int (nI 1015), .int (nI 1012)]) (rest := []) ⟨hx, hb, hml, hown, hts⟩ (c_X10_addFractions l dC dI A ad cA g_107 (va_up x 0 (nI 0)) pf2_108 qf2_109 1015 1015 1012 hF5 (by decide) (by decide) (by decide) (by rw [f1.1, f1.2]; exact k_1012 hb15) (k_1012 hb12)) (cwV 3 hts (goodIn_app (goodIn_r [Cond.methodLink RX10 171 yX10_addFractions, Cond.instanceMethod yX10_addFractions, Cond.selects RX10 yX10_addFractions yX10_addFractions, Cond.initialized RX10] [18, 19, 20, 6] rfl rfl) (goodIn_sub (fun w9 h9 => bk6 w9 h9) gw_X10_addFractions)) rfl rfl rfl (by decide +kernel) ⟨Nat.le_of_ble_eq_true rfl, Nat.le_of_ble_eq_true rfl⟩) ⟨fun a U g mk q => ⟨q.1, q.2.1, q.2.2.1, LY.moved (u := U) (U := U.calling g mk a) (Vm.Alike.refl U.vm) q.2.2.2⟩, va_recv hK hP (ci := 13) (q0 := 0) rfl (wo_at (by decide) f_111), fun U hU hW => ⟨rfl, by rw [hU]; exact fun q h => hA q (Nat.le_trans hS.1 h), by rw [hU]; exact hP, LY.moved hW.alike hL⟩⟩ rfl rfl hl.1 rfl (lv_room (Nat.le_of_ble_eq_true rfl)) dX10_along_200 ⟨(Nat.le_of_ble_eq_true rfl), (Nat.le_of_ble_eq_true rfl)⟩) hS (fun q _ h => h) (fun q h => h) (fun u8 t8 H1 locs ht8 hvm8 hw_112 hB hz1 hk1 hS => ?_)
                              obtain ⟨g_113, pf2_114, qf2_115⟩ := u8
                              try dsimp only at hw_112 hB
                              rw [ht8] at hB
                              have hP := hB
                              generalize H1 = H at hP hS ⊢
                              obtain ⟨fr_116, hF6, hp6, hq6, ho6⟩ := hw_112
                              rw [f1.1, f1.2] at hp6 hq6
                              have hSn : ∃ S : Int, S.natAbs ≤ (vv + 1) * (999 * 2 ^ 723) ∧ Eqv (pf2_114 1015) (qf2_115 1015) S M9 := ⟨S9 + w3.toInt * D9 vv, al_b hSb (by omega) (hDb vv (by omega)), al_step hp5 hq5 hp6 hq6 hSe (a3 vv (by omega)).2 (hFL.red (by decide)).1 (hFa.red (by omega)).1 hM9.1⟩
                              have hOk : ∀ f, f ≠ 1012 → f ≠ 1015 → f ≠ 1016 → pf2_114 f = p1 f ∧ qf2_115 f = q1 f := fun f h2 h3 h4 => ⟨(ho6 f h3 h4).1.trans ((ho5 f h2 h4).1.trans (va_up_ne _ _ h2)), (ho6 f h3 h4).2.trans ((ho5 f h2 h4).2.trans (va_up_ne _ _ h2))⟩
                              have hOn : (∀ f, f ≠ 1004 → f ≠ 1012 → f ≠ 1015 → f ≠ 1016 → pf2_114 f = p3 f ∧ qf2_115 f = q3 f) ∧ pf2_114 1004 = p3 (200 + rt) ∧ qf2_115 1004 = q3 (200 + rt) := ⟨fun f h1 h2 h3 h4 => ⟨(hOk f h2 h3 h4).1.trans (hO.1 f h1 h2 h3 h4).1, (hOk f h2 h3 h4).2.trans (hO.1 f h1 h2 h3 h4).2⟩, (hOk 1004 (by decide) (by decide) (by decide)).1.trans hO.2.1, (hOk 1004 (by decide) (by decide) (by decide)).2.trans hO.2.2⟩
                              refine lv_iinc (v := nI (vv + 1)) (lv' := [(7, .int (nI (vv + 1))), (0, .ref (ad 0)), (1, .int (nI vn)), (2, .int w1), (3, .int w2), (4, .int w3), (6, .int (nI rt))]) hx hb dX10_along_203 hl (k := 6) rfl (nI_add vv 1) (by decide) rfl (fun ls hl => ?_)
                              refine lv_goto (tgt := 135) hx hb dX10_along_206 (by decide) ?_
                              exact ih_86 (vv + 1) pf2_114 qf2_115 g_113 (fun (k : Nat) (hk : k ≠ 1 ∧ k ≠ 2 ∧ k ≠ 3) => (fr_116 k (by omega)).trans ((fr_110 k (by omega)).trans ((fr_102 k (by omega)).trans ((fr_88 k (by omega)).trans (rfl))))) (by omega) (by omega) hOn hSn hF6 _ _ _ hP hS (lv_sub (l' := [(0, .ref (ad 0)), (1, .int (nI vn)), (2, .int w1), (3, .int w2), (4, .int w3), (6, .int (nI rt)), (7, .int (nI (vv + 1)))]) hl [1, 2, 3, 4, 5, 6, 0] rfl)
                            · have c_96 := (nI_eq (a := vv) (b := 1) (by omega) (by decide)).mp c_96
                              refine lv_iload_n hx hb dX10_along_161 rfl (lv_at hl 3 rfl) ?_
                              refine lv_i2l hx hb dX10_along_162 rfl ?_
                              refine lv_topl (fun y_119 e_120 => ?_)
                              refine lv_goto (tgt := 169) hx hb dX10_along_163 (by decide) ?_
                              refine lv_lconst (v := lN 1) hx hb dX10_along_169 (by decide +kernel) ?_
                              have f_121 : g_87 0 = .inr (13, Rob ad (va_up x 0 (nI 0))) := (fr_88 0 (by omega)).trans ((fr_84 0 (by omega)).trans f_81)
                              refine va_callv (va_runV (As := [.int (nI 1012), .long y_119, .long (lN 1)]) (rest := []) ⟨hx, hb, hml, hown, hts⟩ (c_X10_setFraction l dC dI A ad cA g_87 (va_up x 0 (nI 0)) p1 q1 1012 y_119 (lN 1) w2.toInt 1 hFL (by decide) (by rw [e_120]; exact Int32.toInt_toInt64 _) (by omega) (by decide) (by decide) (by decide)) (cwV 3 hts (goodIn_app (goodIn_r [Cond.methodLink RX10 139 yX10_setFraction, Cond.instanceMethod yX10_setFraction, Cond.selects RX10 yX10_setFraction yX10_setFraction, Cond.initialized RX10] [10, 11, 12, 6] rfl rfl) (goodIn_sub (fun w9 h9 => bk3 w9 h9) gw_X10_setFraction)) rfl rfl rfl (by decide +kernel) ⟨Nat.le_of_ble_eq_true rfl, Nat.le_of_ble_eq_true rfl⟩) ⟨fun a U g mk q => ⟨q.1, q.2.1, q.2.2.1, LY.moved (u := U) (U := U.calling g mk a) (Vm.Alike.refl U.vm) q.2.2.2⟩, va_recv hK hP (ci := 13) (q0 := 0) rfl (wo_at (by decide) f_121), fun U hU hW => ⟨rfl, by rw [hU]; exact fun q h => hA q (Nat.le_trans hS.1 h), by rw [hU]; exact hP, LY.moved hW.alike hL⟩⟩ rfl rfl hl.1 rfl (lv_room (Nat.le_of_ble_eq_true rfl)) dX10_along_170 ⟨(Nat.le_of_ble_eq_true rfl), (Nat.le_of_ble_eq_true rfl)⟩) hS (fun q _ h => h) (fun q h => h) (fun u8 t8 H1 locs ht8 hvm8 hw_122 hB hz1 hk1 hS => ?_)
                              obtain ⟨g_123, rfl⟩ : ∃ z, z = u8 := ⟨_, rfl⟩
                              try dsimp only at hw_122 hB
                              rw [ht8] at hB
                              have hP := hB
                              generalize H1 = H at hP hS ⊢
                              obtain ⟨fr_124, hF4⟩ := hw_122
                              rw [(rdp_1 _).1, (rdp_1 _).2] at hF4
                              refine lv_aload_n hx hb dX10_along_173 rfl (lv_at hl 0 rfl) ?_
                              refine lv_sipush (v := nI 1012) hx hb dX10_along_174 (by decide +kernel) ?_
                              refine lv_sipush (v := nI 1012) hx hb dX10_along_177 (by decide +kernel) ?_
                              refine lv_iload hx hb dX10_along_180 (lv_at hl 5 rfl) ?_
                              refine lv_iload hx hb dX10_along_182 (lv_at hl 6 rfl) ?_
                              refine va_calli (va_runS (As := [.int (nI rt), .int (nI vv)]) (rest := [.int (nI 1012), .int (nI 1012), .ref (ad 0)]) ⟨hx, hb, hml, hown, hts⟩ (c_X10_derivativeCell l dC dI A ad cA g_123 rt vv ) (va_cwS 2 hts (goodIn_app (goodIn_r [Cond.methodLink RX10 269 yX10_derivativeCell, Cond.static yX10_derivativeCell, Cond.initialized RX10] [13, 14, 6] rfl rfl) (goodIn_sub (fun w9 h9 => bk4 w9 h9) gw_X10_derivativeCell)) rfl rfl rfl (by decide +kernel) ⟨Nat.le_of_ble_eq_true rfl, Nat.le_of_ble_eq_true rfl⟩) ⟨fun a U g mk q => ⟨q.1, q.2.1, q.2.2.1, LY.moved (u := U) (U := U.calling g mk a) (Vm.Alike.refl U.vm) q.2.2.2⟩, fun U hU hW => ⟨rfl, by rw [hU]; exact fun q h => hA q (Nat.le_trans hS.1 h), by rw [hU]; exact hP, LY.moved hW.alike hL⟩⟩ rfl rfl hl.1 rfl (lv_room (Nat.le_of_ble_eq_true rfl)) dX10_along_184 ⟨(Nat.le_of_ble_eq_true rfl), (Nat.le_of_ble_eq_true rfl)⟩) hS (fun q _ h => h) (fun q h => h) (fun r_125 u8 t8 H1 locs ht8 hvm8 hw_126 hB hz1 hk1 hS => ?_)
                              obtain ⟨⟩ := u8
                              try dsimp only at hw_126 hB
                              rw [ht8] at hB
                              have hP := hB
                              generalize H1 = H at hP hS ⊢
                              obtain rfl := hw_126
                              have e1 : ((va_up p1 1012 w2.toInt)) (400 + 200 * vv + rt) = p3 (400 + 200 * vv + rt) := (va_up_ne _ _ (by omega)).trans (hO.1 _ (by omega) (by omega) (by omega) (by omega)).1
                              have e2 : ((va_up q1 1012 1)) (400 + 200 * vv + rt) = q3 (400 + 200 * vv + rt) := (va_up_ne _ _ (by omega)).trans (hO.1 _ (by omega) (by omega) (by omega) (by omega)).2
                              have b19 : 999 < 2 ^ 1200 := by decide +kernel
                              have f_127 : g_123 0 = .inr (13, Rob ad (va_up x 0 (nI 0))) := (fr_124 0 (by omega)).trans f_121
                              refine va_callv (va_runV (As := [.int (nI 1012), .int (nI 1012), .int (nI (400 + 200 * vv + rt))]) (rest := []) ⟨hx, hb, hml, hown, hts⟩ (c_X10_timesFractions l dC dI A ad cA g_123 (va_up x 0 (nI 0)) (va_up p1 1012 w2.toInt) (va_up q1 1012 1) 1012 1012 (400 + 200 * vv + rt) hF4 (by decide) (by decide) (by omega) (⟨by rw [va_up_self]; exact Nat.lt_of_le_of_lt (show _ ≤ 999 by omega) b19, by rw [va_up_self]; exact Nat.one_lt_two_pow (by decide)⟩) (by rw [e1, e2]; exact k_1012 (hfb.2 vv (by omega)))) (cwV 3 hts (goodIn_app (goodIn_r [Cond.methodLink RX10 143 yX10_timesFractions, Cond.instanceMethod yX10_timesFractions, Cond.selects RX10 yX10_timesFractions yX10_timesFractions, Cond.initialized RX10] [15, 16, 17, 6] rfl rfl) (goodIn_sub (fun w9 h9 => bk5 w9 h9) gw_X10_timesFractions)) rfl rfl rfl (by decide +kernel) ⟨Nat.le_of_ble_eq_true rfl, Nat.le_of_ble_eq_true rfl⟩) ⟨fun a U g mk q => ⟨q.1, q.2.1, q.2.2.1, LY.moved (u := U) (U := U.calling g mk a) (Vm.Alike.refl U.vm) q.2.2.2⟩, va_recv hK hP (ci := 13) (q0 := 0) rfl (wo_at (by decide) f_127), fun U hU hW => ⟨rfl, by rw [hU]; exact fun q h => hA q (Nat.le_trans hS.1 h), by rw [hU]; exact hP, LY.moved hW.alike hL⟩⟩ rfl rfl hl.1 rfl (lv_room (Nat.le_of_ble_eq_true rfl)) dX10_along_187 ⟨(Nat.le_of_ble_eq_true rfl), (Nat.le_of_ble_eq_true rfl)⟩) hS (fun q _ h => h) (fun q h => h) (fun u8 t8 H1 locs ht8 hvm8 hw_128 hB hz1 hk1 hS => ?_)
                              obtain ⟨g_129, pf2_130, qf2_131⟩ := u8
                              try dsimp only at hw_128 hB
                              rw [ht8] at hB
                              have hP := hB
                              generalize H1 = H at hP hS ⊢
                              obtain ⟨fr_132, hF5, hp5, hq5, ho5⟩ := hw_128
                              rw [e1, e2, va_up_self, va_up_self] at hp5 hq5
                              refine lv_aload_n hx hb dX10_along_190 rfl (lv_at hl 0 rfl) ?_
                              refine lv_sipush (v := nI 1015) hx hb dX10_along_191 (by decide +kernel) ?_
                              refine lv_sipush (v := nI 1015) hx hb dX10_along_194 (by decide +kernel) ?_
                              refine lv_sipush (v := nI 1012) hx hb dX10_along_197 (by decide +kernel) ?_
                              have f1 : pf2_130 1015 = p1 1015 ∧ qf2_131 1015 = q1 1015 := ⟨(ho5 1015 (by decide) (by decide)).1.trans (va_up_ne _ _ (by decide)), (ho5 1015 (by decide) (by decide)).2.trans (va_up_ne _ _ (by decide))⟩
                              obtain ⟨S9, hSb, hSe⟩ := hS9
                              have hS3 : S9.natAbs ≤ 3 * (999 * 2 ^ 723) := Nat.le_trans hSb (Nat.mul_le_mul_right _ hv3)
                              have hb15 := k_fbS hSe (hFL.red (by decide)) hM9.1 hS3 hM9.2
                              have hb12 : (pf2_130 1012).natAbs < 2 ^ 1000 ∧ qf2_131 1012 < 2 ^ 1000 := by have h9 := Eqv.times hp5 hq5 (show Eqv w2.toInt 1 w2.toInt 1 from rfl) (a3 vv (by omega)).2 (by decide) (hFa.red (by omega)).1; refine k_fbS h9 (hF5.red (by decide)) (by have := hM9.1; omega) ?_ (by have := hM9.2; omega); rw [Int.natAbs_mul]; have h8 := Nat.mul_le_mul (show w2.toInt.natAbs ≤ 999 by omega) (hDb vv (by omega)); omega
                              have f_133 : g_129 0 = .inr (13, Rob ad (va_up x 0 (nI 0))) := (fr_132 0 (by omega)).trans f_127
                              refine va_callv (va_runV (As := [.int (nI 1015), .int (nI 1015), .int (nI 1012)]) (rest := []) ⟨hx, hb, hml, hown, hts⟩ (c_X10_addFractions l dC dI A ad cA g_129 (va_up x 0 (nI 0)) pf2_130 qf2_131 1015 1015 1012 hF5 (by decide) (by decide) (by decide) (by rw [f1.1, f1.2]; exact k_1012 hb15) (k_1012 hb12)) (cwV 3 hts (goodIn_app (goodIn_r [Cond.methodLink RX10 171 yX10_addFractions, Cond.instanceMethod yX10_addFractions, Cond.selects RX10 yX10_addFractions yX10_addFractions, Cond.initialized RX10] [18, 19, 20, 6] rfl rfl) (goodIn_sub (fun w9 h9 => bk6 w9 h9) gw_X10_addFractions)) rfl rfl rfl (by decide +kernel) ⟨Nat.le_of_ble_eq_true rfl, Nat.le_of_ble_eq_true rfl⟩) ⟨fun a U g mk q => ⟨q.1, q.2.1, q.2.2.1, LY.moved (u := U) (U := U.calling g mk a) (Vm.Alike.refl U.vm) q.2.2.2⟩, va_recv hK hP (ci := 13) (q0 := 0) rfl (wo_at (by decide) f_133), fun U hU hW => ⟨rfl, by rw [hU]; exact fun q h => hA q (Nat.le_trans hS.1 h), by rw [hU]; exact hP, LY.moved hW.alike hL⟩⟩ rfl rfl hl.1 rfl (lv_room (Nat.le_of_ble_eq_true rfl)) dX10_along_200 ⟨(Nat.le_of_ble_eq_true rfl), (Nat.le_of_ble_eq_true rfl)⟩) hS (fun q _ h => h) (fun q h => h) (fun u8 t8 H1 locs ht8 hvm8 hw_134 hB hz1 hk1 hS => ?_)
                              obtain ⟨g_135, pf2_136, qf2_137⟩ := u8
                              try dsimp only at hw_134 hB
                              rw [ht8] at hB
                              have hP := hB
                              generalize H1 = H at hP hS ⊢
                              obtain ⟨fr_138, hF6, hp6, hq6, ho6⟩ := hw_134
                              rw [f1.1, f1.2] at hp6 hq6
                              have hSn : ∃ S : Int, S.natAbs ≤ (vv + 1) * (999 * 2 ^ 723) ∧ Eqv (pf2_136 1015) (qf2_137 1015) S M9 := ⟨S9 + w2.toInt * D9 vv, al_b hSb (by omega) (hDb vv (by omega)), al_step hp5 hq5 hp6 hq6 hSe (a3 vv (by omega)).2 (hFL.red (by decide)).1 (hFa.red (by omega)).1 hM9.1⟩
                              have hOk : ∀ f, f ≠ 1012 → f ≠ 1015 → f ≠ 1016 → pf2_136 f = p1 f ∧ qf2_137 f = q1 f := fun f h2 h3 h4 => ⟨(ho6 f h3 h4).1.trans ((ho5 f h2 h4).1.trans (va_up_ne _ _ h2)), (ho6 f h3 h4).2.trans ((ho5 f h2 h4).2.trans (va_up_ne _ _ h2))⟩
                              have hOn : (∀ f, f ≠ 1004 → f ≠ 1012 → f ≠ 1015 → f ≠ 1016 → pf2_136 f = p3 f ∧ qf2_137 f = q3 f) ∧ pf2_136 1004 = p3 (200 + rt) ∧ qf2_137 1004 = q3 (200 + rt) := ⟨fun f h1 h2 h3 h4 => ⟨(hOk f h2 h3 h4).1.trans (hO.1 f h1 h2 h3 h4).1, (hOk f h2 h3 h4).2.trans (hO.1 f h1 h2 h3 h4).2⟩, (hOk 1004 (by decide) (by decide) (by decide)).1.trans hO.2.1, (hOk 1004 (by decide) (by decide) (by decide)).2.trans hO.2.2⟩
                              refine lv_iinc (v := nI (vv + 1)) (lv' := [(7, .int (nI (vv + 1))), (0, .ref (ad 0)), (1, .int (nI vn)), (2, .int w1), (3, .int w2), (4, .int w3), (6, .int (nI rt))]) hx hb dX10_along_203 hl (k := 6) rfl (nI_add vv 1) (by decide) rfl (fun ls hl => ?_)
                              refine lv_goto (tgt := 135) hx hb dX10_along_206 (by decide) ?_
                              exact ih_86 (vv + 1) pf2_136 qf2_137 g_135 (fun (k : Nat) (hk : k ≠ 1 ∧ k ≠ 2 ∧ k ≠ 3) => (fr_138 k (by omega)).trans ((fr_132 k (by omega)).trans ((fr_124 k (by omega)).trans ((fr_88 k (by omega)).trans (rfl))))) (by omega) (by omega) hOn hSn hF6 _ _ _ hP hS (lv_sub (l' := [(0, .ref (ad 0)), (1, .int (nI vn)), (2, .int w1), (3, .int w2), (4, .int w3), (6, .int (nI rt)), (7, .int (nI (vv + 1)))]) hl [1, 2, 3, 4, 5, 6, 0] rfl)
                          · have c_95 := (nI_eq (a := vv) (b := 0) (by omega) (by decide)).mp c_95
                            refine lv_iload_n hx hb dX10_along_150 rfl (lv_at hl 2 rfl) ?_
                            refine lv_i2l hx hb dX10_along_151 rfl ?_
                            refine lv_topl (fun y_141 e_142 => ?_)
                            refine lv_goto (tgt := 169) hx hb dX10_along_152 (by decide) ?_
                            refine lv_lconst (v := lN 1) hx hb dX10_along_169 (by decide +kernel) ?_
                            have f_143 : g_87 0 = .inr (13, Rob ad (va_up x 0 (nI 0))) := (fr_88 0 (by omega)).trans ((fr_84 0 (by omega)).trans f_81)
                            refine va_callv (va_runV (As := [.int (nI 1012), .long y_141, .long (lN 1)]) (rest := []) ⟨hx, hb, hml, hown, hts⟩ (c_X10_setFraction l dC dI A ad cA g_87 (va_up x 0 (nI 0)) p1 q1 1012 y_141 (lN 1) w1.toInt 1 hFL (by decide) (by rw [e_142]; exact Int32.toInt_toInt64 _) (by omega) (by decide) (by decide) (by decide)) (cwV 3 hts (goodIn_app (goodIn_r [Cond.methodLink RX10 139 yX10_setFraction, Cond.instanceMethod yX10_setFraction, Cond.selects RX10 yX10_setFraction yX10_setFraction, Cond.initialized RX10] [10, 11, 12, 6] rfl rfl) (goodIn_sub (fun w9 h9 => bk3 w9 h9) gw_X10_setFraction)) rfl rfl rfl (by decide +kernel) ⟨Nat.le_of_ble_eq_true rfl, Nat.le_of_ble_eq_true rfl⟩) ⟨fun a U g mk q => ⟨q.1, q.2.1, q.2.2.1, LY.moved (u := U) (U := U.calling g mk a) (Vm.Alike.refl U.vm) q.2.2.2⟩, va_recv hK hP (ci := 13) (q0 := 0) rfl (wo_at (by decide) f_143), fun U hU hW => ⟨rfl, by rw [hU]; exact fun q h => hA q (Nat.le_trans hS.1 h), by rw [hU]; exact hP, LY.moved hW.alike hL⟩⟩ rfl rfl hl.1 rfl (lv_room (Nat.le_of_ble_eq_true rfl)) dX10_along_170 ⟨(Nat.le_of_ble_eq_true rfl), (Nat.le_of_ble_eq_true rfl)⟩) hS (fun q _ h => h) (fun q h => h) (fun u8 t8 H1 locs ht8 hvm8 hw_144 hB hz1 hk1 hS => ?_)
                            obtain ⟨g_145, rfl⟩ : ∃ z, z = u8 := ⟨_, rfl⟩
                            try dsimp only at hw_144 hB
                            rw [ht8] at hB
                            have hP := hB
                            generalize H1 = H at hP hS ⊢
                            obtain ⟨fr_146, hF4⟩ := hw_144
                            rw [(rdp_1 _).1, (rdp_1 _).2] at hF4
                            refine lv_aload_n hx hb dX10_along_173 rfl (lv_at hl 0 rfl) ?_
                            refine lv_sipush (v := nI 1012) hx hb dX10_along_174 (by decide +kernel) ?_
                            refine lv_sipush (v := nI 1012) hx hb dX10_along_177 (by decide +kernel) ?_
                            refine lv_iload hx hb dX10_along_180 (lv_at hl 5 rfl) ?_
                            refine lv_iload hx hb dX10_along_182 (lv_at hl 6 rfl) ?_
                            refine va_calli (va_runS (As := [.int (nI rt), .int (nI vv)]) (rest := [.int (nI 1012), .int (nI 1012), .ref (ad 0)]) ⟨hx, hb, hml, hown, hts⟩ (c_X10_derivativeCell l dC dI A ad cA g_145 rt vv ) (va_cwS 2 hts (goodIn_app (goodIn_r [Cond.methodLink RX10 269 yX10_derivativeCell, Cond.static yX10_derivativeCell, Cond.initialized RX10] [13, 14, 6] rfl rfl) (goodIn_sub (fun w9 h9 => bk4 w9 h9) gw_X10_derivativeCell)) rfl rfl rfl (by decide +kernel) ⟨Nat.le_of_ble_eq_true rfl, Nat.le_of_ble_eq_true rfl⟩) ⟨fun a U g mk q => ⟨q.1, q.2.1, q.2.2.1, LY.moved (u := U) (U := U.calling g mk a) (Vm.Alike.refl U.vm) q.2.2.2⟩, fun U hU hW => ⟨rfl, by rw [hU]; exact fun q h => hA q (Nat.le_trans hS.1 h), by rw [hU]; exact hP, LY.moved hW.alike hL⟩⟩ rfl rfl hl.1 rfl (lv_room (Nat.le_of_ble_eq_true rfl)) dX10_along_184 ⟨(Nat.le_of_ble_eq_true rfl), (Nat.le_of_ble_eq_true rfl)⟩) hS (fun q _ h => h) (fun q h => h) (fun r_147 u8 t8 H1 locs ht8 hvm8 hw_148 hB hz1 hk1 hS => ?_)
                            obtain ⟨⟩ := u8
                            try dsimp only at hw_148 hB
                            rw [ht8] at hB
                            have hP := hB
                            generalize H1 = H at hP hS ⊢
                            obtain rfl := hw_148
                            have e1 : ((va_up p1 1012 w1.toInt)) (400 + 200 * vv + rt) = p3 (400 + 200 * vv + rt) := (va_up_ne _ _ (by omega)).trans (hO.1 _ (by omega) (by omega) (by omega) (by omega)).1
                            have e2 : ((va_up q1 1012 1)) (400 + 200 * vv + rt) = q3 (400 + 200 * vv + rt) := (va_up_ne _ _ (by omega)).trans (hO.1 _ (by omega) (by omega) (by omega) (by omega)).2
                            have b19 : 999 < 2 ^ 1200 := by decide +kernel
                            have f_149 : g_145 0 = .inr (13, Rob ad (va_up x 0 (nI 0))) := (fr_146 0 (by omega)).trans f_143
                            refine va_callv (va_runV (As := [.int (nI 1012), .int (nI 1012), .int (nI (400 + 200 * vv + rt))]) (rest := []) ⟨hx, hb, hml, hown, hts⟩ (c_X10_timesFractions l dC dI A ad cA g_145 (va_up x 0 (nI 0)) (va_up p1 1012 w1.toInt) (va_up q1 1012 1) 1012 1012 (400 + 200 * vv + rt) hF4 (by decide) (by decide) (by omega) (⟨by rw [va_up_self]; exact Nat.lt_of_le_of_lt (show _ ≤ 999 by omega) b19, by rw [va_up_self]; exact Nat.one_lt_two_pow (by decide)⟩) (by rw [e1, e2]; exact k_1012 (hfb.2 vv (by omega)))) (cwV 3 hts (goodIn_app (goodIn_r [Cond.methodLink RX10 143 yX10_timesFractions, Cond.instanceMethod yX10_timesFractions, Cond.selects RX10 yX10_timesFractions yX10_timesFractions, Cond.initialized RX10] [15, 16, 17, 6] rfl rfl) (goodIn_sub (fun w9 h9 => bk5 w9 h9) gw_X10_timesFractions)) rfl rfl rfl (by decide +kernel) ⟨Nat.le_of_ble_eq_true rfl, Nat.le_of_ble_eq_true rfl⟩) ⟨fun a U g mk q => ⟨q.1, q.2.1, q.2.2.1, LY.moved (u := U) (U := U.calling g mk a) (Vm.Alike.refl U.vm) q.2.2.2⟩, va_recv hK hP (ci := 13) (q0 := 0) rfl (wo_at (by decide) f_149), fun U hU hW => ⟨rfl, by rw [hU]; exact fun q h => hA q (Nat.le_trans hS.1 h), by rw [hU]; exact hP, LY.moved hW.alike hL⟩⟩ rfl rfl hl.1 rfl (lv_room (Nat.le_of_ble_eq_true rfl)) dX10_along_187 ⟨(Nat.le_of_ble_eq_true rfl), (Nat.le_of_ble_eq_true rfl)⟩) hS (fun q _ h => h) (fun q h => h) (fun u8 t8 H1 locs ht8 hvm8 hw_150 hB hz1 hk1 hS => ?_)
                            obtain ⟨g_151, pf2_152, qf2_153⟩ := u8
                            try dsimp only at hw_150 hB
                            rw [ht8] at hB
                            have hP := hB
                            generalize H1 = H at hP hS ⊢
                            obtain ⟨fr_154, hF5, hp5, hq5, ho5⟩ := hw_150
                            rw [e1, e2, va_up_self, va_up_self] at hp5 hq5
                            refine lv_aload_n hx hb dX10_along_190 rfl (lv_at hl 0 rfl) ?_
                            refine lv_sipush (v := nI 1015) hx hb dX10_along_191 (by decide +kernel) ?_
                            refine lv_sipush (v := nI 1015) hx hb dX10_along_194 (by decide +kernel) ?_
                            refine lv_sipush (v := nI 1012) hx hb dX10_along_197 (by decide +kernel) ?_
                            have f1 : pf2_152 1015 = p1 1015 ∧ qf2_153 1015 = q1 1015 := ⟨(ho5 1015 (by decide) (by decide)).1.trans (va_up_ne _ _ (by decide)), (ho5 1015 (by decide) (by decide)).2.trans (va_up_ne _ _ (by decide))⟩
                            obtain ⟨S9, hSb, hSe⟩ := hS9
                            have hS3 : S9.natAbs ≤ 3 * (999 * 2 ^ 723) := Nat.le_trans hSb (Nat.mul_le_mul_right _ hv3)
                            have hb15 := k_fbS hSe (hFL.red (by decide)) hM9.1 hS3 hM9.2
                            have hb12 : (pf2_152 1012).natAbs < 2 ^ 1000 ∧ qf2_153 1012 < 2 ^ 1000 := by have h9 := Eqv.times hp5 hq5 (show Eqv w1.toInt 1 w1.toInt 1 from rfl) (a3 vv (by omega)).2 (by decide) (hFa.red (by omega)).1; refine k_fbS h9 (hF5.red (by decide)) (by have := hM9.1; omega) ?_ (by have := hM9.2; omega); rw [Int.natAbs_mul]; have h8 := Nat.mul_le_mul (show w1.toInt.natAbs ≤ 999 by omega) (hDb vv (by omega)); omega
                            have f_155 : g_151 0 = .inr (13, Rob ad (va_up x 0 (nI 0))) := (fr_154 0 (by omega)).trans f_149
                            refine va_callv (va_runV (As := [.int (nI 1015), .int (nI 1015), .int (nI 1012)]) (rest := []) ⟨hx, hb, hml, hown, hts⟩ (c_X10_addFractions l dC dI A ad cA g_151 (va_up x 0 (nI 0)) pf2_152 qf2_153 1015 1015 1012 hF5 (by decide) (by decide) (by decide) (by rw [f1.1, f1.2]; exact k_1012 hb15) (k_1012 hb12)) (cwV 3 hts (goodIn_app (goodIn_r [Cond.methodLink RX10 171 yX10_addFractions, Cond.instanceMethod yX10_addFractions, Cond.selects RX10 yX10_addFractions yX10_addFractions, Cond.initialized RX10] [18, 19, 20, 6] rfl rfl) (goodIn_sub (fun w9 h9 => bk6 w9 h9) gw_X10_addFractions)) rfl rfl rfl (by decide +kernel) ⟨Nat.le_of_ble_eq_true rfl, Nat.le_of_ble_eq_true rfl⟩) ⟨fun a U g mk q => ⟨q.1, q.2.1, q.2.2.1, LY.moved (u := U) (U := U.calling g mk a) (Vm.Alike.refl U.vm) q.2.2.2⟩, va_recv hK hP (ci := 13) (q0 := 0) rfl (wo_at (by decide) f_155), fun U hU hW => ⟨rfl, by rw [hU]; exact fun q h => hA q (Nat.le_trans hS.1 h), by rw [hU]; exact hP, LY.moved hW.alike hL⟩⟩ rfl rfl hl.1 rfl (lv_room (Nat.le_of_ble_eq_true rfl)) dX10_along_200 ⟨(Nat.le_of_ble_eq_true rfl), (Nat.le_of_ble_eq_true rfl)⟩) hS (fun q _ h => h) (fun q h => h) (fun u8 t8 H1 locs ht8 hvm8 hw_156 hB hz1 hk1 hS => ?_)
                            obtain ⟨g_157, pf2_158, qf2_159⟩ := u8
                            try dsimp only at hw_156 hB
                            rw [ht8] at hB
                            have hP := hB
                            generalize H1 = H at hP hS ⊢
                            obtain ⟨fr_160, hF6, hp6, hq6, ho6⟩ := hw_156
                            rw [f1.1, f1.2] at hp6 hq6
                            have hSn : ∃ S : Int, S.natAbs ≤ (vv + 1) * (999 * 2 ^ 723) ∧ Eqv (pf2_158 1015) (qf2_159 1015) S M9 := ⟨S9 + w1.toInt * D9 vv, al_b hSb (by omega) (hDb vv (by omega)), al_step hp5 hq5 hp6 hq6 hSe (a3 vv (by omega)).2 (hFL.red (by decide)).1 (hFa.red (by omega)).1 hM9.1⟩
                            have hOk : ∀ f, f ≠ 1012 → f ≠ 1015 → f ≠ 1016 → pf2_158 f = p1 f ∧ qf2_159 f = q1 f := fun f h2 h3 h4 => ⟨(ho6 f h3 h4).1.trans ((ho5 f h2 h4).1.trans (va_up_ne _ _ h2)), (ho6 f h3 h4).2.trans ((ho5 f h2 h4).2.trans (va_up_ne _ _ h2))⟩
                            have hOn : (∀ f, f ≠ 1004 → f ≠ 1012 → f ≠ 1015 → f ≠ 1016 → pf2_158 f = p3 f ∧ qf2_159 f = q3 f) ∧ pf2_158 1004 = p3 (200 + rt) ∧ qf2_159 1004 = q3 (200 + rt) := ⟨fun f h1 h2 h3 h4 => ⟨(hOk f h2 h3 h4).1.trans (hO.1 f h1 h2 h3 h4).1, (hOk f h2 h3 h4).2.trans (hO.1 f h1 h2 h3 h4).2⟩, (hOk 1004 (by decide) (by decide) (by decide)).1.trans hO.2.1, (hOk 1004 (by decide) (by decide) (by decide)).2.trans hO.2.2⟩
                            refine lv_iinc (v := nI (vv + 1)) (lv' := [(7, .int (nI (vv + 1))), (0, .ref (ad 0)), (1, .int (nI vn)), (2, .int w1), (3, .int w2), (4, .int w3), (6, .int (nI rt))]) hx hb dX10_along_203 hl (k := 6) rfl (nI_add vv 1) (by decide) rfl (fun ls hl => ?_)
                            refine lv_goto (tgt := 135) hx hb dX10_along_206 (by decide) ?_
                            exact ih_86 (vv + 1) pf2_158 qf2_159 g_157 (fun (k : Nat) (hk : k ≠ 1 ∧ k ≠ 2 ∧ k ≠ 3) => (fr_160 k (by omega)).trans ((fr_154 k (by omega)).trans ((fr_146 k (by omega)).trans ((fr_88 k (by omega)).trans (rfl))))) (by omega) (by omega) hOn hSn hF6 _ _ _ hP hS (lv_sub (l' := [(0, .ref (ad 0)), (1, .int (nI vn)), (2, .int w1), (3, .int w2), (4, .int w3), (6, .int (nI rt)), (7, .int (nI (vv + 1)))]) hl [1, 2, 3, 4, 5, 6, 0] rfl)
                    exact loop_85 _ 0 (va_up (va_up p3 1004 (p3 (200 + rt))) 1015 0) (va_up (va_up q3 1004 (q3 (200 + rt))) 1015 1) g_83 (fun (k : Nat) (hk : k ≠ 1 ∧ k ≠ 2 ∧ k ≠ 3) => rfl) (Nat.lt_succ_self _) (by omega) (⟨fun f h1 h2 h3 h4 => ⟨(va_up_ne _ _ h3).trans (va_up_ne _ _ h1), (va_up_ne _ _ h3).trans (va_up_ne _ _ h1)⟩, (va_up_ne _ _ (by decide)).trans (va_up_self _ _ _), (va_up_ne _ _ (by decide)).trans (va_up_self _ _ _)⟩) (⟨0, Nat.zero_le _, by rw [va_up_self, va_up_self]; exact Eqv.zero⟩) hFs _ _ _ hP hS (lv_sub (l' := [(0, .ref (ad 0)), (1, .int (nI vn)), (2, .int w1), (3, .int w2), (4, .int w3), (6, .int (nI rt)), (7, .int (nI 0))]) hl [3, 4, 5, 6, 7, 1, 0] rfl)
                  · have c_62 := mt (k_iLE (a := 0) (b := nm vn) (show nI 0 = iI 0 from by decide) rfl (by omega) (by omega)).mpr c_62
                    refine lv_iconst (v := nI 2) hx hb dX10_along_80 (by decide +kernel) ?_
                    refine lv_goto (tgt := 85) hx hb dX10_along_81 (by decide) ?_
                    refine m_put (D := (dC, dI)) (v := .int (nI 2)) (tv := .int) (C := RX10) (T := TX10) (N := 29) hx hb hts bk0 tyX10 tyX10_ok nmX10 hown hK hP hD hS 0 (by decide) r_3 rfl 0 (by decide) (hts (.fieldLink RX10 78 "GradientDeskModel" "thrown" "I") (List.mem_of_getElem? (i := 1) rfl)) (fun _ h9 => h9) rfl (by decide +kernel) rfl rfl (Nat.le_of_ble_eq_true rfl) dX10_along_85 (fun H locs g_163 f_164 fr_165 hP hS => ?_)
                    have f_164 : g_163 0 = .inr (13, Rob ad (va_up x 0 (nI 2))) := f_164
                    refine lv_aload_n hx hb dX10_along_88 rfl (lv_at hl 1 rfl) ?_
                    refine m_get (D := (dC, dI)) (v := .int (nI 2)) (C := RX10) (T := TX10) (N := 29) hx hb hts bk0 hown hK hP 0 (by decide) f_164 rfl 0 (by decide) (hts (.fieldLink RX10 78 "GradientDeskModel" "thrown" "I") (List.mem_of_getElem? (i := 1) rfl)) (fun _ h9 => h9) (congrArg (fun z => some (Value.int z)) (show (va_up x 0 (nI 2)) 0 = (nI 2) from rfl)) dX10_along_89 ?_
                    refine lv_if_le (tgt := 96) hx hb dX10_along_92 (by decide) (fun c_166 => absurd c_166 (by decide)) (fun c_166 => ?_)
                    refine W.widen (k := 0) (n := 0) (by omega) (by omega) ?_
                    exact W.vret hx hb hr (fun t9 ht9 hW9 => ⟨⟨(g_163, va_up x 0 (nI 2)), rfl, ⟨RI.num hI0 (hF0.setx (fun (k : Nat) (hk : k = 1 ∨ k = 2 ∨ k = 3) => (fr_165 k (by omega)).trans (rfl)) f_164 rfl) (fun (k : Nat) (hk : (4 ≤ k ∧ k ≤ 11) ∨ k = 16) => (fr_165 k (by omega)).trans (rfl)) (hVO0.same (fun (k : Nat) (hk : 12 ≤ k ∧ k ≤ 19) => (fr_165 k (by omega)).trans (rfl))) (va_up_ne _ _ (by decide)) (va_up_ne _ _ (by decide)) (va_up_ne _ _ (by decide)) (fun _ _ => ⟨rfl, rfl⟩) hBd, (va_up_ne _ _ (by decide)), Or.inr ⟨hok, vn, hvn, by omega, Or.inl ⟨by omega, va_up_self _ _ _⟩⟩⟩, by show va_P (dC, dI) vwCl _ t9.heap; rw [ht9]; exact hP⟩, hS.F ht9⟩) hS.2.2 dX10_along_95
                · have c_59 := mt (k_le w3 (nI 999)).mpr c_59
                  rw [show (nI 999).toInt = 999 from by decide] at c_59
                  refine lv_iconst (v := nI 1) hx hb dX10_along_54 (by decide +kernel) ?_
                  refine lv_goto (tgt := 59) hx hb dX10_along_55 (by decide) ?_
                  refine lv_istore (lv' := [(5, .int (nI 1)), (0, .ref (ad 0)), (1, .int v), (2, .int w1), (3, .int w2), (4, .int w3)]) hx hb dX10_along_59 hl (by decide) rfl (fun ls hl => ?_)
                  refine lv_aload_n hx hb dX10_along_61 rfl (lv_at hl 1 rfl) ?_
                  refine lv_iload hx hb dX10_along_62 (lv_at hl 0 rfl) ?_
                  refine lv_if_eq (tgt := 71) hx hb dX10_along_64 (by decide) (fun c_167 => absurd c_167 (by decide)) (fun c_167 => ?_)
                  refine lv_iconst (v := nI 1) hx hb dX10_along_67 (by decide +kernel) ?_
                  refine lv_goto (tgt := 85) hx hb dX10_along_68 (by decide) ?_
                  refine m_put (D := (dC, dI)) (v := .int (nI 1)) (tv := .int) (C := RX10) (T := TX10) (N := 29) hx hb hts bk0 tyX10 tyX10_ok nmX10 hown hK hP hD hS 0 (by decide) r_3 rfl 0 (by decide) (hts (.fieldLink RX10 78 "GradientDeskModel" "thrown" "I") (List.mem_of_getElem? (i := 1) rfl)) (fun _ h9 => h9) rfl (by decide +kernel) rfl rfl (Nat.le_of_ble_eq_true rfl) dX10_along_85 (fun H locs g_168 f_169 fr_170 hP hS => ?_)
                  have f_169 : g_168 0 = .inr (13, Rob ad (va_up x 0 (nI 1))) := f_169
                  refine lv_aload_n hx hb dX10_along_88 rfl (lv_at hl 1 rfl) ?_
                  refine m_get (D := (dC, dI)) (v := .int (nI 1)) (C := RX10) (T := TX10) (N := 29) hx hb hts bk0 hown hK hP 0 (by decide) f_169 rfl 0 (by decide) (hts (.fieldLink RX10 78 "GradientDeskModel" "thrown" "I") (List.mem_of_getElem? (i := 1) rfl)) (fun _ h9 => h9) (congrArg (fun z => some (Value.int z)) (show (va_up x 0 (nI 1)) 0 = (nI 1) from rfl)) dX10_along_89 ?_
                  refine lv_if_le (tgt := 96) hx hb dX10_along_92 (by decide) (fun c_171 => absurd c_171 (by decide)) (fun c_171 => ?_)
                  refine W.widen (k := 0) (n := 0) (by omega) (by omega) ?_
                  exact W.vret hx hb hr (fun t9 ht9 hW9 => ⟨⟨(g_168, va_up x 0 (nI 1)), rfl, ⟨RI.num hI0 (hF0.setx (fun (k : Nat) (hk : k = 1 ∨ k = 2 ∨ k = 3) => (fr_170 k (by omega)).trans (rfl)) f_169 rfl) (fun (k : Nat) (hk : (4 ≤ k ∧ k ≤ 11) ∨ k = 16) => (fr_170 k (by omega)).trans (rfl)) (hVO0.same (fun (k : Nat) (hk : 12 ≤ k ∧ k ≤ 19) => (fr_170 k (by omega)).trans (rfl))) (va_up_ne _ _ (by decide)) (va_up_ne _ _ (by decide)) (va_up_ne _ _ (by decide)) (fun _ _ => ⟨rfl, rfl⟩) hBd, (va_up_ne _ _ (by decide)), Or.inl ⟨by omega, va_up_self _ _ _⟩⟩, by show va_P (dC, dI) vwCl _ t9.heap; rw [ht9]; exact hP⟩, hS.F ht9⟩) hS.2.2 dX10_along_95
def wd_X10_written : List Cond := .code yX10_written cX10_written 2 (some .int) :: (([.fieldLink RX10 78 "GradientDeskModel" "thrown" "I", .fieldLink RX10 293 "GradientDeskModel" "written" "I", .fieldLink RX10 62 "GradientDeskModel" "out" "[I"] : List Cond) ++ (u_ws RX10 TX10 29 ++ ([])))
theorem gw_X10_written : wd_X10_written.all goodWord = true := k_allc rfl (k_all (by decide +kernel) (k_all (gu_X10) (rfl)))
set_option maxHeartbeats 4000000 in
set_option maxRecDepth 100000 in
theorem c_X10_written (l : Launch) (dC : Nat → ClassId) (dI : Nat → Nat → Nat) (A : Nat → Prop) (ad : Nat → Nat) (cA : Nat → ClassId) (g : Nat → va_E) (x : Nat → Int32) (L : List PD) (nm : Nat → Int) (tx : Nat → Nat) (ty : Nat) (wr : List Int) (v : Int32) (hI : RIE ad cA g x L nm tx ty wr) : Met l yX10_written wd_X10_written ({ frames := 10, cells := 0, slots := 0, locals := 200 }) (va_Pc [.ref (ad 0), .int v] (PR NSr tyr dC dI A ad cA g)) (va_Qi (fun (r : Int32) => fun (u : (Nat → va_E) × (Nat → Int32)) => match u with | (g2, x2) => RIE ad cA g2 x2 L nm tx ty wr ∧ x2 2 = x 2 ∧ ((¬ (0 ≤ v.toInt ∧ v.toInt < wr.length) ∧ x2 0 = nI 1 ∧ r = nI 0) ∨ (x2 0 = nI 0 ∧ ∃ kn : Nat, v = nI kn ∧ kn < wr.length ∧ r = iI (wr.getD kn 0)))) (fun (u : (Nat → va_E) × (Nat → Int32)) (t : State) => va_P (dC, dI) vwCl (wo ad NSr u.1) t.heap) A) (0) (0) A := by
  refine Met.ofW (cc := cX10_written) (maxL := 2) (ret := (some .int)) (by decide) rfl ?_
  intro p e s m args below meth c s₁ B hml hv
  obtain ⟨rfl, hA, hP, hL⟩ := hv
  have hx := B.exec
  have hb := B.bytes
  have hr := B.returns
  have hts := atoms_spec (ws := wd_X10_written) B.pre
  have hown : s.vm.findClass RX10 = some m.cls := findClass_of_methodNamed B.named
  have hlocks := B.notSynchronized
  have hK := hL.1
  have hD : ∀ g, va_D A (wo ad NSr g) := fun g => wo_D hL.2.1 hL.2.2 g
  have hS : va_S A s.heap s.heap [] := va_S.rf
  have bk0 : ∀ w ∈ u_ws RX10 TX10 29, w ∈ wd_X10_written := fun _ h => List.mem_cons_of_mem _ (List.mem_append_right _ (List.mem_append_left _ h))
  have hl := lv_entry ([.ref (ad 0), .int v]) (n := 2) (Nat.le_of_ble_eq_true rfl)
  rw [lg_entry_eq]
  generalize (lg_sl ([.ref (ad 0), .int v]) ++ List.replicate (2 - (lg_sl ([.ref (ad 0), .int v])).length) Slot.unset).toArray = ls at hl ⊢
  have hl : lv_has ls 2 [(0, .ref (ad 0)), (1, .int v)] := hl
  obtain ⟨pf, qf, pt, hI0⟩ := hI
  have hI1 := hI0
  obtain ⟨hF, hPt, hM, hW, hL2, hmd, hTx, hty, hty2, hwr, hwr2, hVO, hBd⟩ := hI1
  have hVO0 := hVO
  have hPt0 := hPt
  have hTx0 := hTx
  have hF0 := hF
  obtain ⟨vf, hV, hq⟩ := hF
  have hc_1 := hV
  obtain ⟨pnz_2, lnz_2, bnz_2, hRz_2, hvz_2⟩ := hc_1
  obtain ⟨r_3, r_4, r_5, r_6, r_7, r_8, r_9⟩ := hRz_2
  obtain ⟨p_10, p_11, p_12, p_13, p_14, p_15, hpt_16⟩ := hPt
  obtain ⟨t4, t4b, t11, t11b, t11c⟩ := hTx
  obtain ⟨⟨rc, v12, v12b⟩, ⟨f13, v13⟩, ⟨f14, v14⟩, ⟨f15, v15⟩, ⟨f16, v16⟩, ⟨f17, v17⟩, ⟨f18, v18⟩, ⟨f19, v19⟩⟩ := hVO
  obtain ⟨fo, o16, o16b⟩ := hwr2.2
  refine lv_aload_n hx hb dX10_written_0 rfl (lv_at hl 0 rfl) ?_
  refine lv_iload_n hx hb dX10_written_1 rfl (lv_at hl 1 rfl) ?_
  refine lv_if_lt (tgt := 13) hx hb dX10_written_2 (by decide) (fun c_17 => ?_) (fun c_17 => ?_)
  · have c_17 := (k_lt v (nI 0)).mp c_17
    rw [show (nI 0).toInt = 0 from by decide] at c_17
    refine lv_iconst (v := nI 1) hx hb dX10_written_13 (by decide +kernel) ?_
    refine lv_goto (tgt := 18) hx hb dX10_written_14 (by decide) ?_
    refine m_put (D := (dC, dI)) (v := .int (nI 1)) (tv := .int) (C := RX10) (T := TX10) (N := 29) hx hb hts bk0 tyX10 tyX10_ok nmX10 hown hK hP hD hS 0 (by decide) r_3 rfl 0 (by decide) (hts (.fieldLink RX10 78 "GradientDeskModel" "thrown" "I") (List.mem_of_getElem? (i := 1) rfl)) (fun _ h9 => h9) rfl (by decide +kernel) rfl rfl (Nat.le_of_ble_eq_true rfl) dX10_written_18 (fun H locs g_18 f_19 fr_20 hP hS => ?_)
    have f_19 : g_18 0 = .inr (13, Rob ad (va_up x 0 (nI 1))) := f_19
    refine lv_aload_n hx hb dX10_written_21 rfl (lv_at hl 0 rfl) ?_
    refine m_get (D := (dC, dI)) (v := .int (nI 1)) (C := RX10) (T := TX10) (N := 29) hx hb hts bk0 hown hK hP 0 (by decide) f_19 rfl 0 (by decide) (hts (.fieldLink RX10 78 "GradientDeskModel" "thrown" "I") (List.mem_of_getElem? (i := 1) rfl)) (fun _ h9 => h9) (congrArg (fun z => some (Value.int z)) (show (va_up x 0 (nI 1)) 0 = (nI 1) from rfl)) dX10_written_22 ?_
    refine lv_if_le (tgt := 32) hx hb dX10_written_25 (by decide) (fun c_21 => absurd c_21 (by decide)) (fun c_21 => ?_)
    refine lv_iconst (v := nI 0) hx hb dX10_written_28 (by decide +kernel) ?_
    refine lv_goto (tgt := 38) hx hb dX10_written_29 (by decide) ?_
    refine W.widen (k := 0) (n := 0) (by omega) (by omega) ?_
    exact W.iret (v := nI 0) hx hb hr (fun t9 ht9 hW9 => ⟨⟨nI 0, (g_18, va_up x 0 (nI 1)), rfl, ⟨RI.num hI0 (hF0.setx (fun (k : Nat) (hk : k = 1 ∨ k = 2 ∨ k = 3) => (fr_20 k (by omega)).trans (rfl)) f_19 rfl) (fun (k : Nat) (hk : (4 ≤ k ∧ k ≤ 11) ∨ k = 16) => (fr_20 k (by omega)).trans (rfl)) (hVO0.same (fun (k : Nat) (hk : 12 ≤ k ∧ k ≤ 19) => (fr_20 k (by omega)).trans (rfl))) (va_up_ne _ _ (by decide)) (va_up_ne _ _ (by decide)) (va_up_ne _ _ (by decide)) (fun _ _ => ⟨rfl, rfl⟩) hBd, (va_up_ne _ _ (by decide)), Or.inl ⟨by omega, va_up_self _ _ _, rfl⟩⟩, by show va_P (dC, dI) vwCl _ t9.heap; rw [ht9]; exact hP⟩, hS.F ht9⟩) hS.2.2 dX10_written_38
  · have c_17 := mt (k_lt v (nI 0)).mpr c_17
    rw [show (nI 0).toInt = 0 from by decide] at c_17
    refine lv_iload_n hx hb dX10_written_5 rfl (lv_at hl 1 rfl) ?_
    refine lv_aload_n hx hb dX10_written_6 rfl (lv_at hl 0 rfl) ?_
    refine m_get (D := (dC, dI)) (v := .int (nI wr.length)) (C := RX10) (T := TX10) (N := 29) hx hb hts bk0 hown hK hP 0 (by decide) r_3 rfl 25 (by decide) (hts (.fieldLink RX10 293 "GradientDeskModel" "written" "I") (List.mem_of_getElem? (i := 2) rfl)) (fun _ h9 => h9) (congrArg (fun z => some (Value.int z)) hwr) dX10_written_7 ?_
    refine lv_icmp_lt (tgt := 17) hx hb dX10_written_10 (by decide) (fun c_22 => ?_) (fun c_22 => ?_)
    · have c_22 := (k_lt v (nI wr.length)).mp c_22
      rw [nI_toInt (show wr.length < 2 ^ 31 by omega)] at c_22
      refine lv_iconst (v := nI 0) hx hb dX10_written_17 (by decide +kernel) ?_
      refine m_put (D := (dC, dI)) (v := .int (nI 0)) (tv := .int) (C := RX10) (T := TX10) (N := 29) hx hb hts bk0 tyX10 tyX10_ok nmX10 hown hK hP hD hS 0 (by decide) r_3 rfl 0 (by decide) (hts (.fieldLink RX10 78 "GradientDeskModel" "thrown" "I") (List.mem_of_getElem? (i := 1) rfl)) (fun _ h9 => h9) rfl (by decide +kernel) rfl rfl (Nat.le_of_ble_eq_true rfl) dX10_written_18 (fun H locs g_23 f_24 fr_25 hP hS => ?_)
      have f_24 : g_23 0 = .inr (13, Rob ad (va_up x 0 (nI 0))) := f_24
      refine lv_aload_n hx hb dX10_written_21 rfl (lv_at hl 0 rfl) ?_
      refine m_get (D := (dC, dI)) (v := .int (nI 0)) (C := RX10) (T := TX10) (N := 29) hx hb hts bk0 hown hK hP 0 (by decide) f_24 rfl 0 (by decide) (hts (.fieldLink RX10 78 "GradientDeskModel" "thrown" "I") (List.mem_of_getElem? (i := 1) rfl)) (fun _ h9 => h9) (congrArg (fun z => some (Value.int z)) (show (va_up x 0 (nI 0)) 0 = (nI 0) from rfl)) dX10_written_22 ?_
      refine lv_if_le (tgt := 32) hx hb dX10_written_25 (by decide) (fun c_26 => ?_) (fun c_26 => absurd c_26 (by decide))
      obtain ⟨kn, hkn, ekn, -⟩ := k_nat (x := v) (by omega)
      subst hkn
      refine lv_aload_n hx hb dX10_written_32 rfl (lv_at hl 0 rfl) ?_
      refine m_get (D := (dC, dI)) (v := .ref (ad 16)) (C := RX10) (T := TX10) (N := 29) hx hb hts bk0 hown hK hP 0 (by decide) f_24 rfl 23 (by decide) (hts (.fieldLink RX10 62 "GradientDeskModel" "out" "[I") (List.mem_of_getElem? (i := 3) rfl)) (fun _ h9 => h9) rfl dX10_written_33 ?_
      refine lv_iload_n hx hb dX10_written_36 rfl (lv_at hl 1 rfl) ?_
      have f_27 : g_23 16 = .inl (cA 16, 256, .inl (fun j => iI (fo j))) := (fr_25 16 (by omega)).trans o16
      refine m_iald hx hb hK hP 16 (by decide) rfl f_27 (i := kn) (by omega) (by decide) dX10_written_37 ?_
      refine W.widen (k := 0) (n := 0) (by omega) (by omega) ?_
      exact W.iret (v := iI (fo kn)) hx hb hr (fun t9 ht9 hW9 => ⟨⟨iI (fo kn), (g_23, va_up x 0 (nI 0)), rfl, ⟨RI.num hI0 (hF0.setx (fun (k : Nat) (hk : k = 1 ∨ k = 2 ∨ k = 3) => (fr_25 k (by omega)).trans (rfl)) f_24 rfl) (fun (k : Nat) (hk : (4 ≤ k ∧ k ≤ 11) ∨ k = 16) => (fr_25 k (by omega)).trans (rfl)) (hVO0.same (fun (k : Nat) (hk : 12 ≤ k ∧ k ≤ 19) => (fr_25 k (by omega)).trans (rfl))) (va_up_ne _ _ (by decide)) (va_up_ne _ _ (by decide)) (va_up_ne _ _ (by decide)) (fun _ _ => ⟨rfl, rfl⟩) hBd, (va_up_ne _ _ (by decide)), Or.inr ⟨va_up_self _ _ _, kn, rfl, by omega, congrArg iI (o16b kn (by omega))⟩⟩, by show va_P (dC, dI) vwCl _ t9.heap; rw [ht9]; exact hP⟩, hS.F ht9⟩) hS.2.2 dX10_written_38
    · have c_22 := mt (k_lt v (nI wr.length)).mpr c_22
      rw [nI_toInt (show wr.length < 2 ^ 31 by omega)] at c_22
      refine lv_iconst (v := nI 1) hx hb dX10_written_13 (by decide +kernel) ?_
      refine lv_goto (tgt := 18) hx hb dX10_written_14 (by decide) ?_
      refine m_put (D := (dC, dI)) (v := .int (nI 1)) (tv := .int) (C := RX10) (T := TX10) (N := 29) hx hb hts bk0 tyX10 tyX10_ok nmX10 hown hK hP hD hS 0 (by decide) r_3 rfl 0 (by decide) (hts (.fieldLink RX10 78 "GradientDeskModel" "thrown" "I") (List.mem_of_getElem? (i := 1) rfl)) (fun _ h9 => h9) rfl (by decide +kernel) rfl rfl (Nat.le_of_ble_eq_true rfl) dX10_written_18 (fun H locs g_28 f_29 fr_30 hP hS => ?_)
      have f_29 : g_28 0 = .inr (13, Rob ad (va_up x 0 (nI 1))) := f_29
      refine lv_aload_n hx hb dX10_written_21 rfl (lv_at hl 0 rfl) ?_
      refine m_get (D := (dC, dI)) (v := .int (nI 1)) (C := RX10) (T := TX10) (N := 29) hx hb hts bk0 hown hK hP 0 (by decide) f_29 rfl 0 (by decide) (hts (.fieldLink RX10 78 "GradientDeskModel" "thrown" "I") (List.mem_of_getElem? (i := 1) rfl)) (fun _ h9 => h9) (congrArg (fun z => some (Value.int z)) (show (va_up x 0 (nI 1)) 0 = (nI 1) from rfl)) dX10_written_22 ?_
      refine lv_if_le (tgt := 32) hx hb dX10_written_25 (by decide) (fun c_31 => absurd c_31 (by decide)) (fun c_31 => ?_)
      refine lv_iconst (v := nI 0) hx hb dX10_written_28 (by decide +kernel) ?_
      refine lv_goto (tgt := 38) hx hb dX10_written_29 (by decide) ?_
      refine W.widen (k := 0) (n := 0) (by omega) (by omega) ?_
      exact W.iret (v := nI 0) hx hb hr (fun t9 ht9 hW9 => ⟨⟨nI 0, (g_28, va_up x 0 (nI 1)), rfl, ⟨RI.num hI0 (hF0.setx (fun (k : Nat) (hk : k = 1 ∨ k = 2 ∨ k = 3) => (fr_30 k (by omega)).trans (rfl)) f_29 rfl) (fun (k : Nat) (hk : (4 ≤ k ∧ k ≤ 11) ∨ k = 16) => (fr_30 k (by omega)).trans (rfl)) (hVO0.same (fun (k : Nat) (hk : 12 ≤ k ∧ k ≤ 19) => (fr_30 k (by omega)).trans (rfl))) (va_up_ne _ _ (by decide)) (va_up_ne _ _ (by decide)) (va_up_ne _ _ (by decide)) (fun _ _ => ⟨rfl, rfl⟩) hBd, (va_up_ne _ _ (by decide)), Or.inl ⟨by omega, va_up_self _ _ _, rfl⟩⟩, by show va_P (dC, dI) vwCl _ t9.heap; rw [ht9]; exact hP⟩, hS.F ht9⟩) hS.2.2 dX10_written_38
