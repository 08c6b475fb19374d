section
def wd_X10_along : List Cond := .code yX10_along cX10_along 8 none :: (([.fieldLink RX10 78 "GradientDeskModel" "thrown" "I", .fieldLink RX10 47 "GradientDeskModel" "names" "[I", .methodLink RX10 275 yX10_reckonAll, .instanceMethod yX10_reckonAll, .selects RX10 yX10_reckonAll yX10_reckonAll, .initialized RX10, .methodLink RX10 136 yX10_copyFraction, .instanceMethod yX10_copyFraction, .selects RX10 yX10_copyFraction yX10_copyFraction, .methodLink RX10 139 yX10_setFraction, .instanceMethod yX10_setFraction, .selects RX10 yX10_setFraction yX10_setFraction, .methodLink RX10 269 yX10_derivativeCell, .static yX10_derivativeCell, .methodLink RX10 143 yX10_timesFractions, .instanceMethod yX10_timesFractions, .selects RX10 yX10_timesFractions yX10_timesFractions, .methodLink RX10 171 yX10_addFractions, .instanceMethod yX10_addFractions, .selects RX10 yX10_addFractions yX10_addFractions] : List Cond) ++ (u_ws RX10 TX10 29 ++ (wd_X10_reckonAll ++ (wd_X10_copyFraction ++ (wd_X10_setFraction ++ (wd_X10_derivativeCell ++ (wd_X10_timesFractions ++ (wd_X10_addFractions ++ ([])))))))))
theorem gw_X10_along : wd_X10_along.all goodWord = true := k_allc rfl (k_all (by decide +kernel) (k_all (gu_X10) (k_all (gw_X10_reckonAll) (k_all (gw_X10_copyFraction) (k_all (gw_X10_setFraction) (k_all (gw_X10_derivativeCell) (k_all (gw_X10_timesFractions) (k_all (gw_X10_addFractions) (rfl)))))))))
set_option maxHeartbeats 4000000 in
set_option maxRecDepth 100000 in
theorem c_X10_along (l : Launch) (dC : Nat → ClassId) (dI : Nat → Nat → Nat) (A : Nat → Prop) (ad : Nat → Nat) (cA : Nat → ClassId) (g : Nat → va_E) (x : Nat → Int32) (L : List PD) (nm : Nat → Int) (tx : Nat → Nat) (ty : Nat) (wr : List Int) (v : Int32) (w1 : Int32) (w2 : Int32) (w3 : Int32) (hI : RIE ad cA g x L nm tx ty wr) : Met l yX10_along wd_X10_along ({ frames := 110, cells := 0, slots := 0, locals := 2200 }) (va_Pc [.ref (ad 0), .int v, .int w1, .int w2, .int w3] (PR NSr tyr dC dI A ad cA g)) (va_Qv (fun (u : (Nat → va_E) × (Nat → Int32)) => match u with | (g2, x2) => RIE ad cA g2 x2 L nm tx ty wr ∧ x2 2 = x 2 ∧ ((¬ (0 ≤ v.toInt ∧ v.toInt ≤ 7 ∧ -999 ≤ w1.toInt ∧ w1.toInt ≤ 999 ∧ -999 ≤ w2.toInt ∧ w2.toInt ≤ 999 ∧ -999 ≤ w3.toInt ∧ w3.toInt ≤ 999) ∧ x2 0 = nI 1) ∨ ((0 ≤ v.toInt ∧ v.toInt ≤ 7 ∧ -999 ≤ w1.toInt ∧ w1.toInt ≤ 999 ∧ -999 ≤ w2.toInt ∧ w2.toInt ≤ 999 ∧ -999 ≤ w3.toInt ∧ w3.toInt ≤ 999) ∧ ∃ vn, v = nI vn ∧ vn ≤ 7 ∧ ((nm vn < 0 ∧ x2 0 = nI 2) ∨ (0 ≤ nm vn ∧ x2 0 = nI 0))))) (fun (u : (Nat → va_E) × (Nat → Int32)) (t : State) => va_P (dC, dI) vwCl (wo ad NSr u.1) t.heap) A) (0) (0) A := by
  refine Met.ofW (cc := cX10_along) (maxL := 8) (ret := none) (by decide) rfl ?_
  intro p e s m args below meth c s₁ B hml hv
  obtain ⟨rfl, hA, hP, hL⟩ := hv
  have hx := B.exec
  have hb := B.bytes
  have hr := B.returns
  have hts := atoms_spec (ws := wd_X10_along) B.pre
  have hown : s.vm.findClass RX10 = some m.cls := findClass_of_methodNamed B.named
  have hlocks := B.notSynchronized
  have hK := hL.1
  have hD : ∀ g, va_D A (wo ad NSr g) := fun g => wo_D hL.2.1 hL.2.2 g
  have hS : va_S A s.heap s.heap [] := va_S.rf
  have bk0 : ∀ w ∈ u_ws RX10 TX10 29, w ∈ wd_X10_along := fun _ h => List.mem_cons_of_mem _ (List.mem_append_right _ (List.mem_append_left _ h))
  have bk1 : ∀ w ∈ wd_X10_reckonAll, w ∈ wd_X10_along := fun _ h => List.mem_cons_of_mem _ (List.mem_append_right _ (List.mem_append_right _ (List.mem_append_left _ h)))
  have bk2 : ∀ w ∈ wd_X10_copyFraction, w ∈ wd_X10_along := fun _ h => List.mem_cons_of_mem _ (List.mem_append_right _ (List.mem_append_right _ (List.mem_append_right _ (List.mem_append_left _ h))))
  have bk3 : ∀ w ∈ wd_X10_setFraction, w ∈ wd_X10_along := fun _ h => List.mem_cons_of_mem _ (List.mem_append_right _ (List.mem_append_right _ (List.mem_append_right _ (List.mem_append_right _ (List.mem_append_left _ h)))))
  have bk4 : ∀ w ∈ wd_X10_derivativeCell, w ∈ wd_X10_along := fun _ h => List.mem_cons_of_mem _ (List.mem_append_right _ (List.mem_append_right _ (List.mem_append_right _ (List.mem_append_right _ (List.mem_append_right _ (List.mem_append_left _ h))))))
  have bk5 : ∀ w ∈ wd_X10_timesFractions, w ∈ wd_X10_along := fun _ h => List.mem_cons_of_mem _ (List.mem_append_right _ (List.mem_append_right _ (List.mem_append_right _ (List.mem_append_right _ (List.mem_append_right _ (List.mem_append_right _ (List.mem_append_left _ h)))))))
  have bk6 : ∀ w ∈ wd_X10_addFractions, w ∈ wd_X10_along := fun _ h => List.mem_cons_of_mem _ (List.mem_append_right _ (List.mem_append_right _ (List.mem_append_right _ (List.mem_append_right _ (List.mem_append_right _ (List.mem_append_right _ (List.mem_append_right _ (List.mem_append_left _ h))))))))
  have hl := lv_entry ([.ref (ad 0), .int v, .int w1, .int w2, .int w3]) (n := 8) (Nat.le_of_ble_eq_true rfl)
  rw [lg_entry_eq]
  generalize (lg_sl ([.ref (ad 0), .int v, .int w1, .int w2, .int w3]) ++ List.replicate (8 - (lg_sl ([.ref (ad 0), .int v, .int w1, .int w2, .int w3])).length) Slot.unset).toArray = ls at hl ⊢
  have hl : lv_has ls 8 [(0, .ref (ad 0)), (1, .int v), (2, .int w1), (3, .int w2), (4, .int w3)] := hl
  obtain ⟨pf, qf, pt, hI0⟩ := hI
  have hI1 := hI0
  obtain ⟨hF, hPt, hM, hW, hL2, hmd, hTx, hty, hty2, hwr, hwr2, hVO, hBd⟩ := hI1
  have hVO0 := hVO
  have hPt0 := hPt
  have hTx0 := hTx
  have hF0 := hF
  obtain ⟨vf, hV, hq⟩ := hF
  have hc_1 := hV
  obtain ⟨pnz_2, lnz_2, bnz_2, hRz_2, hvz_2⟩ := hc_1
  obtain ⟨r_3, r_4, r_5, r_6, r_7, r_8, r_9⟩ := hRz_2
  obtain ⟨p_10, p_11, p_12, p_13, p_14, p_15, hpt_16⟩ := hPt
  obtain ⟨t4, t4b, t11, t11b, t11c⟩ := hTx
  obtain ⟨⟨rc, v12, v12b⟩, ⟨f13, v13⟩, ⟨f14, v14⟩, ⟨f15, v15⟩, ⟨f16, v16⟩, ⟨f17, v17⟩, ⟨f18, v18⟩, ⟨f19, v19⟩⟩ := hVO
  refine lv_iload_n hx hb dX10_along_0 rfl (lv_at hl 1 rfl) ?_
  refine lv_if_lt (tgt := 54) hx hb dX10_along_1 (by decide) (fun c_17 => ?_) (fun c_17 => ?_)
  · have c_17 := (k_lt v (nI 0)).mp c_17
    rw [show (nI 0).toInt = 0 from by decide] at c_17
    refine lv_iconst (v := nI 1) hx hb dX10_along_54 (by decide +kernel) ?_
    refine lv_goto (tgt := 59) hx hb dX10_along_55 (by decide) ?_
    refine lv_istore (lv' := [(5, .int (nI 1)), (0, .ref (ad 0)), (1, .int v), (2, .int w1), (3, .int w2), (4, .int w3)]) hx hb dX10_along_59 hl (by decide) rfl (fun ls hl => ?_)
    refine lv_aload_n hx hb dX10_along_61 rfl (lv_at hl 1 rfl) ?_
    refine lv_iload hx hb dX10_along_62 (lv_at hl 0 rfl) ?_
    refine lv_if_eq (tgt := 71) hx hb dX10_along_64 (by decide) (fun c_18 => absurd c_18 (by decide)) (fun c_18 => ?_)
    refine lv_iconst (v := nI 1) hx hb dX10_along_67 (by decide +kernel) ?_
    refine lv_goto (tgt := 85) hx hb dX10_along_68 (by decide) ?_
    refine m_put (D := (dC, dI)) (v := .int (nI 1)) (tv := .int) (C := RX10) (T := TX10) (N := 29) hx hb hts bk0 tyX10 tyX10_ok nmX10 hown hK hP hD hS 0 (by decide) r_3 rfl 0 (by decide) (hts (.fieldLink RX10 78 "GradientDeskModel" "thrown" "I") (List.mem_of_getElem? (i := 1) rfl)) (fun _ h9 => h9) rfl (by decide +kernel) rfl rfl (Nat.le_of_ble_eq_true rfl) dX10_along_85 (fun H locs g_19 f_20 fr_21 hP hS => ?_)
    have f_20 : g_19 0 = .inr (13, Rob ad (va_up x 0 (nI 1))) := f_20
    refine lv_aload_n hx hb dX10_along_88 rfl (lv_at hl 1 rfl) ?_
    refine m_get (D := (dC, dI)) (v := .int (nI 1)) (C := RX10) (T := TX10) (N := 29) hx hb hts bk0 hown hK hP 0 (by decide) f_20 rfl 0 (by decide) (hts (.fieldLink RX10 78 "GradientDeskModel" "thrown" "I") (List.mem_of_getElem? (i := 1) rfl)) (fun _ h9 => h9) (congrArg (fun z => some (Value.int z)) (show (va_up x 0 (nI 1)) 0 = (nI 1) from rfl)) dX10_along_89 ?_
    refine lv_if_le (tgt := 96) hx hb dX10_along_92 (by decide) (fun c_22 => absurd c_22 (by decide)) (fun c_22 => ?_)
    refine W.widen (k := 0) (n := 0) (by omega) (by omega) ?_
    exact W.vret hx hb hr (fun t9 ht9 hW9 => ⟨⟨(g_19, va_up x 0 (nI 1)), rfl, ⟨RI.num hI0 (hF0.setx (fun (k : Nat) (hk : k = 1 ∨ k = 2 ∨ k = 3) => (fr_21 k (by omega)).trans (rfl)) f_20 rfl) (fun (k : Nat) (hk : (4 ≤ k ∧ k ≤ 11) ∨ k = 16) => (fr_21 k (by omega)).trans (rfl)) (hVO0.same (fun (k : Nat) (hk : 12 ≤ k ∧ k ≤ 19) => (fr_21 k (by omega)).trans (rfl))) (va_up_ne _ _ (by decide)) (va_up_ne _ _ (by decide)) (va_up_ne _ _ (by decide)) (fun _ _ => ⟨rfl, rfl⟩) hBd, (va_up_ne _ _ (by decide)), Or.inl ⟨by omega, va_up_self _ _ _⟩⟩, by show va_P (dC, dI) vwCl _ t9.heap; rw [ht9]; exact hP⟩, hS.F ht9⟩) hS.2.2 dX10_along_95
  · have c_17 := mt (k_lt v (nI 0)).mpr c_17
    rw [show (nI 0).toInt = 0 from by decide] at c_17
    refine lv_iload_n hx hb dX10_along_4 rfl (lv_at hl 1 rfl) ?_
    refine lv_bipush (v := nI 7) hx hb dX10_along_5 (by decide +kernel) ?_
    refine lv_icmp_gt (tgt := 54) hx hb dX10_along_7 (by decide) (fun c_23 => ?_) (fun c_23 => ?_)
    · have c_23 := (k_lt (nI 7) v).mp c_23
      rw [show (nI 7).toInt = 7 from by decide] at c_23
      refine lv_iconst (v := nI 1) hx hb dX10_along_54 (by decide +kernel) ?_
      refine lv_goto (tgt := 59) hx hb dX10_along_55 (by decide) ?_
      refine lv_istore (lv' := [(5, .int (nI 1)), (0, .ref (ad 0)), (1, .int v), (2, .int w1), (3, .int w2), (4, .int w3)]) hx hb dX10_along_59 hl (by decide) rfl (fun ls hl => ?_)
      refine lv_aload_n hx hb dX10_along_61 rfl (lv_at hl 1 rfl) ?_
      refine lv_iload hx hb dX10_along_62 (lv_at hl 0 rfl) ?_
      refine lv_if_eq (tgt := 71) hx hb dX10_along_64 (by decide) (fun c_24 => absurd c_24 (by decide)) (fun c_24 => ?_)
      refine lv_iconst (v := nI 1) hx hb dX10_along_67 (by decide +kernel) ?_
      refine lv_goto (tgt := 85) hx hb dX10_along_68 (by decide) ?_
      refine m_put (D := (dC, dI)) (v := .int (nI 1)) (tv := .int) (C := RX10) (T := TX10) (N := 29) hx hb hts bk0 tyX10 tyX10_ok nmX10 hown hK hP hD hS 0 (by decide) r_3 rfl 0 (by decide) (hts (.fieldLink RX10 78 "GradientDeskModel" "thrown" "I") (List.mem_of_getElem? (i := 1) rfl)) (fun _ h9 => h9) rfl (by decide +kernel) rfl rfl (Nat.le_of_ble_eq_true rfl) dX10_along_85 (fun H locs g_25 f_26 fr_27 hP hS => ?_)
      have f_26 : g_25 0 = .inr (13, Rob ad (va_up x 0 (nI 1))) := f_26
      refine lv_aload_n hx hb dX10_along_88 rfl (lv_at hl 1 rfl) ?_
      refine m_get (D := (dC, dI)) (v := .int (nI 1)) (C := RX10) (T := TX10) (N := 29) hx hb hts bk0 hown hK hP 0 (by decide) f_26 rfl 0 (by decide) (hts (.fieldLink RX10 78 "GradientDeskModel" "thrown" "I") (List.mem_of_getElem? (i := 1) rfl)) (fun _ h9 => h9) (congrArg (fun z => some (Value.int z)) (show (va_up x 0 (nI 1)) 0 = (nI 1) from rfl)) dX10_along_89 ?_
      refine lv_if_le (tgt := 96) hx hb dX10_along_92 (by decide) (fun c_28 => absurd c_28 (by decide)) (fun c_28 => ?_)
      refine W.widen (k := 0) (n := 0) (by omega) (by omega) ?_
      exact W.vret hx hb hr (fun t9 ht9 hW9 => ⟨⟨(g_25, va_up x 0 (nI 1)), rfl, ⟨RI.num hI0 (hF0.setx (fun (k : Nat) (hk : k = 1 ∨ k = 2 ∨ k = 3) => (fr_27 k (by omega)).trans (rfl)) f_26 rfl) (fun (k : Nat) (hk : (4 ≤ k ∧ k ≤ 11) ∨ k = 16) => (fr_27 k (by omega)).trans (rfl)) (hVO0.same (fun (k : Nat) (hk : 12 ≤ k ∧ k ≤ 19) => (fr_27 k (by omega)).trans (rfl))) (va_up_ne _ _ (by decide)) (va_up_ne _ _ (by decide)) (va_up_ne _ _ (by decide)) (fun _ _ => ⟨rfl, rfl⟩) hBd, (va_up_ne _ _ (by decide)), Or.inl ⟨by omega, va_up_self _ _ _⟩⟩, by show va_P (dC, dI) vwCl _ t9.heap; rw [ht9]; exact hP⟩, hS.F ht9⟩) hS.2.2 dX10_along_95
    · have c_23 := mt (k_lt (nI 7) v).mpr c_23
      rw [show (nI 7).toInt = 7 from by decide] at c_23
      refine lv_iload_n hx hb dX10_along_10 rfl (lv_at hl 2 rfl) ?_
      refine lv_sipush (v := -999) hx hb dX10_along_11 (by decide +kernel) ?_
      refine lv_icmp_lt (tgt := 54) hx hb dX10_along_14 (by decide) (fun c_29 => ?_) (fun c_29 => ?_)
      · have c_29 := (k_lt w1 (-999)).mp c_29
        rw [show ((-999 : Int32)).toInt = -999 from by decide] at c_29
        refine lv_iconst (v := nI 1) hx hb dX10_along_54 (by decide +kernel) ?_
        refine lv_goto (tgt := 59) hx hb dX10_along_55 (by decide) ?_
        refine lv_istore (lv' := [(5, .int (nI 1)), (0, .ref (ad 0)), (1, .int v), (2, .int w1), (3, .int w2), (4, .int w3)]) hx hb dX10_along_59 hl (by decide) rfl (fun ls hl => ?_)
        refine lv_aload_n hx hb dX10_along_61 rfl (lv_at hl 1 rfl) ?_
        refine lv_iload hx hb dX10_along_62 (lv_at hl 0 rfl) ?_
        refine lv_if_eq (tgt := 71) hx hb dX10_along_64 (by decide) (fun c_30 => absurd c_30 (by decide)) (fun c_30 => ?_)
        refine lv_iconst (v := nI 1) hx hb dX10_along_67 (by decide +kernel) ?_
        refine lv_goto (tgt := 85) hx hb dX10_along_68 (by decide) ?_
        refine m_put (D := (dC, dI)) (v := .int (nI 1)) (tv := .int) (C := RX10) (T := TX10) (N := 29) hx hb hts bk0 tyX10 tyX10_ok nmX10 hown hK hP hD hS 0 (by decide) r_3 rfl 0 (by decide) (hts (.fieldLink RX10 78 "GradientDeskModel" "thrown" "I") (List.mem_of_getElem? (i := 1) rfl)) (fun _ h9 => h9) rfl (by decide +kernel) rfl rfl (Nat.le_of_ble_eq_true rfl) dX10_along_85 (fun H locs g_31 f_32 fr_33 hP hS => ?_)
        have f_32 : g_31 0 = .inr (13, Rob ad (va_up x 0 (nI 1))) := f_32
        refine lv_aload_n hx hb dX10_along_88 rfl (lv_at hl 1 rfl) ?_
        refine m_get (D := (dC, dI)) (v := .int (nI 1)) (C := RX10) (T := TX10) (N := 29) hx hb hts bk0 hown hK hP 0 (by decide) f_32 rfl 0 (by decide) (hts (.fieldLink RX10 78 "GradientDeskModel" "thrown" "I") (List.mem_of_getElem? (i := 1) rfl)) (fun _ h9 => h9) (congrArg (fun z => some (Value.int z)) (show (va_up x 0 (nI 1)) 0 = (nI 1) from rfl)) dX10_along_89 ?_
        refine lv_if_le (tgt := 96) hx hb dX10_along_92 (by decide) (fun c_34 => absurd c_34 (by decide)) (fun c_34 => ?_)
        refine W.widen (k := 0) (n := 0) (by omega) (by omega) ?_
        exact W.vret hx hb hr (fun t9 ht9 hW9 => ⟨⟨(g_31, va_up x 0 (nI 1)), rfl, ⟨RI.num hI0 (hF0.setx (fun (k : Nat) (hk : k = 1 ∨ k = 2 ∨ k = 3) => (fr_33 k (by omega)).trans (rfl)) f_32 rfl) (fun (k : Nat) (hk : (4 ≤ k ∧ k ≤ 11) ∨ k = 16) => (fr_33 k (by omega)).trans (rfl)) (hVO0.same (fun (k : Nat) (hk : 12 ≤ k ∧ k ≤ 19) => (fr_33 k (by omega)).trans (rfl))) (va_up_ne _ _ (by decide)) (va_up_ne _ _ (by decide)) (va_up_ne _ _ (by decide)) (fun _ _ => ⟨rfl, rfl⟩) hBd, (va_up_ne _ _ (by decide)), Or.inl ⟨by omega, va_up_self _ _ _⟩⟩, by show va_P (dC, dI) vwCl _ t9.heap; rw [ht9]; exact hP⟩, hS.F ht9⟩) hS.2.2 dX10_along_95
      · have c_29 := mt (k_lt w1 (-999)).mpr c_29
        rw [show ((-999 : Int32)).toInt = -999 from by decide] at c_29
        refine lv_iload_n hx hb dX10_along_17 rfl (lv_at hl 2 rfl) ?_
        refine lv_sipush (v := nI 999) hx hb dX10_along_18 (by decide +kernel) ?_
        refine lv_icmp_gt (tgt := 54) hx hb dX10_along_21 (by decide) (fun c_35 => ?_) (fun c_35 => ?_)
        · have c_35 := (k_lt (nI 999) w1).mp c_35
          rw [show (nI 999).toInt = 999 from by decide] at c_35
          refine lv_iconst (v := nI 1) hx hb dX10_along_54 (by decide +kernel) ?_
          refine lv_goto (tgt := 59) hx hb dX10_along_55 (by decide) ?_
          refine lv_istore (lv' := [(5, .int (nI 1)), (0, .ref (ad 0)), (1, .int v), (2, .int w1), (3, .int w2), (4, .int w3)]) hx hb dX10_along_59 hl (by decide) rfl (fun ls hl => ?_)
          refine lv_aload_n hx hb dX10_along_61 rfl (lv_at hl 1 rfl) ?_
          refine lv_iload hx hb dX10_along_62 (lv_at hl 0 rfl) ?_
          refine lv_if_eq (tgt := 71) hx hb dX10_along_64 (by decide) (fun c_36 => absurd c_36 (by decide)) (fun c_36 => ?_)
          refine lv_iconst (v := nI 1) hx hb dX10_along_67 (by decide +kernel) ?_
          refine lv_goto (tgt := 85) hx hb dX10_along_68 (by decide) ?_
          refine m_put (D := (dC, dI)) (v := .int (nI 1)) (tv := .int) (C := RX10) (T := TX10) (N := 29) hx hb hts bk0 tyX10 tyX10_ok nmX10 hown hK hP hD hS 0 (by decide) r_3 rfl 0 (by decide) (hts (.fieldLink RX10 78 "GradientDeskModel" "thrown" "I") (List.mem_of_getElem? (i := 1) rfl)) (fun _ h9 => h9) rfl (by decide +kernel) rfl rfl (Nat.le_of_ble_eq_true rfl) dX10_along_85 (fun H locs g_37 f_38 fr_39 hP hS => ?_)
          have f_38 : g_37 0 = .inr (13, Rob ad (va_up x 0 (nI 1))) := f_38
          refine lv_aload_n hx hb dX10_along_88 rfl (lv_at hl 1 rfl) ?_
          refine m_get (D := (dC, dI)) (v := .int (nI 1)) (C := RX10) (T := TX10) (N := 29) hx hb hts bk0 hown hK hP 0 (by decide) f_38 rfl 0 (by decide) (hts (.fieldLink RX10 78 "GradientDeskModel" "thrown" "I") (List.mem_of_getElem? (i := 1) rfl)) (fun _ h9 => h9) (congrArg (fun z => some (Value.int z)) (show (va_up x 0 (nI 1)) 0 = (nI 1) from rfl)) dX10_along_89 ?_
          refine lv_if_le (tgt := 96) hx hb dX10_along_92 (by decide) (fun c_40 => absurd c_40 (by decide)) (fun c_40 => ?_)
          refine W.widen (k := 0) (n := 0) (by omega) (by omega) ?_
          exact W.vret hx hb hr (fun t9 ht9 hW9 => ⟨⟨(g_37, va_up x 0 (nI 1)), rfl, ⟨RI.num hI0 (hF0.setx (fun (k : Nat) (hk : k = 1 ∨ k = 2 ∨ k = 3) => (fr_39 k (by omega)).trans (rfl)) f_38 rfl) (fun (k : Nat) (hk : (4 ≤ k ∧ k ≤ 11) ∨ k = 16) => (fr_39 k (by omega)).trans (rfl)) (hVO0.same (fun (k : Nat) (hk : 12 ≤ k ∧ k ≤ 19) => (fr_39 k (by omega)).trans (rfl))) (va_up_ne _ _ (by decide)) (va_up_ne _ _ (by decide)) (va_up_ne _ _ (by decide)) (fun _ _ => ⟨rfl, rfl⟩) hBd, (va_up_ne _ _ (by decide)), Or.inl ⟨by omega, va_up_self _ _ _⟩⟩, by show va_P (dC, dI) vwCl _ t9.heap; rw [ht9]; exact hP⟩, hS.F ht9⟩) hS.2.2 dX10_along_95
        · have c_35 := mt (k_lt (nI 999) w1).mpr c_35
          rw [show (nI 999).toInt = 999 from by decide] at c_35
          refine lv_iload_n hx hb dX10_along_24 rfl (lv_at hl 3 rfl) ?_
          refine lv_sipush (v := -999) hx hb dX10_along_25 (by decide +kernel) ?_
          refine lv_icmp_lt (tgt := 54) hx hb dX10_along_28 (by decide) (fun c_41 => ?_) (fun c_41 => ?_)
          · have c_41 := (k_lt w2 (-999)).mp c_41
            rw [show ((-999 : Int32)).toInt = -999 from by decide] at c_41
            refine lv_iconst (v := nI 1) hx hb dX10_along_54 (by decide +kernel) ?_
            refine lv_goto (tgt := 59) hx hb dX10_along_55 (by decide) ?_
            refine lv_istore (lv' := [(5, .int (nI 1)), (0, .ref (ad 0)), (1, .int v), (2, .int w1), (3, .int w2), (4, .int w3)]) hx hb dX10_along_59 hl (by decide) rfl (fun ls hl => ?_)
            refine lv_aload_n hx hb dX10_along_61 rfl (lv_at hl 1 rfl) ?_
            refine lv_iload hx hb dX10_along_62 (lv_at hl 0 rfl) ?_
            refine lv_if_eq (tgt := 71) hx hb dX10_along_64 (by decide) (fun c_42 => absurd c_42 (by decide)) (fun c_42 => ?_)
            refine lv_iconst (v := nI 1) hx hb dX10_along_67 (by decide +kernel) ?_
            refine lv_goto (tgt := 85) hx hb dX10_along_68 (by decide) ?_
            refine m_put (D := (dC, dI)) (v := .int (nI 1)) (tv := .int) (C := RX10) (T := TX10) (N := 29) hx hb hts bk0 tyX10 tyX10_ok nmX10 hown hK hP hD hS 0 (by decide) r_3 rfl 0 (by decide) (hts (.fieldLink RX10 78 "GradientDeskModel" "thrown" "I") (List.mem_of_getElem? (i := 1) rfl)) (fun _ h9 => h9) rfl (by decide +kernel) rfl rfl (Nat.le_of_ble_eq_true rfl) dX10_along_85 (fun H locs g_43 f_44 fr_45 hP hS => ?_)
            have f_44 : g_43 0 = .inr (13, Rob ad (va_up x 0 (nI 1))) := f_44
            refine lv_aload_n hx hb dX10_along_88 rfl (lv_at hl 1 rfl) ?_
            refine m_get (D := (dC, dI)) (v := .int (nI 1)) (C := RX10) (T := TX10) (N := 29) hx hb hts bk0 hown hK hP 0 (by decide) f_44 rfl 0 (by decide) (hts (.fieldLink RX10 78 "GradientDeskModel" "thrown" "I") (List.mem_of_getElem? (i := 1) rfl)) (fun _ h9 => h9) (congrArg (fun z => some (Value.int z)) (show (va_up x 0 (nI 1)) 0 = (nI 1) from rfl)) dX10_along_89 ?_
            refine lv_if_le (tgt := 96) hx hb dX10_along_92 (by decide) (fun c_46 => absurd c_46 (by decide)) (fun c_46 => ?_)
            refine W.widen (k := 0) (n := 0) (by omega) (by omega) ?_
            exact W.vret hx hb hr (fun t9 ht9 hW9 => ⟨⟨(g_43, va_up x 0 (nI 1)), rfl, ⟨RI.num hI0 (hF0.setx (fun (k : Nat) (hk : k = 1 ∨ k = 2 ∨ k = 3) => (fr_45 k (by omega)).trans (rfl)) f_44 rfl) (fun (k : Nat) (hk : (4 ≤ k ∧ k ≤ 11) ∨ k = 16) => (fr_45 k (by omega)).trans (rfl)) (hVO0.same (fun (k : Nat) (hk : 12 ≤ k ∧ k ≤ 19) => (fr_45 k (by omega)).trans (rfl))) (va_up_ne _ _ (by decide)) (va_up_ne _ _ (by decide)) (va_up_ne _ _ (by decide)) (fun _ _ => ⟨rfl, rfl⟩) hBd, (va_up_ne _ _ (by decide)), Or.inl ⟨by omega, va_up_self _ _ _⟩⟩, by show va_P (dC, dI) vwCl _ t9.heap; rw [ht9]; exact hP⟩, hS.F ht9⟩) hS.2.2 dX10_along_95
          · have c_41 := mt (k_lt w2 (-999)).mpr c_41
            rw [show ((-999 : Int32)).toInt = -999 from by decide] at c_41
            refine lv_iload_n hx hb dX10_along_31 rfl (lv_at hl 3 rfl) ?_
            refine lv_sipush (v := nI 999) hx hb dX10_along_32 (by decide +kernel) ?_
            refine lv_icmp_gt (tgt := 54) hx hb dX10_along_35 (by decide) (fun c_47 => ?_) (fun c_47 => ?_)
            · have c_47 := (k_lt (nI 999) w2).mp c_47
              rw [show (nI 999).toInt = 999 from by decide] at c_47
              refine lv_iconst (v := nI 1) hx hb dX10_along_54 (by decide +kernel) ?_
              refine lv_goto (tgt := 59) hx hb dX10_along_55 (by decide) ?_
              refine lv_istore (lv' := [(5, .int (nI 1)), (0, .ref (ad 0)), (1, .int v), (2, .int w1), (3, .int w2), (4, .int w3)]) hx hb dX10_along_59 hl (by decide) rfl (fun ls hl => ?_)
              refine lv_aload_n hx hb dX10_along_61 rfl (lv_at hl 1 rfl) ?_
              refine lv_iload hx hb dX10_along_62 (lv_at hl 0 rfl) ?_
              refine lv_if_eq (tgt := 71) hx hb dX10_along_64 (by decide) (fun c_48 => absurd c_48 (by decide)) (fun c_48 => ?_)
              refine lv_iconst (v := nI 1) hx hb dX10_along_67 (by decide +kernel) ?_
              refine lv_goto (tgt := 85) hx hb dX10_along_68 (by decide) ?_
              refine m_put (D := (dC, dI)) (v := .int (nI 1)) (tv := .int) (C := RX10) (T := TX10) (N := 29) hx hb hts bk0 tyX10 tyX10_ok nmX10 hown hK hP hD hS 0 (by decide) r_3 rfl 0 (by decide) (hts (.fieldLink RX10 78 "GradientDeskModel" "thrown" "I") (List.mem_of_getElem? (i := 1) rfl)) (fun _ h9 => h9) rfl (by decide +kernel) rfl rfl (Nat.le_of_ble_eq_true rfl) dX10_along_85 (fun H locs g_49 f_50 fr_51 hP hS => ?_)
              have f_50 : g_49 0 = .inr (13, Rob ad (va_up x 0 (nI 1))) := f_50
              refine lv_aload_n hx hb dX10_along_88 rfl (lv_at hl 1 rfl) ?_
              refine m_get (D := (dC, dI)) (v := .int (nI 1)) (C := RX10) (T := TX10) (N := 29) hx hb hts bk0 hown hK hP 0 (by decide) f_50 rfl 0 (by decide) (hts (.fieldLink RX10 78 "GradientDeskModel" "thrown" "I") (List.mem_of_getElem? (i := 1) rfl)) (fun _ h9 => h9) (congrArg (fun z => some (Value.int z)) (show (va_up x 0 (nI 1)) 0 = (nI 1) from rfl)) dX10_along_89 ?_
              refine lv_if_le (tgt := 96) hx hb dX10_along_92 (by decide) (fun c_52 => absurd c_52 (by decide)) (fun c_52 => ?_)
              refine W.widen (k := 0) (n := 0) (by omega) (by omega) ?_
              exact W.vret hx hb hr (fun t9 ht9 hW9 => ⟨⟨(g_49, va_up x 0 (nI 1)), rfl, ⟨RI.num hI0 (hF0.setx (fun (k : Nat) (hk : k = 1 ∨ k = 2 ∨ k = 3) => (fr_51 k (by omega)).trans (rfl)) f_50 rfl) (fun (k : Nat) (hk : (4 ≤ k ∧ k ≤ 11) ∨ k = 16) => (fr_51 k (by omega)).trans (rfl)) (hVO0.same (fun (k : Nat) (hk : 12 ≤ k ∧ k ≤ 19) => (fr_51 k (by omega)).trans (rfl))) (va_up_ne _ _ (by decide)) (va_up_ne _ _ (by decide)) (va_up_ne _ _ (by decide)) (fun _ _ => ⟨rfl, rfl⟩) hBd, (va_up_ne _ _ (by decide)), Or.inl ⟨by omega, va_up_self _ _ _⟩⟩, by show va_P (dC, dI) vwCl _ t9.heap; rw [ht9]; exact hP⟩, hS.F ht9⟩) hS.2.2 dX10_along_95
            · have c_47 := mt (k_lt (nI 999) w2).mpr c_47
              rw [show (nI 999).toInt = 999 from by decide] at c_47
              refine lv_iload hx hb dX10_along_38 (lv_at hl 4 rfl) ?_
              refine lv_sipush (v := -999) hx hb dX10_along_40 (by decide +kernel) ?_
              refine lv_icmp_lt (tgt := 54) hx hb dX10_along_43 (by decide) (fun c_53 => ?_) (fun c_53 => ?_)
              · have c_53 := (k_lt w3 (-999)).mp c_53
                rw [show ((-999 : Int32)).toInt = -999 from by decide] at c_53
                refine lv_iconst (v := nI 1) hx hb dX10_along_54 (by decide +kernel) ?_
                refine lv_goto (tgt := 59) hx hb dX10_along_55 (by decide) ?_
                refine lv_istore (lv' := [(5, .int (nI 1)), (0, .ref (ad 0)), (1, .int v), (2, .int w1), (3, .int w2), (4, .int w3)]) hx hb dX10_along_59 hl (by decide) rfl (fun ls hl => ?_)
                refine lv_aload_n hx hb dX10_along_61 rfl (lv_at hl 1 rfl) ?_
                refine lv_iload hx hb dX10_along_62 (lv_at hl 0 rfl) ?_
                refine lv_if_eq (tgt := 71) hx hb dX10_along_64 (by decide) (fun c_54 => absurd c_54 (by decide)) (fun c_54 => ?_)
                refine lv_iconst (v := nI 1) hx hb dX10_along_67 (by decide +kernel) ?_
                refine lv_goto (tgt := 85) hx hb dX10_along_68 (by decide) ?_
                refine m_put (D := (dC, dI)) (v := .int (nI 1)) (tv := .int) (C := RX10) (T := TX10) (N := 29) hx hb hts bk0 tyX10 tyX10_ok nmX10 hown hK hP hD hS 0 (by decide) r_3 rfl 0 (by decide) (hts (.fieldLink RX10 78 "GradientDeskModel" "thrown" "I") (List.mem_of_getElem? (i := 1) rfl)) (fun _ h9 => h9) rfl (by decide +kernel) rfl rfl (Nat.le_of_ble_eq_true rfl) dX10_along_85 (fun H locs g_55 f_56 fr_57 hP hS => ?_)
                have f_56 : g_55 0 = .inr (13, Rob ad (va_up x 0 (nI 1))) := f_56
                refine lv_aload_n hx hb dX10_along_88 rfl (lv_at hl 1 rfl) ?_
                refine m_get (D := (dC, dI)) (v := .int (nI 1)) (C := RX10) (T := TX10) (N := 29) hx hb hts bk0 hown hK hP 0 (by decide) f_56 rfl 0 (by decide) (hts (.fieldLink RX10 78 "GradientDeskModel" "thrown" "I") (List.mem_of_getElem? (i := 1) rfl)) (fun _ h9 => h9) (congrArg (fun z => some (Value.int z)) (show (va_up x 0 (nI 1)) 0 = (nI 1) from rfl)) dX10_along_89 ?_
                refine lv_if_le (tgt := 96) hx hb dX10_along_92 (by decide) (fun c_58 => absurd c_58 (by decide)) (fun c_58 => ?_)
                refine W.widen (k := 0) (n := 0) (by omega) (by omega) ?_
                exact W.vret hx hb hr (fun t9 ht9 hW9 => ⟨⟨(g_55, va_up x 0 (nI 1)), rfl, ⟨RI.num hI0 (hF0.setx (fun (k : Nat) (hk : k = 1 ∨ k = 2 ∨ k = 3) => (fr_57 k (by omega)).trans (rfl)) f_56 rfl) (fun (k : Nat) (hk : (4 ≤ k ∧ k ≤ 11) ∨ k = 16) => (fr_57 k (by omega)).trans (rfl)) (hVO0.same (fun (k : Nat) (hk : 12 ≤ k ∧ k ≤ 19) => (fr_57 k (by omega)).trans (rfl))) (va_up_ne _ _ (by decide)) (va_up_ne _ _ (by decide)) (va_up_ne _ _ (by decide)) (fun _ _ => ⟨rfl, rfl⟩) hBd, (va_up_ne _ _ (by decide)), Or.inl ⟨by omega, va_up_self _ _ _⟩⟩, by show va_P (dC, dI) vwCl _ t9.heap; rw [ht9]; exact hP⟩, hS.F ht9⟩) hS.2.2 dX10_along_95
              · have c_53 := mt (k_lt w3 (-999)).mpr c_53
                rw [show ((-999 : Int32)).toInt = -999 from by decide] at c_53
                refine lv_iload hx hb dX10_along_46 (lv_at hl 4 rfl) ?_
                refine lv_sipush (v := nI 999) hx hb dX10_along_48 (by decide +kernel) ?_
                refine lv_icmp_le (tgt := 58) hx hb dX10_along_51 (by decide) (fun c_59 => ?_) (fun c_59 => ?_)
                · have c_59 := (k_le w3 (nI 999)).mp c_59
                  rw [show (nI 999).toInt = 999 from by decide] at c_59
                  refine lv_iconst (v := nI 0) hx hb dX10_along_58 (by decide +kernel) ?_
                  refine lv_istore (lv' := [(5, .int (nI 0)), (0, .ref (ad 0)), (1, .int v), (2, .int w1), (3, .int w2), (4, .int w3)]) hx hb dX10_along_59 hl (by decide) rfl (fun ls hl => ?_)
                  refine lv_aload_n hx hb dX10_along_61 rfl (lv_at hl 1 rfl) ?_
                  refine lv_iload hx hb dX10_along_62 (lv_at hl 0 rfl) ?_
                  refine lv_if_eq (tgt := 71) hx hb dX10_along_64 (by decide) (fun c_60 => ?_) (fun c_60 => absurd c_60 (by decide))
                  obtain ⟨vn, hvn, evn, -⟩ := k_nat (x := v) (by omega)
                  rw [hvn] at hl
                  have hok : (0 ≤ v.toInt ∧ v.toInt ≤ 7 ∧ -999 ≤ w1.toInt ∧ w1.toInt ≤ 999 ∧ -999 ≤ w2.toInt ∧ w2.toInt ≤ 999 ∧ -999 ≤ w3.toInt ∧ w3.toInt ≤ 999) := by omega
                  refine lv_aload_n hx hb dX10_along_71 rfl (lv_at hl 1 rfl) ?_
                  refine m_get (D := (dC, dI)) (v := .ref (ad 11)) (C := RX10) (T := TX10) (N := 29) hx hb hts bk0 hown hK hP 0 (by decide) r_3 rfl 15 (by decide) (hts (.fieldLink RX10 47 "GradientDeskModel" "names" "[I") (List.mem_of_getElem? (i := 2) rfl)) (fun _ h9 => h9) rfl dX10_along_72 ?_
                  refine lv_iload_n hx hb dX10_along_75 rfl (lv_at hl 2 rfl) ?_
                  refine m_iald hx hb hK hP 11 (by decide) rfl t11 (i := vn) (by omega) (by decide) dX10_along_76 ?_
                  have b_61 := t11b vn
                  refine lv_if_ge (tgt := 84) hx hb dX10_along_77 (by decide) (fun c_62 => ?_) (fun c_62 => ?_)
                  · have c_62 := (k_iLE (a := 0) (b := nm vn) (show nI 0 = iI 0 from by decide) rfl (by omega) (by omega)).mp c_62
                    refine lv_iconst (v := nI 0) hx hb dX10_along_84 (by decide +kernel) ?_
                    refine m_put (D := (dC, dI)) (v := .int (nI 0)) (tv := .int) (C := RX10) (T := TX10) (N := 29) hx hb hts bk0 tyX10 tyX10_ok nmX10 hown hK hP hD hS 0 (by decide) r_3 rfl 0 (by decide) (hts (.fieldLink RX10 78 "GradientDeskModel" "thrown" "I") (List.mem_of_getElem? (i := 1) rfl)) (fun _ h9 => h9) rfl (by decide +kernel) rfl rfl (Nat.le_of_ble_eq_true rfl) dX10_along_85 (fun H locs g_63 f_64 fr_65 hP hS => ?_)
                    have f_64 : g_63 0 = .inr (13, Rob ad (va_up x 0 (nI 0))) := f_64
                    refine lv_aload_n hx hb dX10_along_88 rfl (lv_at hl 1 rfl) ?_
                    refine m_get (D := (dC, dI)) (v := .int (nI 0)) (C := RX10) (T := TX10) (N := 29) hx hb hts bk0 hown hK hP 0 (by decide) f_64 rfl 0 (by decide) (hts (.fieldLink RX10 78 "GradientDeskModel" "thrown" "I") (List.mem_of_getElem? (i := 1) rfl)) (fun _ h9 => h9) (congrArg (fun z => some (Value.int z)) (show (va_up x 0 (nI 0)) 0 = (nI 0) from rfl)) dX10_along_89 ?_
                    refine lv_if_le (tgt := 96) hx hb dX10_along_92 (by decide) (fun c_66 => ?_) (fun c_66 => absurd c_66 (by decide))
                    refine lv_aload_n hx hb dX10_along_96 rfl (lv_at hl 1 rfl) ?_
                    refine m_get (D := (dC, dI)) (v := .ref (ad 11)) (C := RX10) (T := TX10) (N := 29) hx hb hts bk0 hown hK hP 0 (by decide) f_64 rfl 15 (by decide) (hts (.fieldLink RX10 47 "GradientDeskModel" "names" "[I") (List.mem_of_getElem? (i := 2) rfl)) (fun _ h9 => h9) rfl dX10_along_97 ?_
                    refine lv_iload_n hx hb dX10_along_100 rfl (lv_at hl 2 rfl) ?_
                    have f_67 : g_63 11 = .inl (cA 11, 8, .inl (fun j => iI (nm j))) := (fr_65 11 (by omega)).trans t11
                    refine m_iald hx hb hK hP 11 (by decide) rfl f_67 (i := vn) (by omega) (by decide) dX10_along_101 ?_
                    have b_68 := t11b vn
                    obtain ⟨rt, hrt⟩ : ∃ z9 : Nat, nm vn = (z9 : Int) := ⟨(nm vn).toNat, by omega⟩
                    have hr9 := t11c vn (by omega)
                    have hrl : rt < L.length := by omega
                    rw [hrt, ← nI_iI]
                    refine lv_istore (lv' := [(6, .int (nI rt)), (5, .int (nI 0)), (0, .ref (ad 0)), (1, .int (nI vn)), (2, .int w1), (3, .int w2), (4, .int w3)]) hx hb dX10_along_102 hl (by decide) rfl (fun ls hl => ?_)
                    refine lv_aload_n hx hb dX10_along_104 rfl (lv_at hl 2 rfl) ?_
                    refine lv_iload hx hb dX10_along_105 (lv_at hl 0 rfl) ?_
                    have hF1 : RF ad cA g_63 (va_up x 0 (nI 0)) pf qf := hF0.setx (fun (k : Nat) (hk : k = 1 ∨ k = 2 ∨ k = 3) => (fr_65 k (by omega)).trans (rfl)) f_64 rfl
                    obtain ⟨Q9, hQ9⟩ : ∃ z : Nat, z = qf 1008 * qf 1009 * qf 1010 := ⟨_, rfl⟩
                    have hQb : 0 < Q9 ∧ Q9 ≤ 1099511627776 := by obtain ⟨-, u1, u2⟩ := hBd.2 0 (by decide); obtain ⟨-, u3, u4⟩ := hBd.2 1 (by decide); obtain ⟨-, u5, u6⟩ := hBd.2 2 (by decide); exact ⟨by rw [hQ9]; exact Nat.mul_pos (Nat.mul_pos u1 u3) u5, by rw [hQ9]; exact Nat.le_trans (Nat.mul_le_mul (Nat.mul_le_mul u2 u4) u6) (by decide)⟩
                    have f_69 : g_63 12 = .inl (cA 12, 200, .inl (fun j => nI (rc j))) := (fr_65 12 (by omega)).trans v12
                    refine va_callv (va_runV (As := [.int (nI rt)]) (rest := []) ⟨hx, hb, hml, hown, hts⟩ (c_X10_reckonAll l dC dI A ad cA g_63 (va_up x 0 (nI 0)) pf qf pt L rc rt Q9 hF1 (hPt0.same (fun (k : Nat) (hk : 5 ≤ k ∧ k ≤ 10) => (fr_65 k (by omega)).trans (rfl))) hM hL2 hW f_69 v12b hrl hQ9 hBd.2) (cwV 1 hts (goodIn_app (goodIn_r [Cond.methodLink RX10 275 yX10_reckonAll, Cond.instanceMethod yX10_reckonAll, Cond.selects RX10 yX10_reckonAll yX10_reckonAll, Cond.initialized RX10] [3, 4, 5, 6] rfl rfl) (goodIn_sub (fun w9 h9 => bk1 w9 h9) gw_X10_reckonAll)) rfl rfl rfl (by decide +kernel) ⟨Nat.le_of_ble_eq_true rfl, Nat.le_of_ble_eq_true rfl⟩) ⟨fun a U g mk q => ⟨q.1, q.2.1, q.2.2.1, LY.moved (u := U) (U := U.calling g mk a) (Vm.Alike.refl U.vm) q.2.2.2⟩, va_recv hK hP (ci := 13) (q0 := 0) rfl (wo_at (by decide) f_64), fun U hU hW => ⟨rfl, by rw [hU]; exact fun q h => hA q (Nat.le_trans hS.1 h), by rw [hU]; exact hP, LY.moved hW.alike hL⟩⟩ rfl rfl hl.1 rfl (lv_room (Nat.le_of_ble_eq_true rfl)) dX10_along_107 ⟨(Nat.le_of_ble_eq_true rfl), (Nat.le_of_ble_eq_true rfl)⟩) hS (fun q _ h => h) (fun q h => h) (fun u8 t8 H1 locs ht8 hvm8 hw_70 hB hz1 hk1 hS => ?_)
                    obtain ⟨g_71, pf2_72, qf2_73⟩ := u8
                    try dsimp only at hw_70 hB
                    rw [ht8] at hB
                    have hP := hB
                    generalize H1 = H at hP hS ⊢
                    obtain ⟨fr_74, ⟨rc3, r12, r12b⟩, hFa, hTa, hOa⟩ := hw_70
                    have hfb := hTa.fb hQb hW hrl hL2 (fun f9 h9 => hFa.red h9)
                    obtain ⟨p3, hp3⟩ : ∃ z9, z9 = pf2_72 := ⟨_, rfl⟩
                    obtain ⟨q3, hq3⟩ : ∃ z9, z9 = qf2_73 := ⟨_, rfl⟩
                    rw [← hp3, ← hq3] at hFa hTa hOa hfb
                    obtain ⟨N9, b9, D9, a1, -, a3⟩ := hTa
                    obtain ⟨-, w2d, -, w4d, w5d, -⟩ := hW rt hrl
                    have hM9 := k_M hQb ⟨a1.1, a1.2.1⟩ w5d w2d
                    obtain ⟨M9, eM9⟩ : ∃ z9, z9 = b9 * Q9 ^ (gd L rt).2.2.2.1 := ⟨_, rfl⟩
                    rw [← eM9] at hM9 a3
                    have hDb : ∀ v, v < 3 → (D9 v).natAbs ≤ 2 ^ 723 := fun v hv => (a3 v hv).1.le w4d w2d
                    refine lv_aload_n hx hb dX10_along_110 rfl (lv_at hl 2 rfl) ?_
                    refine lv_sipush (v := nI 1004) hx hb dX10_along_111 (by decide +kernel) ?_
                    refine lv_sipush (v := nI 200) hx hb dX10_along_114 (by decide +kernel) ?_
                    refine lv_iload hx hb dX10_along_117 (lv_at hl 0 rfl) ?_
                    refine lv_iadd hx hb dX10_along_119 ?_
                    refine lv_topi (fun x_75 e_76 => ?_)
                    obtain rfl : x_75 = nI (200 + rt) := e_76.trans (nI_add 200 rt)
                    have f_77 : g_71 0 = .inr (13, Rob ad (va_up x 0 (nI 0))) := (fr_74 0 (by omega)).trans f_64
                    refine va_callv (va_runV (As := [.int (nI 1004), .int (nI (200 + rt))]) (rest := []) ⟨hx, hb, hml, hown, hts⟩ (c_X10_copyFraction l dC dI A ad cA g_71 (va_up x 0 (nI 0)) p3 q3 1004 (200 + rt) hFa (by decide) (by omega)) (cwV 2 hts (goodIn_app (goodIn_r [Cond.methodLink RX10 136 yX10_copyFraction, Cond.instanceMethod yX10_copyFraction, Cond.selects RX10 yX10_copyFraction yX10_copyFraction, Cond.initialized RX10] [7, 8, 9, 6] rfl rfl) (goodIn_sub (fun w9 h9 => bk2 w9 h9) gw_X10_copyFraction)) rfl rfl rfl (by decide +kernel) ⟨Nat.le_of_ble_eq_true rfl, Nat.le_of_ble_eq_true rfl⟩) ⟨fun a U g mk q => ⟨q.1, q.2.1, q.2.2.1, LY.moved (u := U) (U := U.calling g mk a) (Vm.Alike.refl U.vm) q.2.2.2⟩, va_recv hK hP (ci := 13) (q0 := 0) rfl (wo_at (by decide) f_77), fun U hU hW => ⟨rfl, by rw [hU]; exact fun q h => hA q (Nat.le_trans hS.1 h), by rw [hU]; exact hP, LY.moved hW.alike hL⟩⟩ rfl rfl hl.1 rfl (lv_room (Nat.le_of_ble_eq_true rfl)) dX10_along_120 ⟨(Nat.le_of_ble_eq_true rfl), (Nat.le_of_ble_eq_true rfl)⟩) hS (fun q _ h => h) (fun q h => h) (fun u8 t8 H1 locs ht8 hvm8 hw_78 hB hz1 hk1 hS => ?_)
                    obtain ⟨g_79, rfl⟩ : ∃ z, z = u8 := ⟨_, rfl⟩
                    try dsimp only at hw_78 hB
                    rw [ht8] at hB
                    have hP := hB
                    generalize H1 = H at hP hS ⊢
                    obtain ⟨fr_80, hFc⟩ := hw_78
                    refine lv_aload_n hx hb dX10_along_123 rfl (lv_at hl 2 rfl) ?_
                    refine lv_sipush (v := nI 1015) hx hb dX10_along_124 (by decide +kernel) ?_
                    refine lv_lconst (v := lN 0) hx hb dX10_along_127 (by decide +kernel) ?_
                    refine lv_lconst (v := lN 1) hx hb dX10_along_128 (by decide +kernel) ?_
                    have f_81 : g_79 0 = .inr (13, Rob ad (va_up x 0 (nI 0))) := (fr_80 0 (by omega)).trans f_77
                    refine va_callv (va_runV (As := [.int (nI 1015), .long (lN 0), .long (lN 1)]) (rest := []) ⟨hx, hb, hml, hown, hts⟩ (c_X10_setFraction l dC dI A ad cA g_79 (va_up x 0 (nI 0)) (va_up p3 1004 (p3 (200 + rt))) (va_up q3 1004 (q3 (200 + rt))) 1015 (lN 0) (lN 1) 0 1 hFc (by decide) (by decide) (by decide) (by decide) (by decide) (by decide)) (cwV 3 hts (goodIn_app (goodIn_r [Cond.methodLink RX10 139 yX10_setFraction, Cond.instanceMethod yX10_setFraction, Cond.selects RX10 yX10_setFraction yX10_setFraction, Cond.initialized RX10] [10, 11, 12, 6] rfl rfl) (goodIn_sub (fun w9 h9 => bk3 w9 h9) gw_X10_setFraction)) rfl rfl rfl (by decide +kernel) ⟨Nat.le_of_ble_eq_true rfl, Nat.le_of_ble_eq_true rfl⟩) ⟨fun a U g mk q => ⟨q.1, q.2.1, q.2.2.1, LY.moved (u := U) (U := U.calling g mk a) (Vm.Alike.refl U.vm) q.2.2.2⟩, va_recv hK hP (ci := 13) (q0 := 0) rfl (wo_at (by decide) f_81), fun U hU hW => ⟨rfl, by rw [hU]; exact fun q h => hA q (Nat.le_trans hS.1 h), by rw [hU]; exact hP, LY.moved hW.alike hL⟩⟩ rfl rfl hl.1 rfl (lv_room (Nat.le_of_ble_eq_true rfl)) dX10_along_129 ⟨(Nat.le_of_ble_eq_true rfl), (Nat.le_of_ble_eq_true rfl)⟩) hS (fun q _ h => h) (fun q h => h) (fun u8 t8 H1 locs ht8 hvm8 hw_82 hB hz1 hk1 hS => ?_)
                    obtain ⟨g_83, rfl⟩ : ∃ z, z = u8 := ⟨_, rfl⟩
                    try dsimp only at hw_82 hB
                    rw [ht8] at hB
                    have hP := hB
                    generalize H1 = H at hP hS ⊢
                    obtain ⟨fr_84, hFs⟩ := hw_82
                    rw [(rdp_1 0).1, (rdp_1 0).2] at hFs
                    refine lv_iconst (v := nI 0) hx hb dX10_along_132 (by decide +kernel) ?_
                    refine lv_istore (lv' := [(7, .int (nI 0)), (6, .int (nI rt)), (5, .int (nI 0)), (0, .ref (ad 0)), (1, .int (nI vn)), (2, .int w1), (3, .int w2), (4, .int w3)]) hx hb dX10_along_133 hl (by decide) rfl (fun ls hl => ?_)
                    have loop_85 : ∀ (k9 : Nat) (vv : Nat) (p1 : Nat → Int) (q1 : Nat → Nat) (g_87 : Nat → va_E) (fr_88 : ∀ k, (k ≠ 1 ∧ k ≠ 2 ∧ k ≠ 3) → g_87 k = g_83 k), 3 - vv < k9 → (vv ≤ 3) → ((∀ f, f ≠ 1004 → f ≠ 1012 → f ≠ 1015 → f ≠ 1016 → p1 f = p3 f ∧ q1 f = q3 f) ∧ p1 1004 = p3 (200 + rt) ∧ q1 1004 = q3 (200 + rt)) → (∃ S : Int, S.natAbs ≤ vv * (999 * 2 ^ 723) ∧ Eqv (p1 1015) (q1 1015) S M9) → (RF ad cA g_87 (va_up x 0 (nI 0)) p1 q1) → ∀ (H : Heap) (locs : List Loc) (ls : Array Slot), va_P (dC, dI) vwCl (wo ad NSr g_87) H → va_S A s.heap H locs → lv_has ls 8 [(0, .ref (ad 0)), (1, .int (nI vn)), (2, .int w1), (3, .int w2), (4, .int w3), (6, .int (nI rt)), (7, .int (nI vv))] → W p l e (headSpec wd_X10_along ({ frames := 110, cells := 0, slots := 0, locals := 2200 })).room s m ([.ref (ad 0), .int v, .int w1, .int w2, .int w3] : List Value).toArray below meth c H locs (0) (0) (MQ below (va_Qv (fun (u : (Nat → va_E) × (Nat → Int32)) => match u with | (g2, x2) => RIE ad cA g2 x2 L nm tx ty wr ∧ x2 2 = x 2 ∧ ((¬ (0 ≤ v.toInt ∧ v.toInt ≤ 7 ∧ -999 ≤ w1.toInt ∧ w1.toInt ≤ 999 ∧ -999 ≤ w2.toInt ∧ w2.toInt ≤ 999 ∧ -999 ≤ w3.toInt ∧ w3.toInt ≤ 999) ∧ x2 0 = nI 1) ∨ ((0 ≤ v.toInt ∧ v.toInt ≤ 7 ∧ -999 ≤ w1.toInt ∧ w1.toInt ≤ 999 ∧ -999 ≤ w2.toInt ∧ w2.toInt ≤ 999 ∧ -999 ≤ w3.toInt ∧ w3.toInt ≤ 999) ∧ ∃ vn, v = nI vn ∧ vn ≤ 7 ∧ ((nm vn < 0 ∧ x2 0 = nI 2) ∨ (0 ≤ nm vn ∧ x2 0 = nI 0))))) (fun (u : (Nat → va_E) × (Nat → Int32)) (t : State) => va_P (dC, dI) vwCl (wo ad NSr u.1) t.heap) A) ([.ref (ad 0), .int v, .int w1, .int w2, .int w3] : List Value).toArray s (0) (0) A) (F0 m 135 ls []) := by
                      intro k9
                      induction k9 with
                      | zero => intro vv p1 q1 g_87 fr_88 h9; exact absurd h9 (Nat.not_lt_zero _)
                      | succ k9 ih_86 =>
                        intro vv p1 q1 g_87 fr_88 h9 hv3 hO hS9 hFL H locs ls hP hS hl
                        refine lv_iload hx hb dX10_along_135 (lv_at hl 6 rfl) ?_
                        refine lv_iconst (v := nI 3) hx hb dX10_along_137 (by decide +kernel) ?_
                        refine lv_icmp_ge (tgt := 209) hx hb dX10_along_138 (by decide) (fun c_89 => ?_) (fun c_89 => ?_)
                        · have c_89 := (nI_leI (a := 3) (b := vv) (by decide) (by omega)).mp c_89
                          refine lv_aload_n hx hb dX10_along_209 rfl (lv_at hl 0 rfl) ?_
                          refine lv_sipush (v := nI 1005) hx hb dX10_along_210 (by decide +kernel) ?_
                          refine lv_sipush (v := nI 1015) hx hb dX10_along_213 (by decide +kernel) ?_
                          obtain ⟨S9, hSb, hSe⟩ := hS9
                          have hb15 := k_fbS hSe (hFL.red (by decide)) hM9.1 (Nat.le_trans hSb (Nat.mul_le_mul_right _ hv3)) hM9.2
                          have f_90 : g_87 0 = .inr (13, Rob ad (va_up x 0 (nI 0))) := (fr_88 0 (by omega)).trans ((fr_84 0 (by omega)).trans f_81)
                          refine va_callv (va_runV (As := [.int (nI 1005), .int (nI 1015)]) (rest := []) ⟨hx, hb, hml, hown, hts⟩ (c_X10_copyFraction l dC dI A ad cA g_87 (va_up x 0 (nI 0)) p1 q1 1005 1015 hFL (by decide) (by decide)) (cwV 2 hts (goodIn_app (goodIn_r [Cond.methodLink RX10 136 yX10_copyFraction, Cond.instanceMethod yX10_copyFraction, Cond.selects RX10 yX10_copyFraction yX10_copyFraction, Cond.initialized RX10] [7, 8, 9, 6] rfl rfl) (goodIn_sub (fun w9 h9 => bk2 w9 h9) gw_X10_copyFraction)) rfl rfl rfl (by decide +kernel) ⟨Nat.le_of_ble_eq_true rfl, Nat.le_of_ble_eq_true rfl⟩) ⟨fun a U g mk q => ⟨q.1, q.2.1, q.2.2.1, LY.moved (u := U) (U := U.calling g mk a) (Vm.Alike.refl U.vm) q.2.2.2⟩, va_recv hK hP (ci := 13) (q0 := 0) rfl (wo_at (by decide) f_90), fun U hU hW => ⟨rfl, by rw [hU]; exact fun q h => hA q (Nat.le_trans hS.1 h), by rw [hU]; exact hP, LY.moved hW.alike hL⟩⟩ rfl rfl hl.1 rfl (lv_room (Nat.le_of_ble_eq_true rfl)) dX10_along_216 ⟨(Nat.le_of_ble_eq_true rfl), (Nat.le_of_ble_eq_true rfl)⟩) hS (fun q _ h => h) (fun q h => h) (fun u8 t8 H1 locs ht8 hvm8 hw_91 hB hz1 hk1 hS => ?_)
                          obtain ⟨g_92, rfl⟩ : ∃ z, z = u8 := ⟨_, rfl⟩
                          try dsimp only at hw_91 hB
                          rw [ht8] at hB
                          have hP := hB
                          generalize H1 = H at hP hS ⊢
                          obtain ⟨fr_93, hF7⟩ := hw_91
                          have f_94 : g_92 12 = .inl (cA 12, 200, .inl (fun j => nI (rc3 j))) := (fr_93 12 (by omega)).trans ((fr_88 12 (by omega)).trans ((fr_84 12 (by omega)).trans ((fr_80 12 (by omega)).trans r12)))
                          refine W.widen (k := 0) (n := 0) (by omega) (by omega) ?_
                          exact W.vret hx hb hr (fun t9 ht9 hW9 => ⟨⟨(g_92, va_up x 0 (nI 0)), rfl, ⟨RI.num hI0 hF7 (fun (k : Nat) (hk : (4 ≤ k ∧ k ≤ 11) ∨ k = 16) => (fr_93 k (by omega)).trans ((fr_88 k (by omega)).trans ((fr_84 k (by omega)).trans ((fr_80 k (by omega)).trans ((fr_74 k (by omega)).trans ((fr_65 k (by omega)).trans (rfl))))))) (VO.reach hVO0 f_94 r12b (fun (k : Nat) (hk : 13 ≤ k ∧ k ≤ 19) => (fr_93 k (by omega)).trans ((fr_88 k (by omega)).trans ((fr_84 k (by omega)).trans ((fr_80 k (by omega)).trans ((fr_74 k (by omega)).trans ((fr_65 k (by omega)).trans (rfl)))))))) (va_up_ne _ _ (by decide)) (va_up_ne _ _ (by decide)) (va_up_ne _ _ (by decide)) (fun f hf => ⟨(va_up_ne _ _ (by omega)).trans ((hO.1 f (by omega) (by omega) (by omega) (by omega)).1.trans (hOa f (Or.inl hf)).1), (va_up_ne _ _ (by omega)).trans ((hO.1 f (by omega) (by omega) (by omega) (by omega)).2.trans (hOa f (Or.inl hf)).2)⟩) ⟨fun r9 h9 => by by_cases h8 : 1000 + r9 = 1005; rw [h8, va_up_self, va_up_self]; exact hb15; rw [va_up_ne _ _ h8, va_up_ne _ _ h8]; by_cases h7 : 1000 + r9 = 1004; rw [h7, hO.2.1, hO.2.2]; exact hfb.1; rw [(hO.1 (1000 + r9) h7 (by omega) (by omega) (by omega)).1, (hO.1 (1000 + r9) h7 (by omega) (by omega) (by omega)).2, (hOa (1000 + r9) (Or.inr (by omega))).1, (hOa (1000 + r9) (Or.inr (by omega))).2]; exact hBd.1 r9 h9, fun v9 h9 => by rw [va_up_ne _ _ (by omega), va_up_ne _ _ (by omega), (hO.1 (1008 + v9) (by omega) (by omega) (by omega) (by omega)).1, (hO.1 (1008 + v9) (by omega) (by omega) (by omega) (by omega)).2, (hOa (1008 + v9) (Or.inr (by omega))).1, (hOa (1008 + v9) (Or.inr (by omega))).2]; exact hBd.2 v9 h9⟩, (va_up_ne _ _ (by decide)), Or.inr ⟨hok, vn, hvn, by omega, Or.inr ⟨by omega, va_up_self _ _ _⟩⟩⟩, by show va_P (dC, dI) vwCl _ t9.heap; rw [ht9]; exact hP⟩, hS.F ht9⟩) hS.2.2 dX10_along_219
                        · have c_89 := mt (nI_leI (a := 3) (b := vv) (by decide) (by omega)).mpr c_89
                          refine lv_aload_n hx hb dX10_along_141 rfl (lv_at hl 0 rfl) ?_
                          refine lv_sipush (v := nI 1012) hx hb dX10_along_142 (by decide +kernel) ?_
                          refine lv_iload hx hb dX10_along_145 (lv_at hl 6 rfl) ?_
                          refine lv_if_ne (tgt := 155) hx hb dX10_along_147 (by decide) (fun c_95 => ?_) (fun c_95 => ?_)
                          · have c_95 := mt (nI_eq (a := vv) (b := 0) (by omega) (by decide)).mpr c_95
                            refine lv_iload hx hb dX10_along_155 (lv_at hl 6 rfl) ?_
                            refine lv_iconst (v := nI 1) hx hb dX10_along_157 (by decide +kernel) ?_
                            refine lv_icmp_ne (tgt := 166) hx hb dX10_along_158 (by decide) (fun c_96 => ?_) (fun c_96 => ?_)
                            · have c_96 := mt (nI_eq (a := vv) (b := 1) (by omega) (by decide)).mpr c_96
                              refine lv_iload hx hb dX10_along_166 (lv_at hl 4 rfl) ?_
                              refine lv_i2l hx hb dX10_along_168 rfl ?_
                              refine lv_topl (fun y_97 e_98 => ?_)
                              refine lv_lconst (v := lN 1) hx hb dX10_along_169 (by decide +kernel) ?_
                              have f_99 : g_87 0 = .inr (13, Rob ad (va_up x 0 (nI 0))) := (fr_88 0 (by omega)).trans ((fr_84 0 (by omega)).trans f_81)
                              refine va_callv (va_runV (As := [.int (nI 1012), .long y_97, .long (lN 1)]) (rest := []) ⟨hx, hb, hml, hown, hts⟩ (c_X10_setFraction l dC dI A ad cA g_87 (va_up x 0 (nI 0)) p1 q1 1012 y_97 (lN 1) w3.toInt 1 hFL (by decide) (by rw [e_98]; exact Int32.toInt_toInt64 _) (by omega) (by decide) (by decide) (by decide)) (cwV 3 hts (goodIn_app (goodIn_r [Cond.methodLink RX10 139 yX10_setFraction, Cond.instanceMethod yX10_setFraction, Cond.selects RX10 yX10_setFraction yX10_setFraction, Cond.initialized RX10] [10, 11, 12, 6] rfl rfl) (goodIn_sub (fun w9 h9 => bk3 w9 h9) gw_X10_setFraction)) rfl rfl rfl (by decide +kernel) ⟨Nat.le_of_ble_eq_true rfl, Nat.le_of_ble_eq_true rfl⟩) ⟨fun a U g mk q => ⟨q.1, q.2.1, q.2.2.1, LY.moved (u := U) (U := U.calling g mk a) (Vm.Alike.refl U.vm) q.2.2.2⟩, va_recv hK hP (ci := 13) (q0 := 0) rfl (wo_at (by decide) f_99), fun U hU hW => ⟨rfl, by rw [hU]; exact fun q h => hA q (Nat.le_trans hS.1 h), by rw [hU]; exact hP, LY.moved hW.alike hL⟩⟩ rfl rfl hl.1 rfl (lv_room (Nat.le_of_ble_eq_true rfl)) dX10_along_170 ⟨(Nat.le_of_ble_eq_true rfl), (Nat.le_of_ble_eq_true rfl)⟩) hS (fun q _ h => h) (fun q h => h) (fun u8 t8 H1 locs ht8 hvm8 hw_100 hB hz1 hk1 hS => ?_)
                              obtain ⟨g_101, rfl⟩ : ∃ z, z = u8 := ⟨_, rfl⟩
                              try dsimp only at hw_100 hB
                              rw [ht8] at hB
                              have hP := hB
                              generalize H1 = H at hP hS ⊢
                              obtain ⟨fr_102, hF4⟩ := hw_100
                              rw [(rdp_1 _).1, (rdp_1 _).2] at hF4
                              refine lv_aload_n hx hb dX10_along_173 rfl (lv_at hl 0 rfl) ?_
                              refine lv_sipush (v := nI 1012) hx hb dX10_along_174 (by decide +kernel) ?_
                              refine lv_sipush (v := nI 1012) hx hb dX10_along_177 (by decide +kernel) ?_
                              refine lv_iload hx hb dX10_along_180 (lv_at hl 5 rfl) ?_
                              refine lv_iload hx hb dX10_along_182 (lv_at hl 6 rfl) ?_
                              refine va_calli (va_runS (As := [.int (nI rt), .int (nI vv)]) (rest := [.int (nI 1012), .int (nI 1012), .ref (ad 0)]) ⟨hx, hb, hml, hown, hts⟩ (c_X10_derivativeCell l dC dI A ad cA g_101 rt vv ) (va_cwS 2 hts (goodIn_app (goodIn_r [Cond.methodLink RX10 269 yX10_derivativeCell, Cond.static yX10_derivativeCell, Cond.initialized RX10] [13, 14, 6] rfl rfl) (goodIn_sub (fun w9 h9 => bk4 w9 h9) gw_X10_derivativeCell)) rfl rfl rfl (by decide +kernel) ⟨Nat.le_of_ble_eq_true rfl, Nat.le_of_ble_eq_true rfl⟩) ⟨fun a U g mk q => ⟨q.1, q.2.1, q.2.2.1, LY.moved (u := U) (U := U.calling g mk a) (Vm.Alike.refl U.vm) q.2.2.2⟩, fun U hU hW => ⟨rfl, by rw [hU]; exact fun q h => hA q (Nat.le_trans hS.1 h), by rw [hU]; exact hP, LY.moved hW.alike hL⟩⟩ rfl rfl hl.1 rfl (lv_room (Nat.le_of_ble_eq_true rfl)) dX10_along_184 ⟨(Nat.le_of_ble_eq_true rfl), (Nat.le_of_ble_eq_true rfl)⟩) hS (fun q _ h => h) (fun q h => h) (fun r_103 u8 t8 H1 locs ht8 hvm8 hw_104 hB hz1 hk1 hS => ?_)
                              obtain ⟨⟩ := u8
                              try dsimp only at hw_104 hB
                              rw [ht8] at hB
                              have hP := hB
                              generalize H1 = H at hP hS ⊢
                              obtain rfl := hw_104
                              have e1 : ((va_up p1 1012 w3.toInt)) (400 + 200 * vv + rt) = p3 (400 + 200 * vv + rt) := (va_up_ne _ _ (by omega)).trans (hO.1 _ (by omega) (by omega) (by omega) (by omega)).1
                              have e2 : ((va_up q1 1012 1)) (400 + 200 * vv + rt) = q3 (400 + 200 * vv + rt) := (va_up_ne _ _ (by omega)).trans (hO.1 _ (by omega) (by omega) (by omega) (by omega)).2
                              have b19 : 999 < 2 ^ 1200 := by decide +kernel
                              have f_105 : g_101 0 = .inr (13, Rob ad (va_up x 0 (nI 0))) := (fr_102 0 (by omega)).trans f_99
                              refine va_callv (va_runV (As := [.int (nI 1012), .int (nI 1012), .int (nI (400 + 200 * vv + rt))]) (rest := []) ⟨hx, hb, hml, hown, hts⟩ (c_X10_timesFractions l dC dI A ad cA g_101 (va_up x 0 (nI 0)) (va_up p1 1012 w3.toInt) (va_up q1 1012 1) 1012 1012 (400 + 200 * vv + rt) hF4 (by decide) (by decide) (by omega) (⟨by rw [va_up_self]; exact Nat.lt_of_le_of_lt (show _ ≤ 999 by omega) b19, by rw [va_up_self]; exact Nat.one_lt_two_pow (by decide)⟩) (by rw [e1, e2]; exact k_1012 (hfb.2 vv (by omega)))) (cwV 3 hts (goodIn_app (goodIn_r [Cond.methodLink RX10 143 yX10_timesFractions, Cond.instanceMethod yX10_timesFractions, Cond.selects RX10 yX10_timesFractions yX10_timesFractions, Cond.initialized RX10] [15, 16, 17, 6] rfl rfl) (goodIn_sub (fun w9 h9 => bk5 w9 h9) gw_X10_timesFractions)) rfl rfl rfl (by decide +kernel) ⟨Nat.le_of_ble_eq_true rfl, Nat.le_of_ble_eq_true rfl⟩) ⟨fun a U g mk q => ⟨q.1, q.2.1, q.2.2.1, LY.moved (u := U) (U := U.calling g mk a) (Vm.Alike.refl U.vm) q.2.2.2⟩, va_recv hK hP (ci := 13) (q0 := 0) rfl (wo_at (by decide) f_105), fun U hU hW => ⟨rfl, by rw [hU]; exact fun q h => hA q (Nat.le_trans hS.1 h), by rw [hU]; exact hP, LY.moved hW.alike hL⟩⟩ rfl rfl hl.1 rfl (lv_room (Nat.le_of_ble_eq_true rfl)) dX10_along_187 ⟨(Nat.le_of_ble_eq_true rfl), (Nat.le_of_ble_eq_true rfl)⟩) hS (fun q _ h => h) (fun q h => h) (fun u8 t8 H1 locs ht8 hvm8 hw_106 hB hz1 hk1 hS => ?_)
                              obtain ⟨g_107, pf2_108, qf2_109⟩ := u8
                              try dsimp only at hw_106 hB
                              rw [ht8] at hB
                              have hP := hB
                              generalize H1 = H at hP hS ⊢
                              obtain ⟨fr_110, hF5, hp5, hq5, ho5⟩ := hw_106
                              rw [e1, e2, va_up_self, va_up_self] at hp5 hq5
                              refine lv_aload_n hx hb dX10_along_190 rfl (lv_at hl 0 rfl) ?_
                              refine lv_sipush (v := nI 1015) hx hb dX10_along_191 (by decide +kernel) ?_
                              refine lv_sipush (v := nI 1015) hx hb dX10_along_194 (by decide +kernel) ?_
                              refine lv_sipush (v := nI 1012) hx hb dX10_along_197 (by decide +kernel) ?_
                              have f1 : pf2_108 1015 = p1 1015 ∧ qf2_109 1015 = q1 1015 := ⟨(ho5 1015 (by decide) (by decide)).1.trans (va_up_ne _ _ (by decide)), (ho5 1015 (by decide) (by decide)).2.trans (va_up_ne _ _ (by decide))⟩
                              obtain ⟨S9, hSb, hSe⟩ := hS9
                              have hS3 : S9.natAbs ≤ 3 * (999 * 2 ^ 723) := Nat.le_trans hSb (Nat.mul_le_mul_right _ hv3)
                              have hb15 := k_fbS hSe (hFL.red (by decide)) hM9.1 hS3 hM9.2
                              have hb12 : (pf2_108 1012).natAbs < 2 ^ 1000 ∧ qf2_109 1012 < 2 ^ 1000 := by have h9 := Eqv.times hp5 hq5 (show Eqv w3.toInt 1 w3.toInt 1 from rfl) (a3 vv (by omega)).2 (by decide) (hFa.red (by omega)).1; refine k_fbS h9 (hF5.red (by decide)) (by have := hM9.1; omega) ?_ (by have := hM9.2; omega); rw [Int.natAbs_mul]; have h8 := Nat.mul_le_mul (show w3.toInt.natAbs ≤ 999 by omega) (hDb vv (by omega)); omega
                              have f_111 : g_107 0 = .inr (13, Rob ad (va_up x 0 (nI 0))) := (fr_110 0 (by omega)).trans f_105
                              refine va_callv (va_runV (As := [.int (nI 1015), .int (nI 1015), .int (nI 1012)]) (rest := []) ⟨hx, hb, hml, hown, hts⟩ (c_X10_addFractions l dC dI A ad cA g_107 (va_up x 0 (nI 0)) pf2_108 qf2_109 1015 1015 1012 hF5 (by decide) (by decide) (by decide) (by rw [f1.1, f1.2]; exact k_1012 hb15) (k_1012 hb12)) (cwV 3 hts (goodIn_app (goodIn_r [Cond.methodLink RX10 171 yX10_addFractions, Cond.instanceMethod yX10_addFractions, Cond.selects RX10 yX10_addFractions yX10_addFractions, Cond.initialized RX10] [18, 19, 20, 6] rfl rfl) (goodIn_sub (fun w9 h9 => bk6 w9 h9) gw_X10_addFractions)) rfl rfl rfl (by decide +kernel) ⟨Nat.le_of_ble_eq_true rfl, Nat.le_of_ble_eq_true rfl⟩) ⟨fun a U g mk q => ⟨q.1, q.2.1, q.2.2.1, LY.moved (u := U) (U := U.calling g mk a) (Vm.Alike.refl U.vm) q.2.2.2⟩, va_recv hK hP (ci := 13) (q0 := 0) rfl (wo_at (by decide) f_111), fun U hU hW => ⟨rfl, by rw [hU]; exact fun q h => hA q (Nat.le_trans hS.1 h), by rw [hU]; exact hP, LY.moved hW.alike hL⟩⟩ rfl rfl hl.1 rfl (lv_room (Nat.le_of_ble_eq_true rfl)) dX10_along_200 ⟨(Nat.le_of_ble_eq_true rfl), (Nat.le_of_ble_eq_true rfl)⟩) hS (fun q _ h => h) (fun q h => h) (fun u8 t8 H1 locs ht8 hvm8 hw_112 hB hz1 hk1 hS => ?_)
                              obtain ⟨g_113, pf2_114, qf2_115⟩ := u8
                              try dsimp only at hw_112 hB
                              rw [ht8] at hB
                              have hP := hB
                              generalize H1 = H at hP hS ⊢
                              obtain ⟨fr_116, hF6, hp6, hq6, ho6⟩ := hw_112
                              rw [f1.1, f1.2] at hp6 hq6
                              have hSn : ∃ S : Int, S.natAbs ≤ (vv + 1) * (999 * 2 ^ 723) ∧ Eqv (pf2_114 1015) (qf2_115 1015) S M9 := ⟨S9 + w3.toInt * D9 vv, al_b hSb (by omega) (hDb vv (by omega)), al_step hp5 hq5 hp6 hq6 hSe (a3 vv (by omega)).2 (hFL.red (by decide)).1 (hFa.red (by omega)).1 hM9.1⟩
                              have hOk : ∀ f, f ≠ 1012 → f ≠ 1015 → f ≠ 1016 → pf2_114 f = p1 f ∧ qf2_115 f = q1 f := fun f h2 h3 h4 => ⟨(ho6 f h3 h4).1.trans ((ho5 f h2 h4).1.trans (va_up_ne _ _ h2)), (ho6 f h3 h4).2.trans ((ho5 f h2 h4).2.trans (va_up_ne _ _ h2))⟩
                              have hOn : (∀ f, f ≠ 1004 → f ≠ 1012 → f ≠ 1015 → f ≠ 1016 → pf2_114 f = p3 f ∧ qf2_115 f = q3 f) ∧ pf2_114 1004 = p3 (200 + rt) ∧ qf2_115 1004 = q3 (200 + rt) := ⟨fun f h1 h2 h3 h4 => ⟨(hOk f h2 h3 h4).1.trans (hO.1 f h1 h2 h3 h4).1, (hOk f h2 h3 h4).2.trans (hO.1 f h1 h2 h3 h4).2⟩, (hOk 1004 (by decide) (by decide) (by decide)).1.trans hO.2.1, (hOk 1004 (by decide) (by decide) (by decide)).2.trans hO.2.2⟩
                              refine lv_iinc (v := nI (vv + 1)) (lv' := [(7, .int (nI (vv + 1))), (0, .ref (ad 0)), (1, .int (nI vn)), (2, .int w1), (3, .int w2), (4, .int w3), (6, .int (nI rt))]) hx hb dX10_along_203 hl (k := 6) rfl (nI_add vv 1) (by decide) rfl (fun ls hl => ?_)
                              refine lv_goto (tgt := 135) hx hb dX10_along_206 (by decide) ?_
                              exact ih_86 (vv + 1) pf2_114 qf2_115 g_113 (fun (k : Nat) (hk : k ≠ 1 ∧ k ≠ 2 ∧ k ≠ 3) => (fr_116 k (by omega)).trans ((fr_110 k (by omega)).trans ((fr_102 k (by omega)).trans ((fr_88 k (by omega)).trans (rfl))))) (by omega) (by omega) hOn hSn hF6 _ _ _ hP hS (lv_sub (l' := [(0, .ref (ad 0)), (1, .int (nI vn)), (2, .int w1), (3, .int w2), (4, .int w3), (6, .int (nI rt)), (7, .int (nI (vv + 1)))]) hl [1, 2, 3, 4, 5, 6, 0] rfl)
                            · have c_96 := (nI_eq (a := vv) (b := 1) (by omega) (by decide)).mp c_96
                              refine lv_iload_n hx hb dX10_along_161 rfl (lv_at hl 3 rfl) ?_
                              refine lv_i2l hx hb dX10_along_162 rfl ?_
                              refine lv_topl (fun y_119 e_120 => ?_)
                              refine lv_goto (tgt := 169) hx hb dX10_along_163 (by decide) ?_
                              refine lv_lconst (v := lN 1) hx hb dX10_along_169 (by decide +kernel) ?_
                              have f_121 : g_87 0 = .inr (13, Rob ad (va_up x 0 (nI 0))) := (fr_88 0 (by omega)).trans ((fr_84 0 (by omega)).trans f_81)
                              refine va_callv (va_runV (As := [.int (nI 1012), .long y_119, .long (lN 1)]) (rest := []) ⟨hx, hb, hml, hown, hts⟩ (c_X10_setFraction l dC dI A ad cA g_87 (va_up x 0 (nI 0)) p1 q1 1012 y_119 (lN 1) w2.toInt 1 hFL (by decide) (by rw [e_120]; exact Int32.toInt_toInt64 _) (by omega) (by decide) (by decide) (by decide)) (cwV 3 hts (goodIn_app (goodIn_r [Cond.methodLink RX10 139 yX10_setFraction, Cond.instanceMethod yX10_setFraction, Cond.selects RX10 yX10_setFraction yX10_setFraction, Cond.initialized RX10] [10, 11, 12, 6] rfl rfl) (goodIn_sub (fun w9 h9 => bk3 w9 h9) gw_X10_setFraction)) rfl rfl rfl (by decide +kernel) ⟨Nat.le_of_ble_eq_true rfl, Nat.le_of_ble_eq_true rfl⟩) ⟨fun a U g mk q => ⟨q.1, q.2.1, q.2.2.1, LY.moved (u := U) (U := U.calling g mk a) (Vm.Alike.refl U.vm) q.2.2.2⟩, va_recv hK hP (ci := 13) (q0 := 0) rfl (wo_at (by decide) f_121), fun U hU hW => ⟨rfl, by rw [hU]; exact fun q h => hA q (Nat.le_trans hS.1 h), by rw [hU]; exact hP, LY.moved hW.alike hL⟩⟩ rfl rfl hl.1 rfl (lv_room (Nat.le_of_ble_eq_true rfl)) dX10_along_170 ⟨(Nat.le_of_ble_eq_true rfl), (Nat.le_of_ble_eq_true rfl)⟩) hS (fun q _ h => h) (fun q h => h) (fun u8 t8 H1 locs ht8 hvm8 hw_122 hB hz1 hk1 hS => ?_)
                              obtain ⟨g_123, rfl⟩ : ∃ z, z = u8 := ⟨_, rfl⟩
                              try dsimp only at hw_122 hB
                              rw [ht8] at hB
                              have hP := hB
                              generalize H1 = H at hP hS ⊢
                              obtain ⟨fr_124, hF4⟩ := hw_122
                              rw [(rdp_1 _).1, (rdp_1 _).2] at hF4
                              refine lv_aload_n hx hb dX10_along_173 rfl (lv_at hl 0 rfl) ?_
                              refine lv_sipush (v := nI 1012) hx hb dX10_along_174 (by decide +kernel) ?_
                              refine lv_sipush (v := nI 1012) hx hb dX10_along_177 (by decide +kernel) ?_
                              refine lv_iload hx hb dX10_along_180 (lv_at hl 5 rfl) ?_
                              refine lv_iload hx hb dX10_along_182 (lv_at hl 6 rfl) ?_
                              refine va_calli (va_runS (As := [.int (nI rt), .int (nI vv)]) (rest := [.int (nI 1012), .int (nI 1012), .ref (ad 0)]) ⟨hx, hb, hml, hown, hts⟩ (c_X10_derivativeCell l dC dI A ad cA g_123 rt vv ) (va_cwS 2 hts (goodIn_app (goodIn_r [Cond.methodLink RX10 269 yX10_derivativeCell, Cond.static yX10_derivativeCell, Cond.initialized RX10] [13, 14, 6] rfl rfl) (goodIn_sub (fun w9 h9 => bk4 w9 h9) gw_X10_derivativeCell)) rfl rfl rfl (by decide +kernel) ⟨Nat.le_of_ble_eq_true rfl, Nat.le_of_ble_eq_true rfl⟩) ⟨fun a U g mk q => ⟨q.1, q.2.1, q.2.2.1, LY.moved (u := U) (U := U.calling g mk a) (Vm.Alike.refl U.vm) q.2.2.2⟩, fun U hU hW => ⟨rfl, by rw [hU]; exact fun q h => hA q (Nat.le_trans hS.1 h), by rw [hU]; exact hP, LY.moved hW.alike hL⟩⟩ rfl rfl hl.1 rfl (lv_room (Nat.le_of_ble_eq_true rfl)) dX10_along_184 ⟨(Nat.le_of_ble_eq_true rfl), (Nat.le_of_ble_eq_true rfl)⟩) hS (fun q _ h => h) (fun q h => h) (fun r_125 u8 t8 H1 locs ht8 hvm8 hw_126 hB hz1 hk1 hS => ?_)
                              obtain ⟨⟩ := u8
                              try dsimp only at hw_126 hB
                              rw [ht8] at hB
                              have hP := hB
                              generalize H1 = H at hP hS ⊢
                              obtain rfl := hw_126
                              have e1 : ((va_up p1 1012 w2.toInt)) (400 + 200 * vv + rt) = p3 (400 + 200 * vv + rt) := (va_up_ne _ _ (by omega)).trans (hO.1 _ (by omega) (by omega) (by omega) (by omega)).1
                              have e2 : ((va_up q1 1012 1)) (400 + 200 * vv + rt) = q3 (400 + 200 * vv + rt) := (va_up_ne _ _ (by omega)).trans (hO.1 _ (by omega) (by omega) (by omega) (by omega)).2
                              have b19 : 999 < 2 ^ 1200 := by decide +kernel
                              have f_127 : g_123 0 = .inr (13, Rob ad (va_up x 0 (nI 0))) := (fr_124 0 (by omega)).trans f_121
                              refine va_callv (va_runV (As := [.int (nI 1012), .int (nI 1012), .int (nI (400 + 200 * vv + rt))]) (rest := []) ⟨hx, hb, hml, hown, hts⟩ (c_X10_timesFractions l dC dI A ad cA g_123 (va_up x 0 (nI 0)) (va_up p1 1012 w2.toInt) (va_up q1 1012 1) 1012 1012 (400 + 200 * vv + rt) hF4 (by decide) (by decide) (by omega) (⟨by rw [va_up_self]; exact Nat.lt_of_le_of_lt (show _ ≤ 999 by omega) b19, by rw [va_up_self]; exact Nat.one_lt_two_pow (by decide)⟩) (by rw [e1, e2]; exact k_1012 (hfb.2 vv (by omega)))) (cwV 3 hts (goodIn_app (goodIn_r [Cond.methodLink RX10 143 yX10_timesFractions, Cond.instanceMethod yX10_timesFractions, Cond.selects RX10 yX10_timesFractions yX10_timesFractions, Cond.initialized RX10] [15, 16, 17, 6] rfl rfl) (goodIn_sub (fun w9 h9 => bk5 w9 h9) gw_X10_timesFractions)) rfl rfl rfl (by decide +kernel) ⟨Nat.le_of_ble_eq_true rfl, Nat.le_of_ble_eq_true rfl⟩) ⟨fun a U g mk q => ⟨q.1, q.2.1, q.2.2.1, LY.moved (u := U) (U := U.calling g mk a) (Vm.Alike.refl U.vm) q.2.2.2⟩, va_recv hK hP (ci := 13) (q0 := 0) rfl (wo_at (by decide) f_127), fun U hU hW => ⟨rfl, by rw [hU]; exact fun q h => hA q (Nat.le_trans hS.1 h), by rw [hU]; exact hP, LY.moved hW.alike hL⟩⟩ rfl rfl hl.1 rfl (lv_room (Nat.le_of_ble_eq_true rfl)) dX10_along_187 ⟨(Nat.le_of_ble_eq_true rfl), (Nat.le_of_ble_eq_true rfl)⟩) hS (fun q _ h => h) (fun q h => h) (fun u8 t8 H1 locs ht8 hvm8 hw_128 hB hz1 hk1 hS => ?_)
                              obtain ⟨g_129, pf2_130, qf2_131⟩ := u8
                              try dsimp only at hw_128 hB
                              rw [ht8] at hB
                              have hP := hB
                              generalize H1 = H at hP hS ⊢
                              obtain ⟨fr_132, hF5, hp5, hq5, ho5⟩ := hw_128
                              rw [e1, e2, va_up_self, va_up_self] at hp5 hq5
                              refine lv_aload_n hx hb dX10_along_190 rfl (lv_at hl 0 rfl) ?_
                              refine lv_sipush (v := nI 1015) hx hb dX10_along_191 (by decide +kernel) ?_
                              refine lv_sipush (v := nI 1015) hx hb dX10_along_194 (by decide +kernel) ?_
                              refine lv_sipush (v := nI 1012) hx hb dX10_along_197 (by decide +kernel) ?_
                              have f1 : pf2_130 1015 = p1 1015 ∧ qf2_131 1015 = q1 1015 := ⟨(ho5 1015 (by decide) (by decide)).1.trans (va_up_ne _ _ (by decide)), (ho5 1015 (by decide) (by decide)).2.trans (va_up_ne _ _ (by decide))⟩
                              obtain ⟨S9, hSb, hSe⟩ := hS9
                              have hS3 : S9.natAbs ≤ 3 * (999 * 2 ^ 723) := Nat.le_trans hSb (Nat.mul_le_mul_right _ hv3)
                              have hb15 := k_fbS hSe (hFL.red (by decide)) hM9.1 hS3 hM9.2
                              have hb12 : (pf2_130 1012).natAbs < 2 ^ 1000 ∧ qf2_131 1012 < 2 ^ 1000 := by have h9 := Eqv.times hp5 hq5 (show Eqv w2.toInt 1 w2.toInt 1 from rfl) (a3 vv (by omega)).2 (by decide) (hFa.red (by omega)).1; refine k_fbS h9 (hF5.red (by decide)) (by have := hM9.1; omega) ?_ (by have := hM9.2; omega); rw [Int.natAbs_mul]; have h8 := Nat.mul_le_mul (show w2.toInt.natAbs ≤ 999 by omega) (hDb vv (by omega)); omega
                              have f_133 : g_129 0 = .inr (13, Rob ad (va_up x 0 (nI 0))) := (fr_132 0 (by omega)).trans f_127
                              refine va_callv (va_runV (As := [.int (nI 1015), .int (nI 1015), .int (nI 1012)]) (rest := []) ⟨hx, hb, hml, hown, hts⟩ (c_X10_addFractions l dC dI A ad cA g_129 (va_up x 0 (nI 0)) pf2_130 qf2_131 1015 1015 1012 hF5 (by decide) (by decide) (by decide) (by rw [f1.1, f1.2]; exact k_1012 hb15) (k_1012 hb12)) (cwV 3 hts (goodIn_app (goodIn_r [Cond.methodLink RX10 171 yX10_addFractions, Cond.instanceMethod yX10_addFractions, Cond.selects RX10 yX10_addFractions yX10_addFractions, Cond.initialized RX10] [18, 19, 20, 6] rfl rfl) (goodIn_sub (fun w9 h9 => bk6 w9 h9) gw_X10_addFractions)) rfl rfl rfl (by decide +kernel) ⟨Nat.le_of_ble_eq_true rfl, Nat.le_of_ble_eq_true rfl⟩) ⟨fun a U g mk q => ⟨q.1, q.2.1, q.2.2.1, LY.moved (u := U) (U := U.calling g mk a) (Vm.Alike.refl U.vm) q.2.2.2⟩, va_recv hK hP (ci := 13) (q0 := 0) rfl (wo_at (by decide) f_133), fun U hU hW => ⟨rfl, by rw [hU]; exact fun q h => hA q (Nat.le_trans hS.1 h), by rw [hU]; exact hP, LY.moved hW.alike hL⟩⟩ rfl rfl hl.1 rfl (lv_room (Nat.le_of_ble_eq_true rfl)) dX10_along_200 ⟨(Nat.le_of_ble_eq_true rfl), (Nat.le_of_ble_eq_true rfl)⟩) hS (fun q _ h => h) (fun q h => h) (fun u8 t8 H1 locs ht8 hvm8 hw_134 hB hz1 hk1 hS => ?_)
                              obtain ⟨g_135, pf2_136, qf2_137⟩ := u8
                              try dsimp only at hw_134 hB
                              rw [ht8] at hB
                              have hP := hB
                              generalize H1 = H at hP hS ⊢
                              obtain ⟨fr_138, hF6, hp6, hq6, ho6⟩ := hw_134
                              rw [f1.1, f1.2] at hp6 hq6
                              have hSn : ∃ S : Int, S.natAbs ≤ (vv + 1) * (999 * 2 ^ 723) ∧ Eqv (pf2_136 1015) (qf2_137 1015) S M9 := ⟨S9 + w2.toInt * D9 vv, al_b hSb (by omega) (hDb vv (by omega)), al_step hp5 hq5 hp6 hq6 hSe (a3 vv (by omega)).2 (hFL.red (by decide)).1 (hFa.red (by omega)).1 hM9.1⟩
                              have hOk : ∀ f, f ≠ 1012 → f ≠ 1015 → f ≠ 1016 → pf2_136 f = p1 f ∧ qf2_137 f = q1 f := fun f h2 h3 h4 => ⟨(ho6 f h3 h4).1.trans ((ho5 f h2 h4).1.trans (va_up_ne _ _ h2)), (ho6 f h3 h4).2.trans ((ho5 f h2 h4).2.trans (va_up_ne _ _ h2))⟩
                              have hOn : (∀ f, f ≠ 1004 → f ≠ 1012 → f ≠ 1015 → f ≠ 1016 → pf2_136 f = p3 f ∧ qf2_137 f = q3 f) ∧ pf2_136 1004 = p3 (200 + rt) ∧ qf2_137 1004 = q3 (200 + rt) := ⟨fun f h1 h2 h3 h4 => ⟨(hOk f h2 h3 h4).1.trans (hO.1 f h1 h2 h3 h4).1, (hOk f h2 h3 h4).2.trans (hO.1 f h1 h2 h3 h4).2⟩, (hOk 1004 (by decide) (by decide) (by decide)).1.trans hO.2.1, (hOk 1004 (by decide) (by decide) (by decide)).2.trans hO.2.2⟩
                              refine lv_iinc (v := nI (vv + 1)) (lv' := [(7, .int (nI (vv + 1))), (0, .ref (ad 0)), (1, .int (nI vn)), (2, .int w1), (3, .int w2), (4, .int w3), (6, .int (nI rt))]) hx hb dX10_along_203 hl (k := 6) rfl (nI_add vv 1) (by decide) rfl (fun ls hl => ?_)
                              refine lv_goto (tgt := 135) hx hb dX10_along_206 (by decide) ?_
                              exact ih_86 (vv + 1) pf2_136 qf2_137 g_135 (fun (k : Nat) (hk : k ≠ 1 ∧ k ≠ 2 ∧ k ≠ 3) => (fr_138 k (by omega)).trans ((fr_132 k (by omega)).trans ((fr_124 k (by omega)).trans ((fr_88 k (by omega)).trans (rfl))))) (by omega) (by omega) hOn hSn hF6 _ _ _ hP hS (lv_sub (l' := [(0, .ref (ad 0)), (1, .int (nI vn)), (2, .int w1), (3, .int w2), (4, .int w3), (6, .int (nI rt)), (7, .int (nI (vv + 1)))]) hl [1, 2, 3, 4, 5, 6, 0] rfl)
                          · have c_95 := (nI_eq (a := vv) (b := 0) (by omega) (by decide)).mp c_95
                            refine lv_iload_n hx hb dX10_along_150 rfl (lv_at hl 2 rfl) ?_
                            refine lv_i2l hx hb dX10_along_151 rfl ?_
                            refine lv_topl (fun y_141 e_142 => ?_)
                            refine lv_goto (tgt := 169) hx hb dX10_along_152 (by decide) ?_
                            refine lv_lconst (v := lN 1) hx hb dX10_along_169 (by decide +kernel) ?_
                            have f_143 : g_87 0 = .inr (13, Rob ad (va_up x 0 (nI 0))) := (fr_88 0 (by omega)).trans ((fr_84 0 (by omega)).trans f_81)
                            refine va_callv (va_runV (As := [.int (nI 1012), .long y_141, .long (lN 1)]) (rest := []) ⟨hx, hb, hml, hown, hts⟩ (c_X10_setFraction l dC dI A ad cA g_87 (va_up x 0 (nI 0)) p1 q1 1012 y_141 (lN 1) w1.toInt 1 hFL (by decide) (by rw [e_142]; exact Int32.toInt_toInt64 _) (by omega) (by decide) (by decide) (by decide)) (cwV 3 hts (goodIn_app (goodIn_r [Cond.methodLink RX10 139 yX10_setFraction, Cond.instanceMethod yX10_setFraction, Cond.selects RX10 yX10_setFraction yX10_setFraction, Cond.initialized RX10] [10, 11, 12, 6] rfl rfl) (goodIn_sub (fun w9 h9 => bk3 w9 h9) gw_X10_setFraction)) rfl rfl rfl (by decide +kernel) ⟨Nat.le_of_ble_eq_true rfl, Nat.le_of_ble_eq_true rfl⟩) ⟨fun a U g mk q => ⟨q.1, q.2.1, q.2.2.1, LY.moved (u := U) (U := U.calling g mk a) (Vm.Alike.refl U.vm) q.2.2.2⟩, va_recv hK hP (ci := 13) (q0 := 0) rfl (wo_at (by decide) f_143), fun U hU hW => ⟨rfl, by rw [hU]; exact fun q h => hA q (Nat.le_trans hS.1 h), by rw [hU]; exact hP, LY.moved hW.alike hL⟩⟩ rfl rfl hl.1 rfl (lv_room (Nat.le_of_ble_eq_true rfl)) dX10_along_170 ⟨(Nat.le_of_ble_eq_true rfl), (Nat.le_of_ble_eq_true rfl)⟩) hS (fun q _ h => h) (fun q h => h) (fun u8 t8 H1 locs ht8 hvm8 hw_144 hB hz1 hk1 hS => ?_)
                            obtain ⟨g_145, rfl⟩ : ∃ z, z = u8 := ⟨_, rfl⟩
                            try dsimp only at hw_144 hB
                            rw [ht8] at hB
                            have hP := hB
                            generalize H1 = H at hP hS ⊢
                            obtain ⟨fr_146, hF4⟩ := hw_144
                            rw [(rdp_1 _).1, (rdp_1 _).2] at hF4
                            refine lv_aload_n hx hb dX10_along_173 rfl (lv_at hl 0 rfl) ?_
                            refine lv_sipush (v := nI 1012) hx hb dX10_along_174 (by decide +kernel) ?_
                            refine lv_sipush (v := nI 1012) hx hb dX10_along_177 (by decide +kernel) ?_
                            refine lv_iload hx hb dX10_along_180 (lv_at hl 5 rfl) ?_
                            refine lv_iload hx hb dX10_along_182 (lv_at hl 6 rfl) ?_
                            refine va_calli (va_runS (As := [.int (nI rt), .int (nI vv)]) (rest := [.int (nI 1012), .int (nI 1012), .ref (ad 0)]) ⟨hx, hb, hml, hown, hts⟩ (c_X10_derivativeCell l dC dI A ad cA g_145 rt vv ) (va_cwS 2 hts (goodIn_app (goodIn_r [Cond.methodLink RX10 269 yX10_derivativeCell, Cond.static yX10_derivativeCell, Cond.initialized RX10] [13, 14, 6] rfl rfl) (goodIn_sub (fun w9 h9 => bk4 w9 h9) gw_X10_derivativeCell)) rfl rfl rfl (by decide +kernel) ⟨Nat.le_of_ble_eq_true rfl, Nat.le_of_ble_eq_true rfl⟩) ⟨fun a U g mk q => ⟨q.1, q.2.1, q.2.2.1, LY.moved (u := U) (U := U.calling g mk a) (Vm.Alike.refl U.vm) q.2.2.2⟩, fun U hU hW => ⟨rfl, by rw [hU]; exact fun q h => hA q (Nat.le_trans hS.1 h), by rw [hU]; exact hP, LY.moved hW.alike hL⟩⟩ rfl rfl hl.1 rfl (lv_room (Nat.le_of_ble_eq_true rfl)) dX10_along_184 ⟨(Nat.le_of_ble_eq_true rfl), (Nat.le_of_ble_eq_true rfl)⟩) hS (fun q _ h => h) (fun q h => h) (fun r_147 u8 t8 H1 locs ht8 hvm8 hw_148 hB hz1 hk1 hS => ?_)
                            obtain ⟨⟩ := u8
                            try dsimp only at hw_148 hB
                            rw [ht8] at hB
                            have hP := hB
                            generalize H1 = H at hP hS ⊢
                            obtain rfl := hw_148
                            have e1 : ((va_up p1 1012 w1.toInt)) (400 + 200 * vv + rt) = p3 (400 + 200 * vv + rt) := (va_up_ne _ _ (by omega)).trans (hO.1 _ (by omega) (by omega) (by omega) (by omega)).1
                            have e2 : ((va_up q1 1012 1)) (400 + 200 * vv + rt) = q3 (400 + 200 * vv + rt) := (va_up_ne _ _ (by omega)).trans (hO.1 _ (by omega) (by omega) (by omega) (by omega)).2
                            have b19 : 999 < 2 ^ 1200 := by decide +kernel
                            have f_149 : g_145 0 = .inr (13, Rob ad (va_up x 0 (nI 0))) := (fr_146 0 (by omega)).trans f_143
                            refine va_callv (va_runV (As := [.int (nI 1012), .int (nI 1012), .int (nI (400 + 200 * vv + rt))]) (rest := []) ⟨hx, hb, hml, hown, hts⟩ (c_X10_timesFractions l dC dI A ad cA g_145 (va_up x 0 (nI 0)) (va_up p1 1012 w1.toInt) (va_up q1 1012 1) 1012 1012 (400 + 200 * vv + rt) hF4 (by decide) (by decide) (by omega) (⟨by rw [va_up_self]; exact Nat.lt_of_le_of_lt (show _ ≤ 999 by omega) b19, by rw [va_up_self]; exact Nat.one_lt_two_pow (by decide)⟩) (by rw [e1, e2]; exact k_1012 (hfb.2 vv (by omega)))) (cwV 3 hts (goodIn_app (goodIn_r [Cond.methodLink RX10 143 yX10_timesFractions, Cond.instanceMethod yX10_timesFractions, Cond.selects RX10 yX10_timesFractions yX10_timesFractions, Cond.initialized RX10] [15, 16, 17, 6] rfl rfl) (goodIn_sub (fun w9 h9 => bk5 w9 h9) gw_X10_timesFractions)) rfl rfl rfl (by decide +kernel) ⟨Nat.le_of_ble_eq_true rfl, Nat.le_of_ble_eq_true rfl⟩) ⟨fun a U g mk q => ⟨q.1, q.2.1, q.2.2.1, LY.moved (u := U) (U := U.calling g mk a) (Vm.Alike.refl U.vm) q.2.2.2⟩, va_recv hK hP (ci := 13) (q0 := 0) rfl (wo_at (by decide) f_149), fun U hU hW => ⟨rfl, by rw [hU]; exact fun q h => hA q (Nat.le_trans hS.1 h), by rw [hU]; exact hP, LY.moved hW.alike hL⟩⟩ rfl rfl hl.1 rfl (lv_room (Nat.le_of_ble_eq_true rfl)) dX10_along_187 ⟨(Nat.le_of_ble_eq_true rfl), (Nat.le_of_ble_eq_true rfl)⟩) hS (fun q _ h => h) (fun q h => h) (fun u8 t8 H1 locs ht8 hvm8 hw_150 hB hz1 hk1 hS => ?_)
                            obtain ⟨g_151, pf2_152, qf2_153⟩ := u8
                            try dsimp only at hw_150 hB
                            rw [ht8] at hB
                            have hP := hB
                            generalize H1 = H at hP hS ⊢
                            obtain ⟨fr_154, hF5, hp5, hq5, ho5⟩ := hw_150
                            rw [e1, e2, va_up_self, va_up_self] at hp5 hq5
                            refine lv_aload_n hx hb dX10_along_190 rfl (lv_at hl 0 rfl) ?_
                            refine lv_sipush (v := nI 1015) hx hb dX10_along_191 (by decide +kernel) ?_
                            refine lv_sipush (v := nI 1015) hx hb dX10_along_194 (by decide +kernel) ?_
                            refine lv_sipush (v := nI 1012) hx hb dX10_along_197 (by decide +kernel) ?_
                            have f1 : pf2_152 1015 = p1 1015 ∧ qf2_153 1015 = q1 1015 := ⟨(ho5 1015 (by decide) (by decide)).1.trans (va_up_ne _ _ (by decide)), (ho5 1015 (by decide) (by decide)).2.trans (va_up_ne _ _ (by decide))⟩
                            obtain ⟨S9, hSb, hSe⟩ := hS9
                            have hS3 : S9.natAbs ≤ 3 * (999 * 2 ^ 723) := Nat.le_trans hSb (Nat.mul_le_mul_right _ hv3)
                            have hb15 := k_fbS hSe (hFL.red (by decide)) hM9.1 hS3 hM9.2
                            have hb12 : (pf2_152 1012).natAbs < 2 ^ 1000 ∧ qf2_153 1012 < 2 ^ 1000 := by have h9 := Eqv.times hp5 hq5 (show Eqv w1.toInt 1 w1.toInt 1 from rfl) (a3 vv (by omega)).2 (by decide) (hFa.red (by omega)).1; refine k_fbS h9 (hF5.red (by decide)) (by have := hM9.1; omega) ?_ (by have := hM9.2; omega); rw [Int.natAbs_mul]; have h8 := Nat.mul_le_mul (show w1.toInt.natAbs ≤ 999 by omega) (hDb vv (by omega)); omega
                            have f_155 : g_151 0 = .inr (13, Rob ad (va_up x 0 (nI 0))) := (fr_154 0 (by omega)).trans f_149
                            refine va_callv (va_runV (As := [.int (nI 1015), .int (nI 1015), .int (nI 1012)]) (rest := []) ⟨hx, hb, hml, hown, hts⟩ (c_X10_addFractions l dC dI A ad cA g_151 (va_up x 0 (nI 0)) pf2_152 qf2_153 1015 1015 1012 hF5 (by decide) (by decide) (by decide) (by rw [f1.1, f1.2]; exact k_1012 hb15) (k_1012 hb12)) (cwV 3 hts (goodIn_app (goodIn_r [Cond.methodLink RX10 171 yX10_addFractions, Cond.instanceMethod yX10_addFractions, Cond.selects RX10 yX10_addFractions yX10_addFractions, Cond.initialized RX10] [18, 19, 20, 6] rfl rfl) (goodIn_sub (fun w9 h9 => bk6 w9 h9) gw_X10_addFractions)) rfl rfl rfl (by decide +kernel) ⟨Nat.le_of_ble_eq_true rfl, Nat.le_of_ble_eq_true rfl⟩) ⟨fun a U g mk q => ⟨q.1, q.2.1, q.2.2.1, LY.moved (u := U) (U := U.calling g mk a) (Vm.Alike.refl U.vm) q.2.2.2⟩, va_recv hK hP (ci := 13) (q0 := 0) rfl (wo_at (by decide) f_155), fun U hU hW => ⟨rfl, by rw [hU]; exact fun q h => hA q (Nat.le_trans hS.1 h), by rw [hU]; exact hP, LY.moved hW.alike hL⟩⟩ rfl rfl hl.1 rfl (lv_room (Nat.le_of_ble_eq_true rfl)) dX10_along_200 ⟨(Nat.le_of_ble_eq_true rfl), (Nat.le_of_ble_eq_true rfl)⟩) hS (fun q _ h => h) (fun q h => h) (fun u8 t8 H1 locs ht8 hvm8 hw_156 hB hz1 hk1 hS => ?_)
                            obtain ⟨g_157, pf2_158, qf2_159⟩ := u8
                            try dsimp only at hw_156 hB
                            rw [ht8] at hB
                            have hP := hB
                            generalize H1 = H at hP hS ⊢
                            obtain ⟨fr_160, hF6, hp6, hq6, ho6⟩ := hw_156
                            rw [f1.1, f1.2] at hp6 hq6
                            have hSn : ∃ S : Int, S.natAbs ≤ (vv + 1) * (999 * 2 ^ 723) ∧ Eqv (pf2_158 1015) (qf2_159 1015) S M9 := ⟨S9 + w1.toInt * D9 vv, al_b hSb (by omega) (hDb vv (by omega)), al_step hp5 hq5 hp6 hq6 hSe (a3 vv (by omega)).2 (hFL.red (by decide)).1 (hFa.red (by omega)).1 hM9.1⟩
                            have hOk : ∀ f, f ≠ 1012 → f ≠ 1015 → f ≠ 1016 → pf2_158 f = p1 f ∧ qf2_159 f = q1 f := fun f h2 h3 h4 => ⟨(ho6 f h3 h4).1.trans ((ho5 f h2 h4).1.trans (va_up_ne _ _ h2)), (ho6 f h3 h4).2.trans ((ho5 f h2 h4).2.trans (va_up_ne _ _ h2))⟩
                            have hOn : (∀ f, f ≠ 1004 → f ≠ 1012 → f ≠ 1015 → f ≠ 1016 → pf2_158 f = p3 f ∧ qf2_159 f = q3 f) ∧ pf2_158 1004 = p3 (200 + rt) ∧ qf2_159 1004 = q3 (200 + rt) := ⟨fun f h1 h2 h3 h4 => ⟨(hOk f h2 h3 h4).1.trans (hO.1 f h1 h2 h3 h4).1, (hOk f h2 h3 h4).2.trans (hO.1 f h1 h2 h3 h4).2⟩, (hOk 1004 (by decide) (by decide) (by decide)).1.trans hO.2.1, (hOk 1004 (by decide) (by decide) (by decide)).2.trans hO.2.2⟩
                            refine lv_iinc (v := nI (vv + 1)) (lv' := [(7, .int (nI (vv + 1))), (0, .ref (ad 0)), (1, .int (nI vn)), (2, .int w1), (3, .int w2), (4, .int w3), (6, .int (nI rt))]) hx hb dX10_along_203 hl (k := 6) rfl (nI_add vv 1) (by decide) rfl (fun ls hl => ?_)
                            refine lv_goto (tgt := 135) hx hb dX10_along_206 (by decide) ?_
                            exact ih_86 (vv + 1) pf2_158 qf2_159 g_157 (fun (k : Nat) (hk : k ≠ 1 ∧ k ≠ 2 ∧ k ≠ 3) => (fr_160 k (by omega)).trans ((fr_154 k (by omega)).trans ((fr_146 k (by omega)).trans ((fr_88 k (by omega)).trans (rfl))))) (by omega) (by omega) hOn hSn hF6 _ _ _ hP hS (lv_sub (l' := [(0, .ref (ad 0)), (1, .int (nI vn)), (2, .int w1), (3, .int w2), (4, .int w3), (6, .int (nI rt)), (7, .int (nI (vv + 1)))]) hl [1, 2, 3, 4, 5, 6, 0] rfl)
                    exact loop_85 _ 0 (va_up (va_up p3 1004 (p3 (200 + rt))) 1015 0) (va_up (va_up q3 1004 (q3 (200 + rt))) 1015 1) g_83 (fun (k : Nat) (hk : k ≠ 1 ∧ k ≠ 2 ∧ k ≠ 3) => rfl) (Nat.lt_succ_self _) (by omega) (⟨fun f h1 h2 h3 h4 => ⟨(va_up_ne _ _ h3).trans (va_up_ne _ _ h1), (va_up_ne _ _ h3).trans (va_up_ne _ _ h1)⟩, (va_up_ne _ _ (by decide)).trans (va_up_self _ _ _), (va_up_ne _ _ (by decide)).trans (va_up_self _ _ _)⟩) (⟨0, Nat.zero_le _, by rw [va_up_self, va_up_self]; exact Eqv.zero⟩) hFs _ _ _ hP hS (lv_sub (l' := [(0, .ref (ad 0)), (1, .int (nI vn)), (2, .int w1), (3, .int w2), (4, .int w3), (6, .int (nI rt)), (7, .int (nI 0))]) hl [3, 4, 5, 6, 7, 1, 0] rfl)
                  · have c_62 := mt (k_iLE (a := 0) (b := nm vn) (show nI 0 = iI 0 from by decide) rfl (by omega) (by omega)).mpr c_62
                    refine lv_iconst (v := nI 2) hx hb dX10_along_80 (by decide +kernel) ?_
                    refine lv_goto (tgt := 85) hx hb dX10_along_81 (by decide) ?_
                    refine m_put (D := (dC, dI)) (v := .int (nI 2)) (tv := .int) (C := RX10) (T := TX10) (N := 29) hx hb hts bk0 tyX10 tyX10_ok nmX10 hown hK hP hD hS 0 (by decide) r_3 rfl 0 (by decide) (hts (.fieldLink RX10 78 "GradientDeskModel" "thrown" "I") (List.mem_of_getElem? (i := 1) rfl)) (fun _ h9 => h9) rfl (by decide +kernel) rfl rfl (Nat.le_of_ble_eq_true rfl) dX10_along_85 (fun H locs g_163 f_164 fr_165 hP hS => ?_)
                    have f_164 : g_163 0 = .inr (13, Rob ad (va_up x 0 (nI 2))) := f_164
                    refine lv_aload_n hx hb dX10_along_88 rfl (lv_at hl 1 rfl) ?_
                    refine m_get (D := (dC, dI)) (v := .int (nI 2)) (C := RX10) (T := TX10) (N := 29) hx hb hts bk0 hown hK hP 0 (by decide) f_164 rfl 0 (by decide) (hts (.fieldLink RX10 78 "GradientDeskModel" "thrown" "I") (List.mem_of_getElem? (i := 1) rfl)) (fun _ h9 => h9) (congrArg (fun z => some (Value.int z)) (show (va_up x 0 (nI 2)) 0 = (nI 2) from rfl)) dX10_along_89 ?_
                    refine lv_if_le (tgt := 96) hx hb dX10_along_92 (by decide) (fun c_166 => absurd c_166 (by decide)) (fun c_166 => ?_)
                    refine W.widen (k := 0) (n := 0) (by omega) (by omega) ?_
                    exact W.vret hx hb hr (fun t9 ht9 hW9 => ⟨⟨(g_163, va_up x 0 (nI 2)), rfl, ⟨RI.num hI0 (hF0.setx (fun (k : Nat) (hk : k = 1 ∨ k = 2 ∨ k = 3) => (fr_165 k (by omega)).trans (rfl)) f_164 rfl) (fun (k : Nat) (hk : (4 ≤ k ∧ k ≤ 11) ∨ k = 16) => (fr_165 k (by omega)).trans (rfl)) (hVO0.same (fun (k : Nat) (hk : 12 ≤ k ∧ k ≤ 19) => (fr_165 k (by omega)).trans (rfl))) (va_up_ne _ _ (by decide)) (va_up_ne _ _ (by decide)) (va_up_ne _ _ (by decide)) (fun _ _ => ⟨rfl, rfl⟩) hBd, (va_up_ne _ _ (by decide)), Or.inr ⟨hok, vn, hvn, by omega, Or.inl ⟨by omega, va_up_self _ _ _⟩⟩⟩, by show va_P (dC, dI) vwCl _ t9.heap; rw [ht9]; exact hP⟩, hS.F ht9⟩) hS.2.2 dX10_along_95
                · have c_59 := mt (k_le w3 (nI 999)).mpr c_59
                  rw [show (nI 999).toInt = 999 from by decide] at c_59
                  refine lv_iconst (v := nI 1) hx hb dX10_along_54 (by decide +kernel) ?_
                  refine lv_goto (tgt := 59) hx hb dX10_along_55 (by decide) ?_
                  refine lv_istore (lv' := [(5, .int (nI 1)), (0, .ref (ad 0)), (1, .int v), (2, .int w1), (3, .int w2), (4, .int w3)]) hx hb dX10_along_59 hl (by decide) rfl (fun ls hl => ?_)
                  refine lv_aload_n hx hb dX10_along_61 rfl (lv_at hl 1 rfl) ?_
                  refine lv_iload hx hb dX10_along_62 (lv_at hl 0 rfl) ?_
                  refine lv_if_eq (tgt := 71) hx hb dX10_along_64 (by decide) (fun c_167 => absurd c_167 (by decide)) (fun c_167 => ?_)
                  refine lv_iconst (v := nI 1) hx hb dX10_along_67 (by decide +kernel) ?_
                  refine lv_goto (tgt := 85) hx hb dX10_along_68 (by decide) ?_
                  refine m_put (D := (dC, dI)) (v := .int (nI 1)) (tv := .int) (C := RX10) (T := TX10) (N := 29) hx hb hts bk0 tyX10 tyX10_ok nmX10 hown hK hP hD hS 0 (by decide) r_3 rfl 0 (by decide) (hts (.fieldLink RX10 78 "GradientDeskModel" "thrown" "I") (List.mem_of_getElem? (i := 1) rfl)) (fun _ h9 => h9) rfl (by decide +kernel) rfl rfl (Nat.le_of_ble_eq_true rfl) dX10_along_85 (fun H locs g_168 f_169 fr_170 hP hS => ?_)
                  have f_169 : g_168 0 = .inr (13, Rob ad (va_up x 0 (nI 1))) := f_169
                  refine lv_aload_n hx hb dX10_along_88 rfl (lv_at hl 1 rfl) ?_
                  refine m_get (D := (dC, dI)) (v := .int (nI 1)) (C := RX10) (T := TX10) (N := 29) hx hb hts bk0 hown hK hP 0 (by decide) f_169 rfl 0 (by decide) (hts (.fieldLink RX10 78 "GradientDeskModel" "thrown" "I") (List.mem_of_getElem? (i := 1) rfl)) (fun _ h9 => h9) (congrArg (fun z => some (Value.int z)) (show (va_up x 0 (nI 1)) 0 = (nI 1) from rfl)) dX10_along_89 ?_
                  refine lv_if_le (tgt := 96) hx hb dX10_along_92 (by decide) (fun c_171 => absurd c_171 (by decide)) (fun c_171 => ?_)
                  refine W.widen (k := 0) (n := 0) (by omega) (by omega) ?_
                  exact W.vret hx hb hr (fun t9 ht9 hW9 => ⟨⟨(g_168, va_up x 0 (nI 1)), rfl, ⟨RI.num hI0 (hF0.setx (fun (k : Nat) (hk : k = 1 ∨ k = 2 ∨ k = 3) => (fr_170 k (by omega)).trans (rfl)) f_169 rfl) (fun (k : Nat) (hk : (4 ≤ k ∧ k ≤ 11) ∨ k = 16) => (fr_170 k (by omega)).trans (rfl)) (hVO0.same (fun (k : Nat) (hk : 12 ≤ k ∧ k ≤ 19) => (fr_170 k (by omega)).trans (rfl))) (va_up_ne _ _ (by decide)) (va_up_ne _ _ (by decide)) (va_up_ne _ _ (by decide)) (fun _ _ => ⟨rfl, rfl⟩) hBd, (va_up_ne _ _ (by decide)), Or.inl ⟨by omega, va_up_self _ _ _⟩⟩, by show va_P (dC, dI) vwCl _ t9.heap; rw [ht9]; exact hP⟩, hS.F ht9⟩) hS.2.2 dX10_along_95
def wd_X10_written : List Cond := .code yX10_written cX10_written 2 (some .int) :: (([.fieldLink RX10 78 "GradientDeskModel" "thrown" "I", .fieldLink RX10 293 "GradientDeskModel" "written" "I", .fieldLink RX10 62 "GradientDeskModel" "out" "[I"] : List Cond) ++ (u_ws RX10 TX10 29 ++ ([])))
theorem gw_X10_written : wd_X10_written.all goodWord = true := k_allc rfl (k_all (by decide +kernel) (k_all (gu_X10) (rfl)))
set_option maxHeartbeats 4000000 in
set_option maxRecDepth 100000 in
theorem c_X10_written (l : Launch) (dC : Nat → ClassId) (dI : Nat → Nat → Nat) (A : Nat → Prop) (ad : Nat → Nat) (cA : Nat → ClassId) (g : Nat → va_E) (x : Nat → Int32) (L : List PD) (nm : Nat → Int) (tx : Nat → Nat) (ty : Nat) (wr : List Int) (v : Int32) (hI : RIE ad cA g x L nm tx ty wr) : Met l yX10_written wd_X10_written ({ frames := 10, cells := 0, slots := 0, locals := 200 }) (va_Pc [.ref (ad 0), .int v] (PR NSr tyr dC dI A ad cA g)) (va_Qi (fun (r : Int32) => fun (u : (Nat → va_E) × (Nat → Int32)) => match u with | (g2, x2) => RIE ad cA g2 x2 L nm tx ty wr ∧ x2 2 = x 2 ∧ ((¬ (0 ≤ v.toInt ∧ v.toInt < wr.length) ∧ x2 0 = nI 1 ∧ r = nI 0) ∨ (x2 0 = nI 0 ∧ ∃ kn : Nat, v = nI kn ∧ kn < wr.length ∧ r = iI (wr.getD kn 0)))) (fun (u : (Nat → va_E) × (Nat → Int32)) (t : State) => va_P (dC, dI) vwCl (wo ad NSr u.1) t.heap) A) (0) (0) A := by
  refine Met.ofW (cc := cX10_written) (maxL := 2) (ret := (some .int)) (by decide) rfl ?_
  intro p e s m args below meth c s₁ B hml hv
  obtain ⟨rfl, hA, hP, hL⟩ := hv
  have hx := B.exec
  have hb := B.bytes
  have hr := B.returns
  have hts := atoms_spec (ws := wd_X10_written) B.pre
  have hown : s.vm.findClass RX10 = some m.cls := findClass_of_methodNamed B.named
  have hlocks := B.notSynchronized
  have hK := hL.1
  have hD : ∀ g, va_D A (wo ad NSr g) := fun g => wo_D hL.2.1 hL.2.2 g
  have hS : va_S A s.heap s.heap [] := va_S.rf
  have bk0 : ∀ w ∈ u_ws RX10 TX10 29, w ∈ wd_X10_written := fun _ h => List.mem_cons_of_mem _ (List.mem_append_right _ (List.mem_append_left _ h))
  have hl := lv_entry ([.ref (ad 0), .int v]) (n := 2) (Nat.le_of_ble_eq_true rfl)
  rw [lg_entry_eq]
  generalize (lg_sl ([.ref (ad 0), .int v]) ++ List.replicate (2 - (lg_sl ([.ref (ad 0), .int v])).length) Slot.unset).toArray = ls at hl ⊢
  have hl : lv_has ls 2 [(0, .ref (ad 0)), (1, .int v)] := hl
  obtain ⟨pf, qf, pt, hI0⟩ := hI
  have hI1 := hI0
  obtain ⟨hF, hPt, hM, hW, hL2, hmd, hTx, hty, hty2, hwr, hwr2, hVO, hBd⟩ := hI1
  have hVO0 := hVO
  have hPt0 := hPt
  have hTx0 := hTx
  have hF0 := hF
  obtain ⟨vf, hV, hq⟩ := hF
  have hc_1 := hV
  obtain ⟨pnz_2, lnz_2, bnz_2, hRz_2, hvz_2⟩ := hc_1
  obtain ⟨r_3, r_4, r_5, r_6, r_7, r_8, r_9⟩ := hRz_2
  obtain ⟨p_10, p_11, p_12, p_13, p_14, p_15, hpt_16⟩ := hPt
  obtain ⟨t4, t4b, t11, t11b, t11c⟩ := hTx
  obtain ⟨⟨rc, v12, v12b⟩, ⟨f13, v13⟩, ⟨f14, v14⟩, ⟨f15, v15⟩, ⟨f16, v16⟩, ⟨f17, v17⟩, ⟨f18, v18⟩, ⟨f19, v19⟩⟩ := hVO
  obtain ⟨fo, o16, o16b⟩ := hwr2.2
  refine lv_aload_n hx hb dX10_written_0 rfl (lv_at hl 0 rfl) ?_
  refine lv_iload_n hx hb dX10_written_1 rfl (lv_at hl 1 rfl) ?_
  refine lv_if_lt (tgt := 13) hx hb dX10_written_2 (by decide) (fun c_17 => ?_) (fun c_17 => ?_)
  · have c_17 := (k_lt v (nI 0)).mp c_17
    rw [show (nI 0).toInt = 0 from by decide] at c_17
    refine lv_iconst (v := nI 1) hx hb dX10_written_13 (by decide +kernel) ?_
    refine lv_goto (tgt := 18) hx hb dX10_written_14 (by decide) ?_
    refine m_put (D := (dC, dI)) (v := .int (nI 1)) (tv := .int) (C := RX10) (T := TX10) (N := 29) hx hb hts bk0 tyX10 tyX10_ok nmX10 hown hK hP hD hS 0 (by decide) r_3 rfl 0 (by decide) (hts (.fieldLink RX10 78 "GradientDeskModel" "thrown" "I") (List.mem_of_getElem? (i := 1) rfl)) (fun _ h9 => h9) rfl (by decide +kernel) rfl rfl (Nat.le_of_ble_eq_true rfl) dX10_written_18 (fun H locs g_18 f_19 fr_20 hP hS => ?_)
    have f_19 : g_18 0 = .inr (13, Rob ad (va_up x 0 (nI 1))) := f_19
    refine lv_aload_n hx hb dX10_written_21 rfl (lv_at hl 0 rfl) ?_
    refine m_get (D := (dC, dI)) (v := .int (nI 1)) (C := RX10) (T := TX10) (N := 29) hx hb hts bk0 hown hK hP 0 (by decide) f_19 rfl 0 (by decide) (hts (.fieldLink RX10 78 "GradientDeskModel" "thrown" "I") (List.mem_of_getElem? (i := 1) rfl)) (fun _ h9 => h9) (congrArg (fun z => some (Value.int z)) (show (va_up x 0 (nI 1)) 0 = (nI 1) from rfl)) dX10_written_22 ?_
    refine lv_if_le (tgt := 32) hx hb dX10_written_25 (by decide) (fun c_21 => absurd c_21 (by decide)) (fun c_21 => ?_)
    refine lv_iconst (v := nI 0) hx hb dX10_written_28 (by decide +kernel) ?_
    refine lv_goto (tgt := 38) hx hb dX10_written_29 (by decide) ?_
    refine W.widen (k := 0) (n := 0) (by omega) (by omega) ?_
    exact W.iret (v := nI 0) hx hb hr (fun t9 ht9 hW9 => ⟨⟨nI 0, (g_18, va_up x 0 (nI 1)), rfl, ⟨RI.num hI0 (hF0.setx (fun (k : Nat) (hk : k = 1 ∨ k = 2 ∨ k = 3) => (fr_20 k (by omega)).trans (rfl)) f_19 rfl) (fun (k : Nat) (hk : (4 ≤ k ∧ k ≤ 11) ∨ k = 16) => (fr_20 k (by omega)).trans (rfl)) (hVO0.same (fun (k : Nat) (hk : 12 ≤ k ∧ k ≤ 19) => (fr_20 k (by omega)).trans (rfl))) (va_up_ne _ _ (by decide)) (va_up_ne _ _ (by decide)) (va_up_ne _ _ (by decide)) (fun _ _ => ⟨rfl, rfl⟩) hBd, (va_up_ne _ _ (by decide)), Or.inl ⟨by omega, va_up_self _ _ _, rfl⟩⟩, by show va_P (dC, dI) vwCl _ t9.heap; rw [ht9]; exact hP⟩, hS.F ht9⟩) hS.2.2 dX10_written_38
  · have c_17 := mt (k_lt v (nI 0)).mpr c_17
    rw [show (nI 0).toInt = 0 from by decide] at c_17
    refine lv_iload_n hx hb dX10_written_5 rfl (lv_at hl 1 rfl) ?_
    refine lv_aload_n hx hb dX10_written_6 rfl (lv_at hl 0 rfl) ?_
    refine m_get (D := (dC, dI)) (v := .int (nI wr.length)) (C := RX10) (T := TX10) (N := 29) hx hb hts bk0 hown hK hP 0 (by decide) r_3 rfl 25 (by decide) (hts (.fieldLink RX10 293 "GradientDeskModel" "written" "I") (List.mem_of_getElem? (i := 2) rfl)) (fun _ h9 => h9) (congrArg (fun z => some (Value.int z)) hwr) dX10_written_7 ?_
    refine lv_icmp_lt (tgt := 17) hx hb dX10_written_10 (by decide) (fun c_22 => ?_) (fun c_22 => ?_)
    · have c_22 := (k_lt v (nI wr.length)).mp c_22
      rw [nI_toInt (show wr.length < 2 ^ 31 by omega)] at c_22
      refine lv_iconst (v := nI 0) hx hb dX10_written_17 (by decide +kernel) ?_
      refine m_put (D := (dC, dI)) (v := .int (nI 0)) (tv := .int) (C := RX10) (T := TX10) (N := 29) hx hb hts bk0 tyX10 tyX10_ok nmX10 hown hK hP hD hS 0 (by decide) r_3 rfl 0 (by decide) (hts (.fieldLink RX10 78 "GradientDeskModel" "thrown" "I") (List.mem_of_getElem? (i := 1) rfl)) (fun _ h9 => h9) rfl (by decide +kernel) rfl rfl (Nat.le_of_ble_eq_true rfl) dX10_written_18 (fun H locs g_23 f_24 fr_25 hP hS => ?_)
      have f_24 : g_23 0 = .inr (13, Rob ad (va_up x 0 (nI 0))) := f_24
      refine lv_aload_n hx hb dX10_written_21 rfl (lv_at hl 0 rfl) ?_
      refine m_get (D := (dC, dI)) (v := .int (nI 0)) (C := RX10) (T := TX10) (N := 29) hx hb hts bk0 hown hK hP 0 (by decide) f_24 rfl 0 (by decide) (hts (.fieldLink RX10 78 "GradientDeskModel" "thrown" "I") (List.mem_of_getElem? (i := 1) rfl)) (fun _ h9 => h9) (congrArg (fun z => some (Value.int z)) (show (va_up x 0 (nI 0)) 0 = (nI 0) from rfl)) dX10_written_22 ?_
      refine lv_if_le (tgt := 32) hx hb dX10_written_25 (by decide) (fun c_26 => ?_) (fun c_26 => absurd c_26 (by decide))
      obtain ⟨kn, hkn, ekn, -⟩ := k_nat (x := v) (by omega)
      subst hkn
      refine lv_aload_n hx hb dX10_written_32 rfl (lv_at hl 0 rfl) ?_
      refine m_get (D := (dC, dI)) (v := .ref (ad 16)) (C := RX10) (T := TX10) (N := 29) hx hb hts bk0 hown hK hP 0 (by decide) f_24 rfl 23 (by decide) (hts (.fieldLink RX10 62 "GradientDeskModel" "out" "[I") (List.mem_of_getElem? (i := 3) rfl)) (fun _ h9 => h9) rfl dX10_written_33 ?_
      refine lv_iload_n hx hb dX10_written_36 rfl (lv_at hl 1 rfl) ?_
      have f_27 : g_23 16 = .inl (cA 16, 256, .inl (fun j => iI (fo j))) := (fr_25 16 (by omega)).trans o16
      refine m_iald hx hb hK hP 16 (by decide) rfl f_27 (i := kn) (by omega) (by decide) dX10_written_37 ?_
      refine W.widen (k := 0) (n := 0) (by omega) (by omega) ?_
      exact W.iret (v := iI (fo kn)) hx hb hr (fun t9 ht9 hW9 => ⟨⟨iI (fo kn), (g_23, va_up x 0 (nI 0)), rfl, ⟨RI.num hI0 (hF0.setx (fun (k : Nat) (hk : k = 1 ∨ k = 2 ∨ k = 3) => (fr_25 k (by omega)).trans (rfl)) f_24 rfl) (fun (k : Nat) (hk : (4 ≤ k ∧ k ≤ 11) ∨ k = 16) => (fr_25 k (by omega)).trans (rfl)) (hVO0.same (fun (k : Nat) (hk : 12 ≤ k ∧ k ≤ 19) => (fr_25 k (by omega)).trans (rfl))) (va_up_ne _ _ (by decide)) (va_up_ne _ _ (by decide)) (va_up_ne _ _ (by decide)) (fun _ _ => ⟨rfl, rfl⟩) hBd, (va_up_ne _ _ (by decide)), Or.inr ⟨va_up_self _ _ _, kn, rfl, by omega, congrArg iI (o16b kn (by omega))⟩⟩, by show va_P (dC, dI) vwCl _ t9.heap; rw [ht9]; exact hP⟩, hS.F ht9⟩) hS.2.2 dX10_written_38
    · have c_22 := mt (k_lt v (nI wr.length)).mpr c_22
      rw [nI_toInt (show wr.length < 2 ^ 31 by omega)] at c_22
      refine lv_iconst (v := nI 1) hx hb dX10_written_13 (by decide +kernel) ?_
      refine lv_goto (tgt := 18) hx hb dX10_written_14 (by decide) ?_
      refine m_put (D := (dC, dI)) (v := .int (nI 1)) (tv := .int) (C := RX10) (T := TX10) (N := 29) hx hb hts bk0 tyX10 tyX10_ok nmX10 hown hK hP hD hS 0 (by decide) r_3 rfl 0 (by decide) (hts (.fieldLink RX10 78 "GradientDeskModel" "thrown" "I") (List.mem_of_getElem? (i := 1) rfl)) (fun _ h9 => h9) rfl (by decide +kernel) rfl rfl (Nat.le_of_ble_eq_true rfl) dX10_written_18 (fun H locs g_28 f_29 fr_30 hP hS => ?_)
      have f_29 : g_28 0 = .inr (13, Rob ad (va_up x 0 (nI 1))) := f_29
      refine lv_aload_n hx hb dX10_written_21 rfl (lv_at hl 0 rfl) ?_
      refine m_get (D := (dC, dI)) (v := .int (nI 1)) (C := RX10) (T := TX10) (N := 29) hx hb hts bk0 hown hK hP 0 (by decide) f_29 rfl 0 (by decide) (hts (.fieldLink RX10 78 "GradientDeskModel" "thrown" "I") (List.mem_of_getElem? (i := 1) rfl)) (fun _ h9 => h9) (congrArg (fun z => some (Value.int z)) (show (va_up x 0 (nI 1)) 0 = (nI 1) from rfl)) dX10_written_22 ?_
      refine lv_if_le (tgt := 32) hx hb dX10_written_25 (by decide) (fun c_31 => absurd c_31 (by decide)) (fun c_31 => ?_)
      refine lv_iconst (v := nI 0) hx hb dX10_written_28 (by decide +kernel) ?_
      refine lv_goto (tgt := 38) hx hb dX10_written_29 (by decide) ?_
      refine W.widen (k := 0) (n := 0) (by omega) (by omega) ?_
      exact W.iret (v := nI 0) hx hb hr (fun t9 ht9 hW9 => ⟨⟨nI 0, (g_28, va_up x 0 (nI 1)), rfl, ⟨RI.num hI0 (hF0.setx (fun (k : Nat) (hk : k = 1 ∨ k = 2 ∨ k = 3) => (fr_30 k (by omega)).trans (rfl)) f_29 rfl) (fun (k : Nat) (hk : (4 ≤ k ∧ k ≤ 11) ∨ k = 16) => (fr_30 k (by omega)).trans (rfl)) (hVO0.same (fun (k : Nat) (hk : 12 ≤ k ∧ k ≤ 19) => (fr_30 k (by omega)).trans (rfl))) (va_up_ne _ _ (by decide)) (va_up_ne _ _ (by decide)) (va_up_ne _ _ (by decide)) (fun _ _ => ⟨rfl, rfl⟩) hBd, (va_up_ne _ _ (by decide)), Or.inl ⟨by omega, va_up_self _ _ _, rfl⟩⟩, by show va_P (dC, dI) vwCl _ t9.heap; rw [ht9]; exact hP⟩, hS.F ht9⟩) hS.2.2 dX10_written_38
end
section
def wd_X10_derive : List Cond := .code yX10_derive cX10_derive 8 (some .int) :: (([.fieldLink RX10 78 "GradientDeskModel" "thrown" "I", .fieldLink RX10 47 "GradientDeskModel" "names" "[I", .methodLink RX10 257 yX10_reach, .instanceMethod yX10_reach, .selects RX10 yX10_reach yX10_reach, .initialized RX10, .fieldLink RX10 149 "GradientDeskModel" "made" "I", .fieldLink RX10 146 "GradientDeskModel" "fault" "I", .fieldLink RX10 53 "GradientDeskModel" "derived" "[I", .fieldLink RX10 50 "GradientDeskModel" "reached" "[Z", .methodLink RX10 260 yX10_derivativeOf, .instanceMethod yX10_derivativeOf, .selects RX10 yX10_derivativeOf yX10_derivativeOf] : List Cond) ++ (u_ws RX10 TX10 29 ++ (wd_X10_reach ++ (wd_X10_derivativeOf ++ ([])))))
theorem gw_X10_derive : wd_X10_derive.all goodWord = true := k_allc rfl (k_all (by decide +kernel) (k_all (gu_X10) (k_all (gw_X10_reach) (k_all (gw_X10_derivativeOf) (rfl)))))
set_option maxHeartbeats 4000000 in
set_option maxRecDepth 100000 in
theorem c_X10_derive (l : Launch) (dC : Nat → ClassId) (dI : Nat → Nat → Nat) (A : Nat → Prop) (ad : Nat → Nat) (cA : Nat → ClassId) (g : Nat → va_E) (x : Nat → Int32) (L : List PD) (nm : Nat → Int) (tx : Nat → Nat) (ty : Nat) (wr : List Int) (v : Int32) (w1 : Int32) (w2 : Int32) (hI : RIE ad cA g x L nm tx ty wr) : Met l yX10_derive wd_X10_derive ({ frames := 110, cells := 0, slots := 0, locals := 2200 }) (va_Pc [.ref (ad 0), .int v, .int w1, .int w2] (PR NSr tyr dC dI A ad cA g)) (va_Qi (fun (r : Int32) => fun (u : (Nat → va_E) × (Nat → Int32) × (List PD) × (Nat → Int)) => match u with | (g2, x2, L2, nm2) => RIE ad cA g2 x2 L2 nm2 tx ty wr ∧ x2 2 = x 2 ∧ DVR nm L v w1 w2 (x2 0) r L2 nm2) (fun (u : (Nat → va_E) × (Nat → Int32) × (List PD) × (Nat → Int)) (t : State) => va_P (dC, dI) vwCl (wo ad NSr u.1) t.heap) A) (0) (0) A := by
  refine Met.ofW (cc := cX10_derive) (maxL := 8) (ret := (some .int)) (by decide) rfl ?_
  intro p e s m args below meth c s₁ B hml hv
  obtain ⟨rfl, hA, hP, hL⟩ := hv
  have hx := B.exec
  have hb := B.bytes
  have hr := B.returns
  have hts := atoms_spec (ws := wd_X10_derive) B.pre
  have hown : s.vm.findClass RX10 = some m.cls := findClass_of_methodNamed B.named
  have hlocks := B.notSynchronized
  have hK := hL.1
  have hD : ∀ g, va_D A (wo ad NSr g) := fun g => wo_D hL.2.1 hL.2.2 g
  have hS : va_S A s.heap s.heap [] := va_S.rf
  have bk0 : ∀ w ∈ u_ws RX10 TX10 29, w ∈ wd_X10_derive := fun _ h => List.mem_cons_of_mem _ (List.mem_append_right _ (List.mem_append_left _ h))
  have bk1 : ∀ w ∈ wd_X10_reach, w ∈ wd_X10_derive := fun _ h => List.mem_cons_of_mem _ (List.mem_append_right _ (List.mem_append_right _ (List.mem_append_left _ h)))
  have bk2 : ∀ w ∈ wd_X10_derivativeOf, w ∈ wd_X10_derive := fun _ h => List.mem_cons_of_mem _ (List.mem_append_right _ (List.mem_append_right _ (List.mem_append_right _ (List.mem_append_left _ h))))
  have hl := lv_entry ([.ref (ad 0), .int v, .int w1, .int w2]) (n := 8) (Nat.le_of_ble_eq_true rfl)
  rw [lg_entry_eq]
  generalize (lg_sl ([.ref (ad 0), .int v, .int w1, .int w2]) ++ List.replicate (8 - (lg_sl ([.ref (ad 0), .int v, .int w1, .int w2])).length) Slot.unset).toArray = ls at hl ⊢
  have hl : lv_has ls 8 [(0, .ref (ad 0)), (1, .int v), (2, .int w1), (3, .int w2)] := hl
  obtain ⟨pf, qf, pt, hI0⟩ := hI
  have hI1 := hI0
  obtain ⟨hF, hPt, hM, hW, hL2, hmd, hTx, hty, hty2, hwr, hwr2, hVO, hBd⟩ := hI1
  have hVO0 := hVO
  have hPt0 := hPt
  have hTx0 := hTx
  have hF0 := hF
  obtain ⟨vf, hV, hq⟩ := hF
  have hc_1 := hV
  obtain ⟨pnz_2, lnz_2, bnz_2, hRz_2, hvz_2⟩ := hc_1
  obtain ⟨r_3, r_4, r_5, r_6, r_7, r_8, r_9⟩ := hRz_2
  obtain ⟨p_10, p_11, p_12, p_13, p_14, p_15, hpt_16⟩ := hPt
  obtain ⟨t4, t4b, t11, t11b, t11c⟩ := hTx
  obtain ⟨⟨rc, v12, v12b⟩, ⟨f13, v13⟩, ⟨f14, v14⟩, ⟨f15, v15⟩, ⟨f16, v16⟩, ⟨f17, v17⟩, ⟨f18, v18⟩, ⟨f19, v19⟩⟩ := hVO
  refine lv_iload_n hx hb dX10_derive_0 rfl (lv_at hl 1 rfl) ?_
  refine lv_if_lt (tgt := 29) hx hb dX10_derive_1 (by decide) (fun c_17 => ?_) (fun c_17 => ?_)
  · have c_17 := (k_lt v (nI 0)).mp c_17
    rw [show (nI 0).toInt = 0 from by decide] at c_17
    refine lv_iconst (v := nI 1) hx hb dX10_derive_29 (by decide +kernel) ?_
    refine lv_goto (tgt := 34) hx hb dX10_derive_30 (by decide) ?_
    refine lv_istore (lv' := [(4, .int (nI 1)), (0, .ref (ad 0)), (1, .int v), (2, .int w1), (3, .int w2)]) hx hb dX10_derive_34 hl (by decide) rfl (fun ls hl => ?_)
    refine lv_aload_n hx hb dX10_derive_36 rfl (lv_at hl 1 rfl) ?_
    refine lv_iload hx hb dX10_derive_37 (lv_at hl 0 rfl) ?_
    refine lv_if_eq (tgt := 46) hx hb dX10_derive_39 (by decide) (fun c_18 => absurd c_18 (by decide)) (fun c_18 => ?_)
    refine lv_iconst (v := nI 1) hx hb dX10_derive_42 (by decide +kernel) ?_
    refine lv_goto (tgt := 60) hx hb dX10_derive_43 (by decide) ?_
    refine m_put (D := (dC, dI)) (v := .int (nI 1)) (tv := .int) (C := RX10) (T := TX10) (N := 29) hx hb hts bk0 tyX10 tyX10_ok nmX10 hown hK hP hD hS 0 (by decide) r_3 rfl 0 (by decide) (hts (.fieldLink RX10 78 "GradientDeskModel" "thrown" "I") (List.mem_of_getElem? (i := 1) rfl)) (fun _ h9 => h9) rfl (by decide +kernel) rfl rfl (Nat.le_of_ble_eq_true rfl) dX10_derive_60 (fun H locs g_19 f_20 fr_21 hP hS => ?_)
    have f_20 : g_19 0 = .inr (13, Rob ad (va_up x 0 (nI 1))) := f_20
    refine lv_aload_n hx hb dX10_derive_63 rfl (lv_at hl 1 rfl) ?_
    refine m_get (D := (dC, dI)) (v := .int (nI 1)) (C := RX10) (T := TX10) (N := 29) hx hb hts bk0 hown hK hP 0 (by decide) f_20 rfl 0 (by decide) (hts (.fieldLink RX10 78 "GradientDeskModel" "thrown" "I") (List.mem_of_getElem? (i := 1) rfl)) (fun _ h9 => h9) (congrArg (fun z => some (Value.int z)) (show (va_up x 0 (nI 1)) 0 = (nI 1) from rfl)) dX10_derive_64 ?_
    refine lv_if_le (tgt := 72) hx hb dX10_derive_67 (by decide) (fun c_22 => absurd c_22 (by decide)) (fun c_22 => ?_)
    refine lv_iconst (v := nI 0) hx hb dX10_derive_70 (by decide +kernel) ?_
    refine W.widen (k := 0) (n := 0) (by omega) (by omega) ?_
    exact W.iret (v := nI 0) hx hb hr (fun t9 ht9 hW9 => ⟨⟨nI 0, (g_19, va_up x 0 (nI 1), L, nm), rfl, ⟨RI.num hI0 (hF0.setx (fun (k : Nat) (hk : k = 1 ∨ k = 2 ∨ k = 3) => (fr_21 k (by omega)).trans (rfl)) f_20 rfl) (fun (k : Nat) (hk : (4 ≤ k ∧ k ≤ 11) ∨ k = 16) => (fr_21 k (by omega)).trans (rfl)) (hVO0.same (fun (k : Nat) (hk : 12 ≤ k ∧ k ≤ 19) => (fr_21 k (by omega)).trans (rfl))) (va_up_ne _ _ (by decide)) (va_up_ne _ _ (by decide)) (va_up_ne _ _ (by decide)) (fun _ _ => ⟨rfl, rfl⟩) hBd, (va_up_ne _ _ (by decide)), Or.inl ⟨by omega, va_up_self _ _ _, rfl, rfl, rfl⟩⟩, by show va_P (dC, dI) vwCl _ t9.heap; rw [ht9]; exact hP⟩, hS.F ht9⟩) hS.2.2 dX10_derive_71
  · have c_17 := mt (k_lt v (nI 0)).mpr c_17
    rw [show (nI 0).toInt = 0 from by decide] at c_17
    refine lv_iload_n hx hb dX10_derive_4 rfl (lv_at hl 1 rfl) ?_
    refine lv_bipush (v := nI 7) hx hb dX10_derive_5 (by decide +kernel) ?_
    refine lv_icmp_gt (tgt := 29) hx hb dX10_derive_7 (by decide) (fun c_23 => ?_) (fun c_23 => ?_)
    · have c_23 := (k_lt (nI 7) v).mp c_23
      rw [show (nI 7).toInt = 7 from by decide] at c_23
      refine lv_iconst (v := nI 1) hx hb dX10_derive_29 (by decide +kernel) ?_
      refine lv_goto (tgt := 34) hx hb dX10_derive_30 (by decide) ?_
      refine lv_istore (lv' := [(4, .int (nI 1)), (0, .ref (ad 0)), (1, .int v), (2, .int w1), (3, .int w2)]) hx hb dX10_derive_34 hl (by decide) rfl (fun ls hl => ?_)
      refine lv_aload_n hx hb dX10_derive_36 rfl (lv_at hl 1 rfl) ?_
      refine lv_iload hx hb dX10_derive_37 (lv_at hl 0 rfl) ?_
      refine lv_if_eq (tgt := 46) hx hb dX10_derive_39 (by decide) (fun c_24 => absurd c_24 (by decide)) (fun c_24 => ?_)
      refine lv_iconst (v := nI 1) hx hb dX10_derive_42 (by decide +kernel) ?_
      refine lv_goto (tgt := 60) hx hb dX10_derive_43 (by decide) ?_
      refine m_put (D := (dC, dI)) (v := .int (nI 1)) (tv := .int) (C := RX10) (T := TX10) (N := 29) hx hb hts bk0 tyX10 tyX10_ok nmX10 hown hK hP hD hS 0 (by decide) r_3 rfl 0 (by decide) (hts (.fieldLink RX10 78 "GradientDeskModel" "thrown" "I") (List.mem_of_getElem? (i := 1) rfl)) (fun _ h9 => h9) rfl (by decide +kernel) rfl rfl (Nat.le_of_ble_eq_true rfl) dX10_derive_60 (fun H locs g_25 f_26 fr_27 hP hS => ?_)
      have f_26 : g_25 0 = .inr (13, Rob ad (va_up x 0 (nI 1))) := f_26
      refine lv_aload_n hx hb dX10_derive_63 rfl (lv_at hl 1 rfl) ?_
      refine m_get (D := (dC, dI)) (v := .int (nI 1)) (C := RX10) (T := TX10) (N := 29) hx hb hts bk0 hown hK hP 0 (by decide) f_26 rfl 0 (by decide) (hts (.fieldLink RX10 78 "GradientDeskModel" "thrown" "I") (List.mem_of_getElem? (i := 1) rfl)) (fun _ h9 => h9) (congrArg (fun z => some (Value.int z)) (show (va_up x 0 (nI 1)) 0 = (nI 1) from rfl)) dX10_derive_64 ?_
      refine lv_if_le (tgt := 72) hx hb dX10_derive_67 (by decide) (fun c_28 => absurd c_28 (by decide)) (fun c_28 => ?_)
      refine lv_iconst (v := nI 0) hx hb dX10_derive_70 (by decide +kernel) ?_
      refine W.widen (k := 0) (n := 0) (by omega) (by omega) ?_
      exact W.iret (v := nI 0) hx hb hr (fun t9 ht9 hW9 => ⟨⟨nI 0, (g_25, va_up x 0 (nI 1), L, nm), rfl, ⟨RI.num hI0 (hF0.setx (fun (k : Nat) (hk : k = 1 ∨ k = 2 ∨ k = 3) => (fr_27 k (by omega)).trans (rfl)) f_26 rfl) (fun (k : Nat) (hk : (4 ≤ k ∧ k ≤ 11) ∨ k = 16) => (fr_27 k (by omega)).trans (rfl)) (hVO0.same (fun (k : Nat) (hk : 12 ≤ k ∧ k ≤ 19) => (fr_27 k (by omega)).trans (rfl))) (va_up_ne _ _ (by decide)) (va_up_ne _ _ (by decide)) (va_up_ne _ _ (by decide)) (fun _ _ => ⟨rfl, rfl⟩) hBd, (va_up_ne _ _ (by decide)), Or.inl ⟨by omega, va_up_self _ _ _, rfl, rfl, rfl⟩⟩, by show va_P (dC, dI) vwCl _ t9.heap; rw [ht9]; exact hP⟩, hS.F ht9⟩) hS.2.2 dX10_derive_71
    · have c_23 := mt (k_lt (nI 7) v).mpr c_23
      rw [show (nI 7).toInt = 7 from by decide] at c_23
      refine lv_iload_n hx hb dX10_derive_10 rfl (lv_at hl 3 rfl) ?_
      refine lv_if_lt (tgt := 29) hx hb dX10_derive_11 (by decide) (fun c_29 => ?_) (fun c_29 => ?_)
      · have c_29 := (k_lt w2 (nI 0)).mp c_29
        rw [show (nI 0).toInt = 0 from by decide] at c_29
        refine lv_iconst (v := nI 1) hx hb dX10_derive_29 (by decide +kernel) ?_
        refine lv_goto (tgt := 34) hx hb dX10_derive_30 (by decide) ?_
        refine lv_istore (lv' := [(4, .int (nI 1)), (0, .ref (ad 0)), (1, .int v), (2, .int w1), (3, .int w2)]) hx hb dX10_derive_34 hl (by decide) rfl (fun ls hl => ?_)
        refine lv_aload_n hx hb dX10_derive_36 rfl (lv_at hl 1 rfl) ?_
        refine lv_iload hx hb dX10_derive_37 (lv_at hl 0 rfl) ?_
        refine lv_if_eq (tgt := 46) hx hb dX10_derive_39 (by decide) (fun c_30 => absurd c_30 (by decide)) (fun c_30 => ?_)
        refine lv_iconst (v := nI 1) hx hb dX10_derive_42 (by decide +kernel) ?_
        refine lv_goto (tgt := 60) hx hb dX10_derive_43 (by decide) ?_
        refine m_put (D := (dC, dI)) (v := .int (nI 1)) (tv := .int) (C := RX10) (T := TX10) (N := 29) hx hb hts bk0 tyX10 tyX10_ok nmX10 hown hK hP hD hS 0 (by decide) r_3 rfl 0 (by decide) (hts (.fieldLink RX10 78 "GradientDeskModel" "thrown" "I") (List.mem_of_getElem? (i := 1) rfl)) (fun _ h9 => h9) rfl (by decide +kernel) rfl rfl (Nat.le_of_ble_eq_true rfl) dX10_derive_60 (fun H locs g_31 f_32 fr_33 hP hS => ?_)
        have f_32 : g_31 0 = .inr (13, Rob ad (va_up x 0 (nI 1))) := f_32
        refine lv_aload_n hx hb dX10_derive_63 rfl (lv_at hl 1 rfl) ?_
        refine m_get (D := (dC, dI)) (v := .int (nI 1)) (C := RX10) (T := TX10) (N := 29) hx hb hts bk0 hown hK hP 0 (by decide) f_32 rfl 0 (by decide) (hts (.fieldLink RX10 78 "GradientDeskModel" "thrown" "I") (List.mem_of_getElem? (i := 1) rfl)) (fun _ h9 => h9) (congrArg (fun z => some (Value.int z)) (show (va_up x 0 (nI 1)) 0 = (nI 1) from rfl)) dX10_derive_64 ?_
        refine lv_if_le (tgt := 72) hx hb dX10_derive_67 (by decide) (fun c_34 => absurd c_34 (by decide)) (fun c_34 => ?_)
        refine lv_iconst (v := nI 0) hx hb dX10_derive_70 (by decide +kernel) ?_
        refine W.widen (k := 0) (n := 0) (by omega) (by omega) ?_
        exact W.iret (v := nI 0) hx hb hr (fun t9 ht9 hW9 => ⟨⟨nI 0, (g_31, va_up x 0 (nI 1), L, nm), rfl, ⟨RI.num hI0 (hF0.setx (fun (k : Nat) (hk : k = 1 ∨ k = 2 ∨ k = 3) => (fr_33 k (by omega)).trans (rfl)) f_32 rfl) (fun (k : Nat) (hk : (4 ≤ k ∧ k ≤ 11) ∨ k = 16) => (fr_33 k (by omega)).trans (rfl)) (hVO0.same (fun (k : Nat) (hk : 12 ≤ k ∧ k ≤ 19) => (fr_33 k (by omega)).trans (rfl))) (va_up_ne _ _ (by decide)) (va_up_ne _ _ (by decide)) (va_up_ne _ _ (by decide)) (fun _ _ => ⟨rfl, rfl⟩) hBd, (va_up_ne _ _ (by decide)), Or.inl ⟨by omega, va_up_self _ _ _, rfl, rfl, rfl⟩⟩, by show va_P (dC, dI) vwCl _ t9.heap; rw [ht9]; exact hP⟩, hS.F ht9⟩) hS.2.2 dX10_derive_71
      · have c_29 := mt (k_lt w2 (nI 0)).mpr c_29
        rw [show (nI 0).toInt = 0 from by decide] at c_29
        refine lv_iload_n hx hb dX10_derive_14 rfl (lv_at hl 3 rfl) ?_
        refine lv_bipush (v := nI 7) hx hb dX10_derive_15 (by decide +kernel) ?_
        refine lv_icmp_gt (tgt := 29) hx hb dX10_derive_17 (by decide) (fun c_35 => ?_) (fun c_35 => ?_)
        · have c_35 := (k_lt (nI 7) w2).mp c_35
          rw [show (nI 7).toInt = 7 from by decide] at c_35
          refine lv_iconst (v := nI 1) hx hb dX10_derive_29 (by decide +kernel) ?_
          refine lv_goto (tgt := 34) hx hb dX10_derive_30 (by decide) ?_
          refine lv_istore (lv' := [(4, .int (nI 1)), (0, .ref (ad 0)), (1, .int v), (2, .int w1), (3, .int w2)]) hx hb dX10_derive_34 hl (by decide) rfl (fun ls hl => ?_)
          refine lv_aload_n hx hb dX10_derive_36 rfl (lv_at hl 1 rfl) ?_
          refine lv_iload hx hb dX10_derive_37 (lv_at hl 0 rfl) ?_
          refine lv_if_eq (tgt := 46) hx hb dX10_derive_39 (by decide) (fun c_36 => absurd c_36 (by decide)) (fun c_36 => ?_)
          refine lv_iconst (v := nI 1) hx hb dX10_derive_42 (by decide +kernel) ?_
          refine lv_goto (tgt := 60) hx hb dX10_derive_43 (by decide) ?_
          refine m_put (D := (dC, dI)) (v := .int (nI 1)) (tv := .int) (C := RX10) (T := TX10) (N := 29) hx hb hts bk0 tyX10 tyX10_ok nmX10 hown hK hP hD hS 0 (by decide) r_3 rfl 0 (by decide) (hts (.fieldLink RX10 78 "GradientDeskModel" "thrown" "I") (List.mem_of_getElem? (i := 1) rfl)) (fun _ h9 => h9) rfl (by decide +kernel) rfl rfl (Nat.le_of_ble_eq_true rfl) dX10_derive_60 (fun H locs g_37 f_38 fr_39 hP hS => ?_)
          have f_38 : g_37 0 = .inr (13, Rob ad (va_up x 0 (nI 1))) := f_38
          refine lv_aload_n hx hb dX10_derive_63 rfl (lv_at hl 1 rfl) ?_
          refine m_get (D := (dC, dI)) (v := .int (nI 1)) (C := RX10) (T := TX10) (N := 29) hx hb hts bk0 hown hK hP 0 (by decide) f_38 rfl 0 (by decide) (hts (.fieldLink RX10 78 "GradientDeskModel" "thrown" "I") (List.mem_of_getElem? (i := 1) rfl)) (fun _ h9 => h9) (congrArg (fun z => some (Value.int z)) (show (va_up x 0 (nI 1)) 0 = (nI 1) from rfl)) dX10_derive_64 ?_
          refine lv_if_le (tgt := 72) hx hb dX10_derive_67 (by decide) (fun c_40 => absurd c_40 (by decide)) (fun c_40 => ?_)
          refine lv_iconst (v := nI 0) hx hb dX10_derive_70 (by decide +kernel) ?_
          refine W.widen (k := 0) (n := 0) (by omega) (by omega) ?_
          exact W.iret (v := nI 0) hx hb hr (fun t9 ht9 hW9 => ⟨⟨nI 0, (g_37, va_up x 0 (nI 1), L, nm), rfl, ⟨RI.num hI0 (hF0.setx (fun (k : Nat) (hk : k = 1 ∨ k = 2 ∨ k = 3) => (fr_39 k (by omega)).trans (rfl)) f_38 rfl) (fun (k : Nat) (hk : (4 ≤ k ∧ k ≤ 11) ∨ k = 16) => (fr_39 k (by omega)).trans (rfl)) (hVO0.same (fun (k : Nat) (hk : 12 ≤ k ∧ k ≤ 19) => (fr_39 k (by omega)).trans (rfl))) (va_up_ne _ _ (by decide)) (va_up_ne _ _ (by decide)) (va_up_ne _ _ (by decide)) (fun _ _ => ⟨rfl, rfl⟩) hBd, (va_up_ne _ _ (by decide)), Or.inl ⟨by omega, va_up_self _ _ _, rfl, rfl, rfl⟩⟩, by show va_P (dC, dI) vwCl _ t9.heap; rw [ht9]; exact hP⟩, hS.F ht9⟩) hS.2.2 dX10_derive_71
        · have c_35 := mt (k_lt (nI 7) w2).mpr c_35
          rw [show (nI 7).toInt = 7 from by decide] at c_35
          refine lv_iload_n hx hb dX10_derive_20 rfl (lv_at hl 2 rfl) ?_
          refine lv_if_lt (tgt := 29) hx hb dX10_derive_21 (by decide) (fun c_41 => ?_) (fun c_41 => ?_)
          · have c_41 := (k_lt w1 (nI 0)).mp c_41
            rw [show (nI 0).toInt = 0 from by decide] at c_41
            refine lv_iconst (v := nI 1) hx hb dX10_derive_29 (by decide +kernel) ?_
            refine lv_goto (tgt := 34) hx hb dX10_derive_30 (by decide) ?_
            refine lv_istore (lv' := [(4, .int (nI 1)), (0, .ref (ad 0)), (1, .int v), (2, .int w1), (3, .int w2)]) hx hb dX10_derive_34 hl (by decide) rfl (fun ls hl => ?_)
            refine lv_aload_n hx hb dX10_derive_36 rfl (lv_at hl 1 rfl) ?_
            refine lv_iload hx hb dX10_derive_37 (lv_at hl 0 rfl) ?_
            refine lv_if_eq (tgt := 46) hx hb dX10_derive_39 (by decide) (fun c_42 => absurd c_42 (by decide)) (fun c_42 => ?_)
            refine lv_iconst (v := nI 1) hx hb dX10_derive_42 (by decide +kernel) ?_
            refine lv_goto (tgt := 60) hx hb dX10_derive_43 (by decide) ?_
            refine m_put (D := (dC, dI)) (v := .int (nI 1)) (tv := .int) (C := RX10) (T := TX10) (N := 29) hx hb hts bk0 tyX10 tyX10_ok nmX10 hown hK hP hD hS 0 (by decide) r_3 rfl 0 (by decide) (hts (.fieldLink RX10 78 "GradientDeskModel" "thrown" "I") (List.mem_of_getElem? (i := 1) rfl)) (fun _ h9 => h9) rfl (by decide +kernel) rfl rfl (Nat.le_of_ble_eq_true rfl) dX10_derive_60 (fun H locs g_43 f_44 fr_45 hP hS => ?_)
            have f_44 : g_43 0 = .inr (13, Rob ad (va_up x 0 (nI 1))) := f_44
            refine lv_aload_n hx hb dX10_derive_63 rfl (lv_at hl 1 rfl) ?_
            refine m_get (D := (dC, dI)) (v := .int (nI 1)) (C := RX10) (T := TX10) (N := 29) hx hb hts bk0 hown hK hP 0 (by decide) f_44 rfl 0 (by decide) (hts (.fieldLink RX10 78 "GradientDeskModel" "thrown" "I") (List.mem_of_getElem? (i := 1) rfl)) (fun _ h9 => h9) (congrArg (fun z => some (Value.int z)) (show (va_up x 0 (nI 1)) 0 = (nI 1) from rfl)) dX10_derive_64 ?_
            refine lv_if_le (tgt := 72) hx hb dX10_derive_67 (by decide) (fun c_46 => absurd c_46 (by decide)) (fun c_46 => ?_)
            refine lv_iconst (v := nI 0) hx hb dX10_derive_70 (by decide +kernel) ?_
            refine W.widen (k := 0) (n := 0) (by omega) (by omega) ?_
            exact W.iret (v := nI 0) hx hb hr (fun t9 ht9 hW9 => ⟨⟨nI 0, (g_43, va_up x 0 (nI 1), L, nm), rfl, ⟨RI.num hI0 (hF0.setx (fun (k : Nat) (hk : k = 1 ∨ k = 2 ∨ k = 3) => (fr_45 k (by omega)).trans (rfl)) f_44 rfl) (fun (k : Nat) (hk : (4 ≤ k ∧ k ≤ 11) ∨ k = 16) => (fr_45 k (by omega)).trans (rfl)) (hVO0.same (fun (k : Nat) (hk : 12 ≤ k ∧ k ≤ 19) => (fr_45 k (by omega)).trans (rfl))) (va_up_ne _ _ (by decide)) (va_up_ne _ _ (by decide)) (va_up_ne _ _ (by decide)) (fun _ _ => ⟨rfl, rfl⟩) hBd, (va_up_ne _ _ (by decide)), Or.inl ⟨by omega, va_up_self _ _ _, rfl, rfl, rfl⟩⟩, by show va_P (dC, dI) vwCl _ t9.heap; rw [ht9]; exact hP⟩, hS.F ht9⟩) hS.2.2 dX10_derive_71
          · have c_41 := mt (k_lt w1 (nI 0)).mpr c_41
            rw [show (nI 0).toInt = 0 from by decide] at c_41
            refine lv_iload_n hx hb dX10_derive_24 rfl (lv_at hl 2 rfl) ?_
            refine lv_iconst (v := nI 2) hx hb dX10_derive_25 (by decide +kernel) ?_
            refine lv_icmp_le (tgt := 33) hx hb dX10_derive_26 (by decide) (fun c_47 => ?_) (fun c_47 => ?_)
            · have c_47 := (k_le w1 (nI 2)).mp c_47
              rw [show (nI 2).toInt = 2 from by decide] at c_47
              refine lv_iconst (v := nI 0) hx hb dX10_derive_33 (by decide +kernel) ?_
              refine lv_istore (lv' := [(4, .int (nI 0)), (0, .ref (ad 0)), (1, .int v), (2, .int w1), (3, .int w2)]) hx hb dX10_derive_34 hl (by decide) rfl (fun ls hl => ?_)
              refine lv_aload_n hx hb dX10_derive_36 rfl (lv_at hl 1 rfl) ?_
              refine lv_iload hx hb dX10_derive_37 (lv_at hl 0 rfl) ?_
              refine lv_if_eq (tgt := 46) hx hb dX10_derive_39 (by decide) (fun c_48 => ?_) (fun c_48 => absurd c_48 (by decide))
              obtain ⟨vn, hvn, evn, -⟩ := k_nat (x := v) (by omega)
              rw [hvn] at hl
              obtain ⟨bn9, hbn9, ebn9, -⟩ := k_nat (x := w1) (by omega)
              rw [hbn9] at hl
              obtain ⟨dn9, hdn9, edn9, -⟩ := k_nat (x := w2) (by omega)
              rw [hdn9] at hl
              refine lv_aload_n hx hb dX10_derive_46 rfl (lv_at hl 1 rfl) ?_
              refine m_get (D := (dC, dI)) (v := .ref (ad 11)) (C := RX10) (T := TX10) (N := 29) hx hb hts bk0 hown hK hP 0 (by decide) r_3 rfl 15 (by decide) (hts (.fieldLink RX10 47 "GradientDeskModel" "names" "[I") (List.mem_of_getElem? (i := 2) rfl)) (fun _ h9 => h9) rfl dX10_derive_47 ?_
              refine lv_iload_n hx hb dX10_derive_50 rfl (lv_at hl 2 rfl) ?_
              refine m_iald hx hb hK hP 11 (by decide) rfl t11 (i := vn) (by omega) (by decide) dX10_derive_51 ?_
              have b_49 := t11b vn
              refine lv_if_ge (tgt := 59) hx hb dX10_derive_52 (by decide) (fun c_50 => ?_) (fun c_50 => ?_)
              · have c_50 := (k_iLE (a := 0) (b := nm vn) (show nI 0 = iI 0 from by decide) rfl (by omega) (by omega)).mp c_50
                refine lv_iconst (v := nI 0) hx hb dX10_derive_59 (by decide +kernel) ?_
                refine m_put (D := (dC, dI)) (v := .int (nI 0)) (tv := .int) (C := RX10) (T := TX10) (N := 29) hx hb hts bk0 tyX10 tyX10_ok nmX10 hown hK hP hD hS 0 (by decide) r_3 rfl 0 (by decide) (hts (.fieldLink RX10 78 "GradientDeskModel" "thrown" "I") (List.mem_of_getElem? (i := 1) rfl)) (fun _ h9 => h9) rfl (by decide +kernel) rfl rfl (Nat.le_of_ble_eq_true rfl) dX10_derive_60 (fun H locs g_51 f_52 fr_53 hP hS => ?_)
                have f_52 : g_51 0 = .inr (13, Rob ad (va_up x 0 (nI 0))) := f_52
                refine lv_aload_n hx hb dX10_derive_63 rfl (lv_at hl 1 rfl) ?_
                refine m_get (D := (dC, dI)) (v := .int (nI 0)) (C := RX10) (T := TX10) (N := 29) hx hb hts bk0 hown hK hP 0 (by decide) f_52 rfl 0 (by decide) (hts (.fieldLink RX10 78 "GradientDeskModel" "thrown" "I") (List.mem_of_getElem? (i := 1) rfl)) (fun _ h9 => h9) (congrArg (fun z => some (Value.int z)) (show (va_up x 0 (nI 0)) 0 = (nI 0) from rfl)) dX10_derive_64 ?_
                refine lv_if_le (tgt := 72) hx hb dX10_derive_67 (by decide) (fun c_54 => ?_) (fun c_54 => absurd c_54 (by decide))
                refine lv_aload_n hx hb dX10_derive_72 rfl (lv_at hl 1 rfl) ?_
                refine m_get (D := (dC, dI)) (v := .ref (ad 11)) (C := RX10) (T := TX10) (N := 29) hx hb hts bk0 hown hK hP 0 (by decide) f_52 rfl 15 (by decide) (hts (.fieldLink RX10 47 "GradientDeskModel" "names" "[I") (List.mem_of_getElem? (i := 2) rfl)) (fun _ h9 => h9) rfl dX10_derive_73 ?_
                refine lv_iload_n hx hb dX10_derive_76 rfl (lv_at hl 2 rfl) ?_
                have f_55 : g_51 11 = .inl (cA 11, 8, .inl (fun j => iI (nm j))) := (fr_53 11 (by omega)).trans t11
                refine m_iald hx hb hK hP 11 (by decide) rfl f_55 (i := vn) (by omega) (by decide) dX10_derive_77 ?_
                have b_56 := t11b vn
                obtain ⟨rt, hrt⟩ : ∃ z9 : Nat, nm vn = (z9 : Int) := ⟨(nm vn).toNat, by omega⟩
                have hr9 := t11c vn (by omega)
                have hrl : rt < L.length := by omega
                rw [hrt, ← nI_iI]
                refine lv_istore (lv' := [(5, .int (nI rt)), (4, .int (nI 0)), (0, .ref (ad 0)), (1, .int (nI vn)), (2, .int (nI bn9)), (3, .int (nI dn9))]) hx hb dX10_derive_78 hl (by decide) rfl (fun ls hl => ?_)
                refine lv_aload_n hx hb dX10_derive_80 rfl (lv_at hl 2 rfl) ?_
                refine lv_iload hx hb dX10_derive_81 (lv_at hl 0 rfl) ?_
                have f_57 : g_51 12 = .inl (cA 12, 200, .inl (fun j => nI (rc j))) := (fr_53 12 (by omega)).trans v12
                refine va_callv (va_runV (As := [.int (nI rt)]) (rest := []) ⟨hx, hb, hml, hown, hts⟩ (c_X10_reach l dC dI A ad cA g_51 (va_up x 0 (nI 0)) pt pf qf L rc rt f_52 (hPt0.same (fun (k : Nat) (hk : 5 ≤ k ∧ k ≤ 10) => (fr_53 k (by omega)).trans (rfl))) hM hW hL2 f_57 v12b hrl) (cwV 1 hts (goodIn_app (goodIn_r [Cond.methodLink RX10 257 yX10_reach, Cond.instanceMethod yX10_reach, Cond.selects RX10 yX10_reach yX10_reach, Cond.initialized RX10] [3, 4, 5, 6] rfl rfl) (goodIn_sub (fun w9 h9 => bk1 w9 h9) gw_X10_reach)) rfl rfl rfl (by decide +kernel) ⟨Nat.le_of_ble_eq_true rfl, Nat.le_of_ble_eq_true rfl⟩) ⟨fun a U g mk q => ⟨q.1, q.2.1, q.2.2.1, LY.moved (u := U) (U := U.calling g mk a) (Vm.Alike.refl U.vm) q.2.2.2⟩, va_recv hK hP (ci := 13) (q0 := 0) rfl (wo_at (by decide) f_52), fun U hU hW => ⟨rfl, by rw [hU]; exact fun q h => hA q (Nat.le_trans hS.1 h), by rw [hU]; exact hP, LY.moved hW.alike hL⟩⟩ rfl rfl hl.1 rfl (lv_room (Nat.le_of_ble_eq_true rfl)) dX10_derive_83 ⟨(Nat.le_of_ble_eq_true rfl), (Nat.le_of_ble_eq_true rfl)⟩) hS (fun q _ h => h) (fun q h => h) (fun u8 t8 H1 locs ht8 hvm8 hw_58 hB hz1 hk1 hS => ?_)
                obtain ⟨g_59, rc2_60⟩ := u8
                try dsimp only at hw_58 hB
                rw [ht8] at hB
                have hP := hB
                generalize H1 = H at hP hS ⊢
                obtain ⟨fr_61, q12, q12b, q12c⟩ := hw_58
                refine lv_aload_n hx hb dX10_derive_86 rfl (lv_at hl 2 rfl) ?_
                have f_62 : g_59 0 = .inr (13, Rob ad (va_up x 0 (nI 0))) := (fr_61 0 (by omega)).trans f_52
                refine m_get (D := (dC, dI)) (v := .int (nI L.length)) (C := RX10) (T := TX10) (N := 29) hx hb hts bk0 hown hK hP 0 (by decide) f_62 rfl 13 (by decide) (hts (.fieldLink RX10 149 "GradientDeskModel" "made" "I") (List.mem_of_getElem? (i := 7) rfl)) (fun _ h9 => h9) (congrArg (fun z => some (Value.int z)) (show (va_up x 0 (nI 0)) 3 = (nI L.length) from hmd)) dX10_derive_87 ?_
                refine lv_istore (lv' := [(6, .int (nI L.length)), (5, .int (nI rt)), (4, .int (nI 0)), (0, .ref (ad 0)), (1, .int (nI vn)), (2, .int (nI bn9)), (3, .int (nI dn9))]) hx hb dX10_derive_90 hl (by decide) rfl (fun ls hl => ?_)
                refine lv_aload_n hx hb dX10_derive_92 rfl (lv_at hl 3 rfl) ?_
                refine lv_iconst (v := nI 0) hx hb dX10_derive_93 (by decide +kernel) ?_
                refine m_put (D := (dC, dI)) (v := .int (nI 0)) (tv := .int) (C := RX10) (T := TX10) (N := 29) hx hb hts bk0 tyX10 tyX10_ok nmX10 hown hK hP hD hS 0 (by decide) f_62 rfl 14 (by decide) (hts (.fieldLink RX10 146 "GradientDeskModel" "fault" "I") (List.mem_of_getElem? (i := 8) rfl)) (fun _ h9 => h9) rfl (by decide +kernel) rfl rfl (Nat.le_of_ble_eq_true rfl) dX10_derive_94 (fun H locs g_63 f_64 fr_65 hP hS => ?_)
                have f_64 : g_63 0 = .inr (13, Rob ad (va_up (va_up x 0 (nI 0)) 4 (nI 0))) := f_64
                refine lv_iconst (v := nI 0) hx hb dX10_derive_97 (by decide +kernel) ?_
                refine lv_istore (lv' := [(7, .int (nI 0)), (6, .int (nI L.length)), (5, .int (nI rt)), (4, .int (nI 0)), (0, .ref (ad 0)), (1, .int (nI vn)), (2, .int (nI bn9)), (3, .int (nI dn9))]) hx hb dX10_derive_98 hl (by decide) rfl (fun ls hl => ?_)
                have loop_66 : ∀ (k9 : Nat) (kk : Nat) (DD : DX) (dz : Nat → Int) (xx : Nat → Int32) (pt1 : Nat → Nat → Int) (pf1 : Nat → Int) (qf1 : Nat → Nat) (g_68 : Nat → va_E) (fr_69 : ∀ k, (k ≠ 0 ∧ k ≠ 1 ∧ k ≠ 2 ∧ k ≠ 3 ∧ k ≠ 5 ∧ k ≠ 6 ∧ k ≠ 7 ∧ k ≠ 8 ∧ k ≠ 9 ∧ k ≠ 10 ∧ k ≠ 13) → g_68 k = g_63 k), rt + 1 - kk < k9 → (kk ≤ rt + 1) → (DD.1 = 0 → drS L (rchN L rt (rt + 1)) bn9 kk = DD ∧ ∀ j, j < kk → (rchN L rt (rt + 1)) j = 1 → dz j = ((DD.2.1 j : Nat) : Int) ∧ DD.2.1 j < DD.2.2.length) → (DD.1 < 0 → drS L (rchN L rt (rt + 1)) bn9 (rt + 1) = DD) → (g_68 0 = .inr (13, Rob ad xx)) → (g_68 13 = .inl (cA 13, 200, .inl (fun j => iI (dz j)))) → (MKD ad cA g_68 (va_up x 0 (nI 0)) xx pf qf L DD pt1 pf1 qf1) → ∀ (H : Heap) (locs : List Loc) (ls : Array Slot), va_P (dC, dI) vwCl (wo ad NSr g_68) H → va_S A s.heap H locs → lv_has ls 8 [(0, .ref (ad 0)), (1, .int (nI vn)), (2, .int (nI bn9)), (3, .int (nI dn9)), (5, .int (nI rt)), (6, .int (nI L.length)), (7, .int (nI kk))] → W p l e (headSpec wd_X10_derive ({ frames := 110, cells := 0, slots := 0, locals := 2200 })).room s m ([.ref (ad 0), .int v, .int w1, .int w2] : List Value).toArray below meth c H locs (0) (0) (MQ below (va_Qi (fun (r : Int32) => fun (u : (Nat → va_E) × (Nat → Int32) × (List PD) × (Nat → Int)) => match u with | (g2, x2, L2, nm2) => RIE ad cA g2 x2 L2 nm2 tx ty wr ∧ x2 2 = x 2 ∧ DVR nm L v w1 w2 (x2 0) r L2 nm2) (fun (u : (Nat → va_E) × (Nat → Int32) × (List PD) × (Nat → Int)) (t : State) => va_P (dC, dI) vwCl (wo ad NSr u.1) t.heap) A) ([.ref (ad 0), .int v, .int w1, .int w2] : List Value).toArray s (0) (0) A) (F0 m 100 ls []) := by
                  intro k9
                  induction k9 with
                  | zero => intro kk DD dz xx pt1 pf1 qf1 g_68 fr_69 h9; exact absurd h9 (Nat.not_lt_zero _)
                  | succ k9 ih_67 =>
                    intro kk DD dz xx pt1 pf1 qf1 g_68 fr_69 h9 hk1 hI9 hB9 f_70 f_71 hMD H locs ls hP hS hl
                    refine lv_iload hx hb dX10_derive_100 (lv_at hl 6 rfl) ?_
                    obtain ⟨sF, sP, sM, sW, sE, sL, s3, sx, so, s4, sr⟩ := hMD
                    have hse := sE.1
                    rcases sr with hz | ⟨hz, hz4⟩
                    · skip
                      obtain ⟨i1, i2⟩ := hI9 hz
                      have s40 : xx 4 = iI 0 := by rw [s4, hz]
                      refine lv_iload hx hb dX10_derive_102 (lv_at hl 4 rfl) ?_
                      refine lv_icmp_gt (tgt := 144) hx hb dX10_derive_104 (by decide) (fun c_72 => ?_) (fun c_72 => ?_)
                      · have c_72 := (nI_ltI (a := rt) (b := kk) (by omega) (by omega)).mp c_72
                        refine lv_aload_n hx hb dX10_derive_144 rfl (lv_at hl 0 rfl) ?_
                        refine m_get (D := (dC, dI)) (v := .int (iI 0)) (C := RX10) (T := TX10) (N := 29) hx hb hts bk0 hown hK hP 0 (by decide) f_70 rfl 14 (by decide) (hts (.fieldLink RX10 146 "GradientDeskModel" "fault" "I") (List.mem_of_getElem? (i := 8) rfl)) (fun _ h9 => h9) (congrArg (fun z => some (Value.int z)) s40) dX10_derive_145 ?_
                        refine lv_if_ge (tgt := 162) hx hb dX10_derive_148 (by decide) (fun c_73 => ?_) (fun c_73 => absurd (mt (k_iLE (a := 0) (b := 0) (show nI 0 = iI 0 from by decide) rfl (by omega) (by omega)).mpr c_73) (by omega))
                        refine lv_aload_n hx hb dX10_derive_162 rfl (lv_at hl 0 rfl) ?_
                        refine m_get (D := (dC, dI)) (v := .ref (ad 11)) (C := RX10) (T := TX10) (N := 29) hx hb hts bk0 hown hK hP 0 (by decide) f_70 rfl 15 (by decide) (hts (.fieldLink RX10 47 "GradientDeskModel" "names" "[I") (List.mem_of_getElem? (i := 2) rfl)) (fun _ h9 => h9) rfl dX10_derive_163 ?_
                        refine lv_iload_n hx hb dX10_derive_166 rfl (lv_at hl 3 rfl) ?_
                        refine lv_aload_n hx hb dX10_derive_167 rfl (lv_at hl 0 rfl) ?_
                        refine m_get (D := (dC, dI)) (v := .ref (ad 13)) (C := RX10) (T := TX10) (N := 29) hx hb hts bk0 hown hK hP 0 (by decide) f_70 rfl 17 (by decide) (hts (.fieldLink RX10 53 "GradientDeskModel" "derived" "[I") (List.mem_of_getElem? (i := 9) rfl)) (fun _ h9 => h9) rfl dX10_derive_168 ?_
                        refine lv_iload hx hb dX10_derive_171 (lv_at hl 4 rfl) ?_
                        refine m_iald hx hb hK hP 13 (by decide) rfl f_71 (i := rt) (by omega) (by decide) dX10_derive_173 ?_
                        have hkr : kk = rt + 1 := by omega
                        obtain ⟨d1, d2⟩ := i2 rt (by omega) rchN_root
                        rw [d1, ← nI_iI]
                        have hdn : DD.2.1 rt < DD.2.2.length := d2
                        have f_74 : g_68 11 = .inl (cA 11, 8, .inl (fun j => iI (nm j))) := (fr_69 11 (by omega)).trans ((fr_65 11 (by omega)).trans ((fr_61 11 (by omega)).trans f_55))
                        refine m_iast hx hb hK hP hD hS 11 (by decide) rfl f_74 (i := dn9) (x := nI (DD.2.1 rt)) (by omega) (by decide) dX10_derive_174 (fun H locs g_75 f_76 fr_77 hP hS => ?_)
                        rw [(nI_iI (DD.2.1 rt)), k_updZ] at f_76
                        have b_78 : ∀ j, -1 ≤ (va_up nm dn9 ((DD.2.1 rt : Nat) : Int)) j ∧ (va_up nm dn9 ((DD.2.1 rt : Nat) : Int)) j ≤ 200 := k_up_in t11b (by omega)
                        have f_76 : g_75 11 = .inl (cA 11, 8, .inl (fun j => iI ((va_up nm dn9 ((DD.2.1 rt : Nat) : Int)) j))) := f_76
                        refine lv_aload_n hx hb dX10_derive_175 rfl (lv_at hl 0 rfl) ?_
                        have f_79 : g_75 0 = .inr (13, Rob ad xx) := (fr_77 0 (by omega)).trans f_70
                        refine m_get (D := (dC, dI)) (v := .ref (ad 11)) (C := RX10) (T := TX10) (N := 29) hx hb hts bk0 hown hK hP 0 (by decide) f_79 rfl 15 (by decide) (hts (.fieldLink RX10 47 "GradientDeskModel" "names" "[I") (List.mem_of_getElem? (i := 2) rfl)) (fun _ h9 => h9) rfl dX10_derive_176 ?_
                        refine lv_iload_n hx hb dX10_derive_179 rfl (lv_at hl 3 rfl) ?_
                        refine m_iald hx hb hK hP 11 (by decide) rfl f_76 (i := dn9) (by omega) (by decide) dX10_derive_180 ?_
                        refine lv_topi (fun x_80 e_81 => ?_)
                        obtain rfl : x_80 = iI ((DD.2.1 rt : Nat) : Int) := e_81.trans (congrArg iI (va_up_self _ _ _))
                        have b_82 := b_78 dn9
                        have f_83 : g_75 4 = .inl (cA 4, 64, .inl (fun j => nI (tx j))) := (fr_77 4 (by omega)).trans ((fr_69 4 (by omega)).trans ((fr_65 4 (by omega)).trans ((fr_61 4 (by omega)).trans ((fr_53 4 (by omega)).trans t4))))
                        have f_84 : g_75 12 = .inl (cA 12, 200, .inl (fun j => nI (rc2_60 j))) := (fr_77 12 (by omega)).trans ((fr_69 12 (by omega)).trans ((fr_65 12 (by omega)).trans q12))
                        have f_85 : g_75 13 = .inl (cA 13, 200, .inl (fun j => iI (dz j))) := (fr_77 13 (by omega)).trans f_71
                        have hri : RIE ad cA g_75 xx DD.2.2 (va_up nm dn9 ((DD.2.1 rt : Nat) : Int)) tx ty wr := RI.mk9 hI0 (sF.setx (fun (k : Nat) (hk : k = 1 ∨ k = 2 ∨ k = 3) => (fr_77 k (by omega)).trans (rfl)) f_79 rfl) (sP.same (fun (k : Nat) (hk : 5 ≤ k ∧ k ≤ 10) => (fr_77 k (by omega)).trans (rfl))) sM sW sL s3 ⟨f_83, t4b, f_76, b_78, fun j hj => by by_cases h9 : j = dn9; rw [h9, va_up_self]; omega; rw [va_up_ne _ _ h9]; exact Int.lt_of_lt_of_le (t11c j hj) (by omega)⟩ (((sx 1 (by decide) (by decide)).trans (va_up_ne _ _ (by decide))).trans hty) hty2 ((sx 8 (by decide) (by decide)).trans (va_up_ne _ _ (by decide))) (VO.der hVO0 f_84 q12b f_85 (fun (k : Nat) (hk : 14 ≤ k ∧ k ≤ 19) => (fr_77 k (by omega)).trans ((fr_69 k (by omega)).trans ((fr_65 k (by omega)).trans ((fr_61 k (by omega)).trans ((fr_53 k (by omega)).trans (rfl))))))) (hBd.res (fun r9 h9 => Or.inl (so _ (by omega) (by omega))) (fun v9 h9 => Or.inl (so _ (by omega) (by omega)))) (fun (k : Nat) (hk : k = 16) => (fr_77 k (by omega)).trans ((fr_69 k (by omega)).trans ((fr_65 k (by omega)).trans ((fr_61 k (by omega)).trans ((fr_53 k (by omega)).trans (rfl))))))
                        rw [hkr] at i1
                        refine W.widen (k := 0) (n := 0) (by omega) (by omega) ?_
                        exact W.iret (v := iI ((DD.2.1 rt : Nat) : Int)) hx hb hr (fun t9 ht9 hW9 => ⟨⟨iI ((DD.2.1 rt : Nat) : Int), (g_75, xx, DD.2.2, (va_up nm dn9 ((DD.2.1 rt : Nat) : Int))), rfl, ⟨hri, (sx 2 (by decide) (by decide)).trans (va_up_ne _ _ (by decide)), Or.inr ⟨vn, bn9, dn9, hvn, by omega, hbn9, by omega, hdn9, by omega, Or.inr ⟨rt, hrt, (sx 0 (by decide) (by decide)).trans (va_up_self _ _ _), Or.inr (by rw [i1]; exact ⟨hz, rfl, rfl, rfl⟩)⟩⟩⟩, by show va_P (dC, dI) vwCl _ t9.heap; rw [ht9]; exact hP⟩, hS.F ht9⟩) hS.2.2 dX10_derive_181
                      · have c_72 := mt (nI_ltI (a := rt) (b := kk) (by omega) (by omega)).mpr c_72
                        refine lv_aload_n hx hb dX10_derive_107 rfl (lv_at hl 0 rfl) ?_
                        refine m_get (D := (dC, dI)) (v := .int (iI 0)) (C := RX10) (T := TX10) (N := 29) hx hb hts bk0 hown hK hP 0 (by decide) f_70 rfl 14 (by decide) (hts (.fieldLink RX10 146 "GradientDeskModel" "fault" "I") (List.mem_of_getElem? (i := 8) rfl)) (fun _ h9 => h9) (congrArg (fun z => some (Value.int z)) s40) dX10_derive_108 ?_
                        refine lv_if_ne (tgt := 144) hx hb dX10_derive_111 (by decide) (fun c_86 => absurd (mt (k_iEQ (a := 0) (b := 0) rfl (show nI 0 = iI 0 from by decide) (by omega) (by omega)).mpr c_86) (by omega)) (fun c_86 => ?_)
                        refine lv_aload_n hx hb dX10_derive_114 rfl (lv_at hl 0 rfl) ?_
                        refine m_get (D := (dC, dI)) (v := .ref (ad 12)) (C := RX10) (T := TX10) (N := 29) hx hb hts bk0 hown hK hP 0 (by decide) f_70 rfl 16 (by decide) (hts (.fieldLink RX10 50 "GradientDeskModel" "reached" "[Z") (List.mem_of_getElem? (i := 10) rfl)) (fun _ h9 => h9) rfl dX10_derive_115 ?_
                        refine lv_iload hx hb dX10_derive_118 (lv_at hl 6 rfl) ?_
                        have f_87 : g_68 12 = .inl (cA 12, 200, .inl (fun j => nI (rc2_60 j))) := (fr_69 12 (by omega)).trans ((fr_65 12 (by omega)).trans q12)
                        refine m_zald hx hb hK hP 12 (by decide) rfl f_87 (i := kk) (by omega) (by decide) dX10_derive_120 ?_
                        have b_88 := q12b kk
                        refine lv_if_eq (tgt := 138) hx hb dX10_derive_121 (by decide) (fun c_89 => ?_) (fun c_89 => ?_)
                        · have c_89 := (nI_eq (a := (rc2_60 kk)) (b := 0) (by omega) (by decide)).mp c_89
                          have hnr : ¬ (rchN L rt (rt + 1)) kk = 1 := by have h7 := q12c kk (by omega); omega
                          have hMD0 : MKD ad cA g_68 (va_up x 0 (nI 0)) xx pf qf L DD pt1 pf1 qf1 := ⟨sF, sP, sM, sW, sE, sL, s3, sx, so, s4, Or.inl hz⟩
                          refine lv_iinc (v := nI (kk + 1)) (lv' := [(7, .int (nI (kk + 1))), (0, .ref (ad 0)), (1, .int (nI vn)), (2, .int (nI bn9)), (3, .int (nI dn9)), (5, .int (nI rt)), (6, .int (nI L.length))]) hx hb dX10_derive_138 hl (k := 6) rfl (nI_add kk 1) (by decide) rfl (fun ls hl => ?_)
                          refine lv_goto (tgt := 100) hx hb dX10_derive_141 (by decide) ?_
                          exact ih_67 (kk + 1) DD dz xx pt1 pf1 qf1 g_68 (fun (k : Nat) (hk : k ≠ 0 ∧ k ≠ 1 ∧ k ≠ 2 ∧ k ≠ 3 ∧ k ≠ 5 ∧ k ≠ 6 ∧ k ≠ 7 ∧ k ≠ 8 ∧ k ≠ 9 ∧ k ≠ 10 ∧ k ≠ 13) => (fr_69 k (by omega)).trans (rfl)) (by omega) (by omega) (fun _ => ⟨drS_no i1 hz hnr, fun j hj h9 => by by_cases h8 : j = kk; rw [h8] at h9; exact absurd h9 hnr; exact i2 j (by omega) h9⟩) (fun h9 => absurd h9 (by omega)) f_70 f_71 hMD0 _ _ _ hP hS (lv_sub (l' := [(0, .ref (ad 0)), (1, .int (nI vn)), (2, .int (nI bn9)), (3, .int (nI dn9)), (5, .int (nI rt)), (6, .int (nI L.length)), (7, .int (nI (kk + 1)))]) hl [1, 2, 3, 4, 5, 6, 0] rfl)
                        · have c_89 := mt (nI_eq (a := (rc2_60 kk)) (b := 0) (by omega) (by decide)).mpr c_89
                          refine lv_aload_n hx hb dX10_derive_124 rfl (lv_at hl 0 rfl) ?_
                          refine m_get (D := (dC, dI)) (v := .ref (ad 13)) (C := RX10) (T := TX10) (N := 29) hx hb hts bk0 hown hK hP 0 (by decide) f_70 rfl 17 (by decide) (hts (.fieldLink RX10 53 "GradientDeskModel" "derived" "[I") (List.mem_of_getElem? (i := 9) rfl)) (fun _ h9 => h9) rfl dX10_derive_125 ?_
                          refine lv_iload hx hb dX10_derive_128 (lv_at hl 6 rfl) ?_
                          refine lv_aload_n hx hb dX10_derive_130 rfl (lv_at hl 0 rfl) ?_
                          refine lv_iload hx hb dX10_derive_131 (lv_at hl 6 rfl) ?_
                          refine lv_iload_n hx hb dX10_derive_133 rfl (lv_at hl 2 rfl) ?_
                          have hre : (rchN L rt (rt + 1)) kk = 1 := by have h7 := q12c kk (by omega); have h8 := q12b kk; omega
                          have hgk : gd DD.2.2 kk = gd L kk := sE.2 kk (by omega)
                          have hd1 : 1 < (gd DD.2.2 kk).1 → dz (gd DD.2.2 kk).2.1.toNat = ((DD.2.1 (gd DD.2.2 kk).2.1.toNat : Nat) : Int) ∧ DD.2.1 (gd DD.2.2 kk).2.1.toNat < DD.2.2.length := fun h9 => by rw [hgk] at h9 ⊢; obtain ⟨a9, h8, h7⟩ := hW.op1 (k := kk) (by omega) h9; have h6 := (rch_closed hW hrl (by omega) hre h9).1; rw [h7, Int.toNat_natCast] at h6 ⊢; exact i2 a9 h8 h6
                          have hd2 : (gd DD.2.2 kk).1 = 2 ∨ (gd DD.2.2 kk).1 = 3 → dz (gd DD.2.2 kk).2.2.1.toNat = ((DD.2.1 (gd DD.2.2 kk).2.2.1.toNat : Nat) : Int) ∧ DD.2.1 (gd DD.2.2 kk).2.2.1.toNat < DD.2.2.length := fun h9 => by rw [hgk] at h9 ⊢; obtain ⟨a9, h8, h7⟩ := hW.op2 (k := kk) (by omega) h9; have h6 := (rch_closed hW hrl (by omega) hre (by omega)).2 (by omega); rw [h7, Int.toNat_natCast] at h6 ⊢; exact i2 a9 h8 h6
                          have hokk := OKK.der (v := bn9) sW (show kk < DD.2.2.length by omega) (fun h9 => (hd1 h9).2) (fun h9 => (hd2 h9).2)
                          refine va_calli (va_runV (As := [.int (nI kk), .int (nI bn9)]) (rest := [.int (nI kk), .ref (ad 13)]) ⟨hx, hb, hml, hown, hts⟩ (c_X10_derivativeOf l dC dI A ad cA g_68 xx pf1 qf1 pt1 DD.2.2 kk bn9 dz DD.2.1 sF sP sM s3 sL s40 sW (by omega) (by omega) f_71 hd1 hd2) (cwV 2 hts (goodIn_app (goodIn_r [Cond.methodLink RX10 260 yX10_derivativeOf, Cond.instanceMethod yX10_derivativeOf, Cond.selects RX10 yX10_derivativeOf yX10_derivativeOf, Cond.initialized RX10] [11, 12, 13, 6] rfl rfl) (goodIn_sub (fun w9 h9 => bk2 w9 h9) gw_X10_derivativeOf)) rfl rfl rfl (by decide +kernel) ⟨Nat.le_of_ble_eq_true rfl, Nat.le_of_ble_eq_true rfl⟩) ⟨fun a U g mk q => ⟨q.1, q.2.1, q.2.2.1, LY.moved (u := U) (U := U.calling g mk a) (Vm.Alike.refl U.vm) q.2.2.2⟩, va_recv hK hP (ci := 13) (q0 := 0) rfl (wo_at (by decide) f_70), fun U hU hW => ⟨rfl, by rw [hU]; exact fun q h => hA q (Nat.le_trans hS.1 h), by rw [hU]; exact hP, LY.moved hW.alike hL⟩⟩ rfl rfl hl.1 rfl (lv_room (Nat.le_of_ble_eq_true rfl)) dX10_derive_134 ⟨(Nat.le_of_ble_eq_true rfl), (Nat.le_of_ble_eq_true rfl)⟩) hS (fun q _ h => h) (fun q h => h) (fun r_92 u8 t8 H1 locs ht8 hvm8 hw_93 hB hz1 hk1 hS => ?_)
                          obtain ⟨g_94, x2_95, pt2_96, pf2_97, qf2_98⟩ := u8
                          try dsimp only at hw_93 hB
                          rw [ht8] at hB
                          have hP := hB
                          generalize H1 = H at hP hS ⊢
                          obtain ⟨fr_99, hK⟩ := hw_93
                          obtain ⟨K9, eK9⟩ : ∃ z9, z9 = derL DD.2.2 kk bn9 DD.2.1 := ⟨_, rfl⟩
                          rw [← eK9] at hK hokk
                          obtain ⟨kF, kP, kM, kL, k3, kx, ko, kR⟩ := hK
                          have hob9 := kF.obj
                          have hle9 := hokk.2.1.1
                          rcases kR with ⟨j1, j2, j3, j4⟩ | ⟨j1, j2, j3, j4⟩
                          · skip
                            obtain ⟨i9, hi9⟩ : ∃ z9 : Nat, K9.1 = (z9 : Int) := ⟨K9.1.toNat, by omega⟩
                            rw [hi9, ← nI_iI] at j3
                            rw [j3]
                            have f_100 : g_94 13 = .inl (cA 13, 200, .inl (fun j => iI (dz j))) := (fr_99 13 (by omega)).trans f_71
                            refine m_iast hx hb hK hP hD hS 13 (by decide) rfl f_100 (i := kk) (x := nI i9) (by omega) (by decide) dX10_derive_137 (fun H locs g_101 f_102 fr_103 hP hS => ?_)
                            rw [(nI_iI i9), k_updZ] at f_102
                            have f_102 : g_101 13 = .inl (cA 13, 200, .inl (fun j => iI ((va_up dz kk ((i9 : Nat) : Int)) j))) := f_102
                            have f_104 : g_101 0 = .inr (13, Rob ad x2_95) := (fr_103 0 (by omega)).trans hob9
                            have hMD2 : MKD ad cA g_101 (va_up x 0 (nI 0)) x2_95 pf qf L (0, va_up DD.2.1 kk i9, K9.2) pt2_96 pf2_97 qf2_98 := ⟨kF.setx (fun (k : Nat) (hk : k = 1 ∨ k = 2 ∨ k = 3) => (fr_103 k (by omega)).trans (rfl)) f_104 rfl, kP.same (fun (k : Nat) (hk : 5 ≤ k ∧ k ≤ 10) => (fr_103 k (by omega)).trans (rfl)), kM, hokk.1, LE.tr sE hokk.2.1, kL, k3, fun j h3 h4 => (kx j h3 h4).trans (sx j h3 h4), fun f9 h1 h2 => ⟨(ko f9 h1 h2).1.trans (so f9 h1 h2).1, (ko f9 h1 h2).2.trans (so f9 h1 h2).2⟩, j4, Or.inl rfl⟩
                            have hE9 : drS L (rchN L rt (rt + 1)) bn9 (kk + 1) = (0, va_up DD.2.1 kk i9, K9.2) := by have h9 := drS_ok i1 hz hre (i := i9) (by rw [← eK9]; exact hi9); rw [← eK9] at h9; exact h9
                            refine lv_iinc (v := nI (kk + 1)) (lv' := [(7, .int (nI (kk + 1))), (0, .ref (ad 0)), (1, .int (nI vn)), (2, .int (nI bn9)), (3, .int (nI dn9)), (5, .int (nI rt)), (6, .int (nI L.length))]) hx hb dX10_derive_138 hl (k := 6) rfl (nI_add kk 1) (by decide) rfl (fun ls hl => ?_)
                            refine lv_goto (tgt := 100) hx hb dX10_derive_141 (by decide) ?_
                            exact ih_67 (kk + 1) (0, va_up DD.2.1 kk i9, K9.2) (va_up dz kk ((i9 : Nat) : Int)) x2_95 pt2_96 pf2_97 qf2_98 g_101 (fun (k : Nat) (hk : k ≠ 0 ∧ k ≠ 1 ∧ k ≠ 2 ∧ k ≠ 3 ∧ k ≠ 5 ∧ k ≠ 6 ∧ k ≠ 7 ∧ k ≠ 8 ∧ k ≠ 9 ∧ k ≠ 10 ∧ k ≠ 13) => (fr_103 k (by omega)).trans ((fr_99 k (by omega)).trans ((fr_69 k (by omega)).trans (rfl)))) (by omega) (by omega) (fun _ => ⟨hE9, fun j hj h9 => by dsimp only; by_cases h8 : j = kk; subst h8; refine ⟨by rw [va_up_self, va_up_self], by rw [va_up_self]; omega⟩; rw [va_up_ne _ _ h8, va_up_ne _ _ h8]; obtain ⟨h6, h7⟩ := i2 j (by omega) h9; exact ⟨h6, Nat.lt_of_lt_of_le h7 hle9⟩⟩) (fun h9 => absurd (show (0 : Int) < 0 from h9) (by decide)) f_104 f_102 hMD2 _ _ _ hP hS (lv_sub (l' := [(0, .ref (ad 0)), (1, .int (nI vn)), (2, .int (nI bn9)), (3, .int (nI dn9)), (5, .int (nI rt)), (6, .int (nI L.length)), (7, .int (nI (kk + 1)))]) hl [1, 2, 3, 4, 5, 6, 0] rfl)
                          · skip
                            rw [j3]
                            have f_107 : g_94 13 = .inl (cA 13, 200, .inl (fun j => iI (dz j))) := (fr_99 13 (by omega)).trans f_71
                            refine m_iast hx hb hK hP hD hS 13 (by decide) rfl f_107 (i := kk) (x := -1) (by omega) (by decide) dX10_derive_137 (fun H locs g_108 f_109 fr_110 hP hS => ?_)
                            rw [(show (-1 : Int32) = iI (-1) from by decide), k_updZ] at f_109
                            have f_109 : g_108 13 = .inl (cA 13, 200, .inl (fun j => iI ((va_up dz kk (-1)) j))) := f_109
                            have f_111 : g_108 0 = .inr (13, Rob ad x2_95) := (fr_110 0 (by omega)).trans hob9
                            have hMD2 : MKD ad cA g_108 (va_up x 0 (nI 0)) x2_95 pf qf L (K9.1, DD.2.1, K9.2) pt2_96 pf2_97 qf2_98 := ⟨kF.setx (fun (k : Nat) (hk : k = 1 ∨ k = 2 ∨ k = 3) => (fr_110 k (by omega)).trans (rfl)) f_111 rfl, kP.same (fun (k : Nat) (hk : 5 ≤ k ∧ k ≤ 10) => (fr_110 k (by omega)).trans (rfl)), kM, hokk.1, LE.tr sE hokk.2.1, kL, k3, fun j h3 h4 => (kx j h3 h4).trans (sx j h3 h4), fun f9 h1 h2 => ⟨(ko f9 h1 h2).1.trans (so f9 h1 h2).1, (ko f9 h1 h2).2.trans (so f9 h1 h2).2⟩, j4, Or.inr ⟨j1, j2⟩⟩
                            have hE9 : drS L (rchN L rt (rt + 1)) bn9 (rt + 1) = (K9.1, DD.2.1, K9.2) := by have h9 := drS_bad i1 hz hre (by rw [← eK9]; exact j1); rw [← eK9] at h9; exact drS_end h9 j1 (by omega)
                            refine lv_iinc (v := nI (kk + 1)) (lv' := [(7, .int (nI (kk + 1))), (0, .ref (ad 0)), (1, .int (nI vn)), (2, .int (nI bn9)), (3, .int (nI dn9)), (5, .int (nI rt)), (6, .int (nI L.length))]) hx hb dX10_derive_138 hl (k := 6) rfl (nI_add kk 1) (by decide) rfl (fun ls hl => ?_)
                            refine lv_goto (tgt := 100) hx hb dX10_derive_141 (by decide) ?_
                            exact ih_67 (kk + 1) (K9.1, DD.2.1, K9.2) (va_up dz kk (-1)) x2_95 pt2_96 pf2_97 qf2_98 g_108 (fun (k : Nat) (hk : k ≠ 0 ∧ k ≠ 1 ∧ k ≠ 2 ∧ k ≠ 3 ∧ k ≠ 5 ∧ k ≠ 6 ∧ k ≠ 7 ∧ k ≠ 8 ∧ k ≠ 9 ∧ k ≠ 10 ∧ k ≠ 13) => (fr_110 k (by omega)).trans ((fr_99 k (by omega)).trans ((fr_69 k (by omega)).trans (rfl)))) (by omega) (by omega) (fun h9 => absurd (show K9.1 = 0 from h9) (by omega)) (fun _ => hE9) f_111 f_109 hMD2 _ _ _ hP hS (lv_sub (l' := [(0, .ref (ad 0)), (1, .int (nI vn)), (2, .int (nI bn9)), (3, .int (nI dn9)), (5, .int (nI rt)), (6, .int (nI L.length)), (7, .int (nI (kk + 1)))]) hl [1, 2, 3, 4, 5, 6, 0] rfl)
                    · skip
                      refine lv_iload hx hb dX10_derive_102 (lv_at hl 4 rfl) ?_
                      refine lv_icmp_gt (tgt := 144) hx hb dX10_derive_104 (by decide) (fun c_114 => ?_) (fun c_114 => ?_)
                      · have c_114 := (nI_ltI (a := rt) (b := kk) (by omega) (by omega)).mp c_114
                        refine lv_aload_n hx hb dX10_derive_144 rfl (lv_at hl 0 rfl) ?_
                        refine m_get (D := (dC, dI)) (v := .int (iI DD.1)) (C := RX10) (T := TX10) (N := 29) hx hb hts bk0 hown hK hP 0 (by decide) f_70 rfl 14 (by decide) (hts (.fieldLink RX10 146 "GradientDeskModel" "fault" "I") (List.mem_of_getElem? (i := 8) rfl)) (fun _ h9 => h9) (congrArg (fun z => some (Value.int z)) s4) dX10_derive_145 ?_
                        refine lv_if_ge (tgt := 162) hx hb dX10_derive_148 (by decide) (fun c_115 => absurd ((k_iLE (a := 0) (b := DD.1) (show nI 0 = iI 0 from by decide) rfl (by omega) (by omega)).mp c_115) (by omega)) (fun c_115 => ?_)
                        refine lv_aload_n hx hb dX10_derive_151 rfl (lv_at hl 0 rfl) ?_
                        refine lv_iload hx hb dX10_derive_152 (lv_at hl 5 rfl) ?_
                        refine m_put (D := (dC, dI)) (v := .int (nI L.length)) (tv := .int) (C := RX10) (T := TX10) (N := 29) hx hb hts bk0 tyX10 tyX10_ok nmX10 hown hK hP hD hS 0 (by decide) f_70 rfl 13 (by decide) (hts (.fieldLink RX10 149 "GradientDeskModel" "made" "I") (List.mem_of_getElem? (i := 7) rfl)) (fun _ h9 => h9) rfl (by decide +kernel) rfl rfl (Nat.le_of_ble_eq_true rfl) dX10_derive_154 (fun H locs g_116 f_117 fr_118 hP hS => ?_)
                        have f_117 : g_116 0 = .inr (13, Rob ad (va_up xx 3 (nI L.length))) := f_117
                        refine lv_aload_n hx hb dX10_derive_157 rfl (lv_at hl 0 rfl) ?_
                        refine m_get (D := (dC, dI)) (v := .int (iI DD.1)) (C := RX10) (T := TX10) (N := 29) hx hb hts bk0 hown hK hP 0 (by decide) f_117 rfl 14 (by decide) (hts (.fieldLink RX10 146 "GradientDeskModel" "fault" "I") (List.mem_of_getElem? (i := 8) rfl)) (fun _ h9 => h9) (congrArg (fun z => some (Value.int z)) (show (va_up xx 3 (nI L.length)) 4 = (iI DD.1) from s4)) dX10_derive_158 ?_
                        have f_119 : g_116 4 = .inl (cA 4, 64, .inl (fun j => nI (tx j))) := (fr_118 4 (by omega)).trans ((fr_69 4 (by omega)).trans ((fr_65 4 (by omega)).trans ((fr_61 4 (by omega)).trans ((fr_53 4 (by omega)).trans t4))))
                        have f_120 : g_116 11 = .inl (cA 11, 8, .inl (fun j => iI (nm j))) := (fr_118 11 (by omega)).trans ((fr_69 11 (by omega)).trans ((fr_65 11 (by omega)).trans ((fr_61 11 (by omega)).trans f_55)))
                        have f_121 : g_116 12 = .inl (cA 12, 200, .inl (fun j => nI (rc2_60 j))) := (fr_118 12 (by omega)).trans ((fr_69 12 (by omega)).trans ((fr_65 12 (by omega)).trans q12))
                        have f_122 : g_116 13 = .inl (cA 13, 200, .inl (fun j => iI (dz j))) := (fr_118 13 (by omega)).trans f_71
                        have hri : RIE ad cA g_116 (va_up xx 3 (nI L.length)) L nm tx ty wr := RI.mk9 hI0 (sF.setx (fun (k : Nat) (hk : k = 1 ∨ k = 2 ∨ k = 3) => (fr_118 k (by omega)).trans (rfl)) f_117 rfl) (sP.same (fun (k : Nat) (hk : 5 ≤ k ∧ k ≤ 10) => (fr_118 k (by omega)).trans (rfl))) (sM.le sE) hW hL2 (va_up_self _ _ _) ⟨f_119, t4b, f_120, t11b, t11c⟩ ((va_up_ne _ _ (by decide)).trans (((sx 1 (by decide) (by decide)).trans (va_up_ne _ _ (by decide))).trans hty)) hty2 ((va_up_ne _ _ (by decide)).trans ((sx 8 (by decide) (by decide)).trans (va_up_ne _ _ (by decide)))) (VO.der hVO0 f_121 q12b f_122 (fun (k : Nat) (hk : 14 ≤ k ∧ k ≤ 19) => (fr_118 k (by omega)).trans ((fr_69 k (by omega)).trans ((fr_65 k (by omega)).trans ((fr_61 k (by omega)).trans ((fr_53 k (by omega)).trans (rfl))))))) (hBd.res (fun r9 h9 => Or.inl (so _ (by omega) (by omega))) (fun v9 h9 => Or.inl (so _ (by omega) (by omega)))) (fun (k : Nat) (hk : k = 16) => (fr_118 k (by omega)).trans ((fr_69 k (by omega)).trans ((fr_65 k (by omega)).trans ((fr_61 k (by omega)).trans ((fr_53 k (by omega)).trans (rfl))))))
                        have hE := hB9 hz
                        refine W.widen (k := 0) (n := 0) (by omega) (by omega) ?_
                        exact W.iret (v := iI DD.1) hx hb hr (fun t9 ht9 hW9 => ⟨⟨iI DD.1, (g_116, va_up xx 3 (nI L.length), L, nm), rfl, ⟨hri, (va_up_ne _ _ (by decide)).trans ((sx 2 (by decide) (by decide)).trans (va_up_ne _ _ (by decide))), Or.inr ⟨vn, bn9, dn9, hvn, by omega, hbn9, by omega, hdn9, by omega, Or.inr ⟨rt, hrt, (va_up_ne _ _ (by decide)).trans ((sx 0 (by decide) (by decide)).trans (va_up_self _ _ _)), Or.inl (by rw [hE]; exact ⟨hz, rfl, rfl, rfl⟩)⟩⟩⟩, by show va_P (dC, dI) vwCl _ t9.heap; rw [ht9]; exact hP⟩, hS.F ht9⟩) hS.2.2 dX10_derive_161
                      · have c_114 := mt (nI_ltI (a := rt) (b := kk) (by omega) (by omega)).mpr c_114
                        refine lv_aload_n hx hb dX10_derive_107 rfl (lv_at hl 0 rfl) ?_
                        refine m_get (D := (dC, dI)) (v := .int (iI DD.1)) (C := RX10) (T := TX10) (N := 29) hx hb hts bk0 hown hK hP 0 (by decide) f_70 rfl 14 (by decide) (hts (.fieldLink RX10 146 "GradientDeskModel" "fault" "I") (List.mem_of_getElem? (i := 8) rfl)) (fun _ h9 => h9) (congrArg (fun z => some (Value.int z)) s4) dX10_derive_108 ?_
                        refine lv_if_ne (tgt := 144) hx hb dX10_derive_111 (by decide) (fun c_123 => ?_) (fun c_123 => absurd ((k_iEQ (a := DD.1) (b := 0) rfl (show nI 0 = iI 0 from by decide) (by omega) (by omega)).mp c_123) (by omega))
                        refine lv_aload_n hx hb dX10_derive_144 rfl (lv_at hl 0 rfl) ?_
                        refine m_get (D := (dC, dI)) (v := .int (iI DD.1)) (C := RX10) (T := TX10) (N := 29) hx hb hts bk0 hown hK hP 0 (by decide) f_70 rfl 14 (by decide) (hts (.fieldLink RX10 146 "GradientDeskModel" "fault" "I") (List.mem_of_getElem? (i := 8) rfl)) (fun _ h9 => h9) (congrArg (fun z => some (Value.int z)) s4) dX10_derive_145 ?_
                        refine lv_if_ge (tgt := 162) hx hb dX10_derive_148 (by decide) (fun c_124 => absurd ((k_iLE (a := 0) (b := DD.1) (show nI 0 = iI 0 from by decide) rfl (by omega) (by omega)).mp c_124) (by omega)) (fun c_124 => ?_)
                        refine lv_aload_n hx hb dX10_derive_151 rfl (lv_at hl 0 rfl) ?_
                        refine lv_iload hx hb dX10_derive_152 (lv_at hl 5 rfl) ?_
                        refine m_put (D := (dC, dI)) (v := .int (nI L.length)) (tv := .int) (C := RX10) (T := TX10) (N := 29) hx hb hts bk0 tyX10 tyX10_ok nmX10 hown hK hP hD hS 0 (by decide) f_70 rfl 13 (by decide) (hts (.fieldLink RX10 149 "GradientDeskModel" "made" "I") (List.mem_of_getElem? (i := 7) rfl)) (fun _ h9 => h9) rfl (by decide +kernel) rfl rfl (Nat.le_of_ble_eq_true rfl) dX10_derive_154 (fun H locs g_125 f_126 fr_127 hP hS => ?_)
                        have f_126 : g_125 0 = .inr (13, Rob ad (va_up xx 3 (nI L.length))) := f_126
                        refine lv_aload_n hx hb dX10_derive_157 rfl (lv_at hl 0 rfl) ?_
                        refine m_get (D := (dC, dI)) (v := .int (iI DD.1)) (C := RX10) (T := TX10) (N := 29) hx hb hts bk0 hown hK hP 0 (by decide) f_126 rfl 14 (by decide) (hts (.fieldLink RX10 146 "GradientDeskModel" "fault" "I") (List.mem_of_getElem? (i := 8) rfl)) (fun _ h9 => h9) (congrArg (fun z => some (Value.int z)) (show (va_up xx 3 (nI L.length)) 4 = (iI DD.1) from s4)) dX10_derive_158 ?_
                        have f_128 : g_125 4 = .inl (cA 4, 64, .inl (fun j => nI (tx j))) := (fr_127 4 (by omega)).trans ((fr_69 4 (by omega)).trans ((fr_65 4 (by omega)).trans ((fr_61 4 (by omega)).trans ((fr_53 4 (by omega)).trans t4))))
                        have f_129 : g_125 11 = .inl (cA 11, 8, .inl (fun j => iI (nm j))) := (fr_127 11 (by omega)).trans ((fr_69 11 (by omega)).trans ((fr_65 11 (by omega)).trans ((fr_61 11 (by omega)).trans f_55)))
                        have f_130 : g_125 12 = .inl (cA 12, 200, .inl (fun j => nI (rc2_60 j))) := (fr_127 12 (by omega)).trans ((fr_69 12 (by omega)).trans ((fr_65 12 (by omega)).trans q12))
                        have f_131 : g_125 13 = .inl (cA 13, 200, .inl (fun j => iI (dz j))) := (fr_127 13 (by omega)).trans f_71
                        have hri : RIE ad cA g_125 (va_up xx 3 (nI L.length)) L nm tx ty wr := RI.mk9 hI0 (sF.setx (fun (k : Nat) (hk : k = 1 ∨ k = 2 ∨ k = 3) => (fr_127 k (by omega)).trans (rfl)) f_126 rfl) (sP.same (fun (k : Nat) (hk : 5 ≤ k ∧ k ≤ 10) => (fr_127 k (by omega)).trans (rfl))) (sM.le sE) hW hL2 (va_up_self _ _ _) ⟨f_128, t4b, f_129, t11b, t11c⟩ ((va_up_ne _ _ (by decide)).trans (((sx 1 (by decide) (by decide)).trans (va_up_ne _ _ (by decide))).trans hty)) hty2 ((va_up_ne _ _ (by decide)).trans ((sx 8 (by decide) (by decide)).trans (va_up_ne _ _ (by decide)))) (VO.der hVO0 f_130 q12b f_131 (fun (k : Nat) (hk : 14 ≤ k ∧ k ≤ 19) => (fr_127 k (by omega)).trans ((fr_69 k (by omega)).trans ((fr_65 k (by omega)).trans ((fr_61 k (by omega)).trans ((fr_53 k (by omega)).trans (rfl))))))) (hBd.res (fun r9 h9 => Or.inl (so _ (by omega) (by omega))) (fun v9 h9 => Or.inl (so _ (by omega) (by omega)))) (fun (k : Nat) (hk : k = 16) => (fr_127 k (by omega)).trans ((fr_69 k (by omega)).trans ((fr_65 k (by omega)).trans ((fr_61 k (by omega)).trans ((fr_53 k (by omega)).trans (rfl))))))
                        have hE := hB9 hz
                        refine W.widen (k := 0) (n := 0) (by omega) (by omega) ?_
                        exact W.iret (v := iI DD.1) hx hb hr (fun t9 ht9 hW9 => ⟨⟨iI DD.1, (g_125, va_up xx 3 (nI L.length), L, nm), rfl, ⟨hri, (va_up_ne _ _ (by decide)).trans ((sx 2 (by decide) (by decide)).trans (va_up_ne _ _ (by decide))), Or.inr ⟨vn, bn9, dn9, hvn, by omega, hbn9, by omega, hdn9, by omega, Or.inr ⟨rt, hrt, (va_up_ne _ _ (by decide)).trans ((sx 0 (by decide) (by decide)).trans (va_up_self _ _ _)), Or.inl (by rw [hE]; exact ⟨hz, rfl, rfl, rfl⟩)⟩⟩⟩, by show va_P (dC, dI) vwCl _ t9.heap; rw [ht9]; exact hP⟩, hS.F ht9⟩) hS.2.2 dX10_derive_161
                have f_132 : g_63 13 = .inl (cA 13, 200, .inl (fun j => iI (f13 j))) := (fr_65 13 (by omega)).trans ((fr_61 13 (by omega)).trans ((fr_53 13 (by omega)).trans v13))
                exact loop_66 _ 0 (0, fun _ => 0, L) f13 (va_up (va_up x 0 (nI 0)) 4 (nI 0)) pt pf qf g_63 (fun (k : Nat) (hk : k ≠ 0 ∧ k ≠ 1 ∧ k ≠ 2 ∧ k ≠ 3 ∧ k ≠ 5 ∧ k ≠ 6 ∧ k ≠ 7 ∧ k ≠ 8 ∧ k ≠ 9 ∧ k ≠ 10 ∧ k ≠ 13) => rfl) (Nat.lt_succ_self _) (by omega) (fun _ => ⟨rfl, fun j hj => absurd hj (by omega)⟩) (fun h9 => absurd (show (0 : Int) < 0 from h9) (by decide)) f_64 f_132 (⟨hF0.setx (fun (k : Nat) (hk : k = 1 ∨ k = 2 ∨ k = 3) => (fr_65 k (by omega)).trans ((fr_61 k (by omega)).trans ((fr_53 k (by omega)).trans (rfl)))) f_64 rfl, hPt0.same (fun (k : Nat) (hk : 5 ≤ k ∧ k ≤ 10) => (fr_65 k (by omega)).trans ((fr_61 k (by omega)).trans ((fr_53 k (by omega)).trans (rfl)))), hM, hW, LE.rf, hL2, (va_up_ne _ _ (by decide)).trans ((va_up_ne _ _ (by decide)).trans hmd), fun j h3 h4 => va_up_ne _ _ h4, fun _ _ _ => ⟨rfl, rfl⟩, (va_up_self _ _ _).trans (show nI 0 = iI 0 by decide), Or.inl rfl⟩) _ _ _ hP hS (lv_sub (l' := [(0, .ref (ad 0)), (1, .int (nI vn)), (2, .int (nI bn9)), (3, .int (nI dn9)), (5, .int (nI rt)), (6, .int (nI L.length)), (7, .int (nI 0))]) hl [4, 5, 6, 7, 2, 1, 0] rfl)
              · have c_50 := mt (k_iLE (a := 0) (b := nm vn) (show nI 0 = iI 0 from by decide) rfl (by omega) (by omega)).mpr c_50
                refine lv_iconst (v := nI 2) hx hb dX10_derive_55 (by decide +kernel) ?_
                refine lv_goto (tgt := 60) hx hb dX10_derive_56 (by decide) ?_
                refine m_put (D := (dC, dI)) (v := .int (nI 2)) (tv := .int) (C := RX10) (T := TX10) (N := 29) hx hb hts bk0 tyX10 tyX10_ok nmX10 hown hK hP hD hS 0 (by decide) r_3 rfl 0 (by decide) (hts (.fieldLink RX10 78 "GradientDeskModel" "thrown" "I") (List.mem_of_getElem? (i := 1) rfl)) (fun _ h9 => h9) rfl (by decide +kernel) rfl rfl (Nat.le_of_ble_eq_true rfl) dX10_derive_60 (fun H locs g_133 f_134 fr_135 hP hS => ?_)
                have f_134 : g_133 0 = .inr (13, Rob ad (va_up x 0 (nI 2))) := f_134
                refine lv_aload_n hx hb dX10_derive_63 rfl (lv_at hl 1 rfl) ?_
                refine m_get (D := (dC, dI)) (v := .int (nI 2)) (C := RX10) (T := TX10) (N := 29) hx hb hts bk0 hown hK hP 0 (by decide) f_134 rfl 0 (by decide) (hts (.fieldLink RX10 78 "GradientDeskModel" "thrown" "I") (List.mem_of_getElem? (i := 1) rfl)) (fun _ h9 => h9) (congrArg (fun z => some (Value.int z)) (show (va_up x 0 (nI 2)) 0 = (nI 2) from rfl)) dX10_derive_64 ?_
                refine lv_if_le (tgt := 72) hx hb dX10_derive_67 (by decide) (fun c_136 => absurd c_136 (by decide)) (fun c_136 => ?_)
                refine lv_iconst (v := nI 0) hx hb dX10_derive_70 (by decide +kernel) ?_
                refine W.widen (k := 0) (n := 0) (by omega) (by omega) ?_
                exact W.iret (v := nI 0) hx hb hr (fun t9 ht9 hW9 => ⟨⟨nI 0, (g_133, va_up x 0 (nI 2), L, nm), rfl, ⟨RI.num hI0 (hF0.setx (fun (k : Nat) (hk : k = 1 ∨ k = 2 ∨ k = 3) => (fr_135 k (by omega)).trans (rfl)) f_134 rfl) (fun (k : Nat) (hk : (4 ≤ k ∧ k ≤ 11) ∨ k = 16) => (fr_135 k (by omega)).trans (rfl)) (hVO0.same (fun (k : Nat) (hk : 12 ≤ k ∧ k ≤ 19) => (fr_135 k (by omega)).trans (rfl))) (va_up_ne _ _ (by decide)) (va_up_ne _ _ (by decide)) (va_up_ne _ _ (by decide)) (fun _ _ => ⟨rfl, rfl⟩) hBd, (va_up_ne _ _ (by decide)), Or.inr ⟨vn, bn9, dn9, hvn, by omega, hbn9, by omega, hdn9, by omega, Or.inl ⟨by omega, va_up_self _ _ _, rfl, rfl, rfl⟩⟩⟩, by show va_P (dC, dI) vwCl _ t9.heap; rw [ht9]; exact hP⟩, hS.F ht9⟩) hS.2.2 dX10_derive_71
            · have c_47 := mt (k_le w1 (nI 2)).mpr c_47
              rw [show (nI 2).toInt = 2 from by decide] at c_47
              refine lv_iconst (v := nI 1) hx hb dX10_derive_29 (by decide +kernel) ?_
              refine lv_goto (tgt := 34) hx hb dX10_derive_30 (by decide) ?_
              refine lv_istore (lv' := [(4, .int (nI 1)), (0, .ref (ad 0)), (1, .int v), (2, .int w1), (3, .int w2)]) hx hb dX10_derive_34 hl (by decide) rfl (fun ls hl => ?_)
              refine lv_aload_n hx hb dX10_derive_36 rfl (lv_at hl 1 rfl) ?_
              refine lv_iload hx hb dX10_derive_37 (lv_at hl 0 rfl) ?_
              refine lv_if_eq (tgt := 46) hx hb dX10_derive_39 (by decide) (fun c_137 => absurd c_137 (by decide)) (fun c_137 => ?_)
              refine lv_iconst (v := nI 1) hx hb dX10_derive_42 (by decide +kernel) ?_
              refine lv_goto (tgt := 60) hx hb dX10_derive_43 (by decide) ?_
              refine m_put (D := (dC, dI)) (v := .int (nI 1)) (tv := .int) (C := RX10) (T := TX10) (N := 29) hx hb hts bk0 tyX10 tyX10_ok nmX10 hown hK hP hD hS 0 (by decide) r_3 rfl 0 (by decide) (hts (.fieldLink RX10 78 "GradientDeskModel" "thrown" "I") (List.mem_of_getElem? (i := 1) rfl)) (fun _ h9 => h9) rfl (by decide +kernel) rfl rfl (Nat.le_of_ble_eq_true rfl) dX10_derive_60 (fun H locs g_138 f_139 fr_140 hP hS => ?_)
              have f_139 : g_138 0 = .inr (13, Rob ad (va_up x 0 (nI 1))) := f_139
              refine lv_aload_n hx hb dX10_derive_63 rfl (lv_at hl 1 rfl) ?_
              refine m_get (D := (dC, dI)) (v := .int (nI 1)) (C := RX10) (T := TX10) (N := 29) hx hb hts bk0 hown hK hP 0 (by decide) f_139 rfl 0 (by decide) (hts (.fieldLink RX10 78 "GradientDeskModel" "thrown" "I") (List.mem_of_getElem? (i := 1) rfl)) (fun _ h9 => h9) (congrArg (fun z => some (Value.int z)) (show (va_up x 0 (nI 1)) 0 = (nI 1) from rfl)) dX10_derive_64 ?_
              refine lv_if_le (tgt := 72) hx hb dX10_derive_67 (by decide) (fun c_141 => absurd c_141 (by decide)) (fun c_141 => ?_)
              refine lv_iconst (v := nI 0) hx hb dX10_derive_70 (by decide +kernel) ?_
              refine W.widen (k := 0) (n := 0) (by omega) (by omega) ?_
              exact W.iret (v := nI 0) hx hb hr (fun t9 ht9 hW9 => ⟨⟨nI 0, (g_138, va_up x 0 (nI 1), L, nm), rfl, ⟨RI.num hI0 (hF0.setx (fun (k : Nat) (hk : k = 1 ∨ k = 2 ∨ k = 3) => (fr_140 k (by omega)).trans (rfl)) f_139 rfl) (fun (k : Nat) (hk : (4 ≤ k ∧ k ≤ 11) ∨ k = 16) => (fr_140 k (by omega)).trans (rfl)) (hVO0.same (fun (k : Nat) (hk : 12 ≤ k ∧ k ≤ 19) => (fr_140 k (by omega)).trans (rfl))) (va_up_ne _ _ (by decide)) (va_up_ne _ _ (by decide)) (va_up_ne _ _ (by decide)) (fun _ _ => ⟨rfl, rfl⟩) hBd, (va_up_ne _ _ (by decide)), Or.inl ⟨by omega, va_up_self _ _ _, rfl, rfl, rfl⟩⟩, by show va_P (dC, dI) vwCl _ t9.heap; rw [ht9]; exact hP⟩, hS.F ht9⟩) hS.2.2 dX10_derive_71
end
section
/-! writing: a list of signs laid from a place on, as far as there is room -/
def dwr (f : Nat → Int) (n : Nat) : List Int → (Nat → Int)
  | [] => f
  | a :: q => dwr (if n < 250 then va_up f n a else f) (n + 1) q
theorem dwr_app : ∀ (a b : List Int) (f : Nat → Int) (n : Nat), dwr f n (a ++ b) = dwr (dwr f n a) (n + a.length) b := by
  intro a
  induction a with
  | nil => intro b f n; rfl
  | cons v a ih =>
    intro b f n
    show dwr _ (n + 1) (a ++ b) = dwr (dwr _ (n + 1) a) (n + (a.length + 1)) b
    rw [ih, show n + 1 + a.length = n + (a.length + 1) by omega]
theorem dwr_get : ∀ (a : List Int) (f : Nat → Int) (n j : Nat), (j < n → dwr f n a j = f j) ∧ (n ≤ j → j < 250 → dwr f n a j = if j - n < a.length then a.getD (j - n) 0 else f j) := by
  intro a
  induction a with
  | nil => intro f n j; exact ⟨fun _ => rfl, fun _ _ => (if_neg (show ¬ j - n < ([] : List Int).length from Nat.not_lt_zero _)).symm⟩
  | cons v a ih =>
    intro f n j
    obtain ⟨i1, i2⟩ := ih (if n < 250 then va_up f n v else f) (n + 1) j
    constructor
    · intro h
      show dwr _ (n + 1) a j = f j
      rw [i1 (by omega)]
      split
      · exact va_up_ne _ _ (by omega)
      · rfl
    · intro h1 h2
      show dwr _ (n + 1) a j = _
      by_cases h : j = n
      · subst h
        rw [i1 (by omega), if_pos h2, va_up_self, Nat.sub_self, if_pos (show 0 < (v :: a).length from Nat.succ_pos _)]; rfl
      · rw [i2 (by omega) h2, if_pos (show n < 250 by omega), va_up_ne _ _ h]
        have e : j - n = (j - (n + 1)) + 1 := by omega
        rw [e]
        show _ = if j - (n + 1) + 1 < a.length + 1 then _ else _
        by_cases h3 : j - (n + 1) < a.length
        · rw [if_pos h3, if_pos (by omega)]; rfl
        · rw [if_neg h3, if_neg (by omega)]
/-! decimal digits -/
def dgs (v : Nat) : Nat → List Int
  | 0 => []
  | n + 1 => (48 + ((v / 10 ^ n % 10 : Nat) : Int)) :: dgs v n
theorem dgs_len (v : Nat) : ∀ n, (dgs v n).length = n := by
  intro n
  induction n with
  | zero => rfl
  | succ n ih => show (dgs v n).length + 1 = n + 1; rw [ih]
def isND (v n : Nat) : Prop := 1 ≤ n ∧ v / 10 ^ n = 0 ∧ (n = 1 ∨ v / 10 ^ (n - 1) ≠ 0)
theorem nd_uq {v n k : Nat} (h1 : isND v n) (h2 : isND v k) : n = k := by
  have key : ∀ a b, isND v a → isND v b → ¬ a < b := by
    intro a b ha hb hl
    rcases hb.2.2 with h | h
    · have := ha.1; omega
    · apply h
      apply Nat.div_eq_of_lt
      have h3 : v < 10 ^ a := by
        rcases Nat.lt_or_ge v (10 ^ a) with h9 | h9
        · exact h9
        · have := Nat.div_pos h9 (Nat.pow_pos (by decide)); have := ha.2.1; omega
      exact Nat.lt_of_lt_of_le h3 (Nat.pow_le_pow_right (by decide) (by omega))
  have a1 := key n k h1 h2
  have a2 := key k n h2 h1
  omega
theorem dgt_d10 (v k : Nat) : dgt (v / 10) k = (v / 4294967296 ^ (k + 1) % 10 * 4294967296 + dgt v k) / 10 ∧ v / 4294967296 ^ k % 10 = (v / 4294967296 ^ (k + 1) % 10 * 4294967296 + dgt v k) % 10 := by
  have e1 : v / 4294967296 ^ (k + 1) = v / 4294967296 ^ k / 4294967296 := by rw [Nat.pow_succ, Nat.div_div_eq_div_mul]
  have e2 : v / 10 / 4294967296 ^ k = v / 4294967296 ^ k / 10 := by rw [Nat.div_div_eq_div_mul, Nat.div_div_eq_div_mul, Nat.mul_comm]
  unfold dgt
  rw [e1, e2]
  generalize v / 4294967296 ^ k = X
  omega
theorem k_or32 {a b : Nat} (hb : b < 4294967296) : a * 4294967296 ||| b = a * 4294967296 + b := by
  have := Nat.shiftLeft_add_eq_or_of_lt (show b < 2 ^ 32 from hb) a
  rw [Nat.shiftLeft_eq] at this
  exact this.symm
theorem k_d410 {v n : Nat} (hv : v < 2 ^ 410) (h : v / 10 ^ n ≠ 0) : n < 130 := by
  rcases Nat.lt_or_ge n 130 with h9 | h9
  · exact h9
  · exfalso
    apply h
    apply Nat.div_eq_of_lt
    have h1 : 10 ^ 130 ≤ 10 ^ n := Nat.pow_le_pow_right (by decide) h9
    have h2 : 2 ^ 410 < 10 ^ 130 := by decide +kernel
    omega
theorem dv_s {v n : Nat} : v / 10 ^ (n + 1) = v / 10 ^ n / 10 := by rw [Nat.pow_succ, Nat.div_div_eq_div_mul]
/-! what a part is written as -/
def ndg (v : Nat) : Nat := if v < 10 then 1 else ndg (v / 10) + 1
decreasing_by omega
theorem ndg_is : ∀ v, isND v (ndg v) := by
  intro v
  induction v using Nat.strongRecOn with
  | ind v ih =>
    rw [ndg]
    by_cases h : v < 10
    · rw [if_pos h]; exact ⟨Nat.le_refl _, by rw [Nat.pow_one]; exact Nat.div_eq_of_lt h, Or.inl rfl⟩
    · rw [if_neg h]
      obtain ⟨h1, h2, h3⟩ := ih (v / 10) (by omega)
      have e : ∀ n, v / 10 ^ (n + 1) = v / 10 / 10 ^ n := fun n => by rw [Nat.pow_succ, Nat.mul_comm, Nat.div_div_eq_div_mul]
      refine ⟨by omega, by rw [e]; exact h2, Or.inr ?_⟩
      rw [Nat.add_sub_cancel]
      rcases h3 with h3 | h3
      · rw [h3, Nat.pow_one]; omega
      · rw [show ndg (v / 10) = (ndg (v / 10) - 1) + 1 by omega, e]; exact h3
def decL (v : Nat) : List Int := dgs v (ndg v)
theorem decL_of {v n : Nat} (h : isND v n) : dgs v n = decL v := by unfold decL; rw [nd_uq h (ndg_is v)]
theorem decL_len {v n : Nat} (h : isND v n) : (decL v).length = n := by rw [← decL_of h, dgs_len]
def ptL (d : PD) : List Int := if d.1 = 0 then ((if d.2.2.2.2.2.2.1 < 0 then [45] else []) ++ decL d.2.2.2.2.2.2.1.natAbs) ++ (if d.2.2.2.2.2.2.2 = 1 then [] else 47 :: decL d.2.2.2.2.2.2.2) else [97 + d.2.1]
end
