def wd_X10_trimL : List Cond := .code yX10_trim cX10_trim 2 none :: (([.fieldLink RX10 14 "GradientDeskModel" "length" "[I", .fieldLink RX10 8 "GradientDeskModel" "pieces" "[J", .fieldLink RX10 18 "GradientDeskModel" "below" "[Z"] : List Cond) ++ (u_ws RX10 TX10 29 ++ ([])))
theorem gw_X10_trimL : wd_X10_trimL.all goodWord = true := k_allc rfl (k_all (by decide +kernel) (k_all (gu_X10) (rfl)))
set_option maxHeartbeats 4000000 in
set_option maxRecDepth 100000 in
theorem c_X10_trimL (l : Launch) (dC : Nat → ClassId) (dI : Nat → Nat → Nat) (A : Nat → Prop) (ad : Nat → Nat) (cA : Nat → ClassId) (g : Nat → va_E) (x : Nat → Int32) (pn : Nat → Nat) (ln : Nat → Nat) (bn : Nat → Nat) (t : Nat) (hR : RN ad cA g x pn ln bn) (ht : t = 2067) (hl2 : ln t = 2) (hp1 : pn (80 * t + 1) = 0) (hp0 : pn (80 * t) = 1) (hb0 : bn t = 0) : Met l yX10_trim wd_X10_trimL ({ frames := 10, cells := 0, slots := 0, locals := 200 }) (va_Pc [.ref (ad 0), .int (nI t)] (PR NSr tyr dC dI A ad cA g)) (va_Qv (fun (u : Nat → va_E) => match u with | g2 => (∀ k, k ≠ 1 ∧ k ≠ 2 ∧ k ≠ 3 → g2 k = g k) ∧ RN ad cA g2 x pn (va_up ln t 1) (va_up bn t 0)) (fun (u : Nat → va_E) (t : State) => va_P (dC, dI) vwCl (wo ad NSr u) t.heap) A) (0) (0) A := by
  refine Met.ofW (cc := cX10_trim) (maxL := 2) (ret := none) (by decide) rfl ?_
  intro p e s m args below meth c s₁ B hml hv
  obtain ⟨rfl, hA, hP, hL⟩ := hv
  have hx := B.exec
  have hb := B.bytes
  have hr := B.returns
  have hts := atoms_spec (ws := wd_X10_trimL) B.pre
  have hown : s.vm.findClass RX10 = some m.cls := findClass_of_methodNamed B.named
  have hlocks := B.notSynchronized
  have hK := hL.1
  have hD : ∀ g, va_D A (wo ad NSr g) := fun g => wo_D hL.2.1 hL.2.2 g
  have hS : va_S A s.heap s.heap [] := va_S.rf
  have bk0 : ∀ w ∈ u_ws RX10 TX10 29, w ∈ wd_X10_trimL := fun _ h => List.mem_cons_of_mem _ (List.mem_append_right _ (List.mem_append_left _ h))
  have hl := lv_entry ([.ref (ad 0), .int (nI t)]) (n := 2) (Nat.le_of_ble_eq_true rfl)
  rw [lg_entry_eq]
  generalize (lg_sl ([.ref (ad 0), .int (nI t)]) ++ List.replicate (2 - (lg_sl ([.ref (ad 0), .int (nI t)])).length) Slot.unset).toArray = ls at hl ⊢
  have hl : lv_has ls 2 [(0, .ref (ad 0)), (1, .int (nI t))] := hl
  obtain ⟨r0, r1, r2, r3, hpn, hln, hbn⟩ := hR
  refine lv_aload_n hx hb dX10_trim_0 rfl (lv_at hl 0 rfl) ?_
  refine m_get (D := (dC, dI)) (v := .ref (ad 2)) (C := RX10) (T := TX10) (N := 29) hx hb hts bk0 hown hK hP 0 (by decide) r0 rfl 2 (by decide) (hts (.fieldLink RX10 14 "GradientDeskModel" "length" "[I") (List.mem_of_getElem? (i := 1) rfl)) (fun _ h9 => h9) rfl dX10_trim_1 ?_
  refine lv_iload_n hx hb dX10_trim_4 rfl (lv_at hl 1 rfl) ?_
  refine m_iald hx hb hK hP 2 (by decide) rfl r2 (i := t) (by omega) (by decide) dX10_trim_5 ?_
  have b_1 := hln t
  refine lv_topi (fun x_2 e_3 => ?_)
  obtain rfl : x_2 = nI 2 := e_3.trans (congrArg nI hl2)
  refine lv_if_le (tgt := 45) hx hb dX10_trim_6 (by decide) (fun c_4 => absurd c_4 (by decide)) (fun c_4 => ?_)
  refine lv_aload_n hx hb dX10_trim_9 rfl (lv_at hl 0 rfl) ?_
  refine m_get (D := (dC, dI)) (v := .ref (ad 1)) (C := RX10) (T := TX10) (N := 29) hx hb hts bk0 hown hK hP 0 (by decide) r0 rfl 1 (by decide) (hts (.fieldLink RX10 8 "GradientDeskModel" "pieces" "[J") (List.mem_of_getElem? (i := 2) rfl)) (fun _ h9 => h9) rfl dX10_trim_10 ?_
  refine lv_bipush (v := nI 80) hx hb dX10_trim_13 (by decide +kernel) ?_
  refine lv_iload_n hx hb dX10_trim_15 rfl (lv_at hl 1 rfl) ?_
  refine lv_imul hx hb dX10_trim_16 ?_
  refine lv_topi (fun x_5 e_6 => ?_)
  obtain rfl : x_5 = nI (80 * t) := e_6.trans (pk_mul 80 t)
  refine lv_aload_n hx hb dX10_trim_17 rfl (lv_at hl 0 rfl) ?_
  refine m_get (D := (dC, dI)) (v := .ref (ad 2)) (C := RX10) (T := TX10) (N := 29) hx hb hts bk0 hown hK hP 0 (by decide) r0 rfl 2 (by decide) (hts (.fieldLink RX10 14 "GradientDeskModel" "length" "[I") (List.mem_of_getElem? (i := 1) rfl)) (fun _ h9 => h9) rfl dX10_trim_18 ?_
  refine lv_iload_n hx hb dX10_trim_21 rfl (lv_at hl 1 rfl) ?_
  refine m_iald hx hb hK hP 2 (by decide) rfl r2 (i := t) (by omega) (by decide) dX10_trim_22 ?_
  have b_7 := hln t
  refine lv_topi (fun x_8 e_9 => ?_)
  obtain rfl : x_8 = nI 2 := e_9.trans (congrArg nI hl2)
  refine lv_iadd hx hb dX10_trim_23 ?_
  refine lv_topi (fun x_10 e_11 => ?_)
  obtain rfl : x_10 = nI (80 * t + 2) := e_11.trans (nI_add (80 * t) 2)
  refine lv_iconst (v := nI 1) hx hb dX10_trim_24 (by decide +kernel) ?_
  refine lv_isub hx hb dX10_trim_25 ?_
  refine lv_topi (fun x_12 e_13 => ?_)
  obtain rfl : x_12 = nI ((80 * t + 2) - 1) := e_13.trans (pk_sub (show 1 ≤ 80 * t + 2 by omega))
  refine m_lald hx hb hK hP 1 (by decide) rfl r1 (i := (80 * t + 2) - 1) (by omega) (by decide) dX10_trim_26 ?_
  have b_14 := hpn ((80 * t + 2) - 1)
  refine lv_topl (fun y_15 e_16 => ?_)
  obtain rfl : y_15 = lN 0 := e_16.trans (congrArg lN (show pn ((80 * t + 2) - 1) = 0 from hp1))
  refine lv_lconst (v := lN 0) hx hb dX10_trim_27 (by decide +kernel) ?_
  refine W.lcmp hx hb dX10_trim_28 ?_
  refine lv_if_ne (tgt := 45) hx hb dX10_trim_29 (by decide) (fun c_17 => absurd (mt (pk_lEQ (a := 0) (b := 0) (by decide) (by decide)).mpr (mt (k_cmp_eq (lN 0) (lN 0)).mpr c_17)) (by decide)) (fun c_17 => ?_)
  refine lv_aload_n hx hb dX10_trim_32 rfl (lv_at hl 0 rfl) ?_
  refine m_get (D := (dC, dI)) (v := .ref (ad 2)) (C := RX10) (T := TX10) (N := 29) hx hb hts bk0 hown hK hP 0 (by decide) r0 rfl 2 (by decide) (hts (.fieldLink RX10 14 "GradientDeskModel" "length" "[I") (List.mem_of_getElem? (i := 1) rfl)) (fun _ h9 => h9) rfl dX10_trim_33 ?_
  refine lv_iload_n hx hb dX10_trim_36 rfl (lv_at hl 1 rfl) ?_
  refine lv_dup2_11 hx hb dX10_trim_37 rfl rfl ?_
  refine m_iald hx hb hK hP 2 (by decide) rfl r2 (i := t) (by omega) (by decide) dX10_trim_38 ?_
  have b_18 := hln t
  refine lv_topi (fun x_19 e_20 => ?_)
  obtain rfl : x_19 = nI 2 := e_20.trans (congrArg nI hl2)
  refine lv_iconst (v := nI 1) hx hb dX10_trim_39 (by decide +kernel) ?_
  refine lv_isub hx hb dX10_trim_40 ?_
  refine lv_topi (fun x_21 e_22 => ?_)
  obtain rfl : x_21 = nI 1 := e_22.trans (pk_sub (show 1 ≤ 2 by omega))
  refine m_iast hx hb hK hP hD hS 2 (by decide) rfl r2 (i := t) (x := nI 1) (by omega) (by decide) dX10_trim_41 (fun H locs g_23 f_24 fr_25 hP hS => ?_)
  rw [k_updI] at f_24
  have b_26 : ∀ j, (va_up ln t 1) j < 161 := k_up_lt hln (by omega)
  have f_24 : g_23 2 = .inl (cA 2, 2068, .inl (fun j => nI ((va_up ln t 1) j))) := f_24
  refine lv_goto (tgt := 0) hx hb dX10_trim_42 (by decide) ?_
  refine lv_aload_n hx hb dX10_trim_0 rfl (lv_at hl 0 rfl) ?_
  have f_27 : g_23 0 = .inr (13, Rob ad x) := (fr_25 0 (by omega)).trans r0
  refine m_get (D := (dC, dI)) (v := .ref (ad 2)) (C := RX10) (T := TX10) (N := 29) hx hb hts bk0 hown hK hP 0 (by decide) f_27 rfl 2 (by decide) (hts (.fieldLink RX10 14 "GradientDeskModel" "length" "[I") (List.mem_of_getElem? (i := 1) rfl)) (fun _ h9 => h9) rfl dX10_trim_1 ?_
  refine lv_iload_n hx hb dX10_trim_4 rfl (lv_at hl 1 rfl) ?_
  refine m_iald hx hb hK hP 2 (by decide) rfl f_24 (i := t) (by omega) (by decide) dX10_trim_5 ?_
  refine lv_topi (fun x_28 e_29 => ?_)
  obtain rfl : x_28 = nI 1 := e_29.trans (congrArg nI (va_up_self _ _ _))
  have b_30 := b_26 t
  refine lv_if_le (tgt := 45) hx hb dX10_trim_6 (by decide) (fun c_31 => absurd c_31 (by decide)) (fun c_31 => ?_)
  refine lv_aload_n hx hb dX10_trim_9 rfl (lv_at hl 0 rfl) ?_
  refine m_get (D := (dC, dI)) (v := .ref (ad 1)) (C := RX10) (T := TX10) (N := 29) hx hb hts bk0 hown hK hP 0 (by decide) f_27 rfl 1 (by decide) (hts (.fieldLink RX10 8 "GradientDeskModel" "pieces" "[J") (List.mem_of_getElem? (i := 2) rfl)) (fun _ h9 => h9) rfl dX10_trim_10 ?_
  refine lv_bipush (v := nI 80) hx hb dX10_trim_13 (by decide +kernel) ?_
  refine lv_iload_n hx hb dX10_trim_15 rfl (lv_at hl 1 rfl) ?_
  refine lv_imul hx hb dX10_trim_16 ?_
  refine lv_topi (fun x_32 e_33 => ?_)
  obtain rfl : x_32 = nI (80 * t) := e_33.trans (pk_mul 80 t)
  refine lv_aload_n hx hb dX10_trim_17 rfl (lv_at hl 0 rfl) ?_
  refine m_get (D := (dC, dI)) (v := .ref (ad 2)) (C := RX10) (T := TX10) (N := 29) hx hb hts bk0 hown hK hP 0 (by decide) f_27 rfl 2 (by decide) (hts (.fieldLink RX10 14 "GradientDeskModel" "length" "[I") (List.mem_of_getElem? (i := 1) rfl)) (fun _ h9 => h9) rfl dX10_trim_18 ?_
  refine lv_iload_n hx hb dX10_trim_21 rfl (lv_at hl 1 rfl) ?_
  refine m_iald hx hb hK hP 2 (by decide) rfl f_24 (i := t) (by omega) (by decide) dX10_trim_22 ?_
  refine lv_topi (fun x_34 e_35 => ?_)
  obtain rfl : x_34 = nI 1 := e_35.trans (congrArg nI (va_up_self _ _ _))
  have b_36 := b_26 t
  refine lv_iadd hx hb dX10_trim_23 ?_
  refine lv_topi (fun x_37 e_38 => ?_)
  obtain rfl : x_37 = nI (80 * t + 1) := e_38.trans (nI_add (80 * t) 1)
  refine lv_iconst (v := nI 1) hx hb dX10_trim_24 (by decide +kernel) ?_
  refine lv_isub hx hb dX10_trim_25 ?_
  refine lv_topi (fun x_39 e_40 => ?_)
  obtain rfl : x_39 = nI ((80 * t + 1) - 1) := e_40.trans (pk_sub (show 1 ≤ 80 * t + 1 by omega))
  have f_41 : g_23 1 = .inl (cA 1, 165440, .inr (.inl (fun j => lN (pn j)))) := (fr_25 1 (by omega)).trans r1
  refine m_lald hx hb hK hP 1 (by decide) rfl f_41 (i := (80 * t + 1) - 1) (by omega) (by decide) dX10_trim_26 ?_
  have b_42 := hpn ((80 * t + 1) - 1)
  refine lv_topl (fun y_43 e_44 => ?_)
  obtain rfl : y_43 = lN 1 := e_44.trans (congrArg lN (show pn ((80 * t + 1) - 1) = 1 from hp0))
  refine lv_lconst (v := lN 0) hx hb dX10_trim_27 (by decide +kernel) ?_
  refine W.lcmp hx hb dX10_trim_28 ?_
  refine lv_if_ne (tgt := 45) hx hb dX10_trim_29 (by decide) (fun c_45 => ?_) (fun c_45 => absurd ((pk_lEQ (a := 1) (b := 0) (by decide) (by decide)).mp ((k_cmp_eq (lN 1) (lN 0)).mp c_45)) (by decide))
  refine lv_aload_n hx hb dX10_trim_45 rfl (lv_at hl 0 rfl) ?_
  refine m_get (D := (dC, dI)) (v := .ref (ad 3)) (C := RX10) (T := TX10) (N := 29) hx hb hts bk0 hown hK hP 0 (by decide) f_27 rfl 3 (by decide) (hts (.fieldLink RX10 18 "GradientDeskModel" "below" "[Z") (List.mem_of_getElem? (i := 3) rfl)) (fun _ h9 => h9) rfl dX10_trim_46 ?_
  refine lv_iload_n hx hb dX10_trim_49 rfl (lv_at hl 1 rfl) ?_
  refine lv_aload_n hx hb dX10_trim_50 rfl (lv_at hl 0 rfl) ?_
  refine m_get (D := (dC, dI)) (v := .ref (ad 3)) (C := RX10) (T := TX10) (N := 29) hx hb hts bk0 hown hK hP 0 (by decide) f_27 rfl 3 (by decide) (hts (.fieldLink RX10 18 "GradientDeskModel" "below" "[Z") (List.mem_of_getElem? (i := 3) rfl)) (fun _ h9 => h9) rfl dX10_trim_51 ?_
  refine lv_iload_n hx hb dX10_trim_54 rfl (lv_at hl 1 rfl) ?_
  have f_46 : g_23 3 = .inl (cA 3, 2068, .inl (fun j => nI (bn j))) := (fr_25 3 (by omega)).trans r3
  refine m_zald hx hb hK hP 3 (by decide) rfl f_46 (i := t) (by omega) (by decide) dX10_trim_55 ?_
  have b_47 := hbn t
  refine lv_topi (fun x_48 e_49 => ?_)
  obtain rfl : x_48 = nI 0 := e_49.trans (congrArg nI hb0)
  refine lv_if_eq (tgt := 72) hx hb dX10_trim_56 (by decide) (fun c_50 => ?_) (fun c_50 => absurd c_50 (by decide))
  refine lv_iconst (v := nI 0) hx hb dX10_trim_72 (by decide +kernel) ?_
  refine m_zast hx hb hK hP hD hS 3 (by decide) rfl f_46 (i := t) (x := nI 0) (y := nI 0) (by decide +kernel) (by omega) (by decide) dX10_trim_73 (fun H locs g_51 f_52 fr_53 hP hS => ?_)
  rw [k_updI] at f_52
  have b_54 : ∀ j, (va_up bn t 0) j < 2 := k_up_lt hbn (by omega)
  have f_52 : g_51 3 = .inl (cA 3, 2068, .inl (fun j => nI ((va_up bn t 0) j))) := f_52
  have f_55 : g_51 0 = .inr (13, Rob ad x) := (fr_53 0 (by omega)).trans f_27
  have f_56 : g_51 1 = .inl (cA 1, 165440, .inr (.inl (fun j => lN (pn j)))) := (fr_53 1 (by omega)).trans f_41
  have f_57 : g_51 2 = .inl (cA 2, 2068, .inl (fun j => nI ((va_up ln t 1) j))) := (fr_53 2 (by omega)).trans f_24
  refine W.widen (k := 0) (n := 0) (by omega) (by omega) ?_
  exact W.vret hx hb hr (fun t9 ht9 hW9 => ⟨⟨g_51, rfl, ⟨(fun (k : Nat) (hk : k ≠ 1 ∧ k ≠ 2 ∧ k ≠ 3) => (fr_53 k (by omega)).trans ((fr_25 k (by omega)).trans (rfl))), ⟨f_55, f_56, f_57, f_52, hpn, b_26, b_54⟩⟩, by show va_P (dC, dI) vwCl _ t9.heap; rw [ht9]; exact hP⟩, hS.F ht9⟩) hS.2.2 dX10_trim_74
def wd_X10_asgL : List Cond := .code yX10_assign cX10_assign 6 none :: (([.fieldLink RX10 8 "GradientDeskModel" "pieces" "[J", .constantLong RX10 81 (4294967295), .fieldLink RX10 14 "GradientDeskModel" "length" "[I", .fieldLink RX10 18 "GradientDeskModel" "below" "[Z", .methodLink RX10 83 yX10_trim, .instanceMethod yX10_trim, .selects RX10 yX10_trim yX10_trim, .initialized RX10] : List Cond) ++ (u_ws RX10 TX10 29 ++ (wd_X10_trimL ++ ([]))))
theorem gw_X10_asgL : wd_X10_asgL.all goodWord = true := k_allc rfl (k_all (by decide +kernel) (k_all (gu_X10) (k_all (gw_X10_trimL) (rfl))))
set_option maxHeartbeats 4000000 in
set_option maxRecDepth 100000 in
theorem c_X10_asgL (l : Launch) (dC : Nat → ClassId) (dI : Nat → Nat → Nat) (A : Nat → Prop) (ad : Nat → Nat) (cA : Nat → ClassId) (g : Nat → va_E) (x : Nat → Int32) (vf : Nat → Int) (t : Nat) (hV : RV ad cA g x vf) (ht : t = 2067) : Met l yX10_assign wd_X10_asgL ({ frames := 20, cells := 0, slots := 0, locals := 400 }) (va_Pc [.ref (ad 0), .int (nI t), .long (lN 1)] (PR NSr tyr dC dI A ad cA g)) (va_Qv (fun (u : Nat → va_E) => match u with | g2 => (∀ k, k ≠ 1 ∧ k ≠ 2 ∧ k ≠ 3 → g2 k = g k) ∧ RV ad cA g2 x vf) (fun (u : Nat → va_E) (t : State) => va_P (dC, dI) vwCl (wo ad NSr u) t.heap) A) (0) (0) A := by
  refine Met.ofW (cc := cX10_assign) (maxL := 6) (ret := none) (by decide) rfl ?_
  intro p e s m args below meth c s₁ B hml hv
  obtain ⟨rfl, hA, hP, hL⟩ := hv
  have hx := B.exec
  have hb := B.bytes
  have hr := B.returns
  have hts := atoms_spec (ws := wd_X10_asgL) B.pre
  have hown : s.vm.findClass RX10 = some m.cls := findClass_of_methodNamed B.named
  have hlocks := B.notSynchronized
  have hK := hL.1
  have hD : ∀ g, va_D A (wo ad NSr g) := fun g => wo_D hL.2.1 hL.2.2 g
  have hS : va_S A s.heap s.heap [] := va_S.rf
  have bk0 : ∀ w ∈ u_ws RX10 TX10 29, w ∈ wd_X10_asgL := fun _ h => List.mem_cons_of_mem _ (List.mem_append_right _ (List.mem_append_left _ h))
  have bk1 : ∀ w ∈ wd_X10_trimL, w ∈ wd_X10_asgL := fun _ h => List.mem_cons_of_mem _ (List.mem_append_right _ (List.mem_append_right _ (List.mem_append_left _ h)))
  have hl := lv_entry ([.ref (ad 0), .int (nI t), .long (lN 1)]) (n := 6) (Nat.le_of_ble_eq_true rfl)
  rw [lg_entry_eq]
  generalize (lg_sl ([.ref (ad 0), .int (nI t), .long (lN 1)]) ++ List.replicate (6 - (lg_sl ([.ref (ad 0), .int (nI t), .long (lN 1)])).length) Slot.unset).toArray = ls at hl ⊢
  have hl : lv_has ls 6 [(0, .ref (ad 0)), (1, .int (nI t)), (2, .long (lN 1))] := hl
  obtain ⟨pn, ln, bn, ⟨r0, r1, r2, r3, hpn, hln, hbn⟩, hv⟩ := hV
  refine lv_lload_n hx hb dX10_assign_0 rfl (lv_at hl 2 rfl) ?_
  refine lv_lconst (v := lN 0) hx hb dX10_assign_1 (by decide +kernel) ?_
  refine W.lcmp hx hb dX10_assign_2 ?_
  refine lv_if_ge (tgt := 11) hx hb dX10_assign_3 (by decide) (fun c_1 => ?_) (fun c_1 => absurd (mt (pk_lLE (a := 0) (b := 1) (by decide) (by decide)).mpr (mt (k_cmp_ge (lN 1) (lN 0)).mpr c_1)) (by decide))
  refine lv_lload_n hx hb dX10_assign_11 rfl (lv_at hl 2 rfl) ?_
  refine lv_lstore (lv' := [(4, .long (lN 1)), (0, .ref (ad 0)), (1, .int (nI t)), (2, .long (lN 1))]) hx hb dX10_assign_12 hl (by decide) rfl (fun ls hl => ?_)
  refine lv_aload_n hx hb dX10_assign_14 rfl (lv_at hl 1 rfl) ?_
  refine m_get (D := (dC, dI)) (v := .ref (ad 1)) (C := RX10) (T := TX10) (N := 29) hx hb hts bk0 hown hK hP 0 (by decide) r0 rfl 1 (by decide) (hts (.fieldLink RX10 8 "GradientDeskModel" "pieces" "[J") (List.mem_of_getElem? (i := 1) rfl)) (fun _ h9 => h9) rfl dX10_assign_15 ?_
  refine lv_bipush (v := nI 80) hx hb dX10_assign_18 (by decide +kernel) ?_
  refine lv_iload_n hx hb dX10_assign_20 rfl (lv_at hl 2 rfl) ?_
  refine lv_imul hx hb dX10_assign_21 ?_
  refine lv_topi (fun x_2 e_3 => ?_)
  obtain rfl : x_2 = nI (80 * t) := e_3.trans (pk_mul 80 t)
  refine lv_lload hx hb dX10_assign_22 (lv_at hl 0 rfl) ?_
  refine lv_ldc2 (v := 4294967295) hx hb hown (hts (.constantLong RX10 81 (4294967295)) (List.mem_of_getElem? (i := 2) rfl)) dX10_assign_24 ?_
  refine lv_topl (fun y_4 e_5 => ?_)
  obtain rfl : y_4 = lN 4294967295 := e_5
  refine lv_land hx hb dX10_assign_27 ?_
  refine lv_topl (fun y_6 e_7 => ?_)
  obtain rfl : y_6 = lN 1 := e_7.trans (g_mask (a := 1) (s := 32) (p := 4294967296) (by decide) (by decide) (by omega))
  refine m_last hx hb hK hP hD hS 1 (by decide) rfl r1 (i := 80 * t) (x := lN 1) (by omega) (by decide) dX10_assign_28 (fun H locs g_8 f_9 fr_10 hP hS => ?_)
  rw [k_updL] at f_9
  have b_11 : ∀ j, (va_up pn (80 * t) 1) j < 4294967296 := k_up_lt hpn (by omega)
  have f_9 : g_8 1 = .inl (cA 1, 165440, .inr (.inl (fun j => lN ((va_up pn (80 * t) 1) j)))) := f_9
  refine lv_aload_n hx hb dX10_assign_29 rfl (lv_at hl 1 rfl) ?_
  have f_12 : g_8 0 = .inr (13, Rob ad x) := (fr_10 0 (by omega)).trans r0
  refine m_get (D := (dC, dI)) (v := .ref (ad 1)) (C := RX10) (T := TX10) (N := 29) hx hb hts bk0 hown hK hP 0 (by decide) f_12 rfl 1 (by decide) (hts (.fieldLink RX10 8 "GradientDeskModel" "pieces" "[J") (List.mem_of_getElem? (i := 1) rfl)) (fun _ h9 => h9) rfl dX10_assign_30 ?_
  refine lv_bipush (v := nI 80) hx hb dX10_assign_33 (by decide +kernel) ?_
  refine lv_iload_n hx hb dX10_assign_35 rfl (lv_at hl 2 rfl) ?_
  refine lv_imul hx hb dX10_assign_36 ?_
  refine lv_topi (fun x_13 e_14 => ?_)
  obtain rfl : x_13 = nI (80 * t) := e_14.trans (pk_mul 80 t)
  refine lv_iconst (v := nI 1) hx hb dX10_assign_37 (by decide +kernel) ?_
  refine lv_iadd hx hb dX10_assign_38 ?_
  refine lv_topi (fun x_15 e_16 => ?_)
  obtain rfl : x_15 = nI (80 * t + 1) := e_16.trans (nI_add (80 * t) 1)
  refine lv_lload hx hb dX10_assign_39 (lv_at hl 0 rfl) ?_
  refine lv_bipush (v := nI 32) hx hb dX10_assign_41 (by decide +kernel) ?_
  refine lv_lushr hx hb dX10_assign_43 rfl ?_
  refine lv_topl (fun y_17 e_18 => ?_)
  obtain rfl : y_17 = lN 0 := e_18.trans ((wb_shr (n := 1) (k := 32) (by omega) (by decide)).trans rfl)
  refine m_last hx hb hK hP hD hS 1 (by decide) rfl f_9 (i := 80 * t + 1) (x := lN 0) (by omega) (by decide) dX10_assign_44 (fun H locs g_19 f_20 fr_21 hP hS => ?_)
  rw [k_updL] at f_20
  have b_22 : ∀ j, (va_up (va_up pn (80 * t) 1) (80 * t + 1) 0) j < 4294967296 := k_up_lt b_11 (by omega)
  have f_20 : g_19 1 = .inl (cA 1, 165440, .inr (.inl (fun j => lN ((va_up (va_up pn (80 * t) 1) (80 * t + 1) 0) j)))) := f_20
  refine lv_aload_n hx hb dX10_assign_45 rfl (lv_at hl 1 rfl) ?_
  have f_23 : g_19 0 = .inr (13, Rob ad x) := (fr_21 0 (by omega)).trans f_12
  refine m_get (D := (dC, dI)) (v := .ref (ad 2)) (C := RX10) (T := TX10) (N := 29) hx hb hts bk0 hown hK hP 0 (by decide) f_23 rfl 2 (by decide) (hts (.fieldLink RX10 14 "GradientDeskModel" "length" "[I") (List.mem_of_getElem? (i := 3) rfl)) (fun _ h9 => h9) rfl dX10_assign_46 ?_
  refine lv_iload_n hx hb dX10_assign_49 rfl (lv_at hl 2 rfl) ?_
  refine lv_iconst (v := nI 2) hx hb dX10_assign_50 (by decide +kernel) ?_
  have f_24 : g_19 2 = .inl (cA 2, 2068, .inl (fun j => nI (ln j))) := (fr_21 2 (by omega)).trans ((fr_10 2 (by omega)).trans r2)
  refine m_iast hx hb hK hP hD hS 2 (by decide) rfl f_24 (i := t) (x := nI 2) (by omega) (by decide) dX10_assign_51 (fun H locs g_25 f_26 fr_27 hP hS => ?_)
  rw [k_updI] at f_26
  have b_28 : ∀ j, (va_up ln t 2) j < 161 := k_up_lt hln (by omega)
  have f_26 : g_25 2 = .inl (cA 2, 2068, .inl (fun j => nI ((va_up ln t 2) j))) := f_26
  refine lv_aload_n hx hb dX10_assign_52 rfl (lv_at hl 1 rfl) ?_
  have f_29 : g_25 0 = .inr (13, Rob ad x) := (fr_27 0 (by omega)).trans f_23
  refine m_get (D := (dC, dI)) (v := .ref (ad 3)) (C := RX10) (T := TX10) (N := 29) hx hb hts bk0 hown hK hP 0 (by decide) f_29 rfl 3 (by decide) (hts (.fieldLink RX10 18 "GradientDeskModel" "below" "[Z") (List.mem_of_getElem? (i := 4) rfl)) (fun _ h9 => h9) rfl dX10_assign_53 ?_
  refine lv_iload_n hx hb dX10_assign_56 rfl (lv_at hl 2 rfl) ?_
  refine lv_lload_n hx hb dX10_assign_57 rfl (lv_at hl 3 rfl) ?_
  refine lv_lconst (v := lN 0) hx hb dX10_assign_58 (by decide +kernel) ?_
  refine W.lcmp hx hb dX10_assign_59 ?_
  refine lv_if_ge (tgt := 67) hx hb dX10_assign_60 (by decide) (fun c_30 => ?_) (fun c_30 => absurd (mt (pk_lLE (a := 0) (b := 1) (by decide) (by decide)).mpr (mt (k_cmp_ge (lN 1) (lN 0)).mpr c_30)) (by decide))
  refine lv_iconst (v := nI 0) hx hb dX10_assign_67 (by decide +kernel) ?_
  have f_31 : g_25 3 = .inl (cA 3, 2068, .inl (fun j => nI (bn j))) := (fr_27 3 (by omega)).trans ((fr_21 3 (by omega)).trans ((fr_10 3 (by omega)).trans r3))
  refine m_zast hx hb hK hP hD hS 3 (by decide) rfl f_31 (i := t) (x := nI 0) (y := nI 0) (by decide +kernel) (by omega) (by decide) dX10_assign_68 (fun H locs g_32 f_33 fr_34 hP hS => ?_)
  rw [k_updI] at f_33
  have b_35 : ∀ j, (va_up bn t 0) j < 2 := k_up_lt hbn (by omega)
  have f_33 : g_32 3 = .inl (cA 3, 2068, .inl (fun j => nI ((va_up bn t 0) j))) := f_33
  refine lv_aload_n hx hb dX10_assign_69 rfl (lv_at hl 1 rfl) ?_
  refine lv_iload_n hx hb dX10_assign_70 rfl (lv_at hl 2 rfl) ?_
  have f_36 : g_32 0 = .inr (13, Rob ad x) := (fr_34 0 (by omega)).trans f_29
  have f_37 : g_32 1 = .inl (cA 1, 165440, .inr (.inl (fun j => lN ((va_up (va_up pn (80 * t) 1) (80 * t + 1) 0) j)))) := (fr_34 1 (by omega)).trans ((fr_27 1 (by omega)).trans f_20)
  have f_38 : g_32 2 = .inl (cA 2, 2068, .inl (fun j => nI ((va_up ln t 2) j))) := (fr_34 2 (by omega)).trans f_26
  refine va_callv (va_runV (As := [.int (nI t)]) (rest := []) ⟨hx, hb, hml, hown, hts⟩ (c_X10_trimL l dC dI A ad cA g_32 x (va_up (va_up pn (80 * t) 1) (80 * t + 1) 0) (va_up ln t 2) (va_up bn t 0) t (⟨f_36, f_37, f_38, f_33, b_22, b_28, b_35⟩) ht (va_up_self _ _ _) (va_up_self _ _ _) (by rw [va_up_ne _ _ (by omega), va_up_self]) (va_up_self _ _ _)) (cwV 1 hts (goodIn_app (goodIn_r [Cond.methodLink RX10 83 yX10_trim, Cond.instanceMethod yX10_trim, Cond.selects RX10 yX10_trim yX10_trim, Cond.initialized RX10] [5, 6, 7, 8] rfl rfl) (goodIn_sub (fun w9 h9 => bk1 w9 h9) gw_X10_trimL)) rfl rfl rfl (by decide +kernel) ⟨Nat.le_of_ble_eq_true rfl, Nat.le_of_ble_eq_true rfl⟩) ⟨fun a U g mk q => ⟨q.1, q.2.1, q.2.2.1, LY.moved (u := U) (U := U.calling g mk a) (Vm.Alike.refl U.vm) q.2.2.2⟩, va_recv hK hP (ci := 13) (q0 := 0) rfl (wo_at (by decide) f_36), fun U hU hW => ⟨rfl, by rw [hU]; exact fun q h => hA q (Nat.le_trans hS.1 h), by rw [hU]; exact hP, LY.moved hW.alike hL⟩⟩ rfl rfl hl.1 rfl (lv_room (Nat.le_of_ble_eq_true rfl)) dX10_assign_71 ⟨(Nat.le_of_ble_eq_true rfl), (Nat.le_of_ble_eq_true rfl)⟩) hS (fun q _ h => h) (fun q h => h) (fun u8 t8 H1 locs ht8 hvm8 hw_39 hB hz1 hk1 hS => ?_)
  obtain ⟨g_40, rfl⟩ : ∃ z, z = u8 := ⟨_, rfl⟩
  try dsimp only at hw_39 hB
  rw [ht8] at hB
  have hP := hB
  generalize H1 = H at hP hS ⊢
  obtain ⟨fr_41, hRt⟩ := hw_39
  refine W.widen (k := 0) (n := 0) (by omega) (by omega) ?_
  exact W.vret hx hb hr (fun t9 ht9 hW9 => ⟨⟨g_40, rfl, ⟨(fun (k : Nat) (hk : k ≠ 1 ∧ k ≠ 2 ∧ k ≠ 3) => (fr_41 k (by omega)).trans ((fr_34 k (by omega)).trans ((fr_27 k (by omega)).trans ((fr_21 k (by omega)).trans ((fr_10 k (by omega)).trans (rfl)))))), _, _, _, hRt, fun j hj => (hv j hj).same ⟨by rw [va_up_ne _ _ (by omega), va_up_ne _ _ (by omega)], by rw [va_up_ne _ _ (by omega), va_up_ne _ _ (by omega)], fun k hk => by rw [va_up_ne _ _ (by omega), va_up_ne _ _ (by omega)]⟩⟩, by show va_P (dC, dI) vwCl _ t9.heap; rw [ht9]; exact hP⟩, hS.F ht9⟩) hS.2.2 dX10_assign_74
