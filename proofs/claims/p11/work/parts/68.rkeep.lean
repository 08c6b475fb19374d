def wd_X10_areSame : List Cond := .code yX10_areSame cX10_areSame 3 (some .boolean) :: (([.fieldLink RX10 18 "GradientDeskModel" "below" "[Z", .methodLink RX10 100 yX10_compareSizes, .instanceMethod yX10_compareSizes, .selects RX10 yX10_compareSizes yX10_compareSizes, .initialized RX10] : List Cond) ++ (u_ws RX10 TX10 29 ++ (wd_X10_compareSizes ++ ([]))))
theorem gw_X10_areSame : wd_X10_areSame.all goodWord = true := k_allc rfl (k_all (by decide +kernel) (k_all (gu_X10) (k_all (gw_X10_compareSizes) (rfl))))
set_option maxHeartbeats 4000000 in
set_option maxRecDepth 100000 in
theorem c_X10_areSame (l : Launch) (dC : Nat → ClassId) (dI : Nat → Nat → Nat) (A : Nat → Prop) (ad : Nat → Nat) (cA : Nat → ClassId) (g : Nat → va_E) (x : Nat → Int32) (pf : Nat → Int) (qf : Nat → Nat) (a : Nat) (b : Nat) (hF : RF ad cA g x pf qf) (ia : a < 1030) (ib : b < 1030) : Met l yX10_areSame wd_X10_areSame ({ frames := 40, cells := 0, slots := 0, locals := 800 }) (va_Pc [.ref (ad 0), .int (nI a), .int (nI b)] (PR NSr tyr dC dI A ad cA g)) (va_Qi (fun (r : Int32) => fun (u : Unit) => match u with | () => (r = nI 1 ∧ pf a = pf b ∧ qf a = qf b) ∨ (r = nI 0 ∧ ¬ (pf a = pf b ∧ qf a = qf b))) (fun (u : Unit) (t : State) => va_P (dC, dI) vwCl (wo ad NSr g) t.heap) A) (0) (0) A := by
  refine Met.ofW (cc := cX10_areSame) (maxL := 3) (ret := (some .boolean)) (by decide) rfl ?_
  intro p e s m args below meth c s₁ B hml hv
  obtain ⟨rfl, hA, hP, hL⟩ := hv
  have hx := B.exec
  have hb := B.bytes
  have hr := B.returns
  have hts := atoms_spec (ws := wd_X10_areSame) B.pre
  have hown : s.vm.findClass RX10 = some m.cls := findClass_of_methodNamed B.named
  have hlocks := B.notSynchronized
  have hK := hL.1
  have hD : ∀ g, va_D A (wo ad NSr g) := fun g => wo_D hL.2.1 hL.2.2 g
  have hS : va_S A s.heap s.heap [] := va_S.rf
  have bk0 : ∀ w ∈ u_ws RX10 TX10 29, w ∈ wd_X10_areSame := fun _ h => List.mem_cons_of_mem _ (List.mem_append_right _ (List.mem_append_left _ h))
  have bk1 : ∀ w ∈ wd_X10_compareSizes, w ∈ wd_X10_areSame := fun _ h => List.mem_cons_of_mem _ (List.mem_append_right _ (List.mem_append_right _ (List.mem_append_left _ h)))
  have hl := lv_entry ([.ref (ad 0), .int (nI a), .int (nI b)]) (n := 3) (Nat.le_of_ble_eq_true rfl)
  rw [lg_entry_eq]
  generalize (lg_sl ([.ref (ad 0), .int (nI a), .int (nI b)]) ++ List.replicate (3 - (lg_sl ([.ref (ad 0), .int (nI a), .int (nI b)])).length) Slot.unset).toArray = ls at hl ⊢
  have hl : lv_has ls 3 [(0, .ref (ad 0)), (1, .int (nI a)), (2, .int (nI b))] := hl
  have hF0 := hF
  obtain ⟨vf, hV, hq⟩ := hF
  have hc_1 := hV
  obtain ⟨pnz_2, lnz_2, bnz_2, hRz_2, hvz_2⟩ := hc_1
  obtain ⟨r_3, r_4, r_5, r_6, r_7, r_8, r_9⟩ := hRz_2
  obtain ⟨a1, a2, a3⟩ := hq a ia
  have sa := (hvz_2 (2 * a) (by omega)).2.2
  have ta := r_9 (2 * a)
  obtain ⟨b1, b2, b3⟩ := hq b ib
  have sb := (hvz_2 (2 * b) (by omega)).2.2
  have tb := r_9 (2 * b)
  refine lv_aload_n hx hb dX10_areSame_0 rfl (lv_at hl 0 rfl) ?_
  refine m_get (D := (dC, dI)) (v := .ref (ad 3)) (C := RX10) (T := TX10) (N := 29) hx hb hts bk0 hown hK hP 0 (by decide) r_3 rfl 3 (by decide) (hts (.fieldLink RX10 18 "GradientDeskModel" "below" "[Z") (List.mem_of_getElem? (i := 1) rfl)) (fun _ h9 => h9) rfl dX10_areSame_1 ?_
  refine lv_iconst (v := nI 2) hx hb dX10_areSame_4 (by decide +kernel) ?_
  refine lv_iload_n hx hb dX10_areSame_5 rfl (lv_at hl 1 rfl) ?_
  refine lv_imul hx hb dX10_areSame_6 ?_
  refine lv_topi (fun x_10 e_11 => ?_)
  obtain rfl : x_10 = nI (2 * a) := e_11.trans (pk_mul 2 a)
  refine m_zald hx hb hK hP 3 (by decide) rfl r_6 (i := 2 * a) (by omega) (by decide) dX10_areSame_7 ?_
  have b_12 := r_9 (2 * a)
  refine lv_aload_n hx hb dX10_areSame_8 rfl (lv_at hl 0 rfl) ?_
  refine m_get (D := (dC, dI)) (v := .ref (ad 3)) (C := RX10) (T := TX10) (N := 29) hx hb hts bk0 hown hK hP 0 (by decide) r_3 rfl 3 (by decide) (hts (.fieldLink RX10 18 "GradientDeskModel" "below" "[Z") (List.mem_of_getElem? (i := 1) rfl)) (fun _ h9 => h9) rfl dX10_areSame_9 ?_
  refine lv_iconst (v := nI 2) hx hb dX10_areSame_12 (by decide +kernel) ?_
  refine lv_iload_n hx hb dX10_areSame_13 rfl (lv_at hl 2 rfl) ?_
  refine lv_imul hx hb dX10_areSame_14 ?_
  refine lv_topi (fun x_13 e_14 => ?_)
  obtain rfl : x_13 = nI (2 * b) := e_14.trans (pk_mul 2 b)
  refine m_zald hx hb hK hP 3 (by decide) rfl r_6 (i := 2 * b) (by omega) (by decide) dX10_areSame_15 ?_
  have b_15 := r_9 (2 * b)
  refine lv_icmp_ne (tgt := 53) hx hb dX10_areSame_16 (by decide) (fun c_16 => ?_) (fun c_16 => ?_)
  · have c_16 := mt (nI_eq (a := (bnz_2 (2 * a))) (b := (bnz_2 (2 * b))) (by omega) (by omega)).mpr c_16
    refine lv_iconst (v := nI 0) hx hb dX10_areSame_53 (by decide +kernel) ?_
    refine W.widen (k := 0) (n := 0) (by omega) (by omega) ?_
    exact W.zret (v := nI 0) hx hb hr (by decide +kernel) (fun t9 ht9 hW9 => ⟨⟨nI 0, (), rfl, Or.inr ⟨rfl, by omega⟩, by show va_P (dC, dI) vwCl _ t9.heap; rw [ht9]; exact hP⟩, hS.F ht9⟩) hS.2.2 dX10_areSame_54
  · have c_16 := (nI_eq (a := (bnz_2 (2 * a))) (b := (bnz_2 (2 * b))) (by omega) (by omega)).mp c_16
    refine lv_aload_n hx hb dX10_areSame_19 rfl (lv_at hl 0 rfl) ?_
    refine lv_iconst (v := nI 2) hx hb dX10_areSame_20 (by decide +kernel) ?_
    refine lv_iload_n hx hb dX10_areSame_21 rfl (lv_at hl 1 rfl) ?_
    refine lv_imul hx hb dX10_areSame_22 ?_
    refine lv_topi (fun x_17 e_18 => ?_)
    obtain rfl : x_17 = nI (2 * a) := e_18.trans (pk_mul 2 a)
    refine lv_iconst (v := nI 2) hx hb dX10_areSame_23 (by decide +kernel) ?_
    refine lv_iload_n hx hb dX10_areSame_24 rfl (lv_at hl 2 rfl) ?_
    refine lv_imul hx hb dX10_areSame_25 ?_
    refine lv_topi (fun x_19 e_20 => ?_)
    obtain rfl : x_19 = nI (2 * b) := e_20.trans (pk_mul 2 b)
    refine va_calli (va_runV (As := [.int (nI (2 * a)), .int (nI (2 * b))]) (rest := []) ⟨hx, hb, hml, hown, hts⟩ (c_X10_compareSizes l dC dI A ad cA g x vf (2 * a) (2 * b) hV (by omega) (by omega)) (cwV 2 hts (goodIn_app (goodIn_r [Cond.methodLink RX10 100 yX10_compareSizes, Cond.instanceMethod yX10_compareSizes, Cond.selects RX10 yX10_compareSizes yX10_compareSizes, Cond.initialized RX10] [2, 3, 4, 5] rfl rfl) (goodIn_sub (fun w9 h9 => bk1 w9 h9) gw_X10_compareSizes)) rfl rfl rfl (by decide +kernel) ⟨Nat.le_of_ble_eq_true rfl, Nat.le_of_ble_eq_true rfl⟩) ⟨fun a U g mk q => ⟨q.1, q.2.1, q.2.2.1, LY.moved (u := U) (U := U.calling g mk a) (Vm.Alike.refl U.vm) q.2.2.2⟩, va_recv hK hP (ci := 13) (q0 := 0) rfl (wo_at (by decide) r_3), fun U hU hW => ⟨rfl, by rw [hU]; exact fun q h => hA q (Nat.le_trans hS.1 h), by rw [hU]; exact hP, LY.moved hW.alike hL⟩⟩ rfl rfl hl.1 rfl (lv_room (Nat.le_of_ble_eq_true rfl)) dX10_areSame_26 ⟨(Nat.le_of_ble_eq_true rfl), (Nat.le_of_ble_eq_true rfl)⟩) hS (fun q _ h => h) (fun q h => h) (fun r_21 u8 t8 H1 locs ht8 hvm8 hw_22 hB hz1 hk1 hS => ?_)
    obtain ⟨⟩ := u8
    try dsimp only at hw_22 hB
    rw [ht8] at hB
    have hP := hB
    generalize H1 = H at hP hS ⊢
    rcases hw_22 with ⟨rfl, hc1⟩ | ⟨rfl, hc1⟩ | ⟨rfl, hc1⟩
    · skip
      refine lv_if_ne (tgt := 53) hx hb dX10_areSame_29 (by decide) (fun c_23 => ?_) (fun c_23 => absurd c_23 (by decide))
      refine lv_iconst (v := nI 0) hx hb dX10_areSame_53 (by decide +kernel) ?_
      refine W.widen (k := 0) (n := 0) (by omega) (by omega) ?_
      exact W.zret (v := nI 0) hx hb hr (by decide +kernel) (fun t9 ht9 hW9 => ⟨⟨nI 0, (), rfl, Or.inr ⟨rfl, by omega⟩, by show va_P (dC, dI) vwCl _ t9.heap; rw [ht9]; exact hP⟩, hS.F ht9⟩) hS.2.2 dX10_areSame_54
    · skip
      refine lv_if_ne (tgt := 53) hx hb dX10_areSame_29 (by decide) (fun c_24 => absurd c_24 (by decide)) (fun c_24 => ?_)
      refine lv_aload_n hx hb dX10_areSame_32 rfl (lv_at hl 0 rfl) ?_
      refine lv_iconst (v := nI 2) hx hb dX10_areSame_33 (by decide +kernel) ?_
      refine lv_iload_n hx hb dX10_areSame_34 rfl (lv_at hl 1 rfl) ?_
      refine lv_imul hx hb dX10_areSame_35 ?_
      refine lv_topi (fun x_25 e_26 => ?_)
      obtain rfl : x_25 = nI (2 * a) := e_26.trans (pk_mul 2 a)
      refine lv_iconst (v := nI 1) hx hb dX10_areSame_36 (by decide +kernel) ?_
      refine lv_iadd hx hb dX10_areSame_37 ?_
      refine lv_topi (fun x_27 e_28 => ?_)
      obtain rfl : x_27 = nI (2 * a + 1) := e_28.trans (nI_add (2 * a) 1)
      refine lv_iconst (v := nI 2) hx hb dX10_areSame_38 (by decide +kernel) ?_
      refine lv_iload_n hx hb dX10_areSame_39 rfl (lv_at hl 2 rfl) ?_
      refine lv_imul hx hb dX10_areSame_40 ?_
      refine lv_topi (fun x_29 e_30 => ?_)
      obtain rfl : x_29 = nI (2 * b) := e_30.trans (pk_mul 2 b)
      refine lv_iconst (v := nI 1) hx hb dX10_areSame_41 (by decide +kernel) ?_
      refine lv_iadd hx hb dX10_areSame_42 ?_
      refine lv_topi (fun x_31 e_32 => ?_)
      obtain rfl : x_31 = nI (2 * b + 1) := e_32.trans (nI_add (2 * b) 1)
      refine va_calli (va_runV (As := [.int (nI (2 * a + 1)), .int (nI (2 * b + 1))]) (rest := []) ⟨hx, hb, hml, hown, hts⟩ (c_X10_compareSizes l dC dI A ad cA g x vf (2 * a + 1) (2 * b + 1) hV (by omega) (by omega)) (cwV 2 hts (goodIn_app (goodIn_r [Cond.methodLink RX10 100 yX10_compareSizes, Cond.instanceMethod yX10_compareSizes, Cond.selects RX10 yX10_compareSizes yX10_compareSizes, Cond.initialized RX10] [2, 3, 4, 5] rfl rfl) (goodIn_sub (fun w9 h9 => bk1 w9 h9) gw_X10_compareSizes)) rfl rfl rfl (by decide +kernel) ⟨Nat.le_of_ble_eq_true rfl, Nat.le_of_ble_eq_true rfl⟩) ⟨fun a U g mk q => ⟨q.1, q.2.1, q.2.2.1, LY.moved (u := U) (U := U.calling g mk a) (Vm.Alike.refl U.vm) q.2.2.2⟩, va_recv hK hP (ci := 13) (q0 := 0) rfl (wo_at (by decide) r_3), fun U hU hW => ⟨rfl, by rw [hU]; exact fun q h => hA q (Nat.le_trans hS.1 h), by rw [hU]; exact hP, LY.moved hW.alike hL⟩⟩ rfl rfl hl.1 rfl (lv_room (Nat.le_of_ble_eq_true rfl)) dX10_areSame_43 ⟨(Nat.le_of_ble_eq_true rfl), (Nat.le_of_ble_eq_true rfl)⟩) hS (fun q _ h => h) (fun q h => h) (fun r_33 u8 t8 H1 locs ht8 hvm8 hw_34 hB hz1 hk1 hS => ?_)
      obtain ⟨⟩ := u8
      try dsimp only at hw_34 hB
      rw [ht8] at hB
      have hP := hB
      generalize H1 = H at hP hS ⊢
      rcases hw_34 with ⟨rfl, hc2⟩ | ⟨rfl, hc2⟩ | ⟨rfl, hc2⟩
      · skip
        refine lv_if_ne (tgt := 53) hx hb dX10_areSame_46 (by decide) (fun c_35 => ?_) (fun c_35 => absurd c_35 (by decide))
        refine lv_iconst (v := nI 0) hx hb dX10_areSame_53 (by decide +kernel) ?_
        refine W.widen (k := 0) (n := 0) (by omega) (by omega) ?_
        exact W.zret (v := nI 0) hx hb hr (by decide +kernel) (fun t9 ht9 hW9 => ⟨⟨nI 0, (), rfl, Or.inr ⟨rfl, by omega⟩, by show va_P (dC, dI) vwCl _ t9.heap; rw [ht9]; exact hP⟩, hS.F ht9⟩) hS.2.2 dX10_areSame_54
      · skip
        refine lv_if_ne (tgt := 53) hx hb dX10_areSame_46 (by decide) (fun c_36 => absurd c_36 (by decide)) (fun c_36 => ?_)
        refine lv_iconst (v := nI 1) hx hb dX10_areSame_49 (by decide +kernel) ?_
        refine lv_goto (tgt := 54) hx hb dX10_areSame_50 (by decide) ?_
        refine W.widen (k := 0) (n := 0) (by omega) (by omega) ?_
        exact W.zret (v := nI 1) hx hb hr (by decide +kernel) (fun t9 ht9 hW9 => ⟨⟨nI 1, (), rfl, Or.inl ⟨rfl, by omega⟩, by show va_P (dC, dI) vwCl _ t9.heap; rw [ht9]; exact hP⟩, hS.F ht9⟩) hS.2.2 dX10_areSame_54
      · skip
        refine lv_if_ne (tgt := 53) hx hb dX10_areSame_46 (by decide) (fun c_37 => ?_) (fun c_37 => absurd c_37 (by decide))
        refine lv_iconst (v := nI 0) hx hb dX10_areSame_53 (by decide +kernel) ?_
        refine W.widen (k := 0) (n := 0) (by omega) (by omega) ?_
        exact W.zret (v := nI 0) hx hb hr (by decide +kernel) (fun t9 ht9 hW9 => ⟨⟨nI 0, (), rfl, Or.inr ⟨rfl, by omega⟩, by show va_P (dC, dI) vwCl _ t9.heap; rw [ht9]; exact hP⟩, hS.F ht9⟩) hS.2.2 dX10_areSame_54
    · skip
      refine lv_if_ne (tgt := 53) hx hb dX10_areSame_29 (by decide) (fun c_38 => ?_) (fun c_38 => absurd c_38 (by decide))
      refine lv_iconst (v := nI 0) hx hb dX10_areSame_53 (by decide +kernel) ?_
      refine W.widen (k := 0) (n := 0) (by omega) (by omega) ?_
      exact W.zret (v := nI 0) hx hb hr (by decide +kernel) (fun t9 ht9 hW9 => ⟨⟨nI 0, (), rfl, Or.inr ⟨rfl, by omega⟩, by show va_P (dC, dI) vwCl _ t9.heap; rw [ht9]; exact hP⟩, hS.F ht9⟩) hS.2.2 dX10_areSame_54
def wd_X10_is : List Cond := .code yX10_is cX10_is 4 (some .boolean) :: (([.fieldLink RX10 14 "GradientDeskModel" "length" "[I", .methodLink RX10 87 yX10_piece, .instanceMethod yX10_piece, .selects RX10 yX10_piece yX10_piece, .initialized RX10, .fieldLink RX10 18 "GradientDeskModel" "below" "[Z"] : List Cond) ++ (u_ws RX10 TX10 29 ++ (wd_X10_piece ++ ([]))))
theorem gw_X10_is : wd_X10_is.all goodWord = true := k_allc rfl (k_all (by decide +kernel) (k_all (gu_X10) (k_all (gw_X10_piece) (rfl))))
set_option maxHeartbeats 4000000 in
set_option maxRecDepth 100000 in
theorem c_X10_is (l : Launch) (dC : Nat → ClassId) (dI : Nat → Nat → Nat) (A : Nat → Prop) (ad : Nat → Nat) (cA : Nat → ClassId) (g : Nat → va_E) (x : Nat → Int32) (pf : Nat → Int) (qf : Nat → Nat) (a : Nat) (v9 : Nat) (hF : RF ad cA g x pf qf) (ia : a < 1030) (hv9 : v9 ≤ 1) : Met l yX10_is wd_X10_is ({ frames := 30, cells := 0, slots := 0, locals := 600 }) (va_Pc [.ref (ad 0), .int (nI a), .long (lN v9)] (PR NSr tyr dC dI A ad cA g)) (va_Qi (fun (r : Int32) => fun (u : Unit) => match u with | () => (r = nI 1 ∧ pf a = (v9 : Int) ∧ qf a = 1) ∨ (r = nI 0 ∧ ¬ (pf a = (v9 : Int) ∧ qf a = 1))) (fun (u : Unit) (t : State) => va_P (dC, dI) vwCl (wo ad NSr g) t.heap) A) (0) (0) A := by
  refine Met.ofW (cc := cX10_is) (maxL := 4) (ret := (some .boolean)) (by decide) rfl ?_
  intro p e s m args below meth c s₁ B hml hv
  obtain ⟨rfl, hA, hP, hL⟩ := hv
  have hx := B.exec
  have hb := B.bytes
  have hr := B.returns
  have hts := atoms_spec (ws := wd_X10_is) B.pre
  have hown : s.vm.findClass RX10 = some m.cls := findClass_of_methodNamed B.named
  have hlocks := B.notSynchronized
  have hK := hL.1
  have hD : ∀ g, va_D A (wo ad NSr g) := fun g => wo_D hL.2.1 hL.2.2 g
  have hS : va_S A s.heap s.heap [] := va_S.rf
  have bk0 : ∀ w ∈ u_ws RX10 TX10 29, w ∈ wd_X10_is := fun _ h => List.mem_cons_of_mem _ (List.mem_append_right _ (List.mem_append_left _ h))
  have bk1 : ∀ w ∈ wd_X10_piece, w ∈ wd_X10_is := fun _ h => List.mem_cons_of_mem _ (List.mem_append_right _ (List.mem_append_right _ (List.mem_append_left _ h)))
  have hl := lv_entry ([.ref (ad 0), .int (nI a), .long (lN v9)]) (n := 4) (Nat.le_of_ble_eq_true rfl)
  rw [lg_entry_eq]
  generalize (lg_sl ([.ref (ad 0), .int (nI a), .long (lN v9)]) ++ List.replicate (4 - (lg_sl ([.ref (ad 0), .int (nI a), .long (lN v9)])).length) Slot.unset).toArray = ls at hl ⊢
  have hl : lv_has ls 4 [(0, .ref (ad 0)), (1, .int (nI a)), (2, .long (lN v9))] := hl
  have hF0 := hF
  obtain ⟨vf, hV, hq⟩ := hF
  have hc_1 := hV
  obtain ⟨pnz_2, lnz_2, bnz_2, hRz_2, hvz_2⟩ := hc_1
  obtain ⟨r_3, r_4, r_5, r_6, r_7, r_8, r_9⟩ := hRz_2
  obtain ⟨a1, a2, a3⟩ := hq a ia
  have a0 := a3.1
  have hn := hvz_2 (2 * a) (by omega)
  have hd := hvz_2 (2 * a + 1) (by omega)
  rw [a1] at hn
  rw [a2] at hd
  have ln9 := hn.1
  have ld9 := hd.1
  have sn9 := hn.2.2
  have tb9 := r_9 (2 * a)
  have zn9 := hn.zero
  have zd9 := hd.zero
  have on9 := k_len1 hn
  have od9 := k_len1 hd
  refine lv_aload_n hx hb dX10_is_0 rfl (lv_at hl 0 rfl) ?_
  refine m_get (D := (dC, dI)) (v := .ref (ad 2)) (C := RX10) (T := TX10) (N := 29) hx hb hts bk0 hown hK hP 0 (by decide) r_3 rfl 2 (by decide) (hts (.fieldLink RX10 14 "GradientDeskModel" "length" "[I") (List.mem_of_getElem? (i := 1) rfl)) (fun _ h9 => h9) rfl dX10_is_1 ?_
  refine lv_iconst (v := nI 2) hx hb dX10_is_4 (by decide +kernel) ?_
  refine lv_iload_n hx hb dX10_is_5 rfl (lv_at hl 1 rfl) ?_
  refine lv_imul hx hb dX10_is_6 ?_
  refine lv_topi (fun x_10 e_11 => ?_)
  obtain rfl : x_10 = nI (2 * a) := e_11.trans (pk_mul 2 a)
  refine lv_iconst (v := nI 1) hx hb dX10_is_7 (by decide +kernel) ?_
  refine lv_iadd hx hb dX10_is_8 ?_
  refine lv_topi (fun x_12 e_13 => ?_)
  obtain rfl : x_12 = nI (2 * a + 1) := e_13.trans (nI_add (2 * a) 1)
  refine m_iald hx hb hK hP 2 (by decide) rfl r_5 (i := 2 * a + 1) (by omega) (by decide) dX10_is_9 ?_
  have b_14 := r_8 (2 * a + 1)
  refine lv_iconst (v := nI 1) hx hb dX10_is_10 (by decide +kernel) ?_
  refine lv_icmp_ne (tgt := 85) hx hb dX10_is_11 (by decide) (fun c_15 => ?_) (fun c_15 => ?_)
  · have c_15 := mt (nI_eq (a := (lnz_2 (2 * a + 1))) (b := 1) (by omega) (by decide)).mpr c_15
    refine lv_iconst (v := nI 0) hx hb dX10_is_85 (by decide +kernel) ?_
    refine W.widen (k := 0) (n := 0) (by omega) (by omega) ?_
    exact W.zret (v := nI 0) hx hb hr (by decide +kernel) (fun t9 ht9 hW9 => ⟨⟨nI 0, (), rfl, Or.inr ⟨rfl, by omega⟩, by show va_P (dC, dI) vwCl _ t9.heap; rw [ht9]; exact hP⟩, hS.F ht9⟩) hS.2.2 dX10_is_86
  · have c_15 := (nI_eq (a := (lnz_2 (2 * a + 1))) (b := 1) (by omega) (by decide)).mp c_15
    refine lv_aload_n hx hb dX10_is_14 rfl (lv_at hl 0 rfl) ?_
    refine lv_iconst (v := nI 2) hx hb dX10_is_15 (by decide +kernel) ?_
    refine lv_iload_n hx hb dX10_is_16 rfl (lv_at hl 1 rfl) ?_
    refine lv_imul hx hb dX10_is_17 ?_
    refine lv_topi (fun x_16 e_17 => ?_)
    obtain rfl : x_16 = nI (2 * a) := e_17.trans (pk_mul 2 a)
    refine lv_iconst (v := nI 1) hx hb dX10_is_18 (by decide +kernel) ?_
    refine lv_iadd hx hb dX10_is_19 ?_
    refine lv_topi (fun x_18 e_19 => ?_)
    obtain rfl : x_18 = nI (2 * a + 1) := e_19.trans (nI_add (2 * a) 1)
    refine lv_iconst (v := nI 0) hx hb dX10_is_20 (by decide +kernel) ?_
    have hR_20 : RN ad cA g x pnz_2 lnz_2 bnz_2 := ⟨r_3, r_4, r_5, r_6, r_7, r_8, r_9⟩
    refine va_calll (va_runV (As := [.int (nI (2 * a + 1)), .int (nI 0)]) (rest := []) ⟨hx, hb, hml, hown, hts⟩ (c_X10_piece l dC dI A ad cA g x pnz_2 lnz_2 bnz_2 (2 * a + 1) 0 hR_20 (by omega) ld9 (by omega)) (cwV 2 hts (goodIn_app (goodIn_r [Cond.methodLink RX10 87 yX10_piece, Cond.instanceMethod yX10_piece, Cond.selects RX10 yX10_piece yX10_piece, Cond.initialized RX10] [2, 3, 4, 5] rfl rfl) (goodIn_sub (fun w9 h9 => bk1 w9 h9) gw_X10_piece)) rfl rfl rfl (by decide +kernel) ⟨Nat.le_of_ble_eq_true rfl, Nat.le_of_ble_eq_true rfl⟩) ⟨fun a U g mk q => ⟨q.1, q.2.1, q.2.2.1, LY.moved (u := U) (U := U.calling g mk a) (Vm.Alike.refl U.vm) q.2.2.2⟩, va_recv hK hP (ci := 13) (q0 := 0) rfl (wo_at (by decide) r_3), fun U hU hW => ⟨rfl, by rw [hU]; exact fun q h => hA q (Nat.le_trans hS.1 h), by rw [hU]; exact hP, LY.moved hW.alike hL⟩⟩ rfl rfl hl.1 rfl (lv_room (Nat.le_of_ble_eq_true rfl)) dX10_is_21 ⟨(Nat.le_of_ble_eq_true rfl), (Nat.le_of_ble_eq_true rfl)⟩) hS (fun q _ h => h) (fun q h => h) (fun r_21 u8 t8 H1 locs ht8 hvm8 hw_22 hB hz1 hk1 hS => ?_)
    obtain ⟨⟩ := u8
    try dsimp only at hw_22 hB
    rw [ht8] at hB
    have hP := hB
    generalize H1 = H at hP hS ⊢
    obtain rfl := hw_22
    rw [show pc9 pnz_2 lnz_2 (2 * a + 1) 0 = dgt ((qf a : Int)).natAbs 0 from hd.pc 0]
    obtain ⟨n_23, hn_23⟩ : ∃ z, z = dgt ((qf a : Int)).natAbs 0 := ⟨_, rfl⟩
    rw [← hn_23]
    rw [dgt_0] at hn_23
    have bn_23 : n_23 < 4294967296 := by rw [hn_23]; exact Nat.mod_lt _ (by decide)
    refine lv_lconst (v := lN 1) hx hb dX10_is_24 (by decide +kernel) ?_
    refine W.lcmp hx hb dX10_is_25 ?_
    refine lv_if_ne (tgt := 85) hx hb dX10_is_26 (by decide) (fun c_24 => ?_) (fun c_24 => ?_)
    · have c_24 := mt (pk_lEQ (a := n_23) (b := 1) (by omega) (by decide)).mpr (mt (k_cmp_eq (lN n_23) (lN 1)).mpr c_24)
      refine lv_iconst (v := nI 0) hx hb dX10_is_85 (by decide +kernel) ?_
      refine W.widen (k := 0) (n := 0) (by omega) (by omega) ?_
      exact W.zret (v := nI 0) hx hb hr (by decide +kernel) (fun t9 ht9 hW9 => ⟨⟨nI 0, (), rfl, Or.inr ⟨rfl, by omega⟩, by show va_P (dC, dI) vwCl _ t9.heap; rw [ht9]; exact hP⟩, hS.F ht9⟩) hS.2.2 dX10_is_86
    · have c_24 := (pk_lEQ (a := n_23) (b := 1) (by omega) (by decide)).mp ((k_cmp_eq (lN n_23) (lN 1)).mp c_24)
      refine lv_aload_n hx hb dX10_is_29 rfl (lv_at hl 0 rfl) ?_
      refine m_get (D := (dC, dI)) (v := .ref (ad 2)) (C := RX10) (T := TX10) (N := 29) hx hb hts bk0 hown hK hP 0 (by decide) r_3 rfl 2 (by decide) (hts (.fieldLink RX10 14 "GradientDeskModel" "length" "[I") (List.mem_of_getElem? (i := 1) rfl)) (fun _ h9 => h9) rfl dX10_is_30 ?_
      refine lv_iconst (v := nI 2) hx hb dX10_is_33 (by decide +kernel) ?_
      refine lv_iload_n hx hb dX10_is_34 rfl (lv_at hl 1 rfl) ?_
      refine lv_imul hx hb dX10_is_35 ?_
      refine lv_topi (fun x_25 e_26 => ?_)
      obtain rfl : x_25 = nI (2 * a) := e_26.trans (pk_mul 2 a)
      refine m_iald hx hb hK hP 2 (by decide) rfl r_5 (i := 2 * a) (by omega) (by decide) dX10_is_36 ?_
      have b_27 := r_8 (2 * a)
      refine lv_lload_n hx hb dX10_is_37 rfl (lv_at hl 2 rfl) ?_
      refine lv_lconst (v := lN 0) hx hb dX10_is_38 (by decide +kernel) ?_
      refine W.lcmp hx hb dX10_is_39 ?_
      refine lv_if_ne (tgt := 47) hx hb dX10_is_40 (by decide) (fun c_28 => ?_) (fun c_28 => ?_)
      · have c_28 := mt (pk_lEQ (a := v9) (b := 0) (by omega) (by decide)).mpr (mt (k_cmp_eq (lN v9) (lN 0)).mpr c_28)
        refine lv_iconst (v := nI 1) hx hb dX10_is_47 (by decide +kernel) ?_
        refine lv_icmp_ne (tgt := 85) hx hb dX10_is_48 (by decide) (fun c_29 => ?_) (fun c_29 => ?_)
        · have c_29 := mt (nI_eq (a := (lnz_2 (2 * a))) (b := 1) (by omega) (by decide)).mpr c_29
          refine lv_iconst (v := nI 0) hx hb dX10_is_85 (by decide +kernel) ?_
          refine W.widen (k := 0) (n := 0) (by omega) (by omega) ?_
          exact W.zret (v := nI 0) hx hb hr (by decide +kernel) (fun t9 ht9 hW9 => ⟨⟨nI 0, (), rfl, Or.inr ⟨rfl, by omega⟩, by show va_P (dC, dI) vwCl _ t9.heap; rw [ht9]; exact hP⟩, hS.F ht9⟩) hS.2.2 dX10_is_86
        · have c_29 := (nI_eq (a := (lnz_2 (2 * a))) (b := 1) (by omega) (by decide)).mp c_29
          refine lv_lload_n hx hb dX10_is_51 rfl (lv_at hl 2 rfl) ?_
          refine lv_lconst (v := lN 0) hx hb dX10_is_52 (by decide +kernel) ?_
          refine W.lcmp hx hb dX10_is_53 ?_
          refine lv_if_eq (tgt := 81) hx hb dX10_is_54 (by decide) (fun c_30 => ?_) (fun c_30 => ?_)
          · have c_30 := (pk_lEQ (a := v9) (b := 0) (by omega) (by decide)).mp ((k_cmp_eq (lN v9) (lN 0)).mp c_30)
            refine lv_iconst (v := nI 1) hx hb dX10_is_81 (by decide +kernel) ?_
            refine lv_goto (tgt := 86) hx hb dX10_is_82 (by decide) ?_
            refine W.widen (k := 0) (n := 0) (by omega) (by omega) ?_
            exact W.zret (v := nI 1) hx hb hr (by decide +kernel) (fun t9 ht9 hW9 => ⟨⟨nI 1, (), rfl, Or.inl ⟨rfl, by omega⟩, by show va_P (dC, dI) vwCl _ t9.heap; rw [ht9]; exact hP⟩, hS.F ht9⟩) hS.2.2 dX10_is_86
          · have c_30 := mt (pk_lEQ (a := v9) (b := 0) (by omega) (by decide)).mpr (mt (k_cmp_eq (lN v9) (lN 0)).mpr c_30)
            refine lv_aload_n hx hb dX10_is_57 rfl (lv_at hl 0 rfl) ?_
            refine lv_iconst (v := nI 2) hx hb dX10_is_58 (by decide +kernel) ?_
            refine lv_iload_n hx hb dX10_is_59 rfl (lv_at hl 1 rfl) ?_
            refine lv_imul hx hb dX10_is_60 ?_
            refine lv_topi (fun x_31 e_32 => ?_)
            obtain rfl : x_31 = nI (2 * a) := e_32.trans (pk_mul 2 a)
            refine lv_iconst (v := nI 0) hx hb dX10_is_61 (by decide +kernel) ?_
            have hR_33 : RN ad cA g x pnz_2 lnz_2 bnz_2 := ⟨r_3, r_4, r_5, r_6, r_7, r_8, r_9⟩
            refine va_calll (va_runV (As := [.int (nI (2 * a)), .int (nI 0)]) (rest := []) ⟨hx, hb, hml, hown, hts⟩ (c_X10_piece l dC dI A ad cA g x pnz_2 lnz_2 bnz_2 (2 * a) 0 hR_33 (by omega) ln9 (by omega)) (cwV 2 hts (goodIn_app (goodIn_r [Cond.methodLink RX10 87 yX10_piece, Cond.instanceMethod yX10_piece, Cond.selects RX10 yX10_piece yX10_piece, Cond.initialized RX10] [2, 3, 4, 5] rfl rfl) (goodIn_sub (fun w9 h9 => bk1 w9 h9) gw_X10_piece)) rfl rfl rfl (by decide +kernel) ⟨Nat.le_of_ble_eq_true rfl, Nat.le_of_ble_eq_true rfl⟩) ⟨fun a U g mk q => ⟨q.1, q.2.1, q.2.2.1, LY.moved (u := U) (U := U.calling g mk a) (Vm.Alike.refl U.vm) q.2.2.2⟩, va_recv hK hP (ci := 13) (q0 := 0) rfl (wo_at (by decide) r_3), fun U hU hW => ⟨rfl, by rw [hU]; exact fun q h => hA q (Nat.le_trans hS.1 h), by rw [hU]; exact hP, LY.moved hW.alike hL⟩⟩ rfl rfl hl.1 rfl (lv_room (Nat.le_of_ble_eq_true rfl)) dX10_is_62 ⟨(Nat.le_of_ble_eq_true rfl), (Nat.le_of_ble_eq_true rfl)⟩) hS (fun q _ h => h) (fun q h => h) (fun r_34 u8 t8 H1 locs ht8 hvm8 hw_35 hB hz1 hk1 hS => ?_)
            obtain ⟨⟩ := u8
            try dsimp only at hw_35 hB
            rw [ht8] at hB
            have hP := hB
            generalize H1 = H at hP hS ⊢
            obtain rfl := hw_35
            rw [show pc9 pnz_2 lnz_2 (2 * a) 0 = dgt (pf a).natAbs 0 from hn.pc 0]
            obtain ⟨n_36, hn_36⟩ : ∃ z, z = dgt (pf a).natAbs 0 := ⟨_, rfl⟩
            rw [← hn_36]
            rw [dgt_0] at hn_36
            have bn_36 : n_36 < 4294967296 := by rw [hn_36]; exact Nat.mod_lt _ (by decide)
            refine lv_lload_n hx hb dX10_is_65 rfl (lv_at hl 2 rfl) ?_
            refine W.lcmp hx hb dX10_is_66 ?_
            refine lv_if_ne (tgt := 85) hx hb dX10_is_67 (by decide) (fun c_37 => ?_) (fun c_37 => ?_)
            · have c_37 := mt (pk_lEQ (a := n_36) (b := v9) (by omega) (by omega)).mpr (mt (k_cmp_eq (lN n_36) (lN v9)).mpr c_37)
              refine lv_iconst (v := nI 0) hx hb dX10_is_85 (by decide +kernel) ?_
              refine W.widen (k := 0) (n := 0) (by omega) (by omega) ?_
              exact W.zret (v := nI 0) hx hb hr (by decide +kernel) (fun t9 ht9 hW9 => ⟨⟨nI 0, (), rfl, Or.inr ⟨rfl, by omega⟩, by show va_P (dC, dI) vwCl _ t9.heap; rw [ht9]; exact hP⟩, hS.F ht9⟩) hS.2.2 dX10_is_86
            · have c_37 := (pk_lEQ (a := n_36) (b := v9) (by omega) (by omega)).mp ((k_cmp_eq (lN n_36) (lN v9)).mp c_37)
              refine lv_aload_n hx hb dX10_is_70 rfl (lv_at hl 0 rfl) ?_
              refine m_get (D := (dC, dI)) (v := .ref (ad 3)) (C := RX10) (T := TX10) (N := 29) hx hb hts bk0 hown hK hP 0 (by decide) r_3 rfl 3 (by decide) (hts (.fieldLink RX10 18 "GradientDeskModel" "below" "[Z") (List.mem_of_getElem? (i := 6) rfl)) (fun _ h9 => h9) rfl dX10_is_71 ?_
              refine lv_iconst (v := nI 2) hx hb dX10_is_74 (by decide +kernel) ?_
              refine lv_iload_n hx hb dX10_is_75 rfl (lv_at hl 1 rfl) ?_
              refine lv_imul hx hb dX10_is_76 ?_
              refine lv_topi (fun x_38 e_39 => ?_)
              obtain rfl : x_38 = nI (2 * a) := e_39.trans (pk_mul 2 a)
              refine m_zald hx hb hK hP 3 (by decide) rfl r_6 (i := 2 * a) (by omega) (by decide) dX10_is_77 ?_
              have b_40 := r_9 (2 * a)
              refine lv_if_ne (tgt := 85) hx hb dX10_is_78 (by decide) (fun c_41 => ?_) (fun c_41 => ?_)
              · have c_41 := mt (nI_eq (a := (bnz_2 (2 * a))) (b := 0) (by omega) (by decide)).mpr c_41
                refine lv_iconst (v := nI 0) hx hb dX10_is_85 (by decide +kernel) ?_
                refine W.widen (k := 0) (n := 0) (by omega) (by omega) ?_
                exact W.zret (v := nI 0) hx hb hr (by decide +kernel) (fun t9 ht9 hW9 => ⟨⟨nI 0, (), rfl, Or.inr ⟨rfl, by omega⟩, by show va_P (dC, dI) vwCl _ t9.heap; rw [ht9]; exact hP⟩, hS.F ht9⟩) hS.2.2 dX10_is_86
              · have c_41 := (nI_eq (a := (bnz_2 (2 * a))) (b := 0) (by omega) (by decide)).mp c_41
                refine lv_iconst (v := nI 1) hx hb dX10_is_81 (by decide +kernel) ?_
                refine lv_goto (tgt := 86) hx hb dX10_is_82 (by decide) ?_
                refine W.widen (k := 0) (n := 0) (by omega) (by omega) ?_
                exact W.zret (v := nI 1) hx hb hr (by decide +kernel) (fun t9 ht9 hW9 => ⟨⟨nI 1, (), rfl, Or.inl ⟨rfl, by omega⟩, by show va_P (dC, dI) vwCl _ t9.heap; rw [ht9]; exact hP⟩, hS.F ht9⟩) hS.2.2 dX10_is_86
      · have c_28 := (pk_lEQ (a := v9) (b := 0) (by omega) (by decide)).mp ((k_cmp_eq (lN v9) (lN 0)).mp c_28)
        refine lv_iconst (v := nI 0) hx hb dX10_is_43 (by decide +kernel) ?_
        refine lv_goto (tgt := 48) hx hb dX10_is_44 (by decide) ?_
        refine lv_icmp_ne (tgt := 85) hx hb dX10_is_48 (by decide) (fun c_42 => ?_) (fun c_42 => ?_)
        · have c_42 := mt (nI_eq (a := (lnz_2 (2 * a))) (b := 0) (by omega) (by decide)).mpr c_42
          refine lv_iconst (v := nI 0) hx hb dX10_is_85 (by decide +kernel) ?_
          refine W.widen (k := 0) (n := 0) (by omega) (by omega) ?_
          exact W.zret (v := nI 0) hx hb hr (by decide +kernel) (fun t9 ht9 hW9 => ⟨⟨nI 0, (), rfl, Or.inr ⟨rfl, by omega⟩, by show va_P (dC, dI) vwCl _ t9.heap; rw [ht9]; exact hP⟩, hS.F ht9⟩) hS.2.2 dX10_is_86
        · have c_42 := (nI_eq (a := (lnz_2 (2 * a))) (b := 0) (by omega) (by decide)).mp c_42
          refine lv_lload_n hx hb dX10_is_51 rfl (lv_at hl 2 rfl) ?_
          refine lv_lconst (v := lN 0) hx hb dX10_is_52 (by decide +kernel) ?_
          refine W.lcmp hx hb dX10_is_53 ?_
          refine lv_if_eq (tgt := 81) hx hb dX10_is_54 (by decide) (fun c_43 => ?_) (fun c_43 => ?_)
          · have c_43 := (pk_lEQ (a := v9) (b := 0) (by omega) (by decide)).mp ((k_cmp_eq (lN v9) (lN 0)).mp c_43)
            refine lv_iconst (v := nI 1) hx hb dX10_is_81 (by decide +kernel) ?_
            refine lv_goto (tgt := 86) hx hb dX10_is_82 (by decide) ?_
            refine W.widen (k := 0) (n := 0) (by omega) (by omega) ?_
            exact W.zret (v := nI 1) hx hb hr (by decide +kernel) (fun t9 ht9 hW9 => ⟨⟨nI 1, (), rfl, Or.inl ⟨rfl, by omega⟩, by show va_P (dC, dI) vwCl _ t9.heap; rw [ht9]; exact hP⟩, hS.F ht9⟩) hS.2.2 dX10_is_86
          · have c_43 := mt (pk_lEQ (a := v9) (b := 0) (by omega) (by decide)).mpr (mt (k_cmp_eq (lN v9) (lN 0)).mpr c_43)
            refine lv_aload_n hx hb dX10_is_57 rfl (lv_at hl 0 rfl) ?_
            refine lv_iconst (v := nI 2) hx hb dX10_is_58 (by decide +kernel) ?_
            refine lv_iload_n hx hb dX10_is_59 rfl (lv_at hl 1 rfl) ?_
            refine lv_imul hx hb dX10_is_60 ?_
            refine lv_topi (fun x_44 e_45 => ?_)
            obtain rfl : x_44 = nI (2 * a) := e_45.trans (pk_mul 2 a)
            refine lv_iconst (v := nI 0) hx hb dX10_is_61 (by decide +kernel) ?_
            have hR_46 : RN ad cA g x pnz_2 lnz_2 bnz_2 := ⟨r_3, r_4, r_5, r_6, r_7, r_8, r_9⟩
            refine va_calll (va_runV (As := [.int (nI (2 * a)), .int (nI 0)]) (rest := []) ⟨hx, hb, hml, hown, hts⟩ (c_X10_piece l dC dI A ad cA g x pnz_2 lnz_2 bnz_2 (2 * a) 0 hR_46 (by omega) ln9 (by omega)) (cwV 2 hts (goodIn_app (goodIn_r [Cond.methodLink RX10 87 yX10_piece, Cond.instanceMethod yX10_piece, Cond.selects RX10 yX10_piece yX10_piece, Cond.initialized RX10] [2, 3, 4, 5] rfl rfl) (goodIn_sub (fun w9 h9 => bk1 w9 h9) gw_X10_piece)) rfl rfl rfl (by decide +kernel) ⟨Nat.le_of_ble_eq_true rfl, Nat.le_of_ble_eq_true rfl⟩) ⟨fun a U g mk q => ⟨q.1, q.2.1, q.2.2.1, LY.moved (u := U) (U := U.calling g mk a) (Vm.Alike.refl U.vm) q.2.2.2⟩, va_recv hK hP (ci := 13) (q0 := 0) rfl (wo_at (by decide) r_3), fun U hU hW => ⟨rfl, by rw [hU]; exact fun q h => hA q (Nat.le_trans hS.1 h), by rw [hU]; exact hP, LY.moved hW.alike hL⟩⟩ rfl rfl hl.1 rfl (lv_room (Nat.le_of_ble_eq_true rfl)) dX10_is_62 ⟨(Nat.le_of_ble_eq_true rfl), (Nat.le_of_ble_eq_true rfl)⟩) hS (fun q _ h => h) (fun q h => h) (fun r_47 u8 t8 H1 locs ht8 hvm8 hw_48 hB hz1 hk1 hS => ?_)
            obtain ⟨⟩ := u8
            try dsimp only at hw_48 hB
            rw [ht8] at hB
            have hP := hB
            generalize H1 = H at hP hS ⊢
            obtain rfl := hw_48
            rw [show pc9 pnz_2 lnz_2 (2 * a) 0 = dgt (pf a).natAbs 0 from hn.pc 0]
            obtain ⟨n_49, hn_49⟩ : ∃ z, z = dgt (pf a).natAbs 0 := ⟨_, rfl⟩
            rw [← hn_49]
            rw [dgt_0] at hn_49
            have bn_49 : n_49 < 4294967296 := by rw [hn_49]; exact Nat.mod_lt _ (by decide)
            refine lv_lload_n hx hb dX10_is_65 rfl (lv_at hl 2 rfl) ?_
            refine W.lcmp hx hb dX10_is_66 ?_
            refine lv_if_ne (tgt := 85) hx hb dX10_is_67 (by decide) (fun c_50 => ?_) (fun c_50 => ?_)
            · have c_50 := mt (pk_lEQ (a := n_49) (b := v9) (by omega) (by omega)).mpr (mt (k_cmp_eq (lN n_49) (lN v9)).mpr c_50)
              refine lv_iconst (v := nI 0) hx hb dX10_is_85 (by decide +kernel) ?_
              refine W.widen (k := 0) (n := 0) (by omega) (by omega) ?_
              exact W.zret (v := nI 0) hx hb hr (by decide +kernel) (fun t9 ht9 hW9 => ⟨⟨nI 0, (), rfl, Or.inr ⟨rfl, by omega⟩, by show va_P (dC, dI) vwCl _ t9.heap; rw [ht9]; exact hP⟩, hS.F ht9⟩) hS.2.2 dX10_is_86
            · have c_50 := (pk_lEQ (a := n_49) (b := v9) (by omega) (by omega)).mp ((k_cmp_eq (lN n_49) (lN v9)).mp c_50)
              refine lv_aload_n hx hb dX10_is_70 rfl (lv_at hl 0 rfl) ?_
              refine m_get (D := (dC, dI)) (v := .ref (ad 3)) (C := RX10) (T := TX10) (N := 29) hx hb hts bk0 hown hK hP 0 (by decide) r_3 rfl 3 (by decide) (hts (.fieldLink RX10 18 "GradientDeskModel" "below" "[Z") (List.mem_of_getElem? (i := 6) rfl)) (fun _ h9 => h9) rfl dX10_is_71 ?_
              refine lv_iconst (v := nI 2) hx hb dX10_is_74 (by decide +kernel) ?_
              refine lv_iload_n hx hb dX10_is_75 rfl (lv_at hl 1 rfl) ?_
              refine lv_imul hx hb dX10_is_76 ?_
              refine lv_topi (fun x_51 e_52 => ?_)
              obtain rfl : x_51 = nI (2 * a) := e_52.trans (pk_mul 2 a)
              refine m_zald hx hb hK hP 3 (by decide) rfl r_6 (i := 2 * a) (by omega) (by decide) dX10_is_77 ?_
              have b_53 := r_9 (2 * a)
              refine lv_if_ne (tgt := 85) hx hb dX10_is_78 (by decide) (fun c_54 => ?_) (fun c_54 => ?_)
              · have c_54 := mt (nI_eq (a := (bnz_2 (2 * a))) (b := 0) (by omega) (by decide)).mpr c_54
                refine lv_iconst (v := nI 0) hx hb dX10_is_85 (by decide +kernel) ?_
                refine W.widen (k := 0) (n := 0) (by omega) (by omega) ?_
                exact W.zret (v := nI 0) hx hb hr (by decide +kernel) (fun t9 ht9 hW9 => ⟨⟨nI 0, (), rfl, Or.inr ⟨rfl, by omega⟩, by show va_P (dC, dI) vwCl _ t9.heap; rw [ht9]; exact hP⟩, hS.F ht9⟩) hS.2.2 dX10_is_86
              · have c_54 := (nI_eq (a := (bnz_2 (2 * a))) (b := 0) (by omega) (by decide)).mp c_54
                refine lv_iconst (v := nI 1) hx hb dX10_is_81 (by decide +kernel) ?_
                refine lv_goto (tgt := 86) hx hb dX10_is_82 (by decide) ?_
                refine W.widen (k := 0) (n := 0) (by omega) (by omega) ?_
                exact W.zret (v := nI 1) hx hb hr (by decide +kernel) (fun t9 ht9 hW9 => ⟨⟨nI 1, (), rfl, Or.inl ⟨rfl, by omega⟩, by show va_P (dC, dI) vwCl _ t9.heap; rw [ht9]; exact hP⟩, hS.F ht9⟩) hS.2.2 dX10_is_86
