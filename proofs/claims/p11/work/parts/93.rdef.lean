def wd_X10_define : List Cond := .code yX10_define cX10_define 4 (some .int) :: (([.fieldLink RX10 78 "GradientDeskModel" "thrown" "I", .fieldLink RX10 25 "GradientDeskModel" "place" "I", .methodLink RX10 248 yX10_isInGrammar, .instanceMethod yX10_isInGrammar, .selects RX10 yX10_isInGrammar yX10_isInGrammar, .initialized RX10, .methodLink RX10 251 yX10_areNamesKnown, .instanceMethod yX10_areNamesKnown, .selects RX10 yX10_areNamesKnown yX10_areNamesKnown, .fieldLink RX10 149 "GradientDeskModel" "made" "I", .fieldLink RX10 146 "GradientDeskModel" "fault" "I", .methodLink RX10 254 yX10_make, .instanceMethod yX10_make, .selects RX10 yX10_make yX10_make, .fieldLink RX10 47 "GradientDeskModel" "names" "[I", .fieldLink RX10 187 "GradientDeskModel" "typed" "I", .fieldLink RX10 184 "GradientDeskModel" "at" "I"] : List Cond) ++ (u_ws RX10 TX10 29 ++ (wd_X10_isInGrammar ++ (wd_X10_areNamesKnown ++ (wd_X10_make ++ ([]))))))
theorem gw_X10_define : wd_X10_define.all goodWord = true := k_allc rfl (k_all (by decide +kernel) (k_all (gu_X10) (k_all (gw_X10_isInGrammar) (k_all (gw_X10_areNamesKnown) (k_all (gw_X10_make) (rfl))))))
set_option maxHeartbeats 4000000 in
set_option maxRecDepth 100000 in
theorem c_X10_define (l : Launch) (dC : Nat → ClassId) (dI : Nat → Nat → Nat) (A : Nat → Prop) (ad : Nat → Nat) (cA : Nat → ClassId) (g : Nat → va_E) (x : Nat → Int32) (L : List PD) (nm : Nat → Int) (tx : Nat → Nat) (ty : Nat) (wr : List Int) (v : Int32) (hI : RIE ad cA g x L nm tx ty wr) : Met l yX10_define wd_X10_define ({ frames := 120, cells := 0, slots := 0, locals := 2400 }) (va_Pc [.ref (ad 0), .int v] (PR NSr tyr dC dI A ad cA g)) (va_Qi (fun (r : Int32) => fun (u : (Nat → va_E) × (Nat → Int32) × (List PD) × (Nat → Int) × Nat) => match u with | (g2, x2, L2, nm2, ty2) => RIE ad cA g2 x2 L2 nm2 tx ty2 wr ∧ DFR tx ty nm L v (x 2) (x2 0) (x2 2) r L2 nm2 ty2) (fun (u : (Nat → va_E) × (Nat → Int32) × (List PD) × (Nat → Int) × Nat) (t : State) => va_P (dC, dI) vwCl (wo ad NSr u.1) t.heap) A) (0) (0) A := by
  refine Met.ofW (cc := cX10_define) (maxL := 4) (ret := (some .int)) (by decide) rfl ?_
  intro p e s m args below meth c s₁ B hml hv
  obtain ⟨rfl, hA, hP, hL⟩ := hv
  have hx := B.exec
  have hb := B.bytes
  have hr := B.returns
  have hts := atoms_spec (ws := wd_X10_define) B.pre
  have hown : s.vm.findClass RX10 = some m.cls := findClass_of_methodNamed B.named
  have hlocks := B.notSynchronized
  have hK := hL.1
  have hD : ∀ g, va_D A (wo ad NSr g) := fun g => wo_D hL.2.1 hL.2.2 g
  have hS : va_S A s.heap s.heap [] := va_S.rf
  have bk0 : ∀ w ∈ u_ws RX10 TX10 29, w ∈ wd_X10_define := fun _ h => List.mem_cons_of_mem _ (List.mem_append_right _ (List.mem_append_left _ h))
  have bk1 : ∀ w ∈ wd_X10_isInGrammar, w ∈ wd_X10_define := fun _ h => List.mem_cons_of_mem _ (List.mem_append_right _ (List.mem_append_right _ (List.mem_append_left _ h)))
  have bk2 : ∀ w ∈ wd_X10_areNamesKnown, w ∈ wd_X10_define := fun _ h => List.mem_cons_of_mem _ (List.mem_append_right _ (List.mem_append_right _ (List.mem_append_right _ (List.mem_append_left _ h))))
  have bk3 : ∀ w ∈ wd_X10_make, w ∈ wd_X10_define := fun _ h => List.mem_cons_of_mem _ (List.mem_append_right _ (List.mem_append_right _ (List.mem_append_right _ (List.mem_append_right _ (List.mem_append_left _ h)))))
  have hl := lv_entry ([.ref (ad 0), .int v]) (n := 4) (Nat.le_of_ble_eq_true rfl)
  rw [lg_entry_eq]
  generalize (lg_sl ([.ref (ad 0), .int v]) ++ List.replicate (4 - (lg_sl ([.ref (ad 0), .int v])).length) Slot.unset).toArray = ls at hl ⊢
  have hl : lv_has ls 4 [(0, .ref (ad 0)), (1, .int v)] := hl
  obtain ⟨pf, qf, pt, hI0⟩ := hI
  have hI1 := hI0
  obtain ⟨hF, hPt, hM, hW, hL2, hmd, hTx, hty, hty2, hwr, hwr2, hVO, hBd⟩ := hI1
  have hVO0 := hVO
  have hPt0 := hPt
  have hTx0 := hTx
  have hF0 := hF
  obtain ⟨vf, hV, hq⟩ := hF
  have hc_1 := hV
  obtain ⟨pnz_2, lnz_2, bnz_2, hRz_2, hvz_2⟩ := hc_1
  obtain ⟨r_3, r_4, r_5, r_6, r_7, r_8, r_9⟩ := hRz_2
  obtain ⟨p_10, p_11, p_12, p_13, p_14, p_15, hpt_16⟩ := hPt
  obtain ⟨t4, t4b, t11, t11b, t11c⟩ := hTx
  obtain ⟨⟨rc, v12, v12b⟩, ⟨f13, v13⟩, ⟨f14, v14⟩, ⟨f15, v15⟩, ⟨f16, v16⟩, ⟨f17, v17⟩, ⟨f18, v18⟩, ⟨f19, v19⟩⟩ := hVO
  refine lv_aload_n hx hb dX10_define_0 rfl (lv_at hl 0 rfl) ?_
  refine lv_iload_n hx hb dX10_define_1 rfl (lv_at hl 1 rfl) ?_
  refine lv_if_lt (tgt := 11) hx hb dX10_define_2 (by decide) (fun c_17 => ?_) (fun c_17 => ?_)
  · have c_17 := (k_lt v (nI 0)).mp c_17
    rw [show (nI 0).toInt = 0 from by decide] at c_17
    refine lv_iconst (v := nI 1) hx hb dX10_define_11 (by decide +kernel) ?_
    refine lv_goto (tgt := 16) hx hb dX10_define_12 (by decide) ?_
    refine m_put (D := (dC, dI)) (v := .int (nI 1)) (tv := .int) (C := RX10) (T := TX10) (N := 29) hx hb hts bk0 tyX10 tyX10_ok nmX10 hown hK hP hD hS 0 (by decide) r_3 rfl 0 (by decide) (hts (.fieldLink RX10 78 "GradientDeskModel" "thrown" "I") (List.mem_of_getElem? (i := 1) rfl)) (fun _ h9 => h9) rfl (by decide +kernel) rfl rfl (Nat.le_of_ble_eq_true rfl) dX10_define_16 (fun H locs g_18 f_19 fr_20 hP hS => ?_)
    have f_19 : g_18 0 = .inr (13, Rob ad (va_up x 0 (nI 1))) := f_19
    refine lv_aload_n hx hb dX10_define_19 rfl (lv_at hl 0 rfl) ?_
    refine m_get (D := (dC, dI)) (v := .int (nI 1)) (C := RX10) (T := TX10) (N := 29) hx hb hts bk0 hown hK hP 0 (by decide) f_19 rfl 0 (by decide) (hts (.fieldLink RX10 78 "GradientDeskModel" "thrown" "I") (List.mem_of_getElem? (i := 1) rfl)) (fun _ h9 => h9) (congrArg (fun z => some (Value.int z)) (show (va_up x 0 (nI 1)) 0 = (nI 1) from rfl)) dX10_define_20 ?_
    refine lv_if_le (tgt := 28) hx hb dX10_define_23 (by decide) (fun c_21 => absurd c_21 (by decide)) (fun c_21 => ?_)
    refine lv_iconst (v := nI 0) hx hb dX10_define_26 (by decide +kernel) ?_
    refine W.widen (k := 0) (n := 0) (by omega) (by omega) ?_
    exact W.iret (v := nI 0) hx hb hr (fun t9 ht9 hW9 => ⟨⟨nI 0, (g_18, va_up x 0 (nI 1), L, nm, ty), rfl, ⟨RI.num hI0 (hF0.setx (fun (k : Nat) (hk : k = 1 ∨ k = 2 ∨ k = 3) => (fr_20 k (by omega)).trans (rfl)) f_19 rfl) (fun (k : Nat) (hk : (4 ≤ k ∧ k ≤ 11) ∨ k = 16) => (fr_20 k (by omega)).trans (rfl)) (hVO0.same (fun (k : Nat) (hk : 12 ≤ k ∧ k ≤ 19) => (fr_20 k (by omega)).trans (rfl))) (va_up_ne _ _ (by decide)) (va_up_ne _ _ (by decide)) (va_up_ne _ _ (by decide)) (fun _ _ => ⟨rfl, rfl⟩) hBd, Or.inl ⟨by omega, va_up_self _ _ _, (va_up_ne _ _ (by decide)), rfl, rfl, rfl, rfl⟩⟩, by show va_P (dC, dI) vwCl _ t9.heap; rw [ht9]; exact hP⟩, hS.F ht9⟩) hS.2.2 dX10_define_27
  · have c_17 := mt (k_lt v (nI 0)).mpr c_17
    rw [show (nI 0).toInt = 0 from by decide] at c_17
    refine lv_iload_n hx hb dX10_define_5 rfl (lv_at hl 1 rfl) ?_
    refine lv_bipush (v := nI 7) hx hb dX10_define_6 (by decide +kernel) ?_
    refine lv_icmp_le (tgt := 15) hx hb dX10_define_8 (by decide) (fun c_22 => ?_) (fun c_22 => ?_)
    · have c_22 := (k_le v (nI 7)).mp c_22
      rw [show (nI 7).toInt = 7 from by decide] at c_22
      refine lv_iconst (v := nI 0) hx hb dX10_define_15 (by decide +kernel) ?_
      refine m_put (D := (dC, dI)) (v := .int (nI 0)) (tv := .int) (C := RX10) (T := TX10) (N := 29) hx hb hts bk0 tyX10 tyX10_ok nmX10 hown hK hP hD hS 0 (by decide) r_3 rfl 0 (by decide) (hts (.fieldLink RX10 78 "GradientDeskModel" "thrown" "I") (List.mem_of_getElem? (i := 1) rfl)) (fun _ h9 => h9) rfl (by decide +kernel) rfl rfl (Nat.le_of_ble_eq_true rfl) dX10_define_16 (fun H locs g_23 f_24 fr_25 hP hS => ?_)
      have f_24 : g_23 0 = .inr (13, Rob ad (va_up x 0 (nI 0))) := f_24
      refine lv_aload_n hx hb dX10_define_19 rfl (lv_at hl 0 rfl) ?_
      refine m_get (D := (dC, dI)) (v := .int (nI 0)) (C := RX10) (T := TX10) (N := 29) hx hb hts bk0 hown hK hP 0 (by decide) f_24 rfl 0 (by decide) (hts (.fieldLink RX10 78 "GradientDeskModel" "thrown" "I") (List.mem_of_getElem? (i := 1) rfl)) (fun _ h9 => h9) (congrArg (fun z => some (Value.int z)) (show (va_up x 0 (nI 0)) 0 = (nI 0) from rfl)) dX10_define_20 ?_
      refine lv_if_le (tgt := 28) hx hb dX10_define_23 (by decide) (fun c_26 => ?_) (fun c_26 => absurd c_26 (by decide))
      obtain ⟨vn, hvn, evn, -⟩ := k_nat (x := v) (by omega)
      subst hvn
      refine lv_aload_n hx hb dX10_define_28 rfl (lv_at hl 0 rfl) ?_
      refine lv_iconst (v := -1) hx hb dX10_define_29 (by decide +kernel) ?_
      refine m_put (D := (dC, dI)) (v := .int (-1)) (tv := .int) (C := RX10) (T := TX10) (N := 29) hx hb hts bk0 tyX10 tyX10_ok nmX10 hown hK hP hD hS 0 (by decide) f_24 rfl 6 (by decide) (hts (.fieldLink RX10 25 "GradientDeskModel" "place" "I") (List.mem_of_getElem? (i := 2) rfl)) (fun _ h9 => h9) rfl (by decide +kernel) rfl rfl (Nat.le_of_ble_eq_true rfl) dX10_define_30 (fun H locs g_27 f_28 fr_29 hP hS => ?_)
      have f_28 : g_27 0 = .inr (13, Rob ad (va_up (va_up x 0 (nI 0)) 2 (-1))) := f_28
      refine lv_aload_n hx hb dX10_define_33 rfl (lv_at hl 0 rfl) ?_
      have f_30 : g_27 4 = .inl (cA 4, 64, .inl (fun j => nI (tx j))) := (fr_29 4 (by omega)).trans ((fr_25 4 (by omega)).trans t4)
      refine va_calli (va_runV (As := []) (rest := []) ⟨hx, hb, hml, hown, hts⟩ (c_X10_isInGrammar l dC dI A ad cA g_27 (va_up (va_up x 0 (nI 0)) 2 (-1)) tx ty f_28 f_30 t4b (show (va_up (va_up x 0 (nI 0)) 2 (-1)) 1 = (nI ty) from (show (va_up x 0 (nI 0)) 1 = (nI ty) from hty)) hty2) (cwV 0 hts (goodIn_app (goodIn_r [Cond.methodLink RX10 248 yX10_isInGrammar, Cond.instanceMethod yX10_isInGrammar, Cond.selects RX10 yX10_isInGrammar yX10_isInGrammar, Cond.initialized RX10] [3, 4, 5, 6] rfl rfl) (goodIn_sub (fun w9 h9 => bk1 w9 h9) gw_X10_isInGrammar)) rfl rfl rfl (by decide +kernel) ⟨Nat.le_of_ble_eq_true rfl, Nat.le_of_ble_eq_true rfl⟩) ⟨fun a U g mk q => ⟨q.1, q.2.1, q.2.2.1, LY.moved (u := U) (U := U.calling g mk a) (Vm.Alike.refl U.vm) q.2.2.2⟩, va_recv hK hP (ci := 13) (q0 := 0) rfl (wo_at (by decide) f_28), fun U hU hW => ⟨rfl, by rw [hU]; exact fun q h => hA q (Nat.le_trans hS.1 h), by rw [hU]; exact hP, LY.moved hW.alike hL⟩⟩ rfl rfl hl.1 rfl (lv_room (Nat.le_of_ble_eq_true rfl)) dX10_define_34 ⟨(Nat.le_of_ble_eq_true rfl), (Nat.le_of_ble_eq_true rfl)⟩) hS (fun q _ h => h) (fun q h => h) (fun r_31 u8 t8 H1 locs ht8 hvm8 hw_32 hB hz1 hk1 hS => ?_)
      obtain ⟨g_33, x2_34⟩ := u8
      try dsimp only at hw_32 hB
      rw [ht8] at hB
      have hP := hB
      generalize H1 = H at hP hS ⊢
      obtain ⟨fr_35, hob1, hp7, hpo, hle, rfl⟩ := hw_32
      have hgl := gram_le (tx := tx) (ty := ty) 65 0 0 1 0
      refine lv_if_ne (tgt := 53) hx hb dX10_define_37 (by decide) (fun c_36 => ?_) (fun c_36 => ?_)
      · have c_36 := mt (nI_eq (a := ((gram tx ty 65 0 0 1 0).1)) (b := 0) (by omega) (by decide)).mpr c_36
        refine lv_aload_n hx hb dX10_define_53 rfl (lv_at hl 0 rfl) ?_
        have f_37 : g_33 4 = .inl (cA 4, 64, .inl (fun j => nI (tx j))) := (fr_35 4 (by omega)).trans f_30
        have f_38 : g_33 11 = .inl (cA 11, 8, .inl (fun j => iI (nm j))) := (fr_35 11 (by omega)).trans ((fr_29 11 (by omega)).trans ((fr_25 11 (by omega)).trans t11))
        refine va_calli (va_runV (As := []) (rest := []) ⟨hx, hb, hml, hown, hts⟩ (c_X10_areNamesKnown l dC dI A ad cA g_33 x2_34 tx ty nm hob1 f_37 t4b ((hpo 1 (by decide)).trans (show (va_up (va_up x 0 (nI 0)) 2 (-1)) 1 = (nI ty) from (show (va_up x 0 (nI 0)) 1 = (nI ty) from hty))) hty2 f_38 t11b) (cwV 0 hts (goodIn_app (goodIn_r [Cond.methodLink RX10 251 yX10_areNamesKnown, Cond.instanceMethod yX10_areNamesKnown, Cond.selects RX10 yX10_areNamesKnown yX10_areNamesKnown, Cond.initialized RX10] [7, 8, 9, 6] rfl rfl) (goodIn_sub (fun w9 h9 => bk2 w9 h9) gw_X10_areNamesKnown)) rfl rfl rfl (by decide +kernel) ⟨Nat.le_of_ble_eq_true rfl, Nat.le_of_ble_eq_true rfl⟩) ⟨fun a U g mk q => ⟨q.1, q.2.1, q.2.2.1, LY.moved (u := U) (U := U.calling g mk a) (Vm.Alike.refl U.vm) q.2.2.2⟩, va_recv hK hP (ci := 13) (q0 := 0) rfl (wo_at (by decide) hob1), fun U hU hW => ⟨rfl, by rw [hU]; exact fun q h => hA q (Nat.le_trans hS.1 h), by rw [hU]; exact hP, LY.moved hW.alike hL⟩⟩ rfl rfl hl.1 rfl (lv_room (Nat.le_of_ble_eq_true rfl)) dX10_define_54 ⟨(Nat.le_of_ble_eq_true rfl), (Nat.le_of_ble_eq_true rfl)⟩) hS (fun q _ h => h) (fun q h => h) (fun r_39 u8 t8 H1 locs ht8 hvm8 hw_40 hB hz1 hk1 hS => ?_)
        obtain ⟨⟩ := u8
        try dsimp only at hw_40 hB
        rw [ht8] at hB
        have hP := hB
        generalize H1 = H at hP hS ⊢
        rcases hw_40 with ⟨rfl, hkn⟩ | ⟨rfl, hkn⟩
        · skip
          refine lv_if_ne (tgt := 66) hx hb dX10_define_57 (by decide) (fun c_41 => ?_) (fun c_41 => absurd c_41 (by decide))
          refine lv_aload_n hx hb dX10_define_66 rfl (lv_at hl 0 rfl) ?_
          refine m_get (D := (dC, dI)) (v := .int (nI L.length)) (C := RX10) (T := TX10) (N := 29) hx hb hts bk0 hown hK hP 0 (by decide) hob1 rfl 13 (by decide) (hts (.fieldLink RX10 149 "GradientDeskModel" "made" "I") (List.mem_of_getElem? (i := 10) rfl)) (fun _ h9 => h9) (congrArg (fun z => some (Value.int z)) ((hpo 3 (by decide)).trans (show (va_up (va_up x 0 (nI 0)) 2 (-1)) 3 = (nI L.length) from (show (va_up x 0 (nI 0)) 3 = (nI L.length) from hmd)))) dX10_define_67 ?_
          refine lv_istore_n (lv' := [(3, .int (nI L.length)), (0, .ref (ad 0)), (1, .int (nI vn))]) hx hb dX10_define_70 rfl hl (by decide) rfl (fun ls hl => ?_)
          refine lv_aload_n hx hb dX10_define_71 rfl (lv_at hl 1 rfl) ?_
          refine lv_iconst (v := nI 0) hx hb dX10_define_72 (by decide +kernel) ?_
          refine m_put (D := (dC, dI)) (v := .int (nI 0)) (tv := .int) (C := RX10) (T := TX10) (N := 29) hx hb hts bk0 tyX10 tyX10_ok nmX10 hown hK hP hD hS 0 (by decide) hob1 rfl 14 (by decide) (hts (.fieldLink RX10 146 "GradientDeskModel" "fault" "I") (List.mem_of_getElem? (i := 11) rfl)) (fun _ h9 => h9) rfl (by decide +kernel) rfl rfl (Nat.le_of_ble_eq_true rfl) dX10_define_73 (fun H locs g_42 f_43 fr_44 hP hS => ?_)
          have f_43 : g_42 0 = .inr (13, Rob ad (va_up x2_34 4 (nI 0))) := f_43
          refine lv_aload_n hx hb dX10_define_76 rfl (lv_at hl 1 rfl) ?_
          have f_45 : g_42 4 = .inl (cA 4, 64, .inl (fun j => nI (tx j))) := (fr_44 4 (by omega)).trans f_37
          have f_46 : g_42 11 = .inl (cA 11, 8, .inl (fun j => iI (nm j))) := (fr_44 11 (by omega)).trans f_38
          have f_47 : g_42 14 = .inl (cA 14, 80, .inl (fun j => iI (f14 j))) := (fr_44 14 (by omega)).trans ((fr_35 14 (by omega)).trans ((fr_29 14 (by omega)).trans ((fr_25 14 (by omega)).trans v14)))
          have f_48 : g_42 15 = .inl (cA 15, 160, .inl (fun j => iI (f15 j))) := (fr_44 15 (by omega)).trans ((fr_35 15 (by omega)).trans ((fr_29 15 (by omega)).trans ((fr_25 15 (by omega)).trans v15)))
          refine va_calli (va_runV (As := []) (rest := []) ⟨hx, hb, hml, hown, hts⟩ (c_X10_make l dC dI A ad cA g_42 (va_up x2_34 4 (nI 0)) pf qf pt L tx ty nm f14 f15 (hF0.setx (fun (k : Nat) (hk : k = 1 ∨ k = 2 ∨ k = 3) => (fr_44 k (by omega)).trans ((fr_35 k (by omega)).trans ((fr_29 k (by omega)).trans ((fr_25 k (by omega)).trans (rfl))))) f_43 rfl) (hPt0.same (fun (k : Nat) (hk : 5 ≤ k ∧ k ≤ 10) => (fr_44 k (by omega)).trans ((fr_35 k (by omega)).trans ((fr_29 k (by omega)).trans ((fr_25 k (by omega)).trans (rfl)))))) hM (show (va_up x2_34 4 (nI 0)) 3 = (nI L.length) from ((hpo 3 (by decide)).trans (show (va_up (va_up x 0 (nI 0)) 2 (-1)) 3 = (nI L.length) from (show (va_up x 0 (nI 0)) 3 = (nI L.length) from hmd)))) hL2 ((va_up_self _ _ _).trans (by decide)) hW f_45 t4b (show (va_up x2_34 4 (nI 0)) 1 = (nI ty) from ((hpo 1 (by decide)).trans (show (va_up (va_up x 0 (nI 0)) 2 (-1)) 1 = (nI ty) from (show (va_up x 0 (nI 0)) 1 = (nI ty) from hty)))) hty2 f_46 t11b t11c f_47 f_48 (by omega) hkn) (cwV 0 hts (goodIn_app (goodIn_r [Cond.methodLink RX10 254 yX10_make, Cond.instanceMethod yX10_make, Cond.selects RX10 yX10_make yX10_make, Cond.initialized RX10] [12, 13, 14, 6] rfl rfl) (goodIn_sub (fun w9 h9 => bk3 w9 h9) gw_X10_make)) rfl rfl rfl (by decide +kernel) ⟨Nat.le_of_ble_eq_true rfl, Nat.le_of_ble_eq_true rfl⟩) ⟨fun a U g mk q => ⟨q.1, q.2.1, q.2.2.1, LY.moved (u := U) (U := U.calling g mk a) (Vm.Alike.refl U.vm) q.2.2.2⟩, va_recv hK hP (ci := 13) (q0 := 0) rfl (wo_at (by decide) f_43), fun U hU hW => ⟨rfl, by rw [hU]; exact fun q h => hA q (Nat.le_trans hS.1 h), by rw [hU]; exact hP, LY.moved hW.alike hL⟩⟩ rfl rfl hl.1 rfl (lv_room (Nat.le_of_ble_eq_true rfl)) dX10_define_77 ⟨(Nat.le_of_ble_eq_true rfl), (Nat.le_of_ble_eq_true rfl)⟩) hS (fun q _ h => h) (fun q h => h) (fun r_49 u8 t8 H1 locs ht8 hvm8 hw_50 hB hz1 hk1 hS => ?_)
          obtain ⟨g_51, x2_52, pt2_53, pf2_54, qf2_55, f2_56, f3_57⟩ := u8
          try dsimp only at hw_50 hB
          rw [ht8] at hB
          have hP := hB
          generalize H1 = H at hP hS ⊢
          obtain ⟨fr_58, hMS, h15n, hans⟩ := hw_50
          obtain ⟨E9, eE9⟩ : ∃ z9, z9 = (exs (emR tx ty nm 65 0 1 []) (0, [], L)) := ⟨_, rfl⟩
          rw [← eE9] at hMS hans
          obtain ⟨sF, sP, sM, sW, sE, sL, s3, sx, so, s4, sr, s14, hMS2⟩ := hMS
          have hob5 := sF.obj
          have hse := sE.1
          have s1 : x2_52 1 = nI ty := (sx 1 (by decide)).trans (show (va_up x2_34 4 (nI 0)) 1 = (nI ty) from ((hpo 1 (by decide)).trans (show (va_up (va_up x 0 (nI 0)) 2 (-1)) 1 = (nI ty) from (show (va_up x 0 (nI 0)) 1 = (nI ty) from hty))))
          have s2 : x2_52 2 = -1 := (sx 2 (by decide)).trans ((va_up_ne _ _ (by decide)).trans ((hpo 2 (by decide)).trans (va_up_self _ _ _)))
          have s0 : x2_52 0 = nI 0 := (sx 0 (by decide)).trans ((va_up_ne _ _ (by decide)).trans ((hpo 0 (by decide)).trans ((va_up_ne _ _ (by decide)).trans (va_up_self _ _ _))))
          have s8 : x2_52 8 = x 8 := (sx 8 (by decide)).trans ((va_up_ne _ _ (by decide)).trans ((hpo 8 (by decide)).trans ((va_up_ne _ _ (by decide)).trans (va_up_ne _ _ (by decide)))))
          rcases hans with ⟨hz, i0, hi0, rfl⟩ | ⟨hz, rfl⟩
          · skip
            have hi9 : i0 < E9.2.2.length := (hMS2 hz).2.2 i0 (by rw [hi0]; exact List.mem_singleton_self _)
            refine lv_istore_n (lv' := [(2, .int (nI i0)), (3, .int (nI L.length)), (0, .ref (ad 0)), (1, .int (nI vn))]) hx hb dX10_define_80 rfl hl (by decide) rfl (fun ls hl => ?_)
            refine lv_aload_n hx hb dX10_define_81 rfl (lv_at hl 2 rfl) ?_
            refine lv_iload_n hx hb dX10_define_82 rfl (lv_at hl 0 rfl) ?_
            refine lv_if_ge (tgt := 90) hx hb dX10_define_83 (by decide) (fun c_59 => ?_) (fun c_59 => absurd (mt (nI_leI (a := 0) (b := i0) (by decide) (by omega)).mpr c_59) (by omega))
            refine lv_aload_n hx hb dX10_define_90 rfl (lv_at hl 2 rfl) ?_
            refine m_get (D := (dC, dI)) (v := .int (nI E9.2.2.length)) (C := RX10) (T := TX10) (N := 29) hx hb hts bk0 hown hK hP 0 (by decide) hob5 rfl 13 (by decide) (hts (.fieldLink RX10 149 "GradientDeskModel" "made" "I") (List.mem_of_getElem? (i := 10) rfl)) (fun _ h9 => h9) (congrArg (fun z => some (Value.int z)) s3) dX10_define_91 ?_
            refine m_put (D := (dC, dI)) (v := .int (nI E9.2.2.length)) (tv := .int) (C := RX10) (T := TX10) (N := 29) hx hb hts bk0 tyX10 tyX10_ok nmX10 hown hK hP hD hS 0 (by decide) hob5 rfl 13 (by decide) (hts (.fieldLink RX10 149 "GradientDeskModel" "made" "I") (List.mem_of_getElem? (i := 10) rfl)) (fun _ h9 => h9) rfl (by decide +kernel) rfl rfl (Nat.le_of_ble_eq_true rfl) dX10_define_94 (fun H locs g_60 f_61 fr_62 hP hS => ?_)
            have f_61 : g_60 0 = .inr (13, Rob ad (va_up x2_52 3 (nI E9.2.2.length))) := f_61
            refine lv_aload_n hx hb dX10_define_97 rfl (lv_at hl 2 rfl) ?_
            refine m_get (D := (dC, dI)) (v := .ref (ad 11)) (C := RX10) (T := TX10) (N := 29) hx hb hts bk0 hown hK hP 0 (by decide) f_61 rfl 15 (by decide) (hts (.fieldLink RX10 47 "GradientDeskModel" "names" "[I") (List.mem_of_getElem? (i := 15) rfl)) (fun _ h9 => h9) rfl dX10_define_98 ?_
            refine lv_iload_n hx hb dX10_define_101 rfl (lv_at hl 3 rfl) ?_
            refine lv_iload_n hx hb dX10_define_102 rfl (lv_at hl 0 rfl) ?_
            refine lv_if_ge (tgt := 115) hx hb dX10_define_103 (by decide) (fun c_63 => ?_) (fun c_63 => absurd (mt (nI_leI (a := 0) (b := i0) (by decide) (by omega)).mpr c_63) (by omega))
            refine lv_iload_n hx hb dX10_define_115 rfl (lv_at hl 0 rfl) ?_
            have f_64 : g_60 11 = .inl (cA 11, 8, .inl (fun j => iI (nm j))) := (fr_62 11 (by omega)).trans ((fr_58 11 (by omega)).trans f_46)
            refine m_iast hx hb hK hP hD hS 11 (by decide) rfl f_64 (i := vn) (x := nI i0) (by omega) (by decide) dX10_define_116 (fun H locs g_65 f_66 fr_67 hP hS => ?_)
            rw [(nI_iI i0), k_updZ] at f_66
            have b_68 : ∀ j, -1 ≤ (va_up nm vn ((i0 : Nat) : Int)) j ∧ (va_up nm vn ((i0 : Nat) : Int)) j ≤ 200 := k_up_in t11b (by omega)
            have f_66 : g_65 11 = .inl (cA 11, 8, .inl (fun j => iI ((va_up nm vn ((i0 : Nat) : Int)) j))) := f_66
            refine lv_aload_n hx hb dX10_define_117 rfl (lv_at hl 2 rfl) ?_
            refine lv_iconst (v := nI 0) hx hb dX10_define_118 (by decide +kernel) ?_
            have f_69 : g_65 0 = .inr (13, Rob ad (va_up x2_52 3 (nI E9.2.2.length))) := (fr_67 0 (by omega)).trans f_61
            refine m_put (D := (dC, dI)) (v := .int (nI 0)) (tv := .int) (C := RX10) (T := TX10) (N := 29) hx hb hts bk0 tyX10 tyX10_ok nmX10 hown hK hP hD hS 0 (by decide) f_69 rfl 5 (by decide) (hts (.fieldLink RX10 187 "GradientDeskModel" "typed" "I") (List.mem_of_getElem? (i := 16) rfl)) (fun _ h9 => h9) rfl (by decide +kernel) rfl rfl (Nat.le_of_ble_eq_true rfl) dX10_define_119 (fun H locs g_70 f_71 fr_72 hP hS => ?_)
            have f_71 : g_70 0 = .inr (13, Rob ad (va_up (va_up x2_52 3 (nI E9.2.2.length)) 1 (nI 0))) := f_71
            refine lv_iload_n hx hb dX10_define_122 rfl (lv_at hl 0 rfl) ?_
            have f_73 : g_70 4 = .inl (cA 4, 64, .inl (fun j => nI (tx j))) := (fr_72 4 (by omega)).trans ((fr_67 4 (by omega)).trans ((fr_62 4 (by omega)).trans ((fr_58 4 (by omega)).trans f_45)))
            have f_74 : g_70 11 = .inl (cA 11, 8, .inl (fun j => iI ((va_up nm vn ((i0 : Nat) : Int)) j))) := (fr_72 11 (by omega)).trans f_66
            have f_75 : g_70 14 = .inl (cA 14, 80, .inl (fun j => iI (f2_56 j))) := (fr_72 14 (by omega)).trans ((fr_67 14 (by omega)).trans ((fr_62 14 (by omega)).trans s14))
            have f_76 : g_70 15 = .inl (cA 15, 160, .inl (fun j => iI (f3_57 j))) := (fr_72 15 (by omega)).trans ((fr_67 15 (by omega)).trans ((fr_62 15 (by omega)).trans h15n))
            have hri : RIE ad cA g_70 (va_up (va_up x2_52 3 (nI E9.2.2.length)) 1 (nI 0)) E9.2.2 (va_up nm vn ((i0 : Nat) : Int)) tx 0 wr := RI.mk9 hI0 (sF.setx (fun (k : Nat) (hk : k = 1 ∨ k = 2 ∨ k = 3) => (fr_72 k (by omega)).trans ((fr_67 k (by omega)).trans ((fr_62 k (by omega)).trans (rfl)))) f_71 rfl) (sP.same (fun (k : Nat) (hk : 5 ≤ k ∧ k ≤ 10) => (fr_72 k (by omega)).trans ((fr_67 k (by omega)).trans ((fr_62 k (by omega)).trans (rfl))))) sM sW sL ((va_up_ne _ _ (by decide)).trans (va_up_self _ _ _)) ⟨f_73, t4b, f_74, b_68, fun j hj => by by_cases h9 : j = vn; rw [h9, va_up_self]; omega; rw [va_up_ne _ _ h9]; exact Int.lt_of_lt_of_le (t11c j hj) (by omega)⟩ (va_up_self _ _ _) (by decide) ((va_up_ne _ _ (by decide)).trans ((va_up_ne _ _ (by decide)).trans s8)) (VO.two hVO0 f_75 f_76 (fun (k : Nat) (hk : k = 12 ∨ k = 13 ∨ (16 ≤ k ∧ k ≤ 19)) => (fr_72 k (by omega)).trans ((fr_67 k (by omega)).trans ((fr_62 k (by omega)).trans ((fr_58 k (by omega)).trans ((fr_44 k (by omega)).trans ((fr_35 k (by omega)).trans ((fr_29 k (by omega)).trans ((fr_25 k (by omega)).trans (rfl)))))))))) (hBd.res (fun r9 h9 => Or.inl (so _ (by omega) (by omega))) (fun v9 h9 => Or.inl (so _ (by omega) (by omega)))) (fun (k : Nat) (hk : k = 16) => (fr_72 k (by omega)).trans ((fr_67 k (by omega)).trans ((fr_62 k (by omega)).trans ((fr_58 k (by omega)).trans ((fr_44 k (by omega)).trans ((fr_35 k (by omega)).trans ((fr_29 k (by omega)).trans ((fr_25 k (by omega)).trans (rfl)))))))))
            refine W.widen (k := 0) (n := 0) (by omega) (by omega) ?_
            exact W.iret (v := nI i0) hx hb hr (fun t9 ht9 hW9 => ⟨⟨nI i0, (g_70, va_up (va_up x2_52 3 (nI E9.2.2.length)) 1 (nI 0), E9.2.2, (va_up nm vn ((i0 : Nat) : Int)), 0), rfl, ⟨hri, Or.inr ⟨(va_up_ne _ _ (by decide)).trans ((va_up_ne _ _ (by decide)).trans s0), rfl, vn, rfl, by omega, Or.inr ⟨by omega, (va_up_ne _ _ (by decide)).trans ((va_up_ne _ _ (by decide)).trans s2), Or.inr ⟨hkn, Or.inr (by rw [← eE9]; exact ⟨hz, i0, hi0, rfl, rfl, rfl⟩)⟩⟩⟩⟩, by show va_P (dC, dI) vwCl _ t9.heap; rw [ht9]; exact hP⟩, hS.F ht9⟩) hS.2.2 dX10_define_123
          · skip
            refine lv_istore_n (lv' := [(2, .int (iI E9.1)), (3, .int (nI L.length)), (0, .ref (ad 0)), (1, .int (nI vn))]) hx hb dX10_define_80 rfl hl (by decide) rfl (fun ls hl => ?_)
            refine lv_aload_n hx hb dX10_define_81 rfl (lv_at hl 2 rfl) ?_
            refine lv_iload_n hx hb dX10_define_82 rfl (lv_at hl 0 rfl) ?_
            refine lv_if_ge (tgt := 90) hx hb dX10_define_83 (by decide) (fun c_77 => absurd ((k_iLE (a := 0) (b := E9.1) (show nI 0 = iI 0 from by decide) rfl (by omega) (by omega)).mp c_77) (by omega)) (fun c_77 => ?_)
            refine lv_iload_n hx hb dX10_define_86 rfl (lv_at hl 1 rfl) ?_
            refine lv_goto (tgt := 94) hx hb dX10_define_87 (by decide) ?_
            refine m_put (D := (dC, dI)) (v := .int (nI L.length)) (tv := .int) (C := RX10) (T := TX10) (N := 29) hx hb hts bk0 tyX10 tyX10_ok nmX10 hown hK hP hD hS 0 (by decide) hob5 rfl 13 (by decide) (hts (.fieldLink RX10 149 "GradientDeskModel" "made" "I") (List.mem_of_getElem? (i := 10) rfl)) (fun _ h9 => h9) rfl (by decide +kernel) rfl rfl (Nat.le_of_ble_eq_true rfl) dX10_define_94 (fun H locs g_78 f_79 fr_80 hP hS => ?_)
            have f_79 : g_78 0 = .inr (13, Rob ad (va_up x2_52 3 (nI L.length))) := f_79
            refine lv_aload_n hx hb dX10_define_97 rfl (lv_at hl 2 rfl) ?_
            refine m_get (D := (dC, dI)) (v := .ref (ad 11)) (C := RX10) (T := TX10) (N := 29) hx hb hts bk0 hown hK hP 0 (by decide) f_79 rfl 15 (by decide) (hts (.fieldLink RX10 47 "GradientDeskModel" "names" "[I") (List.mem_of_getElem? (i := 15) rfl)) (fun _ h9 => h9) rfl dX10_define_98 ?_
            refine lv_iload_n hx hb dX10_define_101 rfl (lv_at hl 3 rfl) ?_
            refine lv_iload_n hx hb dX10_define_102 rfl (lv_at hl 0 rfl) ?_
            refine lv_if_ge (tgt := 115) hx hb dX10_define_103 (by decide) (fun c_81 => absurd ((k_iLE (a := 0) (b := E9.1) (show nI 0 = iI 0 from by decide) rfl (by omega) (by omega)).mp c_81) (by omega)) (fun c_81 => ?_)
            refine lv_aload_n hx hb dX10_define_106 rfl (lv_at hl 2 rfl) ?_
            refine m_get (D := (dC, dI)) (v := .ref (ad 11)) (C := RX10) (T := TX10) (N := 29) hx hb hts bk0 hown hK hP 0 (by decide) f_79 rfl 15 (by decide) (hts (.fieldLink RX10 47 "GradientDeskModel" "names" "[I") (List.mem_of_getElem? (i := 15) rfl)) (fun _ h9 => h9) rfl dX10_define_107 ?_
            refine lv_iload_n hx hb dX10_define_110 rfl (lv_at hl 3 rfl) ?_
            have f_82 : g_78 11 = .inl (cA 11, 8, .inl (fun j => iI (nm j))) := (fr_80 11 (by omega)).trans ((fr_58 11 (by omega)).trans f_46)
            refine m_iald hx hb hK hP 11 (by decide) rfl f_82 (i := vn) (by omega) (by decide) dX10_define_111 ?_
            have b_83 := t11b vn
            refine lv_goto (tgt := 116) hx hb dX10_define_112 (by decide) ?_
            refine m_iast hx hb hK hP hD hS 11 (by decide) rfl f_82 (i := vn) (x := iI (nm vn)) (by omega) (by decide) dX10_define_116 (fun H locs g_84 f_85 fr_86 hP hS => ?_)
            rw [k_updZ] at f_85
            have b_87 : ∀ j, -1 ≤ (va_up nm vn (nm vn)) j ∧ (va_up nm vn (nm vn)) j ≤ 200 := k_up_in t11b (by omega)
            have f_85 : g_84 11 = .inl (cA 11, 8, .inl (fun j => iI ((va_up nm vn (nm vn)) j))) := f_85
            refine lv_aload_n hx hb dX10_define_117 rfl (lv_at hl 2 rfl) ?_
            refine lv_iconst (v := nI 0) hx hb dX10_define_118 (by decide +kernel) ?_
            have f_88 : g_84 0 = .inr (13, Rob ad (va_up x2_52 3 (nI L.length))) := (fr_86 0 (by omega)).trans f_79
            refine m_put (D := (dC, dI)) (v := .int (nI 0)) (tv := .int) (C := RX10) (T := TX10) (N := 29) hx hb hts bk0 tyX10 tyX10_ok nmX10 hown hK hP hD hS 0 (by decide) f_88 rfl 5 (by decide) (hts (.fieldLink RX10 187 "GradientDeskModel" "typed" "I") (List.mem_of_getElem? (i := 16) rfl)) (fun _ h9 => h9) rfl (by decide +kernel) rfl rfl (Nat.le_of_ble_eq_true rfl) dX10_define_119 (fun H locs g_89 f_90 fr_91 hP hS => ?_)
            have f_90 : g_89 0 = .inr (13, Rob ad (va_up (va_up x2_52 3 (nI L.length)) 1 (nI 0))) := f_90
            refine lv_iload_n hx hb dX10_define_122 rfl (lv_at hl 0 rfl) ?_
            have f_92 : g_89 4 = .inl (cA 4, 64, .inl (fun j => nI (tx j))) := (fr_91 4 (by omega)).trans ((fr_86 4 (by omega)).trans ((fr_80 4 (by omega)).trans ((fr_58 4 (by omega)).trans f_45)))
            have f_93 : g_89 11 = .inl (cA 11, 8, .inl (fun j => iI ((va_up nm vn (nm vn)) j))) := (fr_91 11 (by omega)).trans f_85
            have f_94 : g_89 14 = .inl (cA 14, 80, .inl (fun j => iI (f2_56 j))) := (fr_91 14 (by omega)).trans ((fr_86 14 (by omega)).trans ((fr_80 14 (by omega)).trans s14))
            have f_95 : g_89 15 = .inl (cA 15, 160, .inl (fun j => iI (f3_57 j))) := (fr_91 15 (by omega)).trans ((fr_86 15 (by omega)).trans ((fr_80 15 (by omega)).trans h15n))
            have hri : RIE ad cA g_89 (va_up (va_up x2_52 3 (nI L.length)) 1 (nI 0)) L nm tx 0 wr := RI.mk9 hI0 (sF.setx (fun (k : Nat) (hk : k = 1 ∨ k = 2 ∨ k = 3) => (fr_91 k (by omega)).trans ((fr_86 k (by omega)).trans ((fr_80 k (by omega)).trans (rfl)))) f_90 rfl) (sP.same (fun (k : Nat) (hk : 5 ≤ k ∧ k ≤ 10) => (fr_91 k (by omega)).trans ((fr_86 k (by omega)).trans ((fr_80 k (by omega)).trans (rfl))))) (sM.le sE) hW hL2 ((va_up_ne _ _ (by decide)).trans (va_up_self _ _ _)) ⟨f_92, t4b, by rw [f_93, va_upid], t11b, t11c⟩ (va_up_self _ _ _) (by decide) ((va_up_ne _ _ (by decide)).trans ((va_up_ne _ _ (by decide)).trans s8)) (VO.two hVO0 f_94 f_95 (fun (k : Nat) (hk : k = 12 ∨ k = 13 ∨ (16 ≤ k ∧ k ≤ 19)) => (fr_91 k (by omega)).trans ((fr_86 k (by omega)).trans ((fr_80 k (by omega)).trans ((fr_58 k (by omega)).trans ((fr_44 k (by omega)).trans ((fr_35 k (by omega)).trans ((fr_29 k (by omega)).trans ((fr_25 k (by omega)).trans (rfl)))))))))) (hBd.res (fun r9 h9 => Or.inl (so _ (by omega) (by omega))) (fun v9 h9 => Or.inl (so _ (by omega) (by omega)))) (fun (k : Nat) (hk : k = 16) => (fr_91 k (by omega)).trans ((fr_86 k (by omega)).trans ((fr_80 k (by omega)).trans ((fr_58 k (by omega)).trans ((fr_44 k (by omega)).trans ((fr_35 k (by omega)).trans ((fr_29 k (by omega)).trans ((fr_25 k (by omega)).trans (rfl)))))))))
            refine W.widen (k := 0) (n := 0) (by omega) (by omega) ?_
            exact W.iret (v := iI E9.1) hx hb hr (fun t9 ht9 hW9 => ⟨⟨iI E9.1, (g_89, va_up (va_up x2_52 3 (nI L.length)) 1 (nI 0), L, nm, 0), rfl, ⟨hri, Or.inr ⟨(va_up_ne _ _ (by decide)).trans ((va_up_ne _ _ (by decide)).trans s0), rfl, vn, rfl, by omega, Or.inr ⟨by omega, (va_up_ne _ _ (by decide)).trans ((va_up_ne _ _ (by decide)).trans s2), Or.inr ⟨hkn, Or.inl (by rw [← eE9]; exact ⟨hz, rfl, rfl, rfl⟩)⟩⟩⟩⟩, by show va_P (dC, dI) vwCl _ t9.heap; rw [ht9]; exact hP⟩, hS.F ht9⟩) hS.2.2 dX10_define_123
        · skip
          refine lv_if_ne (tgt := 66) hx hb dX10_define_57 (by decide) (fun c_96 => absurd c_96 (by decide)) (fun c_96 => ?_)
          refine lv_bipush (v := -2) hx hb dX10_define_60 (by decide +kernel) ?_
          refine lv_istore_n (lv' := [(2, .int (-2)), (0, .ref (ad 0)), (1, .int (nI vn))]) hx hb dX10_define_62 rfl hl (by decide) rfl (fun ls hl => ?_)
          refine lv_goto (tgt := 117) hx hb dX10_define_63 (by decide) ?_
          refine lv_aload_n hx hb dX10_define_117 rfl (lv_at hl 1 rfl) ?_
          refine lv_iconst (v := nI 0) hx hb dX10_define_118 (by decide +kernel) ?_
          refine m_put (D := (dC, dI)) (v := .int (nI 0)) (tv := .int) (C := RX10) (T := TX10) (N := 29) hx hb hts bk0 tyX10 tyX10_ok nmX10 hown hK hP hD hS 0 (by decide) hob1 rfl 5 (by decide) (hts (.fieldLink RX10 187 "GradientDeskModel" "typed" "I") (List.mem_of_getElem? (i := 16) rfl)) (fun _ h9 => h9) rfl (by decide +kernel) rfl rfl (Nat.le_of_ble_eq_true rfl) dX10_define_119 (fun H locs g_97 f_98 fr_99 hP hS => ?_)
          have f_98 : g_97 0 = .inr (13, Rob ad (va_up x2_34 1 (nI 0))) := f_98
          refine lv_iload_n hx hb dX10_define_122 rfl (lv_at hl 0 rfl) ?_
          have f_100 : g_97 4 = .inl (cA 4, 64, .inl (fun j => nI (tx j))) := (fr_99 4 (by omega)).trans f_37
          have f_101 : g_97 11 = .inl (cA 11, 8, .inl (fun j => iI (nm j))) := (fr_99 11 (by omega)).trans f_38
          have hth : (va_up x2_34 1 (nI 0)) 0 = nI 0 := (va_up_ne _ _ (by decide)).trans ((hpo 0 (by decide)).trans ((va_up_ne _ _ (by decide)).trans (va_up_self _ _ _)))
          have hri : RIE ad cA g_97 (va_up x2_34 1 (nI 0)) L nm tx 0 wr := RI.mk9 hI0 (hF0.setx (fun (k : Nat) (hk : k = 1 ∨ k = 2 ∨ k = 3) => (fr_99 k (by omega)).trans ((fr_35 k (by omega)).trans ((fr_29 k (by omega)).trans ((fr_25 k (by omega)).trans (rfl))))) f_98 rfl) (hPt0.same (fun (k : Nat) (hk : 5 ≤ k ∧ k ≤ 10) => (fr_99 k (by omega)).trans ((fr_35 k (by omega)).trans ((fr_29 k (by omega)).trans ((fr_25 k (by omega)).trans (rfl)))))) hM hW hL2 (((va_up_ne _ _ (by decide)).trans ((hpo 3 (by decide)).trans ((va_up_ne _ _ (by decide)).trans (va_up_ne _ _ (by decide))))).trans hmd) ⟨f_100, t4b, f_101, t11b, t11c⟩ (va_up_self _ _ _) (by decide) ((va_up_ne _ _ (by decide)).trans ((hpo 8 (by decide)).trans ((va_up_ne _ _ (by decide)).trans (va_up_ne _ _ (by decide))))) (hVO0.same (fun (k : Nat) (hk : 12 ≤ k ∧ k ≤ 19) => (fr_99 k (by omega)).trans ((fr_35 k (by omega)).trans ((fr_29 k (by omega)).trans ((fr_25 k (by omega)).trans (rfl)))))) hBd (fun (k : Nat) (hk : k = 16) => (fr_99 k (by omega)).trans ((fr_35 k (by omega)).trans ((fr_29 k (by omega)).trans ((fr_25 k (by omega)).trans (rfl)))))
          refine W.widen (k := 0) (n := 0) (by omega) (by omega) ?_
          exact W.iret (v := -2) hx hb hr (fun t9 ht9 hW9 => ⟨⟨-2, (g_97, va_up x2_34 1 (nI 0), L, nm, 0), rfl, ⟨hri, Or.inr ⟨hth, rfl, vn, rfl, by omega, Or.inr ⟨by omega, (va_up_ne _ _ (by decide)).trans ((hpo 2 (by decide)).trans (va_up_self _ _ _)), Or.inl ⟨hkn, rfl, rfl, rfl⟩⟩⟩⟩, by show va_P (dC, dI) vwCl _ t9.heap; rw [ht9]; exact hP⟩, hS.F ht9⟩) hS.2.2 dX10_define_123
      · have c_36 := (nI_eq (a := ((gram tx ty 65 0 0 1 0).1)) (b := 0) (by omega) (by decide)).mp c_36
        refine lv_aload_n hx hb dX10_define_40 rfl (lv_at hl 0 rfl) ?_
        refine lv_aload_n hx hb dX10_define_41 rfl (lv_at hl 0 rfl) ?_
        refine m_get (D := (dC, dI)) (v := .int (nI ((gram tx ty 65 0 0 1 0).2))) (C := RX10) (T := TX10) (N := 29) hx hb hts bk0 hown hK hP 0 (by decide) hob1 rfl 22 (by decide) (hts (.fieldLink RX10 184 "GradientDeskModel" "at" "I") (List.mem_of_getElem? (i := 17) rfl)) (fun _ h9 => h9) (congrArg (fun z => some (Value.int z)) hp7) dX10_define_42 ?_
        refine m_put (D := (dC, dI)) (v := .int (nI ((gram tx ty 65 0 0 1 0).2))) (tv := .int) (C := RX10) (T := TX10) (N := 29) hx hb hts bk0 tyX10 tyX10_ok nmX10 hown hK hP hD hS 0 (by decide) hob1 rfl 6 (by decide) (hts (.fieldLink RX10 25 "GradientDeskModel" "place" "I") (List.mem_of_getElem? (i := 2) rfl)) (fun _ h9 => h9) rfl (by decide +kernel) rfl rfl (Nat.le_of_ble_eq_true rfl) dX10_define_45 (fun H locs g_102 f_103 fr_104 hP hS => ?_)
        have f_103 : g_102 0 = .inr (13, Rob ad (va_up x2_34 2 (nI ((gram tx ty 65 0 0 1 0).2)))) := f_103
        refine lv_iconst (v := -1) hx hb dX10_define_48 (by decide +kernel) ?_
        refine lv_istore_n (lv' := [(2, .int (-1)), (0, .ref (ad 0)), (1, .int (nI vn))]) hx hb dX10_define_49 rfl hl (by decide) rfl (fun ls hl => ?_)
        refine lv_goto (tgt := 117) hx hb dX10_define_50 (by decide) ?_
        refine lv_aload_n hx hb dX10_define_117 rfl (lv_at hl 1 rfl) ?_
        refine lv_iconst (v := nI 0) hx hb dX10_define_118 (by decide +kernel) ?_
        refine m_put (D := (dC, dI)) (v := .int (nI 0)) (tv := .int) (C := RX10) (T := TX10) (N := 29) hx hb hts bk0 tyX10 tyX10_ok nmX10 hown hK hP hD hS 0 (by decide) f_103 rfl 5 (by decide) (hts (.fieldLink RX10 187 "GradientDeskModel" "typed" "I") (List.mem_of_getElem? (i := 16) rfl)) (fun _ h9 => h9) rfl (by decide +kernel) rfl rfl (Nat.le_of_ble_eq_true rfl) dX10_define_119 (fun H locs g_105 f_106 fr_107 hP hS => ?_)
        have f_106 : g_105 0 = .inr (13, Rob ad (va_up (va_up x2_34 2 (nI ((gram tx ty 65 0 0 1 0).2))) 1 (nI 0))) := f_106
        refine lv_iload_n hx hb dX10_define_122 rfl (lv_at hl 0 rfl) ?_
        have f_108 : g_105 4 = .inl (cA 4, 64, .inl (fun j => nI (tx j))) := (fr_107 4 (by omega)).trans ((fr_104 4 (by omega)).trans ((fr_35 4 (by omega)).trans f_30))
        have f_109 : g_105 11 = .inl (cA 11, 8, .inl (fun j => iI (nm j))) := (fr_107 11 (by omega)).trans ((fr_104 11 (by omega)).trans ((fr_35 11 (by omega)).trans ((fr_29 11 (by omega)).trans ((fr_25 11 (by omega)).trans t11))))
        have hth : (va_up (va_up x2_34 2 (nI ((gram tx ty 65 0 0 1 0).2))) 1 (nI 0)) 0 = nI 0 := (va_up_ne _ _ (by decide)).trans ((va_up_ne _ _ (by decide)).trans ((hpo 0 (by decide)).trans ((va_up_ne _ _ (by decide)).trans (va_up_self _ _ _))))
        have hri : RIE ad cA g_105 (va_up (va_up x2_34 2 (nI ((gram tx ty 65 0 0 1 0).2))) 1 (nI 0)) L nm tx 0 wr := RI.mk9 hI0 (hF0.setx (fun (k : Nat) (hk : k = 1 ∨ k = 2 ∨ k = 3) => (fr_107 k (by omega)).trans ((fr_104 k (by omega)).trans ((fr_35 k (by omega)).trans ((fr_29 k (by omega)).trans ((fr_25 k (by omega)).trans (rfl)))))) f_106 rfl) (hPt0.same (fun (k : Nat) (hk : 5 ≤ k ∧ k ≤ 10) => (fr_107 k (by omega)).trans ((fr_104 k (by omega)).trans ((fr_35 k (by omega)).trans ((fr_29 k (by omega)).trans ((fr_25 k (by omega)).trans (rfl))))))) hM hW hL2 (((va_up_ne _ _ (by decide)).trans ((va_up_ne _ _ (by decide)).trans ((hpo 3 (by decide)).trans ((va_up_ne _ _ (by decide)).trans (va_up_ne _ _ (by decide)))))).trans hmd) ⟨f_108, t4b, f_109, t11b, t11c⟩ (va_up_self _ _ _) (by decide) ((va_up_ne _ _ (by decide)).trans ((va_up_ne _ _ (by decide)).trans ((hpo 8 (by decide)).trans ((va_up_ne _ _ (by decide)).trans (va_up_ne _ _ (by decide)))))) (hVO0.same (fun (k : Nat) (hk : 12 ≤ k ∧ k ≤ 19) => (fr_107 k (by omega)).trans ((fr_104 k (by omega)).trans ((fr_35 k (by omega)).trans ((fr_29 k (by omega)).trans ((fr_25 k (by omega)).trans (rfl))))))) hBd (fun (k : Nat) (hk : k = 16) => (fr_107 k (by omega)).trans ((fr_104 k (by omega)).trans ((fr_35 k (by omega)).trans ((fr_29 k (by omega)).trans ((fr_25 k (by omega)).trans (rfl))))))
        refine W.widen (k := 0) (n := 0) (by omega) (by omega) ?_
        exact W.iret (v := -1) hx hb hr (fun t9 ht9 hW9 => ⟨⟨-1, (g_105, va_up (va_up x2_34 2 (nI ((gram tx ty 65 0 0 1 0).2))) 1 (nI 0), L, nm, 0), rfl, ⟨hri, Or.inr ⟨hth, rfl, vn, rfl, by omega, Or.inl ⟨by omega, (va_up_ne _ _ (by decide)).trans (va_up_self _ _ _), rfl, rfl, rfl⟩⟩⟩, by show va_P (dC, dI) vwCl _ t9.heap; rw [ht9]; exact hP⟩, hS.F ht9⟩) hS.2.2 dX10_define_123
    · have c_22 := mt (k_le v (nI 7)).mpr c_22
      rw [show (nI 7).toInt = 7 from by decide] at c_22
      refine lv_iconst (v := nI 1) hx hb dX10_define_11 (by decide +kernel) ?_
      refine lv_goto (tgt := 16) hx hb dX10_define_12 (by decide) ?_
      refine m_put (D := (dC, dI)) (v := .int (nI 1)) (tv := .int) (C := RX10) (T := TX10) (N := 29) hx hb hts bk0 tyX10 tyX10_ok nmX10 hown hK hP hD hS 0 (by decide) r_3 rfl 0 (by decide) (hts (.fieldLink RX10 78 "GradientDeskModel" "thrown" "I") (List.mem_of_getElem? (i := 1) rfl)) (fun _ h9 => h9) rfl (by decide +kernel) rfl rfl (Nat.le_of_ble_eq_true rfl) dX10_define_16 (fun H locs g_110 f_111 fr_112 hP hS => ?_)
      have f_111 : g_110 0 = .inr (13, Rob ad (va_up x 0 (nI 1))) := f_111
      refine lv_aload_n hx hb dX10_define_19 rfl (lv_at hl 0 rfl) ?_
      refine m_get (D := (dC, dI)) (v := .int (nI 1)) (C := RX10) (T := TX10) (N := 29) hx hb hts bk0 hown hK hP 0 (by decide) f_111 rfl 0 (by decide) (hts (.fieldLink RX10 78 "GradientDeskModel" "thrown" "I") (List.mem_of_getElem? (i := 1) rfl)) (fun _ h9 => h9) (congrArg (fun z => some (Value.int z)) (show (va_up x 0 (nI 1)) 0 = (nI 1) from rfl)) dX10_define_20 ?_
      refine lv_if_le (tgt := 28) hx hb dX10_define_23 (by decide) (fun c_113 => absurd c_113 (by decide)) (fun c_113 => ?_)
      refine lv_iconst (v := nI 0) hx hb dX10_define_26 (by decide +kernel) ?_
      refine W.widen (k := 0) (n := 0) (by omega) (by omega) ?_
      exact W.iret (v := nI 0) hx hb hr (fun t9 ht9 hW9 => ⟨⟨nI 0, (g_110, va_up x 0 (nI 1), L, nm, ty), rfl, ⟨RI.num hI0 (hF0.setx (fun (k : Nat) (hk : k = 1 ∨ k = 2 ∨ k = 3) => (fr_112 k (by omega)).trans (rfl)) f_111 rfl) (fun (k : Nat) (hk : (4 ≤ k ∧ k ≤ 11) ∨ k = 16) => (fr_112 k (by omega)).trans (rfl)) (hVO0.same (fun (k : Nat) (hk : 12 ≤ k ∧ k ≤ 19) => (fr_112 k (by omega)).trans (rfl))) (va_up_ne _ _ (by decide)) (va_up_ne _ _ (by decide)) (va_up_ne _ _ (by decide)) (fun _ _ => ⟨rfl, rfl⟩) hBd, Or.inl ⟨by omega, va_up_self _ _ _, (va_up_ne _ _ (by decide)), rfl, rfl, rfl, rfl⟩⟩, by show va_P (dC, dI) vwCl _ t9.heap; rw [ht9]; exact hP⟩, hS.F ht9⟩) hS.2.2 dX10_define_27
