def wd_X10_sign : List Cond := .code yX10_sign cX10_sign 2 (some .int) :: (([.methodLink RX10 266 yX10_noResult, .instanceMethod yX10_noResult, .selects RX10 yX10_noResult yX10_noResult, .initialized RX10, .fieldLink RX10 78 "GradientDeskModel" "thrown" "I", .fieldLink RX10 14 "GradientDeskModel" "length" "[I", .fieldLink RX10 18 "GradientDeskModel" "below" "[Z"] : List Cond) ++ (wd_X10_noResult ++ (u_ws RX10 TX10 29 ++ ([]))))
theorem gw_X10_sign : wd_X10_sign.all goodWord = true := k_allc rfl (k_all (by decide +kernel) (k_all (gw_X10_noResult) (k_all (gu_X10) (rfl))))
set_option maxHeartbeats 4000000 in
set_option maxRecDepth 100000 in
theorem c_X10_sign (l : Launch) (dC : Nat → ClassId) (dI : Nat → Nat → Nat) (A : Nat → Prop) (ad : Nat → Nat) (cA : Nat → ClassId) (g : Nat → va_E) (x : Nat → Int32) (L : List PD) (nm : Nat → Int) (tx : Nat → Nat) (ty : Nat) (wr : List Int) (v : Int32) (hI : RIE ad cA g x L nm tx ty wr) : Met l yX10_sign wd_X10_sign ({ frames := 20, cells := 0, slots := 0, locals := 400 }) (va_Pc [.ref (ad 0), .int v] (PR NSr tyr dC dI A ad cA g)) (va_Qi (fun (r : Int32) => fun (u : (Nat → va_E) × (Nat → Int32)) => match u with | (g2, x2) => RIE ad cA g2 x2 L nm tx ty wr ∧ x2 2 = x 2 ∧ (x2 0 = nI 0 ∨ x2 0 = nI 1 ∨ x2 0 = nI 2)) (fun (u : (Nat → va_E) × (Nat → Int32)) (t : State) => va_P (dC, dI) vwCl (wo ad NSr u.1) t.heap) A) (0) (0) A := by
  refine Met.ofW (cc := cX10_sign) (maxL := 2) (ret := (some .int)) (by decide) rfl ?_
  intro p e s m args below meth c s₁ B hml hv
  obtain ⟨rfl, hA, hP, hL⟩ := hv
  have hx := B.exec
  have hb := B.bytes
  have hr := B.returns
  have hts := atoms_spec (ws := wd_X10_sign) B.pre
  have hown : s.vm.findClass RX10 = some m.cls := findClass_of_methodNamed B.named
  have hlocks := B.notSynchronized
  have hK := hL.1
  have hD : ∀ g, va_D A (wo ad NSr g) := fun g => wo_D hL.2.1 hL.2.2 g
  have hS : va_S A s.heap s.heap [] := va_S.rf
  have bk0 : ∀ w ∈ wd_X10_noResult, w ∈ wd_X10_sign := fun _ h => List.mem_cons_of_mem _ (List.mem_append_right _ (List.mem_append_left _ h))
  have bk1 : ∀ w ∈ u_ws RX10 TX10 29, w ∈ wd_X10_sign := fun _ h => List.mem_cons_of_mem _ (List.mem_append_right _ (List.mem_append_right _ (List.mem_append_left _ h)))
  have hl := lv_entry ([.ref (ad 0), .int v]) (n := 2) (Nat.le_of_ble_eq_true rfl)
  rw [lg_entry_eq]
  generalize (lg_sl ([.ref (ad 0), .int v]) ++ List.replicate (2 - (lg_sl ([.ref (ad 0), .int v])).length) Slot.unset).toArray = ls at hl ⊢
  have hl : lv_has ls 2 [(0, .ref (ad 0)), (1, .int v)] := hl
  obtain ⟨pf, qf, pt, hI0⟩ := hI
  have hI1 := hI0
  obtain ⟨hF, hPt, hM, hW, hL2, hmd, hTx, hty, hty2, hwr, hwr2, hVO, hBd⟩ := hI1
  have hVO0 := hVO
  have hPt0 := hPt
  have hTx0 := hTx
  have hF0 := hF
  obtain ⟨vf, hV, hq⟩ := hF
  have hc_1 := hV
  obtain ⟨pnz_2, lnz_2, bnz_2, hRz_2, hvz_2⟩ := hc_1
  obtain ⟨r_3, r_4, r_5, r_6, r_7, r_8, r_9⟩ := hRz_2
  obtain ⟨p_10, p_11, p_12, p_13, p_14, p_15, hpt_16⟩ := hPt
  obtain ⟨t4, t4b, t11, t11b, t11c⟩ := hTx
  obtain ⟨⟨rc, v12, v12b⟩, ⟨f13, v13⟩, ⟨f14, v14⟩, ⟨f15, v15⟩, ⟨f16, v16⟩, ⟨f17, v17⟩, ⟨f18, v18⟩, ⟨f19, v19⟩⟩ := hVO
  refine lv_aload_n hx hb dX10_sign_0 rfl (lv_at hl 0 rfl) ?_
  refine lv_aload_n hx hb dX10_sign_1 rfl (lv_at hl 0 rfl) ?_
  refine lv_iload_n hx hb dX10_sign_2 rfl (lv_at hl 1 rfl) ?_
  refine va_calli (va_runV (As := [.int v]) (rest := [.ref (ad 0)]) ⟨hx, hb, hml, hown, hts⟩ (c_X10_noResult l dC dI A ad cA g v ) (cwV 1 hts (goodIn_app (goodIn_r [Cond.methodLink RX10 266 yX10_noResult, Cond.instanceMethod yX10_noResult, Cond.selects RX10 yX10_noResult yX10_noResult, Cond.initialized RX10] [1, 2, 3, 4] rfl rfl) (goodIn_sub (fun w9 h9 => bk0 w9 h9) gw_X10_noResult)) rfl rfl rfl (by decide +kernel) ⟨Nat.le_of_ble_eq_true rfl, Nat.le_of_ble_eq_true rfl⟩) ⟨fun a U g mk q => ⟨q.1, q.2.1, q.2.2.1, LY.moved (u := U) (U := U.calling g mk a) (Vm.Alike.refl U.vm) q.2.2.2⟩, va_recv hK hP (ci := 13) (q0 := 0) rfl (wo_at (by decide) r_3), fun U hU hW => ⟨rfl, by rw [hU]; exact fun q h => hA q (Nat.le_trans hS.1 h), by rw [hU]; exact hP, LY.moved hW.alike hL⟩⟩ rfl rfl hl.1 rfl (lv_room (Nat.le_of_ble_eq_true rfl)) dX10_sign_3 ⟨(Nat.le_of_ble_eq_true rfl), (Nat.le_of_ble_eq_true rfl)⟩) hS (fun q _ h => h) (fun q h => h) (fun r_17 u8 t8 H1 locs ht8 hvm8 hw_18 hB hz1 hk1 hS => ?_)
  obtain ⟨⟩ := u8
  try dsimp only at hw_18 hB
  rw [ht8] at hB
  have hP := hB
  generalize H1 = H at hP hS ⊢
  rcases hw_18 with ⟨rfl, hnrv⟩ | ⟨rfl, hnrv⟩
  · skip
    refine lv_if_eq (tgt := 13) hx hb dX10_sign_6 (by decide) (fun c_19 => ?_) (fun c_19 => absurd c_19 (by decide))
    refine lv_iconst (v := nI 0) hx hb dX10_sign_13 (by decide +kernel) ?_
    refine m_put (D := (dC, dI)) (v := .int (nI 0)) (tv := .int) (C := RX10) (T := TX10) (N := 29) hx hb hts bk1 tyX10 tyX10_ok nmX10 hown hK hP hD hS 0 (by decide) r_3 rfl 0 (by decide) (hts (.fieldLink RX10 78 "GradientDeskModel" "thrown" "I") (List.mem_of_getElem? (i := 5) rfl)) (fun _ h9 => h9) rfl (by decide +kernel) rfl rfl (Nat.le_of_ble_eq_true rfl) dX10_sign_14 (fun H locs g_20 f_21 fr_22 hP hS => ?_)
    have f_21 : g_20 0 = .inr (13, Rob ad (va_up x 0 (nI 0))) := f_21
    refine lv_aload_n hx hb dX10_sign_17 rfl (lv_at hl 0 rfl) ?_
    refine m_get (D := (dC, dI)) (v := .int (nI 0)) (C := RX10) (T := TX10) (N := 29) hx hb hts bk1 hown hK hP 0 (by decide) f_21 rfl 0 (by decide) (hts (.fieldLink RX10 78 "GradientDeskModel" "thrown" "I") (List.mem_of_getElem? (i := 5) rfl)) (fun _ h9 => h9) (congrArg (fun z => some (Value.int z)) (show (va_up x 0 (nI 0)) 0 = (nI 0) from rfl)) dX10_sign_18 ?_
    refine lv_if_gt (tgt := 39) hx hb dX10_sign_21 (by decide) (fun c_23 => absurd c_23 (by decide)) (fun c_23 => ?_)
    obtain ⟨rn, hrn, ern, -⟩ := k_nat (x := v) (by omega)
    subst hrn
    refine lv_aload_n hx hb dX10_sign_24 rfl (lv_at hl 0 rfl) ?_
    refine m_get (D := (dC, dI)) (v := .ref (ad 2)) (C := RX10) (T := TX10) (N := 29) hx hb hts bk1 hown hK hP 0 (by decide) f_21 rfl 2 (by decide) (hts (.fieldLink RX10 14 "GradientDeskModel" "length" "[I") (List.mem_of_getElem? (i := 6) rfl)) (fun _ h9 => h9) rfl dX10_sign_25 ?_
    refine lv_iconst (v := nI 2) hx hb dX10_sign_28 (by decide +kernel) ?_
    refine lv_sipush (v := nI 1000) hx hb dX10_sign_29 (by decide +kernel) ?_
    refine lv_iload_n hx hb dX10_sign_32 rfl (lv_at hl 1 rfl) ?_
    refine lv_iadd hx hb dX10_sign_33 ?_
    refine lv_topi (fun x_24 e_25 => ?_)
    obtain rfl : x_24 = nI (1000 + rn) := e_25.trans (nI_add 1000 rn)
    refine lv_imul hx hb dX10_sign_34 ?_
    refine lv_topi (fun x_26 e_27 => ?_)
    obtain rfl : x_26 = nI (2 * (1000 + rn)) := e_27.trans (pk_mul 2 (1000 + rn))
    have f_28 : g_20 2 = .inl (cA 2, 2068, .inl (fun j => nI (lnz_2 j))) := (fr_22 2 (by omega)).trans r_5
    refine m_iald hx hb hK hP 2 (by decide) rfl f_28 (i := 2 * (1000 + rn)) (by omega) (by decide) dX10_sign_35 ?_
    have b_29 := r_8 (2 * (1000 + rn))
    refine lv_if_ne (tgt := 43) hx hb dX10_sign_36 (by decide) (fun c_30 => ?_) (fun c_30 => ?_)
    · have c_30 := mt (nI_eq (a := (lnz_2 (2 * (1000 + rn)))) (b := 0) (by omega) (by decide)).mpr c_30
      refine lv_aload_n hx hb dX10_sign_43 rfl (lv_at hl 0 rfl) ?_
      refine m_get (D := (dC, dI)) (v := .ref (ad 3)) (C := RX10) (T := TX10) (N := 29) hx hb hts bk1 hown hK hP 0 (by decide) f_21 rfl 3 (by decide) (hts (.fieldLink RX10 18 "GradientDeskModel" "below" "[Z") (List.mem_of_getElem? (i := 7) rfl)) (fun _ h9 => h9) rfl dX10_sign_44 ?_
      refine lv_iconst (v := nI 2) hx hb dX10_sign_47 (by decide +kernel) ?_
      refine lv_sipush (v := nI 1000) hx hb dX10_sign_48 (by decide +kernel) ?_
      refine lv_iload_n hx hb dX10_sign_51 rfl (lv_at hl 1 rfl) ?_
      refine lv_iadd hx hb dX10_sign_52 ?_
      refine lv_topi (fun x_31 e_32 => ?_)
      obtain rfl : x_31 = nI (1000 + rn) := e_32.trans (nI_add 1000 rn)
      refine lv_imul hx hb dX10_sign_53 ?_
      refine lv_topi (fun x_33 e_34 => ?_)
      obtain rfl : x_33 = nI (2 * (1000 + rn)) := e_34.trans (pk_mul 2 (1000 + rn))
      have f_35 : g_20 3 = .inl (cA 3, 2068, .inl (fun j => nI (bnz_2 j))) := (fr_22 3 (by omega)).trans r_6
      refine m_zald hx hb hK hP 3 (by decide) rfl f_35 (i := 2 * (1000 + rn)) (by omega) (by decide) dX10_sign_54 ?_
      have b_36 := r_9 (2 * (1000 + rn))
      refine lv_if_eq (tgt := 62) hx hb dX10_sign_55 (by decide) (fun c_37 => ?_) (fun c_37 => ?_)
      · have c_37 := (nI_eq (a := (bnz_2 (2 * (1000 + rn)))) (b := 0) (by omega) (by decide)).mp c_37
        refine lv_iconst (v := nI 1) hx hb dX10_sign_62 (by decide +kernel) ?_
        refine W.widen (k := 0) (n := 0) (by omega) (by omega) ?_
        exact W.iret (v := nI 1) hx hb hr (fun t9 ht9 hW9 => ⟨⟨nI 1, (g_20, va_up x 0 (nI 0)), rfl, ⟨RI.num hI0 (hF0.setx (fun (k : Nat) (hk : k = 1 ∨ k = 2 ∨ k = 3) => (fr_22 k (by omega)).trans (rfl)) f_21 rfl) (fun (k : Nat) (hk : (4 ≤ k ∧ k ≤ 11) ∨ k = 16) => (fr_22 k (by omega)).trans (rfl)) (hVO0.same (fun (k : Nat) (hk : 12 ≤ k ∧ k ≤ 19) => (fr_22 k (by omega)).trans (rfl))) (va_up_ne _ _ (by decide)) (va_up_ne _ _ (by decide)) (va_up_ne _ _ (by decide)) (fun _ _ => ⟨rfl, rfl⟩) hBd, (va_up_ne _ _ (by decide)), Or.inl (va_up_self _ _ _)⟩, by show va_P (dC, dI) vwCl _ t9.heap; rw [ht9]; exact hP⟩, hS.F ht9⟩) hS.2.2 dX10_sign_63
      · have c_37 := mt (nI_eq (a := (bnz_2 (2 * (1000 + rn)))) (b := 0) (by omega) (by decide)).mpr c_37
        refine lv_iconst (v := -1) hx hb dX10_sign_58 (by decide +kernel) ?_
        refine lv_goto (tgt := 63) hx hb dX10_sign_59 (by decide) ?_
        refine W.widen (k := 0) (n := 0) (by omega) (by omega) ?_
        exact W.iret (v := -1) hx hb hr (fun t9 ht9 hW9 => ⟨⟨-1, (g_20, va_up x 0 (nI 0)), rfl, ⟨RI.num hI0 (hF0.setx (fun (k : Nat) (hk : k = 1 ∨ k = 2 ∨ k = 3) => (fr_22 k (by omega)).trans (rfl)) f_21 rfl) (fun (k : Nat) (hk : (4 ≤ k ∧ k ≤ 11) ∨ k = 16) => (fr_22 k (by omega)).trans (rfl)) (hVO0.same (fun (k : Nat) (hk : 12 ≤ k ∧ k ≤ 19) => (fr_22 k (by omega)).trans (rfl))) (va_up_ne _ _ (by decide)) (va_up_ne _ _ (by decide)) (va_up_ne _ _ (by decide)) (fun _ _ => ⟨rfl, rfl⟩) hBd, (va_up_ne _ _ (by decide)), Or.inl (va_up_self _ _ _)⟩, by show va_P (dC, dI) vwCl _ t9.heap; rw [ht9]; exact hP⟩, hS.F ht9⟩) hS.2.2 dX10_sign_63
    · have c_30 := (nI_eq (a := (lnz_2 (2 * (1000 + rn)))) (b := 0) (by omega) (by decide)).mp c_30
      refine lv_iconst (v := nI 0) hx hb dX10_sign_39 (by decide +kernel) ?_
      refine lv_goto (tgt := 63) hx hb dX10_sign_40 (by decide) ?_
      refine W.widen (k := 0) (n := 0) (by omega) (by omega) ?_
      exact W.iret (v := nI 0) hx hb hr (fun t9 ht9 hW9 => ⟨⟨nI 0, (g_20, va_up x 0 (nI 0)), rfl, ⟨RI.num hI0 (hF0.setx (fun (k : Nat) (hk : k = 1 ∨ k = 2 ∨ k = 3) => (fr_22 k (by omega)).trans (rfl)) f_21 rfl) (fun (k : Nat) (hk : (4 ≤ k ∧ k ≤ 11) ∨ k = 16) => (fr_22 k (by omega)).trans (rfl)) (hVO0.same (fun (k : Nat) (hk : 12 ≤ k ∧ k ≤ 19) => (fr_22 k (by omega)).trans (rfl))) (va_up_ne _ _ (by decide)) (va_up_ne _ _ (by decide)) (va_up_ne _ _ (by decide)) (fun _ _ => ⟨rfl, rfl⟩) hBd, (va_up_ne _ _ (by decide)), Or.inl (va_up_self _ _ _)⟩, by show va_P (dC, dI) vwCl _ t9.heap; rw [ht9]; exact hP⟩, hS.F ht9⟩) hS.2.2 dX10_sign_63
  · skip
    refine lv_if_eq (tgt := 13) hx hb dX10_sign_6 (by decide) (fun c_38 => absurd c_38 (by decide)) (fun c_38 => ?_)
    refine lv_iconst (v := nI 1) hx hb dX10_sign_9 (by decide +kernel) ?_
    refine lv_goto (tgt := 14) hx hb dX10_sign_10 (by decide) ?_
    refine m_put (D := (dC, dI)) (v := .int (nI 1)) (tv := .int) (C := RX10) (T := TX10) (N := 29) hx hb hts bk1 tyX10 tyX10_ok nmX10 hown hK hP hD hS 0 (by decide) r_3 rfl 0 (by decide) (hts (.fieldLink RX10 78 "GradientDeskModel" "thrown" "I") (List.mem_of_getElem? (i := 5) rfl)) (fun _ h9 => h9) rfl (by decide +kernel) rfl rfl (Nat.le_of_ble_eq_true rfl) dX10_sign_14 (fun H locs g_39 f_40 fr_41 hP hS => ?_)
    have f_40 : g_39 0 = .inr (13, Rob ad (va_up x 0 (nI 1))) := f_40
    refine lv_aload_n hx hb dX10_sign_17 rfl (lv_at hl 0 rfl) ?_
    refine m_get (D := (dC, dI)) (v := .int (nI 1)) (C := RX10) (T := TX10) (N := 29) hx hb hts bk1 hown hK hP 0 (by decide) f_40 rfl 0 (by decide) (hts (.fieldLink RX10 78 "GradientDeskModel" "thrown" "I") (List.mem_of_getElem? (i := 5) rfl)) (fun _ h9 => h9) (congrArg (fun z => some (Value.int z)) (show (va_up x 0 (nI 1)) 0 = (nI 1) from rfl)) dX10_sign_18 ?_
    refine lv_if_gt (tgt := 39) hx hb dX10_sign_21 (by decide) (fun c_42 => ?_) (fun c_42 => absurd c_42 (by decide))
    refine lv_iconst (v := nI 0) hx hb dX10_sign_39 (by decide +kernel) ?_
    refine lv_goto (tgt := 63) hx hb dX10_sign_40 (by decide) ?_
    refine W.widen (k := 0) (n := 0) (by omega) (by omega) ?_
    exact W.iret (v := nI 0) hx hb hr (fun t9 ht9 hW9 => ⟨⟨nI 0, (g_39, va_up x 0 (nI 1)), rfl, ⟨RI.num hI0 (hF0.setx (fun (k : Nat) (hk : k = 1 ∨ k = 2 ∨ k = 3) => (fr_41 k (by omega)).trans (rfl)) f_40 rfl) (fun (k : Nat) (hk : (4 ≤ k ∧ k ≤ 11) ∨ k = 16) => (fr_41 k (by omega)).trans (rfl)) (hVO0.same (fun (k : Nat) (hk : 12 ≤ k ∧ k ≤ 19) => (fr_41 k (by omega)).trans (rfl))) (va_up_ne _ _ (by decide)) (va_up_ne _ _ (by decide)) (va_up_ne _ _ (by decide)) (fun _ _ => ⟨rfl, rfl⟩) hBd, (va_up_ne _ _ (by decide)), Or.inr (Or.inl (va_up_self _ _ _))⟩, by show va_P (dC, dI) vwCl _ t9.heap; rw [ht9]; exact hP⟩, hS.F ht9⟩) hS.2.2 dX10_sign_63
def wd_X10_bits : List Cond := .code yX10_bits cX10_bits 3 (some .int) :: (([.methodLink RX10 266 yX10_noResult, .instanceMethod yX10_noResult, .selects RX10 yX10_noResult yX10_noResult, .initialized RX10, .fieldLink RX10 78 "GradientDeskModel" "thrown" "I", .methodLink RX10 117 yX10_bitsOf, .instanceMethod yX10_bitsOf, .selects RX10 yX10_bitsOf yX10_bitsOf] : List Cond) ++ (wd_X10_noResult ++ (u_ws RX10 TX10 29 ++ (wd_X10_bitsOf ++ ([])))))
theorem gw_X10_bits : wd_X10_bits.all goodWord = true := k_allc rfl (k_all (by decide +kernel) (k_all (gw_X10_noResult) (k_all (gu_X10) (k_all (gw_X10_bitsOf) (rfl)))))
set_option maxHeartbeats 4000000 in
set_option maxRecDepth 100000 in
theorem c_X10_bits (l : Launch) (dC : Nat → ClassId) (dI : Nat → Nat → Nat) (A : Nat → Prop) (ad : Nat → Nat) (cA : Nat → ClassId) (g : Nat → va_E) (x : Nat → Int32) (L : List PD) (nm : Nat → Int) (tx : Nat → Nat) (ty : Nat) (wr : List Int) (v : Int32) (w1 : Int32) (hI : RIE ad cA g x L nm tx ty wr) : Met l yX10_bits wd_X10_bits ({ frames := 30, cells := 0, slots := 0, locals := 600 }) (va_Pc [.ref (ad 0), .int v, .int w1] (PR NSr tyr dC dI A ad cA g)) (va_Qi (fun (r : Int32) => fun (u : (Nat → va_E) × (Nat → Int32)) => match u with | (g2, x2) => RIE ad cA g2 x2 L nm tx ty wr ∧ x2 2 = x 2 ∧ (x2 0 = nI 0 ∨ x2 0 = nI 1 ∨ x2 0 = nI 2)) (fun (u : (Nat → va_E) × (Nat → Int32)) (t : State) => va_P (dC, dI) vwCl (wo ad NSr u.1) t.heap) A) (0) (0) A := by
  refine Met.ofW (cc := cX10_bits) (maxL := 3) (ret := (some .int)) (by decide) rfl ?_
  intro p e s m args below meth c s₁ B hml hv
  obtain ⟨rfl, hA, hP, hL⟩ := hv
  have hx := B.exec
  have hb := B.bytes
  have hr := B.returns
  have hts := atoms_spec (ws := wd_X10_bits) B.pre
  have hown : s.vm.findClass RX10 = some m.cls := findClass_of_methodNamed B.named
  have hlocks := B.notSynchronized
  have hK := hL.1
  have hD : ∀ g, va_D A (wo ad NSr g) := fun g => wo_D hL.2.1 hL.2.2 g
  have hS : va_S A s.heap s.heap [] := va_S.rf
  have bk0 : ∀ w ∈ wd_X10_noResult, w ∈ wd_X10_bits := fun _ h => List.mem_cons_of_mem _ (List.mem_append_right _ (List.mem_append_left _ h))
  have bk1 : ∀ w ∈ u_ws RX10 TX10 29, w ∈ wd_X10_bits := fun _ h => List.mem_cons_of_mem _ (List.mem_append_right _ (List.mem_append_right _ (List.mem_append_left _ h)))
  have bk2 : ∀ w ∈ wd_X10_bitsOf, w ∈ wd_X10_bits := fun _ h => List.mem_cons_of_mem _ (List.mem_append_right _ (List.mem_append_right _ (List.mem_append_right _ (List.mem_append_left _ h))))
  have hl := lv_entry ([.ref (ad 0), .int v, .int w1]) (n := 3) (Nat.le_of_ble_eq_true rfl)
  rw [lg_entry_eq]
  generalize (lg_sl ([.ref (ad 0), .int v, .int w1]) ++ List.replicate (3 - (lg_sl ([.ref (ad 0), .int v, .int w1])).length) Slot.unset).toArray = ls at hl ⊢
  have hl : lv_has ls 3 [(0, .ref (ad 0)), (1, .int v), (2, .int w1)] := hl
  obtain ⟨pf, qf, pt, hI0⟩ := hI
  have hI1 := hI0
  obtain ⟨hF, hPt, hM, hW, hL2, hmd, hTx, hty, hty2, hwr, hwr2, hVO, hBd⟩ := hI1
  have hVO0 := hVO
  have hPt0 := hPt
  have hTx0 := hTx
  have hF0 := hF
  obtain ⟨vf, hV, hq⟩ := hF
  have hc_1 := hV
  obtain ⟨pnz_2, lnz_2, bnz_2, hRz_2, hvz_2⟩ := hc_1
  obtain ⟨r_3, r_4, r_5, r_6, r_7, r_8, r_9⟩ := hRz_2
  obtain ⟨p_10, p_11, p_12, p_13, p_14, p_15, hpt_16⟩ := hPt
  obtain ⟨t4, t4b, t11, t11b, t11c⟩ := hTx
  obtain ⟨⟨rc, v12, v12b⟩, ⟨f13, v13⟩, ⟨f14, v14⟩, ⟨f15, v15⟩, ⟨f16, v16⟩, ⟨f17, v17⟩, ⟨f18, v18⟩, ⟨f19, v19⟩⟩ := hVO
  refine lv_aload_n hx hb dX10_bits_0 rfl (lv_at hl 0 rfl) ?_
  refine lv_aload_n hx hb dX10_bits_1 rfl (lv_at hl 0 rfl) ?_
  refine lv_iload_n hx hb dX10_bits_2 rfl (lv_at hl 1 rfl) ?_
  refine va_calli (va_runV (As := [.int v]) (rest := [.ref (ad 0)]) ⟨hx, hb, hml, hown, hts⟩ (c_X10_noResult l dC dI A ad cA g v ) (cwV 1 hts (goodIn_app (goodIn_r [Cond.methodLink RX10 266 yX10_noResult, Cond.instanceMethod yX10_noResult, Cond.selects RX10 yX10_noResult yX10_noResult, Cond.initialized RX10] [1, 2, 3, 4] rfl rfl) (goodIn_sub (fun w9 h9 => bk0 w9 h9) gw_X10_noResult)) rfl rfl rfl (by decide +kernel) ⟨Nat.le_of_ble_eq_true rfl, Nat.le_of_ble_eq_true rfl⟩) ⟨fun a U g mk q => ⟨q.1, q.2.1, q.2.2.1, LY.moved (u := U) (U := U.calling g mk a) (Vm.Alike.refl U.vm) q.2.2.2⟩, va_recv hK hP (ci := 13) (q0 := 0) rfl (wo_at (by decide) r_3), fun U hU hW => ⟨rfl, by rw [hU]; exact fun q h => hA q (Nat.le_trans hS.1 h), by rw [hU]; exact hP, LY.moved hW.alike hL⟩⟩ rfl rfl hl.1 rfl (lv_room (Nat.le_of_ble_eq_true rfl)) dX10_bits_3 ⟨(Nat.le_of_ble_eq_true rfl), (Nat.le_of_ble_eq_true rfl)⟩) hS (fun q _ h => h) (fun q h => h) (fun r_17 u8 t8 H1 locs ht8 hvm8 hw_18 hB hz1 hk1 hS => ?_)
  obtain ⟨⟩ := u8
  try dsimp only at hw_18 hB
  rw [ht8] at hB
  have hP := hB
  generalize H1 = H at hP hS ⊢
  rcases hw_18 with ⟨rfl, hnrv⟩ | ⟨rfl, hnrv⟩
  · skip
    refine lv_if_eq (tgt := 13) hx hb dX10_bits_6 (by decide) (fun c_19 => ?_) (fun c_19 => absurd c_19 (by decide))
    refine lv_iload_n hx hb dX10_bits_13 rfl (lv_at hl 2 rfl) ?_
    refine lv_if_eq (tgt := 26) hx hb dX10_bits_14 (by decide) (fun c_20 => ?_) (fun c_20 => ?_)
    · have c_20 := congrArg Int32.toInt c_20
      rw [show (0 : Int32).toInt = 0 from by decide] at c_20
      refine lv_iconst (v := nI 0) hx hb dX10_bits_26 (by decide +kernel) ?_
      refine m_put (D := (dC, dI)) (v := .int (nI 0)) (tv := .int) (C := RX10) (T := TX10) (N := 29) hx hb hts bk1 tyX10 tyX10_ok nmX10 hown hK hP hD hS 0 (by decide) r_3 rfl 0 (by decide) (hts (.fieldLink RX10 78 "GradientDeskModel" "thrown" "I") (List.mem_of_getElem? (i := 5) rfl)) (fun _ h9 => h9) rfl (by decide +kernel) rfl rfl (Nat.le_of_ble_eq_true rfl) dX10_bits_27 (fun H locs g_21 f_22 fr_23 hP hS => ?_)
      have f_22 : g_21 0 = .inr (13, Rob ad (va_up x 0 (nI 0))) := f_22
      refine lv_aload_n hx hb dX10_bits_30 rfl (lv_at hl 0 rfl) ?_
      refine m_get (D := (dC, dI)) (v := .int (nI 0)) (C := RX10) (T := TX10) (N := 29) hx hb hts bk1 hown hK hP 0 (by decide) f_22 rfl 0 (by decide) (hts (.fieldLink RX10 78 "GradientDeskModel" "thrown" "I") (List.mem_of_getElem? (i := 5) rfl)) (fun _ h9 => h9) (congrArg (fun z => some (Value.int z)) (show (va_up x 0 (nI 0)) 0 = (nI 0) from rfl)) dX10_bits_31 ?_
      refine lv_if_le (tgt := 41) hx hb dX10_bits_34 (by decide) (fun c_24 => ?_) (fun c_24 => absurd c_24 (by decide))
      obtain ⟨rn, hrn, ern, -⟩ := k_nat (x := v) (by omega)
      subst hrn
      obtain ⟨tn, htn, etn, -⟩ := k_nat (x := w1) (by omega)
      subst htn
      refine lv_aload_n hx hb dX10_bits_41 rfl (lv_at hl 0 rfl) ?_
      refine lv_iconst (v := nI 2) hx hb dX10_bits_42 (by decide +kernel) ?_
      refine lv_sipush (v := nI 1000) hx hb dX10_bits_43 (by decide +kernel) ?_
      refine lv_iload_n hx hb dX10_bits_46 rfl (lv_at hl 1 rfl) ?_
      refine lv_iadd hx hb dX10_bits_47 ?_
      refine lv_topi (fun x_25 e_26 => ?_)
      obtain rfl : x_25 = nI (1000 + rn) := e_26.trans (nI_add 1000 rn)
      refine lv_imul hx hb dX10_bits_48 ?_
      refine lv_topi (fun x_27 e_28 => ?_)
      obtain rfl : x_27 = nI (2 * (1000 + rn)) := e_28.trans (pk_mul 2 (1000 + rn))
      refine lv_iload_n hx hb dX10_bits_49 rfl (lv_at hl 2 rfl) ?_
      refine lv_iadd hx hb dX10_bits_50 ?_
      refine lv_topi (fun x_29 e_30 => ?_)
      obtain rfl : x_29 = nI (2 * (1000 + rn) + tn) := e_30.trans (nI_add (2 * (1000 + rn)) tn)
      have hV9 : RV ad cA g_21 (va_up x 0 (nI 0)) vf := hV.setx (fun (k : Nat) (hk : k = 1 ∨ k = 2 ∨ k = 3) => (fr_23 k (by omega)).trans (rfl)) f_22
      refine va_calli (va_runV (As := [.int (nI (2 * (1000 + rn) + tn))]) (rest := []) ⟨hx, hb, hml, hown, hts⟩ (c_X10_bitsOf l dC dI A ad cA g_21 (va_up x 0 (nI 0)) vf (2 * (1000 + rn) + tn) hV9 (by omega)) (cwV 1 hts (goodIn_app (goodIn_r [Cond.methodLink RX10 117 yX10_bitsOf, Cond.instanceMethod yX10_bitsOf, Cond.selects RX10 yX10_bitsOf yX10_bitsOf, Cond.initialized RX10] [6, 7, 8, 4] rfl rfl) (goodIn_sub (fun w9 h9 => bk2 w9 h9) gw_X10_bitsOf)) rfl rfl rfl (by decide +kernel) ⟨Nat.le_of_ble_eq_true rfl, Nat.le_of_ble_eq_true rfl⟩) ⟨fun a U g mk q => ⟨q.1, q.2.1, q.2.2.1, LY.moved (u := U) (U := U.calling g mk a) (Vm.Alike.refl U.vm) q.2.2.2⟩, va_recv hK hP (ci := 13) (q0 := 0) rfl (wo_at (by decide) f_22), fun U hU hW => ⟨rfl, by rw [hU]; exact fun q h => hA q (Nat.le_trans hS.1 h), by rw [hU]; exact hP, LY.moved hW.alike hL⟩⟩ rfl rfl hl.1 rfl (lv_room (Nat.le_of_ble_eq_true rfl)) dX10_bits_51 ⟨(Nat.le_of_ble_eq_true rfl), (Nat.le_of_ble_eq_true rfl)⟩) hS (fun q _ h => h) (fun q h => h) (fun r_31 u8 t8 H1 locs ht8 hvm8 hw_32 hB hz1 hk1 hS => ?_)
      obtain ⟨⟩ := u8
      try dsimp only at hw_32 hB
      rw [ht8] at hB
      have hP := hB
      generalize H1 = H at hP hS ⊢
      refine W.widen (k := 0) (n := 0) (by omega) (by omega) ?_
      exact W.iret (v := r_31) hx hb hr (fun t9 ht9 hW9 => ⟨⟨r_31, (g_21, va_up x 0 (nI 0)), rfl, ⟨RI.num hI0 (hF0.setx (fun (k : Nat) (hk : k = 1 ∨ k = 2 ∨ k = 3) => (fr_23 k (by omega)).trans (rfl)) f_22 rfl) (fun (k : Nat) (hk : (4 ≤ k ∧ k ≤ 11) ∨ k = 16) => (fr_23 k (by omega)).trans (rfl)) (hVO0.same (fun (k : Nat) (hk : 12 ≤ k ∧ k ≤ 19) => (fr_23 k (by omega)).trans (rfl))) (va_up_ne _ _ (by decide)) (va_up_ne _ _ (by decide)) (va_up_ne _ _ (by decide)) (fun _ _ => ⟨rfl, rfl⟩) hBd, (va_up_ne _ _ (by decide)), Or.inl (va_up_self _ _ _)⟩, by show va_P (dC, dI) vwCl _ t9.heap; rw [ht9]; exact hP⟩, hS.F ht9⟩) hS.2.2 dX10_bits_54
    · have c_20 := mt Int32.toInt_inj.mp c_20
      rw [show (0 : Int32).toInt = 0 from by decide] at c_20
      refine lv_iload_n hx hb dX10_bits_17 rfl (lv_at hl 2 rfl) ?_
      refine lv_iconst (v := nI 1) hx hb dX10_bits_18 (by decide +kernel) ?_
      refine lv_icmp_eq (tgt := 26) hx hb dX10_bits_19 (by decide) (fun c_33 => ?_) (fun c_33 => ?_)
      · have c_33 := congrArg Int32.toInt c_33
        rw [show (nI 1).toInt = 1 from by decide] at c_33
        refine lv_iconst (v := nI 0) hx hb dX10_bits_26 (by decide +kernel) ?_
        refine m_put (D := (dC, dI)) (v := .int (nI 0)) (tv := .int) (C := RX10) (T := TX10) (N := 29) hx hb hts bk1 tyX10 tyX10_ok nmX10 hown hK hP hD hS 0 (by decide) r_3 rfl 0 (by decide) (hts (.fieldLink RX10 78 "GradientDeskModel" "thrown" "I") (List.mem_of_getElem? (i := 5) rfl)) (fun _ h9 => h9) rfl (by decide +kernel) rfl rfl (Nat.le_of_ble_eq_true rfl) dX10_bits_27 (fun H locs g_34 f_35 fr_36 hP hS => ?_)
        have f_35 : g_34 0 = .inr (13, Rob ad (va_up x 0 (nI 0))) := f_35
        refine lv_aload_n hx hb dX10_bits_30 rfl (lv_at hl 0 rfl) ?_
        refine m_get (D := (dC, dI)) (v := .int (nI 0)) (C := RX10) (T := TX10) (N := 29) hx hb hts bk1 hown hK hP 0 (by decide) f_35 rfl 0 (by decide) (hts (.fieldLink RX10 78 "GradientDeskModel" "thrown" "I") (List.mem_of_getElem? (i := 5) rfl)) (fun _ h9 => h9) (congrArg (fun z => some (Value.int z)) (show (va_up x 0 (nI 0)) 0 = (nI 0) from rfl)) dX10_bits_31 ?_
        refine lv_if_le (tgt := 41) hx hb dX10_bits_34 (by decide) (fun c_37 => ?_) (fun c_37 => absurd c_37 (by decide))
        obtain ⟨rn, hrn, ern, -⟩ := k_nat (x := v) (by omega)
        subst hrn
        obtain ⟨tn, htn, etn, -⟩ := k_nat (x := w1) (by omega)
        subst htn
        refine lv_aload_n hx hb dX10_bits_41 rfl (lv_at hl 0 rfl) ?_
        refine lv_iconst (v := nI 2) hx hb dX10_bits_42 (by decide +kernel) ?_
        refine lv_sipush (v := nI 1000) hx hb dX10_bits_43 (by decide +kernel) ?_
        refine lv_iload_n hx hb dX10_bits_46 rfl (lv_at hl 1 rfl) ?_
        refine lv_iadd hx hb dX10_bits_47 ?_
        refine lv_topi (fun x_38 e_39 => ?_)
        obtain rfl : x_38 = nI (1000 + rn) := e_39.trans (nI_add 1000 rn)
        refine lv_imul hx hb dX10_bits_48 ?_
        refine lv_topi (fun x_40 e_41 => ?_)
        obtain rfl : x_40 = nI (2 * (1000 + rn)) := e_41.trans (pk_mul 2 (1000 + rn))
        refine lv_iload_n hx hb dX10_bits_49 rfl (lv_at hl 2 rfl) ?_
        refine lv_iadd hx hb dX10_bits_50 ?_
        refine lv_topi (fun x_42 e_43 => ?_)
        obtain rfl : x_42 = nI (2 * (1000 + rn) + tn) := e_43.trans (nI_add (2 * (1000 + rn)) tn)
        have hV9 : RV ad cA g_34 (va_up x 0 (nI 0)) vf := hV.setx (fun (k : Nat) (hk : k = 1 ∨ k = 2 ∨ k = 3) => (fr_36 k (by omega)).trans (rfl)) f_35
        refine va_calli (va_runV (As := [.int (nI (2 * (1000 + rn) + tn))]) (rest := []) ⟨hx, hb, hml, hown, hts⟩ (c_X10_bitsOf l dC dI A ad cA g_34 (va_up x 0 (nI 0)) vf (2 * (1000 + rn) + tn) hV9 (by omega)) (cwV 1 hts (goodIn_app (goodIn_r [Cond.methodLink RX10 117 yX10_bitsOf, Cond.instanceMethod yX10_bitsOf, Cond.selects RX10 yX10_bitsOf yX10_bitsOf, Cond.initialized RX10] [6, 7, 8, 4] rfl rfl) (goodIn_sub (fun w9 h9 => bk2 w9 h9) gw_X10_bitsOf)) rfl rfl rfl (by decide +kernel) ⟨Nat.le_of_ble_eq_true rfl, Nat.le_of_ble_eq_true rfl⟩) ⟨fun a U g mk q => ⟨q.1, q.2.1, q.2.2.1, LY.moved (u := U) (U := U.calling g mk a) (Vm.Alike.refl U.vm) q.2.2.2⟩, va_recv hK hP (ci := 13) (q0 := 0) rfl (wo_at (by decide) f_35), fun U hU hW => ⟨rfl, by rw [hU]; exact fun q h => hA q (Nat.le_trans hS.1 h), by rw [hU]; exact hP, LY.moved hW.alike hL⟩⟩ rfl rfl hl.1 rfl (lv_room (Nat.le_of_ble_eq_true rfl)) dX10_bits_51 ⟨(Nat.le_of_ble_eq_true rfl), (Nat.le_of_ble_eq_true rfl)⟩) hS (fun q _ h => h) (fun q h => h) (fun r_44 u8 t8 H1 locs ht8 hvm8 hw_45 hB hz1 hk1 hS => ?_)
        obtain ⟨⟩ := u8
        try dsimp only at hw_45 hB
        rw [ht8] at hB
        have hP := hB
        generalize H1 = H at hP hS ⊢
        refine W.widen (k := 0) (n := 0) (by omega) (by omega) ?_
        exact W.iret (v := r_44) hx hb hr (fun t9 ht9 hW9 => ⟨⟨r_44, (g_34, va_up x 0 (nI 0)), rfl, ⟨RI.num hI0 (hF0.setx (fun (k : Nat) (hk : k = 1 ∨ k = 2 ∨ k = 3) => (fr_36 k (by omega)).trans (rfl)) f_35 rfl) (fun (k : Nat) (hk : (4 ≤ k ∧ k ≤ 11) ∨ k = 16) => (fr_36 k (by omega)).trans (rfl)) (hVO0.same (fun (k : Nat) (hk : 12 ≤ k ∧ k ≤ 19) => (fr_36 k (by omega)).trans (rfl))) (va_up_ne _ _ (by decide)) (va_up_ne _ _ (by decide)) (va_up_ne _ _ (by decide)) (fun _ _ => ⟨rfl, rfl⟩) hBd, (va_up_ne _ _ (by decide)), Or.inl (va_up_self _ _ _)⟩, by show va_P (dC, dI) vwCl _ t9.heap; rw [ht9]; exact hP⟩, hS.F ht9⟩) hS.2.2 dX10_bits_54
      · have c_33 := mt Int32.toInt_inj.mp c_33
        rw [show (nI 1).toInt = 1 from by decide] at c_33
        refine lv_iconst (v := nI 2) hx hb dX10_bits_22 (by decide +kernel) ?_
        refine lv_goto (tgt := 27) hx hb dX10_bits_23 (by decide) ?_
        refine m_put (D := (dC, dI)) (v := .int (nI 2)) (tv := .int) (C := RX10) (T := TX10) (N := 29) hx hb hts bk1 tyX10 tyX10_ok nmX10 hown hK hP hD hS 0 (by decide) r_3 rfl 0 (by decide) (hts (.fieldLink RX10 78 "GradientDeskModel" "thrown" "I") (List.mem_of_getElem? (i := 5) rfl)) (fun _ h9 => h9) rfl (by decide +kernel) rfl rfl (Nat.le_of_ble_eq_true rfl) dX10_bits_27 (fun H locs g_46 f_47 fr_48 hP hS => ?_)
        have f_47 : g_46 0 = .inr (13, Rob ad (va_up x 0 (nI 2))) := f_47
        refine lv_aload_n hx hb dX10_bits_30 rfl (lv_at hl 0 rfl) ?_
        refine m_get (D := (dC, dI)) (v := .int (nI 2)) (C := RX10) (T := TX10) (N := 29) hx hb hts bk1 hown hK hP 0 (by decide) f_47 rfl 0 (by decide) (hts (.fieldLink RX10 78 "GradientDeskModel" "thrown" "I") (List.mem_of_getElem? (i := 5) rfl)) (fun _ h9 => h9) (congrArg (fun z => some (Value.int z)) (show (va_up x 0 (nI 2)) 0 = (nI 2) from rfl)) dX10_bits_31 ?_
        refine lv_if_le (tgt := 41) hx hb dX10_bits_34 (by decide) (fun c_49 => absurd c_49 (by decide)) (fun c_49 => ?_)
        refine lv_iconst (v := nI 0) hx hb dX10_bits_37 (by decide +kernel) ?_
        refine lv_goto (tgt := 54) hx hb dX10_bits_38 (by decide) ?_
        refine W.widen (k := 0) (n := 0) (by omega) (by omega) ?_
        exact W.iret (v := nI 0) hx hb hr (fun t9 ht9 hW9 => ⟨⟨nI 0, (g_46, va_up x 0 (nI 2)), rfl, ⟨RI.num hI0 (hF0.setx (fun (k : Nat) (hk : k = 1 ∨ k = 2 ∨ k = 3) => (fr_48 k (by omega)).trans (rfl)) f_47 rfl) (fun (k : Nat) (hk : (4 ≤ k ∧ k ≤ 11) ∨ k = 16) => (fr_48 k (by omega)).trans (rfl)) (hVO0.same (fun (k : Nat) (hk : 12 ≤ k ∧ k ≤ 19) => (fr_48 k (by omega)).trans (rfl))) (va_up_ne _ _ (by decide)) (va_up_ne _ _ (by decide)) (va_up_ne _ _ (by decide)) (fun _ _ => ⟨rfl, rfl⟩) hBd, (va_up_ne _ _ (by decide)), Or.inr (Or.inr (va_up_self _ _ _))⟩, by show va_P (dC, dI) vwCl _ t9.heap; rw [ht9]; exact hP⟩, hS.F ht9⟩) hS.2.2 dX10_bits_54
  · skip
    refine lv_if_eq (tgt := 13) hx hb dX10_bits_6 (by decide) (fun c_50 => absurd c_50 (by decide)) (fun c_50 => ?_)
    refine lv_iconst (v := nI 1) hx hb dX10_bits_9 (by decide +kernel) ?_
    refine lv_goto (tgt := 27) hx hb dX10_bits_10 (by decide) ?_
    refine m_put (D := (dC, dI)) (v := .int (nI 1)) (tv := .int) (C := RX10) (T := TX10) (N := 29) hx hb hts bk1 tyX10 tyX10_ok nmX10 hown hK hP hD hS 0 (by decide) r_3 rfl 0 (by decide) (hts (.fieldLink RX10 78 "GradientDeskModel" "thrown" "I") (List.mem_of_getElem? (i := 5) rfl)) (fun _ h9 => h9) rfl (by decide +kernel) rfl rfl (Nat.le_of_ble_eq_true rfl) dX10_bits_27 (fun H locs g_51 f_52 fr_53 hP hS => ?_)
    have f_52 : g_51 0 = .inr (13, Rob ad (va_up x 0 (nI 1))) := f_52
    refine lv_aload_n hx hb dX10_bits_30 rfl (lv_at hl 0 rfl) ?_
    refine m_get (D := (dC, dI)) (v := .int (nI 1)) (C := RX10) (T := TX10) (N := 29) hx hb hts bk1 hown hK hP 0 (by decide) f_52 rfl 0 (by decide) (hts (.fieldLink RX10 78 "GradientDeskModel" "thrown" "I") (List.mem_of_getElem? (i := 5) rfl)) (fun _ h9 => h9) (congrArg (fun z => some (Value.int z)) (show (va_up x 0 (nI 1)) 0 = (nI 1) from rfl)) dX10_bits_31 ?_
    refine lv_if_le (tgt := 41) hx hb dX10_bits_34 (by decide) (fun c_54 => absurd c_54 (by decide)) (fun c_54 => ?_)
    refine lv_iconst (v := nI 0) hx hb dX10_bits_37 (by decide +kernel) ?_
    refine lv_goto (tgt := 54) hx hb dX10_bits_38 (by decide) ?_
    refine W.widen (k := 0) (n := 0) (by omega) (by omega) ?_
    exact W.iret (v := nI 0) hx hb hr (fun t9 ht9 hW9 => ⟨⟨nI 0, (g_51, va_up x 0 (nI 1)), rfl, ⟨RI.num hI0 (hF0.setx (fun (k : Nat) (hk : k = 1 ∨ k = 2 ∨ k = 3) => (fr_53 k (by omega)).trans (rfl)) f_52 rfl) (fun (k : Nat) (hk : (4 ≤ k ∧ k ≤ 11) ∨ k = 16) => (fr_53 k (by omega)).trans (rfl)) (hVO0.same (fun (k : Nat) (hk : 12 ≤ k ∧ k ≤ 19) => (fr_53 k (by omega)).trans (rfl))) (va_up_ne _ _ (by decide)) (va_up_ne _ _ (by decide)) (va_up_ne _ _ (by decide)) (fun _ _ => ⟨rfl, rfl⟩) hBd, (va_up_ne _ _ (by decide)), Or.inr (Or.inl (va_up_self _ _ _))⟩, by show va_P (dC, dI) vwCl _ t9.heap; rw [ht9]; exact hP⟩, hS.F ht9⟩) hS.2.2 dX10_bits_54
def wd_X10_word : List Cond := .code yX10_word cX10_word 4 (some .int) :: (([.methodLink RX10 266 yX10_noResult, .instanceMethod yX10_noResult, .selects RX10 yX10_noResult yX10_noResult, .initialized RX10, .fieldLink RX10 78 "GradientDeskModel" "thrown" "I", .methodLink RX10 87 yX10_piece, .instanceMethod yX10_piece, .selects RX10 yX10_piece yX10_piece] : List Cond) ++ (wd_X10_noResult ++ (u_ws RX10 TX10 29 ++ (wd_X10_piece ++ ([])))))
theorem gw_X10_word : wd_X10_word.all goodWord = true := k_allc rfl (k_all (by decide +kernel) (k_all (gw_X10_noResult) (k_all (gu_X10) (k_all (gw_X10_piece) (rfl)))))
set_option maxHeartbeats 4000000 in
set_option maxRecDepth 100000 in
theorem c_X10_word (l : Launch) (dC : Nat → ClassId) (dI : Nat → Nat → Nat) (A : Nat → Prop) (ad : Nat → Nat) (cA : Nat → ClassId) (g : Nat → va_E) (x : Nat → Int32) (L : List PD) (nm : Nat → Int) (tx : Nat → Nat) (ty : Nat) (wr : List Int) (v : Int32) (w1 : Int32) (w2 : Int32) (hI : RIE ad cA g x L nm tx ty wr) : Met l yX10_word wd_X10_word ({ frames := 30, cells := 0, slots := 0, locals := 600 }) (va_Pc [.ref (ad 0), .int v, .int w1, .int w2] (PR NSr tyr dC dI A ad cA g)) (va_Qi (fun (r : Int32) => fun (u : (Nat → va_E) × (Nat → Int32)) => match u with | (g2, x2) => RIE ad cA g2 x2 L nm tx ty wr ∧ x2 2 = x 2 ∧ (x2 0 = nI 0 ∨ x2 0 = nI 1 ∨ x2 0 = nI 2)) (fun (u : (Nat → va_E) × (Nat → Int32)) (t : State) => va_P (dC, dI) vwCl (wo ad NSr u.1) t.heap) A) (0) (0) A := by
  refine Met.ofW (cc := cX10_word) (maxL := 4) (ret := (some .int)) (by decide) rfl ?_
  intro p e s m args below meth c s₁ B hml hv
  obtain ⟨rfl, hA, hP, hL⟩ := hv
  have hx := B.exec
  have hb := B.bytes
  have hr := B.returns
  have hts := atoms_spec (ws := wd_X10_word) B.pre
  have hown : s.vm.findClass RX10 = some m.cls := findClass_of_methodNamed B.named
  have hlocks := B.notSynchronized
  have hK := hL.1
  have hD : ∀ g, va_D A (wo ad NSr g) := fun g => wo_D hL.2.1 hL.2.2 g
  have hS : va_S A s.heap s.heap [] := va_S.rf
  have bk0 : ∀ w ∈ wd_X10_noResult, w ∈ wd_X10_word := fun _ h => List.mem_cons_of_mem _ (List.mem_append_right _ (List.mem_append_left _ h))
  have bk1 : ∀ w ∈ u_ws RX10 TX10 29, w ∈ wd_X10_word := fun _ h => List.mem_cons_of_mem _ (List.mem_append_right _ (List.mem_append_right _ (List.mem_append_left _ h)))
  have bk2 : ∀ w ∈ wd_X10_piece, w ∈ wd_X10_word := fun _ h => List.mem_cons_of_mem _ (List.mem_append_right _ (List.mem_append_right _ (List.mem_append_right _ (List.mem_append_left _ h))))
  have hl := lv_entry ([.ref (ad 0), .int v, .int w1, .int w2]) (n := 4) (Nat.le_of_ble_eq_true rfl)
  rw [lg_entry_eq]
  generalize (lg_sl ([.ref (ad 0), .int v, .int w1, .int w2]) ++ List.replicate (4 - (lg_sl ([.ref (ad 0), .int v, .int w1, .int w2])).length) Slot.unset).toArray = ls at hl ⊢
  have hl : lv_has ls 4 [(0, .ref (ad 0)), (1, .int v), (2, .int w1), (3, .int w2)] := hl
  obtain ⟨pf, qf, pt, hI0⟩ := hI
  have hI1 := hI0
  obtain ⟨hF, hPt, hM, hW, hL2, hmd, hTx, hty, hty2, hwr, hwr2, hVO, hBd⟩ := hI1
  have hVO0 := hVO
  have hPt0 := hPt
  have hTx0 := hTx
  have hF0 := hF
  obtain ⟨vf, hV, hq⟩ := hF
  have hc_1 := hV
  obtain ⟨pnz_2, lnz_2, bnz_2, hRz_2, hvz_2⟩ := hc_1
  obtain ⟨r_3, r_4, r_5, r_6, r_7, r_8, r_9⟩ := hRz_2
  obtain ⟨p_10, p_11, p_12, p_13, p_14, p_15, hpt_16⟩ := hPt
  obtain ⟨t4, t4b, t11, t11b, t11c⟩ := hTx
  obtain ⟨⟨rc, v12, v12b⟩, ⟨f13, v13⟩, ⟨f14, v14⟩, ⟨f15, v15⟩, ⟨f16, v16⟩, ⟨f17, v17⟩, ⟨f18, v18⟩, ⟨f19, v19⟩⟩ := hVO
  refine lv_aload_n hx hb dX10_word_0 rfl (lv_at hl 0 rfl) ?_
  refine lv_aload_n hx hb dX10_word_1 rfl (lv_at hl 0 rfl) ?_
  refine lv_iload_n hx hb dX10_word_2 rfl (lv_at hl 1 rfl) ?_
  refine va_calli (va_runV (As := [.int v]) (rest := [.ref (ad 0)]) ⟨hx, hb, hml, hown, hts⟩ (c_X10_noResult l dC dI A ad cA g v ) (cwV 1 hts (goodIn_app (goodIn_r [Cond.methodLink RX10 266 yX10_noResult, Cond.instanceMethod yX10_noResult, Cond.selects RX10 yX10_noResult yX10_noResult, Cond.initialized RX10] [1, 2, 3, 4] rfl rfl) (goodIn_sub (fun w9 h9 => bk0 w9 h9) gw_X10_noResult)) rfl rfl rfl (by decide +kernel) ⟨Nat.le_of_ble_eq_true rfl, Nat.le_of_ble_eq_true rfl⟩) ⟨fun a U g mk q => ⟨q.1, q.2.1, q.2.2.1, LY.moved (u := U) (U := U.calling g mk a) (Vm.Alike.refl U.vm) q.2.2.2⟩, va_recv hK hP (ci := 13) (q0 := 0) rfl (wo_at (by decide) r_3), fun U hU hW => ⟨rfl, by rw [hU]; exact fun q h => hA q (Nat.le_trans hS.1 h), by rw [hU]; exact hP, LY.moved hW.alike hL⟩⟩ rfl rfl hl.1 rfl (lv_room (Nat.le_of_ble_eq_true rfl)) dX10_word_3 ⟨(Nat.le_of_ble_eq_true rfl), (Nat.le_of_ble_eq_true rfl)⟩) hS (fun q _ h => h) (fun q h => h) (fun r_17 u8 t8 H1 locs ht8 hvm8 hw_18 hB hz1 hk1 hS => ?_)
  obtain ⟨⟩ := u8
  try dsimp only at hw_18 hB
  rw [ht8] at hB
  have hP := hB
  generalize H1 = H at hP hS ⊢
  rcases hw_18 with ⟨rfl, hnrv⟩ | ⟨rfl, hnrv⟩
  · skip
    refine lv_if_ne (tgt := 19) hx hb dX10_word_6 (by decide) (fun c_19 => absurd c_19 (by decide)) (fun c_19 => ?_)
    refine lv_iload_n hx hb dX10_word_9 rfl (lv_at hl 3 rfl) ?_
    refine lv_if_lt (tgt := 19) hx hb dX10_word_10 (by decide) (fun c_20 => ?_) (fun c_20 => ?_)
    · have c_20 := (k_lt w2 (nI 0)).mp c_20
      rw [show (nI 0).toInt = 0 from by decide] at c_20
      refine lv_iconst (v := nI 1) hx hb dX10_word_19 (by decide +kernel) ?_
      refine lv_goto (tgt := 37) hx hb dX10_word_20 (by decide) ?_
      refine m_put (D := (dC, dI)) (v := .int (nI 1)) (tv := .int) (C := RX10) (T := TX10) (N := 29) hx hb hts bk1 tyX10 tyX10_ok nmX10 hown hK hP hD hS 0 (by decide) r_3 rfl 0 (by decide) (hts (.fieldLink RX10 78 "GradientDeskModel" "thrown" "I") (List.mem_of_getElem? (i := 5) rfl)) (fun _ h9 => h9) rfl (by decide +kernel) rfl rfl (Nat.le_of_ble_eq_true rfl) dX10_word_37 (fun H locs g_21 f_22 fr_23 hP hS => ?_)
      have f_22 : g_21 0 = .inr (13, Rob ad (va_up x 0 (nI 1))) := f_22
      refine lv_aload_n hx hb dX10_word_40 rfl (lv_at hl 0 rfl) ?_
      refine m_get (D := (dC, dI)) (v := .int (nI 1)) (C := RX10) (T := TX10) (N := 29) hx hb hts bk1 hown hK hP 0 (by decide) f_22 rfl 0 (by decide) (hts (.fieldLink RX10 78 "GradientDeskModel" "thrown" "I") (List.mem_of_getElem? (i := 5) rfl)) (fun _ h9 => h9) (congrArg (fun z => some (Value.int z)) (show (va_up x 0 (nI 1)) 0 = (nI 1) from rfl)) dX10_word_41 ?_
      refine lv_if_le (tgt := 51) hx hb dX10_word_44 (by decide) (fun c_24 => absurd c_24 (by decide)) (fun c_24 => ?_)
      refine lv_iconst (v := nI 0) hx hb dX10_word_47 (by decide +kernel) ?_
      refine lv_goto (tgt := 66) hx hb dX10_word_48 (by decide) ?_
      refine W.widen (k := 0) (n := 0) (by omega) (by omega) ?_
      exact W.iret (v := nI 0) hx hb hr (fun t9 ht9 hW9 => ⟨⟨nI 0, (g_21, va_up x 0 (nI 1)), rfl, ⟨RI.num hI0 (hF0.setx (fun (k : Nat) (hk : k = 1 ∨ k = 2 ∨ k = 3) => (fr_23 k (by omega)).trans (rfl)) f_22 rfl) (fun (k : Nat) (hk : (4 ≤ k ∧ k ≤ 11) ∨ k = 16) => (fr_23 k (by omega)).trans (rfl)) (hVO0.same (fun (k : Nat) (hk : 12 ≤ k ∧ k ≤ 19) => (fr_23 k (by omega)).trans (rfl))) (va_up_ne _ _ (by decide)) (va_up_ne _ _ (by decide)) (va_up_ne _ _ (by decide)) (fun _ _ => ⟨rfl, rfl⟩) hBd, (va_up_ne _ _ (by decide)), Or.inr (Or.inl (va_up_self _ _ _))⟩, by show va_P (dC, dI) vwCl _ t9.heap; rw [ht9]; exact hP⟩, hS.F ht9⟩) hS.2.2 dX10_word_66
    · have c_20 := mt (k_lt w2 (nI 0)).mpr c_20
      rw [show (nI 0).toInt = 0 from by decide] at c_20
      refine lv_iload_n hx hb dX10_word_13 rfl (lv_at hl 3 rfl) ?_
      refine lv_bipush (v := nI 63) hx hb dX10_word_14 (by decide +kernel) ?_
      refine lv_icmp_le (tgt := 23) hx hb dX10_word_16 (by decide) (fun c_25 => ?_) (fun c_25 => ?_)
      · have c_25 := (k_le w2 (nI 63)).mp c_25
        rw [show (nI 63).toInt = 63 from by decide] at c_25
        refine lv_iload_n hx hb dX10_word_23 rfl (lv_at hl 2 rfl) ?_
        refine lv_if_eq (tgt := 36) hx hb dX10_word_24 (by decide) (fun c_26 => ?_) (fun c_26 => ?_)
        · have c_26 := congrArg Int32.toInt c_26
          rw [show (0 : Int32).toInt = 0 from by decide] at c_26
          refine lv_iconst (v := nI 0) hx hb dX10_word_36 (by decide +kernel) ?_
          refine m_put (D := (dC, dI)) (v := .int (nI 0)) (tv := .int) (C := RX10) (T := TX10) (N := 29) hx hb hts bk1 tyX10 tyX10_ok nmX10 hown hK hP hD hS 0 (by decide) r_3 rfl 0 (by decide) (hts (.fieldLink RX10 78 "GradientDeskModel" "thrown" "I") (List.mem_of_getElem? (i := 5) rfl)) (fun _ h9 => h9) rfl (by decide +kernel) rfl rfl (Nat.le_of_ble_eq_true rfl) dX10_word_37 (fun H locs g_27 f_28 fr_29 hP hS => ?_)
          have f_28 : g_27 0 = .inr (13, Rob ad (va_up x 0 (nI 0))) := f_28
          refine lv_aload_n hx hb dX10_word_40 rfl (lv_at hl 0 rfl) ?_
          refine m_get (D := (dC, dI)) (v := .int (nI 0)) (C := RX10) (T := TX10) (N := 29) hx hb hts bk1 hown hK hP 0 (by decide) f_28 rfl 0 (by decide) (hts (.fieldLink RX10 78 "GradientDeskModel" "thrown" "I") (List.mem_of_getElem? (i := 5) rfl)) (fun _ h9 => h9) (congrArg (fun z => some (Value.int z)) (show (va_up x 0 (nI 0)) 0 = (nI 0) from rfl)) dX10_word_41 ?_
          refine lv_if_le (tgt := 51) hx hb dX10_word_44 (by decide) (fun c_30 => ?_) (fun c_30 => absurd c_30 (by decide))
          obtain ⟨rn, hrn, ern, -⟩ := k_nat (x := v) (by omega)
          subst hrn
          obtain ⟨tn, htn, etn, -⟩ := k_nat (x := w1) (by omega)
          subst htn
          obtain ⟨kn, hkn, ekn, -⟩ := k_nat (x := w2) (by omega)
          subst hkn
          refine lv_aload_n hx hb dX10_word_51 rfl (lv_at hl 0 rfl) ?_
          refine lv_iconst (v := nI 2) hx hb dX10_word_52 (by decide +kernel) ?_
          refine lv_sipush (v := nI 1000) hx hb dX10_word_53 (by decide +kernel) ?_
          refine lv_iload_n hx hb dX10_word_56 rfl (lv_at hl 1 rfl) ?_
          refine lv_iadd hx hb dX10_word_57 ?_
          refine lv_topi (fun x_31 e_32 => ?_)
          obtain rfl : x_31 = nI (1000 + rn) := e_32.trans (nI_add 1000 rn)
          refine lv_imul hx hb dX10_word_58 ?_
          refine lv_topi (fun x_33 e_34 => ?_)
          obtain rfl : x_33 = nI (2 * (1000 + rn)) := e_34.trans (pk_mul 2 (1000 + rn))
          refine lv_iload_n hx hb dX10_word_59 rfl (lv_at hl 2 rfl) ?_
          refine lv_iadd hx hb dX10_word_60 ?_
          refine lv_topi (fun x_35 e_36 => ?_)
          obtain rfl : x_35 = nI (2 * (1000 + rn) + tn) := e_36.trans (nI_add (2 * (1000 + rn)) tn)
          refine lv_iload_n hx hb dX10_word_61 rfl (lv_at hl 3 rfl) ?_
          have hV9 : RV ad cA g_27 (va_up x 0 (nI 0)) vf := hV.setx (fun (k : Nat) (hk : k = 1 ∨ k = 2 ∨ k = 3) => (fr_29 k (by omega)).trans (rfl)) f_28
          obtain ⟨pn9, ln9, bn9, hN9, hv9⟩ := hV9
          have hl9 := (hv9 (2 * (1000 + rn) + tn) (by omega)).1
          refine va_calll (va_runV (As := [.int (nI (2 * (1000 + rn) + tn)), .int (nI kn)]) (rest := []) ⟨hx, hb, hml, hown, hts⟩ (c_X10_piece l dC dI A ad cA g_27 (va_up x 0 (nI 0)) pn9 ln9 bn9 (2 * (1000 + rn) + tn) kn hN9 (by omega) hl9 (by omega)) (cwV 2 hts (goodIn_app (goodIn_r [Cond.methodLink RX10 87 yX10_piece, Cond.instanceMethod yX10_piece, Cond.selects RX10 yX10_piece yX10_piece, Cond.initialized RX10] [6, 7, 8, 4] rfl rfl) (goodIn_sub (fun w9 h9 => bk2 w9 h9) gw_X10_piece)) rfl rfl rfl (by decide +kernel) ⟨Nat.le_of_ble_eq_true rfl, Nat.le_of_ble_eq_true rfl⟩) ⟨fun a U g mk q => ⟨q.1, q.2.1, q.2.2.1, LY.moved (u := U) (U := U.calling g mk a) (Vm.Alike.refl U.vm) q.2.2.2⟩, va_recv hK hP (ci := 13) (q0 := 0) rfl (wo_at (by decide) f_28), fun U hU hW => ⟨rfl, by rw [hU]; exact fun q h => hA q (Nat.le_trans hS.1 h), by rw [hU]; exact hP, LY.moved hW.alike hL⟩⟩ rfl rfl hl.1 rfl (lv_room (Nat.le_of_ble_eq_true rfl)) dX10_word_62 ⟨(Nat.le_of_ble_eq_true rfl), (Nat.le_of_ble_eq_true rfl)⟩) hS (fun q _ h => h) (fun q h => h) (fun r_37 u8 t8 H1 locs ht8 hvm8 hw_38 hB hz1 hk1 hS => ?_)
          obtain ⟨⟩ := u8
          try dsimp only at hw_38 hB
          rw [ht8] at hB
          have hP := hB
          generalize H1 = H at hP hS ⊢
          refine lv_l2i hx hb dX10_word_65 rfl ?_
          refine lv_topi (fun x_39 e_40 => ?_)
          refine W.widen (k := 0) (n := 0) (by omega) (by omega) ?_
          exact W.iret (v := x_39) hx hb hr (fun t9 ht9 hW9 => ⟨⟨x_39, (g_27, va_up x 0 (nI 0)), rfl, ⟨RI.num hI0 (hF0.setx (fun (k : Nat) (hk : k = 1 ∨ k = 2 ∨ k = 3) => (fr_29 k (by omega)).trans (rfl)) f_28 rfl) (fun (k : Nat) (hk : (4 ≤ k ∧ k ≤ 11) ∨ k = 16) => (fr_29 k (by omega)).trans (rfl)) (hVO0.same (fun (k : Nat) (hk : 12 ≤ k ∧ k ≤ 19) => (fr_29 k (by omega)).trans (rfl))) (va_up_ne _ _ (by decide)) (va_up_ne _ _ (by decide)) (va_up_ne _ _ (by decide)) (fun _ _ => ⟨rfl, rfl⟩) hBd, (va_up_ne _ _ (by decide)), Or.inl (va_up_self _ _ _)⟩, by show va_P (dC, dI) vwCl _ t9.heap; rw [ht9]; exact hP⟩, hS.F ht9⟩) hS.2.2 dX10_word_66
        · have c_26 := mt Int32.toInt_inj.mp c_26
          rw [show (0 : Int32).toInt = 0 from by decide] at c_26
          refine lv_iload_n hx hb dX10_word_27 rfl (lv_at hl 2 rfl) ?_
          refine lv_iconst (v := nI 1) hx hb dX10_word_28 (by decide +kernel) ?_
          refine lv_icmp_eq (tgt := 36) hx hb dX10_word_29 (by decide) (fun c_41 => ?_) (fun c_41 => ?_)
          · have c_41 := congrArg Int32.toInt c_41
            rw [show (nI 1).toInt = 1 from by decide] at c_41
            refine lv_iconst (v := nI 0) hx hb dX10_word_36 (by decide +kernel) ?_
            refine m_put (D := (dC, dI)) (v := .int (nI 0)) (tv := .int) (C := RX10) (T := TX10) (N := 29) hx hb hts bk1 tyX10 tyX10_ok nmX10 hown hK hP hD hS 0 (by decide) r_3 rfl 0 (by decide) (hts (.fieldLink RX10 78 "GradientDeskModel" "thrown" "I") (List.mem_of_getElem? (i := 5) rfl)) (fun _ h9 => h9) rfl (by decide +kernel) rfl rfl (Nat.le_of_ble_eq_true rfl) dX10_word_37 (fun H locs g_42 f_43 fr_44 hP hS => ?_)
            have f_43 : g_42 0 = .inr (13, Rob ad (va_up x 0 (nI 0))) := f_43
            refine lv_aload_n hx hb dX10_word_40 rfl (lv_at hl 0 rfl) ?_
            refine m_get (D := (dC, dI)) (v := .int (nI 0)) (C := RX10) (T := TX10) (N := 29) hx hb hts bk1 hown hK hP 0 (by decide) f_43 rfl 0 (by decide) (hts (.fieldLink RX10 78 "GradientDeskModel" "thrown" "I") (List.mem_of_getElem? (i := 5) rfl)) (fun _ h9 => h9) (congrArg (fun z => some (Value.int z)) (show (va_up x 0 (nI 0)) 0 = (nI 0) from rfl)) dX10_word_41 ?_
            refine lv_if_le (tgt := 51) hx hb dX10_word_44 (by decide) (fun c_45 => ?_) (fun c_45 => absurd c_45 (by decide))
            obtain ⟨rn, hrn, ern, -⟩ := k_nat (x := v) (by omega)
            subst hrn
            obtain ⟨tn, htn, etn, -⟩ := k_nat (x := w1) (by omega)
            subst htn
            obtain ⟨kn, hkn, ekn, -⟩ := k_nat (x := w2) (by omega)
            subst hkn
            refine lv_aload_n hx hb dX10_word_51 rfl (lv_at hl 0 rfl) ?_
            refine lv_iconst (v := nI 2) hx hb dX10_word_52 (by decide +kernel) ?_
            refine lv_sipush (v := nI 1000) hx hb dX10_word_53 (by decide +kernel) ?_
            refine lv_iload_n hx hb dX10_word_56 rfl (lv_at hl 1 rfl) ?_
            refine lv_iadd hx hb dX10_word_57 ?_
            refine lv_topi (fun x_46 e_47 => ?_)
            obtain rfl : x_46 = nI (1000 + rn) := e_47.trans (nI_add 1000 rn)
            refine lv_imul hx hb dX10_word_58 ?_
            refine lv_topi (fun x_48 e_49 => ?_)
            obtain rfl : x_48 = nI (2 * (1000 + rn)) := e_49.trans (pk_mul 2 (1000 + rn))
            refine lv_iload_n hx hb dX10_word_59 rfl (lv_at hl 2 rfl) ?_
            refine lv_iadd hx hb dX10_word_60 ?_
            refine lv_topi (fun x_50 e_51 => ?_)
            obtain rfl : x_50 = nI (2 * (1000 + rn) + tn) := e_51.trans (nI_add (2 * (1000 + rn)) tn)
            refine lv_iload_n hx hb dX10_word_61 rfl (lv_at hl 3 rfl) ?_
            have hV9 : RV ad cA g_42 (va_up x 0 (nI 0)) vf := hV.setx (fun (k : Nat) (hk : k = 1 ∨ k = 2 ∨ k = 3) => (fr_44 k (by omega)).trans (rfl)) f_43
            obtain ⟨pn9, ln9, bn9, hN9, hv9⟩ := hV9
            have hl9 := (hv9 (2 * (1000 + rn) + tn) (by omega)).1
            refine va_calll (va_runV (As := [.int (nI (2 * (1000 + rn) + tn)), .int (nI kn)]) (rest := []) ⟨hx, hb, hml, hown, hts⟩ (c_X10_piece l dC dI A ad cA g_42 (va_up x 0 (nI 0)) pn9 ln9 bn9 (2 * (1000 + rn) + tn) kn hN9 (by omega) hl9 (by omega)) (cwV 2 hts (goodIn_app (goodIn_r [Cond.methodLink RX10 87 yX10_piece, Cond.instanceMethod yX10_piece, Cond.selects RX10 yX10_piece yX10_piece, Cond.initialized RX10] [6, 7, 8, 4] rfl rfl) (goodIn_sub (fun w9 h9 => bk2 w9 h9) gw_X10_piece)) rfl rfl rfl (by decide +kernel) ⟨Nat.le_of_ble_eq_true rfl, Nat.le_of_ble_eq_true rfl⟩) ⟨fun a U g mk q => ⟨q.1, q.2.1, q.2.2.1, LY.moved (u := U) (U := U.calling g mk a) (Vm.Alike.refl U.vm) q.2.2.2⟩, va_recv hK hP (ci := 13) (q0 := 0) rfl (wo_at (by decide) f_43), fun U hU hW => ⟨rfl, by rw [hU]; exact fun q h => hA q (Nat.le_trans hS.1 h), by rw [hU]; exact hP, LY.moved hW.alike hL⟩⟩ rfl rfl hl.1 rfl (lv_room (Nat.le_of_ble_eq_true rfl)) dX10_word_62 ⟨(Nat.le_of_ble_eq_true rfl), (Nat.le_of_ble_eq_true rfl)⟩) hS (fun q _ h => h) (fun q h => h) (fun r_52 u8 t8 H1 locs ht8 hvm8 hw_53 hB hz1 hk1 hS => ?_)
            obtain ⟨⟩ := u8
            try dsimp only at hw_53 hB
            rw [ht8] at hB
            have hP := hB
            generalize H1 = H at hP hS ⊢
            refine lv_l2i hx hb dX10_word_65 rfl ?_
            refine lv_topi (fun x_54 e_55 => ?_)
            refine W.widen (k := 0) (n := 0) (by omega) (by omega) ?_
            exact W.iret (v := x_54) hx hb hr (fun t9 ht9 hW9 => ⟨⟨x_54, (g_42, va_up x 0 (nI 0)), rfl, ⟨RI.num hI0 (hF0.setx (fun (k : Nat) (hk : k = 1 ∨ k = 2 ∨ k = 3) => (fr_44 k (by omega)).trans (rfl)) f_43 rfl) (fun (k : Nat) (hk : (4 ≤ k ∧ k ≤ 11) ∨ k = 16) => (fr_44 k (by omega)).trans (rfl)) (hVO0.same (fun (k : Nat) (hk : 12 ≤ k ∧ k ≤ 19) => (fr_44 k (by omega)).trans (rfl))) (va_up_ne _ _ (by decide)) (va_up_ne _ _ (by decide)) (va_up_ne _ _ (by decide)) (fun _ _ => ⟨rfl, rfl⟩) hBd, (va_up_ne _ _ (by decide)), Or.inl (va_up_self _ _ _)⟩, by show va_P (dC, dI) vwCl _ t9.heap; rw [ht9]; exact hP⟩, hS.F ht9⟩) hS.2.2 dX10_word_66
          · have c_41 := mt Int32.toInt_inj.mp c_41
            rw [show (nI 1).toInt = 1 from by decide] at c_41
            refine lv_iconst (v := nI 2) hx hb dX10_word_32 (by decide +kernel) ?_
            refine lv_goto (tgt := 37) hx hb dX10_word_33 (by decide) ?_
            refine m_put (D := (dC, dI)) (v := .int (nI 2)) (tv := .int) (C := RX10) (T := TX10) (N := 29) hx hb hts bk1 tyX10 tyX10_ok nmX10 hown hK hP hD hS 0 (by decide) r_3 rfl 0 (by decide) (hts (.fieldLink RX10 78 "GradientDeskModel" "thrown" "I") (List.mem_of_getElem? (i := 5) rfl)) (fun _ h9 => h9) rfl (by decide +kernel) rfl rfl (Nat.le_of_ble_eq_true rfl) dX10_word_37 (fun H locs g_56 f_57 fr_58 hP hS => ?_)
            have f_57 : g_56 0 = .inr (13, Rob ad (va_up x 0 (nI 2))) := f_57
            refine lv_aload_n hx hb dX10_word_40 rfl (lv_at hl 0 rfl) ?_
            refine m_get (D := (dC, dI)) (v := .int (nI 2)) (C := RX10) (T := TX10) (N := 29) hx hb hts bk1 hown hK hP 0 (by decide) f_57 rfl 0 (by decide) (hts (.fieldLink RX10 78 "GradientDeskModel" "thrown" "I") (List.mem_of_getElem? (i := 5) rfl)) (fun _ h9 => h9) (congrArg (fun z => some (Value.int z)) (show (va_up x 0 (nI 2)) 0 = (nI 2) from rfl)) dX10_word_41 ?_
            refine lv_if_le (tgt := 51) hx hb dX10_word_44 (by decide) (fun c_59 => absurd c_59 (by decide)) (fun c_59 => ?_)
            refine lv_iconst (v := nI 0) hx hb dX10_word_47 (by decide +kernel) ?_
            refine lv_goto (tgt := 66) hx hb dX10_word_48 (by decide) ?_
            refine W.widen (k := 0) (n := 0) (by omega) (by omega) ?_
            exact W.iret (v := nI 0) hx hb hr (fun t9 ht9 hW9 => ⟨⟨nI 0, (g_56, va_up x 0 (nI 2)), rfl, ⟨RI.num hI0 (hF0.setx (fun (k : Nat) (hk : k = 1 ∨ k = 2 ∨ k = 3) => (fr_58 k (by omega)).trans (rfl)) f_57 rfl) (fun (k : Nat) (hk : (4 ≤ k ∧ k ≤ 11) ∨ k = 16) => (fr_58 k (by omega)).trans (rfl)) (hVO0.same (fun (k : Nat) (hk : 12 ≤ k ∧ k ≤ 19) => (fr_58 k (by omega)).trans (rfl))) (va_up_ne _ _ (by decide)) (va_up_ne _ _ (by decide)) (va_up_ne _ _ (by decide)) (fun _ _ => ⟨rfl, rfl⟩) hBd, (va_up_ne _ _ (by decide)), Or.inr (Or.inr (va_up_self _ _ _))⟩, by show va_P (dC, dI) vwCl _ t9.heap; rw [ht9]; exact hP⟩, hS.F ht9⟩) hS.2.2 dX10_word_66
      · have c_25 := mt (k_le w2 (nI 63)).mpr c_25
        rw [show (nI 63).toInt = 63 from by decide] at c_25
        refine lv_iconst (v := nI 1) hx hb dX10_word_19 (by decide +kernel) ?_
        refine lv_goto (tgt := 37) hx hb dX10_word_20 (by decide) ?_
        refine m_put (D := (dC, dI)) (v := .int (nI 1)) (tv := .int) (C := RX10) (T := TX10) (N := 29) hx hb hts bk1 tyX10 tyX10_ok nmX10 hown hK hP hD hS 0 (by decide) r_3 rfl 0 (by decide) (hts (.fieldLink RX10 78 "GradientDeskModel" "thrown" "I") (List.mem_of_getElem? (i := 5) rfl)) (fun _ h9 => h9) rfl (by decide +kernel) rfl rfl (Nat.le_of_ble_eq_true rfl) dX10_word_37 (fun H locs g_60 f_61 fr_62 hP hS => ?_)
        have f_61 : g_60 0 = .inr (13, Rob ad (va_up x 0 (nI 1))) := f_61
        refine lv_aload_n hx hb dX10_word_40 rfl (lv_at hl 0 rfl) ?_
        refine m_get (D := (dC, dI)) (v := .int (nI 1)) (C := RX10) (T := TX10) (N := 29) hx hb hts bk1 hown hK hP 0 (by decide) f_61 rfl 0 (by decide) (hts (.fieldLink RX10 78 "GradientDeskModel" "thrown" "I") (List.mem_of_getElem? (i := 5) rfl)) (fun _ h9 => h9) (congrArg (fun z => some (Value.int z)) (show (va_up x 0 (nI 1)) 0 = (nI 1) from rfl)) dX10_word_41 ?_
        refine lv_if_le (tgt := 51) hx hb dX10_word_44 (by decide) (fun c_63 => absurd c_63 (by decide)) (fun c_63 => ?_)
        refine lv_iconst (v := nI 0) hx hb dX10_word_47 (by decide +kernel) ?_
        refine lv_goto (tgt := 66) hx hb dX10_word_48 (by decide) ?_
        refine W.widen (k := 0) (n := 0) (by omega) (by omega) ?_
        exact W.iret (v := nI 0) hx hb hr (fun t9 ht9 hW9 => ⟨⟨nI 0, (g_60, va_up x 0 (nI 1)), rfl, ⟨RI.num hI0 (hF0.setx (fun (k : Nat) (hk : k = 1 ∨ k = 2 ∨ k = 3) => (fr_62 k (by omega)).trans (rfl)) f_61 rfl) (fun (k : Nat) (hk : (4 ≤ k ∧ k ≤ 11) ∨ k = 16) => (fr_62 k (by omega)).trans (rfl)) (hVO0.same (fun (k : Nat) (hk : 12 ≤ k ∧ k ≤ 19) => (fr_62 k (by omega)).trans (rfl))) (va_up_ne _ _ (by decide)) (va_up_ne _ _ (by decide)) (va_up_ne _ _ (by decide)) (fun _ _ => ⟨rfl, rfl⟩) hBd, (va_up_ne _ _ (by decide)), Or.inr (Or.inl (va_up_self _ _ _))⟩, by show va_P (dC, dI) vwCl _ t9.heap; rw [ht9]; exact hP⟩, hS.F ht9⟩) hS.2.2 dX10_word_66
  · skip
    refine lv_if_ne (tgt := 19) hx hb dX10_word_6 (by decide) (fun c_64 => ?_) (fun c_64 => absurd c_64 (by decide))
    refine lv_iconst (v := nI 1) hx hb dX10_word_19 (by decide +kernel) ?_
    refine lv_goto (tgt := 37) hx hb dX10_word_20 (by decide) ?_
    refine m_put (D := (dC, dI)) (v := .int (nI 1)) (tv := .int) (C := RX10) (T := TX10) (N := 29) hx hb hts bk1 tyX10 tyX10_ok nmX10 hown hK hP hD hS 0 (by decide) r_3 rfl 0 (by decide) (hts (.fieldLink RX10 78 "GradientDeskModel" "thrown" "I") (List.mem_of_getElem? (i := 5) rfl)) (fun _ h9 => h9) rfl (by decide +kernel) rfl rfl (Nat.le_of_ble_eq_true rfl) dX10_word_37 (fun H locs g_65 f_66 fr_67 hP hS => ?_)
    have f_66 : g_65 0 = .inr (13, Rob ad (va_up x 0 (nI 1))) := f_66
    refine lv_aload_n hx hb dX10_word_40 rfl (lv_at hl 0 rfl) ?_
    refine m_get (D := (dC, dI)) (v := .int (nI 1)) (C := RX10) (T := TX10) (N := 29) hx hb hts bk1 hown hK hP 0 (by decide) f_66 rfl 0 (by decide) (hts (.fieldLink RX10 78 "GradientDeskModel" "thrown" "I") (List.mem_of_getElem? (i := 5) rfl)) (fun _ h9 => h9) (congrArg (fun z => some (Value.int z)) (show (va_up x 0 (nI 1)) 0 = (nI 1) from rfl)) dX10_word_41 ?_
    refine lv_if_le (tgt := 51) hx hb dX10_word_44 (by decide) (fun c_68 => absurd c_68 (by decide)) (fun c_68 => ?_)
    refine lv_iconst (v := nI 0) hx hb dX10_word_47 (by decide +kernel) ?_
    refine lv_goto (tgt := 66) hx hb dX10_word_48 (by decide) ?_
    refine W.widen (k := 0) (n := 0) (by omega) (by omega) ?_
    exact W.iret (v := nI 0) hx hb hr (fun t9 ht9 hW9 => ⟨⟨nI 0, (g_65, va_up x 0 (nI 1)), rfl, ⟨RI.num hI0 (hF0.setx (fun (k : Nat) (hk : k = 1 ∨ k = 2 ∨ k = 3) => (fr_67 k (by omega)).trans (rfl)) f_66 rfl) (fun (k : Nat) (hk : (4 ≤ k ∧ k ≤ 11) ∨ k = 16) => (fr_67 k (by omega)).trans (rfl)) (hVO0.same (fun (k : Nat) (hk : 12 ≤ k ∧ k ≤ 19) => (fr_67 k (by omega)).trans (rfl))) (va_up_ne _ _ (by decide)) (va_up_ne _ _ (by decide)) (va_up_ne _ _ (by decide)) (fun _ _ => ⟨rfl, rfl⟩) hBd, (va_up_ne _ _ (by decide)), Or.inr (Or.inl (va_up_self _ _ _))⟩, by show va_P (dC, dI) vwCl _ t9.heap; rw [ht9]; exact hP⟩, hS.F ht9⟩) hS.2.2 dX10_word_66
