def wd_X10_putPart : List Cond := .code yX10_putPart cX10_putPart 2 none :: (([.fieldLink RX10 29 "GradientDeskModel" "sort" "[I", .fieldLink RX10 32 "GradientDeskModel" "first" "[I", .methodLink RX10 284 yX10_put, .instanceMethod yX10_put, .selects RX10 yX10_put yX10_put, .initialized RX10, .fieldLink RX10 18 "GradientDeskModel" "below" "[Z", .methodLink RX10 287 yX10_putSize, .instanceMethod yX10_putSize, .selects RX10 yX10_putSize yX10_putSize, .methodLink RX10 117 yX10_bitsOf, .instanceMethod yX10_bitsOf, .selects RX10 yX10_bitsOf yX10_bitsOf] : List Cond) ++ (u_ws RX10 TX10 29 ++ (wd_X10_put ++ (wd_X10_putSize ++ (wd_X10_bitsOf ++ ([]))))))
theorem gw_X10_putPart : wd_X10_putPart.all goodWord = true := k_allc rfl (k_all (by decide +kernel) (k_all (gu_X10) (k_all (gw_X10_put) (k_all (gw_X10_putSize) (k_all (gw_X10_bitsOf) (rfl))))))
set_option maxHeartbeats 4000000 in
set_option maxRecDepth 100000 in
theorem c_X10_putPart (l : Launch) (dC : Nat → ClassId) (dI : Nat → Nat → Nat) (A : Nat → Prop) (ad : Nat → Nat) (cA : Nat → ClassId) (g : Nat → va_E) (x : Nat → Int32) (pf : Nat → Int) (qf : Nat → Nat) (pt : Nat → Nat → Int) (L : List PD) (k1 : Nat) (f17 : Nat → Int) (f18 : Nat → Int) (cn : Nat) (hF : RF ad cA g x pf qf) (hPt : PTF cA g pt) (hM : MT L pt pf qf) (hL2 : L.length ≤ 200) (hW : WFL L) (ik : k1 < L.length) (hso : (gd L k1).1 < 2) (h17 : g 17 = .inl (cA 17, 256, .inl (fun j => iI (f17 j)))) (h18 : g 18 = .inl (cA 18, 200, .inl (fun j => iI (f18 j)))) (hx9c : x 9 = nI cn) (hcn : cn ≤ 40000) : Met l yX10_putPart wd_X10_putPart ({ frames := 30, cells := 0, slots := 0, locals := 600 }) (va_Pc [.ref (ad 0), .int (nI k1)] (PR NSr tyr dC dI A ad cA g)) (va_Qv (fun (u : (Nat → va_E) × (Nat → Int)) => match u with | (g2, f3) => (∀ k, k ≠ 0 ∧ k ≠ 1 ∧ k ≠ 2 ∧ k ≠ 3 ∧ k ≠ 17 ∧ k ≠ 18 → g2 k = g k) ∧ RF ad cA g2 (va_up x 9 (nI (cn + (ptL (gd L k1)).length))) pf qf ∧ g2 17 = .inl (cA 17, 256, .inl (fun j => iI (dwr f17 cn (ptL (gd L k1)) j))) ∧ g2 18 = .inl (cA 18, 200, .inl (fun j => iI (f3 j))) ∧ 1 ≤ (ptL (gd L k1)).length ∧ (ptL (gd L k1)).length ≤ 300) (fun (u : (Nat → va_E) × (Nat → Int)) (t : State) => va_P (dC, dI) vwCl (wo ad NSr u.1) t.heap) A) (0) (0) A := by
  refine Met.ofW (cc := cX10_putPart) (maxL := 2) (ret := none) (by decide) rfl ?_
  intro p e s m args below meth c s₁ B hml hv
  obtain ⟨rfl, hA, hP, hL⟩ := hv
  have hx := B.exec
  have hb := B.bytes
  have hr := B.returns
  have hts := atoms_spec (ws := wd_X10_putPart) B.pre
  have hown : s.vm.findClass RX10 = some m.cls := findClass_of_methodNamed B.named
  have hlocks := B.notSynchronized
  have hK := hL.1
  have hD : ∀ g, va_D A (wo ad NSr g) := fun g => wo_D hL.2.1 hL.2.2 g
  have hS : va_S A s.heap s.heap [] := va_S.rf
  have bk0 : ∀ w ∈ u_ws RX10 TX10 29, w ∈ wd_X10_putPart := fun _ h => List.mem_cons_of_mem _ (List.mem_append_right _ (List.mem_append_left _ h))
  have bk1 : ∀ w ∈ wd_X10_put, w ∈ wd_X10_putPart := fun _ h => List.mem_cons_of_mem _ (List.mem_append_right _ (List.mem_append_right _ (List.mem_append_left _ h)))
  have bk2 : ∀ w ∈ wd_X10_putSize, w ∈ wd_X10_putPart := fun _ h => List.mem_cons_of_mem _ (List.mem_append_right _ (List.mem_append_right _ (List.mem_append_right _ (List.mem_append_left _ h))))
  have bk3 : ∀ w ∈ wd_X10_bitsOf, w ∈ wd_X10_putPart := fun _ h => List.mem_cons_of_mem _ (List.mem_append_right _ (List.mem_append_right _ (List.mem_append_right _ (List.mem_append_right _ (List.mem_append_left _ h)))))
  have hl := lv_entry ([.ref (ad 0), .int (nI k1)]) (n := 2) (Nat.le_of_ble_eq_true rfl)
  rw [lg_entry_eq]
  generalize (lg_sl ([.ref (ad 0), .int (nI k1)]) ++ List.replicate (2 - (lg_sl ([.ref (ad 0), .int (nI k1)])).length) Slot.unset).toArray = ls at hl ⊢
  have hl : lv_has ls 2 [(0, .ref (ad 0)), (1, .int (nI k1))] := hl
  have hF0 := hF
  obtain ⟨vf, hV, hq⟩ := hF
  have hc_1 := hV
  obtain ⟨pnz_2, lnz_2, bnz_2, hRz_2, hvz_2⟩ := hc_1
  obtain ⟨r_3, r_4, r_5, r_6, r_7, r_8, r_9⟩ := hRz_2
  obtain ⟨p_10, p_11, p_12, p_13, p_14, p_15, hpt_16⟩ := hPt
  obtain ⟨m0, m1, -, -, -, -, m6⟩ := hM k1 ik
  obtain ⟨-, -, -, w4, w5, -, w7, w8, -⟩ := hW k1 ik
  have sg9 := (hvz_2 (2 * k1) (by omega)).2.2
  have sb9 := r_9 (2 * k1)
  refine lv_aload_n hx hb dX10_putPart_0 rfl (lv_at hl 0 rfl) ?_
  refine m_get (D := (dC, dI)) (v := .ref (ad 5)) (C := RX10) (T := TX10) (N := 29) hx hb hts bk0 hown hK hP 0 (by decide) r_3 rfl 7 (by decide) (hts (.fieldLink RX10 29 "GradientDeskModel" "sort" "[I") (List.mem_of_getElem? (i := 1) rfl)) (fun _ h9 => h9) rfl dX10_putPart_1 ?_
  refine lv_iload_n hx hb dX10_putPart_4 rfl (lv_at hl 1 rfl) ?_
  refine m_iald hx hb hK hP 5 (by decide) rfl p_10 (i := k1) (by omega) (by decide) dX10_putPart_5 ?_
  have b_17 := (hpt_16 0) k1
  refine lv_if_ne (tgt := 64) hx hb dX10_putPart_6 (by decide) (fun c_18 => ?_) (fun c_18 => ?_)
  · have c_18 := mt (k_iEQ (a := (pt 0) k1) (b := 0) rfl (show nI 0 = iI 0 from by decide) (by omega) (by omega)).mpr c_18
    refine lv_aload_n hx hb dX10_putPart_64 rfl (lv_at hl 0 rfl) ?_
    refine lv_bipush (v := nI 97) hx hb dX10_putPart_65 (by decide +kernel) ?_
    refine lv_aload_n hx hb dX10_putPart_67 rfl (lv_at hl 0 rfl) ?_
    refine m_get (D := (dC, dI)) (v := .ref (ad 6)) (C := RX10) (T := TX10) (N := 29) hx hb hts bk0 hown hK hP 0 (by decide) r_3 rfl 8 (by decide) (hts (.fieldLink RX10 32 "GradientDeskModel" "first" "[I") (List.mem_of_getElem? (i := 2) rfl)) (fun _ h9 => h9) rfl dX10_putPart_68 ?_
    refine lv_iload_n hx hb dX10_putPart_71 rfl (lv_at hl 1 rfl) ?_
    refine m_iald hx hb hK hP 6 (by decide) rfl p_11 (i := k1) (by omega) (by decide) dX10_putPart_72 ?_
    have b_19 := (hpt_16 1) k1
    refine lv_iadd hx hb dX10_putPart_73 ?_
    refine lv_topi (fun x_20 e_21 => ?_)
    obtain rfl : x_20 = iI (97 + ((pt 1) k1)) := e_21.trans (iI_addP (show nI 97 = iI 97 from by decide) rfl)
    obtain ⟨v1, hv1, ev1, -⟩ := w8 (by omega)
    refine va_callv (va_runV (As := [.int (iI (97 + ((pt 1) k1)))]) (rest := []) ⟨hx, hb, hml, hown, hts⟩ (c_X10_put l dC dI A ad cA g x f17 cn (97 + pt 1 k1) r_3 h17 hx9c (by omega)) (cwV 1 hts (goodIn_app (goodIn_r [Cond.methodLink RX10 284 yX10_put, Cond.instanceMethod yX10_put, Cond.selects RX10 yX10_put yX10_put, Cond.initialized RX10] [3, 4, 5, 6] rfl rfl) (goodIn_sub (fun w9 h9 => bk1 w9 h9) gw_X10_put)) rfl rfl rfl (by decide +kernel) ⟨Nat.le_of_ble_eq_true rfl, Nat.le_of_ble_eq_true rfl⟩) ⟨fun a U g mk q => ⟨q.1, q.2.1, q.2.2.1, LY.moved (u := U) (U := U.calling g mk a) (Vm.Alike.refl U.vm) q.2.2.2⟩, va_recv hK hP (ci := 13) (q0 := 0) rfl (wo_at (by decide) r_3), fun U hU hW => ⟨rfl, by rw [hU]; exact fun q h => hA q (Nat.le_trans hS.1 h), by rw [hU]; exact hP, LY.moved hW.alike hL⟩⟩ rfl rfl hl.1 rfl (lv_room (Nat.le_of_ble_eq_true rfl)) dX10_putPart_74 ⟨(Nat.le_of_ble_eq_true rfl), (Nat.le_of_ble_eq_true rfl)⟩) hS (fun q _ h => h) (fun q h => h) (fun u8 t8 H1 locs ht8 hvm8 hw_22 hB hz1 hk1 hS => ?_)
    obtain ⟨g_23, rfl⟩ : ∃ z, z = u8 := ⟨_, rfl⟩
    try dsimp only at hw_22 hB
    rw [ht8] at hB
    have hP := hB
    generalize H1 = H at hP hS ⊢
    obtain ⟨fr_24, hobv, h17v⟩ := hw_22
    rw [m1] at h17v
    have hpl : ptL (gd L k1) = [97 + (gd L k1).2.1] := if_neg (by omega)
    have hFv : RF ad cA g_23 (va_up x 9 (nI (cn + 1))) pf qf := hF0.setx (fun (k : Nat) (hk : k = 1 ∨ k = 2 ∨ k = 3) => (fr_24 k (by omega)).trans (rfl)) hobv rfl
    rw [hpl]
    have f_25 : g_23 18 = .inl (cA 18, 200, .inl (fun j => iI (f18 j))) := (fr_24 18 (by omega)).trans h18
    refine W.widen (k := 0) (n := 0) (by omega) (by omega) ?_
    exact W.vret hx hb hr (fun t9 ht9 hW9 => ⟨⟨(g_23, f18), rfl, ⟨(fun (k : Nat) (hk : k ≠ 0 ∧ k ≠ 1 ∧ k ≠ 2 ∧ k ≠ 3 ∧ k ≠ 17 ∧ k ≠ 18) => (fr_24 k (by omega)).trans (rfl)), hFv, h17v, f_25, Nat.le_refl _, (show 1 ≤ 300 by decide)⟩, by show va_P (dC, dI) vwCl _ t9.heap; rw [ht9]; exact hP⟩, hS.F ht9⟩) hS.2.2 dX10_putPart_77
  · have c_18 := (k_iEQ (a := (pt 0) k1) (b := 0) rfl (show nI 0 = iI 0 from by decide) (by omega) (by omega)).mp c_18
    have s0 : (gd L k1).1 = 0 := by omega
    obtain ⟨n1, n2⟩ := m6 s0
    obtain ⟨d0, b1, b2, b3⟩ := w7 s0
    obtain ⟨z1, z2, -⟩ := hq k1 (by omega)
    have hp9 : vf (2 * k1) = (gd L k1).2.2.2.2.2.2.1 := z1.trans n1
    have hq9 : vf (2 * k1 + 1) = (((gd L k1).2.2.2.2.2.2.2 : Nat) : Int) := by rw [z2, n2]
    have hpb : (gd L k1).2.2.2.2.2.2.1.natAbs < 2 ^ 410 := bl_le.mp (by omega)
    have hqb : (gd L k1).2.2.2.2.2.2.2 < 2 ^ 410 := by rcases b2 with h | h; rw [h]; exact Nat.one_lt_two_pow (by decide); exact bl_le.mp (by omega)
    have hq0 := b3.1
    refine lv_aload_n hx hb dX10_putPart_9 rfl (lv_at hl 0 rfl) ?_
    refine m_get (D := (dC, dI)) (v := .ref (ad 3)) (C := RX10) (T := TX10) (N := 29) hx hb hts bk0 hown hK hP 0 (by decide) r_3 rfl 3 (by decide) (hts (.fieldLink RX10 18 "GradientDeskModel" "below" "[Z") (List.mem_of_getElem? (i := 7) rfl)) (fun _ h9 => h9) rfl dX10_putPart_10 ?_
    refine lv_iconst (v := nI 2) hx hb dX10_putPart_13 (by decide +kernel) ?_
    refine lv_iload_n hx hb dX10_putPart_14 rfl (lv_at hl 1 rfl) ?_
    refine lv_imul hx hb dX10_putPart_15 ?_
    refine lv_topi (fun x_26 e_27 => ?_)
    obtain rfl : x_26 = nI (2 * k1) := e_27.trans (pk_mul 2 k1)
    refine m_zald hx hb hK hP 3 (by decide) rfl r_6 (i := 2 * k1) (by omega) (by decide) dX10_putPart_16 ?_
    have b_28 := r_9 (2 * k1)
    refine lv_if_eq (tgt := 26) hx hb dX10_putPart_17 (by decide) (fun c_29 => ?_) (fun c_29 => ?_)
    · have c_29 := (nI_eq (a := (bnz_2 (2 * k1))) (b := 0) (by omega) (by decide)).mp c_29
      refine lv_aload_n hx hb dX10_putPart_26 rfl (lv_at hl 0 rfl) ?_
      refine lv_iconst (v := nI 2) hx hb dX10_putPart_27 (by decide +kernel) ?_
      refine lv_iload_n hx hb dX10_putPart_28 rfl (lv_at hl 1 rfl) ?_
      refine lv_imul hx hb dX10_putPart_29 ?_
      refine lv_topi (fun x_30 e_31 => ?_)
      obtain rfl : x_30 = nI (2 * k1) := e_31.trans (pk_mul 2 k1)
      have ep : (vf (2 * k1)).natAbs = (gd L k1).2.2.2.2.2.2.1.natAbs := by rw [hp9]
      refine va_callv (va_runV (As := [.int (nI (2 * k1))]) (rest := []) ⟨hx, hb, hml, hown, hts⟩ (c_X10_putSize l dC dI A ad cA g x vf (2 * k1) f17 f18 cn hV (by omega) (by rw [ep]; exact hpb) h17 h18 hx9c (by omega)) (cwV 1 hts (goodIn_app (goodIn_r [Cond.methodLink RX10 287 yX10_putSize, Cond.instanceMethod yX10_putSize, Cond.selects RX10 yX10_putSize yX10_putSize, Cond.initialized RX10] [8, 9, 10, 6] rfl rfl) (goodIn_sub (fun w9 h9 => bk2 w9 h9) gw_X10_putSize)) rfl rfl rfl (by decide +kernel) ⟨Nat.le_of_ble_eq_true rfl, Nat.le_of_ble_eq_true rfl⟩) ⟨fun a U g mk q => ⟨q.1, q.2.1, q.2.2.1, LY.moved (u := U) (U := U.calling g mk a) (Vm.Alike.refl U.vm) q.2.2.2⟩, va_recv hK hP (ci := 13) (q0 := 0) rfl (wo_at (by decide) r_3), fun U hU hW => ⟨rfl, by rw [hU]; exact fun q h => hA q (Nat.le_trans hS.1 h), by rw [hU]; exact hP, LY.moved hW.alike hL⟩⟩ rfl rfl hl.1 rfl (lv_room (Nat.le_of_ble_eq_true rfl)) dX10_putPart_30 ⟨(Nat.le_of_ble_eq_true rfl), (Nat.le_of_ble_eq_true rfl)⟩) hS (fun q _ h => h) (fun q h => h) (fun u8 t8 H1 locs ht8 hvm8 hw_32 hB hz1 hk1 hS => ?_)
      obtain ⟨g_33, vf2_34, f3_35⟩ := u8
      try dsimp only at hw_32 hB
      rw [ht8] at hB
      have hP := hB
      generalize H1 = H at hP hS ⊢
      obtain ⟨fr_36, hVp, hvop, h17p, h18p, hlbp⟩ := hw_32
      rw [ep] at hVp h17p hlbp
      have h1p := decL_1 ((gd L k1).2.2.2.2.2.2.1.natAbs)
      have hvop : ∀ j, j < 2060 → vf2_34 j = vf j := fun j hj => (hvop j hj)
      have hobp : g_33 0 = .inr (13, Rob ad (va_up x 9 (nI (cn + (decL ((gd L k1).2.2.2.2.2.2.1.natAbs)).length)))) := hVp.obj
      refine lv_aload_n hx hb dX10_putPart_33 rfl (lv_at hl 0 rfl) ?_
      refine lv_iconst (v := nI 2) hx hb dX10_putPart_34 (by decide +kernel) ?_
      refine lv_iload_n hx hb dX10_putPart_35 rfl (lv_at hl 1 rfl) ?_
      refine lv_imul hx hb dX10_putPart_36 ?_
      refine lv_topi (fun x_37 e_38 => ?_)
      obtain rfl : x_37 = nI (2 * k1) := e_38.trans (pk_mul 2 k1)
      refine lv_iconst (v := nI 1) hx hb dX10_putPart_37 (by decide +kernel) ?_
      refine lv_iadd hx hb dX10_putPart_38 ?_
      refine lv_topi (fun x_39 e_40 => ?_)
      obtain rfl : x_39 = nI (2 * k1 + 1) := e_40.trans (nI_add (2 * k1) 1)
      refine va_calli (va_runV (As := [.int (nI (2 * k1 + 1))]) (rest := []) ⟨hx, hb, hml, hown, hts⟩ (c_X10_bitsOf l dC dI A ad cA g_33 (va_up x 9 (nI (cn + (decL ((gd L k1).2.2.2.2.2.2.1.natAbs)).length))) vf2_34 (2 * k1 + 1) hVp (by omega)) (cwV 1 hts (goodIn_app (goodIn_r [Cond.methodLink RX10 117 yX10_bitsOf, Cond.instanceMethod yX10_bitsOf, Cond.selects RX10 yX10_bitsOf yX10_bitsOf, Cond.initialized RX10] [11, 12, 13, 6] rfl rfl) (goodIn_sub (fun w9 h9 => bk3 w9 h9) gw_X10_bitsOf)) rfl rfl rfl (by decide +kernel) ⟨Nat.le_of_ble_eq_true rfl, Nat.le_of_ble_eq_true rfl⟩) ⟨fun a U g mk q => ⟨q.1, q.2.1, q.2.2.1, LY.moved (u := U) (U := U.calling g mk a) (Vm.Alike.refl U.vm) q.2.2.2⟩, va_recv hK hP (ci := 13) (q0 := 0) rfl (wo_at (by decide) hobp), fun U hU hW => ⟨rfl, by rw [hU]; exact fun q h => hA q (Nat.le_trans hS.1 h), by rw [hU]; exact hP, LY.moved hW.alike hL⟩⟩ rfl rfl hl.1 rfl (lv_room (Nat.le_of_ble_eq_true rfl)) dX10_putPart_39 ⟨(Nat.le_of_ble_eq_true rfl), (Nat.le_of_ble_eq_true rfl)⟩) hS (fun q _ h => h) (fun q h => h) (fun r_41 u8 t8 H1 locs ht8 hvm8 hw_42 hB hz1 hk1 hS => ?_)
      obtain ⟨⟩ := u8
      try dsimp only at hw_42 hB
      rw [ht8] at hB
      have hP := hB
      generalize H1 = H at hP hS ⊢
      obtain rfl := hw_42
      have eb : (vf2_34 (2 * k1 + 1)).natAbs = (gd L k1).2.2.2.2.2.2.2 := by rw [hvop _ (by omega), hq9]; exact Int.natAbs_natCast _
      rw [eb]
      obtain ⟨bq, hbq⟩ : ∃ z9, z9 = bl (gd L k1).2.2.2.2.2.2.2 := ⟨_, rfl⟩
      rw [← hbq]
      have lbq : bq ≤ 410 := by rw [hbq]; exact bl_le.mpr hqb
      refine lv_iconst (v := nI 1) hx hb dX10_putPart_42 (by decide +kernel) ?_
      refine lv_icmp_le (tgt := 77) hx hb dX10_putPart_43 (by decide) (fun c_43 => ?_) (fun c_43 => ?_)
      · have c_43 := (nI_leI (a := bq) (b := 1) (by omega) (by decide)).mp c_43
        have hpl : ptL (gd L k1) = (([] ++ decL (gd L k1).2.2.2.2.2.2.1.natAbs) ++ ([] : List Int)) := by rw [ptL_n s0, if_neg (by omega), if_pos (bl_one (by have := bl_pos.mpr hq0; omega))]
        have hll : (ptL (gd L k1)).length = 0 + (decL (gd L k1).2.2.2.2.2.2.1.natAbs).length + 0 := by rw [hpl]; simp only [List.length_append, List.length_cons, List.length_nil]
        have hdw : (dwr f17 (cn) (decL ((gd L k1).2.2.2.2.2.2.1.natAbs))) = dwr f17 cn (ptL (gd L k1)) := by rw [hpl]; exact pw_nn.symm
        have hxx : (va_up x 9 (nI (cn + (decL ((gd L k1).2.2.2.2.2.2.1.natAbs)).length))) = va_up x 9 (nI (cn + (ptL (gd L k1)).length)) := by rw [hll]; funext j; by_cases h8 : j = 9; rw [h8, va_up_self, va_up_self]; congr 1; omega; simp only [va_up_ne _ _ h8]
        have hFe : RF ad cA g_33 (va_up x 9 (nI (cn + (decL ((gd L k1).2.2.2.2.2.2.1.natAbs)).length))) pf qf := ⟨vf2_34, hVp, fun f hf => by rw [hvop (2 * f) (by omega), hvop (2 * f + 1) (by omega)]; exact hq f hf⟩
        rw [hxx] at hFe
        have h17e := h17p
        rw [hdw] at h17e
        refine W.widen (k := 0) (n := 0) (by omega) (by omega) ?_
        exact W.vret hx hb hr (fun t9 ht9 hW9 => ⟨⟨(g_33, f3_35), rfl, ⟨(fun (k : Nat) (hk : k ≠ 0 ∧ k ≠ 1 ∧ k ≠ 2 ∧ k ≠ 3 ∧ k ≠ 17 ∧ k ≠ 18) => (fr_36 k (by omega)).trans (rfl)), hFe, h17e, h18p, by omega, by omega⟩, by show va_P (dC, dI) vwCl _ t9.heap; rw [ht9]; exact hP⟩, hS.F ht9⟩) hS.2.2 dX10_putPart_77
      · have c_43 := mt (nI_leI (a := bq) (b := 1) (by omega) (by decide)).mpr c_43
        refine lv_aload_n hx hb dX10_putPart_46 rfl (lv_at hl 0 rfl) ?_
        refine lv_bipush (v := nI 47) hx hb dX10_putPart_47 (by decide +kernel) ?_
        rw [show nI 47 = iI 47 from by decide]
        refine va_callv (va_runV (As := [.int (iI 47)]) (rest := []) ⟨hx, hb, hml, hown, hts⟩ (c_X10_put l dC dI A ad cA g_33 (va_up x 9 (nI (cn + (decL ((gd L k1).2.2.2.2.2.2.1.natAbs)).length))) (dwr f17 (cn) (decL ((gd L k1).2.2.2.2.2.2.1.natAbs))) (cn + (decL ((gd L k1).2.2.2.2.2.2.1.natAbs)).length) 47 hobp h17p (va_up_self _ _ _) (by omega)) (cwV 1 hts (goodIn_app (goodIn_r [Cond.methodLink RX10 284 yX10_put, Cond.instanceMethod yX10_put, Cond.selects RX10 yX10_put yX10_put, Cond.initialized RX10] [3, 4, 5, 6] rfl rfl) (goodIn_sub (fun w9 h9 => bk1 w9 h9) gw_X10_put)) rfl rfl rfl (by decide +kernel) ⟨Nat.le_of_ble_eq_true rfl, Nat.le_of_ble_eq_true rfl⟩) ⟨fun a U g mk q => ⟨q.1, q.2.1, q.2.2.1, LY.moved (u := U) (U := U.calling g mk a) (Vm.Alike.refl U.vm) q.2.2.2⟩, va_recv hK hP (ci := 13) (q0 := 0) rfl (wo_at (by decide) hobp), fun U hU hW => ⟨rfl, by rw [hU]; exact fun q h => hA q (Nat.le_trans hS.1 h), by rw [hU]; exact hP, LY.moved hW.alike hL⟩⟩ rfl rfl hl.1 rfl (lv_room (Nat.le_of_ble_eq_true rfl)) dX10_putPart_49 ⟨(Nat.le_of_ble_eq_true rfl), (Nat.le_of_ble_eq_true rfl)⟩) hS (fun q _ h => h) (fun q h => h) (fun u8 t8 H1 locs ht8 hvm8 hw_44 hB hz1 hk1 hS => ?_)
        obtain ⟨g_45, rfl⟩ : ∃ z, z = u8 := ⟨_, rfl⟩
        try dsimp only at hw_44 hB
        rw [ht8] at hB
        have hP := hB
        generalize H1 = H at hP hS ⊢
        obtain ⟨fr_46, hob47, h1747⟩ := hw_44
        have h1747 : g_45 17 = .inl (cA 17, 256, .inl (fun j => iI ((dwr (dwr f17 (cn) (decL ((gd L k1).2.2.2.2.2.2.1.natAbs))) (cn + (decL ((gd L k1).2.2.2.2.2.2.1.natAbs)).length) [47]) j))) := h1747
        have hV_47 : RV ad cA g_45 (va_up (va_up x 9 (nI (cn + (decL ((gd L k1).2.2.2.2.2.2.1.natAbs)).length))) 9 (nI (cn + (decL ((gd L k1).2.2.2.2.2.2.1.natAbs)).length + 1))) vf2_34 := hVp.setx (fun (k : Nat) (hk : k = 1 ∨ k = 2 ∨ k = 3) => (fr_46 k (by omega)).trans (rfl)) hob47
        refine lv_aload_n hx hb dX10_putPart_52 rfl (lv_at hl 0 rfl) ?_
        refine lv_iconst (v := nI 2) hx hb dX10_putPart_53 (by decide +kernel) ?_
        refine lv_iload_n hx hb dX10_putPart_54 rfl (lv_at hl 1 rfl) ?_
        refine lv_imul hx hb dX10_putPart_55 ?_
        refine lv_topi (fun x_48 e_49 => ?_)
        obtain rfl : x_48 = nI (2 * k1) := e_49.trans (pk_mul 2 k1)
        refine lv_iconst (v := nI 1) hx hb dX10_putPart_56 (by decide +kernel) ?_
        refine lv_iadd hx hb dX10_putPart_57 ?_
        refine lv_topi (fun x_50 e_51 => ?_)
        obtain rfl : x_50 = nI (2 * k1 + 1) := e_51.trans (nI_add (2 * k1) 1)
        have eq : (vf2_34 (2 * k1 + 1)).natAbs = (gd L k1).2.2.2.2.2.2.2 := by rw [hvop _ (by omega), hq9]; exact Int.natAbs_natCast _
        have f_52 : g_45 18 = .inl (cA 18, 200, .inl (fun j => iI (f3_35 j))) := (fr_46 18 (by omega)).trans h18p
        refine va_callv (va_runV (As := [.int (nI (2 * k1 + 1))]) (rest := []) ⟨hx, hb, hml, hown, hts⟩ (c_X10_putSize l dC dI A ad cA g_45 (va_up (va_up x 9 (nI (cn + (decL ((gd L k1).2.2.2.2.2.2.1.natAbs)).length))) 9 (nI (cn + (decL ((gd L k1).2.2.2.2.2.2.1.natAbs)).length + 1))) vf2_34 (2 * k1 + 1) (dwr (dwr f17 (cn) (decL ((gd L k1).2.2.2.2.2.2.1.natAbs))) (cn + (decL ((gd L k1).2.2.2.2.2.2.1.natAbs)).length) [47]) f3_35 (cn + (decL ((gd L k1).2.2.2.2.2.2.1.natAbs)).length + 1) hV_47 (by omega) (by rw [eq]; exact hqb) h1747 f_52 (va_up_self _ _ _) (by omega)) (cwV 1 hts (goodIn_app (goodIn_r [Cond.methodLink RX10 287 yX10_putSize, Cond.instanceMethod yX10_putSize, Cond.selects RX10 yX10_putSize yX10_putSize, Cond.initialized RX10] [8, 9, 10, 6] rfl rfl) (goodIn_sub (fun w9 h9 => bk2 w9 h9) gw_X10_putSize)) rfl rfl rfl (by decide +kernel) ⟨Nat.le_of_ble_eq_true rfl, Nat.le_of_ble_eq_true rfl⟩) ⟨fun a U g mk q => ⟨q.1, q.2.1, q.2.2.1, LY.moved (u := U) (U := U.calling g mk a) (Vm.Alike.refl U.vm) q.2.2.2⟩, va_recv hK hP (ci := 13) (q0 := 0) rfl (wo_at (by decide) hob47), fun U hU hW => ⟨rfl, by rw [hU]; exact fun q h => hA q (Nat.le_trans hS.1 h), by rw [hU]; exact hP, LY.moved hW.alike hL⟩⟩ rfl rfl hl.1 rfl (lv_room (Nat.le_of_ble_eq_true rfl)) dX10_putPart_58 ⟨(Nat.le_of_ble_eq_true rfl), (Nat.le_of_ble_eq_true rfl)⟩) hS (fun q _ h => h) (fun q h => h) (fun u8 t8 H1 locs ht8 hvm8 hw_53 hB hz1 hk1 hS => ?_)
        obtain ⟨g_54, vf2_55, f3_56⟩ := u8
        try dsimp only at hw_53 hB
        rw [ht8] at hB
        have hP := hB
        generalize H1 = H at hP hS ⊢
        obtain ⟨fr_57, hVq, hvoq, h17q, h18q, hlbq⟩ := hw_53
        rw [eq] at hVq h17q hlbq
        have h1q := decL_1 ((gd L k1).2.2.2.2.2.2.2)
        have hvoq : ∀ j, j < 2060 → vf2_55 j = vf j := fun j hj => (hvoq j hj).trans (hvop j hj)
        have hobq : g_54 0 = .inr (13, Rob ad (va_up (va_up (va_up x 9 (nI (cn + (decL ((gd L k1).2.2.2.2.2.2.1.natAbs)).length))) 9 (nI (cn + (decL ((gd L k1).2.2.2.2.2.2.1.natAbs)).length + 1))) 9 (nI (cn + (decL ((gd L k1).2.2.2.2.2.2.1.natAbs)).length + 1 + (decL ((gd L k1).2.2.2.2.2.2.2)).length)))) := hVq.obj
        refine lv_goto (tgt := 77) hx hb dX10_putPart_61 (by decide) ?_
        have hpl : ptL (gd L k1) = (([] ++ decL (gd L k1).2.2.2.2.2.2.1.natAbs) ++ (47 :: decL (gd L k1).2.2.2.2.2.2.2 : List Int)) := by rw [ptL_n s0, if_neg (by omega), if_neg (bl_gt1 hbq (by omega))]
        have hll : (ptL (gd L k1)).length = 0 + (decL (gd L k1).2.2.2.2.2.2.1.natAbs).length + ((decL (gd L k1).2.2.2.2.2.2.2).length + 1) := by rw [hpl]; simp only [List.length_append, List.length_cons, List.length_nil]
        have hdw : (dwr (dwr (dwr f17 (cn) (decL ((gd L k1).2.2.2.2.2.2.1.natAbs))) (cn + (decL ((gd L k1).2.2.2.2.2.2.1.natAbs)).length) [47]) (cn + (decL ((gd L k1).2.2.2.2.2.2.1.natAbs)).length + 1) (decL ((gd L k1).2.2.2.2.2.2.2))) = dwr f17 cn (ptL (gd L k1)) := by rw [hpl]; exact pw_nd.symm
        have hxx : (va_up (va_up (va_up x 9 (nI (cn + (decL ((gd L k1).2.2.2.2.2.2.1.natAbs)).length))) 9 (nI (cn + (decL ((gd L k1).2.2.2.2.2.2.1.natAbs)).length + 1))) 9 (nI (cn + (decL ((gd L k1).2.2.2.2.2.2.1.natAbs)).length + 1 + (decL ((gd L k1).2.2.2.2.2.2.2)).length))) = va_up x 9 (nI (cn + (ptL (gd L k1)).length)) := by rw [hll]; funext j; by_cases h8 : j = 9; rw [h8, va_up_self, va_up_self]; congr 1; omega; simp only [va_up_ne _ _ h8]
        have hFe : RF ad cA g_54 (va_up (va_up (va_up x 9 (nI (cn + (decL ((gd L k1).2.2.2.2.2.2.1.natAbs)).length))) 9 (nI (cn + (decL ((gd L k1).2.2.2.2.2.2.1.natAbs)).length + 1))) 9 (nI (cn + (decL ((gd L k1).2.2.2.2.2.2.1.natAbs)).length + 1 + (decL ((gd L k1).2.2.2.2.2.2.2)).length))) pf qf := ⟨vf2_55, hVq, fun f hf => by rw [hvoq (2 * f) (by omega), hvoq (2 * f + 1) (by omega)]; exact hq f hf⟩
        rw [hxx] at hFe
        have h17e := h17q
        rw [hdw] at h17e
        refine W.widen (k := 0) (n := 0) (by omega) (by omega) ?_
        exact W.vret hx hb hr (fun t9 ht9 hW9 => ⟨⟨(g_54, f3_56), rfl, ⟨(fun (k : Nat) (hk : k ≠ 0 ∧ k ≠ 1 ∧ k ≠ 2 ∧ k ≠ 3 ∧ k ≠ 17 ∧ k ≠ 18) => (fr_57 k (by omega)).trans ((fr_46 k (by omega)).trans ((fr_36 k (by omega)).trans (rfl)))), hFe, h17e, h18q, by omega, by omega⟩, by show va_P (dC, dI) vwCl _ t9.heap; rw [ht9]; exact hP⟩, hS.F ht9⟩) hS.2.2 dX10_putPart_77
    · have c_29 := mt (nI_eq (a := (bnz_2 (2 * k1))) (b := 0) (by omega) (by decide)).mpr c_29
      refine lv_aload_n hx hb dX10_putPart_20 rfl (lv_at hl 0 rfl) ?_
      refine lv_bipush (v := nI 45) hx hb dX10_putPart_21 (by decide +kernel) ?_
      rw [show nI 45 = iI 45 from by decide]
      refine va_callv (va_runV (As := [.int (iI 45)]) (rest := []) ⟨hx, hb, hml, hown, hts⟩ (c_X10_put l dC dI A ad cA g x f17 cn 45 r_3 h17 hx9c (by omega)) (cwV 1 hts (goodIn_app (goodIn_r [Cond.methodLink RX10 284 yX10_put, Cond.instanceMethod yX10_put, Cond.selects RX10 yX10_put yX10_put, Cond.initialized RX10] [3, 4, 5, 6] rfl rfl) (goodIn_sub (fun w9 h9 => bk1 w9 h9) gw_X10_put)) rfl rfl rfl (by decide +kernel) ⟨Nat.le_of_ble_eq_true rfl, Nat.le_of_ble_eq_true rfl⟩) ⟨fun a U g mk q => ⟨q.1, q.2.1, q.2.2.1, LY.moved (u := U) (U := U.calling g mk a) (Vm.Alike.refl U.vm) q.2.2.2⟩, va_recv hK hP (ci := 13) (q0 := 0) rfl (wo_at (by decide) r_3), fun U hU hW => ⟨rfl, by rw [hU]; exact fun q h => hA q (Nat.le_trans hS.1 h), by rw [hU]; exact hP, LY.moved hW.alike hL⟩⟩ rfl rfl hl.1 rfl (lv_room (Nat.le_of_ble_eq_true rfl)) dX10_putPart_23 ⟨(Nat.le_of_ble_eq_true rfl), (Nat.le_of_ble_eq_true rfl)⟩) hS (fun q _ h => h) (fun q h => h) (fun u8 t8 H1 locs ht8 hvm8 hw_58 hB hz1 hk1 hS => ?_)
      obtain ⟨g_59, rfl⟩ : ∃ z, z = u8 := ⟨_, rfl⟩
      try dsimp only at hw_58 hB
      rw [ht8] at hB
      have hP := hB
      generalize H1 = H at hP hS ⊢
      obtain ⟨fr_60, hob45, h1745⟩ := hw_58
      have h1745 : g_59 17 = .inl (cA 17, 256, .inl (fun j => iI ((dwr f17 (cn) [45]) j))) := h1745
      have hV_61 : RV ad cA g_59 (va_up x 9 (nI (cn + 1))) vf := hV.setx (fun (k : Nat) (hk : k = 1 ∨ k = 2 ∨ k = 3) => (fr_60 k (by omega)).trans (rfl)) hob45
      refine lv_aload_n hx hb dX10_putPart_26 rfl (lv_at hl 0 rfl) ?_
      refine lv_iconst (v := nI 2) hx hb dX10_putPart_27 (by decide +kernel) ?_
      refine lv_iload_n hx hb dX10_putPart_28 rfl (lv_at hl 1 rfl) ?_
      refine lv_imul hx hb dX10_putPart_29 ?_
      refine lv_topi (fun x_62 e_63 => ?_)
      obtain rfl : x_62 = nI (2 * k1) := e_63.trans (pk_mul 2 k1)
      have ep : (vf (2 * k1)).natAbs = (gd L k1).2.2.2.2.2.2.1.natAbs := by rw [hp9]
      have f_64 : g_59 18 = .inl (cA 18, 200, .inl (fun j => iI (f18 j))) := (fr_60 18 (by omega)).trans h18
      refine va_callv (va_runV (As := [.int (nI (2 * k1))]) (rest := []) ⟨hx, hb, hml, hown, hts⟩ (c_X10_putSize l dC dI A ad cA g_59 (va_up x 9 (nI (cn + 1))) vf (2 * k1) (dwr f17 (cn) [45]) f18 (cn + 1) hV_61 (by omega) (by rw [ep]; exact hpb) h1745 f_64 (va_up_self _ _ _) (by omega)) (cwV 1 hts (goodIn_app (goodIn_r [Cond.methodLink RX10 287 yX10_putSize, Cond.instanceMethod yX10_putSize, Cond.selects RX10 yX10_putSize yX10_putSize, Cond.initialized RX10] [8, 9, 10, 6] rfl rfl) (goodIn_sub (fun w9 h9 => bk2 w9 h9) gw_X10_putSize)) rfl rfl rfl (by decide +kernel) ⟨Nat.le_of_ble_eq_true rfl, Nat.le_of_ble_eq_true rfl⟩) ⟨fun a U g mk q => ⟨q.1, q.2.1, q.2.2.1, LY.moved (u := U) (U := U.calling g mk a) (Vm.Alike.refl U.vm) q.2.2.2⟩, va_recv hK hP (ci := 13) (q0 := 0) rfl (wo_at (by decide) hob45), fun U hU hW => ⟨rfl, by rw [hU]; exact fun q h => hA q (Nat.le_trans hS.1 h), by rw [hU]; exact hP, LY.moved hW.alike hL⟩⟩ rfl rfl hl.1 rfl (lv_room (Nat.le_of_ble_eq_true rfl)) dX10_putPart_30 ⟨(Nat.le_of_ble_eq_true rfl), (Nat.le_of_ble_eq_true rfl)⟩) hS (fun q _ h => h) (fun q h => h) (fun u8 t8 H1 locs ht8 hvm8 hw_65 hB hz1 hk1 hS => ?_)
      obtain ⟨g_66, vf2_67, f3_68⟩ := u8
      try dsimp only at hw_65 hB
      rw [ht8] at hB
      have hP := hB
      generalize H1 = H at hP hS ⊢
      obtain ⟨fr_69, hVp, hvop, h17p, h18p, hlbp⟩ := hw_65
      rw [ep] at hVp h17p hlbp
      have h1p := decL_1 ((gd L k1).2.2.2.2.2.2.1.natAbs)
      have hvop : ∀ j, j < 2060 → vf2_67 j = vf j := fun j hj => (hvop j hj)
      have hobp : g_66 0 = .inr (13, Rob ad (va_up (va_up x 9 (nI (cn + 1))) 9 (nI (cn + 1 + (decL ((gd L k1).2.2.2.2.2.2.1.natAbs)).length)))) := hVp.obj
      refine lv_aload_n hx hb dX10_putPart_33 rfl (lv_at hl 0 rfl) ?_
      refine lv_iconst (v := nI 2) hx hb dX10_putPart_34 (by decide +kernel) ?_
      refine lv_iload_n hx hb dX10_putPart_35 rfl (lv_at hl 1 rfl) ?_
      refine lv_imul hx hb dX10_putPart_36 ?_
      refine lv_topi (fun x_70 e_71 => ?_)
      obtain rfl : x_70 = nI (2 * k1) := e_71.trans (pk_mul 2 k1)
      refine lv_iconst (v := nI 1) hx hb dX10_putPart_37 (by decide +kernel) ?_
      refine lv_iadd hx hb dX10_putPart_38 ?_
      refine lv_topi (fun x_72 e_73 => ?_)
      obtain rfl : x_72 = nI (2 * k1 + 1) := e_73.trans (nI_add (2 * k1) 1)
      refine va_calli (va_runV (As := [.int (nI (2 * k1 + 1))]) (rest := []) ⟨hx, hb, hml, hown, hts⟩ (c_X10_bitsOf l dC dI A ad cA g_66 (va_up (va_up x 9 (nI (cn + 1))) 9 (nI (cn + 1 + (decL ((gd L k1).2.2.2.2.2.2.1.natAbs)).length))) vf2_67 (2 * k1 + 1) hVp (by omega)) (cwV 1 hts (goodIn_app (goodIn_r [Cond.methodLink RX10 117 yX10_bitsOf, Cond.instanceMethod yX10_bitsOf, Cond.selects RX10 yX10_bitsOf yX10_bitsOf, Cond.initialized RX10] [11, 12, 13, 6] rfl rfl) (goodIn_sub (fun w9 h9 => bk3 w9 h9) gw_X10_bitsOf)) rfl rfl rfl (by decide +kernel) ⟨Nat.le_of_ble_eq_true rfl, Nat.le_of_ble_eq_true rfl⟩) ⟨fun a U g mk q => ⟨q.1, q.2.1, q.2.2.1, LY.moved (u := U) (U := U.calling g mk a) (Vm.Alike.refl U.vm) q.2.2.2⟩, va_recv hK hP (ci := 13) (q0 := 0) rfl (wo_at (by decide) hobp), fun U hU hW => ⟨rfl, by rw [hU]; exact fun q h => hA q (Nat.le_trans hS.1 h), by rw [hU]; exact hP, LY.moved hW.alike hL⟩⟩ rfl rfl hl.1 rfl (lv_room (Nat.le_of_ble_eq_true rfl)) dX10_putPart_39 ⟨(Nat.le_of_ble_eq_true rfl), (Nat.le_of_ble_eq_true rfl)⟩) hS (fun q _ h => h) (fun q h => h) (fun r_74 u8 t8 H1 locs ht8 hvm8 hw_75 hB hz1 hk1 hS => ?_)
      obtain ⟨⟩ := u8
      try dsimp only at hw_75 hB
      rw [ht8] at hB
      have hP := hB
      generalize H1 = H at hP hS ⊢
      obtain rfl := hw_75
      have eb : (vf2_67 (2 * k1 + 1)).natAbs = (gd L k1).2.2.2.2.2.2.2 := by rw [hvop _ (by omega), hq9]; exact Int.natAbs_natCast _
      rw [eb]
      obtain ⟨bq, hbq⟩ : ∃ z9, z9 = bl (gd L k1).2.2.2.2.2.2.2 := ⟨_, rfl⟩
      rw [← hbq]
      have lbq : bq ≤ 410 := by rw [hbq]; exact bl_le.mpr hqb
      refine lv_iconst (v := nI 1) hx hb dX10_putPart_42 (by decide +kernel) ?_
      refine lv_icmp_le (tgt := 77) hx hb dX10_putPart_43 (by decide) (fun c_76 => ?_) (fun c_76 => ?_)
      · have c_76 := (nI_leI (a := bq) (b := 1) (by omega) (by decide)).mp c_76
        have hpl : ptL (gd L k1) = (([45] ++ decL (gd L k1).2.2.2.2.2.2.1.natAbs) ++ ([] : List Int)) := by rw [ptL_n s0, if_pos (by omega), if_pos (bl_one (by have := bl_pos.mpr hq0; omega))]
        have hll : (ptL (gd L k1)).length = 1 + (decL (gd L k1).2.2.2.2.2.2.1.natAbs).length + 0 := by rw [hpl]; simp only [List.length_append, List.length_cons, List.length_nil]
        have hdw : (dwr (dwr f17 (cn) [45]) (cn + 1) (decL ((gd L k1).2.2.2.2.2.2.1.natAbs))) = dwr f17 cn (ptL (gd L k1)) := by rw [hpl]; exact pw_sn.symm
        have hxx : (va_up (va_up x 9 (nI (cn + 1))) 9 (nI (cn + 1 + (decL ((gd L k1).2.2.2.2.2.2.1.natAbs)).length))) = va_up x 9 (nI (cn + (ptL (gd L k1)).length)) := by rw [hll]; funext j; by_cases h8 : j = 9; rw [h8, va_up_self, va_up_self]; congr 1; omega; simp only [va_up_ne _ _ h8]
        have hFe : RF ad cA g_66 (va_up (va_up x 9 (nI (cn + 1))) 9 (nI (cn + 1 + (decL ((gd L k1).2.2.2.2.2.2.1.natAbs)).length))) pf qf := ⟨vf2_67, hVp, fun f hf => by rw [hvop (2 * f) (by omega), hvop (2 * f + 1) (by omega)]; exact hq f hf⟩
        rw [hxx] at hFe
        have h17e := h17p
        rw [hdw] at h17e
        refine W.widen (k := 0) (n := 0) (by omega) (by omega) ?_
        exact W.vret hx hb hr (fun t9 ht9 hW9 => ⟨⟨(g_66, f3_68), rfl, ⟨(fun (k : Nat) (hk : k ≠ 0 ∧ k ≠ 1 ∧ k ≠ 2 ∧ k ≠ 3 ∧ k ≠ 17 ∧ k ≠ 18) => (fr_69 k (by omega)).trans ((fr_60 k (by omega)).trans (rfl))), hFe, h17e, h18p, by omega, by omega⟩, by show va_P (dC, dI) vwCl _ t9.heap; rw [ht9]; exact hP⟩, hS.F ht9⟩) hS.2.2 dX10_putPart_77
      · have c_76 := mt (nI_leI (a := bq) (b := 1) (by omega) (by decide)).mpr c_76
        refine lv_aload_n hx hb dX10_putPart_46 rfl (lv_at hl 0 rfl) ?_
        refine lv_bipush (v := nI 47) hx hb dX10_putPart_47 (by decide +kernel) ?_
        rw [show nI 47 = iI 47 from by decide]
        refine va_callv (va_runV (As := [.int (iI 47)]) (rest := []) ⟨hx, hb, hml, hown, hts⟩ (c_X10_put l dC dI A ad cA g_66 (va_up (va_up x 9 (nI (cn + 1))) 9 (nI (cn + 1 + (decL ((gd L k1).2.2.2.2.2.2.1.natAbs)).length))) (dwr (dwr f17 (cn) [45]) (cn + 1) (decL ((gd L k1).2.2.2.2.2.2.1.natAbs))) (cn + 1 + (decL ((gd L k1).2.2.2.2.2.2.1.natAbs)).length) 47 hobp h17p (va_up_self _ _ _) (by omega)) (cwV 1 hts (goodIn_app (goodIn_r [Cond.methodLink RX10 284 yX10_put, Cond.instanceMethod yX10_put, Cond.selects RX10 yX10_put yX10_put, Cond.initialized RX10] [3, 4, 5, 6] rfl rfl) (goodIn_sub (fun w9 h9 => bk1 w9 h9) gw_X10_put)) rfl rfl rfl (by decide +kernel) ⟨Nat.le_of_ble_eq_true rfl, Nat.le_of_ble_eq_true rfl⟩) ⟨fun a U g mk q => ⟨q.1, q.2.1, q.2.2.1, LY.moved (u := U) (U := U.calling g mk a) (Vm.Alike.refl U.vm) q.2.2.2⟩, va_recv hK hP (ci := 13) (q0 := 0) rfl (wo_at (by decide) hobp), fun U hU hW => ⟨rfl, by rw [hU]; exact fun q h => hA q (Nat.le_trans hS.1 h), by rw [hU]; exact hP, LY.moved hW.alike hL⟩⟩ rfl rfl hl.1 rfl (lv_room (Nat.le_of_ble_eq_true rfl)) dX10_putPart_49 ⟨(Nat.le_of_ble_eq_true rfl), (Nat.le_of_ble_eq_true rfl)⟩) hS (fun q _ h => h) (fun q h => h) (fun u8 t8 H1 locs ht8 hvm8 hw_77 hB hz1 hk1 hS => ?_)
        obtain ⟨g_78, rfl⟩ : ∃ z, z = u8 := ⟨_, rfl⟩
        try dsimp only at hw_77 hB
        rw [ht8] at hB
        have hP := hB
        generalize H1 = H at hP hS ⊢
        obtain ⟨fr_79, hob47, h1747⟩ := hw_77
        have h1747 : g_78 17 = .inl (cA 17, 256, .inl (fun j => iI ((dwr (dwr (dwr f17 (cn) [45]) (cn + 1) (decL ((gd L k1).2.2.2.2.2.2.1.natAbs))) (cn + 1 + (decL ((gd L k1).2.2.2.2.2.2.1.natAbs)).length) [47]) j))) := h1747
        have hV_80 : RV ad cA g_78 (va_up (va_up (va_up x 9 (nI (cn + 1))) 9 (nI (cn + 1 + (decL ((gd L k1).2.2.2.2.2.2.1.natAbs)).length))) 9 (nI (cn + 1 + (decL ((gd L k1).2.2.2.2.2.2.1.natAbs)).length + 1))) vf2_67 := hVp.setx (fun (k : Nat) (hk : k = 1 ∨ k = 2 ∨ k = 3) => (fr_79 k (by omega)).trans (rfl)) hob47
        refine lv_aload_n hx hb dX10_putPart_52 rfl (lv_at hl 0 rfl) ?_
        refine lv_iconst (v := nI 2) hx hb dX10_putPart_53 (by decide +kernel) ?_
        refine lv_iload_n hx hb dX10_putPart_54 rfl (lv_at hl 1 rfl) ?_
        refine lv_imul hx hb dX10_putPart_55 ?_
        refine lv_topi (fun x_81 e_82 => ?_)
        obtain rfl : x_81 = nI (2 * k1) := e_82.trans (pk_mul 2 k1)
        refine lv_iconst (v := nI 1) hx hb dX10_putPart_56 (by decide +kernel) ?_
        refine lv_iadd hx hb dX10_putPart_57 ?_
        refine lv_topi (fun x_83 e_84 => ?_)
        obtain rfl : x_83 = nI (2 * k1 + 1) := e_84.trans (nI_add (2 * k1) 1)
        have eq : (vf2_67 (2 * k1 + 1)).natAbs = (gd L k1).2.2.2.2.2.2.2 := by rw [hvop _ (by omega), hq9]; exact Int.natAbs_natCast _
        have f_85 : g_78 18 = .inl (cA 18, 200, .inl (fun j => iI (f3_68 j))) := (fr_79 18 (by omega)).trans h18p
        refine va_callv (va_runV (As := [.int (nI (2 * k1 + 1))]) (rest := []) ⟨hx, hb, hml, hown, hts⟩ (c_X10_putSize l dC dI A ad cA g_78 (va_up (va_up (va_up x 9 (nI (cn + 1))) 9 (nI (cn + 1 + (decL ((gd L k1).2.2.2.2.2.2.1.natAbs)).length))) 9 (nI (cn + 1 + (decL ((gd L k1).2.2.2.2.2.2.1.natAbs)).length + 1))) vf2_67 (2 * k1 + 1) (dwr (dwr (dwr f17 (cn) [45]) (cn + 1) (decL ((gd L k1).2.2.2.2.2.2.1.natAbs))) (cn + 1 + (decL ((gd L k1).2.2.2.2.2.2.1.natAbs)).length) [47]) f3_68 (cn + 1 + (decL ((gd L k1).2.2.2.2.2.2.1.natAbs)).length + 1) hV_80 (by omega) (by rw [eq]; exact hqb) h1747 f_85 (va_up_self _ _ _) (by omega)) (cwV 1 hts (goodIn_app (goodIn_r [Cond.methodLink RX10 287 yX10_putSize, Cond.instanceMethod yX10_putSize, Cond.selects RX10 yX10_putSize yX10_putSize, Cond.initialized RX10] [8, 9, 10, 6] rfl rfl) (goodIn_sub (fun w9 h9 => bk2 w9 h9) gw_X10_putSize)) rfl rfl rfl (by decide +kernel) ⟨Nat.le_of_ble_eq_true rfl, Nat.le_of_ble_eq_true rfl⟩) ⟨fun a U g mk q => ⟨q.1, q.2.1, q.2.2.1, LY.moved (u := U) (U := U.calling g mk a) (Vm.Alike.refl U.vm) q.2.2.2⟩, va_recv hK hP (ci := 13) (q0 := 0) rfl (wo_at (by decide) hob47), fun U hU hW => ⟨rfl, by rw [hU]; exact fun q h => hA q (Nat.le_trans hS.1 h), by rw [hU]; exact hP, LY.moved hW.alike hL⟩⟩ rfl rfl hl.1 rfl (lv_room (Nat.le_of_ble_eq_true rfl)) dX10_putPart_58 ⟨(Nat.le_of_ble_eq_true rfl), (Nat.le_of_ble_eq_true rfl)⟩) hS (fun q _ h => h) (fun q h => h) (fun u8 t8 H1 locs ht8 hvm8 hw_86 hB hz1 hk1 hS => ?_)
        obtain ⟨g_87, vf2_88, f3_89⟩ := u8
        try dsimp only at hw_86 hB
        rw [ht8] at hB
        have hP := hB
        generalize H1 = H at hP hS ⊢
        obtain ⟨fr_90, hVq, hvoq, h17q, h18q, hlbq⟩ := hw_86
        rw [eq] at hVq h17q hlbq
        have h1q := decL_1 ((gd L k1).2.2.2.2.2.2.2)
        have hvoq : ∀ j, j < 2060 → vf2_88 j = vf j := fun j hj => (hvoq j hj).trans (hvop j hj)
        have hobq : g_87 0 = .inr (13, Rob ad (va_up (va_up (va_up (va_up x 9 (nI (cn + 1))) 9 (nI (cn + 1 + (decL ((gd L k1).2.2.2.2.2.2.1.natAbs)).length))) 9 (nI (cn + 1 + (decL ((gd L k1).2.2.2.2.2.2.1.natAbs)).length + 1))) 9 (nI (cn + 1 + (decL ((gd L k1).2.2.2.2.2.2.1.natAbs)).length + 1 + (decL ((gd L k1).2.2.2.2.2.2.2)).length)))) := hVq.obj
        refine lv_goto (tgt := 77) hx hb dX10_putPart_61 (by decide) ?_
        have hpl : ptL (gd L k1) = (([45] ++ decL (gd L k1).2.2.2.2.2.2.1.natAbs) ++ (47 :: decL (gd L k1).2.2.2.2.2.2.2 : List Int)) := by rw [ptL_n s0, if_pos (by omega), if_neg (bl_gt1 hbq (by omega))]
        have hll : (ptL (gd L k1)).length = 1 + (decL (gd L k1).2.2.2.2.2.2.1.natAbs).length + ((decL (gd L k1).2.2.2.2.2.2.2).length + 1) := by rw [hpl]; simp only [List.length_append, List.length_cons, List.length_nil]
        have hdw : (dwr (dwr (dwr (dwr f17 (cn) [45]) (cn + 1) (decL ((gd L k1).2.2.2.2.2.2.1.natAbs))) (cn + 1 + (decL ((gd L k1).2.2.2.2.2.2.1.natAbs)).length) [47]) (cn + 1 + (decL ((gd L k1).2.2.2.2.2.2.1.natAbs)).length + 1) (decL ((gd L k1).2.2.2.2.2.2.2))) = dwr f17 cn (ptL (gd L k1)) := by rw [hpl]; exact pw_sd.symm
        have hxx : (va_up (va_up (va_up (va_up x 9 (nI (cn + 1))) 9 (nI (cn + 1 + (decL ((gd L k1).2.2.2.2.2.2.1.natAbs)).length))) 9 (nI (cn + 1 + (decL ((gd L k1).2.2.2.2.2.2.1.natAbs)).length + 1))) 9 (nI (cn + 1 + (decL ((gd L k1).2.2.2.2.2.2.1.natAbs)).length + 1 + (decL ((gd L k1).2.2.2.2.2.2.2)).length))) = va_up x 9 (nI (cn + (ptL (gd L k1)).length)) := by rw [hll]; funext j; by_cases h8 : j = 9; rw [h8, va_up_self, va_up_self]; congr 1; omega; simp only [va_up_ne _ _ h8]
        have hFe : RF ad cA g_87 (va_up (va_up (va_up (va_up x 9 (nI (cn + 1))) 9 (nI (cn + 1 + (decL ((gd L k1).2.2.2.2.2.2.1.natAbs)).length))) 9 (nI (cn + 1 + (decL ((gd L k1).2.2.2.2.2.2.1.natAbs)).length + 1))) 9 (nI (cn + 1 + (decL ((gd L k1).2.2.2.2.2.2.1.natAbs)).length + 1 + (decL ((gd L k1).2.2.2.2.2.2.2)).length))) pf qf := ⟨vf2_88, hVq, fun f hf => by rw [hvoq (2 * f) (by omega), hvoq (2 * f + 1) (by omega)]; exact hq f hf⟩
        rw [hxx] at hFe
        have h17e := h17q
        rw [hdw] at h17e
        refine W.widen (k := 0) (n := 0) (by omega) (by omega) ?_
        exact W.vret hx hb hr (fun t9 ht9 hW9 => ⟨⟨(g_87, f3_89), rfl, ⟨(fun (k : Nat) (hk : k ≠ 0 ∧ k ≠ 1 ∧ k ≠ 2 ∧ k ≠ 3 ∧ k ≠ 17 ∧ k ≠ 18) => (fr_90 k (by omega)).trans ((fr_79 k (by omega)).trans ((fr_69 k (by omega)).trans ((fr_60 k (by omega)).trans (rfl))))), hFe, h17e, h18q, by omega, by omega⟩, by show va_P (dC, dI) vwCl _ t9.heap; rw [ht9]; exact hP⟩, hS.F ht9⟩) hS.2.2 dX10_putPart_77
