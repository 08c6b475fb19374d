def wd_X10_gradient : List Cond := .code yX10_gradient cX10_gradient 4 none :: (([.methodLink RX10 263 yX10_noName, .instanceMethod yX10_noName, .selects RX10 yX10_noName yX10_noName, .initialized RX10, .fieldLink RX10 47 "GradientDeskModel" "names" "[I", .methodLink RX10 275 yX10_reckonAll, .instanceMethod yX10_reckonAll, .selects RX10 yX10_reckonAll yX10_reckonAll, .methodLink RX10 136 yX10_copyFraction, .instanceMethod yX10_copyFraction, .selects RX10 yX10_copyFraction yX10_copyFraction, .methodLink RX10 269 yX10_derivativeCell, .static yX10_derivativeCell] : List Cond) ++ (wd_X10_noName ++ (u_ws RX10 TX10 29 ++ (wd_X10_reckonAll ++ (wd_X10_copyFraction ++ (wd_X10_derivativeCell ++ ([])))))))
theorem gw_X10_gradient : wd_X10_gradient.all goodWord = true := k_allc rfl (k_all (by decide +kernel) (k_all (gw_X10_noName) (k_all (gu_X10) (k_all (gw_X10_reckonAll) (k_all (gw_X10_copyFraction) (k_all (gw_X10_derivativeCell) (rfl)))))))
set_option maxHeartbeats 4000000 in
set_option maxRecDepth 100000 in
theorem c_X10_gradient (l : Launch) (dC : Nat → ClassId) (dI : Nat → Nat → Nat) (A : Nat → Prop) (ad : Nat → Nat) (cA : Nat → ClassId) (g : Nat → va_E) (x : Nat → Int32) (L : List PD) (nm : Nat → Int) (tx : Nat → Nat) (ty : Nat) (wr : List Int) (v : Int32) (hI : RIE ad cA g x L nm tx ty wr) : Met l yX10_gradient wd_X10_gradient ({ frames := 110, cells := 0, slots := 0, locals := 2200 }) (va_Pc [.ref (ad 0), .int v] (PR NSr tyr dC dI A ad cA g)) (va_Qv (fun (u : (Nat → va_E) × (Nat → Int32)) => match u with | (g2, x2) => RIE ad cA g2 x2 L nm tx ty wr ∧ x2 2 = x 2 ∧ ((x2 0 = nI 0 ∧ ∃ vn, v = nI vn ∧ vn ≤ 7 ∧ 0 ≤ nm vn) ∨ ((¬ (0 ≤ v.toInt ∧ v.toInt ≤ 7) ∧ x2 0 = nI 1) ∨ (∃ a9 : Nat, v = nI a9 ∧ a9 ≤ 7 ∧ nm a9 < 0 ∧ x2 0 = nI 2)))) (fun (u : (Nat → va_E) × (Nat → Int32)) (t : State) => va_P (dC, dI) vwCl (wo ad NSr u.1) t.heap) A) (0) (0) A := by
  refine Met.ofW (cc := cX10_gradient) (maxL := 4) (ret := none) (by decide) rfl ?_
  intro p e s m args below meth c s₁ B hml hv
  obtain ⟨rfl, hA, hP, hL⟩ := hv
  have hx := B.exec
  have hb := B.bytes
  have hr := B.returns
  have hts := atoms_spec (ws := wd_X10_gradient) B.pre
  have hown : s.vm.findClass RX10 = some m.cls := findClass_of_methodNamed B.named
  have hlocks := B.notSynchronized
  have hK := hL.1
  have hD : ∀ g, va_D A (wo ad NSr g) := fun g => wo_D hL.2.1 hL.2.2 g
  have hS : va_S A s.heap s.heap [] := va_S.rf
  have bk0 : ∀ w ∈ wd_X10_noName, w ∈ wd_X10_gradient := fun _ h => List.mem_cons_of_mem _ (List.mem_append_right _ (List.mem_append_left _ h))
  have bk1 : ∀ w ∈ u_ws RX10 TX10 29, w ∈ wd_X10_gradient := fun _ h => List.mem_cons_of_mem _ (List.mem_append_right _ (List.mem_append_right _ (List.mem_append_left _ h)))
  have bk2 : ∀ w ∈ wd_X10_reckonAll, w ∈ wd_X10_gradient := fun _ h => List.mem_cons_of_mem _ (List.mem_append_right _ (List.mem_append_right _ (List.mem_append_right _ (List.mem_append_left _ h))))
  have bk3 : ∀ w ∈ wd_X10_copyFraction, w ∈ wd_X10_gradient := fun _ h => List.mem_cons_of_mem _ (List.mem_append_right _ (List.mem_append_right _ (List.mem_append_right _ (List.mem_append_right _ (List.mem_append_left _ h)))))
  have bk4 : ∀ w ∈ wd_X10_derivativeCell, w ∈ wd_X10_gradient := fun _ h => List.mem_cons_of_mem _ (List.mem_append_right _ (List.mem_append_right _ (List.mem_append_right _ (List.mem_append_right _ (List.mem_append_right _ (List.mem_append_left _ h))))))
  have hl := lv_entry ([.ref (ad 0), .int v]) (n := 4) (Nat.le_of_ble_eq_true rfl)
  rw [lg_entry_eq]
  generalize (lg_sl ([.ref (ad 0), .int v]) ++ List.replicate (4 - (lg_sl ([.ref (ad 0), .int v])).length) Slot.unset).toArray = ls at hl ⊢
  have hl : lv_has ls 4 [(0, .ref (ad 0)), (1, .int v)] := hl
  have hIk := hI
  obtain ⟨pf, qf, pt, hI0⟩ := hIk
  have hF := hI0.1
  have h0o := hF.obj
  obtain ⟨t4, t4b, t11, t11b, t11c⟩ := hI0.2.2.2.2.2.2.1
  refine lv_aload_n hx hb dX10_gradient_0 rfl (lv_at hl 0 rfl) ?_
  refine lv_iload_n hx hb dX10_gradient_1 rfl (lv_at hl 1 rfl) ?_
  refine va_calli (va_runV (As := [.int v]) (rest := []) ⟨hx, hb, hml, hown, hts⟩ (c_X10_noName l dC dI A ad cA g x L nm tx ty wr v hI) (cwV 1 hts (goodIn_app (goodIn_r [Cond.methodLink RX10 263 yX10_noName, Cond.instanceMethod yX10_noName, Cond.selects RX10 yX10_noName yX10_noName, Cond.initialized RX10] [1, 2, 3, 4] rfl rfl) (goodIn_sub (fun w9 h9 => bk0 w9 h9) gw_X10_noName)) rfl rfl rfl (by decide +kernel) ⟨Nat.le_of_ble_eq_true rfl, Nat.le_of_ble_eq_true rfl⟩) ⟨fun a U g mk q => ⟨q.1, q.2.1, q.2.2.1, LY.moved (u := U) (U := U.calling g mk a) (Vm.Alike.refl U.vm) q.2.2.2⟩, va_recv hK hP (ci := 13) (q0 := 0) rfl (wo_at (by decide) h0o), fun U hU hW => ⟨rfl, by rw [hU]; exact fun q h => hA q (Nat.le_trans hS.1 h), by rw [hU]; exact hP, LY.moved hW.alike hL⟩⟩ rfl rfl hl.1 rfl (lv_room (Nat.le_of_ble_eq_true rfl)) dX10_gradient_2 ⟨(Nat.le_of_ble_eq_true rfl), (Nat.le_of_ble_eq_true rfl)⟩) hS (fun q _ h => h) (fun q h => h) (fun r_1 u8 t8 H1 locs ht8 hvm8 hw_2 hB hz1 hk1 hS => ?_)
  obtain ⟨g_3, x2_4⟩ := u8
  try dsimp only at hw_2 hB
  rw [ht8] at hB
  have hP := hB
  generalize H1 = H at hP hS ⊢
  have fr_5 := hw_2
  obtain ⟨hR2, hx22, hcc⟩ := hw_2
  rcases hcc with ⟨rfl, hx20, vn, hvv, hvn, hnv⟩ | ⟨rfl, hx20⟩
  · skip
    rw [hvv] at hl
    obtain ⟨pf2, qf2, pt2, hI2⟩ := hR2
    have hI3 := hI2
    obtain ⟨hF2, hPt2, hM2, hW2, hL22, hmd2, hTx2, hty_2, hty2_2, hwr_2, hwr2_2, hVO2, hBd2⟩ := hI3
    have hVO20 := hVO2
    have hPt20 := hPt2
    have hF20 := hF2
    have hTx20 := hTx2
    obtain ⟨u4, u4b, u11, u11b, u11c⟩ := hTx2
    obtain ⟨⟨rc9, y12, y12b⟩, yy⟩ := hVO2
    have hob2 := hF2.obj
    refine lv_if_eq (tgt := 9) hx hb dX10_gradient_5 (by decide) (fun c_6 => ?_) (fun c_6 => absurd c_6 (by decide))
    refine lv_aload_n hx hb dX10_gradient_9 rfl (lv_at hl 0 rfl) ?_
    refine m_get (D := (dC, dI)) (v := .ref (ad 11)) (C := RX10) (T := TX10) (N := 29) hx hb hts bk1 hown hK hP 0 (by decide) hob2 rfl 15 (by decide) (hts (.fieldLink RX10 47 "GradientDeskModel" "names" "[I") (List.mem_of_getElem? (i := 5) rfl)) (fun _ h9 => h9) rfl dX10_gradient_10 ?_
    refine lv_iload_n hx hb dX10_gradient_13 rfl (lv_at hl 1 rfl) ?_
    refine m_iald hx hb hK hP 11 (by decide) rfl u11 (i := vn) (by omega) (by decide) dX10_gradient_14 ?_
    have b_7 := u11b vn
    obtain ⟨rt, hrt⟩ : ∃ z9 : Nat, nm vn = (z9 : Int) := ⟨(nm vn).toNat, by omega⟩
    have hr9 := t11c vn (by omega)
    have hrl : rt < L.length := by omega
    rw [hrt, ← nI_iI]
    refine lv_istore_n (lv' := [(2, .int (nI rt)), (0, .ref (ad 0)), (1, .int (nI vn))]) hx hb dX10_gradient_15 rfl hl (by decide) rfl (fun ls hl => ?_)
    refine lv_aload_n hx hb dX10_gradient_16 rfl (lv_at hl 1 rfl) ?_
    refine lv_iload_n hx hb dX10_gradient_17 rfl (lv_at hl 0 rfl) ?_
    obtain ⟨Q9, hQ9⟩ : ∃ z : Nat, z = qf2 1008 * qf2 1009 * qf2 1010 := ⟨_, rfl⟩
    have hQb : 0 < Q9 ∧ Q9 ≤ 1099511627776 := by obtain ⟨-, u1, u2⟩ := hBd2.2 0 (by decide); obtain ⟨-, u3, u4⟩ := hBd2.2 1 (by decide); obtain ⟨-, u5, u6⟩ := hBd2.2 2 (by decide); exact ⟨by rw [hQ9]; exact Nat.mul_pos (Nat.mul_pos u1 u3) u5, by rw [hQ9]; exact Nat.le_trans (Nat.mul_le_mul (Nat.mul_le_mul u2 u4) u6) (by decide)⟩
    refine va_callv (va_runV (As := [.int (nI rt)]) (rest := []) ⟨hx, hb, hml, hown, hts⟩ (c_X10_reckonAll l dC dI A ad cA g_3 x2_4 pf2 qf2 pt2 L rc9 rt Q9 hF20 hPt20 hM2 hL22 hW2 y12 y12b hrl hQ9 hBd2.2) (cwV 1 hts (goodIn_app (goodIn_r [Cond.methodLink RX10 275 yX10_reckonAll, Cond.instanceMethod yX10_reckonAll, Cond.selects RX10 yX10_reckonAll yX10_reckonAll, Cond.initialized RX10] [6, 7, 8, 4] rfl rfl) (goodIn_sub (fun w9 h9 => bk2 w9 h9) gw_X10_reckonAll)) rfl rfl rfl (by decide +kernel) ⟨Nat.le_of_ble_eq_true rfl, Nat.le_of_ble_eq_true rfl⟩) ⟨fun a U g mk q => ⟨q.1, q.2.1, q.2.2.1, LY.moved (u := U) (U := U.calling g mk a) (Vm.Alike.refl U.vm) q.2.2.2⟩, va_recv hK hP (ci := 13) (q0 := 0) rfl (wo_at (by decide) hob2), fun U hU hW => ⟨rfl, by rw [hU]; exact fun q h => hA q (Nat.le_trans hS.1 h), by rw [hU]; exact hP, LY.moved hW.alike hL⟩⟩ rfl rfl hl.1 rfl (lv_room (Nat.le_of_ble_eq_true rfl)) dX10_gradient_18 ⟨(Nat.le_of_ble_eq_true rfl), (Nat.le_of_ble_eq_true rfl)⟩) hS (fun q _ h => h) (fun q h => h) (fun u8 t8 H1 locs ht8 hvm8 hw_8 hB hz1 hk1 hS => ?_)
    obtain ⟨g_9, pf2_10, qf2_11⟩ := u8
    try dsimp only at hw_8 hB
    rw [ht8] at hB
    have hP := hB
    generalize H1 = H at hP hS ⊢
    obtain ⟨fr_12, ⟨rc3, r12, r12b⟩, hFa, hTa, hOa⟩ := hw_8
    have hfb := hTa.fb hQb hW2 hrl hL22 (fun f9 h9 => hFa.red h9)
    refine lv_aload_n hx hb dX10_gradient_21 rfl (lv_at hl 1 rfl) ?_
    refine lv_sipush (v := nI 1000) hx hb dX10_gradient_22 (by decide +kernel) ?_
    refine lv_sipush (v := nI 200) hx hb dX10_gradient_25 (by decide +kernel) ?_
    refine lv_iload_n hx hb dX10_gradient_28 rfl (lv_at hl 0 rfl) ?_
    refine lv_iadd hx hb dX10_gradient_29 ?_
    refine lv_topi (fun x_13 e_14 => ?_)
    obtain rfl : x_13 = nI (200 + rt) := e_14.trans (nI_add 200 rt)
    have f_15 : g_9 0 = .inr (13, Rob ad x2_4) := (fr_12 0 (by omega)).trans hob2
    refine va_callv (va_runV (As := [.int (nI 1000), .int (nI (200 + rt))]) (rest := []) ⟨hx, hb, hml, hown, hts⟩ (c_X10_copyFraction l dC dI A ad cA g_9 x2_4 pf2_10 qf2_11 1000 (200 + rt) hFa (by omega) (by omega)) (cwV 2 hts (goodIn_app (goodIn_r [Cond.methodLink RX10 136 yX10_copyFraction, Cond.instanceMethod yX10_copyFraction, Cond.selects RX10 yX10_copyFraction yX10_copyFraction, Cond.initialized RX10] [9, 10, 11, 4] rfl rfl) (goodIn_sub (fun w9 h9 => bk3 w9 h9) gw_X10_copyFraction)) rfl rfl rfl (by decide +kernel) ⟨Nat.le_of_ble_eq_true rfl, Nat.le_of_ble_eq_true rfl⟩) ⟨fun a U g mk q => ⟨q.1, q.2.1, q.2.2.1, LY.moved (u := U) (U := U.calling g mk a) (Vm.Alike.refl U.vm) q.2.2.2⟩, va_recv hK hP (ci := 13) (q0 := 0) rfl (wo_at (by decide) f_15), fun U hU hW => ⟨rfl, by rw [hU]; exact fun q h => hA q (Nat.le_trans hS.1 h), by rw [hU]; exact hP, LY.moved hW.alike hL⟩⟩ rfl rfl hl.1 rfl (lv_room (Nat.le_of_ble_eq_true rfl)) dX10_gradient_30 ⟨(Nat.le_of_ble_eq_true rfl), (Nat.le_of_ble_eq_true rfl)⟩) hS (fun q _ h => h) (fun q h => h) (fun u8 t8 H1 locs ht8 hvm8 hw_16 hB hz1 hk1 hS => ?_)
    obtain ⟨g_17, rfl⟩ : ∃ z, z = u8 := ⟨_, rfl⟩
    try dsimp only at hw_16 hB
    rw [ht8] at hB
    have hP := hB
    generalize H1 = H at hP hS ⊢
    obtain ⟨fr_18, hFc⟩ := hw_16
    refine lv_iconst (v := nI 0) hx hb dX10_gradient_33 (by decide +kernel) ?_
    refine lv_istore_n (lv' := [(3, .int (nI 0)), (2, .int (nI rt)), (0, .ref (ad 0)), (1, .int (nI vn))]) hx hb dX10_gradient_34 rfl hl (by decide) rfl (fun ls hl => ?_)
    have loop_19 : ∀ (k9 : Nat) (vv : Nat) (p1 : Nat → Int) (q1 : Nat → Nat) (g_21 : Nat → va_E) (fr_22 : ∀ k, (k ≠ 1 ∧ k ≠ 2 ∧ k ≠ 3) → g_21 k = g_17 k), 3 - vv < k9 → (vv ≤ 3) → (∀ f, ¬ (1000 ≤ f ∧ f ≤ 1003) → p1 f = pf2_10 f ∧ q1 f = qf2_11 f) → (∀ r9, r9 < 8 → (p1 (1000 + r9)).natAbs < 2 ^ 1000 ∧ q1 (1000 + r9) < 2 ^ 1000) → (RF ad cA g_21 x2_4 p1 q1) → ∀ (H : Heap) (locs : List Loc) (ls : Array Slot), va_P (dC, dI) vwCl (wo ad NSr g_21) H → va_S A s.heap H locs → lv_has ls 4 [(0, .ref (ad 0)), (1, .int (nI vn)), (2, .int (nI rt)), (3, .int (nI vv))] → W p l e (headSpec wd_X10_gradient ({ frames := 110, cells := 0, slots := 0, locals := 2200 })).room s m ([.ref (ad 0), .int v] : List Value).toArray below meth c H locs (0) (0) (MQ below (va_Qv (fun (u : (Nat → va_E) × (Nat → Int32)) => match u with | (g2, x2) => RIE ad cA g2 x2 L nm tx ty wr ∧ x2 2 = x 2 ∧ ((x2 0 = nI 0 ∧ ∃ vn, v = nI vn ∧ vn ≤ 7 ∧ 0 ≤ nm vn) ∨ ((¬ (0 ≤ v.toInt ∧ v.toInt ≤ 7) ∧ x2 0 = nI 1) ∨ (∃ a9 : Nat, v = nI a9 ∧ a9 ≤ 7 ∧ nm a9 < 0 ∧ x2 0 = nI 2)))) (fun (u : (Nat → va_E) × (Nat → Int32)) (t : State) => va_P (dC, dI) vwCl (wo ad NSr u.1) t.heap) A) ([.ref (ad 0), .int v] : List Value).toArray s (0) (0) A) (F0 m 35 ls []) := by
      intro k9
      induction k9 with
      | zero => intro vv p1 q1 g_21 fr_22 h9; exact absurd h9 (Nat.not_lt_zero _)
      | succ k9 ih_20 =>
        intro vv p1 q1 g_21 fr_22 h9 hv3 hO hBr hFL H locs ls hP hS hl
        refine lv_iload_n hx hb dX10_gradient_35 rfl (lv_at hl 3 rfl) ?_
        refine lv_iconst (v := nI 3) hx hb dX10_gradient_36 (by decide +kernel) ?_
        refine lv_icmp_ge (tgt := 60) hx hb dX10_gradient_37 (by decide) (fun c_23 => ?_) (fun c_23 => ?_)
        · have c_23 := (nI_leI (a := 3) (b := vv) (by decide) (by omega)).mp c_23
          have f_24 : g_21 12 = .inl (cA 12, 200, .inl (fun j => nI (rc3 j))) := (fr_22 12 (by omega)).trans ((fr_18 12 (by omega)).trans r12)
          refine W.widen (k := 0) (n := 0) (by omega) (by omega) ?_
          exact W.vret hx hb hr (fun t9 ht9 hW9 => ⟨⟨(g_21, x2_4), rfl, ⟨RI.num hI2 hFL (fun (k : Nat) (hk : (4 ≤ k ∧ k ≤ 11) ∨ k = 16) => (fr_22 k (by omega)).trans ((fr_18 k (by omega)).trans ((fr_12 k (by omega)).trans (rfl)))) (VO.reach hVO20 f_24 r12b (fun (k : Nat) (hk : 13 ≤ k ∧ k ≤ 19) => (fr_22 k (by omega)).trans ((fr_18 k (by omega)).trans ((fr_12 k (by omega)).trans (rfl))))) rfl rfl rfl (fun f hf => ⟨(hO f (by omega)).1.trans (hOa f (Or.inl hf)).1, (hO f (by omega)).2.trans (hOa f (Or.inl hf)).2⟩) ⟨hBr, fun v9 h9 => by rw [(hO (1008 + v9) (by omega)).1, (hO (1008 + v9) (by omega)).2, (hOa (1008 + v9) (Or.inr (by omega))).1, (hOa (1008 + v9) (Or.inr (by omega))).2]; exact hBd2.2 v9 h9⟩, hx22, Or.inl ⟨hx20, vn, hvv, hvn, hnv⟩⟩, by show va_P (dC, dI) vwCl _ t9.heap; rw [ht9]; exact hP⟩, hS.F ht9⟩) hS.2.2 dX10_gradient_60
        · have c_23 := mt (nI_leI (a := 3) (b := vv) (by decide) (by omega)).mpr c_23
          refine lv_aload_n hx hb dX10_gradient_40 rfl (lv_at hl 0 rfl) ?_
          refine lv_sipush (v := nI 1001) hx hb dX10_gradient_41 (by decide +kernel) ?_
          refine lv_iload_n hx hb dX10_gradient_44 rfl (lv_at hl 3 rfl) ?_
          refine lv_iadd hx hb dX10_gradient_45 ?_
          refine lv_topi (fun x_25 e_26 => ?_)
          obtain rfl : x_25 = nI (1001 + vv) := e_26.trans (nI_add 1001 vv)
          refine lv_iload_n hx hb dX10_gradient_46 rfl (lv_at hl 2 rfl) ?_
          refine lv_iload_n hx hb dX10_gradient_47 rfl (lv_at hl 3 rfl) ?_
          refine va_calli (va_runS (As := [.int (nI rt), .int (nI vv)]) (rest := [.int (nI (1001 + vv)), .ref (ad 0)]) ⟨hx, hb, hml, hown, hts⟩ (c_X10_derivativeCell l dC dI A ad cA g_21 rt vv ) (va_cwS 2 hts (goodIn_app (goodIn_r [Cond.methodLink RX10 269 yX10_derivativeCell, Cond.static yX10_derivativeCell, Cond.initialized RX10] [12, 13, 4] rfl rfl) (goodIn_sub (fun w9 h9 => bk4 w9 h9) gw_X10_derivativeCell)) rfl rfl rfl (by decide +kernel) ⟨Nat.le_of_ble_eq_true rfl, Nat.le_of_ble_eq_true rfl⟩) ⟨fun a U g mk q => ⟨q.1, q.2.1, q.2.2.1, LY.moved (u := U) (U := U.calling g mk a) (Vm.Alike.refl U.vm) q.2.2.2⟩, fun U hU hW => ⟨rfl, by rw [hU]; exact fun q h => hA q (Nat.le_trans hS.1 h), by rw [hU]; exact hP, LY.moved hW.alike hL⟩⟩ rfl rfl hl.1 rfl (lv_room (Nat.le_of_ble_eq_true rfl)) dX10_gradient_48 ⟨(Nat.le_of_ble_eq_true rfl), (Nat.le_of_ble_eq_true rfl)⟩) hS (fun q _ h => h) (fun q h => h) (fun r_27 u8 t8 H1 locs ht8 hvm8 hw_28 hB hz1 hk1 hS => ?_)
          obtain ⟨⟩ := u8
          try dsimp only at hw_28 hB
          rw [ht8] at hB
          have hP := hB
          generalize H1 = H at hP hS ⊢
          obtain rfl := hw_28
          have f_29 : g_21 0 = .inr (13, Rob ad x2_4) := (fr_22 0 (by omega)).trans ((fr_18 0 (by omega)).trans f_15)
          refine va_callv (va_runV (As := [.int (nI (1001 + vv)), .int (nI (400 + 200 * vv + rt))]) (rest := []) ⟨hx, hb, hml, hown, hts⟩ (c_X10_copyFraction l dC dI A ad cA g_21 x2_4 p1 q1 (1001 + vv) (400 + 200 * vv + rt) hFL (by omega) (by omega)) (cwV 2 hts (goodIn_app (goodIn_r [Cond.methodLink RX10 136 yX10_copyFraction, Cond.instanceMethod yX10_copyFraction, Cond.selects RX10 yX10_copyFraction yX10_copyFraction, Cond.initialized RX10] [9, 10, 11, 4] rfl rfl) (goodIn_sub (fun w9 h9 => bk3 w9 h9) gw_X10_copyFraction)) rfl rfl rfl (by decide +kernel) ⟨Nat.le_of_ble_eq_true rfl, Nat.le_of_ble_eq_true rfl⟩) ⟨fun a U g mk q => ⟨q.1, q.2.1, q.2.2.1, LY.moved (u := U) (U := U.calling g mk a) (Vm.Alike.refl U.vm) q.2.2.2⟩, va_recv hK hP (ci := 13) (q0 := 0) rfl (wo_at (by decide) f_29), fun U hU hW => ⟨rfl, by rw [hU]; exact fun q h => hA q (Nat.le_trans hS.1 h), by rw [hU]; exact hP, LY.moved hW.alike hL⟩⟩ rfl rfl hl.1 rfl (lv_room (Nat.le_of_ble_eq_true rfl)) dX10_gradient_51 ⟨(Nat.le_of_ble_eq_true rfl), (Nat.le_of_ble_eq_true rfl)⟩) hS (fun q _ h => h) (fun q h => h) (fun u8 t8 H1 locs ht8 hvm8 hw_30 hB hz1 hk1 hS => ?_)
          obtain ⟨g_31, rfl⟩ : ∃ z, z = u8 := ⟨_, rfl⟩
          try dsimp only at hw_30 hB
          rw [ht8] at hB
          have hP := hB
          generalize H1 = H at hP hS ⊢
          obtain ⟨fr_32, hFd⟩ := hw_30
          refine lv_iinc (v := nI (vv + 1)) (lv' := [(3, .int (nI (vv + 1))), (0, .ref (ad 0)), (1, .int (nI vn)), (2, .int (nI rt))]) hx hb dX10_gradient_54 hl (k := 3) rfl (nI_add vv 1) (by decide) rfl (fun ls hl => ?_)
          refine lv_goto (tgt := 35) hx hb dX10_gradient_57 (by decide) ?_
          exact ih_20 (vv + 1) (va_up p1 (1001 + vv) (p1 (400 + 200 * vv + rt))) (va_up q1 (1001 + vv) (q1 (400 + 200 * vv + rt))) g_31 (fun (k : Nat) (hk : k ≠ 1 ∧ k ≠ 2 ∧ k ≠ 3) => (fr_32 k (by omega)).trans ((fr_22 k (by omega)).trans (rfl))) (by omega) (by omega) (fun f hf => ⟨(va_up_ne _ _ (by omega)).trans (hO f hf).1, (va_up_ne _ _ (by omega)).trans (hO f hf).2⟩) (fun r9 h9 => by by_cases h8 : 1000 + r9 = 1001 + vv; rw [h8, va_up_self, va_up_self, (hO (400 + 200 * vv + rt) (by omega)).1, (hO (400 + 200 * vv + rt) (by omega)).2]; exact hfb.2 vv (by omega); rw [va_up_ne _ _ h8, va_up_ne _ _ h8]; exact hBr r9 h9) hFd _ _ _ hP hS (lv_sub (l' := [(0, .ref (ad 0)), (1, .int (nI vn)), (2, .int (nI rt)), (3, .int (nI (vv + 1)))]) hl [1, 2, 3, 0] rfl)
    exact loop_19 _ 0 (va_up pf2_10 (1000) (pf2_10 (200 + rt))) (va_up qf2_11 (1000) (qf2_11 (200 + rt))) g_17 (fun (k : Nat) (hk : k ≠ 1 ∧ k ≠ 2 ∧ k ≠ 3) => rfl) (Nat.lt_succ_self _) (by omega) (fun f hf => ⟨va_up_ne _ _ (by omega), va_up_ne _ _ (by omega)⟩) (fun r9 h9 => by by_cases h8 : 1000 + r9 = 1000; rw [h8, va_up_self, va_up_self]; exact hfb.1; rw [va_up_ne _ _ h8, va_up_ne _ _ h8, (hOa (1000 + r9) (Or.inr (by omega))).1, (hOa (1000 + r9) (Or.inr (by omega))).2]; exact hBd2.1 r9 h9) hFc _ _ _ hP hS (lv_sub (l' := [(0, .ref (ad 0)), (1, .int (nI vn)), (2, .int (nI rt)), (3, .int (nI 0))]) hl [2, 3, 1, 0] rfl)
  · skip
    refine lv_if_eq (tgt := 9) hx hb dX10_gradient_5 (by decide) (fun c_35 => absurd c_35 (by decide)) (fun c_35 => ?_)
    refine W.widen (k := 0) (n := 0) (by omega) (by omega) ?_
    exact W.vret hx hb hr (fun t9 ht9 hW9 => ⟨⟨(g_3, x2_4), rfl, ⟨hR2, hx22, Or.inr hx20⟩, by show va_P (dC, dI) vwCl _ t9.heap; rw [ht9]; exact hP⟩, hS.F ht9⟩) hS.2.2 dX10_gradient_8
