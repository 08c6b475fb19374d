def wd_X10_clear : List Cond := .code yX10_clear cX10_clear 2 none :: (([.fieldLink RX10 78 "GradientDeskModel" "thrown" "I", .fieldLink RX10 149 "GradientDeskModel" "made" "I", .fieldLink RX10 47 "GradientDeskModel" "names" "[I"] : List Cond) ++ (u_ws RX10 TX10 29 ++ ([])))
theorem gw_X10_clear : wd_X10_clear.all goodWord = true := k_allc rfl (k_all (by decide +kernel) (k_all (gu_X10) (rfl)))
set_option maxHeartbeats 4000000 in
set_option maxRecDepth 100000 in
theorem c_X10_clear (l : Launch) (dC : Nat → ClassId) (dI : Nat → Nat → Nat) (A : Nat → Prop) (ad : Nat → Nat) (cA : Nat → ClassId) (g : Nat → va_E) (x : Nat → Int32) (L : List PD) (nm : Nat → Int) (tx : Nat → Nat) (ty : Nat) (wr : List Int) (hI : RIE ad cA g x L nm tx ty wr) : Met l yX10_clear wd_X10_clear ({ frames := 10, cells := 0, slots := 0, locals := 200 }) (va_Pc [.ref (ad 0)] (PR NSr tyr dC dI A ad cA g)) (va_Qv (fun (u : (Nat → va_E) × (Nat → Int32) × (Nat → Int)) => match u with | (g2, x2, nm2) => RIE ad cA g2 x2 [] nm2 tx ty wr ∧ x2 2 = x 2 ∧ x2 0 = nI 0 ∧ ∀ j, j < 8 → nm2 j = -1) (fun (u : (Nat → va_E) × (Nat → Int32) × (Nat → Int)) (t : State) => va_P (dC, dI) vwCl (wo ad NSr u.1) t.heap) A) (0) (0) A := by
  refine Met.ofW (cc := cX10_clear) (maxL := 2) (ret := none) (by decide) rfl ?_
  intro p e s m args below meth c s₁ B hml hv
  obtain ⟨rfl, hA, hP, hL⟩ := hv
  have hx := B.exec
  have hb := B.bytes
  have hr := B.returns
  have hts := atoms_spec (ws := wd_X10_clear) B.pre
  have hown : s.vm.findClass RX10 = some m.cls := findClass_of_methodNamed B.named
  have hlocks := B.notSynchronized
  have hK := hL.1
  have hD : ∀ g, va_D A (wo ad NSr g) := fun g => wo_D hL.2.1 hL.2.2 g
  have hS : va_S A s.heap s.heap [] := va_S.rf
  have bk0 : ∀ w ∈ u_ws RX10 TX10 29, w ∈ wd_X10_clear := fun _ h => List.mem_cons_of_mem _ (List.mem_append_right _ (List.mem_append_left _ h))
  have hl := lv_entry ([.ref (ad 0)]) (n := 2) (Nat.le_of_ble_eq_true rfl)
  rw [lg_entry_eq]
  generalize (lg_sl ([.ref (ad 0)]) ++ List.replicate (2 - (lg_sl ([.ref (ad 0)])).length) Slot.unset).toArray = ls at hl ⊢
  have hl : lv_has ls 2 [(0, .ref (ad 0))] := hl
  obtain ⟨pf, qf, pt, hI0⟩ := hI
  have hI1 := hI0
  obtain ⟨hF, hPt, hM, hW, hL2, hmd, hTx, hty, hty2, hwr, hwr2, hVO, hBd⟩ := hI1
  have hVO0 := hVO
  have hPt0 := hPt
  have hTx0 := hTx
  have hF0 := hF
  obtain ⟨vf, hV, hq⟩ := hF
  have hc_1 := hV
  obtain ⟨pnz_2, lnz_2, bnz_2, hRz_2, hvz_2⟩ := hc_1
  obtain ⟨r_3, r_4, r_5, r_6, r_7, r_8, r_9⟩ := hRz_2
  obtain ⟨p_10, p_11, p_12, p_13, p_14, p_15, hpt_16⟩ := hPt
  obtain ⟨t4, t4b, t11, t11b, t11c⟩ := hTx
  obtain ⟨⟨rc, v12, v12b⟩, ⟨f13, v13⟩, ⟨f14, v14⟩, ⟨f15, v15⟩, ⟨f16, v16⟩, ⟨f17, v17⟩, ⟨f18, v18⟩, ⟨f19, v19⟩⟩ := hVO
  refine lv_aload_n hx hb dX10_clear_0 rfl (lv_at hl 0 rfl) ?_
  refine lv_iconst (v := nI 0) hx hb dX10_clear_1 (by decide +kernel) ?_
  refine m_put (D := (dC, dI)) (v := .int (nI 0)) (tv := .int) (C := RX10) (T := TX10) (N := 29) hx hb hts bk0 tyX10 tyX10_ok nmX10 hown hK hP hD hS 0 (by decide) r_3 rfl 0 (by decide) (hts (.fieldLink RX10 78 "GradientDeskModel" "thrown" "I") (List.mem_of_getElem? (i := 1) rfl)) (fun _ h9 => h9) rfl (by decide +kernel) rfl rfl (Nat.le_of_ble_eq_true rfl) dX10_clear_2 (fun H locs g_17 f_18 fr_19 hP hS => ?_)
  have f_18 : g_17 0 = .inr (13, Rob ad (va_up x 0 (nI 0))) := f_18
  refine lv_aload_n hx hb dX10_clear_5 rfl (lv_at hl 0 rfl) ?_
  refine lv_iconst (v := nI 0) hx hb dX10_clear_6 (by decide +kernel) ?_
  refine m_put (D := (dC, dI)) (v := .int (nI 0)) (tv := .int) (C := RX10) (T := TX10) (N := 29) hx hb hts bk0 tyX10 tyX10_ok nmX10 hown hK hP hD hS 0 (by decide) f_18 rfl 13 (by decide) (hts (.fieldLink RX10 149 "GradientDeskModel" "made" "I") (List.mem_of_getElem? (i := 2) rfl)) (fun _ h9 => h9) rfl (by decide +kernel) rfl rfl (Nat.le_of_ble_eq_true rfl) dX10_clear_7 (fun H locs g_20 f_21 fr_22 hP hS => ?_)
  have f_21 : g_20 0 = .inr (13, Rob ad (va_up (va_up x 0 (nI 0)) 3 (nI 0))) := f_21
  refine lv_iconst (v := nI 0) hx hb dX10_clear_10 (by decide +kernel) ?_
  refine lv_istore_n (lv' := [(1, .int (nI 0)), (0, .ref (ad 0))]) hx hb dX10_clear_11 rfl hl (by decide) rfl (fun ls hl => ?_)
  have loop_23 : ∀ (k9 : Nat) (i : Nat) (n1 : Nat → Int) (g_25 : Nat → va_E) (fr_26 : ∀ k, (k ≠ 11) → g_25 k = g_20 k), 8 - i < k9 → (i ≤ 8) → (∀ j, -1 ≤ n1 j ∧ n1 j ≤ 200) → (∀ j, j < i → n1 j = -1) → (g_25 11 = .inl (cA 11, 8, .inl (fun j => iI (n1 j)))) → ∀ (H : Heap) (locs : List Loc) (ls : Array Slot), va_P (dC, dI) vwCl (wo ad NSr g_25) H → va_S A s.heap H locs → lv_has ls 2 [(0, .ref (ad 0)), (1, .int (nI i))] → W p l e (headSpec wd_X10_clear ({ frames := 10, cells := 0, slots := 0, locals := 200 })).room s m ([.ref (ad 0)] : List Value).toArray below meth c H locs (0) (0) (MQ below (va_Qv (fun (u : (Nat → va_E) × (Nat → Int32) × (Nat → Int)) => match u with | (g2, x2, nm2) => RIE ad cA g2 x2 [] nm2 tx ty wr ∧ x2 2 = x 2 ∧ x2 0 = nI 0 ∧ ∀ j, j < 8 → nm2 j = -1) (fun (u : (Nat → va_E) × (Nat → Int32) × (Nat → Int)) (t : State) => va_P (dC, dI) vwCl (wo ad NSr u.1) t.heap) A) ([.ref (ad 0)] : List Value).toArray s (0) (0) A) (F0 m 12 ls []) := by
    intro k9
    induction k9 with
    | zero => intro i n1 g_25 fr_26 h9; exact absurd h9 (Nat.not_lt_zero _)
    | succ k9 ih_24 =>
      intro i n1 g_25 fr_26 h9 hi hb1 hs f_27 H locs ls hP hS hl
      refine lv_iload_n hx hb dX10_clear_12 rfl (lv_at hl 1 rfl) ?_
      refine lv_bipush (v := nI 8) hx hb dX10_clear_13 (by decide +kernel) ?_
      refine lv_icmp_ge (tgt := 31) hx hb dX10_clear_15 (by decide) (fun c_28 => ?_) (fun c_28 => ?_)
      · have c_28 := (nI_leI (a := 8) (b := i) (by decide) (by omega)).mp c_28
        have f_29 : g_25 0 = .inr (13, Rob ad (va_up (va_up x 0 (nI 0)) 3 (nI 0))) := (fr_26 0 (by omega)).trans f_21
        have f_30 : g_25 4 = .inl (cA 4, 64, .inl (fun j => nI (tx j))) := (fr_26 4 (by omega)).trans ((fr_22 4 (by omega)).trans ((fr_19 4 (by omega)).trans t4))
        refine W.widen (k := 0) (n := 0) (by omega) (by omega) ?_
        exact W.vret hx hb hr (fun t9 ht9 hW9 => ⟨⟨(g_25, va_up (va_up x 0 (nI 0)) 3 (nI 0), n1), rfl, ⟨⟨pf, qf, pt, hF0.setx (fun (k : Nat) (hk : k = 1 ∨ k = 2 ∨ k = 3) => (fr_26 k (by omega)).trans ((fr_22 k (by omega)).trans ((fr_19 k (by omega)).trans (rfl)))) f_29 rfl, hPt0.same (fun (k : Nat) (hk : 5 ≤ k ∧ k ≤ 10) => (fr_26 k (by omega)).trans ((fr_22 k (by omega)).trans ((fr_19 k (by omega)).trans (rfl)))), MT.nil, WFL.nil, by decide, va_up_self _ _ _, ⟨f_30, t4b, f_27, hb1, fun j hj => by rw [hs j (by omega)]; decide⟩, (va_up_ne _ _ (by decide)).trans ((va_up_ne _ _ (by decide)).trans hty), hty2, (va_up_ne _ _ (by decide)).trans ((va_up_ne _ _ (by decide)).trans hwr), ⟨hwr2.1, hwr2.2.same ((fun (k : Nat) (hk : k = 16) => (fr_26 k (by omega)).trans ((fr_22 k (by omega)).trans ((fr_19 k (by omega)).trans (rfl)))) 16 rfl)⟩, hVO0.same (fun (k : Nat) (hk : 12 ≤ k ∧ k ≤ 19) => (fr_26 k (by omega)).trans ((fr_22 k (by omega)).trans ((fr_19 k (by omega)).trans (rfl)))), hBd⟩, (va_up_ne _ _ (by decide)).trans (va_up_ne _ _ (by decide)), (va_up_ne _ _ (by decide)).trans (va_up_self _ _ _), fun j hj => hs j (by omega)⟩, by show va_P (dC, dI) vwCl _ t9.heap; rw [ht9]; exact hP⟩, hS.F ht9⟩) hS.2.2 dX10_clear_31
      · have c_28 := mt (nI_leI (a := 8) (b := i) (by decide) (by omega)).mpr c_28
        refine lv_aload_n hx hb dX10_clear_18 rfl (lv_at hl 0 rfl) ?_
        have f_31 : g_25 0 = .inr (13, Rob ad (va_up (va_up x 0 (nI 0)) 3 (nI 0))) := (fr_26 0 (by omega)).trans f_21
        refine m_get (D := (dC, dI)) (v := .ref (ad 11)) (C := RX10) (T := TX10) (N := 29) hx hb hts bk0 hown hK hP 0 (by decide) f_31 rfl 15 (by decide) (hts (.fieldLink RX10 47 "GradientDeskModel" "names" "[I") (List.mem_of_getElem? (i := 3) rfl)) (fun _ h9 => h9) rfl dX10_clear_19 ?_
        refine lv_iload_n hx hb dX10_clear_22 rfl (lv_at hl 1 rfl) ?_
        refine lv_iconst (v := -1) hx hb dX10_clear_23 (by decide +kernel) ?_
        refine m_iast hx hb hK hP hD hS 11 (by decide) rfl f_27 (i := i) (x := -1) (by omega) (by decide) dX10_clear_24 (fun H locs g_32 f_33 fr_34 hP hS => ?_)
        rw [(show (-1 : Int32) = iI (-1) from by decide), k_updZ] at f_33
        have b_35 : ∀ j, -1 ≤ (va_up n1 i (-1)) j ∧ (va_up n1 i (-1)) j ≤ 200 := k_up_in hb1 (by omega)
        have f_33 : g_32 11 = .inl (cA 11, 8, .inl (fun j => iI ((va_up n1 i (-1)) j))) := f_33
        refine lv_iinc (v := nI (i + 1)) (lv' := [(1, .int (nI (i + 1))), (0, .ref (ad 0))]) hx hb dX10_clear_25 hl (k := 1) rfl (nI_add i 1) (by decide) rfl (fun ls hl => ?_)
        refine lv_goto (tgt := 12) hx hb dX10_clear_28 (by decide) ?_
        exact ih_24 (i + 1) (va_up n1 i (-1)) g_32 (fun (k : Nat) (hk : k ≠ 11) => (fr_34 k (by omega)).trans ((fr_26 k (by omega)).trans (rfl))) (by omega) (by omega) b_35 (fun j hj => by by_cases h9 : j = i; rw [h9, va_up_self]; rw [va_up_ne _ _ h9]; exact hs j (by omega)) f_33 _ _ _ hP hS (lv_sub (l' := [(0, .ref (ad 0)), (1, .int (nI (i + 1)))]) hl [1, 0] rfl)
  have f_38 : g_20 11 = .inl (cA 11, 8, .inl (fun j => iI (nm j))) := (fr_22 11 (by omega)).trans ((fr_19 11 (by omega)).trans t11)
  exact loop_23 _ 0 nm g_20 (fun (k : Nat) (hk : k ≠ 11) => rfl) (Nat.lt_succ_self _) (by omega) t11b (fun j h => absurd h (by omega)) f_38 _ _ _ hP hS (lv_sub (l' := [(0, .ref (ad 0)), (1, .int (nI 0))]) hl [1, 0] rfl)
def wd_X10_parts : List Cond := .code yX10_parts cX10_parts 4 (some .int) :: (([.methodLink RX10 263 yX10_noName, .instanceMethod yX10_noName, .selects RX10 yX10_noName yX10_noName, .initialized RX10, .fieldLink RX10 47 "GradientDeskModel" "names" "[I", .methodLink RX10 257 yX10_reach, .instanceMethod yX10_reach, .selects RX10 yX10_reach yX10_reach, .fieldLink RX10 50 "GradientDeskModel" "reached" "[Z"] : List Cond) ++ (wd_X10_noName ++ (u_ws RX10 TX10 29 ++ (wd_X10_reach ++ ([])))))
theorem gw_X10_parts : wd_X10_parts.all goodWord = true := k_allc rfl (k_all (by decide +kernel) (k_all (gw_X10_noName) (k_all (gu_X10) (k_all (gw_X10_reach) (rfl)))))
set_option maxHeartbeats 4000000 in
set_option maxRecDepth 100000 in
theorem c_X10_parts (l : Launch) (dC : Nat → ClassId) (dI : Nat → Nat → Nat) (A : Nat → Prop) (ad : Nat → Nat) (cA : Nat → ClassId) (g : Nat → va_E) (x : Nat → Int32) (L : List PD) (nm : Nat → Int) (tx : Nat → Nat) (ty : Nat) (wr : List Int) (v : Int32) (hI : RIE ad cA g x L nm tx ty wr) : Met l yX10_parts wd_X10_parts ({ frames := 20, cells := 0, slots := 0, locals := 400 }) (va_Pc [.ref (ad 0), .int v] (PR NSr tyr dC dI A ad cA g)) (va_Qi (fun (r : Int32) => fun (u : (Nat → va_E) × (Nat → Int32)) => match u with | (g2, x2) => RIE ad cA g2 x2 L nm tx ty wr ∧ x2 2 = x 2 ∧ ((x2 0 = nI 0 ∧ ∃ vn, v = nI vn ∧ vn ≤ 7 ∧ 0 ≤ nm vn ∧ r = nI (cntB (rchN L (nm vn).toNat ((nm vn).toNat + 1)) 200)) ∨ (r = nI 0 ∧ ((¬ (0 ≤ v.toInt ∧ v.toInt ≤ 7) ∧ x2 0 = nI 1) ∨ (∃ a9 : Nat, v = nI a9 ∧ a9 ≤ 7 ∧ nm a9 < 0 ∧ x2 0 = nI 2))))) (fun (u : (Nat → va_E) × (Nat → Int32)) (t : State) => va_P (dC, dI) vwCl (wo ad NSr u.1) t.heap) A) (0) (0) A := by
  refine Met.ofW (cc := cX10_parts) (maxL := 4) (ret := (some .int)) (by decide) rfl ?_
  intro p e s m args below meth c s₁ B hml hv
  obtain ⟨rfl, hA, hP, hL⟩ := hv
  have hx := B.exec
  have hb := B.bytes
  have hr := B.returns
  have hts := atoms_spec (ws := wd_X10_parts) B.pre
  have hown : s.vm.findClass RX10 = some m.cls := findClass_of_methodNamed B.named
  have hlocks := B.notSynchronized
  have hK := hL.1
  have hD : ∀ g, va_D A (wo ad NSr g) := fun g => wo_D hL.2.1 hL.2.2 g
  have hS : va_S A s.heap s.heap [] := va_S.rf
  have bk0 : ∀ w ∈ wd_X10_noName, w ∈ wd_X10_parts := fun _ h => List.mem_cons_of_mem _ (List.mem_append_right _ (List.mem_append_left _ h))
  have bk1 : ∀ w ∈ u_ws RX10 TX10 29, w ∈ wd_X10_parts := fun _ h => List.mem_cons_of_mem _ (List.mem_append_right _ (List.mem_append_right _ (List.mem_append_left _ h)))
  have bk2 : ∀ w ∈ wd_X10_reach, w ∈ wd_X10_parts := fun _ h => List.mem_cons_of_mem _ (List.mem_append_right _ (List.mem_append_right _ (List.mem_append_right _ (List.mem_append_left _ h))))
  have hl := lv_entry ([.ref (ad 0), .int v]) (n := 4) (Nat.le_of_ble_eq_true rfl)
  rw [lg_entry_eq]
  generalize (lg_sl ([.ref (ad 0), .int v]) ++ List.replicate (4 - (lg_sl ([.ref (ad 0), .int v])).length) Slot.unset).toArray = ls at hl ⊢
  have hl : lv_has ls 4 [(0, .ref (ad 0)), (1, .int v)] := hl
  have hIk := hI
  obtain ⟨pf, qf, pt, hI0⟩ := hIk
  have hF := hI0.1
  have h0o := hF.obj
  obtain ⟨t4, t4b, t11, t11b, t11c⟩ := hI0.2.2.2.2.2.2.1
  refine lv_aload_n hx hb dX10_parts_0 rfl (lv_at hl 0 rfl) ?_
  refine lv_iload_n hx hb dX10_parts_1 rfl (lv_at hl 1 rfl) ?_
  refine va_calli (va_runV (As := [.int v]) (rest := []) ⟨hx, hb, hml, hown, hts⟩ (c_X10_noName l dC dI A ad cA g x L nm tx ty wr v hI) (cwV 1 hts (goodIn_app (goodIn_r [Cond.methodLink RX10 263 yX10_noName, Cond.instanceMethod yX10_noName, Cond.selects RX10 yX10_noName yX10_noName, Cond.initialized RX10] [1, 2, 3, 4] rfl rfl) (goodIn_sub (fun w9 h9 => bk0 w9 h9) gw_X10_noName)) rfl rfl rfl (by decide +kernel) ⟨Nat.le_of_ble_eq_true rfl, Nat.le_of_ble_eq_true rfl⟩) ⟨fun a U g mk q => ⟨q.1, q.2.1, q.2.2.1, LY.moved (u := U) (U := U.calling g mk a) (Vm.Alike.refl U.vm) q.2.2.2⟩, va_recv hK hP (ci := 13) (q0 := 0) rfl (wo_at (by decide) h0o), fun U hU hW => ⟨rfl, by rw [hU]; exact fun q h => hA q (Nat.le_trans hS.1 h), by rw [hU]; exact hP, LY.moved hW.alike hL⟩⟩ rfl rfl hl.1 rfl (lv_room (Nat.le_of_ble_eq_true rfl)) dX10_parts_2 ⟨(Nat.le_of_ble_eq_true rfl), (Nat.le_of_ble_eq_true rfl)⟩) hS (fun q _ h => h) (fun q h => h) (fun r_1 u8 t8 H1 locs ht8 hvm8 hw_2 hB hz1 hk1 hS => ?_)
  obtain ⟨g_3, x2_4⟩ := u8
  try dsimp only at hw_2 hB
  rw [ht8] at hB
  have hP := hB
  generalize H1 = H at hP hS ⊢
  have fr_5 := hw_2
  obtain ⟨hR2, hx22, hcc⟩ := hw_2
  rcases hcc with ⟨rfl, hx20, vn, hvv, hvn, hnv⟩ | ⟨rfl, hx20⟩
  · skip
    rw [hvv] at hl
    obtain ⟨pf2, qf2, pt2, hI2⟩ := hR2
    have hI3 := hI2
    obtain ⟨hF2, hPt2, hM2, hW2, hL22, hmd2, hTx2, hty_2, hty2_2, hwr_2, hwr2_2, hVO2, hBd2⟩ := hI3
    have hVO20 := hVO2
    have hPt20 := hPt2
    have hF20 := hF2
    have hTx20 := hTx2
    obtain ⟨u4, u4b, u11, u11b, u11c⟩ := hTx2
    obtain ⟨⟨rc9, y12, y12b⟩, yy⟩ := hVO2
    have hob2 := hF2.obj
    refine lv_if_eq (tgt := 10) hx hb dX10_parts_5 (by decide) (fun c_6 => ?_) (fun c_6 => absurd c_6 (by decide))
    refine lv_aload_n hx hb dX10_parts_10 rfl (lv_at hl 0 rfl) ?_
    refine lv_aload_n hx hb dX10_parts_11 rfl (lv_at hl 0 rfl) ?_
    refine m_get (D := (dC, dI)) (v := .ref (ad 11)) (C := RX10) (T := TX10) (N := 29) hx hb hts bk1 hown hK hP 0 (by decide) hob2 rfl 15 (by decide) (hts (.fieldLink RX10 47 "GradientDeskModel" "names" "[I") (List.mem_of_getElem? (i := 5) rfl)) (fun _ h9 => h9) rfl dX10_parts_12 ?_
    refine lv_iload_n hx hb dX10_parts_15 rfl (lv_at hl 1 rfl) ?_
    refine m_iald hx hb hK hP 11 (by decide) rfl u11 (i := vn) (by omega) (by decide) dX10_parts_16 ?_
    have b_7 := u11b vn
    obtain ⟨rt, hrt⟩ : ∃ z9 : Nat, nm vn = (z9 : Int) := ⟨(nm vn).toNat, by omega⟩
    have hr9 := t11c vn (by omega)
    rw [hrt, ← nI_iI]
    refine va_callv (va_runV (As := [.int (nI rt)]) (rest := []) ⟨hx, hb, hml, hown, hts⟩ (c_X10_reach l dC dI A ad cA g_3 x2_4 pt2 pf2 qf2 L rc9 rt hob2 hPt20 hM2 hW2 hL22 y12 y12b (by omega)) (cwV 1 hts (goodIn_app (goodIn_r [Cond.methodLink RX10 257 yX10_reach, Cond.instanceMethod yX10_reach, Cond.selects RX10 yX10_reach yX10_reach, Cond.initialized RX10] [6, 7, 8, 4] rfl rfl) (goodIn_sub (fun w9 h9 => bk2 w9 h9) gw_X10_reach)) rfl rfl rfl (by decide +kernel) ⟨Nat.le_of_ble_eq_true rfl, Nat.le_of_ble_eq_true rfl⟩) ⟨fun a U g mk q => ⟨q.1, q.2.1, q.2.2.1, LY.moved (u := U) (U := U.calling g mk a) (Vm.Alike.refl U.vm) q.2.2.2⟩, va_recv hK hP (ci := 13) (q0 := 0) rfl (wo_at (by decide) hob2), fun U hU hW => ⟨rfl, by rw [hU]; exact fun q h => hA q (Nat.le_trans hS.1 h), by rw [hU]; exact hP, LY.moved hW.alike hL⟩⟩ rfl rfl hl.1 rfl (lv_room (Nat.le_of_ble_eq_true rfl)) dX10_parts_17 ⟨(Nat.le_of_ble_eq_true rfl), (Nat.le_of_ble_eq_true rfl)⟩) hS (fun q _ h => h) (fun q h => h) (fun u8 t8 H1 locs ht8 hvm8 hw_8 hB hz1 hk1 hS => ?_)
    obtain ⟨g_9, rc2_10⟩ := u8
    try dsimp only at hw_8 hB
    rw [ht8] at hB
    have hP := hB
    generalize H1 = H at hP hS ⊢
    obtain ⟨fr_11, q12, q12b, q12c⟩ := hw_8
    refine lv_iconst (v := nI 0) hx hb dX10_parts_20 (by decide +kernel) ?_
    refine lv_istore_n (lv' := [(2, .int (nI 0)), (0, .ref (ad 0)), (1, .int (nI vn))]) hx hb dX10_parts_21 rfl hl (by decide) rfl (fun ls hl => ?_)
    refine lv_iconst (v := nI 0) hx hb dX10_parts_22 (by decide +kernel) ?_
    refine lv_istore_n (lv' := [(3, .int (nI 0)), (2, .int (nI 0)), (0, .ref (ad 0)), (1, .int (nI vn))]) hx hb dX10_parts_23 rfl hl (by decide) rfl (fun ls hl => ?_)
    have loop_12 : ∀ (k9 : Nat) (i : Nat) (n : Nat), 200 - i < k9 → (i ≤ 200) → (n ≤ i) → (n = cntB (rchN L rt (rt + 1)) i) → ∀ (H : Heap) (locs : List Loc) (ls : Array Slot), va_P (dC, dI) vwCl (wo ad NSr g_9) H → va_S A s.heap H locs → lv_has ls 4 [(0, .ref (ad 0)), (1, .int (nI vn)), (2, .int (nI n)), (3, .int (nI i))] → W p l e (headSpec wd_X10_parts ({ frames := 20, cells := 0, slots := 0, locals := 400 })).room s m ([.ref (ad 0), .int v] : List Value).toArray below meth c H locs (0) (0) (MQ below (va_Qi (fun (r : Int32) => fun (u : (Nat → va_E) × (Nat → Int32)) => match u with | (g2, x2) => RIE ad cA g2 x2 L nm tx ty wr ∧ x2 2 = x 2 ∧ ((x2 0 = nI 0 ∧ ∃ vn, v = nI vn ∧ vn ≤ 7 ∧ 0 ≤ nm vn ∧ r = nI (cntB (rchN L (nm vn).toNat ((nm vn).toNat + 1)) 200)) ∨ (r = nI 0 ∧ ((¬ (0 ≤ v.toInt ∧ v.toInt ≤ 7) ∧ x2 0 = nI 1) ∨ (∃ a9 : Nat, v = nI a9 ∧ a9 ≤ 7 ∧ nm a9 < 0 ∧ x2 0 = nI 2))))) (fun (u : (Nat → va_E) × (Nat → Int32)) (t : State) => va_P (dC, dI) vwCl (wo ad NSr u.1) t.heap) A) ([.ref (ad 0), .int v] : List Value).toArray s (0) (0) A) (F0 m 24 ls []) := by
      intro k9
      induction k9 with
      | zero => intro i n h9; exact absurd h9 (Nat.not_lt_zero _)
      | succ k9 ih_13 =>
        intro i n h9 hi hn hc H locs ls hP hS hl
        refine lv_iload_n hx hb dX10_parts_24 rfl (lv_at hl 3 rfl) ?_
        refine lv_sipush (v := nI 200) hx hb dX10_parts_25 (by decide +kernel) ?_
        refine lv_icmp_ge (tgt := 54) hx hb dX10_parts_28 (by decide) (fun c_16 => ?_) (fun c_16 => ?_)
        · have c_16 := (nI_leI (a := 200) (b := i) (by decide) (by omega)).mp c_16
          refine lv_iload_n hx hb dX10_parts_54 rfl (lv_at hl 2 rfl) ?_
          have f_17 : g_9 0 = .inr (13, Rob ad x2_4) := (fr_11 0 (by omega)).trans hob2
          refine W.widen (k := 0) (n := 0) (by omega) (by omega) ?_
          exact W.iret (v := nI n) hx hb hr (fun t9 ht9 hW9 => ⟨⟨nI n, (g_9, x2_4), rfl, ⟨RI.num hI2 (hF20.setx (fun (k : Nat) (hk : k = 1 ∨ k = 2 ∨ k = 3) => (fr_11 k (by omega)).trans (rfl)) f_17 rfl) (fun (k : Nat) (hk : (4 ≤ k ∧ k ≤ 11) ∨ k = 16) => (fr_11 k (by omega)).trans (rfl)) (VO.reach hVO20 q12 q12b (fun (k : Nat) (hk : 13 ≤ k ∧ k ≤ 19) => (fr_11 k (by omega)).trans (rfl))) rfl rfl rfl (fun _ _ => ⟨rfl, rfl⟩) hBd2, hx22, Or.inl ⟨hx20, vn, hvv, hvn, hnv, by rw [hrt, Int.toNat_natCast, hc, show i = 200 by omega]⟩⟩, by show va_P (dC, dI) vwCl _ t9.heap; rw [ht9]; exact hP⟩, hS.F ht9⟩) hS.2.2 dX10_parts_55
        · have c_16 := mt (nI_leI (a := 200) (b := i) (by decide) (by omega)).mpr c_16
          refine lv_aload_n hx hb dX10_parts_31 rfl (lv_at hl 0 rfl) ?_
          have f_18 : g_9 0 = .inr (13, Rob ad x2_4) := (fr_11 0 (by omega)).trans hob2
          refine m_get (D := (dC, dI)) (v := .ref (ad 12)) (C := RX10) (T := TX10) (N := 29) hx hb hts bk1 hown hK hP 0 (by decide) f_18 rfl 16 (by decide) (hts (.fieldLink RX10 50 "GradientDeskModel" "reached" "[Z") (List.mem_of_getElem? (i := 9) rfl)) (fun _ h9 => h9) rfl dX10_parts_32 ?_
          refine lv_iload_n hx hb dX10_parts_35 rfl (lv_at hl 3 rfl) ?_
          refine m_zald hx hb hK hP 12 (by decide) rfl q12 (i := i) (by omega) (by decide) dX10_parts_36 ?_
          have b_19 := q12b i
          refine lv_if_eq (tgt := 46) hx hb dX10_parts_37 (by decide) (fun c_20 => ?_) (fun c_20 => ?_)
          · have c_20 := (nI_eq (a := (rc2_10 i)) (b := 0) (by omega) (by decide)).mp c_20
            refine lv_iload_n hx hb dX10_parts_46 rfl (lv_at hl 2 rfl) ?_
            refine lv_istore_n (lv' := [(2, .int (nI n)), (0, .ref (ad 0)), (1, .int (nI vn)), (3, .int (nI i))]) hx hb dX10_parts_47 rfl hl (by decide) rfl (fun ls hl => ?_)
            refine lv_iinc (v := nI (i + 1)) (lv' := [(3, .int (nI (i + 1))), (2, .int (nI n)), (0, .ref (ad 0)), (1, .int (nI vn))]) hx hb dX10_parts_48 hl (k := 3) rfl (nI_add i 1) (by decide) rfl (fun ls hl => ?_)
            refine lv_goto (tgt := 24) hx hb dX10_parts_51 (by decide) ?_
            exact ih_13 (i + 1) n (by omega) (by omega) (by omega) (by have h7 := q12c i (by omega); rw [cntB_s, ← hc]; split <;> omega) _ _ _ hP hS (lv_sub (l' := [(0, .ref (ad 0)), (1, .int (nI vn)), (2, .int (nI n)), (3, .int (nI (i + 1)))]) hl [2, 3, 1, 0] rfl)
          · have c_20 := mt (nI_eq (a := (rc2_10 i)) (b := 0) (by omega) (by decide)).mpr c_20
            refine lv_iload_n hx hb dX10_parts_40 rfl (lv_at hl 2 rfl) ?_
            refine lv_iconst (v := nI 1) hx hb dX10_parts_41 (by decide +kernel) ?_
            refine lv_iadd hx hb dX10_parts_42 ?_
            refine lv_topi (fun x_23 e_24 => ?_)
            obtain rfl : x_23 = nI (n + 1) := e_24.trans (nI_add n 1)
            refine lv_goto (tgt := 47) hx hb dX10_parts_43 (by decide) ?_
            refine lv_istore_n (lv' := [(2, .int (nI (n + 1))), (0, .ref (ad 0)), (1, .int (nI vn)), (3, .int (nI i))]) hx hb dX10_parts_47 rfl hl (by decide) rfl (fun ls hl => ?_)
            refine lv_iinc (v := nI (i + 1)) (lv' := [(3, .int (nI (i + 1))), (2, .int (nI (n + 1))), (0, .ref (ad 0)), (1, .int (nI vn))]) hx hb dX10_parts_48 hl (k := 3) rfl (nI_add i 1) (by decide) rfl (fun ls hl => ?_)
            refine lv_goto (tgt := 24) hx hb dX10_parts_51 (by decide) ?_
            exact ih_13 (i + 1) (n + 1) (by omega) (by omega) (by omega) (by have h7 := q12c i (by omega); rw [cntB_s, ← hc]; split <;> omega) _ _ _ hP hS (lv_sub (l' := [(0, .ref (ad 0)), (1, .int (nI vn)), (2, .int (nI (n + 1))), (3, .int (nI (i + 1)))]) hl [2, 3, 1, 0] rfl)
    exact loop_12 _ 0 0 (Nat.lt_succ_self _) (by omega) (by omega) rfl _ _ _ hP hS (lv_sub (l' := [(0, .ref (ad 0)), (1, .int (nI vn)), (2, .int (nI 0)), (3, .int (nI 0))]) hl [2, 3, 1, 0] rfl)
  · skip
    refine lv_if_eq (tgt := 10) hx hb dX10_parts_5 (by decide) (fun c_27 => absurd c_27 (by decide)) (fun c_27 => ?_)
    refine lv_iconst (v := nI 0) hx hb dX10_parts_8 (by decide +kernel) ?_
    refine W.widen (k := 0) (n := 0) (by omega) (by omega) ?_
    exact W.iret (v := nI 0) hx hb hr (fun t9 ht9 hW9 => ⟨⟨nI 0, (g_3, x2_4), rfl, ⟨hR2, hx22, Or.inr ⟨rfl, hx20⟩⟩, by show va_P (dC, dI) vwCl _ t9.heap; rw [ht9]; exact hP⟩, hS.F ht9⟩) hS.2.2 dX10_parts_9
