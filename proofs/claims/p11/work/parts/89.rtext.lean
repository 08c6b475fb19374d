def wd_X10_makeAtom : List Cond := .code yX10_makeAtom cX10_makeAtom 4 (some .int) :: (([.methodLink RX10 190 yX10_next, .instanceMethod yX10_next, .selects RX10 yX10_next yX10_next, .initialized RX10, .methodLink RX10 193 yX10_isDigit, .static yX10_isDigit, .methodLink RX10 204 yX10_passNumber, .instanceMethod yX10_passNumber, .selects RX10 yX10_passNumber yX10_passNumber, .methodLink RX10 177 yX10_makeFraction, .instanceMethod yX10_makeFraction, .selects RX10 yX10_makeFraction yX10_makeFraction, .fieldLink RX10 184 "GradientDeskModel" "at" "I", .fieldLink RX10 47 "GradientDeskModel" "names" "[I", .methodLink RX10 207 yX10_makeVariable, .instanceMethod yX10_makeVariable, .selects RX10 yX10_makeVariable yX10_makeVariable] : List Cond) ++ (wd_X10_next ++ (wd_X10_isDigit ++ (wd_X10_passNumber ++ (wd_X10_makeFraction ++ (u_ws RX10 TX10 29 ++ (wd_X10_makeVariable ++ ([]))))))))
theorem gw_X10_makeAtom : wd_X10_makeAtom.all goodWord = true := k_allc rfl (k_all (by decide +kernel) (k_all (gw_X10_next) (k_all (gw_X10_isDigit) (k_all (gw_X10_passNumber) (k_all (gw_X10_makeFraction) (k_all (gu_X10) (k_all (gw_X10_makeVariable) (rfl))))))))
set_option maxHeartbeats 4000000 in
set_option maxRecDepth 100000 in
theorem c_X10_makeAtom (l : Launch) (dC : Nat → ClassId) (dI : Nat → Nat → Nat) (A : Nat → Prop) (ad : Nat → Nat) (cA : Nat → ClassId) (g : Nat → va_E) (x : Nat → Int32) (pf : Nat → Int) (qf : Nat → Nat) (pt : Nat → Nat → Int) (L : List PD) (tx : Nat → Nat) (ty : Nat) (a1 : Nat) (nm : Nat → Int) (b1 : Nat) (hF : RF ad cA g x pf qf) (hPt : PTF cA g pt) (hM : MT L pt pf qf) (hmd : x 3 = nI L.length) (hL2 : L.length ≤ 200) (hft : x 4 = iI 0) (hW : WFL L) (h4 : g 4 = .inl (cA 4, 64, .inl (fun j => nI (tx j)))) (h4b : ∀ j, tx j < 127) (hty : x 1 = nI ty) (hty2 : ty ≤ 64) (hat : x 7 = nI a1) (ha1 : a1 ≤ 64) (h11 : g 11 = .inl (cA 11, 8, .inl (fun j => iI (nm j)))) (h11b : ∀ j, -1 ≤ nm j ∧ nm j ≤ 200) (h11c : ∀ j, j < 8 → nm j < L.length) (hpa : patom tx ty a1 = (b1, 1)) (hnb : ¬ (48 ≤ nx tx ty b1 ∧ nx tx ty b1 ≤ 57)) (hkn : 65 ≤ nx tx ty a1 → nx tx ty a1 ≤ 72 → 0 ≤ nm (nx tx ty a1 - 65)) : Met l yX10_makeAtom wd_X10_makeAtom ({ frames := 90, cells := 0, slots := 0, locals := 1800 }) (va_Pc [.ref (ad 0)] (PR NSr tyr dC dI A ad cA g)) (va_Qi (fun (r : Int32) => fun (u : (Nat → va_E) × (Nat → Int32) × (Nat → Nat → Int) × (Nat → Int) × (Nat → Nat)) => match u with | (g2, x2, pt2, pf2, qf2) => (∀ k, k ≠ 0 ∧ k ≠ 1 ∧ k ≠ 2 ∧ k ≠ 3 ∧ k ≠ 5 ∧ k ≠ 6 ∧ k ≠ 7 ∧ k ≠ 8 ∧ k ≠ 9 ∧ k ≠ 10 → g2 k = g k) ∧ MKP ad cA g2 (va_up x 7 (nI b1)) x2 pf qf (makL (atS tx ty nm a1) L) r pt2 pf2 qf2) (fun (u : (Nat → va_E) × (Nat → Int32) × (Nat → Nat → Int) × (Nat → Int) × (Nat → Nat)) (t : State) => va_P (dC, dI) vwCl (wo ad NSr u.1) t.heap) A) (0) (0) A := by
  refine Met.ofW (cc := cX10_makeAtom) (maxL := 4) (ret := (some .int)) (by decide) rfl ?_
  intro p e s m args below meth c s₁ B hml hv
  obtain ⟨rfl, hA, hP, hL⟩ := hv
  have hx := B.exec
  have hb := B.bytes
  have hr := B.returns
  have hts := atoms_spec (ws := wd_X10_makeAtom) B.pre
  have hown : s.vm.findClass RX10 = some m.cls := findClass_of_methodNamed B.named
  have hlocks := B.notSynchronized
  have hK := hL.1
  have hD : ∀ g, va_D A (wo ad NSr g) := fun g => wo_D hL.2.1 hL.2.2 g
  have hS : va_S A s.heap s.heap [] := va_S.rf
  have bk0 : ∀ w ∈ wd_X10_next, w ∈ wd_X10_makeAtom := fun _ h => List.mem_cons_of_mem _ (List.mem_append_right _ (List.mem_append_left _ h))
  have bk1 : ∀ w ∈ wd_X10_isDigit, w ∈ wd_X10_makeAtom := fun _ h => List.mem_cons_of_mem _ (List.mem_append_right _ (List.mem_append_right _ (List.mem_append_left _ h)))
  have bk2 : ∀ w ∈ wd_X10_passNumber, w ∈ wd_X10_makeAtom := fun _ h => List.mem_cons_of_mem _ (List.mem_append_right _ (List.mem_append_right _ (List.mem_append_right _ (List.mem_append_left _ h))))
  have bk3 : ∀ w ∈ wd_X10_makeFraction, w ∈ wd_X10_makeAtom := fun _ h => List.mem_cons_of_mem _ (List.mem_append_right _ (List.mem_append_right _ (List.mem_append_right _ (List.mem_append_right _ (List.mem_append_left _ h)))))
  have bk4 : ∀ w ∈ u_ws RX10 TX10 29, w ∈ wd_X10_makeAtom := fun _ h => List.mem_cons_of_mem _ (List.mem_append_right _ (List.mem_append_right _ (List.mem_append_right _ (List.mem_append_right _ (List.mem_append_right _ (List.mem_append_left _ h))))))
  have bk5 : ∀ w ∈ wd_X10_makeVariable, w ∈ wd_X10_makeAtom := fun _ h => List.mem_cons_of_mem _ (List.mem_append_right _ (List.mem_append_right _ (List.mem_append_right _ (List.mem_append_right _ (List.mem_append_right _ (List.mem_append_right _ (List.mem_append_left _ h)))))))
  have hl := lv_entry ([.ref (ad 0)]) (n := 4) (Nat.le_of_ble_eq_true rfl)
  rw [lg_entry_eq]
  generalize (lg_sl ([.ref (ad 0)]) ++ List.replicate (4 - (lg_sl ([.ref (ad 0)])).length) Slot.unset).toArray = ls at hl ⊢
  have hl : lv_has ls 4 [(0, .ref (ad 0))] := hl
  have hob0 := hF.obj
  refine lv_aload_n hx hb dX10_makeAtom_0 rfl (lv_at hl 0 rfl) ?_
  refine va_calli (va_runV (As := []) (rest := []) ⟨hx, hb, hml, hown, hts⟩ (c_X10_next l dC dI A ad cA g x tx ty a1 hob0 h4 h4b hty hty2 hat ha1) (cwV 0 hts (goodIn_app (goodIn_r [Cond.methodLink RX10 190 yX10_next, Cond.instanceMethod yX10_next, Cond.selects RX10 yX10_next yX10_next, Cond.initialized RX10] [1, 2, 3, 4] rfl rfl) (goodIn_sub (fun w9 h9 => bk0 w9 h9) gw_X10_next)) rfl rfl rfl (by decide +kernel) ⟨Nat.le_of_ble_eq_true rfl, Nat.le_of_ble_eq_true rfl⟩) ⟨fun a U g mk q => ⟨q.1, q.2.1, q.2.2.1, LY.moved (u := U) (U := U.calling g mk a) (Vm.Alike.refl U.vm) q.2.2.2⟩, va_recv hK hP (ci := 13) (q0 := 0) rfl (wo_at (by decide) hob0), fun U hU hW => ⟨rfl, by rw [hU]; exact fun q h => hA q (Nat.le_trans hS.1 h), by rw [hU]; exact hP, LY.moved hW.alike hL⟩⟩ rfl rfl hl.1 rfl (lv_room (Nat.le_of_ble_eq_true rfl)) dX10_makeAtom_1 ⟨(Nat.le_of_ble_eq_true rfl), (Nat.le_of_ble_eq_true rfl)⟩) hS (fun q _ h => h) (fun q h => h) (fun r_1 u8 t8 H1 locs ht8 hvm8 hw_2 hB hz1 hk1 hS => ?_)
  obtain ⟨⟩ := u8
  try dsimp only at hw_2 hB
  rw [ht8] at hB
  have hP := hB
  generalize H1 = H at hP hS ⊢
  obtain rfl := hw_2
  have hn_3 := nx_lt (ty := ty) (a := a1) h4b
  refine lv_istore_n (lv' := [(1, .int (nI (nx tx ty a1))), (0, .ref (ad 0))]) hx hb dX10_makeAtom_4 rfl hl (by decide) rfl (fun ls hl => ?_)
  refine lv_iload_n hx hb dX10_makeAtom_5 rfl (lv_at hl 0 rfl) ?_
  refine va_calli (va_runS (As := [.int (nI (nx tx ty a1))]) (rest := []) ⟨hx, hb, hml, hown, hts⟩ (c_X10_isDigit l dC dI A ad cA g (nx tx ty a1) (by omega)) (va_cwS 1 hts (goodIn_app (goodIn_r [Cond.methodLink RX10 193 yX10_isDigit, Cond.static yX10_isDigit, Cond.initialized RX10] [5, 6, 4] rfl rfl) (goodIn_sub (fun w9 h9 => bk1 w9 h9) gw_X10_isDigit)) rfl rfl rfl (by decide +kernel) ⟨Nat.le_of_ble_eq_true rfl, Nat.le_of_ble_eq_true rfl⟩) ⟨fun a U g mk q => ⟨q.1, q.2.1, q.2.2.1, LY.moved (u := U) (U := U.calling g mk a) (Vm.Alike.refl U.vm) q.2.2.2⟩, fun U hU hW => ⟨rfl, by rw [hU]; exact fun q h => hA q (Nat.le_trans hS.1 h), by rw [hU]; exact hP, LY.moved hW.alike hL⟩⟩ rfl rfl hl.1 rfl (lv_room (Nat.le_of_ble_eq_true rfl)) dX10_makeAtom_6 ⟨(Nat.le_of_ble_eq_true rfl), (Nat.le_of_ble_eq_true rfl)⟩) hS (fun q _ h => h) (fun q h => h) (fun r_4 u8 t8 H1 locs ht8 hvm8 hw_5 hB hz1 hk1 hS => ?_)
  obtain ⟨⟩ := u8
  try dsimp only at hw_5 hB
  rw [ht8] at hB
  have hP := hB
  generalize H1 = H at hP hS ⊢
  rcases hw_5 with ⟨rfl, hdg⟩ | ⟨rfl, hdg⟩
  · skip
    refine lv_if_eq (tgt := 52) hx hb dX10_makeAtom_9 (by decide) (fun c_6 => absurd c_6 (by decide)) (fun c_6 => ?_)
    refine lv_aload_n hx hb dX10_makeAtom_12 rfl (lv_at hl 1 rfl) ?_
    obtain ⟨n01, n02, n03, n04, n05, n06⟩ := patom_num hdg hpa hnb
    have hal : a1 + nd0 tx ty a1 ≤ 64 := by have h9 := n03 (nd0 tx ty a1 - 1) (by omega); have h8 := nx_pos (tx := tx) (ty := ty) (a := a1 + (nd0 tx ty a1 - 1)) (by omega); omega
    have hv0 := pnv_4 (h := nx tx ty) (a := a1) (n := nd0 tx ty a1) (fun k hk => (n03 k hk).2) n02
    refine va_calli (va_runV (As := []) (rest := []) ⟨hx, hb, hml, hown, hts⟩ (c_X10_passNumber l dC dI A ad cA g x tx ty a1 (nd0 tx ty a1) hob0 h4 h4b hty hty2 hat ha1 n02 n03 n04 hal) (cwV 0 hts (goodIn_app (goodIn_r [Cond.methodLink RX10 204 yX10_passNumber, Cond.instanceMethod yX10_passNumber, Cond.selects RX10 yX10_passNumber yX10_passNumber, Cond.initialized RX10] [7, 8, 9, 4] rfl rfl) (goodIn_sub (fun w9 h9 => bk2 w9 h9) gw_X10_passNumber)) rfl rfl rfl (by decide +kernel) ⟨Nat.le_of_ble_eq_true rfl, Nat.le_of_ble_eq_true rfl⟩) ⟨fun a U g mk q => ⟨q.1, q.2.1, q.2.2.1, LY.moved (u := U) (U := U.calling g mk a) (Vm.Alike.refl U.vm) q.2.2.2⟩, va_recv hK hP (ci := 13) (q0 := 0) rfl (wo_at (by decide) hob0), fun U hU hW => ⟨rfl, by rw [hU]; exact fun q h => hA q (Nat.le_trans hS.1 h), by rw [hU]; exact hP, LY.moved hW.alike hL⟩⟩ rfl rfl hl.1 rfl (lv_room (Nat.le_of_ble_eq_true rfl)) dX10_makeAtom_13 ⟨(Nat.le_of_ble_eq_true rfl), (Nat.le_of_ble_eq_true rfl)⟩) hS (fun q _ h => h) (fun q h => h) (fun r_7 u8 t8 H1 locs ht8 hvm8 hw_8 hB hz1 hk1 hS => ?_)
    obtain ⟨g_9, x2_10⟩ := u8
    try dsimp only at hw_8 hB
    rw [ht8] at hB
    have hP := hB
    generalize H1 = H at hP hS ⊢
    obtain ⟨fr_11, hob1, hp7, hpo, rfl⟩ := hw_8
    refine lv_istore_n (lv' := [(2, .int (nI (pnv (nx tx ty) a1 (nd0 tx ty a1)))), (1, .int (nI (nx tx ty a1))), (0, .ref (ad 0))]) hx hb dX10_makeAtom_16 rfl hl (by decide) rfl (fun ls hl => ?_)
    refine lv_iconst (v := nI 1) hx hb dX10_makeAtom_17 (by decide +kernel) ?_
    refine lv_istore_n (lv' := [(3, .int (nI 1)), (2, .int (nI (pnv (nx tx ty) a1 (nd0 tx ty a1)))), (1, .int (nI (nx tx ty a1))), (0, .ref (ad 0))]) hx hb dX10_makeAtom_18 rfl hl (by decide) rfl (fun ls hl => ?_)
    refine lv_aload_n hx hb dX10_makeAtom_19 rfl (lv_at hl 3 rfl) ?_
    have f_12 : g_9 4 = .inl (cA 4, 64, .inl (fun j => nI (tx j))) := (fr_11 4 (by omega)).trans h4
    refine va_calli (va_runV (As := []) (rest := []) ⟨hx, hb, hml, hown, hts⟩ (c_X10_next l dC dI A ad cA g_9 x2_10 tx ty (a1 + nd0 tx ty a1) hob1 f_12 h4b ((hpo 1 (by decide)).trans hty) hty2 hp7 hal) (cwV 0 hts (goodIn_app (goodIn_r [Cond.methodLink RX10 190 yX10_next, Cond.instanceMethod yX10_next, Cond.selects RX10 yX10_next yX10_next, Cond.initialized RX10] [1, 2, 3, 4] rfl rfl) (goodIn_sub (fun w9 h9 => bk0 w9 h9) gw_X10_next)) rfl rfl rfl (by decide +kernel) ⟨Nat.le_of_ble_eq_true rfl, Nat.le_of_ble_eq_true rfl⟩) ⟨fun a U g mk q => ⟨q.1, q.2.1, q.2.2.1, LY.moved (u := U) (U := U.calling g mk a) (Vm.Alike.refl U.vm) q.2.2.2⟩, va_recv hK hP (ci := 13) (q0 := 0) rfl (wo_at (by decide) hob1), fun U hU hW => ⟨rfl, by rw [hU]; exact fun q h => hA q (Nat.le_trans hS.1 h), by rw [hU]; exact hP, LY.moved hW.alike hL⟩⟩ rfl rfl hl.1 rfl (lv_room (Nat.le_of_ble_eq_true rfl)) dX10_makeAtom_20 ⟨(Nat.le_of_ble_eq_true rfl), (Nat.le_of_ble_eq_true rfl)⟩) hS (fun q _ h => h) (fun q h => h) (fun r_13 u8 t8 H1 locs ht8 hvm8 hw_14 hB hz1 hk1 hS => ?_)
    obtain ⟨⟩ := u8
    try dsimp only at hw_14 hB
    rw [ht8] at hB
    have hP := hB
    generalize H1 = H at hP hS ⊢
    obtain rfl := hw_14
    have hn_15 := nx_lt (ty := ty) (a := a1 + nd0 tx ty a1) h4b
    refine lv_bipush (v := nI 47) hx hb dX10_makeAtom_23 (by decide +kernel) ?_
    refine lv_icmp_ne (tgt := 43) hx hb dX10_makeAtom_25 (by decide) (fun c_16 => ?_) (fun c_16 => ?_)
    · have c_16 := mt (nI_eq (a := (nx tx ty (a1 + nd0 tx ty a1))) (b := 47) (by omega) (by decide)).mpr c_16
      refine lv_aload_n hx hb dX10_makeAtom_43 rfl (lv_at hl 3 rfl) ?_
      refine lv_iload_n hx hb dX10_makeAtom_44 rfl (lv_at hl 1 rfl) ?_
      refine lv_i2l hx hb dX10_makeAtom_45 rfl ?_
      refine lv_topl (fun y_17 e_18 => ?_)
      obtain rfl : y_17 = lN (pnv (nx tx ty) a1 (nd0 tx ty a1)) := e_18.trans (nI_l (by omega))
      refine lv_iload_n hx hb dX10_makeAtom_46 rfl (lv_at hl 0 rfl) ?_
      refine lv_i2l hx hb dX10_makeAtom_47 rfl ?_
      refine lv_topl (fun y_19 e_20 => ?_)
      obtain rfl : y_19 = lN 1 := e_20.trans (nI_l (by decide))
      refine va_calli (va_runV (As := [.long (lN (pnv (nx tx ty) a1 (nd0 tx ty a1))), .long (lN 1)]) (rest := []) ⟨hx, hb, hml, hown, hts⟩ (c_X10_makeFraction l dC dI A ad cA g_9 x2_10 pf qf pt L (lN (pnv (nx tx ty) a1 (nd0 tx ty a1))) (lN 1) ((pnv (nx tx ty) a1 (nd0 tx ty a1) : Nat) : Int) 1 0 (hF.setx (fun (k : Nat) (hk : k = 1 ∨ k = 2 ∨ k = 3) => (fr_11 k (by omega)).trans (rfl)) hob1 rfl) (hPt.same (fun (k : Nat) (hk : 5 ≤ k ∧ k ≤ 10) => (fr_11 k (by omega)).trans (rfl))) hM ((hpo 3 (by decide)).trans hmd) hL2 ((hpo 4 (by decide)).trans hft) (Or.inl rfl) (lN_toInt (by omega)) (by omega) (lN_toInt (by omega)) (by decide) (by omega)) (cwV 2 hts (goodIn_app (goodIn_r [Cond.methodLink RX10 177 yX10_makeFraction, Cond.instanceMethod yX10_makeFraction, Cond.selects RX10 yX10_makeFraction yX10_makeFraction, Cond.initialized RX10] [10, 11, 12, 4] rfl rfl) (goodIn_sub (fun w9 h9 => bk3 w9 h9) gw_X10_makeFraction)) rfl rfl rfl (by decide +kernel) ⟨Nat.le_of_ble_eq_true rfl, Nat.le_of_ble_eq_true rfl⟩) ⟨fun a U g mk q => ⟨q.1, q.2.1, q.2.2.1, LY.moved (u := U) (U := U.calling g mk a) (Vm.Alike.refl U.vm) q.2.2.2⟩, va_recv hK hP (ci := 13) (q0 := 0) rfl (wo_at (by decide) hob1), fun U hU hW => ⟨rfl, by rw [hU]; exact fun q h => hA q (Nat.le_trans hS.1 h), by rw [hU]; exact hP, LY.moved hW.alike hL⟩⟩ rfl rfl hl.1 rfl (lv_room (Nat.le_of_ble_eq_true rfl)) dX10_makeAtom_48 ⟨(Nat.le_of_ble_eq_true rfl), (Nat.le_of_ble_eq_true rfl)⟩) hS (fun q _ h => h) (fun q h => h) (fun r_21 u8 t8 H1 locs ht8 hvm8 hw_22 hB hz1 hk1 hS => ?_)
      obtain ⟨g_23, x2_24, pt2_25, pf2_26, qf2_27⟩ := u8
      try dsimp only at hw_22 hB
      rw [ht8] at hB
      have hP := hB
      generalize H1 = H at hP hS ⊢
      obtain ⟨fr_28, hK⟩ := hw_22
      rw [onF_0] at hK
      have hb7 : b1 = _ := n06 (by omega)
      have hKe := (atS_n0 hdg (by omega) : makL (atS tx ty nm a1) L = _)
      refine W.widen (k := 0) (n := 0) (by omega) (by omega) ?_
      exact W.iret (v := r_21) hx hb hr (fun t9 ht9 hW9 => ⟨⟨r_21, (g_23, x2_24, pt2_25, pf2_26, qf2_27), rfl, ⟨(fun (k : Nat) (hk : k ≠ 0 ∧ k ≠ 1 ∧ k ≠ 2 ∧ k ≠ 3 ∧ k ≠ 5 ∧ k ≠ 6 ∧ k ≠ 7 ∧ k ≠ 8 ∧ k ≠ 9 ∧ k ≠ 10) => (fr_28 k (by omega)).trans ((fr_11 k (by omega)).trans (rfl))), by rw [hKe]; exact hK.base (fun j _ _ => by by_cases h9 : j = 7; subst h9; exact Eq.trans hp7 ((congrArg nI hb7.symm).trans (va_up_self _ _ _).symm); exact (hpo j h9).trans (va_up_ne _ _ h9).symm) (fun _ _ _ => ⟨rfl, rfl⟩)⟩, by show va_P (dC, dI) vwCl _ t9.heap; rw [ht9]; exact hP⟩, hS.F ht9⟩) hS.2.2 dX10_makeAtom_51
    · have c_16 := (nI_eq (a := (nx tx ty (a1 + nd0 tx ty a1))) (b := 47) (by omega) (by decide)).mp c_16
      refine lv_aload_n hx hb dX10_makeAtom_28 rfl (lv_at hl 3 rfl) ?_
      refine lv_dup hx hb dX10_makeAtom_29 rfl ?_
      refine m_get (D := (dC, dI)) (v := .int (nI (a1 + nd0 tx ty a1))) (C := RX10) (T := TX10) (N := 29) hx hb hts bk4 hown hK hP 0 (by decide) hob1 rfl 22 (by decide) (hts (.fieldLink RX10 184 "GradientDeskModel" "at" "I") (List.mem_of_getElem? (i := 13) rfl)) (fun _ h9 => h9) (congrArg (fun z => some (Value.int z)) hp7) dX10_makeAtom_30 ?_
      refine lv_iconst (v := nI 1) hx hb dX10_makeAtom_33 (by decide +kernel) ?_
      refine lv_iadd hx hb dX10_makeAtom_34 ?_
      refine lv_topi (fun x_29 e_30 => ?_)
      obtain rfl : x_29 = nI (a1 + nd0 tx ty a1 + 1) := e_30.trans (nI_add (a1 + nd0 tx ty a1) 1)
      refine m_put (D := (dC, dI)) (v := .int (nI (a1 + nd0 tx ty a1 + 1))) (tv := .int) (C := RX10) (T := TX10) (N := 29) hx hb hts bk4 tyX10 tyX10_ok nmX10 hown hK hP hD hS 0 (by decide) hob1 rfl 22 (by decide) (hts (.fieldLink RX10 184 "GradientDeskModel" "at" "I") (List.mem_of_getElem? (i := 13) rfl)) (fun _ h9 => h9) rfl (by decide +kernel) rfl rfl (Nat.le_of_ble_eq_true rfl) dX10_makeAtom_35 (fun H locs g_31 f_32 fr_33 hP hS => ?_)
      have f_32 : g_31 0 = .inr (13, Rob ad (va_up x2_10 7 (nI (a1 + nd0 tx ty a1 + 1)))) := f_32
      refine lv_aload_n hx hb dX10_makeAtom_38 rfl (lv_at hl 3 rfl) ?_
      obtain ⟨n11, n12, n13, n14, n15⟩ := n05 (by omega)
      have hnp := nx_pos (tx := tx) (ty := ty) (a := a1 + nd0 tx ty a1) (by omega)
      have hal2 : a1 + nd0 tx ty a1 + 1 + nd1 tx ty a1 ≤ 64 := by by_cases h7 : nd1 tx ty a1 = 0; omega; have h9 := n13 (nd1 tx ty a1 - 1) (by omega); have h8 := nx_pos (tx := tx) (ty := ty) (a := a1 + nd0 tx ty a1 + 1 + (nd1 tx ty a1 - 1)) (by omega); omega
      have hv1 := pnv_4 (h := nx tx ty) (a := a1 + nd0 tx ty a1 + 1) (n := nd1 tx ty a1) (fun k hk => (n13 k hk).2) n11
      have f_34 : g_31 4 = .inl (cA 4, 64, .inl (fun j => nI (tx j))) := (fr_33 4 (by omega)).trans f_12
      refine va_calli (va_runV (As := []) (rest := []) ⟨hx, hb, hml, hown, hts⟩ (c_X10_passNumber l dC dI A ad cA g_31 (va_up x2_10 7 (nI (a1 + nd0 tx ty a1 + 1))) tx ty (a1 + nd0 tx ty a1 + 1) (nd1 tx ty a1) f_32 f_34 h4b ((va_up_ne _ _ (by decide)).trans ((hpo 1 (by decide)).trans hty)) hty2 (va_up_self _ _ _) (by omega) n11 n13 n14 hal2) (cwV 0 hts (goodIn_app (goodIn_r [Cond.methodLink RX10 204 yX10_passNumber, Cond.instanceMethod yX10_passNumber, Cond.selects RX10 yX10_passNumber yX10_passNumber, Cond.initialized RX10] [7, 8, 9, 4] rfl rfl) (goodIn_sub (fun w9 h9 => bk2 w9 h9) gw_X10_passNumber)) rfl rfl rfl (by decide +kernel) ⟨Nat.le_of_ble_eq_true rfl, Nat.le_of_ble_eq_true rfl⟩) ⟨fun a U g mk q => ⟨q.1, q.2.1, q.2.2.1, LY.moved (u := U) (U := U.calling g mk a) (Vm.Alike.refl U.vm) q.2.2.2⟩, va_recv hK hP (ci := 13) (q0 := 0) rfl (wo_at (by decide) f_32), fun U hU hW => ⟨rfl, by rw [hU]; exact fun q h => hA q (Nat.le_trans hS.1 h), by rw [hU]; exact hP, LY.moved hW.alike hL⟩⟩ rfl rfl hl.1 rfl (lv_room (Nat.le_of_ble_eq_true rfl)) dX10_makeAtom_39 ⟨(Nat.le_of_ble_eq_true rfl), (Nat.le_of_ble_eq_true rfl)⟩) hS (fun q _ h => h) (fun q h => h) (fun r_35 u8 t8 H1 locs ht8 hvm8 hw_36 hB hz1 hk1 hS => ?_)
      obtain ⟨g_37, x2_38⟩ := u8
      try dsimp only at hw_36 hB
      rw [ht8] at hB
      have hP := hB
      generalize H1 = H at hP hS ⊢
      obtain ⟨fr_39, hob2, hq7, hqo, rfl⟩ := hw_36
      have hqo2 : ∀ j, j ≠ 7 → x2_38 j = x j := fun j hj => (hqo j hj).trans ((va_up_ne _ _ hj).trans (hpo j hj))
      refine lv_istore_n (lv' := [(3, .int (nI (pnv (nx tx ty) (a1 + nd0 tx ty a1 + 1) (nd1 tx ty a1)))), (2, .int (nI (pnv (nx tx ty) a1 (nd0 tx ty a1)))), (1, .int (nI (nx tx ty a1))), (0, .ref (ad 0))]) hx hb dX10_makeAtom_42 rfl hl (by decide) rfl (fun ls hl => ?_)
      refine lv_aload_n hx hb dX10_makeAtom_43 rfl (lv_at hl 3 rfl) ?_
      refine lv_iload_n hx hb dX10_makeAtom_44 rfl (lv_at hl 1 rfl) ?_
      refine lv_i2l hx hb dX10_makeAtom_45 rfl ?_
      refine lv_topl (fun y_40 e_41 => ?_)
      obtain rfl : y_40 = lN (pnv (nx tx ty) a1 (nd0 tx ty a1)) := e_41.trans (nI_l (by omega))
      refine lv_iload_n hx hb dX10_makeAtom_46 rfl (lv_at hl 0 rfl) ?_
      refine lv_i2l hx hb dX10_makeAtom_47 rfl ?_
      refine lv_topl (fun y_42 e_43 => ?_)
      obtain rfl : y_42 = lN (pnv (nx tx ty) (a1 + nd0 tx ty a1 + 1) (nd1 tx ty a1)) := e_43.trans (nI_l (by omega))
      refine va_calli (va_runV (As := [.long (lN (pnv (nx tx ty) a1 (nd0 tx ty a1))), .long (lN (pnv (nx tx ty) (a1 + nd0 tx ty a1 + 1) (nd1 tx ty a1)))]) (rest := []) ⟨hx, hb, hml, hown, hts⟩ (c_X10_makeFraction l dC dI A ad cA g_37 x2_38 pf qf pt L (lN (pnv (nx tx ty) a1 (nd0 tx ty a1))) (lN (pnv (nx tx ty) (a1 + nd0 tx ty a1 + 1) (nd1 tx ty a1))) ((pnv (nx tx ty) a1 (nd0 tx ty a1) : Nat) : Int) (pnv (nx tx ty) (a1 + nd0 tx ty a1 + 1) (nd1 tx ty a1)) 0 (hF.setx (fun (k : Nat) (hk : k = 1 ∨ k = 2 ∨ k = 3) => (fr_39 k (by omega)).trans ((fr_33 k (by omega)).trans ((fr_11 k (by omega)).trans (rfl)))) hob2 rfl) (hPt.same (fun (k : Nat) (hk : 5 ≤ k ∧ k ≤ 10) => (fr_39 k (by omega)).trans ((fr_33 k (by omega)).trans ((fr_11 k (by omega)).trans (rfl))))) hM ((hqo2 3 (by decide)).trans hmd) hL2 ((hqo2 4 (by decide)).trans hft) (Or.inl rfl) (lN_toInt (by omega)) (by omega) (lN_toInt (by omega)) n15 (by omega)) (cwV 2 hts (goodIn_app (goodIn_r [Cond.methodLink RX10 177 yX10_makeFraction, Cond.instanceMethod yX10_makeFraction, Cond.selects RX10 yX10_makeFraction yX10_makeFraction, Cond.initialized RX10] [10, 11, 12, 4] rfl rfl) (goodIn_sub (fun w9 h9 => bk3 w9 h9) gw_X10_makeFraction)) rfl rfl rfl (by decide +kernel) ⟨Nat.le_of_ble_eq_true rfl, Nat.le_of_ble_eq_true rfl⟩) ⟨fun a U g mk q => ⟨q.1, q.2.1, q.2.2.1, LY.moved (u := U) (U := U.calling g mk a) (Vm.Alike.refl U.vm) q.2.2.2⟩, va_recv hK hP (ci := 13) (q0 := 0) rfl (wo_at (by decide) hob2), fun U hU hW => ⟨rfl, by rw [hU]; exact fun q h => hA q (Nat.le_trans hS.1 h), by rw [hU]; exact hP, LY.moved hW.alike hL⟩⟩ rfl rfl hl.1 rfl (lv_room (Nat.le_of_ble_eq_true rfl)) dX10_makeAtom_48 ⟨(Nat.le_of_ble_eq_true rfl), (Nat.le_of_ble_eq_true rfl)⟩) hS (fun q _ h => h) (fun q h => h) (fun r_44 u8 t8 H1 locs ht8 hvm8 hw_45 hB hz1 hk1 hS => ?_)
      obtain ⟨g_46, x2_47, pt2_48, pf2_49, qf2_50⟩ := u8
      try dsimp only at hw_45 hB
      rw [ht8] at hB
      have hP := hB
      generalize H1 = H at hP hS ⊢
      obtain ⟨fr_51, hK⟩ := hw_45
      rw [onF_0] at hK
      have hb7 : b1 = _ := (n05 (by omega)).2.1
      have hKe := (atS_n1 hdg (by omega) : makL (atS tx ty nm a1) L = _)
      refine W.widen (k := 0) (n := 0) (by omega) (by omega) ?_
      exact W.iret (v := r_44) hx hb hr (fun t9 ht9 hW9 => ⟨⟨r_44, (g_46, x2_47, pt2_48, pf2_49, qf2_50), rfl, ⟨(fun (k : Nat) (hk : k ≠ 0 ∧ k ≠ 1 ∧ k ≠ 2 ∧ k ≠ 3 ∧ k ≠ 5 ∧ k ≠ 6 ∧ k ≠ 7 ∧ k ≠ 8 ∧ k ≠ 9 ∧ k ≠ 10) => (fr_51 k (by omega)).trans ((fr_39 k (by omega)).trans ((fr_33 k (by omega)).trans ((fr_11 k (by omega)).trans (rfl))))), by rw [hKe]; exact hK.base (fun j _ _ => by by_cases h9 : j = 7; subst h9; exact Eq.trans hq7 ((congrArg nI hb7.symm).trans (va_up_self _ _ _).symm); exact (hqo2 j h9).trans (va_up_ne _ _ h9).symm) (fun _ _ _ => ⟨rfl, rfl⟩)⟩, by show va_P (dC, dI) vwCl _ t9.heap; rw [ht9]; exact hP⟩, hS.F ht9⟩) hS.2.2 dX10_makeAtom_51
  · skip
    refine lv_if_eq (tgt := 52) hx hb dX10_makeAtom_9 (by decide) (fun c_52 => ?_) (fun c_52 => absurd c_52 (by decide))
    obtain ⟨hb9, hc9⟩ := patom_ch hdg hpa
    refine lv_aload_n hx hb dX10_makeAtom_52 rfl (lv_at hl 1 rfl) ?_
    refine lv_dup hx hb dX10_makeAtom_53 rfl ?_
    refine m_get (D := (dC, dI)) (v := .int (nI a1)) (C := RX10) (T := TX10) (N := 29) hx hb hts bk4 hown hK hP 0 (by decide) hob0 rfl 22 (by decide) (hts (.fieldLink RX10 184 "GradientDeskModel" "at" "I") (List.mem_of_getElem? (i := 13) rfl)) (fun _ h9 => h9) (congrArg (fun z => some (Value.int z)) hat) dX10_makeAtom_54 ?_
    refine lv_iconst (v := nI 1) hx hb dX10_makeAtom_57 (by decide +kernel) ?_
    refine lv_iadd hx hb dX10_makeAtom_58 ?_
    refine lv_topi (fun x_53 e_54 => ?_)
    obtain rfl : x_53 = nI (a1 + 1) := e_54.trans (nI_add a1 1)
    refine m_put (D := (dC, dI)) (v := .int (nI (a1 + 1))) (tv := .int) (C := RX10) (T := TX10) (N := 29) hx hb hts bk4 tyX10 tyX10_ok nmX10 hown hK hP hD hS 0 (by decide) hob0 rfl 22 (by decide) (hts (.fieldLink RX10 184 "GradientDeskModel" "at" "I") (List.mem_of_getElem? (i := 13) rfl)) (fun _ h9 => h9) rfl (by decide +kernel) rfl rfl (Nat.le_of_ble_eq_true rfl) dX10_makeAtom_59 (fun H locs g_55 f_56 fr_57 hP hS => ?_)
    have f_56 : g_55 0 = .inr (13, Rob ad (va_up x 7 (nI (a1 + 1)))) := f_56
    have hqo3 : ∀ j, j ≠ 7 → (va_up x 7 (nI (a1 + 1))) j = x j := fun j hj => va_up_ne _ _ hj
    refine lv_iload_n hx hb dX10_makeAtom_62 rfl (lv_at hl 0 rfl) ?_
    refine lv_bipush (v := nI 97) hx hb dX10_makeAtom_63 (by decide +kernel) ?_
    refine lv_icmp_lt (tgt := 79) hx hb dX10_makeAtom_65 (by decide) (fun c_58 => ?_) (fun c_58 => ?_)
    · have c_58 := (nI_ltI (a := (nx tx ty a1)) (b := 97) (by omega) (by decide)).mp c_58
      refine lv_aload_n hx hb dX10_makeAtom_79 rfl (lv_at hl 1 rfl) ?_
      refine m_get (D := (dC, dI)) (v := .ref (ad 11)) (C := RX10) (T := TX10) (N := 29) hx hb hts bk4 hown hK hP 0 (by decide) f_56 rfl 15 (by decide) (hts (.fieldLink RX10 47 "GradientDeskModel" "names" "[I") (List.mem_of_getElem? (i := 14) rfl)) (fun _ h9 => h9) rfl dX10_makeAtom_80 ?_
      refine lv_iload_n hx hb dX10_makeAtom_83 rfl (lv_at hl 0 rfl) ?_
      refine lv_bipush (v := nI 65) hx hb dX10_makeAtom_84 (by decide +kernel) ?_
      refine lv_isub hx hb dX10_makeAtom_86 ?_
      refine lv_topi (fun x_59 e_60 => ?_)
      obtain rfl : x_59 = nI ((nx tx ty a1) - 65) := e_60.trans (pk_sub (show 65 ≤ nx tx ty a1 by omega))
      have f_61 : g_55 11 = .inl (cA 11, 8, .inl (fun j => iI (nm j))) := (fr_57 11 (by omega)).trans h11
      refine m_iald hx hb hK hP 11 (by decide) rfl f_61 (i := (nx tx ty a1) - 65) (by omega) (by decide) dX10_makeAtom_87 ?_
      have b_62 := h11b ((nx tx ty a1) - 65)
      have hk9 := hkn (by omega) (by omega)
      have hc8 := h11c (nx tx ty a1 - 65) (by omega)
      obtain ⟨i9, hi9⟩ : ∃ z9 : Nat, nm (nx tx ty a1 - 65) = (z9 : Int) := ⟨(nm (nx tx ty a1 - 65)).toNat, by omega⟩
      rw [hi9, ← nI_iI]
      have hK : MKP ad cA g_55 (va_up x 7 (nI (a1 + 1))) (va_up x 7 (nI (a1 + 1))) pf qf (((i9 : Nat) : Int), L) (nI i9) pt pf qf := MKP.old rfl (by omega) (hF.setx (fun (k : Nat) (hk : k = 1 ∨ k = 2 ∨ k = 3) => (fr_57 k (by omega)).trans (rfl)) f_56 rfl) (hPt.same (fun (k : Nat) (hk : 5 ≤ k ∧ k ≤ 10) => (fr_57 k (by omega)).trans (rfl))) hM hL2 ((hqo3 3 (by decide)).trans hmd) ((hqo3 4 (by decide)).trans hft)
      have hb7 : b1 = _ := hb9
      have hKe := ((atS_m hdg (by omega)).trans (by rw [hi9]) : makL (atS tx ty nm a1) L = _)
      refine W.widen (k := 0) (n := 0) (by omega) (by omega) ?_
      exact W.iret (v := nI i9) hx hb hr (fun t9 ht9 hW9 => ⟨⟨nI i9, (g_55, va_up x 7 (nI (a1 + 1)), pt, pf, qf), rfl, ⟨(fun (k : Nat) (hk : k ≠ 0 ∧ k ≠ 1 ∧ k ≠ 2 ∧ k ≠ 3 ∧ k ≠ 5 ∧ k ≠ 6 ∧ k ≠ 7 ∧ k ≠ 8 ∧ k ≠ 9 ∧ k ≠ 10) => (fr_57 k (by omega)).trans (rfl)), by rw [hKe]; exact hK.base (fun j _ _ => by by_cases h9 : j = 7; subst h9; exact Eq.trans (va_up_self _ _ _) ((congrArg nI hb7.symm).trans (va_up_self _ _ _).symm); exact (hqo3 j h9).trans (va_up_ne _ _ h9).symm) (fun _ _ _ => ⟨rfl, rfl⟩)⟩, by show va_P (dC, dI) vwCl _ t9.heap; rw [ht9]; exact hP⟩, hS.F ht9⟩) hS.2.2 dX10_makeAtom_88
    · have c_58 := mt (nI_ltI (a := (nx tx ty a1)) (b := 97) (by omega) (by decide)).mpr c_58
      refine lv_aload_n hx hb dX10_makeAtom_68 rfl (lv_at hl 1 rfl) ?_
      refine lv_iload_n hx hb dX10_makeAtom_69 rfl (lv_at hl 0 rfl) ?_
      refine lv_bipush (v := nI 97) hx hb dX10_makeAtom_70 (by decide +kernel) ?_
      refine lv_isub hx hb dX10_makeAtom_72 ?_
      refine lv_topi (fun x_63 e_64 => ?_)
      obtain rfl : x_63 = nI ((nx tx ty a1) - 97) := e_64.trans (pk_sub (show 97 ≤ nx tx ty a1 by omega))
      refine va_calli (va_runV (As := [.int (nI ((nx tx ty a1) - 97))]) (rest := []) ⟨hx, hb, hml, hown, hts⟩ (c_X10_makeVariable l dC dI A ad cA g_55 (va_up x 7 (nI (a1 + 1))) pf qf pt L (nx tx ty a1 - 97) 0 (hF.setx (fun (k : Nat) (hk : k = 1 ∨ k = 2 ∨ k = 3) => (fr_57 k (by omega)).trans (rfl)) f_56 rfl) (hPt.same (fun (k : Nat) (hk : 5 ≤ k ∧ k ≤ 10) => (fr_57 k (by omega)).trans (rfl))) hM ((hqo3 3 (by decide)).trans hmd) hL2 ((hqo3 4 (by decide)).trans hft) (Or.inl rfl) (by omega)) (cwV 1 hts (goodIn_app (goodIn_r [Cond.methodLink RX10 207 yX10_makeVariable, Cond.instanceMethod yX10_makeVariable, Cond.selects RX10 yX10_makeVariable yX10_makeVariable, Cond.initialized RX10] [15, 16, 17, 4] rfl rfl) (goodIn_sub (fun w9 h9 => bk5 w9 h9) gw_X10_makeVariable)) rfl rfl rfl (by decide +kernel) ⟨Nat.le_of_ble_eq_true rfl, Nat.le_of_ble_eq_true rfl⟩) ⟨fun a U g mk q => ⟨q.1, q.2.1, q.2.2.1, LY.moved (u := U) (U := U.calling g mk a) (Vm.Alike.refl U.vm) q.2.2.2⟩, va_recv hK hP (ci := 13) (q0 := 0) rfl (wo_at (by decide) f_56), fun U hU hW => ⟨rfl, by rw [hU]; exact fun q h => hA q (Nat.le_trans hS.1 h), by rw [hU]; exact hP, LY.moved hW.alike hL⟩⟩ rfl rfl hl.1 rfl (lv_room (Nat.le_of_ble_eq_true rfl)) dX10_makeAtom_73 ⟨(Nat.le_of_ble_eq_true rfl), (Nat.le_of_ble_eq_true rfl)⟩) hS (fun q _ h => h) (fun q h => h) (fun r_65 u8 t8 H1 locs ht8 hvm8 hw_66 hB hz1 hk1 hS => ?_)
      obtain ⟨g_67, x2_68, pt2_69, pf2_70, qf2_71⟩ := u8
      try dsimp only at hw_66 hB
      rw [ht8] at hB
      have hP := hB
      generalize H1 = H at hP hS ⊢
      obtain ⟨fr_72, hK⟩ := hw_66
      rw [onF_0] at hK
      refine lv_goto (tgt := 88) hx hb dX10_makeAtom_76 (by decide) ?_
      have hb7 : b1 = _ := hb9
      have hKe := (atS_v hdg (by omega) : makL (atS tx ty nm a1) L = _)
      refine W.widen (k := 0) (n := 0) (by omega) (by omega) ?_
      exact W.iret (v := r_65) hx hb hr (fun t9 ht9 hW9 => ⟨⟨r_65, (g_67, x2_68, pt2_69, pf2_70, qf2_71), rfl, ⟨(fun (k : Nat) (hk : k ≠ 0 ∧ k ≠ 1 ∧ k ≠ 2 ∧ k ≠ 3 ∧ k ≠ 5 ∧ k ≠ 6 ∧ k ≠ 7 ∧ k ≠ 8 ∧ k ≠ 9 ∧ k ≠ 10) => (fr_72 k (by omega)).trans ((fr_57 k (by omega)).trans (rfl))), by rw [hKe]; exact hK.base (fun j _ _ => by by_cases h9 : j = 7; subst h9; exact Eq.trans (va_up_self _ _ _) ((congrArg nI hb7.symm).trans (va_up_self _ _ _).symm); exact (hqo3 j h9).trans (va_up_ne _ _ h9).symm) (fun _ _ _ => ⟨rfl, rfl⟩)⟩, by show va_P (dC, dI) vwCl _ t9.heap; rw [ht9]; exact hP⟩, hS.F ht9⟩) hS.2.2 dX10_makeAtom_88
def wd_X10_top : List Cond := .code yX10_top cX10_top 1 (some .int) :: (([.fieldLink RX10 210 "GradientDeskModel" "operatorCount" "I", .fieldLink RX10 59 "GradientDeskModel" "operators" "[I"] : List Cond) ++ (u_ws RX10 TX10 29 ++ ([])))
theorem gw_X10_top : wd_X10_top.all goodWord = true := k_allc rfl (k_all (by decide +kernel) (k_all (gu_X10) (rfl)))
set_option maxHeartbeats 4000000 in
set_option maxRecDepth 100000 in
theorem c_X10_top (l : Launch) (dC : Nat → ClassId) (dI : Nat → Nat → Nat) (A : Nat → Prop) (ad : Nat → Nat) (cA : Nat → ClassId) (g : Nat → va_E) (x : Nat → Int32) (f15 : Nat → Int) (oo : List Nat) (h0 : g 0 = .inr (13, Rob ad x)) (h15 : g 15 = .inl (cA 15, 160, .inl (fun j => iI (f15 j)))) (hs15 : STK f15 oo) (hv6 : x 6 = nI oo.length) (hol : oo.length ≤ 64) : Met l yX10_top wd_X10_top ({ frames := 10, cells := 0, slots := 0, locals := 200 }) (va_Pc [.ref (ad 0)] (PR NSr tyr dC dI A ad cA g)) (va_Qi (fun (r : Int32) => fun (u : Unit) => match u with | () => r = nI (oo.headD 0)) (fun (u : Unit) (t : State) => va_P (dC, dI) vwCl (wo ad NSr g) t.heap) A) (0) (0) A := by
  refine Met.ofW (cc := cX10_top) (maxL := 1) (ret := (some .int)) (by decide) rfl ?_
  intro p e s m args below meth c s₁ B hml hv
  obtain ⟨rfl, hA, hP, hL⟩ := hv
  have hx := B.exec
  have hb := B.bytes
  have hr := B.returns
  have hts := atoms_spec (ws := wd_X10_top) B.pre
  have hown : s.vm.findClass RX10 = some m.cls := findClass_of_methodNamed B.named
  have hlocks := B.notSynchronized
  have hK := hL.1
  have hD : ∀ g, va_D A (wo ad NSr g) := fun g => wo_D hL.2.1 hL.2.2 g
  have hS : va_S A s.heap s.heap [] := va_S.rf
  have bk0 : ∀ w ∈ u_ws RX10 TX10 29, w ∈ wd_X10_top := fun _ h => List.mem_cons_of_mem _ (List.mem_append_right _ (List.mem_append_left _ h))
  have hl := lv_entry ([.ref (ad 0)]) (n := 1) (Nat.le_of_ble_eq_true rfl)
  rw [lg_entry_eq]
  generalize (lg_sl ([.ref (ad 0)]) ++ List.replicate (1 - (lg_sl ([.ref (ad 0)])).length) Slot.unset).toArray = ls at hl ⊢
  have hl : lv_has ls 1 [(0, .ref (ad 0))] := hl
  refine lv_aload_n hx hb dX10_top_0 rfl (lv_at hl 0 rfl) ?_
  refine m_get (D := (dC, dI)) (v := .int (nI oo.length)) (C := RX10) (T := TX10) (N := 29) hx hb hts bk0 hown hK hP 0 (by decide) h0 rfl 21 (by decide) (hts (.fieldLink RX10 210 "GradientDeskModel" "operatorCount" "I") (List.mem_of_getElem? (i := 1) rfl)) (fun _ h9 => h9) (congrArg (fun z => some (Value.int z)) hv6) dX10_top_1 ?_
  refine lv_if_le (tgt := 21) hx hb dX10_top_4 (by decide) (fun c_1 => ?_) (fun c_1 => ?_)
  · have c_1 := (nI_leI (a := oo.length) (b := 0) (by omega) (by decide)).mp c_1
    refine lv_iconst (v := nI 0) hx hb dX10_top_21 (by decide +kernel) ?_
    refine W.widen (k := 0) (n := 0) (by omega) (by omega) ?_
    exact W.iret (v := nI 0) hx hb hr (fun t9 ht9 hW9 => ⟨⟨nI 0, (), rfl, congrArg nI (hd_nil (by omega)).symm, by show va_P (dC, dI) vwCl _ t9.heap; rw [ht9]; exact hP⟩, hS.F ht9⟩) hS.2.2 dX10_top_22
  · have c_1 := mt (nI_leI (a := oo.length) (b := 0) (by omega) (by decide)).mpr c_1
    refine lv_aload_n hx hb dX10_top_7 rfl (lv_at hl 0 rfl) ?_
    refine m_get (D := (dC, dI)) (v := .ref (ad 15)) (C := RX10) (T := TX10) (N := 29) hx hb hts bk0 hown hK hP 0 (by decide) h0 rfl 19 (by decide) (hts (.fieldLink RX10 59 "GradientDeskModel" "operators" "[I") (List.mem_of_getElem? (i := 2) rfl)) (fun _ h9 => h9) rfl dX10_top_8 ?_
    refine lv_aload_n hx hb dX10_top_11 rfl (lv_at hl 0 rfl) ?_
    refine m_get (D := (dC, dI)) (v := .int (nI oo.length)) (C := RX10) (T := TX10) (N := 29) hx hb hts bk0 hown hK hP 0 (by decide) h0 rfl 21 (by decide) (hts (.fieldLink RX10 210 "GradientDeskModel" "operatorCount" "I") (List.mem_of_getElem? (i := 1) rfl)) (fun _ h9 => h9) (congrArg (fun z => some (Value.int z)) hv6) dX10_top_12 ?_
    refine lv_iconst (v := nI 1) hx hb dX10_top_15 (by decide +kernel) ?_
    refine lv_isub hx hb dX10_top_16 ?_
    refine lv_topi (fun x_2 e_3 => ?_)
    obtain rfl : x_2 = nI (oo.length - 1) := e_3.trans (pk_sub (show 1 ≤ oo.length by omega))
    refine m_iald hx hb hK hP 15 (by decide) rfl h15 (i := oo.length - 1) (by omega) (by decide) dX10_top_17 ?_
    rw [stk_top hs15 (by omega), ← nI_iI]
    refine lv_goto (tgt := 22) hx hb dX10_top_18 (by decide) ?_
    refine W.widen (k := 0) (n := 0) (by omega) (by omega) ?_
    exact W.iret (v := nI (oo.headD 0)) hx hb hr (fun t9 ht9 hW9 => ⟨⟨nI (oo.headD 0), (), rfl, rfl, by show va_P (dC, dI) vwCl _ t9.heap; rw [ht9]; exact hP⟩, hS.F ht9⟩) hS.2.2 dX10_top_22
