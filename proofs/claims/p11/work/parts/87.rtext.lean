def wd_X10_passAtom : List Cond := .code yX10_passAtom cX10_passAtom 2 (some .boolean) :: (([.methodLink RX10 190 yX10_next, .instanceMethod yX10_next, .selects RX10 yX10_next yX10_next, .initialized RX10, .methodLink RX10 193 yX10_isDigit, .static yX10_isDigit, .methodLink RX10 196 yX10_passDigits, .instanceMethod yX10_passDigits, .selects RX10 yX10_passDigits yX10_passDigits, .fieldLink RX10 184 "GradientDeskModel" "at" "I"] : List Cond) ++ (wd_X10_next ++ (wd_X10_isDigit ++ (wd_X10_passDigits ++ (u_ws RX10 TX10 29 ++ ([]))))))
theorem gw_X10_passAtom : wd_X10_passAtom.all goodWord = true := k_allc rfl (k_all (by decide +kernel) (k_all (gw_X10_next) (k_all (gw_X10_isDigit) (k_all (gw_X10_passDigits) (k_all (gu_X10) (rfl))))))
set_option maxHeartbeats 4000000 in
set_option maxRecDepth 100000 in
theorem c_X10_passAtom (l : Launch) (dC : Nat → ClassId) (dI : Nat → Nat → Nat) (A : Nat → Prop) (ad : Nat → Nat) (cA : Nat → ClassId) (g : Nat → va_E) (x : Nat → Int32) (tx : Nat → Nat) (ty : Nat) (a1 : Nat) (h0 : g 0 = .inr (13, Rob ad x)) (h4 : g 4 = .inl (cA 4, 64, .inl (fun j => nI (tx j)))) (h4b : ∀ j, tx j < 127) (hty : x 1 = nI ty) (hty2 : ty ≤ 64) (hat : x 7 = nI a1) (ha1 : a1 ≤ 64) : Met l yX10_passAtom wd_X10_passAtom ({ frames := 30, cells := 0, slots := 0, locals := 600 }) (va_Pc [.ref (ad 0)] (PR NSr tyr dC dI A ad cA g)) (va_Qi (fun (r : Int32) => fun (u : (Nat → va_E) × (Nat → Int32)) => match u with | (g2, x2) => (∀ k, k ≠ 0 → g2 k = g k) ∧ g2 0 = .inr (13, Rob ad x2) ∧ x2 7 = nI (patom tx ty a1).1 ∧ (∀ j, j ≠ 7 → x2 j = x j) ∧ (patom tx ty a1).1 ≤ 64 ∧ r = nI (patom tx ty a1).2) (fun (u : (Nat → va_E) × (Nat → Int32)) (t : State) => va_P (dC, dI) vwCl (wo ad NSr u.1) t.heap) A) (0) (0) A := by
  refine Met.ofW (cc := cX10_passAtom) (maxL := 2) (ret := (some .boolean)) (by decide) rfl ?_
  intro p e s m args below meth c s₁ B hml hv
  obtain ⟨rfl, hA, hP, hL⟩ := hv
  have hx := B.exec
  have hb := B.bytes
  have hr := B.returns
  have hts := atoms_spec (ws := wd_X10_passAtom) B.pre
  have hown : s.vm.findClass RX10 = some m.cls := findClass_of_methodNamed B.named
  have hlocks := B.notSynchronized
  have hK := hL.1
  have hD : ∀ g, va_D A (wo ad NSr g) := fun g => wo_D hL.2.1 hL.2.2 g
  have hS : va_S A s.heap s.heap [] := va_S.rf
  have bk0 : ∀ w ∈ wd_X10_next, w ∈ wd_X10_passAtom := fun _ h => List.mem_cons_of_mem _ (List.mem_append_right _ (List.mem_append_left _ h))
  have bk1 : ∀ w ∈ wd_X10_isDigit, w ∈ wd_X10_passAtom := fun _ h => List.mem_cons_of_mem _ (List.mem_append_right _ (List.mem_append_right _ (List.mem_append_left _ h)))
  have bk2 : ∀ w ∈ wd_X10_passDigits, w ∈ wd_X10_passAtom := fun _ h => List.mem_cons_of_mem _ (List.mem_append_right _ (List.mem_append_right _ (List.mem_append_right _ (List.mem_append_left _ h))))
  have bk3 : ∀ w ∈ u_ws RX10 TX10 29, w ∈ wd_X10_passAtom := fun _ h => List.mem_cons_of_mem _ (List.mem_append_right _ (List.mem_append_right _ (List.mem_append_right _ (List.mem_append_right _ (List.mem_append_left _ h)))))
  have hl := lv_entry ([.ref (ad 0)]) (n := 2) (Nat.le_of_ble_eq_true rfl)
  rw [lg_entry_eq]
  generalize (lg_sl ([.ref (ad 0)]) ++ List.replicate (2 - (lg_sl ([.ref (ad 0)])).length) Slot.unset).toArray = ls at hl ⊢
  have hl : lv_has ls 2 [(0, .ref (ad 0))] := hl
  have hpa0 : patom tx ty a1 = patom tx ty a1 := rfl
  refine lv_aload_n hx hb dX10_passAtom_0 rfl (lv_at hl 0 rfl) ?_
  refine va_calli (va_runV (As := []) (rest := []) ⟨hx, hb, hml, hown, hts⟩ (c_X10_next l dC dI A ad cA g x tx ty a1 h0 h4 h4b hty hty2 hat ha1) (cwV 0 hts (goodIn_app (goodIn_r [Cond.methodLink RX10 190 yX10_next, Cond.instanceMethod yX10_next, Cond.selects RX10 yX10_next yX10_next, Cond.initialized RX10] [1, 2, 3, 4] rfl rfl) (goodIn_sub (fun w9 h9 => bk0 w9 h9) gw_X10_next)) rfl rfl rfl (by decide +kernel) ⟨Nat.le_of_ble_eq_true rfl, Nat.le_of_ble_eq_true rfl⟩) ⟨fun a U g mk q => ⟨q.1, q.2.1, q.2.2.1, LY.moved (u := U) (U := U.calling g mk a) (Vm.Alike.refl U.vm) q.2.2.2⟩, va_recv hK hP (ci := 13) (q0 := 0) rfl (wo_at (by decide) h0), fun U hU hW => ⟨rfl, by rw [hU]; exact fun q h => hA q (Nat.le_trans hS.1 h), by rw [hU]; exact hP, LY.moved hW.alike hL⟩⟩ rfl rfl hl.1 rfl (lv_room (Nat.le_of_ble_eq_true rfl)) dX10_passAtom_1 ⟨(Nat.le_of_ble_eq_true rfl), (Nat.le_of_ble_eq_true rfl)⟩) hS (fun q _ h => h) (fun q h => h) (fun r_1 u8 t8 H1 locs ht8 hvm8 hw_2 hB hz1 hk1 hS => ?_)
  obtain ⟨⟩ := u8
  try dsimp only at hw_2 hB
  rw [ht8] at hB
  have hP := hB
  generalize H1 = H at hP hS ⊢
  obtain rfl := hw_2
  have hn_3 := nx_lt (ty := ty) (a := a1) h4b
  refine lv_istore_n (lv' := [(1, .int (nI (nx tx ty a1))), (0, .ref (ad 0))]) hx hb dX10_passAtom_4 rfl hl (by decide) rfl (fun ls hl => ?_)
  refine lv_iload_n hx hb dX10_passAtom_5 rfl (lv_at hl 0 rfl) ?_
  refine va_calli (va_runS (As := [.int (nI (nx tx ty a1))]) (rest := []) ⟨hx, hb, hml, hown, hts⟩ (c_X10_isDigit l dC dI A ad cA g (nx tx ty a1) (by omega)) (va_cwS 1 hts (goodIn_app (goodIn_r [Cond.methodLink RX10 193 yX10_isDigit, Cond.static yX10_isDigit, Cond.initialized RX10] [5, 6, 4] rfl rfl) (goodIn_sub (fun w9 h9 => bk1 w9 h9) gw_X10_isDigit)) rfl rfl rfl (by decide +kernel) ⟨Nat.le_of_ble_eq_true rfl, Nat.le_of_ble_eq_true rfl⟩) ⟨fun a U g mk q => ⟨q.1, q.2.1, q.2.2.1, LY.moved (u := U) (U := U.calling g mk a) (Vm.Alike.refl U.vm) q.2.2.2⟩, fun U hU hW => ⟨rfl, by rw [hU]; exact fun q h => hA q (Nat.le_trans hS.1 h), by rw [hU]; exact hP, LY.moved hW.alike hL⟩⟩ rfl rfl hl.1 rfl (lv_room (Nat.le_of_ble_eq_true rfl)) dX10_passAtom_6 ⟨(Nat.le_of_ble_eq_true rfl), (Nat.le_of_ble_eq_true rfl)⟩) hS (fun q _ h => h) (fun q h => h) (fun r_4 u8 t8 H1 locs ht8 hvm8 hw_5 hB hz1 hk1 hS => ?_)
  obtain ⟨⟩ := u8
  try dsimp only at hw_5 hB
  rw [ht8] at hB
  have hP := hB
  generalize H1 = H at hP hS ⊢
  rcases hw_5 with ⟨rfl, hdg⟩ | ⟨rfl, hdg⟩
  · skip
    refine lv_if_eq (tgt := 49) hx hb dX10_passAtom_9 (by decide) (fun c_6 => absurd c_6 (by decide)) (fun c_6 => ?_)
    refine lv_aload_n hx hb dX10_passAtom_12 rfl (lv_at hl 1 rfl) ?_
    refine lv_iconst (v := nI 0) hx hb dX10_passAtom_13 (by decide +kernel) ?_
    refine va_calli (va_runV (As := [.int (nI 0)]) (rest := []) ⟨hx, hb, hml, hown, hts⟩ (c_X10_passDigits l dC dI A ad cA g x tx ty a1 0 h0 h4 h4b hty hty2 hat ha1 (by decide)) (cwV 1 hts (goodIn_app (goodIn_r [Cond.methodLink RX10 196 yX10_passDigits, Cond.instanceMethod yX10_passDigits, Cond.selects RX10 yX10_passDigits yX10_passDigits, Cond.initialized RX10] [7, 8, 9, 4] rfl rfl) (goodIn_sub (fun w9 h9 => bk2 w9 h9) gw_X10_passDigits)) rfl rfl rfl (by decide +kernel) ⟨Nat.le_of_ble_eq_true rfl, Nat.le_of_ble_eq_true rfl⟩) ⟨fun a U g mk q => ⟨q.1, q.2.1, q.2.2.1, LY.moved (u := U) (U := U.calling g mk a) (Vm.Alike.refl U.vm) q.2.2.2⟩, va_recv hK hP (ci := 13) (q0 := 0) rfl (wo_at (by decide) h0), fun U hU hW => ⟨rfl, by rw [hU]; exact fun q h => hA q (Nat.le_trans hS.1 h), by rw [hU]; exact hP, LY.moved hW.alike hL⟩⟩ rfl rfl hl.1 rfl (lv_room (Nat.le_of_ble_eq_true rfl)) dX10_passAtom_14 ⟨(Nat.le_of_ble_eq_true rfl), (Nat.le_of_ble_eq_true rfl)⟩) hS (fun q _ h => h) (fun q h => h) (fun r_7 u8 t8 H1 locs ht8 hvm8 hw_8 hB hz1 hk1 hS => ?_)
    obtain ⟨g_9, x2_10⟩ := u8
    try dsimp only at hw_8 hB
    rw [ht8] at hB
    have hP := hB
    generalize H1 = H at hP hS ⊢
    obtain ⟨fr_11, hob1, hp7, hpo, hle, hok⟩ := hw_8
    obtain ⟨R, eR⟩ : ∃ z9, z9 = pdg tx ty 0 4 a1 0 1 := ⟨_, rfl⟩
    rw [← eR] at hp7 hle hok
    rcases hok with ⟨rfl, hok, -⟩ | ⟨rfl, hok⟩
    · skip
      refine lv_if_ne (tgt := 22) hx hb dX10_passAtom_17 (by decide) (fun c_12 => ?_) (fun c_12 => absurd c_12 (by decide))
      refine lv_aload_n hx hb dX10_passAtom_22 rfl (lv_at hl 1 rfl) ?_
      have f_13 : g_9 4 = .inl (cA 4, 64, .inl (fun j => nI (tx j))) := (fr_11 4 (by omega)).trans h4
      refine va_calli (va_runV (As := []) (rest := []) ⟨hx, hb, hml, hown, hts⟩ (c_X10_next l dC dI A ad cA g_9 x2_10 tx ty R.1 hob1 f_13 h4b ((hpo 1 (by decide)).trans hty) hty2 hp7 hle) (cwV 0 hts (goodIn_app (goodIn_r [Cond.methodLink RX10 190 yX10_next, Cond.instanceMethod yX10_next, Cond.selects RX10 yX10_next yX10_next, Cond.initialized RX10] [1, 2, 3, 4] rfl rfl) (goodIn_sub (fun w9 h9 => bk0 w9 h9) gw_X10_next)) rfl rfl rfl (by decide +kernel) ⟨Nat.le_of_ble_eq_true rfl, Nat.le_of_ble_eq_true rfl⟩) ⟨fun a U g mk q => ⟨q.1, q.2.1, q.2.2.1, LY.moved (u := U) (U := U.calling g mk a) (Vm.Alike.refl U.vm) q.2.2.2⟩, va_recv hK hP (ci := 13) (q0 := 0) rfl (wo_at (by decide) hob1), fun U hU hW => ⟨rfl, by rw [hU]; exact fun q h => hA q (Nat.le_trans hS.1 h), by rw [hU]; exact hP, LY.moved hW.alike hL⟩⟩ rfl rfl hl.1 rfl (lv_room (Nat.le_of_ble_eq_true rfl)) dX10_passAtom_23 ⟨(Nat.le_of_ble_eq_true rfl), (Nat.le_of_ble_eq_true rfl)⟩) hS (fun q _ h => h) (fun q h => h) (fun r_14 u8 t8 H1 locs ht8 hvm8 hw_15 hB hz1 hk1 hS => ?_)
      obtain ⟨⟩ := u8
      try dsimp only at hw_15 hB
      rw [ht8] at hB
      have hP := hB
      generalize H1 = H at hP hS ⊢
      obtain rfl := hw_15
      have hn_16 := nx_lt (ty := ty) (a := R.1) h4b
      refine lv_bipush (v := nI 47) hx hb dX10_passAtom_26 (by decide +kernel) ?_
      refine lv_icmp_eq (tgt := 33) hx hb dX10_passAtom_28 (by decide) (fun c_17 => ?_) (fun c_17 => ?_)
      · have c_17 := (nI_eq (a := (nx tx ty R.1)) (b := 47) (by omega) (by decide)).mp c_17
        refine lv_aload_n hx hb dX10_passAtom_33 rfl (lv_at hl 1 rfl) ?_
        refine lv_dup hx hb dX10_passAtom_34 rfl ?_
        refine m_get (D := (dC, dI)) (v := .int (nI R.1)) (C := RX10) (T := TX10) (N := 29) hx hb hts bk3 hown hK hP 0 (by decide) hob1 rfl 22 (by decide) (hts (.fieldLink RX10 184 "GradientDeskModel" "at" "I") (List.mem_of_getElem? (i := 10) rfl)) (fun _ h9 => h9) (congrArg (fun z => some (Value.int z)) hp7) dX10_passAtom_35 ?_
        refine lv_iconst (v := nI 1) hx hb dX10_passAtom_38 (by decide +kernel) ?_
        refine lv_iadd hx hb dX10_passAtom_39 ?_
        refine lv_topi (fun x_18 e_19 => ?_)
        obtain rfl : x_18 = nI (R.1 + 1) := e_19.trans (nI_add R.1 1)
        refine m_put (D := (dC, dI)) (v := .int (nI (R.1 + 1))) (tv := .int) (C := RX10) (T := TX10) (N := 29) hx hb hts bk3 tyX10 tyX10_ok nmX10 hown hK hP hD hS 0 (by decide) hob1 rfl 22 (by decide) (hts (.fieldLink RX10 184 "GradientDeskModel" "at" "I") (List.mem_of_getElem? (i := 10) rfl)) (fun _ h9 => h9) rfl (by decide +kernel) rfl rfl (Nat.le_of_ble_eq_true rfl) dX10_passAtom_40 (fun H locs g_20 f_21 fr_22 hP hS => ?_)
        have f_21 : g_20 0 = .inr (13, Rob ad (va_up x2_10 7 (nI (R.1 + 1)))) := f_21
        refine lv_aload_n hx hb dX10_passAtom_43 rfl (lv_at hl 1 rfl) ?_
        refine lv_iconst (v := nI 1) hx hb dX10_passAtom_44 (by decide +kernel) ?_
        have f_23 : g_20 4 = .inl (cA 4, 64, .inl (fun j => nI (tx j))) := (fr_22 4 (by omega)).trans f_13
        refine va_calli (va_runV (As := [.int (nI 1)]) (rest := []) ⟨hx, hb, hml, hown, hts⟩ (c_X10_passDigits l dC dI A ad cA g_20 (va_up x2_10 7 (nI (R.1 + 1))) tx ty (R.1 + 1) 1 f_21 f_23 h4b ((va_up_ne _ _ (by decide)).trans ((hpo 1 (by decide)).trans hty)) hty2 (va_up_self _ _ _) (by have := nx_pos (tx := tx) (ty := ty) (a := R.1) (by omega); omega) (by decide)) (cwV 1 hts (goodIn_app (goodIn_r [Cond.methodLink RX10 196 yX10_passDigits, Cond.instanceMethod yX10_passDigits, Cond.selects RX10 yX10_passDigits yX10_passDigits, Cond.initialized RX10] [7, 8, 9, 4] rfl rfl) (goodIn_sub (fun w9 h9 => bk2 w9 h9) gw_X10_passDigits)) rfl rfl rfl (by decide +kernel) ⟨Nat.le_of_ble_eq_true rfl, Nat.le_of_ble_eq_true rfl⟩) ⟨fun a U g mk q => ⟨q.1, q.2.1, q.2.2.1, LY.moved (u := U) (U := U.calling g mk a) (Vm.Alike.refl U.vm) q.2.2.2⟩, va_recv hK hP (ci := 13) (q0 := 0) rfl (wo_at (by decide) f_21), fun U hU hW => ⟨rfl, by rw [hU]; exact fun q h => hA q (Nat.le_trans hS.1 h), by rw [hU]; exact hP, LY.moved hW.alike hL⟩⟩ rfl rfl hl.1 rfl (lv_room (Nat.le_of_ble_eq_true rfl)) dX10_passAtom_45 ⟨(Nat.le_of_ble_eq_true rfl), (Nat.le_of_ble_eq_true rfl)⟩) hS (fun q _ h => h) (fun q h => h) (fun r_24 u8 t8 H1 locs ht8 hvm8 hw_25 hB hz1 hk1 hS => ?_)
        obtain ⟨g_26, x2_27⟩ := u8
        try dsimp only at hw_25 hB
        rw [ht8] at hB
        have hP := hB
        generalize H1 = H at hP hS ⊢
        obtain ⟨fr_28, hob2, hq7, hqo, hqle, hqk⟩ := hw_25
        obtain ⟨S9, eS⟩ : ∃ z9, z9 = pdg tx ty 1 4 (R.1 + 1) 0 1 := ⟨_, rfl⟩
        rw [← eS] at hq7 hqle hqk
        rcases hqk with ⟨rfl, hqk⟩ | ⟨rfl, hqk⟩
        · skip
          have hpa : patom tx ty a1 = (S9.1, 1) := by unfold patom; rw [if_pos hdg, ← eR, if_pos hok, if_pos (by omega), ← eS, if_pos (by omega)]
          refine W.widen (k := 0) (n := 0) (by omega) (by omega) ?_
          exact W.zret (v := nI 1) hx hb hr (by decide +kernel) (fun t9 ht9 hW9 => ⟨⟨nI 1, (g_26, x2_27), rfl, ⟨(fun (k : Nat) (hk : k ≠ 0) => (fr_28 k (by omega)).trans ((fr_22 k (by omega)).trans ((fr_11 k (by omega)).trans (rfl)))), hob2, by rw [hpa]; exact hq7, fun j hj => (hqo j hj).trans ((va_up_ne _ _ hj).trans (hpo j hj)), by rw [hpa]; exact hqle, by rw [hpa]⟩, by show va_P (dC, dI) vwCl _ t9.heap; rw [ht9]; exact hP⟩, hS.F ht9⟩) hS.2.2 dX10_passAtom_48
        · skip
          have hpa : patom tx ty a1 = (S9.1, 0) := by unfold patom; rw [if_pos hdg, ← eR, if_pos hok, if_pos (by omega), ← eS, if_neg (by omega)]
          refine W.widen (k := 0) (n := 0) (by omega) (by omega) ?_
          exact W.zret (v := nI 0) hx hb hr (by decide +kernel) (fun t9 ht9 hW9 => ⟨⟨nI 0, (g_26, x2_27), rfl, ⟨(fun (k : Nat) (hk : k ≠ 0) => (fr_28 k (by omega)).trans ((fr_22 k (by omega)).trans ((fr_11 k (by omega)).trans (rfl)))), hob2, by rw [hpa]; exact hq7, fun j hj => (hqo j hj).trans ((va_up_ne _ _ hj).trans (hpo j hj)), by rw [hpa]; exact hqle, by rw [hpa]⟩, by show va_P (dC, dI) vwCl _ t9.heap; rw [ht9]; exact hP⟩, hS.F ht9⟩) hS.2.2 dX10_passAtom_48
      · have c_17 := mt (nI_eq (a := (nx tx ty R.1)) (b := 47) (by omega) (by decide)).mpr c_17
        refine lv_iconst (v := nI 1) hx hb dX10_passAtom_31 (by decide +kernel) ?_
        have hpa : patom tx ty a1 = (R.1, 1) := by unfold patom; rw [if_pos hdg, ← eR, if_pos hok, if_neg (by omega)]
        refine W.widen (k := 0) (n := 0) (by omega) (by omega) ?_
        exact W.zret (v := nI 1) hx hb hr (by decide +kernel) (fun t9 ht9 hW9 => ⟨⟨nI 1, (g_9, x2_10), rfl, ⟨(fun (k : Nat) (hk : k ≠ 0) => (fr_11 k (by omega)).trans (rfl)), hob1, by rw [hpa]; exact hp7, hpo, by rw [hpa]; exact hle, by rw [hpa]⟩, by show va_P (dC, dI) vwCl _ t9.heap; rw [ht9]; exact hP⟩, hS.F ht9⟩) hS.2.2 dX10_passAtom_32
    · skip
      refine lv_if_ne (tgt := 22) hx hb dX10_passAtom_17 (by decide) (fun c_29 => absurd c_29 (by decide)) (fun c_29 => ?_)
      refine lv_iconst (v := nI 0) hx hb dX10_passAtom_20 (by decide +kernel) ?_
      have hpa : patom tx ty a1 = (R.1, 0) := by unfold patom; rw [if_pos hdg, ← eR, if_neg (by omega)]
      refine W.widen (k := 0) (n := 0) (by omega) (by omega) ?_
      exact W.zret (v := nI 0) hx hb hr (by decide +kernel) (fun t9 ht9 hW9 => ⟨⟨nI 0, (g_9, x2_10), rfl, ⟨(fun (k : Nat) (hk : k ≠ 0) => (fr_11 k (by omega)).trans (rfl)), hob1, by rw [hpa]; exact hp7, hpo, by rw [hpa]; exact hle, by rw [hpa]⟩, by show va_P (dC, dI) vwCl _ t9.heap; rw [ht9]; exact hP⟩, hS.F ht9⟩) hS.2.2 dX10_passAtom_21
  · skip
    refine lv_if_eq (tgt := 49) hx hb dX10_passAtom_9 (by decide) (fun c_30 => ?_) (fun c_30 => absurd c_30 (by decide))
    refine lv_iload_n hx hb dX10_passAtom_49 rfl (lv_at hl 0 rfl) ?_
    refine lv_bipush (v := nI 97) hx hb dX10_passAtom_50 (by decide +kernel) ?_
    refine lv_icmp_lt (tgt := 61) hx hb dX10_passAtom_52 (by decide) (fun c_31 => ?_) (fun c_31 => ?_)
    · have c_31 := (nI_ltI (a := (nx tx ty a1)) (b := 97) (by omega) (by decide)).mp c_31
      refine lv_iload_n hx hb dX10_passAtom_61 rfl (lv_at hl 0 rfl) ?_
      refine lv_bipush (v := nI 65) hx hb dX10_passAtom_62 (by decide +kernel) ?_
      refine lv_icmp_lt (tgt := 85) hx hb dX10_passAtom_64 (by decide) (fun c_32 => ?_) (fun c_32 => ?_)
      · have c_32 := (nI_ltI (a := (nx tx ty a1)) (b := 65) (by omega) (by decide)).mp c_32
        refine lv_iconst (v := nI 0) hx hb dX10_passAtom_85 (by decide +kernel) ?_
        have hpa : patom tx ty a1 = (a1, 0) := by unfold patom; rw [if_neg hdg, if_neg (by omega)]
        refine W.widen (k := 0) (n := 0) (by omega) (by omega) ?_
        exact W.zret (v := nI 0) hx hb hr (by decide +kernel) (fun t9 ht9 hW9 => ⟨⟨nI 0, (g, x), rfl, ⟨(fun (k : Nat) (hk : k ≠ 0) => rfl), h0, by rw [hpa]; exact hat, fun _ _ => rfl, by rw [hpa]; exact ha1, by rw [hpa]⟩, by show va_P (dC, dI) vwCl _ t9.heap; rw [ht9]; exact hP⟩, hS.F ht9⟩) hS.2.2 dX10_passAtom_86
      · have c_32 := mt (nI_ltI (a := (nx tx ty a1)) (b := 65) (by omega) (by decide)).mpr c_32
        refine lv_iload_n hx hb dX10_passAtom_67 rfl (lv_at hl 0 rfl) ?_
        refine lv_bipush (v := nI 72) hx hb dX10_passAtom_68 (by decide +kernel) ?_
        refine lv_icmp_gt (tgt := 85) hx hb dX10_passAtom_70 (by decide) (fun c_33 => ?_) (fun c_33 => ?_)
        · have c_33 := (nI_ltI (a := 72) (b := (nx tx ty a1)) (by decide) (by omega)).mp c_33
          refine lv_iconst (v := nI 0) hx hb dX10_passAtom_85 (by decide +kernel) ?_
          have hpa : patom tx ty a1 = (a1, 0) := by unfold patom; rw [if_neg hdg, if_neg (by omega)]
          refine W.widen (k := 0) (n := 0) (by omega) (by omega) ?_
          exact W.zret (v := nI 0) hx hb hr (by decide +kernel) (fun t9 ht9 hW9 => ⟨⟨nI 0, (g, x), rfl, ⟨(fun (k : Nat) (hk : k ≠ 0) => rfl), h0, by rw [hpa]; exact hat, fun _ _ => rfl, by rw [hpa]; exact ha1, by rw [hpa]⟩, by show va_P (dC, dI) vwCl _ t9.heap; rw [ht9]; exact hP⟩, hS.F ht9⟩) hS.2.2 dX10_passAtom_86
        · have c_33 := mt (nI_ltI (a := 72) (b := (nx tx ty a1)) (by decide) (by omega)).mpr c_33
          refine lv_aload_n hx hb dX10_passAtom_73 rfl (lv_at hl 1 rfl) ?_
          refine lv_dup hx hb dX10_passAtom_74 rfl ?_
          refine m_get (D := (dC, dI)) (v := .int (nI a1)) (C := RX10) (T := TX10) (N := 29) hx hb hts bk3 hown hK hP 0 (by decide) h0 rfl 22 (by decide) (hts (.fieldLink RX10 184 "GradientDeskModel" "at" "I") (List.mem_of_getElem? (i := 10) rfl)) (fun _ h9 => h9) (congrArg (fun z => some (Value.int z)) hat) dX10_passAtom_75 ?_
          refine lv_iconst (v := nI 1) hx hb dX10_passAtom_78 (by decide +kernel) ?_
          refine lv_iadd hx hb dX10_passAtom_79 ?_
          refine lv_topi (fun x_34 e_35 => ?_)
          obtain rfl : x_34 = nI (a1 + 1) := e_35.trans (nI_add a1 1)
          refine m_put (D := (dC, dI)) (v := .int (nI (a1 + 1))) (tv := .int) (C := RX10) (T := TX10) (N := 29) hx hb hts bk3 tyX10 tyX10_ok nmX10 hown hK hP hD hS 0 (by decide) h0 rfl 22 (by decide) (hts (.fieldLink RX10 184 "GradientDeskModel" "at" "I") (List.mem_of_getElem? (i := 10) rfl)) (fun _ h9 => h9) rfl (by decide +kernel) rfl rfl (Nat.le_of_ble_eq_true rfl) dX10_passAtom_80 (fun H locs g_36 f_37 fr_38 hP hS => ?_)
          have f_37 : g_36 0 = .inr (13, Rob ad (va_up x 7 (nI (a1 + 1)))) := f_37
          refine lv_iconst (v := nI 1) hx hb dX10_passAtom_83 (by decide +kernel) ?_
          have hpa : patom tx ty a1 = (a1 + 1, 1) := by unfold patom; rw [if_neg hdg, if_pos (by omega)]
          refine W.widen (k := 0) (n := 0) (by omega) (by omega) ?_
          exact W.zret (v := nI 1) hx hb hr (by decide +kernel) (fun t9 ht9 hW9 => ⟨⟨nI 1, (g_36, va_up x 7 (nI (a1 + 1))), rfl, ⟨(fun (k : Nat) (hk : k ≠ 0) => (fr_38 k (by omega)).trans (rfl)), f_37, by rw [hpa]; exact va_up_self _ _ _, fun j hj => va_up_ne _ _ hj, by rw [hpa]; show a1 + 1 ≤ 64; have := nx_pos (tx := tx) (ty := ty) (a := a1) (by omega); omega, by rw [hpa]⟩, by show va_P (dC, dI) vwCl _ t9.heap; rw [ht9]; exact hP⟩, hS.F ht9⟩) hS.2.2 dX10_passAtom_84
    · have c_31 := mt (nI_ltI (a := (nx tx ty a1)) (b := 97) (by omega) (by decide)).mpr c_31
      refine lv_iload_n hx hb dX10_passAtom_55 rfl (lv_at hl 0 rfl) ?_
      refine lv_bipush (v := nI 99) hx hb dX10_passAtom_56 (by decide +kernel) ?_
      refine lv_icmp_le (tgt := 73) hx hb dX10_passAtom_58 (by decide) (fun c_39 => ?_) (fun c_39 => ?_)
      · have c_39 := (nI_leI (a := (nx tx ty a1)) (b := 99) (by omega) (by decide)).mp c_39
        refine lv_aload_n hx hb dX10_passAtom_73 rfl (lv_at hl 1 rfl) ?_
        refine lv_dup hx hb dX10_passAtom_74 rfl ?_
        refine m_get (D := (dC, dI)) (v := .int (nI a1)) (C := RX10) (T := TX10) (N := 29) hx hb hts bk3 hown hK hP 0 (by decide) h0 rfl 22 (by decide) (hts (.fieldLink RX10 184 "GradientDeskModel" "at" "I") (List.mem_of_getElem? (i := 10) rfl)) (fun _ h9 => h9) (congrArg (fun z => some (Value.int z)) hat) dX10_passAtom_75 ?_
        refine lv_iconst (v := nI 1) hx hb dX10_passAtom_78 (by decide +kernel) ?_
        refine lv_iadd hx hb dX10_passAtom_79 ?_
        refine lv_topi (fun x_40 e_41 => ?_)
        obtain rfl : x_40 = nI (a1 + 1) := e_41.trans (nI_add a1 1)
        refine m_put (D := (dC, dI)) (v := .int (nI (a1 + 1))) (tv := .int) (C := RX10) (T := TX10) (N := 29) hx hb hts bk3 tyX10 tyX10_ok nmX10 hown hK hP hD hS 0 (by decide) h0 rfl 22 (by decide) (hts (.fieldLink RX10 184 "GradientDeskModel" "at" "I") (List.mem_of_getElem? (i := 10) rfl)) (fun _ h9 => h9) rfl (by decide +kernel) rfl rfl (Nat.le_of_ble_eq_true rfl) dX10_passAtom_80 (fun H locs g_42 f_43 fr_44 hP hS => ?_)
        have f_43 : g_42 0 = .inr (13, Rob ad (va_up x 7 (nI (a1 + 1)))) := f_43
        refine lv_iconst (v := nI 1) hx hb dX10_passAtom_83 (by decide +kernel) ?_
        have hpa : patom tx ty a1 = (a1 + 1, 1) := by unfold patom; rw [if_neg hdg, if_pos (by omega)]
        refine W.widen (k := 0) (n := 0) (by omega) (by omega) ?_
        exact W.zret (v := nI 1) hx hb hr (by decide +kernel) (fun t9 ht9 hW9 => ⟨⟨nI 1, (g_42, va_up x 7 (nI (a1 + 1))), rfl, ⟨(fun (k : Nat) (hk : k ≠ 0) => (fr_44 k (by omega)).trans (rfl)), f_43, by rw [hpa]; exact va_up_self _ _ _, fun j hj => va_up_ne _ _ hj, by rw [hpa]; show a1 + 1 ≤ 64; have := nx_pos (tx := tx) (ty := ty) (a := a1) (by omega); omega, by rw [hpa]⟩, by show va_P (dC, dI) vwCl _ t9.heap; rw [ht9]; exact hP⟩, hS.F ht9⟩) hS.2.2 dX10_passAtom_84
      · have c_39 := mt (nI_leI (a := (nx tx ty a1)) (b := 99) (by omega) (by decide)).mpr c_39
        refine lv_iload_n hx hb dX10_passAtom_61 rfl (lv_at hl 0 rfl) ?_
        refine lv_bipush (v := nI 65) hx hb dX10_passAtom_62 (by decide +kernel) ?_
        refine lv_icmp_lt (tgt := 85) hx hb dX10_passAtom_64 (by decide) (fun c_45 => ?_) (fun c_45 => ?_)
        · have c_45 := (nI_ltI (a := (nx tx ty a1)) (b := 65) (by omega) (by decide)).mp c_45
          refine lv_iconst (v := nI 0) hx hb dX10_passAtom_85 (by decide +kernel) ?_
          have hpa : patom tx ty a1 = (a1, 0) := by unfold patom; rw [if_neg hdg, if_neg (by omega)]
          refine W.widen (k := 0) (n := 0) (by omega) (by omega) ?_
          exact W.zret (v := nI 0) hx hb hr (by decide +kernel) (fun t9 ht9 hW9 => ⟨⟨nI 0, (g, x), rfl, ⟨(fun (k : Nat) (hk : k ≠ 0) => rfl), h0, by rw [hpa]; exact hat, fun _ _ => rfl, by rw [hpa]; exact ha1, by rw [hpa]⟩, by show va_P (dC, dI) vwCl _ t9.heap; rw [ht9]; exact hP⟩, hS.F ht9⟩) hS.2.2 dX10_passAtom_86
        · have c_45 := mt (nI_ltI (a := (nx tx ty a1)) (b := 65) (by omega) (by decide)).mpr c_45
          refine lv_iload_n hx hb dX10_passAtom_67 rfl (lv_at hl 0 rfl) ?_
          refine lv_bipush (v := nI 72) hx hb dX10_passAtom_68 (by decide +kernel) ?_
          refine lv_icmp_gt (tgt := 85) hx hb dX10_passAtom_70 (by decide) (fun c_46 => ?_) (fun c_46 => ?_)
          · have c_46 := (nI_ltI (a := 72) (b := (nx tx ty a1)) (by decide) (by omega)).mp c_46
            refine lv_iconst (v := nI 0) hx hb dX10_passAtom_85 (by decide +kernel) ?_
            have hpa : patom tx ty a1 = (a1, 0) := by unfold patom; rw [if_neg hdg, if_neg (by omega)]
            refine W.widen (k := 0) (n := 0) (by omega) (by omega) ?_
            exact W.zret (v := nI 0) hx hb hr (by decide +kernel) (fun t9 ht9 hW9 => ⟨⟨nI 0, (g, x), rfl, ⟨(fun (k : Nat) (hk : k ≠ 0) => rfl), h0, by rw [hpa]; exact hat, fun _ _ => rfl, by rw [hpa]; exact ha1, by rw [hpa]⟩, by show va_P (dC, dI) vwCl _ t9.heap; rw [ht9]; exact hP⟩, hS.F ht9⟩) hS.2.2 dX10_passAtom_86
          · have c_46 := mt (nI_ltI (a := 72) (b := (nx tx ty a1)) (by decide) (by omega)).mpr c_46
            refine lv_aload_n hx hb dX10_passAtom_73 rfl (lv_at hl 1 rfl) ?_
            refine lv_dup hx hb dX10_passAtom_74 rfl ?_
            refine m_get (D := (dC, dI)) (v := .int (nI a1)) (C := RX10) (T := TX10) (N := 29) hx hb hts bk3 hown hK hP 0 (by decide) h0 rfl 22 (by decide) (hts (.fieldLink RX10 184 "GradientDeskModel" "at" "I") (List.mem_of_getElem? (i := 10) rfl)) (fun _ h9 => h9) (congrArg (fun z => some (Value.int z)) hat) dX10_passAtom_75 ?_
            refine lv_iconst (v := nI 1) hx hb dX10_passAtom_78 (by decide +kernel) ?_
            refine lv_iadd hx hb dX10_passAtom_79 ?_
            refine lv_topi (fun x_47 e_48 => ?_)
            obtain rfl : x_47 = nI (a1 + 1) := e_48.trans (nI_add a1 1)
            refine m_put (D := (dC, dI)) (v := .int (nI (a1 + 1))) (tv := .int) (C := RX10) (T := TX10) (N := 29) hx hb hts bk3 tyX10 tyX10_ok nmX10 hown hK hP hD hS 0 (by decide) h0 rfl 22 (by decide) (hts (.fieldLink RX10 184 "GradientDeskModel" "at" "I") (List.mem_of_getElem? (i := 10) rfl)) (fun _ h9 => h9) rfl (by decide +kernel) rfl rfl (Nat.le_of_ble_eq_true rfl) dX10_passAtom_80 (fun H locs g_49 f_50 fr_51 hP hS => ?_)
            have f_50 : g_49 0 = .inr (13, Rob ad (va_up x 7 (nI (a1 + 1)))) := f_50
            refine lv_iconst (v := nI 1) hx hb dX10_passAtom_83 (by decide +kernel) ?_
            have hpa : patom tx ty a1 = (a1 + 1, 1) := by unfold patom; rw [if_neg hdg, if_pos (by omega)]
            refine W.widen (k := 0) (n := 0) (by omega) (by omega) ?_
            exact W.zret (v := nI 1) hx hb hr (by decide +kernel) (fun t9 ht9 hW9 => ⟨⟨nI 1, (g_49, va_up x 7 (nI (a1 + 1))), rfl, ⟨(fun (k : Nat) (hk : k ≠ 0) => (fr_51 k (by omega)).trans (rfl)), f_50, by rw [hpa]; exact va_up_self _ _ _, fun j hj => va_up_ne _ _ hj, by rw [hpa]; show a1 + 1 ≤ 64; have := nx_pos (tx := tx) (ty := ty) (a := a1) (by omega); omega, by rw [hpa]⟩, by show va_P (dC, dI) vwCl _ t9.heap; rw [ht9]; exact hP⟩, hS.F ht9⟩) hS.2.2 dX10_passAtom_84
