def wd_X10_finishTerm : List Cond := .code yX10_finishTerm cX10_finishTerm 3 none :: (([.methodLink RX10 221 yX10_top, .instanceMethod yX10_top, .selects RX10 yX10_top yX10_top, .initialized RX10, .fieldLink RX10 210 "GradientDeskModel" "operatorCount" "I", .fieldLink RX10 227 "GradientDeskModel" "valueCount" "I", .fieldLink RX10 56 "GradientDeskModel" "values" "[I", .methodLink RX10 230 yX10_makeSum, .instanceMethod yX10_makeSum, .selects RX10 yX10_makeSum yX10_makeSum, .methodLink RX10 224 yX10_negative, .instanceMethod yX10_negative, .selects RX10 yX10_negative yX10_negative] : List Cond) ++ (wd_X10_top ++ (u_ws RX10 TX10 29 ++ (wd_X10_makeSum ++ (wd_X10_negative ++ (wd_X10_makeSumF ++ ([])))))))
theorem gw_X10_finishTerm : wd_X10_finishTerm.all goodWord = true := k_allc rfl (k_all (by decide +kernel) (k_all (gw_X10_top) (k_all (gu_X10) (k_all (gw_X10_makeSum) (k_all (gw_X10_negative) (k_all (gw_X10_makeSumF) (rfl)))))))
set_option maxHeartbeats 4000000 in
set_option maxRecDepth 100000 in
theorem c_X10_finishTerm (l : Launch) (dC : Nat → ClassId) (dI : Nat → Nat → Nat) (A : Nat → Prop) (ad : Nat → Nat) (cA : Nat → ClassId) (g : Nat → va_E) (x : Nat → Int32) (pf : Nat → Int) (qf : Nat → Nat) (pt : Nat → Nat → Int) (L : List PD) (f14 : Nat → Int) (stk : List Nat) (f15 : Nat → Int) (oo : List Nat) (hS9 : MKS ad cA g x x pf qf L (0, stk, L) pt pf qf f14) (h15 : g 15 = .inl (cA 15, 160, .inl (fun j => iI (f15 j)))) (hs15 : STK f15 oo) (hv6 : x 6 = nI oo.length) (hol : oo.length ≤ 64) (hsk : skl 2 oo) (hbc : stk.length = bcl oo + 1) : Met l yX10_finishTerm wd_X10_finishTerm ({ frames := 100, cells := 0, slots := 0, locals := 2000 }) (va_Pc [.ref (ad 0)] (PR NSr tyr dC dI A ad cA g)) (va_Qv (fun (u : (Nat → va_E) × (Nat → Int32) × (Nat → Nat → Int) × (Nat → Int) × (Nat → Nat) × (Nat → Int)) => match u with | (g2, x2, pt2, pf2, qf2, f2) => (∀ k, k ≠ 0 ∧ k ≠ 1 ∧ k ≠ 2 ∧ k ≠ 3 ∧ k ≠ 5 ∧ k ≠ 6 ∧ k ≠ 7 ∧ k ≠ 8 ∧ k ≠ 9 ∧ k ≠ 10 ∧ k ≠ 14 → g2 k = g k) ∧ MKS ad cA g2 x x2 pf qf L (exs (ftS oo) (0, stk, L)) pt2 pf2 qf2 f2 ∧ x2 6 = nI (fto oo).length ∧ x2 7 = x 7) (fun (u : (Nat → va_E) × (Nat → Int32) × (Nat → Nat → Int) × (Nat → Int) × (Nat → Nat) × (Nat → Int)) (t : State) => va_P (dC, dI) vwCl (wo ad NSr u.1) t.heap) A) (0) (0) A := by
  refine Met.ofW (cc := cX10_finishTerm) (maxL := 3) (ret := none) (by decide) rfl ?_
  intro p e s m args below meth c s₁ B hml hv
  obtain ⟨rfl, hA, hP, hL⟩ := hv
  have hx := B.exec
  have hb := B.bytes
  have hr := B.returns
  have hts := atoms_spec (ws := wd_X10_finishTerm) B.pre
  have hown : s.vm.findClass RX10 = some m.cls := findClass_of_methodNamed B.named
  have hlocks := B.notSynchronized
  have hK := hL.1
  have hD : ∀ g, va_D A (wo ad NSr g) := fun g => wo_D hL.2.1 hL.2.2 g
  have hS : va_S A s.heap s.heap [] := va_S.rf
  have bk0 : ∀ w ∈ wd_X10_top, w ∈ wd_X10_finishTerm := fun _ h => List.mem_cons_of_mem _ (List.mem_append_right _ (List.mem_append_left _ h))
  have bk1 : ∀ w ∈ u_ws RX10 TX10 29, w ∈ wd_X10_finishTerm := fun _ h => List.mem_cons_of_mem _ (List.mem_append_right _ (List.mem_append_right _ (List.mem_append_left _ h)))
  have bk2 : ∀ w ∈ wd_X10_makeSum, w ∈ wd_X10_finishTerm := fun _ h => List.mem_cons_of_mem _ (List.mem_append_right _ (List.mem_append_right _ (List.mem_append_right _ (List.mem_append_left _ h))))
  have bk3 : ∀ w ∈ wd_X10_negative, w ∈ wd_X10_finishTerm := fun _ h => List.mem_cons_of_mem _ (List.mem_append_right _ (List.mem_append_right _ (List.mem_append_right _ (List.mem_append_right _ (List.mem_append_left _ h)))))
  have bk4 : ∀ w ∈ wd_X10_makeSumF, w ∈ wd_X10_finishTerm := fun _ h => List.mem_cons_of_mem _ (List.mem_append_right _ (List.mem_append_right _ (List.mem_append_right _ (List.mem_append_right _ (List.mem_append_right _ (List.mem_append_left _ h))))))
  have hl := lv_entry ([.ref (ad 0)]) (n := 3) (Nat.le_of_ble_eq_true rfl)
  rw [lg_entry_eq]
  generalize (lg_sl ([.ref (ad 0)]) ++ List.replicate (3 - (lg_sl ([.ref (ad 0)])).length) Slot.unset).toArray = ls at hl ⊢
  have hl : lv_has ls 3 [(0, .ref (ad 0))] := hl
  have hS8 := hS9
  obtain ⟨hF, hPt, hM, hW, -, hL2, hmd, -, -, hft, h14, hs14, hv5, hst⟩ := hS9.op
  have hob0 := hF.obj
  have hbl := bcl_le oo
  have hh2 := skl_hd hsk
  refine lv_aload_n hx hb dX10_finishTerm_0 rfl (lv_at hl 0 rfl) ?_
  refine va_calli (va_runV (As := []) (rest := []) ⟨hx, hb, hml, hown, hts⟩ (c_X10_top l dC dI A ad cA g x f15 oo hob0 h15 hs15 hv6 hol) (cwV 0 hts (goodIn_app (goodIn_r [Cond.methodLink RX10 221 yX10_top, Cond.instanceMethod yX10_top, Cond.selects RX10 yX10_top yX10_top, Cond.initialized RX10] [1, 2, 3, 4] rfl rfl) (goodIn_sub (fun w9 h9 => bk0 w9 h9) gw_X10_top)) rfl rfl rfl (by decide +kernel) ⟨Nat.le_of_ble_eq_true rfl, Nat.le_of_ble_eq_true rfl⟩) ⟨fun a U g mk q => ⟨q.1, q.2.1, q.2.2.1, LY.moved (u := U) (U := U.calling g mk a) (Vm.Alike.refl U.vm) q.2.2.2⟩, va_recv hK hP (ci := 13) (q0 := 0) rfl (wo_at (by decide) hob0), fun U hU hW => ⟨rfl, by rw [hU]; exact fun q h => hA q (Nat.le_trans hS.1 h), by rw [hU]; exact hP, LY.moved hW.alike hL⟩⟩ rfl rfl hl.1 rfl (lv_room (Nat.le_of_ble_eq_true rfl)) dX10_finishTerm_1 ⟨(Nat.le_of_ble_eq_true rfl), (Nat.le_of_ble_eq_true rfl)⟩) hS (fun q _ h => h) (fun q h => h) (fun r_1 u8 t8 H1 locs ht8 hvm8 hw_2 hB hz1 hk1 hS => ?_)
  obtain ⟨⟩ := u8
  try dsimp only at hw_2 hB
  rw [ht8] at hB
  have hP := hB
  generalize H1 = H at hP hS ⊢
  obtain rfl := hw_2
  refine lv_bipush (v := nI 43) hx hb dX10_finishTerm_4 (by decide +kernel) ?_
  refine lv_icmp_eq (tgt := 19) hx hb dX10_finishTerm_6 (by decide) (fun c_3 => ?_) (fun c_3 => ?_)
  · have c_3 := (nI_eq (a := (oo.headD 0)) (b := 43) (by omega) (by decide)).mp c_3
    obtain ⟨o3, ho3⟩ := hd_cons (q := oo) (v := 43) (by omega) (by decide)
    have hl3 : oo.length = o3.length + 1 := by rw [ho3]; rfl
    have hb3 : bcl oo = 1 + bcl o3 := by rw [ho3]; rfl
    obtain ⟨y9, t7, ht7⟩ := len_cons (q := stk) (by omega)
    have hl8 : stk.length = t7.length + 1 := by rw [ht7]; rfl
    obtain ⟨v9, s9, hs9⟩ := len_cons (q := t7) (by omega)
    have hl9 : t7.length = s9.length + 1 := by rw [hs9]; rfl
    have ht8 : STK f14 t7 := by rw [ht7] at hs14; exact hs14.2
    have hst9 : STK f14 s9 := by rw [hs9] at ht8; exact ht8.2
    have hy9 : f14 (stk.length - 1) = ((y9 : Nat) : Int) := by rw [stk_top hs14 (by omega), ht7]; rfl
    have hv9 : f14 (stk.length - 1 - 1) = ((v9 : Nat) : Int) := by rw [show stk.length - 1 - 1 = t7.length - 1 by omega, stk_top ht8 (by omega), hs9]; rfl
    have hm8 : y9 < L.length := hst y9 (by rw [ht7]; exact List.mem_cons_self)
    have hm9 : v9 < L.length := hst v9 (by rw [ht7, hs9]; exact List.mem_cons_of_mem _ List.mem_cons_self)
    have hfo : fto oo = o3 := by rw [ho3]; rfl
    have hh3 : oo.headD 0 = 43 := by rw [ho3]; rfl
    refine lv_aload_n hx hb dX10_finishTerm_19 rfl (lv_at hl 0 rfl) ?_
    refine va_calli (va_runV (As := []) (rest := []) ⟨hx, hb, hml, hown, hts⟩ (c_X10_top l dC dI A ad cA g x f15 oo hob0 h15 hs15 hv6 hol) (cwV 0 hts (goodIn_app (goodIn_r [Cond.methodLink RX10 221 yX10_top, Cond.instanceMethod yX10_top, Cond.selects RX10 yX10_top yX10_top, Cond.initialized RX10] [1, 2, 3, 4] rfl rfl) (goodIn_sub (fun w9 h9 => bk0 w9 h9) gw_X10_top)) rfl rfl rfl (by decide +kernel) ⟨Nat.le_of_ble_eq_true rfl, Nat.le_of_ble_eq_true rfl⟩) ⟨fun a U g mk q => ⟨q.1, q.2.1, q.2.2.1, LY.moved (u := U) (U := U.calling g mk a) (Vm.Alike.refl U.vm) q.2.2.2⟩, va_recv hK hP (ci := 13) (q0 := 0) rfl (wo_at (by decide) hob0), fun U hU hW => ⟨rfl, by rw [hU]; exact fun q h => hA q (Nat.le_trans hS.1 h), by rw [hU]; exact hP, LY.moved hW.alike hL⟩⟩ rfl rfl hl.1 rfl (lv_room (Nat.le_of_ble_eq_true rfl)) dX10_finishTerm_20 ⟨(Nat.le_of_ble_eq_true rfl), (Nat.le_of_ble_eq_true rfl)⟩) hS (fun q _ h => h) (fun q h => h) (fun r_4 u8 t8 H1 locs ht8 hvm8 hw_5 hB hz1 hk1 hS => ?_)
    obtain ⟨⟩ := u8
    try dsimp only at hw_5 hB
    rw [ht8] at hB
    have hP := hB
    generalize H1 = H at hP hS ⊢
    obtain rfl := hw_5
    refine lv_istore_n (lv' := [(1, .int (nI (oo.headD 0))), (0, .ref (ad 0))]) hx hb dX10_finishTerm_23 rfl hl (by decide) rfl (fun ls hl => ?_)
    refine lv_aload_n hx hb dX10_finishTerm_24 rfl (lv_at hl 1 rfl) ?_
    refine lv_dup hx hb dX10_finishTerm_25 rfl ?_
    refine m_get (D := (dC, dI)) (v := .int (nI oo.length)) (C := RX10) (T := TX10) (N := 29) hx hb hts bk1 hown hK hP 0 (by decide) hob0 rfl 21 (by decide) (hts (.fieldLink RX10 210 "GradientDeskModel" "operatorCount" "I") (List.mem_of_getElem? (i := 5) rfl)) (fun _ h9 => h9) (congrArg (fun z => some (Value.int z)) hv6) dX10_finishTerm_26 ?_
    refine lv_iconst (v := nI 1) hx hb dX10_finishTerm_29 (by decide +kernel) ?_
    refine lv_isub hx hb dX10_finishTerm_30 ?_
    refine lv_topi (fun x_6 e_7 => ?_)
    obtain rfl : x_6 = nI (oo.length - 1) := e_7.trans (pk_sub (show 1 ≤ oo.length by omega))
    refine m_put (D := (dC, dI)) (v := .int (nI (oo.length - 1))) (tv := .int) (C := RX10) (T := TX10) (N := 29) hx hb hts bk1 tyX10 tyX10_ok nmX10 hown hK hP hD hS 0 (by decide) hob0 rfl 21 (by decide) (hts (.fieldLink RX10 210 "GradientDeskModel" "operatorCount" "I") (List.mem_of_getElem? (i := 5) rfl)) (fun _ h9 => h9) rfl (by decide +kernel) rfl rfl (Nat.le_of_ble_eq_true rfl) dX10_finishTerm_31 (fun H locs g_8 f_9 fr_10 hP hS => ?_)
    have f_9 : g_8 0 = .inr (13, Rob ad (va_up x 6 (nI (oo.length - 1)))) := f_9
    refine lv_aload_n hx hb dX10_finishTerm_34 rfl (lv_at hl 1 rfl) ?_
    refine lv_dup hx hb dX10_finishTerm_35 rfl ?_
    refine m_get (D := (dC, dI)) (v := .int (nI stk.length)) (C := RX10) (T := TX10) (N := 29) hx hb hts bk1 hown hK hP 0 (by decide) f_9 rfl 20 (by decide) (hts (.fieldLink RX10 227 "GradientDeskModel" "valueCount" "I") (List.mem_of_getElem? (i := 6) rfl)) (fun _ h9 => h9) (congrArg (fun z => some (Value.int z)) (show (va_up x 6 (nI (oo.length - 1))) 5 = (nI stk.length) from hv5)) dX10_finishTerm_36 ?_
    refine lv_iconst (v := nI 1) hx hb dX10_finishTerm_39 (by decide +kernel) ?_
    refine lv_isub hx hb dX10_finishTerm_40 ?_
    refine lv_topi (fun x_11 e_12 => ?_)
    obtain rfl : x_11 = nI (stk.length - 1) := e_12.trans (pk_sub (show 1 ≤ stk.length by omega))
    refine m_put (D := (dC, dI)) (v := .int (nI (stk.length - 1))) (tv := .int) (C := RX10) (T := TX10) (N := 29) hx hb hts bk1 tyX10 tyX10_ok nmX10 hown hK hP hD hS 0 (by decide) f_9 rfl 20 (by decide) (hts (.fieldLink RX10 227 "GradientDeskModel" "valueCount" "I") (List.mem_of_getElem? (i := 6) rfl)) (fun _ h9 => h9) rfl (by decide +kernel) rfl rfl (Nat.le_of_ble_eq_true rfl) dX10_finishTerm_41 (fun H locs g_13 f_14 fr_15 hP hS => ?_)
    have f_14 : g_13 0 = .inr (13, Rob ad (va_up (va_up x 6 (nI (oo.length - 1))) 5 (nI (stk.length - 1)))) := f_14
    refine lv_aload_n hx hb dX10_finishTerm_44 rfl (lv_at hl 1 rfl) ?_
    refine m_get (D := (dC, dI)) (v := .ref (ad 14)) (C := RX10) (T := TX10) (N := 29) hx hb hts bk1 hown hK hP 0 (by decide) f_14 rfl 18 (by decide) (hts (.fieldLink RX10 56 "GradientDeskModel" "values" "[I") (List.mem_of_getElem? (i := 7) rfl)) (fun _ h9 => h9) rfl dX10_finishTerm_45 ?_
    refine lv_aload_n hx hb dX10_finishTerm_48 rfl (lv_at hl 1 rfl) ?_
    refine m_get (D := (dC, dI)) (v := .int (nI (stk.length - 1))) (C := RX10) (T := TX10) (N := 29) hx hb hts bk1 hown hK hP 0 (by decide) f_14 rfl 20 (by decide) (hts (.fieldLink RX10 227 "GradientDeskModel" "valueCount" "I") (List.mem_of_getElem? (i := 6) rfl)) (fun _ h9 => h9) (congrArg (fun z => some (Value.int z)) (show (va_up (va_up x 6 (nI (oo.length - 1))) 5 (nI (stk.length - 1))) 5 = (nI (stk.length - 1)) from rfl)) dX10_finishTerm_49 ?_
    have f_16 : g_13 14 = .inl (cA 14, 80, .inl (fun j => iI (f14 j))) := (fr_15 14 (by omega)).trans ((fr_10 14 (by omega)).trans h14)
    refine m_iald hx hb hK hP 14 (by decide) rfl f_16 (i := stk.length - 1) (by omega) (by decide) dX10_finishTerm_52 ?_
    rw [hy9, ← nI_iI]
    refine lv_istore_n (lv' := [(2, .int (nI y9)), (1, .int (nI (oo.headD 0))), (0, .ref (ad 0))]) hx hb dX10_finishTerm_53 rfl hl (by decide) rfl (fun ls hl => ?_)
    refine lv_iload_n hx hb dX10_finishTerm_54 rfl (lv_at hl 1 rfl) ?_
    refine lv_bipush (v := nI 45) hx hb dX10_finishTerm_55 (by decide +kernel) ?_
    refine lv_icmp_ne (tgt := 68) hx hb dX10_finishTerm_57 (by decide) (fun c_17 => ?_) (fun c_17 => absurd ((nI_eq (a := (oo.headD 0)) (b := 45) (by omega) (by decide)).mp c_17) (by omega))
    refine lv_iload_n hx hb dX10_finishTerm_68 rfl (lv_at hl 0 rfl) ?_
    refine lv_istore_n (lv' := [(2, .int (nI y9)), (1, .int (nI (oo.headD 0))), (0, .ref (ad 0))]) hx hb dX10_finishTerm_69 rfl hl (by decide) rfl (fun ls hl => ?_)
    refine lv_aload_n hx hb dX10_finishTerm_70 rfl (lv_at hl 2 rfl) ?_
    refine m_get (D := (dC, dI)) (v := .ref (ad 14)) (C := RX10) (T := TX10) (N := 29) hx hb hts bk1 hown hK hP 0 (by decide) f_14 rfl 18 (by decide) (hts (.fieldLink RX10 56 "GradientDeskModel" "values" "[I") (List.mem_of_getElem? (i := 7) rfl)) (fun _ h9 => h9) rfl dX10_finishTerm_71 ?_
    refine lv_aload_n hx hb dX10_finishTerm_74 rfl (lv_at hl 2 rfl) ?_
    refine m_get (D := (dC, dI)) (v := .int (nI (stk.length - 1))) (C := RX10) (T := TX10) (N := 29) hx hb hts bk1 hown hK hP 0 (by decide) f_14 rfl 20 (by decide) (hts (.fieldLink RX10 227 "GradientDeskModel" "valueCount" "I") (List.mem_of_getElem? (i := 6) rfl)) (fun _ h9 => h9) (congrArg (fun z => some (Value.int z)) (show (va_up (va_up x 6 (nI (oo.length - 1))) 5 (nI (stk.length - 1))) 5 = (nI (stk.length - 1)) from rfl)) dX10_finishTerm_75 ?_
    refine lv_iconst (v := nI 1) hx hb dX10_finishTerm_78 (by decide +kernel) ?_
    refine lv_isub hx hb dX10_finishTerm_79 ?_
    refine lv_topi (fun x_18 e_19 => ?_)
    obtain rfl : x_18 = nI ((stk.length - 1) - 1) := e_19.trans (pk_sub (show 1 ≤ stk.length - 1 by omega))
    refine lv_aload_n hx hb dX10_finishTerm_80 rfl (lv_at hl 2 rfl) ?_
    refine lv_aload_n hx hb dX10_finishTerm_81 rfl (lv_at hl 2 rfl) ?_
    refine m_get (D := (dC, dI)) (v := .ref (ad 14)) (C := RX10) (T := TX10) (N := 29) hx hb hts bk1 hown hK hP 0 (by decide) f_14 rfl 18 (by decide) (hts (.fieldLink RX10 56 "GradientDeskModel" "values" "[I") (List.mem_of_getElem? (i := 7) rfl)) (fun _ h9 => h9) rfl dX10_finishTerm_82 ?_
    refine lv_aload_n hx hb dX10_finishTerm_85 rfl (lv_at hl 2 rfl) ?_
    refine m_get (D := (dC, dI)) (v := .int (nI (stk.length - 1))) (C := RX10) (T := TX10) (N := 29) hx hb hts bk1 hown hK hP 0 (by decide) f_14 rfl 20 (by decide) (hts (.fieldLink RX10 227 "GradientDeskModel" "valueCount" "I") (List.mem_of_getElem? (i := 6) rfl)) (fun _ h9 => h9) (congrArg (fun z => some (Value.int z)) (show (va_up (va_up x 6 (nI (oo.length - 1))) 5 (nI (stk.length - 1))) 5 = (nI (stk.length - 1)) from rfl)) dX10_finishTerm_86 ?_
    refine lv_iconst (v := nI 1) hx hb dX10_finishTerm_89 (by decide +kernel) ?_
    refine lv_isub hx hb dX10_finishTerm_90 ?_
    refine lv_topi (fun x_20 e_21 => ?_)
    obtain rfl : x_20 = nI ((stk.length - 1) - 1) := e_21.trans (pk_sub (show 1 ≤ stk.length - 1 by omega))
    refine m_iald hx hb hK hP 14 (by decide) rfl f_16 (i := (stk.length - 1) - 1) (by omega) (by decide) dX10_finishTerm_91 ?_
    rw [hv9, ← nI_iI]
    refine lv_iload_n hx hb dX10_finishTerm_92 rfl (lv_at hl 0 rfl) ?_
    refine va_calli (va_runV (As := [.int (nI v9), .int (nI y9)]) (rest := [.int (nI ((stk.length - 1) - 1)), .ref (ad 14)]) ⟨hx, hb, hml, hown, hts⟩ (c_X10_makeSum l dC dI A ad cA g_13 (va_up (va_up x 6 (nI (oo.length - 1))) 5 (nI (stk.length - 1))) pf qf pt L v9 y9 0 (hF.setx (fun (k : Nat) (hk : k = 1 ∨ k = 2 ∨ k = 3) => (fr_15 k (by omega)).trans ((fr_10 k (by omega)).trans (rfl))) f_14 rfl) (hPt.same (fun (k : Nat) (hk : 5 ≤ k ∧ k ≤ 10) => (fr_15 k (by omega)).trans ((fr_10 k (by omega)).trans (rfl)))) hM ((va_up_ne _ _ (by decide)).trans ((va_up_ne _ _ (by decide)).trans hmd)) hL2 ((va_up_ne _ _ (by decide)).trans ((va_up_ne _ _ (by decide)).trans hft)) (Or.inl rfl) hW hm9 hm8) (cwV 2 hts (goodIn_app (goodIn_r [Cond.methodLink RX10 230 yX10_makeSum, Cond.instanceMethod yX10_makeSum, Cond.selects RX10 yX10_makeSum yX10_makeSum, Cond.initialized RX10] [8, 9, 10, 4] rfl rfl) (goodIn_sub (fun w9 h9 => bk2 w9 h9) gw_X10_makeSum)) rfl rfl rfl (by decide +kernel) ⟨Nat.le_of_ble_eq_true rfl, Nat.le_of_ble_eq_true rfl⟩) ⟨fun a U g mk q => ⟨q.1, q.2.1, q.2.2.1, LY.moved (u := U) (U := U.calling g mk a) (Vm.Alike.refl U.vm) q.2.2.2⟩, va_recv hK hP (ci := 13) (q0 := 0) rfl (wo_at (by decide) f_14), fun U hU hW => ⟨rfl, by rw [hU]; exact fun q h => hA q (Nat.le_trans hS.1 h), by rw [hU]; exact hP, LY.moved hW.alike hL⟩⟩ rfl rfl hl.1 rfl (lv_room (Nat.le_of_ble_eq_true rfl)) dX10_finishTerm_93 ⟨(Nat.le_of_ble_eq_true rfl), (Nat.le_of_ble_eq_true rfl)⟩) hS (fun q _ h => h) (fun q h => h) (fun r_22 u8 t8 H1 locs ht8 hvm8 hw_23 hB hz1 hk1 hS => ?_)
    obtain ⟨g_24, x2_25, pt2_26, pf2_27, qf2_28⟩ := u8
    try dsimp only at hw_23 hB
    rw [ht8] at hB
    have hP := hB
    generalize H1 = H at hP hS ⊢
    obtain ⟨fr_29, hK4⟩ := hw_23
    rw [onF_0] at hK4
    obtain ⟨K4, eK4⟩ : ∃ z9, z9 = (sumL L v9 y9 : Int × List PD) := ⟨_, rfl⟩
    rw [← eK4] at hK4
    have hx4 := hK4.2.2.2.2.2.1
    have hQ4 : MKQ ad cA g_24 x x2_25 pf qf L K4 r_22 pt2_26 pf2_27 qf2_28 := hK4.q (by rw [eK4]; exact sumL_wf hW hm9 hm8) (by rw [eK4]; exact sumL_le _ _ _) (fun j hj => (va_up_ne _ _ (by omega)).trans (va_up_ne _ _ (by omega))) (fun _ _ _ => ⟨rfl, rfl⟩)
    have hqe4 : L.length ≤ K4.2.length := hQ4.2.2.2.2.1.1
    have hob4 := hK4.1.obj
    have hR4 := hK4.2.2.2.2.2.2.2
    rcases hR4 with ⟨j1, j2, j3, -⟩ | ⟨j1, j2, j3, -⟩
    · skip
      obtain ⟨i4, hi4⟩ : ∃ z9 : Nat, K4.1 = (z9 : Int) := ⟨K4.1.toNat, by omega⟩
      rw [hi4, ← nI_iI] at j3
      rw [j3]
      have f_30 : g_24 14 = .inl (cA 14, 80, .inl (fun j => iI (f14 j))) := (fr_29 14 (by omega)).trans f_16
      refine m_iast hx hb hK hP hD hS 14 (by decide) rfl f_30 (i := (stk.length - 1) - 1) (x := nI i4) (by omega) (by decide) dX10_finishTerm_96 (fun H locs g_31 f_32 fr_33 hP hS => ?_)
      rw [(nI_iI i4), k_updZ] at f_32
      have f_32 : g_31 14 = .inl (cA 14, 80, .inl (fun j => iI ((va_up f14 ((stk.length - 1) - 1) ((i4 : Nat) : Int)) j))) := f_32
      have f_34 : g_31 0 = .inr (13, Rob ad x2_25) := (fr_33 0 (by omega)).trans hob4
      have hQ5 : MKQ ad cA g_31 x x2_25 pf qf L K4 _ pt2_26 pf2_27 qf2_28 := hQ4.setx (fun (k : Nat) (hk : (1 ≤ k ∧ k ≤ 3) ∨ (5 ≤ k ∧ k ≤ 10)) => (fr_33 k (by omega)).trans (rfl)) f_34 (fun j _ _ _ => rfl)
      have hE0 : exs (ftS oo) (0, stk, L) = psh s9 K4 := by rw [ho3, ht7, hs9, ft_43, eK4]
      have hE := hE0.trans (psh_pos hi4)
      refine W.widen (k := 0) (n := 0) (by omega) (by omega) ?_
      exact W.vret hx hb hr (fun t9 ht9 hW9 => ⟨⟨(g_31, x2_25, pt2_26, pf2_27, qf2_28, va_up f14 ((stk.length - 1) - 1) ((i4 : Nat) : Int)), rfl, ⟨(fun (k : Nat) (hk : k ≠ 0 ∧ k ≠ 1 ∧ k ≠ 2 ∧ k ≠ 3 ∧ k ≠ 5 ∧ k ≠ 6 ∧ k ≠ 7 ∧ k ≠ 8 ∧ k ≠ 9 ∧ k ≠ 10 ∧ k ≠ 14) => (fr_33 k (by omega)).trans ((fr_29 k (by omega)).trans ((fr_15 k (by omega)).trans ((fr_10 k (by omega)).trans (rfl))))), by rw [hE]; exact MKQ.sok hQ5 hi4 f_32 (STK.push hst9 (by omega) rfl) ((hx4 5 (by decide) (by decide)).trans (va_up_self _ _ _)) (by omega) (fun j hj => Nat.lt_of_lt_of_le (hst j (by rw [ht7, hs9]; exact List.mem_cons_of_mem _ (List.mem_cons_of_mem _ hj))) hqe4), ((hx4 6 (by decide) (by decide)).trans ((va_up_ne _ _ (by decide)).trans (va_up_self _ _ _))).trans (congrArg nI (by rw [hfo]; omega)), (hx4 7 (by decide) (by decide)).trans ((va_up_ne _ _ (by decide)).trans (va_up_ne _ _ (by decide)))⟩, by show va_P (dC, dI) vwCl _ t9.heap; rw [ht9]; exact hP⟩, hS.F ht9⟩) hS.2.2 dX10_finishTerm_97
    · skip
      rw [j3]
      have f_35 : g_24 14 = .inl (cA 14, 80, .inl (fun j => iI (f14 j))) := (fr_29 14 (by omega)).trans f_16
      refine m_iast hx hb hK hP hD hS 14 (by decide) rfl f_35 (i := (stk.length - 1) - 1) (x := -1) (by omega) (by decide) dX10_finishTerm_96 (fun H locs g_36 f_37 fr_38 hP hS => ?_)
      rw [(show (-1 : Int32) = iI (-1) from by decide), k_updZ] at f_37
      have f_37 : g_36 14 = .inl (cA 14, 80, .inl (fun j => iI ((va_up f14 ((stk.length - 1) - 1) (-1)) j))) := f_37
      have f_39 : g_36 0 = .inr (13, Rob ad x2_25) := (fr_38 0 (by omega)).trans hob4
      have hQ5 : MKQ ad cA g_36 x x2_25 pf qf L K4 _ pt2_26 pf2_27 qf2_28 := hQ4.setx (fun (k : Nat) (hk : (1 ≤ k ∧ k ≤ 3) ∨ (5 ≤ k ∧ k ≤ 10)) => (fr_38 k (by omega)).trans (rfl)) f_39 (fun j _ _ _ => rfl)
      have hE0 : exs (ftS oo) (0, stk, L) = psh s9 K4 := by rw [ho3, ht7, hs9, ft_43, eK4]
      have hE := hE0.trans (psh_neg j1)
      refine W.widen (k := 0) (n := 0) (by omega) (by omega) ?_
      exact W.vret hx hb hr (fun t9 ht9 hW9 => ⟨⟨(g_36, x2_25, pt2_26, pf2_27, qf2_28, va_up f14 ((stk.length - 1) - 1) (-1)), rfl, ⟨(fun (k : Nat) (hk : k ≠ 0 ∧ k ≠ 1 ∧ k ≠ 2 ∧ k ≠ 3 ∧ k ≠ 5 ∧ k ≠ 6 ∧ k ≠ 7 ∧ k ≠ 8 ∧ k ≠ 9 ∧ k ≠ 10 ∧ k ≠ 14) => (fr_38 k (by omega)).trans ((fr_29 k (by omega)).trans ((fr_15 k (by omega)).trans ((fr_10 k (by omega)).trans (rfl))))), by rw [hE]; exact MKQ.sbad hQ5 j1 f_37, ((hx4 6 (by decide) (by decide)).trans ((va_up_ne _ _ (by decide)).trans (va_up_self _ _ _))).trans (congrArg nI (by rw [hfo]; omega)), (hx4 7 (by decide) (by decide)).trans ((va_up_ne _ _ (by decide)).trans (va_up_ne _ _ (by decide)))⟩, by show va_P (dC, dI) vwCl _ t9.heap; rw [ht9]; exact hP⟩, hS.F ht9⟩) hS.2.2 dX10_finishTerm_97
  · have c_3 := mt (nI_eq (a := (oo.headD 0)) (b := 43) (by omega) (by decide)).mpr c_3
    refine lv_aload_n hx hb dX10_finishTerm_9 rfl (lv_at hl 0 rfl) ?_
    refine va_calli (va_runV (As := []) (rest := []) ⟨hx, hb, hml, hown, hts⟩ (c_X10_top l dC dI A ad cA g x f15 oo hob0 h15 hs15 hv6 hol) (cwV 0 hts (goodIn_app (goodIn_r [Cond.methodLink RX10 221 yX10_top, Cond.instanceMethod yX10_top, Cond.selects RX10 yX10_top yX10_top, Cond.initialized RX10] [1, 2, 3, 4] rfl rfl) (goodIn_sub (fun w9 h9 => bk0 w9 h9) gw_X10_top)) rfl rfl rfl (by decide +kernel) ⟨Nat.le_of_ble_eq_true rfl, Nat.le_of_ble_eq_true rfl⟩) ⟨fun a U g mk q => ⟨q.1, q.2.1, q.2.2.1, LY.moved (u := U) (U := U.calling g mk a) (Vm.Alike.refl U.vm) q.2.2.2⟩, va_recv hK hP (ci := 13) (q0 := 0) rfl (wo_at (by decide) hob0), fun U hU hW => ⟨rfl, by rw [hU]; exact fun q h => hA q (Nat.le_trans hS.1 h), by rw [hU]; exact hP, LY.moved hW.alike hL⟩⟩ rfl rfl hl.1 rfl (lv_room (Nat.le_of_ble_eq_true rfl)) dX10_finishTerm_10 ⟨(Nat.le_of_ble_eq_true rfl), (Nat.le_of_ble_eq_true rfl)⟩) hS (fun q _ h => h) (fun q h => h) (fun r_40 u8 t8 H1 locs ht8 hvm8 hw_41 hB hz1 hk1 hS => ?_)
    obtain ⟨⟩ := u8
    try dsimp only at hw_41 hB
    rw [ht8] at hB
    have hP := hB
    generalize H1 = H at hP hS ⊢
    obtain rfl := hw_41
    refine lv_bipush (v := nI 45) hx hb dX10_finishTerm_13 (by decide +kernel) ?_
    refine lv_icmp_eq (tgt := 19) hx hb dX10_finishTerm_15 (by decide) (fun c_42 => ?_) (fun c_42 => ?_)
    · have c_42 := (nI_eq (a := (oo.headD 0)) (b := 45) (by omega) (by decide)).mp c_42
      obtain ⟨o3, ho3⟩ := hd_cons (q := oo) (v := 45) (by omega) (by decide)
      have hl3 : oo.length = o3.length + 1 := by rw [ho3]; rfl
      have hb3 : bcl oo = 1 + bcl o3 := by rw [ho3]; rfl
      obtain ⟨y9, t7, ht7⟩ := len_cons (q := stk) (by omega)
      have hl8 : stk.length = t7.length + 1 := by rw [ht7]; rfl
      obtain ⟨v9, s9, hs9⟩ := len_cons (q := t7) (by omega)
      have hl9 : t7.length = s9.length + 1 := by rw [hs9]; rfl
      have ht8 : STK f14 t7 := by rw [ht7] at hs14; exact hs14.2
      have hst9 : STK f14 s9 := by rw [hs9] at ht8; exact ht8.2
      have hy9 : f14 (stk.length - 1) = ((y9 : Nat) : Int) := by rw [stk_top hs14 (by omega), ht7]; rfl
      have hv9 : f14 (stk.length - 1 - 1) = ((v9 : Nat) : Int) := by rw [show stk.length - 1 - 1 = t7.length - 1 by omega, stk_top ht8 (by omega), hs9]; rfl
      have hm8 : y9 < L.length := hst y9 (by rw [ht7]; exact List.mem_cons_self)
      have hm9 : v9 < L.length := hst v9 (by rw [ht7, hs9]; exact List.mem_cons_of_mem _ List.mem_cons_self)
      have hfo : fto oo = o3 := by rw [ho3]; rfl
      have hh3 : oo.headD 0 = 45 := by rw [ho3]; rfl
      refine lv_aload_n hx hb dX10_finishTerm_19 rfl (lv_at hl 0 rfl) ?_
      refine va_calli (va_runV (As := []) (rest := []) ⟨hx, hb, hml, hown, hts⟩ (c_X10_top l dC dI A ad cA g x f15 oo hob0 h15 hs15 hv6 hol) (cwV 0 hts (goodIn_app (goodIn_r [Cond.methodLink RX10 221 yX10_top, Cond.instanceMethod yX10_top, Cond.selects RX10 yX10_top yX10_top, Cond.initialized RX10] [1, 2, 3, 4] rfl rfl) (goodIn_sub (fun w9 h9 => bk0 w9 h9) gw_X10_top)) rfl rfl rfl (by decide +kernel) ⟨Nat.le_of_ble_eq_true rfl, Nat.le_of_ble_eq_true rfl⟩) ⟨fun a U g mk q => ⟨q.1, q.2.1, q.2.2.1, LY.moved (u := U) (U := U.calling g mk a) (Vm.Alike.refl U.vm) q.2.2.2⟩, va_recv hK hP (ci := 13) (q0 := 0) rfl (wo_at (by decide) hob0), fun U hU hW => ⟨rfl, by rw [hU]; exact fun q h => hA q (Nat.le_trans hS.1 h), by rw [hU]; exact hP, LY.moved hW.alike hL⟩⟩ rfl rfl hl.1 rfl (lv_room (Nat.le_of_ble_eq_true rfl)) dX10_finishTerm_20 ⟨(Nat.le_of_ble_eq_true rfl), (Nat.le_of_ble_eq_true rfl)⟩) hS (fun q _ h => h) (fun q h => h) (fun r_43 u8 t8 H1 locs ht8 hvm8 hw_44 hB hz1 hk1 hS => ?_)
      obtain ⟨⟩ := u8
      try dsimp only at hw_44 hB
      rw [ht8] at hB
      have hP := hB
      generalize H1 = H at hP hS ⊢
      obtain rfl := hw_44
      refine lv_istore_n (lv' := [(1, .int (nI (oo.headD 0))), (0, .ref (ad 0))]) hx hb dX10_finishTerm_23 rfl hl (by decide) rfl (fun ls hl => ?_)
      refine lv_aload_n hx hb dX10_finishTerm_24 rfl (lv_at hl 1 rfl) ?_
      refine lv_dup hx hb dX10_finishTerm_25 rfl ?_
      refine m_get (D := (dC, dI)) (v := .int (nI oo.length)) (C := RX10) (T := TX10) (N := 29) hx hb hts bk1 hown hK hP 0 (by decide) hob0 rfl 21 (by decide) (hts (.fieldLink RX10 210 "GradientDeskModel" "operatorCount" "I") (List.mem_of_getElem? (i := 5) rfl)) (fun _ h9 => h9) (congrArg (fun z => some (Value.int z)) hv6) dX10_finishTerm_26 ?_
      refine lv_iconst (v := nI 1) hx hb dX10_finishTerm_29 (by decide +kernel) ?_
      refine lv_isub hx hb dX10_finishTerm_30 ?_
      refine lv_topi (fun x_45 e_46 => ?_)
      obtain rfl : x_45 = nI (oo.length - 1) := e_46.trans (pk_sub (show 1 ≤ oo.length by omega))
      refine m_put (D := (dC, dI)) (v := .int (nI (oo.length - 1))) (tv := .int) (C := RX10) (T := TX10) (N := 29) hx hb hts bk1 tyX10 tyX10_ok nmX10 hown hK hP hD hS 0 (by decide) hob0 rfl 21 (by decide) (hts (.fieldLink RX10 210 "GradientDeskModel" "operatorCount" "I") (List.mem_of_getElem? (i := 5) rfl)) (fun _ h9 => h9) rfl (by decide +kernel) rfl rfl (Nat.le_of_ble_eq_true rfl) dX10_finishTerm_31 (fun H locs g_47 f_48 fr_49 hP hS => ?_)
      have f_48 : g_47 0 = .inr (13, Rob ad (va_up x 6 (nI (oo.length - 1)))) := f_48
      refine lv_aload_n hx hb dX10_finishTerm_34 rfl (lv_at hl 1 rfl) ?_
      refine lv_dup hx hb dX10_finishTerm_35 rfl ?_
      refine m_get (D := (dC, dI)) (v := .int (nI stk.length)) (C := RX10) (T := TX10) (N := 29) hx hb hts bk1 hown hK hP 0 (by decide) f_48 rfl 20 (by decide) (hts (.fieldLink RX10 227 "GradientDeskModel" "valueCount" "I") (List.mem_of_getElem? (i := 6) rfl)) (fun _ h9 => h9) (congrArg (fun z => some (Value.int z)) (show (va_up x 6 (nI (oo.length - 1))) 5 = (nI stk.length) from hv5)) dX10_finishTerm_36 ?_
      refine lv_iconst (v := nI 1) hx hb dX10_finishTerm_39 (by decide +kernel) ?_
      refine lv_isub hx hb dX10_finishTerm_40 ?_
      refine lv_topi (fun x_50 e_51 => ?_)
      obtain rfl : x_50 = nI (stk.length - 1) := e_51.trans (pk_sub (show 1 ≤ stk.length by omega))
      refine m_put (D := (dC, dI)) (v := .int (nI (stk.length - 1))) (tv := .int) (C := RX10) (T := TX10) (N := 29) hx hb hts bk1 tyX10 tyX10_ok nmX10 hown hK hP hD hS 0 (by decide) f_48 rfl 20 (by decide) (hts (.fieldLink RX10 227 "GradientDeskModel" "valueCount" "I") (List.mem_of_getElem? (i := 6) rfl)) (fun _ h9 => h9) rfl (by decide +kernel) rfl rfl (Nat.le_of_ble_eq_true rfl) dX10_finishTerm_41 (fun H locs g_52 f_53 fr_54 hP hS => ?_)
      have f_53 : g_52 0 = .inr (13, Rob ad (va_up (va_up x 6 (nI (oo.length - 1))) 5 (nI (stk.length - 1)))) := f_53
      refine lv_aload_n hx hb dX10_finishTerm_44 rfl (lv_at hl 1 rfl) ?_
      refine m_get (D := (dC, dI)) (v := .ref (ad 14)) (C := RX10) (T := TX10) (N := 29) hx hb hts bk1 hown hK hP 0 (by decide) f_53 rfl 18 (by decide) (hts (.fieldLink RX10 56 "GradientDeskModel" "values" "[I") (List.mem_of_getElem? (i := 7) rfl)) (fun _ h9 => h9) rfl dX10_finishTerm_45 ?_
      refine lv_aload_n hx hb dX10_finishTerm_48 rfl (lv_at hl 1 rfl) ?_
      refine m_get (D := (dC, dI)) (v := .int (nI (stk.length - 1))) (C := RX10) (T := TX10) (N := 29) hx hb hts bk1 hown hK hP 0 (by decide) f_53 rfl 20 (by decide) (hts (.fieldLink RX10 227 "GradientDeskModel" "valueCount" "I") (List.mem_of_getElem? (i := 6) rfl)) (fun _ h9 => h9) (congrArg (fun z => some (Value.int z)) (show (va_up (va_up x 6 (nI (oo.length - 1))) 5 (nI (stk.length - 1))) 5 = (nI (stk.length - 1)) from rfl)) dX10_finishTerm_49 ?_
      have f_55 : g_52 14 = .inl (cA 14, 80, .inl (fun j => iI (f14 j))) := (fr_54 14 (by omega)).trans ((fr_49 14 (by omega)).trans h14)
      refine m_iald hx hb hK hP 14 (by decide) rfl f_55 (i := stk.length - 1) (by omega) (by decide) dX10_finishTerm_52 ?_
      rw [hy9, ← nI_iI]
      refine lv_istore_n (lv' := [(2, .int (nI y9)), (1, .int (nI (oo.headD 0))), (0, .ref (ad 0))]) hx hb dX10_finishTerm_53 rfl hl (by decide) rfl (fun ls hl => ?_)
      refine lv_iload_n hx hb dX10_finishTerm_54 rfl (lv_at hl 1 rfl) ?_
      refine lv_bipush (v := nI 45) hx hb dX10_finishTerm_55 (by decide +kernel) ?_
      refine lv_icmp_ne (tgt := 68) hx hb dX10_finishTerm_57 (by decide) (fun c_56 => absurd (mt (nI_eq (a := (oo.headD 0)) (b := 45) (by omega) (by decide)).mpr c_56) (by omega)) (fun c_56 => ?_)
      refine lv_aload_n hx hb dX10_finishTerm_60 rfl (lv_at hl 2 rfl) ?_
      refine lv_iload_n hx hb dX10_finishTerm_61 rfl (lv_at hl 0 rfl) ?_
      refine va_calli (va_runV (As := [.int (nI y9)]) (rest := []) ⟨hx, hb, hml, hown, hts⟩ (c_X10_negative l dC dI A ad cA g_52 (va_up (va_up x 6 (nI (oo.length - 1))) 5 (nI (stk.length - 1))) pf qf pt L (nI y9) y9 0 (hF.setx (fun (k : Nat) (hk : k = 1 ∨ k = 2 ∨ k = 3) => (fr_54 k (by omega)).trans ((fr_49 k (by omega)).trans (rfl))) f_53 rfl) (hPt.same (fun (k : Nat) (hk : 5 ≤ k ∧ k ≤ 10) => (fr_54 k (by omega)).trans ((fr_49 k (by omega)).trans (rfl)))) hM ((va_up_ne _ _ (by decide)).trans ((va_up_ne _ _ (by decide)).trans hmd)) hL2 ((va_up_ne _ _ (by decide)).trans ((va_up_ne _ _ (by decide)).trans hft)) (Or.inl rfl) hW (Or.inr ⟨rfl, hm8⟩)) (cwV 1 hts (goodIn_app (goodIn_r [Cond.methodLink RX10 224 yX10_negative, Cond.instanceMethod yX10_negative, Cond.selects RX10 yX10_negative yX10_negative, Cond.initialized RX10] [11, 12, 13, 4] rfl rfl) (goodIn_sub (fun w9 h9 => bk3 w9 h9) gw_X10_negative)) rfl rfl rfl (by decide +kernel) ⟨Nat.le_of_ble_eq_true rfl, Nat.le_of_ble_eq_true rfl⟩) ⟨fun a U g mk q => ⟨q.1, q.2.1, q.2.2.1, LY.moved (u := U) (U := U.calling g mk a) (Vm.Alike.refl U.vm) q.2.2.2⟩, va_recv hK hP (ci := 13) (q0 := 0) rfl (wo_at (by decide) f_53), fun U hU hW => ⟨rfl, by rw [hU]; exact fun q h => hA q (Nat.le_trans hS.1 h), by rw [hU]; exact hP, LY.moved hW.alike hL⟩⟩ rfl rfl hl.1 rfl (lv_room (Nat.le_of_ble_eq_true rfl)) dX10_finishTerm_62 ⟨(Nat.le_of_ble_eq_true rfl), (Nat.le_of_ble_eq_true rfl)⟩) hS (fun q _ h => h) (fun q h => h) (fun r_57 u8 t8 H1 locs ht8 hvm8 hw_58 hB hz1 hk1 hS => ?_)
      obtain ⟨g_59, x2_60, pt2_61, pf2_62, qf2_63⟩ := u8
      try dsimp only at hw_58 hB
      rw [ht8] at hB
      have hP := hB
      generalize H1 = H at hP hS ⊢
      obtain ⟨fr_64, hK3⟩ := hw_58
      rw [onF_0] at hK3
      have hx3 := hK3.2.2.2.2.2.1
      have hQ3 : MKQ ad cA g_59 x x2_60 pf qf L (negL L y9) r_57 pt2_61 pf2_62 qf2_63 := hK3.q (negL_wf hW hm8) (negL_le _ _) (fun j hj => (va_up_ne _ _ (by omega)).trans (va_up_ne _ _ (by omega))) (fun _ _ _ => ⟨rfl, rfl⟩)
      have hob3 := hK3.1.obj
      obtain ⟨qF, qP, qM, qW, qE, qL, q3, qx, qo, q4, hQR⟩ := hQ3
      have hqe := qE.1
      rcases hQR with ⟨k1, k2, k3⟩ | ⟨k1, k2, k3⟩
      · skip
        obtain ⟨i9, hi9⟩ : ∃ z9 : Nat, (negL L y9).1 = (z9 : Int) := ⟨(negL L y9).1.toNat, by omega⟩
        rw [hi9, ← nI_iI] at k3
        rw [k3]
        refine lv_goto (tgt := 69) hx hb dX10_finishTerm_65 (by decide) ?_
        refine lv_istore_n (lv' := [(2, .int (nI i9)), (1, .int (nI (oo.headD 0))), (0, .ref (ad 0))]) hx hb dX10_finishTerm_69 rfl hl (by decide) rfl (fun ls hl => ?_)
        refine lv_aload_n hx hb dX10_finishTerm_70 rfl (lv_at hl 2 rfl) ?_
        refine m_get (D := (dC, dI)) (v := .ref (ad 14)) (C := RX10) (T := TX10) (N := 29) hx hb hts bk1 hown hK hP 0 (by decide) hob3 rfl 18 (by decide) (hts (.fieldLink RX10 56 "GradientDeskModel" "values" "[I") (List.mem_of_getElem? (i := 7) rfl)) (fun _ h9 => h9) rfl dX10_finishTerm_71 ?_
        refine lv_aload_n hx hb dX10_finishTerm_74 rfl (lv_at hl 2 rfl) ?_
        refine m_get (D := (dC, dI)) (v := .int (nI (stk.length - 1))) (C := RX10) (T := TX10) (N := 29) hx hb hts bk1 hown hK hP 0 (by decide) hob3 rfl 20 (by decide) (hts (.fieldLink RX10 227 "GradientDeskModel" "valueCount" "I") (List.mem_of_getElem? (i := 6) rfl)) (fun _ h9 => h9) (congrArg (fun z => some (Value.int z)) ((hx3 5 (by decide) (by decide)).trans (va_up_self _ _ _))) dX10_finishTerm_75 ?_
        refine lv_iconst (v := nI 1) hx hb dX10_finishTerm_78 (by decide +kernel) ?_
        refine lv_isub hx hb dX10_finishTerm_79 ?_
        refine lv_topi (fun x_65 e_66 => ?_)
        obtain rfl : x_65 = nI ((stk.length - 1) - 1) := e_66.trans (pk_sub (show 1 ≤ stk.length - 1 by omega))
        refine lv_aload_n hx hb dX10_finishTerm_80 rfl (lv_at hl 2 rfl) ?_
        refine lv_aload_n hx hb dX10_finishTerm_81 rfl (lv_at hl 2 rfl) ?_
        refine m_get (D := (dC, dI)) (v := .ref (ad 14)) (C := RX10) (T := TX10) (N := 29) hx hb hts bk1 hown hK hP 0 (by decide) hob3 rfl 18 (by decide) (hts (.fieldLink RX10 56 "GradientDeskModel" "values" "[I") (List.mem_of_getElem? (i := 7) rfl)) (fun _ h9 => h9) rfl dX10_finishTerm_82 ?_
        refine lv_aload_n hx hb dX10_finishTerm_85 rfl (lv_at hl 2 rfl) ?_
        refine m_get (D := (dC, dI)) (v := .int (nI (stk.length - 1))) (C := RX10) (T := TX10) (N := 29) hx hb hts bk1 hown hK hP 0 (by decide) hob3 rfl 20 (by decide) (hts (.fieldLink RX10 227 "GradientDeskModel" "valueCount" "I") (List.mem_of_getElem? (i := 6) rfl)) (fun _ h9 => h9) (congrArg (fun z => some (Value.int z)) ((hx3 5 (by decide) (by decide)).trans (va_up_self _ _ _))) dX10_finishTerm_86 ?_
        refine lv_iconst (v := nI 1) hx hb dX10_finishTerm_89 (by decide +kernel) ?_
        refine lv_isub hx hb dX10_finishTerm_90 ?_
        refine lv_topi (fun x_67 e_68 => ?_)
        obtain rfl : x_67 = nI ((stk.length - 1) - 1) := e_68.trans (pk_sub (show 1 ≤ stk.length - 1 by omega))
        have f_69 : g_59 14 = .inl (cA 14, 80, .inl (fun j => iI (f14 j))) := (fr_64 14 (by omega)).trans f_55
        refine m_iald hx hb hK hP 14 (by decide) rfl f_69 (i := (stk.length - 1) - 1) (by omega) (by decide) dX10_finishTerm_91 ?_
        rw [hv9, ← nI_iI]
        refine lv_iload_n hx hb dX10_finishTerm_92 rfl (lv_at hl 0 rfl) ?_
        refine va_calli (va_runV (As := [.int (nI v9), .int (nI i9)]) (rest := [.int (nI ((stk.length - 1) - 1)), .ref (ad 14)]) ⟨hx, hb, hml, hown, hts⟩ (c_X10_makeSum l dC dI A ad cA g_59 x2_60 pf2_62 qf2_63 pt2_61 ((negL L y9).2) v9 i9 0 qF qP qM q3 qL (q4.trans (congrArg iI (flt_pos k1))) (Or.inl rfl) qW (by omega) (by omega)) (cwV 2 hts (goodIn_app (goodIn_r [Cond.methodLink RX10 230 yX10_makeSum, Cond.instanceMethod yX10_makeSum, Cond.selects RX10 yX10_makeSum yX10_makeSum, Cond.initialized RX10] [8, 9, 10, 4] rfl rfl) (goodIn_sub (fun w9 h9 => bk2 w9 h9) gw_X10_makeSum)) rfl rfl rfl (by decide +kernel) ⟨Nat.le_of_ble_eq_true rfl, Nat.le_of_ble_eq_true rfl⟩) ⟨fun a U g mk q => ⟨q.1, q.2.1, q.2.2.1, LY.moved (u := U) (U := U.calling g mk a) (Vm.Alike.refl U.vm) q.2.2.2⟩, va_recv hK hP (ci := 13) (q0 := 0) rfl (wo_at (by decide) hob3), fun U hU hW => ⟨rfl, by rw [hU]; exact fun q h => hA q (Nat.le_trans hS.1 h), by rw [hU]; exact hP, LY.moved hW.alike hL⟩⟩ rfl rfl hl.1 rfl (lv_room (Nat.le_of_ble_eq_true rfl)) dX10_finishTerm_93 ⟨(Nat.le_of_ble_eq_true rfl), (Nat.le_of_ble_eq_true rfl)⟩) hS (fun q _ h => h) (fun q h => h) (fun r_70 u8 t8 H1 locs ht8 hvm8 hw_71 hB hz1 hk1 hS => ?_)
        obtain ⟨g_72, x2_73, pt2_74, pf2_75, qf2_76⟩ := u8
        try dsimp only at hw_71 hB
        rw [ht8] at hB
        have hP := hB
        generalize H1 = H at hP hS ⊢
        obtain ⟨fr_77, hK4⟩ := hw_71
        rw [onF_0] at hK4
        obtain ⟨K4, eK4⟩ : ∃ z9, z9 = (sumL (negL L y9).2 v9 i9 : Int × List PD) := ⟨_, rfl⟩
        rw [← eK4] at hK4
        have hx4 := hK4.2.2.2.2.2.1
        have hQ4 : MKQ ad cA g_72 x x2_73 pf qf L K4 r_70 pt2_74 pf2_75 qf2_76 := hK4.q (by rw [eK4]; exact sumL_wf qW (by omega) (by omega)) (by rw [eK4]; exact LE.tr qE (sumL_le _ _ _)) qx qo
        have hqe4 : L.length ≤ K4.2.length := hQ4.2.2.2.2.1.1
        have hob4 := hK4.1.obj
        have hR4 := hK4.2.2.2.2.2.2.2
        rcases hR4 with ⟨j1, j2, j3, -⟩ | ⟨j1, j2, j3, -⟩
        · skip
          obtain ⟨i4, hi4⟩ : ∃ z9 : Nat, K4.1 = (z9 : Int) := ⟨K4.1.toNat, by omega⟩
          rw [hi4, ← nI_iI] at j3
          rw [j3]
          have f_78 : g_72 14 = .inl (cA 14, 80, .inl (fun j => iI (f14 j))) := (fr_77 14 (by omega)).trans f_69
          refine m_iast hx hb hK hP hD hS 14 (by decide) rfl f_78 (i := (stk.length - 1) - 1) (x := nI i4) (by omega) (by decide) dX10_finishTerm_96 (fun H locs g_79 f_80 fr_81 hP hS => ?_)
          rw [(nI_iI i4), k_updZ] at f_80
          have f_80 : g_79 14 = .inl (cA 14, 80, .inl (fun j => iI ((va_up f14 ((stk.length - 1) - 1) ((i4 : Nat) : Int)) j))) := f_80
          have f_82 : g_79 0 = .inr (13, Rob ad x2_73) := (fr_81 0 (by omega)).trans hob4
          have hQ5 : MKQ ad cA g_79 x x2_73 pf qf L K4 _ pt2_74 pf2_75 qf2_76 := hQ4.setx (fun (k : Nat) (hk : (1 ≤ k ∧ k ≤ 3) ∨ (5 ≤ k ∧ k ≤ 10)) => (fr_81 k (by omega)).trans (rfl)) f_82 (fun j _ _ _ => rfl)
          have hE0 : exs (ftS oo) (0, stk, L) = psh s9 K4 := by rw [ho3, ht7, hs9, ft_45 hi9, eK4]
          have hE := hE0.trans (psh_pos hi4)
          refine W.widen (k := 0) (n := 0) (by omega) (by omega) ?_
          exact W.vret hx hb hr (fun t9 ht9 hW9 => ⟨⟨(g_79, x2_73, pt2_74, pf2_75, qf2_76, va_up f14 ((stk.length - 1) - 1) ((i4 : Nat) : Int)), rfl, ⟨(fun (k : Nat) (hk : k ≠ 0 ∧ k ≠ 1 ∧ k ≠ 2 ∧ k ≠ 3 ∧ k ≠ 5 ∧ k ≠ 6 ∧ k ≠ 7 ∧ k ≠ 8 ∧ k ≠ 9 ∧ k ≠ 10 ∧ k ≠ 14) => (fr_81 k (by omega)).trans ((fr_77 k (by omega)).trans ((fr_64 k (by omega)).trans ((fr_54 k (by omega)).trans ((fr_49 k (by omega)).trans (rfl)))))), by rw [hE]; exact MKQ.sok hQ5 hi4 f_80 (STK.push hst9 (by omega) rfl) ((hx4 5 (by decide) (by decide)).trans (((hx3 5 (by decide) (by decide)).trans (va_up_self _ _ _)))) (by omega) (fun j hj => Nat.lt_of_lt_of_le (hst j (by rw [ht7, hs9]; exact List.mem_cons_of_mem _ (List.mem_cons_of_mem _ hj))) hqe4), ((hx4 6 (by decide) (by decide)).trans (((hx3 6 (by decide) (by decide)).trans ((va_up_ne _ _ (by decide)).trans (va_up_self _ _ _))))).trans (congrArg nI (by rw [hfo]; omega)), (hx4 7 (by decide) (by decide)).trans ((hx3 7 (by decide) (by decide)).trans ((va_up_ne _ _ (by decide)).trans (va_up_ne _ _ (by decide))))⟩, by show va_P (dC, dI) vwCl _ t9.heap; rw [ht9]; exact hP⟩, hS.F ht9⟩) hS.2.2 dX10_finishTerm_97
        · skip
          rw [j3]
          have f_83 : g_72 14 = .inl (cA 14, 80, .inl (fun j => iI (f14 j))) := (fr_77 14 (by omega)).trans f_69
          refine m_iast hx hb hK hP hD hS 14 (by decide) rfl f_83 (i := (stk.length - 1) - 1) (x := -1) (by omega) (by decide) dX10_finishTerm_96 (fun H locs g_84 f_85 fr_86 hP hS => ?_)
          rw [(show (-1 : Int32) = iI (-1) from by decide), k_updZ] at f_85
          have f_85 : g_84 14 = .inl (cA 14, 80, .inl (fun j => iI ((va_up f14 ((stk.length - 1) - 1) (-1)) j))) := f_85
          have f_87 : g_84 0 = .inr (13, Rob ad x2_73) := (fr_86 0 (by omega)).trans hob4
          have hQ5 : MKQ ad cA g_84 x x2_73 pf qf L K4 _ pt2_74 pf2_75 qf2_76 := hQ4.setx (fun (k : Nat) (hk : (1 ≤ k ∧ k ≤ 3) ∨ (5 ≤ k ∧ k ≤ 10)) => (fr_86 k (by omega)).trans (rfl)) f_87 (fun j _ _ _ => rfl)
          have hE0 : exs (ftS oo) (0, stk, L) = psh s9 K4 := by rw [ho3, ht7, hs9, ft_45 hi9, eK4]
          have hE := hE0.trans (psh_neg j1)
          refine W.widen (k := 0) (n := 0) (by omega) (by omega) ?_
          exact W.vret hx hb hr (fun t9 ht9 hW9 => ⟨⟨(g_84, x2_73, pt2_74, pf2_75, qf2_76, va_up f14 ((stk.length - 1) - 1) (-1)), rfl, ⟨(fun (k : Nat) (hk : k ≠ 0 ∧ k ≠ 1 ∧ k ≠ 2 ∧ k ≠ 3 ∧ k ≠ 5 ∧ k ≠ 6 ∧ k ≠ 7 ∧ k ≠ 8 ∧ k ≠ 9 ∧ k ≠ 10 ∧ k ≠ 14) => (fr_86 k (by omega)).trans ((fr_77 k (by omega)).trans ((fr_64 k (by omega)).trans ((fr_54 k (by omega)).trans ((fr_49 k (by omega)).trans (rfl)))))), by rw [hE]; exact MKQ.sbad hQ5 j1 f_85, ((hx4 6 (by decide) (by decide)).trans (((hx3 6 (by decide) (by decide)).trans ((va_up_ne _ _ (by decide)).trans (va_up_self _ _ _))))).trans (congrArg nI (by rw [hfo]; omega)), (hx4 7 (by decide) (by decide)).trans ((hx3 7 (by decide) (by decide)).trans ((va_up_ne _ _ (by decide)).trans (va_up_ne _ _ (by decide))))⟩, by show va_P (dC, dI) vwCl _ t9.heap; rw [ht9]; exact hP⟩, hS.F ht9⟩) hS.2.2 dX10_finishTerm_97
      · skip
        rw [k3]
        refine lv_goto (tgt := 69) hx hb dX10_finishTerm_65 (by decide) ?_
        refine lv_istore_n (lv' := [(2, .int (-1)), (1, .int (nI (oo.headD 0))), (0, .ref (ad 0))]) hx hb dX10_finishTerm_69 rfl hl (by decide) rfl (fun ls hl => ?_)
        refine lv_aload_n hx hb dX10_finishTerm_70 rfl (lv_at hl 2 rfl) ?_
        refine m_get (D := (dC, dI)) (v := .ref (ad 14)) (C := RX10) (T := TX10) (N := 29) hx hb hts bk1 hown hK hP 0 (by decide) hob3 rfl 18 (by decide) (hts (.fieldLink RX10 56 "GradientDeskModel" "values" "[I") (List.mem_of_getElem? (i := 7) rfl)) (fun _ h9 => h9) rfl dX10_finishTerm_71 ?_
        refine lv_aload_n hx hb dX10_finishTerm_74 rfl (lv_at hl 2 rfl) ?_
        refine m_get (D := (dC, dI)) (v := .int (nI (stk.length - 1))) (C := RX10) (T := TX10) (N := 29) hx hb hts bk1 hown hK hP 0 (by decide) hob3 rfl 20 (by decide) (hts (.fieldLink RX10 227 "GradientDeskModel" "valueCount" "I") (List.mem_of_getElem? (i := 6) rfl)) (fun _ h9 => h9) (congrArg (fun z => some (Value.int z)) ((hx3 5 (by decide) (by decide)).trans (va_up_self _ _ _))) dX10_finishTerm_75 ?_
        refine lv_iconst (v := nI 1) hx hb dX10_finishTerm_78 (by decide +kernel) ?_
        refine lv_isub hx hb dX10_finishTerm_79 ?_
        refine lv_topi (fun x_88 e_89 => ?_)
        obtain rfl : x_88 = nI ((stk.length - 1) - 1) := e_89.trans (pk_sub (show 1 ≤ stk.length - 1 by omega))
        refine lv_aload_n hx hb dX10_finishTerm_80 rfl (lv_at hl 2 rfl) ?_
        refine lv_aload_n hx hb dX10_finishTerm_81 rfl (lv_at hl 2 rfl) ?_
        refine m_get (D := (dC, dI)) (v := .ref (ad 14)) (C := RX10) (T := TX10) (N := 29) hx hb hts bk1 hown hK hP 0 (by decide) hob3 rfl 18 (by decide) (hts (.fieldLink RX10 56 "GradientDeskModel" "values" "[I") (List.mem_of_getElem? (i := 7) rfl)) (fun _ h9 => h9) rfl dX10_finishTerm_82 ?_
        refine lv_aload_n hx hb dX10_finishTerm_85 rfl (lv_at hl 2 rfl) ?_
        refine m_get (D := (dC, dI)) (v := .int (nI (stk.length - 1))) (C := RX10) (T := TX10) (N := 29) hx hb hts bk1 hown hK hP 0 (by decide) hob3 rfl 20 (by decide) (hts (.fieldLink RX10 227 "GradientDeskModel" "valueCount" "I") (List.mem_of_getElem? (i := 6) rfl)) (fun _ h9 => h9) (congrArg (fun z => some (Value.int z)) ((hx3 5 (by decide) (by decide)).trans (va_up_self _ _ _))) dX10_finishTerm_86 ?_
        refine lv_iconst (v := nI 1) hx hb dX10_finishTerm_89 (by decide +kernel) ?_
        refine lv_isub hx hb dX10_finishTerm_90 ?_
        refine lv_topi (fun x_90 e_91 => ?_)
        obtain rfl : x_90 = nI ((stk.length - 1) - 1) := e_91.trans (pk_sub (show 1 ≤ stk.length - 1 by omega))
        have f_92 : g_59 14 = .inl (cA 14, 80, .inl (fun j => iI (f14 j))) := (fr_64 14 (by omega)).trans f_55
        refine m_iald hx hb hK hP 14 (by decide) rfl f_92 (i := (stk.length - 1) - 1) (by omega) (by decide) dX10_finishTerm_91 ?_
        rw [hv9, ← nI_iI]
        refine lv_iload_n hx hb dX10_finishTerm_92 rfl (lv_at hl 0 rfl) ?_
        refine va_calli (va_runV (As := [.int (nI v9), .int (-1)]) (rest := [.int (nI ((stk.length - 1) - 1)), .ref (ad 14)]) ⟨hx, hb, hml, hown, hts⟩ (c_X10_makeSumF l dC dI A ad cA g_59 x2_60 pf2_62 qf2_63 pt2_61 ((negL L y9).2) (nI v9) (-1) ((negL L y9).1) qF qP qM q3 qL (q4.trans (congrArg iI (flt_neg k1))) (Or.inr ⟨k1, k2⟩) k1) (cwV 2 hts (goodIn_app (goodIn_r [Cond.methodLink RX10 230 yX10_makeSum, Cond.instanceMethod yX10_makeSum, Cond.selects RX10 yX10_makeSum yX10_makeSum, Cond.initialized RX10] [8, 9, 10, 4] rfl rfl) (goodIn_sub (fun w9 h9 => bk4 w9 h9) gw_X10_makeSumF)) rfl rfl rfl (by decide +kernel) ⟨Nat.le_of_ble_eq_true rfl, Nat.le_of_ble_eq_true rfl⟩) ⟨fun a U g mk q => ⟨q.1, q.2.1, q.2.2.1, LY.moved (u := U) (U := U.calling g mk a) (Vm.Alike.refl U.vm) q.2.2.2⟩, va_recv hK hP (ci := 13) (q0 := 0) rfl (wo_at (by decide) hob3), fun U hU hW => ⟨rfl, by rw [hU]; exact fun q h => hA q (Nat.le_trans hS.1 h), by rw [hU]; exact hP, LY.moved hW.alike hL⟩⟩ rfl rfl hl.1 rfl (lv_room (Nat.le_of_ble_eq_true rfl)) dX10_finishTerm_93 ⟨(Nat.le_of_ble_eq_true rfl), (Nat.le_of_ble_eq_true rfl)⟩) hS (fun q _ h => h) (fun q h => h) (fun r_93 u8 t8 H1 locs ht8 hvm8 hw_94 hB hz1 hk1 hS => ?_)
        obtain ⟨g_95, x2_96, pt2_97, pf2_98, qf2_99⟩ := u8
        try dsimp only at hw_94 hB
        rw [ht8] at hB
        have hP := hB
        generalize H1 = H at hP hS ⊢
        obtain ⟨fr_100, hK4⟩ := hw_94
        obtain ⟨K4, eK4⟩ : ∃ z9, z9 = (((negL L y9).1, (negL L y9).2) : Int × List PD) := ⟨_, rfl⟩
        rw [← eK4] at hK4
        have hx4 := hK4.2.2.2.2.2.1
        have hQ4 : MKQ ad cA g_95 x x2_96 pf qf L K4 r_93 pt2_97 pf2_98 qf2_99 := hK4.q (by rw [eK4]; exact qW) (by rw [eK4]; exact qE) qx qo
        have hqe4 : L.length ≤ K4.2.length := hQ4.2.2.2.2.1.1
        have hob4 := hK4.1.obj
        have hR4 := hK4.2.2.2.2.2.2.2
        obtain ⟨j1, j2, j3, -⟩ := hR4.resolve_left (fun h9 => absurd h9.1 (by rw [eK4]; show ¬ 0 ≤ (negL L y9).1; omega))
        rw [j3]
        have f_101 : g_95 14 = .inl (cA 14, 80, .inl (fun j => iI (f14 j))) := (fr_100 14 (by omega)).trans f_92
        refine m_iast hx hb hK hP hD hS 14 (by decide) rfl f_101 (i := (stk.length - 1) - 1) (x := -1) (by omega) (by decide) dX10_finishTerm_96 (fun H locs g_102 f_103 fr_104 hP hS => ?_)
        rw [(show (-1 : Int32) = iI (-1) from by decide), k_updZ] at f_103
        have f_103 : g_102 14 = .inl (cA 14, 80, .inl (fun j => iI ((va_up f14 ((stk.length - 1) - 1) (-1)) j))) := f_103
        have f_105 : g_102 0 = .inr (13, Rob ad x2_96) := (fr_104 0 (by omega)).trans hob4
        have hQ5 : MKQ ad cA g_102 x x2_96 pf qf L K4 _ pt2_97 pf2_98 qf2_99 := hQ4.setx (fun (k : Nat) (hk : (1 ≤ k ∧ k ≤ 3) ∨ (5 ≤ k ∧ k ≤ 10)) => (fr_104 k (by omega)).trans (rfl)) f_105 (fun j _ _ _ => rfl)
        have hE : exs (ftS oo) (0, stk, L) = (K4.1, v9 :: s9, K4.2) := by rw [ho3, ht7, hs9, ft_45n k1, eK4]
        refine W.widen (k := 0) (n := 0) (by omega) (by omega) ?_
        exact W.vret hx hb hr (fun t9 ht9 hW9 => ⟨⟨(g_102, x2_96, pt2_97, pf2_98, qf2_99, va_up f14 ((stk.length - 1) - 1) (-1)), rfl, ⟨(fun (k : Nat) (hk : k ≠ 0 ∧ k ≠ 1 ∧ k ≠ 2 ∧ k ≠ 3 ∧ k ≠ 5 ∧ k ≠ 6 ∧ k ≠ 7 ∧ k ≠ 8 ∧ k ≠ 9 ∧ k ≠ 10 ∧ k ≠ 14) => (fr_104 k (by omega)).trans ((fr_100 k (by omega)).trans ((fr_64 k (by omega)).trans ((fr_54 k (by omega)).trans ((fr_49 k (by omega)).trans (rfl)))))), by rw [hE]; exact MKQ.sbad hQ5 j1 f_103, ((hx4 6 (by decide) (by decide)).trans (((hx3 6 (by decide) (by decide)).trans ((va_up_ne _ _ (by decide)).trans (va_up_self _ _ _))))).trans (congrArg nI (by rw [hfo]; omega)), (hx4 7 (by decide) (by decide)).trans ((hx3 7 (by decide) (by decide)).trans ((va_up_ne _ _ (by decide)).trans (va_up_ne _ _ (by decide))))⟩, by show va_P (dC, dI) vwCl _ t9.heap; rw [ht9]; exact hP⟩, hS.F ht9⟩) hS.2.2 dX10_finishTerm_97
    · have c_42 := mt (nI_eq (a := (oo.headD 0)) (b := 45) (by omega) (by decide)).mpr c_42
      obtain ⟨e1, e2⟩ := ftS_no (q := oo) (by omega) (by omega)
      refine W.widen (k := 0) (n := 0) (by omega) (by omega) ?_
      exact W.vret hx hb hr (fun t9 ht9 hW9 => ⟨⟨(g, x, pt, pf, qf, f14), rfl, ⟨(fun (k : Nat) (hk : k ≠ 0 ∧ k ≠ 1 ∧ k ≠ 2 ∧ k ≠ 3 ∧ k ≠ 5 ∧ k ≠ 6 ∧ k ≠ 7 ∧ k ≠ 8 ∧ k ≠ 9 ∧ k ≠ 10 ∧ k ≠ 14) => rfl), by rw [e1]; exact hS8, by rw [e2]; exact hv6, rfl⟩, by show va_P (dC, dI) vwCl _ t9.heap; rw [ht9]; exact hP⟩, hS.F ht9⟩) hS.2.2 dX10_finishTerm_18
