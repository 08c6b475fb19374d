def wd_X10_assign : List Cond := .code yX10_assign cX10_assign 6 none :: (([.fieldLink RX10 8 "GradientDeskModel" "pieces" "[J", .constantLong RX10 81 (4294967295), .fieldLink RX10 14 "GradientDeskModel" "length" "[I", .fieldLink RX10 18 "GradientDeskModel" "below" "[Z", .methodLink RX10 83 yX10_trim, .instanceMethod yX10_trim, .selects RX10 yX10_trim yX10_trim, .initialized RX10] : List Cond) ++ (u_ws RX10 TX10 29 ++ (wd_X10_trim ++ ([]))))
theorem gw_X10_assign : wd_X10_assign.all goodWord = true := k_allc rfl (k_all (by decide +kernel) (k_all (gu_X10) (k_all (gw_X10_trim) (rfl))))
set_option maxHeartbeats 4000000 in
set_option maxRecDepth 100000 in
theorem c_X10_assign (l : Launch) (dC : Nat → ClassId) (dI : Nat → Nat → Nat) (A : Nat → Prop) (ad : Nat → Nat) (cA : Nat → ClassId) (g : Nat → va_E) (x : Nat → Int32) (vf : Nat → Int) (t : Nat) (v : Int64) (z : Int) (hV : RV ad cA g x vf) (ht : t < 2066) (hz : v.toInt = z) (hb9 : z.natAbs < 2 ^ 62) : Met l yX10_assign wd_X10_assign ({ frames := 20, cells := 0, slots := 0, locals := 400 }) (va_Pc [.ref (ad 0), .int (nI t), .long v] (PR NSr tyr dC dI A ad cA g)) (va_Qv (fun (u : Nat → va_E) => match u with | g2 => (∀ k, k ≠ 1 ∧ k ≠ 2 ∧ k ≠ 3 → g2 k = g k) ∧ RV ad cA g2 x (va_up vf t z)) (fun (u : Nat → va_E) (t : State) => va_P (dC, dI) vwCl (wo ad NSr u) t.heap) A) (0) (0) A := by
  refine Met.ofW (cc := cX10_assign) (maxL := 6) (ret := none) (by decide) rfl ?_
  intro p e s m args below meth c s₁ B hml hv
  obtain ⟨rfl, hA, hP, hL⟩ := hv
  have hx := B.exec
  have hb := B.bytes
  have hr := B.returns
  have hts := atoms_spec (ws := wd_X10_assign) B.pre
  have hown : s.vm.findClass RX10 = some m.cls := findClass_of_methodNamed B.named
  have hlocks := B.notSynchronized
  have hK := hL.1
  have hD : ∀ g, va_D A (wo ad NSr g) := fun g => wo_D hL.2.1 hL.2.2 g
  have hS : va_S A s.heap s.heap [] := va_S.rf
  have bk0 : ∀ w ∈ u_ws RX10 TX10 29, w ∈ wd_X10_assign := fun _ h => List.mem_cons_of_mem _ (List.mem_append_right _ (List.mem_append_left _ h))
  have bk1 : ∀ w ∈ wd_X10_trim, w ∈ wd_X10_assign := fun _ h => List.mem_cons_of_mem _ (List.mem_append_right _ (List.mem_append_right _ (List.mem_append_left _ h)))
  have hl := lv_entry ([.ref (ad 0), .int (nI t), .long v]) (n := 6) (Nat.le_of_ble_eq_true rfl)
  rw [lg_entry_eq]
  generalize (lg_sl ([.ref (ad 0), .int (nI t), .long v]) ++ List.replicate (6 - (lg_sl ([.ref (ad 0), .int (nI t), .long v])).length) Slot.unset).toArray = ls at hl ⊢
  have hl : lv_has ls 6 [(0, .ref (ad 0)), (1, .int (nI t)), (2, .long v)] := hl
  obtain ⟨pn, ln, bn, ⟨r0, r1, r2, r3, hpn, hln, hbn⟩, hv⟩ := hV
  refine lv_lload_n hx hb dX10_assign_0 rfl (lv_at hl 2 rfl) ?_
  refine lv_lconst (v := lN 0) hx hb dX10_assign_1 (by decide +kernel) ?_
  refine W.lcmp hx hb dX10_assign_2 ?_
  refine lv_if_ge (tgt := 11) hx hb dX10_assign_3 (by decide) (fun c_1 => ?_) (fun c_1 => ?_)
  · have c_1 := (k_cmp_ge v (lN 0)).mp c_1
    refine lv_lload_n hx hb dX10_assign_11 rfl (lv_at hl 2 rfl) ?_
    obtain ⟨e_2, hsg⟩ := k_vpos hz c_1 hb9
    refine lv_topl (fun y_3 e_4 => ?_)
    obtain rfl : y_3 = lN z.natAbs := e_4.trans e_2
    refine lv_lstore (lv' := [(4, .long (lN z.natAbs)), (0, .ref (ad 0)), (1, .int (nI t)), (2, .long v)]) hx hb dX10_assign_12 hl (by decide) rfl (fun ls hl => ?_)
    refine lv_aload_n hx hb dX10_assign_14 rfl (lv_at hl 1 rfl) ?_
    refine m_get (D := (dC, dI)) (v := .ref (ad 1)) (C := RX10) (T := TX10) (N := 29) hx hb hts bk0 hown hK hP 0 (by decide) r0 rfl 1 (by decide) (hts (.fieldLink RX10 8 "GradientDeskModel" "pieces" "[J") (List.mem_of_getElem? (i := 1) rfl)) (fun _ h9 => h9) rfl dX10_assign_15 ?_
    refine lv_bipush (v := nI 80) hx hb dX10_assign_18 (by decide +kernel) ?_
    refine lv_iload_n hx hb dX10_assign_20 rfl (lv_at hl 2 rfl) ?_
    refine lv_imul hx hb dX10_assign_21 ?_
    refine lv_topi (fun x_5 e_6 => ?_)
    obtain rfl : x_5 = nI (80 * t) := e_6.trans (pk_mul 80 t)
    refine lv_lload hx hb dX10_assign_22 (lv_at hl 0 rfl) ?_
    refine lv_ldc2 (v := 4294967295) hx hb hown (hts (.constantLong RX10 81 (4294967295)) (List.mem_of_getElem? (i := 2) rfl)) dX10_assign_24 ?_
    refine lv_topl (fun y_7 e_8 => ?_)
    obtain rfl : y_7 = lN 4294967295 := e_8
    refine lv_land hx hb dX10_assign_27 ?_
    refine lv_topl (fun y_9 e_10 => ?_)
    obtain rfl : y_9 = lN (z.natAbs % 4294967296) := e_10.trans (g_mask (a := z.natAbs) (s := 32) (p := 4294967296) (by decide) (by decide) (by omega))
    refine m_last hx hb hK hP hD hS 1 (by decide) rfl r1 (i := 80 * t) (x := lN (z.natAbs % 4294967296)) (by omega) (by decide) dX10_assign_28 (fun H locs g_11 f_12 fr_13 hP hS => ?_)
    rw [k_updL] at f_12
    have b_14 : ∀ j, (va_up pn (80 * t) (z.natAbs % 4294967296)) j < 4294967296 := k_up_lt hpn (by omega)
    have f_12 : g_11 1 = .inl (cA 1, 165440, .inr (.inl (fun j => lN ((va_up pn (80 * t) (z.natAbs % 4294967296)) j)))) := f_12
    refine lv_aload_n hx hb dX10_assign_29 rfl (lv_at hl 1 rfl) ?_
    have f_15 : g_11 0 = .inr (13, Rob ad x) := (fr_13 0 (by omega)).trans r0
    refine m_get (D := (dC, dI)) (v := .ref (ad 1)) (C := RX10) (T := TX10) (N := 29) hx hb hts bk0 hown hK hP 0 (by decide) f_15 rfl 1 (by decide) (hts (.fieldLink RX10 8 "GradientDeskModel" "pieces" "[J") (List.mem_of_getElem? (i := 1) rfl)) (fun _ h9 => h9) rfl dX10_assign_30 ?_
    refine lv_bipush (v := nI 80) hx hb dX10_assign_33 (by decide +kernel) ?_
    refine lv_iload_n hx hb dX10_assign_35 rfl (lv_at hl 2 rfl) ?_
    refine lv_imul hx hb dX10_assign_36 ?_
    refine lv_topi (fun x_16 e_17 => ?_)
    obtain rfl : x_16 = nI (80 * t) := e_17.trans (pk_mul 80 t)
    refine lv_iconst (v := nI 1) hx hb dX10_assign_37 (by decide +kernel) ?_
    refine lv_iadd hx hb dX10_assign_38 ?_
    refine lv_topi (fun x_18 e_19 => ?_)
    obtain rfl : x_18 = nI (80 * t + 1) := e_19.trans (nI_add (80 * t) 1)
    refine lv_lload hx hb dX10_assign_39 (lv_at hl 0 rfl) ?_
    refine lv_bipush (v := nI 32) hx hb dX10_assign_41 (by decide +kernel) ?_
    refine lv_lushr hx hb dX10_assign_43 rfl ?_
    refine lv_topl (fun y_20 e_21 => ?_)
    obtain rfl : y_20 = lN (z.natAbs / 4294967296) := e_21.trans ((wb_shr (n := z.natAbs) (k := 32) (by omega) (by decide)).trans rfl)
    refine m_last hx hb hK hP hD hS 1 (by decide) rfl f_12 (i := 80 * t + 1) (x := lN (z.natAbs / 4294967296)) (by omega) (by decide) dX10_assign_44 (fun H locs g_22 f_23 fr_24 hP hS => ?_)
    rw [k_updL] at f_23
    have b_25 : ∀ j, (va_up (va_up pn (80 * t) (z.natAbs % 4294967296)) (80 * t + 1) (z.natAbs / 4294967296)) j < 4294967296 := k_up_lt b_14 (by omega)
    have f_23 : g_22 1 = .inl (cA 1, 165440, .inr (.inl (fun j => lN ((va_up (va_up pn (80 * t) (z.natAbs % 4294967296)) (80 * t + 1) (z.natAbs / 4294967296)) j)))) := f_23
    refine lv_aload_n hx hb dX10_assign_45 rfl (lv_at hl 1 rfl) ?_
    have f_26 : g_22 0 = .inr (13, Rob ad x) := (fr_24 0 (by omega)).trans f_15
    refine m_get (D := (dC, dI)) (v := .ref (ad 2)) (C := RX10) (T := TX10) (N := 29) hx hb hts bk0 hown hK hP 0 (by decide) f_26 rfl 2 (by decide) (hts (.fieldLink RX10 14 "GradientDeskModel" "length" "[I") (List.mem_of_getElem? (i := 3) rfl)) (fun _ h9 => h9) rfl dX10_assign_46 ?_
    refine lv_iload_n hx hb dX10_assign_49 rfl (lv_at hl 2 rfl) ?_
    refine lv_iconst (v := nI 2) hx hb dX10_assign_50 (by decide +kernel) ?_
    have f_27 : g_22 2 = .inl (cA 2, 2068, .inl (fun j => nI (ln j))) := (fr_24 2 (by omega)).trans ((fr_13 2 (by omega)).trans r2)
    refine m_iast hx hb hK hP hD hS 2 (by decide) rfl f_27 (i := t) (x := nI 2) (by omega) (by decide) dX10_assign_51 (fun H locs g_28 f_29 fr_30 hP hS => ?_)
    rw [k_updI] at f_29
    have b_31 : ∀ j, (va_up ln t 2) j < 161 := k_up_lt hln (by omega)
    have f_29 : g_28 2 = .inl (cA 2, 2068, .inl (fun j => nI ((va_up ln t 2) j))) := f_29
    refine lv_aload_n hx hb dX10_assign_52 rfl (lv_at hl 1 rfl) ?_
    have f_32 : g_28 0 = .inr (13, Rob ad x) := (fr_30 0 (by omega)).trans f_26
    refine m_get (D := (dC, dI)) (v := .ref (ad 3)) (C := RX10) (T := TX10) (N := 29) hx hb hts bk0 hown hK hP 0 (by decide) f_32 rfl 3 (by decide) (hts (.fieldLink RX10 18 "GradientDeskModel" "below" "[Z") (List.mem_of_getElem? (i := 4) rfl)) (fun _ h9 => h9) rfl dX10_assign_53 ?_
    refine lv_iload_n hx hb dX10_assign_56 rfl (lv_at hl 2 rfl) ?_
    refine lv_lload_n hx hb dX10_assign_57 rfl (lv_at hl 3 rfl) ?_
    refine lv_lconst (v := lN 0) hx hb dX10_assign_58 (by decide +kernel) ?_
    refine W.lcmp hx hb dX10_assign_59 ?_
    refine lv_if_ge (tgt := 67) hx hb dX10_assign_60 (by decide) (fun c_33 => ?_) (fun c_33 => absurd ((k_cmp_ge _ _).mpr c_1) c_33)
    refine lv_iconst (v := nI 0) hx hb dX10_assign_67 (by decide +kernel) ?_
    have f_34 : g_28 3 = .inl (cA 3, 2068, .inl (fun j => nI (bn j))) := (fr_30 3 (by omega)).trans ((fr_24 3 (by omega)).trans ((fr_13 3 (by omega)).trans r3))
    refine m_zast hx hb hK hP hD hS 3 (by decide) rfl f_34 (i := t) (x := nI 0) (y := nI 0) (by decide +kernel) (by omega) (by decide) dX10_assign_68 (fun H locs g_35 f_36 fr_37 hP hS => ?_)
    rw [k_updI] at f_36
    have b_38 : ∀ j, (va_up bn t 0) j < 2 := k_up_lt hbn (by omega)
    have f_36 : g_35 3 = .inl (cA 3, 2068, .inl (fun j => nI ((va_up bn t 0) j))) := f_36
    refine lv_aload_n hx hb dX10_assign_69 rfl (lv_at hl 1 rfl) ?_
    refine lv_iload_n hx hb dX10_assign_70 rfl (lv_at hl 2 rfl) ?_
    have f_39 : g_35 0 = .inr (13, Rob ad x) := (fr_37 0 (by omega)).trans f_32
    have f_40 : g_35 1 = .inl (cA 1, 165440, .inr (.inl (fun j => lN ((va_up (va_up pn (80 * t) (z.natAbs % 4294967296)) (80 * t + 1) (z.natAbs / 4294967296)) j)))) := (fr_37 1 (by omega)).trans ((fr_30 1 (by omega)).trans f_23)
    have f_41 : g_35 2 = .inl (cA 2, 2068, .inl (fun j => nI ((va_up ln t 2) j))) := (fr_37 2 (by omega)).trans f_29
    have hR_42 : RN ad cA g_35 x (va_up (va_up pn (80 * t) (z.natAbs % 4294967296)) (80 * t + 1) (z.natAbs / 4294967296)) (va_up ln t 2) (va_up bn t 0) := ⟨f_39, f_40, f_41, f_36, b_25, b_31, b_38⟩
    refine va_callv (va_runV (As := [.int (nI t)]) (rest := []) ⟨hx, hb, hml, hown, hts⟩ (c_X10_trim l dC dI A ad cA g_35 x (va_up (va_up pn (80 * t) (z.natAbs % 4294967296)) (80 * t + 1) (z.natAbs / 4294967296)) (va_up ln t 2) (va_up bn t 0) t hR_42 (by omega)) (cwV 1 hts (goodIn_app (goodIn_r [Cond.methodLink RX10 83 yX10_trim, Cond.instanceMethod yX10_trim, Cond.selects RX10 yX10_trim yX10_trim, Cond.initialized RX10] [5, 6, 7, 8] rfl rfl) (goodIn_sub (fun w9 h9 => bk1 w9 h9) gw_X10_trim)) rfl rfl rfl (by decide +kernel) ⟨Nat.le_of_ble_eq_true rfl, Nat.le_of_ble_eq_true rfl⟩) ⟨fun a U g mk q => ⟨q.1, q.2.1, q.2.2.1, LY.moved (u := U) (U := U.calling g mk a) (Vm.Alike.refl U.vm) q.2.2.2⟩, va_recv hK hP (ci := 13) (q0 := 0) rfl (wo_at (by decide) f_39), fun U hU hW => ⟨rfl, by rw [hU]; exact fun q h => hA q (Nat.le_trans hS.1 h), by rw [hU]; exact hP, LY.moved hW.alike hL⟩⟩ rfl rfl hl.1 rfl (lv_room (Nat.le_of_ble_eq_true rfl)) dX10_assign_71 ⟨(Nat.le_of_ble_eq_true rfl), (Nat.le_of_ble_eq_true rfl)⟩) hS (fun q _ h => h) (fun q h => h) (fun u8 t8 H1 locs ht8 hvm8 hw_43 hB hz1 hk1 hS => ?_)
    obtain ⟨g_44, m9_45⟩ := u8
    try dsimp only at hw_43 hB
    rw [ht8] at hB
    have hP := hB
    generalize H1 = H at hP hS ⊢
    obtain ⟨fr_46, hRt, hmt, hzt, htt⟩ := hw_43
    rw [va_up_self] at hmt hzt
    have hrp : Rp (fun k => (va_up (va_up pn (80 * t) (z.natAbs % 4294967296)) (80 * t + 1) (z.natAbs / 4294967296)) (80 * t + k)) m9_45 z.natAbs := Rp.fin (n := 2) (fun i9 hi9 => by rcases (show i9 = 0 ∨ i9 = 1 by omega) with rfl | rfl; show (va_up (va_up pn (80 * t) (z.natAbs % 4294967296)) (80 * t + 1) (z.natAbs / 4294967296)) (80 * t) = _; rw [va_up_ne _ _ (by omega), va_up_self, dgt_0]; rw [va_up_self, dgt_1s (by omega)]) (by rw [show (4294967296 : Nat) ^ 2 = 18446744073709551616 from rfl]; omega) hmt hzt htt
    refine W.widen (k := 0) (n := 0) (by omega) (by omega) ?_
    exact W.vret hx hb hr (fun t9 ht9 hW9 => ⟨⟨g_44, rfl, ⟨(fun (k : Nat) (hk : k ≠ 1 ∧ k ≠ 2 ∧ k ≠ 3) => (fr_46 k (by omega)).trans ((fr_37 k (by omega)).trans ((fr_30 k (by omega)).trans ((fr_24 k (by omega)).trans ((fr_13 k (by omega)).trans (rfl)))))), RV.up hRt hv (fun j hj hne => ⟨by rw [va_up_ne _ _ hne, va_up_ne _ _ hne], by rw [va_up_ne _ _ hne, va_up_ne _ _ hne], fun k hk => by rw [va_up_ne _ _ (by omega), va_up_ne _ _ (by omega)]⟩) ⟨by rw [va_up_self]; omega, by rw [va_up_self]; exact hrp, by rw [va_up_self, va_up_self]; have := hrp.zero; split <;> omega⟩⟩, by show va_P (dC, dI) vwCl _ t9.heap; rw [ht9]; exact hP⟩, hS.F ht9⟩) hS.2.2 dX10_assign_74
  · have c_1 := mt (k_cmp_ge v (lN 0)).mpr c_1
    refine lv_lload_n hx hb dX10_assign_6 rfl (lv_at hl 2 rfl) ?_
    refine lv_lneg hx hb dX10_assign_7 ?_
    refine lv_topl (fun y_47 e_48 => ?_)
    obtain ⟨e_49, hsg⟩ := k_vneg hz c_1 hb9
    obtain rfl : y_47 = lN z.natAbs := e_48.trans e_49
    refine lv_goto (tgt := 12) hx hb dX10_assign_8 (by decide) ?_
    refine lv_lstore (lv' := [(4, .long (lN z.natAbs)), (0, .ref (ad 0)), (1, .int (nI t)), (2, .long v)]) hx hb dX10_assign_12 hl (by decide) rfl (fun ls hl => ?_)
    refine lv_aload_n hx hb dX10_assign_14 rfl (lv_at hl 1 rfl) ?_
    refine m_get (D := (dC, dI)) (v := .ref (ad 1)) (C := RX10) (T := TX10) (N := 29) hx hb hts bk0 hown hK hP 0 (by decide) r0 rfl 1 (by decide) (hts (.fieldLink RX10 8 "GradientDeskModel" "pieces" "[J") (List.mem_of_getElem? (i := 1) rfl)) (fun _ h9 => h9) rfl dX10_assign_15 ?_
    refine lv_bipush (v := nI 80) hx hb dX10_assign_18 (by decide +kernel) ?_
    refine lv_iload_n hx hb dX10_assign_20 rfl (lv_at hl 2 rfl) ?_
    refine lv_imul hx hb dX10_assign_21 ?_
    refine lv_topi (fun x_50 e_51 => ?_)
    obtain rfl : x_50 = nI (80 * t) := e_51.trans (pk_mul 80 t)
    refine lv_lload hx hb dX10_assign_22 (lv_at hl 0 rfl) ?_
    refine lv_ldc2 (v := 4294967295) hx hb hown (hts (.constantLong RX10 81 (4294967295)) (List.mem_of_getElem? (i := 2) rfl)) dX10_assign_24 ?_
    refine lv_topl (fun y_52 e_53 => ?_)
    obtain rfl : y_52 = lN 4294967295 := e_53
    refine lv_land hx hb dX10_assign_27 ?_
    refine lv_topl (fun y_54 e_55 => ?_)
    obtain rfl : y_54 = lN (z.natAbs % 4294967296) := e_55.trans (g_mask (a := z.natAbs) (s := 32) (p := 4294967296) (by decide) (by decide) (by omega))
    refine m_last hx hb hK hP hD hS 1 (by decide) rfl r1 (i := 80 * t) (x := lN (z.natAbs % 4294967296)) (by omega) (by decide) dX10_assign_28 (fun H locs g_56 f_57 fr_58 hP hS => ?_)
    rw [k_updL] at f_57
    have b_59 : ∀ j, (va_up pn (80 * t) (z.natAbs % 4294967296)) j < 4294967296 := k_up_lt hpn (by omega)
    have f_57 : g_56 1 = .inl (cA 1, 165440, .inr (.inl (fun j => lN ((va_up pn (80 * t) (z.natAbs % 4294967296)) j)))) := f_57
    refine lv_aload_n hx hb dX10_assign_29 rfl (lv_at hl 1 rfl) ?_
    have f_60 : g_56 0 = .inr (13, Rob ad x) := (fr_58 0 (by omega)).trans r0
    refine m_get (D := (dC, dI)) (v := .ref (ad 1)) (C := RX10) (T := TX10) (N := 29) hx hb hts bk0 hown hK hP 0 (by decide) f_60 rfl 1 (by decide) (hts (.fieldLink RX10 8 "GradientDeskModel" "pieces" "[J") (List.mem_of_getElem? (i := 1) rfl)) (fun _ h9 => h9) rfl dX10_assign_30 ?_
    refine lv_bipush (v := nI 80) hx hb dX10_assign_33 (by decide +kernel) ?_
    refine lv_iload_n hx hb dX10_assign_35 rfl (lv_at hl 2 rfl) ?_
    refine lv_imul hx hb dX10_assign_36 ?_
    refine lv_topi (fun x_61 e_62 => ?_)
    obtain rfl : x_61 = nI (80 * t) := e_62.trans (pk_mul 80 t)
    refine lv_iconst (v := nI 1) hx hb dX10_assign_37 (by decide +kernel) ?_
    refine lv_iadd hx hb dX10_assign_38 ?_
    refine lv_topi (fun x_63 e_64 => ?_)
    obtain rfl : x_63 = nI (80 * t + 1) := e_64.trans (nI_add (80 * t) 1)
    refine lv_lload hx hb dX10_assign_39 (lv_at hl 0 rfl) ?_
    refine lv_bipush (v := nI 32) hx hb dX10_assign_41 (by decide +kernel) ?_
    refine lv_lushr hx hb dX10_assign_43 rfl ?_
    refine lv_topl (fun y_65 e_66 => ?_)
    obtain rfl : y_65 = lN (z.natAbs / 4294967296) := e_66.trans ((wb_shr (n := z.natAbs) (k := 32) (by omega) (by decide)).trans rfl)
    refine m_last hx hb hK hP hD hS 1 (by decide) rfl f_57 (i := 80 * t + 1) (x := lN (z.natAbs / 4294967296)) (by omega) (by decide) dX10_assign_44 (fun H locs g_67 f_68 fr_69 hP hS => ?_)
    rw [k_updL] at f_68
    have b_70 : ∀ j, (va_up (va_up pn (80 * t) (z.natAbs % 4294967296)) (80 * t + 1) (z.natAbs / 4294967296)) j < 4294967296 := k_up_lt b_59 (by omega)
    have f_68 : g_67 1 = .inl (cA 1, 165440, .inr (.inl (fun j => lN ((va_up (va_up pn (80 * t) (z.natAbs % 4294967296)) (80 * t + 1) (z.natAbs / 4294967296)) j)))) := f_68
    refine lv_aload_n hx hb dX10_assign_45 rfl (lv_at hl 1 rfl) ?_
    have f_71 : g_67 0 = .inr (13, Rob ad x) := (fr_69 0 (by omega)).trans f_60
    refine m_get (D := (dC, dI)) (v := .ref (ad 2)) (C := RX10) (T := TX10) (N := 29) hx hb hts bk0 hown hK hP 0 (by decide) f_71 rfl 2 (by decide) (hts (.fieldLink RX10 14 "GradientDeskModel" "length" "[I") (List.mem_of_getElem? (i := 3) rfl)) (fun _ h9 => h9) rfl dX10_assign_46 ?_
    refine lv_iload_n hx hb dX10_assign_49 rfl (lv_at hl 2 rfl) ?_
    refine lv_iconst (v := nI 2) hx hb dX10_assign_50 (by decide +kernel) ?_
    have f_72 : g_67 2 = .inl (cA 2, 2068, .inl (fun j => nI (ln j))) := (fr_69 2 (by omega)).trans ((fr_58 2 (by omega)).trans r2)
    refine m_iast hx hb hK hP hD hS 2 (by decide) rfl f_72 (i := t) (x := nI 2) (by omega) (by decide) dX10_assign_51 (fun H locs g_73 f_74 fr_75 hP hS => ?_)
    rw [k_updI] at f_74
    have b_76 : ∀ j, (va_up ln t 2) j < 161 := k_up_lt hln (by omega)
    have f_74 : g_73 2 = .inl (cA 2, 2068, .inl (fun j => nI ((va_up ln t 2) j))) := f_74
    refine lv_aload_n hx hb dX10_assign_52 rfl (lv_at hl 1 rfl) ?_
    have f_77 : g_73 0 = .inr (13, Rob ad x) := (fr_75 0 (by omega)).trans f_71
    refine m_get (D := (dC, dI)) (v := .ref (ad 3)) (C := RX10) (T := TX10) (N := 29) hx hb hts bk0 hown hK hP 0 (by decide) f_77 rfl 3 (by decide) (hts (.fieldLink RX10 18 "GradientDeskModel" "below" "[Z") (List.mem_of_getElem? (i := 4) rfl)) (fun _ h9 => h9) rfl dX10_assign_53 ?_
    refine lv_iload_n hx hb dX10_assign_56 rfl (lv_at hl 2 rfl) ?_
    refine lv_lload_n hx hb dX10_assign_57 rfl (lv_at hl 3 rfl) ?_
    refine lv_lconst (v := lN 0) hx hb dX10_assign_58 (by decide +kernel) ?_
    refine W.lcmp hx hb dX10_assign_59 ?_
    refine lv_if_ge (tgt := 67) hx hb dX10_assign_60 (by decide) (fun c_78 => absurd ((k_cmp_ge _ _).mp c_78) c_1) (fun c_78 => ?_)
    refine lv_iconst (v := nI 1) hx hb dX10_assign_63 (by decide +kernel) ?_
    refine lv_goto (tgt := 68) hx hb dX10_assign_64 (by decide) ?_
    have f_79 : g_73 3 = .inl (cA 3, 2068, .inl (fun j => nI (bn j))) := (fr_75 3 (by omega)).trans ((fr_69 3 (by omega)).trans ((fr_58 3 (by omega)).trans r3))
    refine m_zast hx hb hK hP hD hS 3 (by decide) rfl f_79 (i := t) (x := nI 1) (y := nI 1) (by decide +kernel) (by omega) (by decide) dX10_assign_68 (fun H locs g_80 f_81 fr_82 hP hS => ?_)
    rw [k_updI] at f_81
    have b_83 : ∀ j, (va_up bn t 1) j < 2 := k_up_lt hbn (by omega)
    have f_81 : g_80 3 = .inl (cA 3, 2068, .inl (fun j => nI ((va_up bn t 1) j))) := f_81
    refine lv_aload_n hx hb dX10_assign_69 rfl (lv_at hl 1 rfl) ?_
    refine lv_iload_n hx hb dX10_assign_70 rfl (lv_at hl 2 rfl) ?_
    have f_84 : g_80 0 = .inr (13, Rob ad x) := (fr_82 0 (by omega)).trans f_77
    have f_85 : g_80 1 = .inl (cA 1, 165440, .inr (.inl (fun j => lN ((va_up (va_up pn (80 * t) (z.natAbs % 4294967296)) (80 * t + 1) (z.natAbs / 4294967296)) j)))) := (fr_82 1 (by omega)).trans ((fr_75 1 (by omega)).trans f_68)
    have f_86 : g_80 2 = .inl (cA 2, 2068, .inl (fun j => nI ((va_up ln t 2) j))) := (fr_82 2 (by omega)).trans f_74
    have hR_87 : RN ad cA g_80 x (va_up (va_up pn (80 * t) (z.natAbs % 4294967296)) (80 * t + 1) (z.natAbs / 4294967296)) (va_up ln t 2) (va_up bn t 1) := ⟨f_84, f_85, f_86, f_81, b_70, b_76, b_83⟩
    refine va_callv (va_runV (As := [.int (nI t)]) (rest := []) ⟨hx, hb, hml, hown, hts⟩ (c_X10_trim l dC dI A ad cA g_80 x (va_up (va_up pn (80 * t) (z.natAbs % 4294967296)) (80 * t + 1) (z.natAbs / 4294967296)) (va_up ln t 2) (va_up bn t 1) t hR_87 (by omega)) (cwV 1 hts (goodIn_app (goodIn_r [Cond.methodLink RX10 83 yX10_trim, Cond.instanceMethod yX10_trim, Cond.selects RX10 yX10_trim yX10_trim, Cond.initialized RX10] [5, 6, 7, 8] rfl rfl) (goodIn_sub (fun w9 h9 => bk1 w9 h9) gw_X10_trim)) rfl rfl rfl (by decide +kernel) ⟨Nat.le_of_ble_eq_true rfl, Nat.le_of_ble_eq_true rfl⟩) ⟨fun a U g mk q => ⟨q.1, q.2.1, q.2.2.1, LY.moved (u := U) (U := U.calling g mk a) (Vm.Alike.refl U.vm) q.2.2.2⟩, va_recv hK hP (ci := 13) (q0 := 0) rfl (wo_at (by decide) f_84), fun U hU hW => ⟨rfl, by rw [hU]; exact fun q h => hA q (Nat.le_trans hS.1 h), by rw [hU]; exact hP, LY.moved hW.alike hL⟩⟩ rfl rfl hl.1 rfl (lv_room (Nat.le_of_ble_eq_true rfl)) dX10_assign_71 ⟨(Nat.le_of_ble_eq_true rfl), (Nat.le_of_ble_eq_true rfl)⟩) hS (fun q _ h => h) (fun q h => h) (fun u8 t8 H1 locs ht8 hvm8 hw_88 hB hz1 hk1 hS => ?_)
    obtain ⟨g_89, m9_90⟩ := u8
    try dsimp only at hw_88 hB
    rw [ht8] at hB
    have hP := hB
    generalize H1 = H at hP hS ⊢
    obtain ⟨fr_91, hRt, hmt, hzt, htt⟩ := hw_88
    rw [va_up_self] at hmt hzt
    have hrp : Rp (fun k => (va_up (va_up pn (80 * t) (z.natAbs % 4294967296)) (80 * t + 1) (z.natAbs / 4294967296)) (80 * t + k)) m9_90 z.natAbs := Rp.fin (n := 2) (fun i9 hi9 => by rcases (show i9 = 0 ∨ i9 = 1 by omega) with rfl | rfl; show (va_up (va_up pn (80 * t) (z.natAbs % 4294967296)) (80 * t + 1) (z.natAbs / 4294967296)) (80 * t) = _; rw [va_up_ne _ _ (by omega), va_up_self, dgt_0]; rw [va_up_self, dgt_1s (by omega)]) (by rw [show (4294967296 : Nat) ^ 2 = 18446744073709551616 from rfl]; omega) hmt hzt htt
    refine W.widen (k := 0) (n := 0) (by omega) (by omega) ?_
    exact W.vret hx hb hr (fun t9 ht9 hW9 => ⟨⟨g_89, rfl, ⟨(fun (k : Nat) (hk : k ≠ 1 ∧ k ≠ 2 ∧ k ≠ 3) => (fr_91 k (by omega)).trans ((fr_82 k (by omega)).trans ((fr_75 k (by omega)).trans ((fr_69 k (by omega)).trans ((fr_58 k (by omega)).trans (rfl)))))), RV.up hRt hv (fun j hj hne => ⟨by rw [va_up_ne _ _ hne, va_up_ne _ _ hne], by rw [va_up_ne _ _ hne, va_up_ne _ _ hne], fun k hk => by rw [va_up_ne _ _ (by omega), va_up_ne _ _ (by omega)]⟩) ⟨by rw [va_up_self]; omega, by rw [va_up_self]; exact hrp, by rw [va_up_self, va_up_self]; have := hrp.zero; split <;> omega⟩⟩, by show va_P (dC, dI) vwCl _ t9.heap; rw [ht9]; exact hP⟩, hS.F ht9⟩) hS.2.2 dX10_assign_74
def wd_X10_bitsOf : List Cond := .code yX10_bitsOf cX10_bitsOf 5 (some .int) :: (([.fieldLink RX10 14 "GradientDeskModel" "length" "[I", .fieldLink RX10 8 "GradientDeskModel" "pieces" "[J"] : List Cond) ++ (u_ws RX10 TX10 29 ++ ([])))
theorem gw_X10_bitsOf : wd_X10_bitsOf.all goodWord = true := k_allc rfl (k_all (by decide +kernel) (k_all (gu_X10) (rfl)))
set_option maxHeartbeats 4000000 in
set_option maxRecDepth 100000 in
theorem c_X10_bitsOf (l : Launch) (dC : Nat → ClassId) (dI : Nat → Nat → Nat) (A : Nat → Prop) (ad : Nat → Nat) (cA : Nat → ClassId) (g : Nat → va_E) (x : Nat → Int32) (vf : Nat → Int) (t : Nat) (hV : RV ad cA g x vf) (ht : t < 2066) : Met l yX10_bitsOf wd_X10_bitsOf ({ frames := 10, cells := 0, slots := 0, locals := 200 }) (va_Pc [.ref (ad 0), .int (nI t)] (PR NSr tyr dC dI A ad cA g)) (va_Qi (fun (r : Int32) => fun (u : Unit) => match u with | () => r = nI (bl (vf t).natAbs)) (fun (u : Unit) (t : State) => va_P (dC, dI) vwCl (wo ad NSr g) t.heap) A) (0) (0) A := by
  refine Met.ofW (cc := cX10_bitsOf) (maxL := 5) (ret := (some .int)) (by decide) rfl ?_
  intro p e s m args below meth c s₁ B hml hv
  obtain ⟨rfl, hA, hP, hL⟩ := hv
  have hx := B.exec
  have hb := B.bytes
  have hr := B.returns
  have hts := atoms_spec (ws := wd_X10_bitsOf) B.pre
  have hown : s.vm.findClass RX10 = some m.cls := findClass_of_methodNamed B.named
  have hlocks := B.notSynchronized
  have hK := hL.1
  have hD : ∀ g, va_D A (wo ad NSr g) := fun g => wo_D hL.2.1 hL.2.2 g
  have hS : va_S A s.heap s.heap [] := va_S.rf
  have bk0 : ∀ w ∈ u_ws RX10 TX10 29, w ∈ wd_X10_bitsOf := fun _ h => List.mem_cons_of_mem _ (List.mem_append_right _ (List.mem_append_left _ h))
  have hl := lv_entry ([.ref (ad 0), .int (nI t)]) (n := 5) (Nat.le_of_ble_eq_true rfl)
  rw [lg_entry_eq]
  generalize (lg_sl ([.ref (ad 0), .int (nI t)]) ++ List.replicate (5 - (lg_sl ([.ref (ad 0), .int (nI t)])).length) Slot.unset).toArray = ls at hl ⊢
  have hl : lv_has ls 5 [(0, .ref (ad 0)), (1, .int (nI t))] := hl
  obtain ⟨pn, ln, bn, ⟨r0, r1, r2, r3, hpn, hln, hbn⟩, hv⟩ := hV
  have hvt := hv t ht
  have lt9 := hvt.1
  refine lv_iconst (v := nI 0) hx hb dX10_bitsOf_0 (by decide +kernel) ?_
  refine lv_istore_n (lv' := [(2, .int (nI 0)), (0, .ref (ad 0)), (1, .int (nI t))]) hx hb dX10_bitsOf_1 rfl hl (by decide) rfl (fun ls hl => ?_)
  have loop_1 : ∀ (tp : Nat), (tp < 4294967296) → (ln t = 0 → tp = 0) → (0 < ln t → tp = pn (80 * t + (ln t - 1))) → ∀ (H : Heap) (locs : List Loc) (ls : Array Slot), va_P (dC, dI) vwCl (wo ad NSr g) H → va_S A s.heap H locs → lv_has ls 5 [(0, .ref (ad 0)), (1, .int (nI t)), (2, .int (nI 0))] → W p l e (headSpec wd_X10_bitsOf ({ frames := 10, cells := 0, slots := 0, locals := 200 })).room s m ([.ref (ad 0), .int (nI t)] : List Value).toArray below meth c H locs (0) (0) (MQ below (va_Qi (fun (r : Int32) => fun (u : Unit) => match u with | () => r = nI (bl (vf t).natAbs)) (fun (u : Unit) (t : State) => va_P (dC, dI) vwCl (wo ad NSr g) t.heap) A) ([.ref (ad 0), .int (nI t)] : List Value).toArray s (0) (0) A) (F0 m 33 ls [.long (lN tp)]) := by
    intro tp htp htq htr H locs ls hP hS hl
    refine lv_lstore_n (lv' := [(3, .long (lN tp)), (0, .ref (ad 0)), (1, .int (nI t)), (2, .int (nI 0))]) hx hb dX10_bitsOf_33 rfl hl (by decide) rfl (fun ls hl => ?_)
    have loop_5 : ∀ (k9 : Nat) (n : Nat), 100 - n < k9 → (n ≤ bl tp) → ∀ (H : Heap) (locs : List Loc) (ls : Array Slot), va_P (dC, dI) vwCl (wo ad NSr g) H → va_S A s.heap H locs → lv_has ls 5 [(0, .ref (ad 0)), (1, .int (nI t)), (2, .int (nI n)), (3, .long (lN tp))] → W p l e (headSpec wd_X10_bitsOf ({ frames := 10, cells := 0, slots := 0, locals := 200 })).room s m ([.ref (ad 0), .int (nI t)] : List Value).toArray below meth c H locs (0) (0) (MQ below (va_Qi (fun (r : Int32) => fun (u : Unit) => match u with | () => r = nI (bl (vf t).natAbs)) (fun (u : Unit) (t : State) => va_P (dC, dI) vwCl (wo ad NSr g) t.heap) A) ([.ref (ad 0), .int (nI t)] : List Value).toArray s (0) (0) A) (F0 m 34 ls []) := by
      intro k9
      induction k9 with
      | zero => intro n h9; exact absurd h9 (Nat.not_lt_zero _)
      | succ k9 ih_6 =>
        intro n h9 hn H locs ls hP hS hl
        have htb : bl tp ≤ 32 := bl_le.mpr (show tp < 2 ^ 32 from htp)
        refine lv_lload_n hx hb dX10_bitsOf_34 rfl (lv_at hl 3 rfl) ?_
        refine lv_iload_n hx hb dX10_bitsOf_35 rfl (lv_at hl 2 rfl) ?_
        refine lv_lshr hx hb dX10_bitsOf_36 rfl ?_
        refine lv_topl (fun y_9 e_10 => ?_)
        obtain rfl : y_9 = lN (tp / 2 ^ n) := e_10.trans (k_sarN (by omega) (by omega))
        have htd : tp / 2 ^ n ≤ tp := Nat.div_le_self _ _
        refine lv_lconst (v := lN 0) hx hb dX10_bitsOf_37 (by decide +kernel) ?_
        refine W.lcmp hx hb dX10_bitsOf_38 ?_
        refine lv_if_le (tgt := 48) hx hb dX10_bitsOf_39 (by decide) (fun c_11 => ?_) (fun c_11 => ?_)
        · have c_11 := (pk_lLE (a := (tp / 2 ^ n)) (b := 0) (by omega) (by decide)).mp ((k_cmp_le (lN (tp / 2 ^ n)) (lN 0)).mp c_11)
          have hnb : n = bl tp := k_bln hn (Nat.le_zero.mp c_11)
          refine lv_aload_n hx hb dX10_bitsOf_48 rfl (lv_at hl 0 rfl) ?_
          refine m_get (D := (dC, dI)) (v := .ref (ad 2)) (C := RX10) (T := TX10) (N := 29) hx hb hts bk0 hown hK hP 0 (by decide) r0 rfl 2 (by decide) (hts (.fieldLink RX10 14 "GradientDeskModel" "length" "[I") (List.mem_of_getElem? (i := 1) rfl)) (fun _ h9 => h9) rfl dX10_bitsOf_49 ?_
          refine lv_iload_n hx hb dX10_bitsOf_52 rfl (lv_at hl 1 rfl) ?_
          refine m_iald hx hb hK hP 2 (by decide) rfl r2 (i := t) (by omega) (by decide) dX10_bitsOf_53 ?_
          have b_12 := hln t
          refine lv_if_ne (tgt := 61) hx hb dX10_bitsOf_54 (by decide) (fun c_13 => ?_) (fun c_13 => ?_)
          · have c_13 := mt (nI_eq (a := (ln t)) (b := 0) (by omega) (by decide)).mpr c_13
            refine lv_bipush (v := nI 32) hx hb dX10_bitsOf_61 (by decide +kernel) ?_
            refine lv_aload_n hx hb dX10_bitsOf_63 rfl (lv_at hl 0 rfl) ?_
            refine m_get (D := (dC, dI)) (v := .ref (ad 2)) (C := RX10) (T := TX10) (N := 29) hx hb hts bk0 hown hK hP 0 (by decide) r0 rfl 2 (by decide) (hts (.fieldLink RX10 14 "GradientDeskModel" "length" "[I") (List.mem_of_getElem? (i := 1) rfl)) (fun _ h9 => h9) rfl dX10_bitsOf_64 ?_
            refine lv_iload_n hx hb dX10_bitsOf_67 rfl (lv_at hl 1 rfl) ?_
            refine m_iald hx hb hK hP 2 (by decide) rfl r2 (i := t) (by omega) (by decide) dX10_bitsOf_68 ?_
            have b_14 := hln t
            refine lv_iconst (v := nI 1) hx hb dX10_bitsOf_69 (by decide +kernel) ?_
            refine lv_isub hx hb dX10_bitsOf_70 ?_
            refine lv_topi (fun x_15 e_16 => ?_)
            obtain rfl : x_15 = nI ((ln t) - 1) := e_16.trans (pk_sub (show 1 ≤ ln t by omega))
            refine lv_imul hx hb dX10_bitsOf_71 ?_
            refine lv_topi (fun x_17 e_18 => ?_)
            obtain rfl : x_17 = nI (32 * ((ln t) - 1)) := e_18.trans (pk_mul 32 ((ln t) - 1))
            refine lv_iload_n hx hb dX10_bitsOf_72 rfl (lv_at hl 2 rfl) ?_
            refine lv_iadd hx hb dX10_bitsOf_73 ?_
            refine lv_topi (fun x_19 e_20 => ?_)
            obtain rfl : x_19 = nI (32 * ((ln t) - 1) + n) := e_20.trans (nI_add (32 * ((ln t) - 1)) n)
            refine W.widen (k := 0) (n := 0) (by omega) (by omega) ?_
            exact W.iret (v := nI (32 * ((ln t) - 1) + n)) hx hb hr (fun t9 ht9 hW9 => ⟨⟨nI (32 * ((ln t) - 1) + n), (), rfl, (by rw [hvt.2.1.bits (by omega), hnb, htr (by omega)]), by show va_P (dC, dI) vwCl _ t9.heap; rw [ht9]; exact hP⟩, hS.F ht9⟩) hS.2.2 dX10_bitsOf_74
          · have c_13 := (nI_eq (a := (ln t)) (b := 0) (by omega) (by decide)).mp c_13
            refine lv_iconst (v := nI 0) hx hb dX10_bitsOf_57 (by decide +kernel) ?_
            refine lv_goto (tgt := 74) hx hb dX10_bitsOf_58 (by decide) ?_
            refine W.widen (k := 0) (n := 0) (by omega) (by omega) ?_
            exact W.iret (v := nI 0) hx hb hr (fun t9 ht9 hW9 => ⟨⟨nI 0, (), rfl, (by rw [hvt.zero.mp (by omega)]; rfl), by show va_P (dC, dI) vwCl _ t9.heap; rw [ht9]; exact hP⟩, hS.F ht9⟩) hS.2.2 dX10_bitsOf_74
        · have c_11 := mt (pk_lLE (a := (tp / 2 ^ n)) (b := 0) (by omega) (by decide)).mpr (mt (k_cmp_le (lN (tp / 2 ^ n)) (lN 0)).mpr c_11)
          refine lv_iinc (v := nI (n + 1)) (lv' := [(2, .int (nI (n + 1))), (0, .ref (ad 0)), (1, .int (nI t)), (3, .long (lN tp))]) hx hb dX10_bitsOf_42 hl (k := 2) rfl (nI_add n 1) (by decide) rfl (fun ls hl => ?_)
          refine lv_goto (tgt := 34) hx hb dX10_bitsOf_45 (by decide) ?_
          exact ih_6 (n + 1) (by omega) (k_bls (Nat.lt_of_not_le c_11)) _ _ _ hP hS (lv_sub (l' := [(0, .ref (ad 0)), (1, .int (nI t)), (2, .int (nI (n + 1))), (3, .long (lN tp))]) hl [1, 2, 0, 3] rfl)
    exact loop_5 _ 0 (Nat.lt_succ_self _) (Nat.zero_le _) _ _ _ hP hS (lv_sub (l' := [(0, .ref (ad 0)), (1, .int (nI t)), (2, .int (nI 0)), (3, .long (lN tp))]) hl [1, 2, 3, 0] rfl)
  refine lv_aload_n hx hb dX10_bitsOf_2 rfl (lv_at hl 1 rfl) ?_
  refine m_get (D := (dC, dI)) (v := .ref (ad 2)) (C := RX10) (T := TX10) (N := 29) hx hb hts bk0 hown hK hP 0 (by decide) r0 rfl 2 (by decide) (hts (.fieldLink RX10 14 "GradientDeskModel" "length" "[I") (List.mem_of_getElem? (i := 1) rfl)) (fun _ h9 => h9) rfl dX10_bitsOf_3 ?_
  refine lv_iload_n hx hb dX10_bitsOf_6 rfl (lv_at hl 2 rfl) ?_
  refine m_iald hx hb hK hP 2 (by decide) rfl r2 (i := t) (by omega) (by decide) dX10_bitsOf_7 ?_
  have b_23 := hln t
  refine lv_if_ne (tgt := 15) hx hb dX10_bitsOf_8 (by decide) (fun c_24 => ?_) (fun c_24 => ?_)
  · have c_24 := mt (nI_eq (a := (ln t)) (b := 0) (by omega) (by decide)).mpr c_24
    refine lv_aload_n hx hb dX10_bitsOf_15 rfl (lv_at hl 1 rfl) ?_
    refine m_get (D := (dC, dI)) (v := .ref (ad 1)) (C := RX10) (T := TX10) (N := 29) hx hb hts bk0 hown hK hP 0 (by decide) r0 rfl 1 (by decide) (hts (.fieldLink RX10 8 "GradientDeskModel" "pieces" "[J") (List.mem_of_getElem? (i := 2) rfl)) (fun _ h9 => h9) rfl dX10_bitsOf_16 ?_
    refine lv_bipush (v := nI 80) hx hb dX10_bitsOf_19 (by decide +kernel) ?_
    refine lv_iload_n hx hb dX10_bitsOf_21 rfl (lv_at hl 2 rfl) ?_
    refine lv_imul hx hb dX10_bitsOf_22 ?_
    refine lv_topi (fun x_25 e_26 => ?_)
    obtain rfl : x_25 = nI (80 * t) := e_26.trans (pk_mul 80 t)
    refine lv_aload_n hx hb dX10_bitsOf_23 rfl (lv_at hl 1 rfl) ?_
    refine m_get (D := (dC, dI)) (v := .ref (ad 2)) (C := RX10) (T := TX10) (N := 29) hx hb hts bk0 hown hK hP 0 (by decide) r0 rfl 2 (by decide) (hts (.fieldLink RX10 14 "GradientDeskModel" "length" "[I") (List.mem_of_getElem? (i := 1) rfl)) (fun _ h9 => h9) rfl dX10_bitsOf_24 ?_
    refine lv_iload_n hx hb dX10_bitsOf_27 rfl (lv_at hl 2 rfl) ?_
    refine m_iald hx hb hK hP 2 (by decide) rfl r2 (i := t) (by omega) (by decide) dX10_bitsOf_28 ?_
    have b_27 := hln t
    refine lv_iadd hx hb dX10_bitsOf_29 ?_
    refine lv_topi (fun x_28 e_29 => ?_)
    obtain rfl : x_28 = nI (80 * t + (ln t)) := e_29.trans (nI_add (80 * t) (ln t))
    refine lv_iconst (v := nI 1) hx hb dX10_bitsOf_30 (by decide +kernel) ?_
    refine lv_isub hx hb dX10_bitsOf_31 ?_
    refine lv_topi (fun x_30 e_31 => ?_)
    obtain rfl : x_30 = nI ((80 * t + (ln t)) - 1) := e_31.trans (pk_sub (show 1 ≤ 80 * t + (ln t) by omega))
    refine m_lald hx hb hK hP 1 (by decide) rfl r1 (i := (80 * t + (ln t)) - 1) (by omega) (by decide) dX10_bitsOf_32 ?_
    have b_32 := hpn ((80 * t + (ln t)) - 1)
    exact loop_1 (pn ((80 * t + (ln t)) - 1)) b_32 (fun h => absurd h (by omega)) (fun _ => congrArg pn (by omega)) _ _ _ hP hS (lv_sub (l' := [(0, .ref (ad 0)), (1, .int (nI t)), (2, .int (nI 0))]) hl [1, 2, 0] rfl)
  · have c_24 := (nI_eq (a := (ln t)) (b := 0) (by omega) (by decide)).mp c_24
    refine lv_lconst (v := lN 0) hx hb dX10_bitsOf_11 (by decide +kernel) ?_
    refine lv_goto (tgt := 33) hx hb dX10_bitsOf_12 (by decide) ?_
    exact loop_1 0 (by decide) (fun _ => rfl) (fun h => absurd h (by omega)) _ _ _ hP hS (lv_sub (l' := [(0, .ref (ad 0)), (1, .int (nI t)), (2, .int (nI 0))]) hl [1, 2, 0] rfl)
def wd_X10_isEven : List Cond := .code yX10_isEven cX10_isEven 2 (some .boolean) :: (([.methodLink RX10 87 yX10_piece, .instanceMethod yX10_piece, .selects RX10 yX10_piece yX10_piece, .initialized RX10] : List Cond) ++ (wd_X10_piece ++ ([])))
theorem gw_X10_isEven : wd_X10_isEven.all goodWord = true := k_allc rfl (k_all (by decide +kernel) (k_all (gw_X10_piece) (rfl)))
set_option maxHeartbeats 4000000 in
set_option maxRecDepth 100000 in
theorem c_X10_isEven (l : Launch) (dC : Nat → ClassId) (dI : Nat → Nat → Nat) (A : Nat → Prop) (ad : Nat → Nat) (cA : Nat → ClassId) (g : Nat → va_E) (x : Nat → Int32) (vf : Nat → Int) (t : Nat) (hV : RV ad cA g x vf) (ht : t < 2066) : Met l yX10_isEven wd_X10_isEven ({ frames := 20, cells := 0, slots := 0, locals := 400 }) (va_Pc [.ref (ad 0), .int (nI t)] (PR NSr tyr dC dI A ad cA g)) (va_Qi (fun (r : Int32) => fun (u : Unit) => match u with | () => (r = nI 1 ∧ (vf t).natAbs % 2 = 0) ∨ (r = nI 0 ∧ (vf t).natAbs % 2 = 1)) (fun (u : Unit) (t : State) => va_P (dC, dI) vwCl (wo ad NSr g) t.heap) A) (0) (0) A := by
  refine Met.ofW (cc := cX10_isEven) (maxL := 2) (ret := (some .boolean)) (by decide) rfl ?_
  intro p e s m args below meth c s₁ B hml hv
  obtain ⟨rfl, hA, hP, hL⟩ := hv
  have hx := B.exec
  have hb := B.bytes
  have hr := B.returns
  have hts := atoms_spec (ws := wd_X10_isEven) B.pre
  have hown : s.vm.findClass RX10 = some m.cls := findClass_of_methodNamed B.named
  have hlocks := B.notSynchronized
  have hK := hL.1
  have hD : ∀ g, va_D A (wo ad NSr g) := fun g => wo_D hL.2.1 hL.2.2 g
  have hS : va_S A s.heap s.heap [] := va_S.rf
  have bk0 : ∀ w ∈ wd_X10_piece, w ∈ wd_X10_isEven := fun _ h => List.mem_cons_of_mem _ (List.mem_append_right _ (List.mem_append_left _ h))
  have hl := lv_entry ([.ref (ad 0), .int (nI t)]) (n := 2) (Nat.le_of_ble_eq_true rfl)
  rw [lg_entry_eq]
  generalize (lg_sl ([.ref (ad 0), .int (nI t)]) ++ List.replicate (2 - (lg_sl ([.ref (ad 0), .int (nI t)])).length) Slot.unset).toArray = ls at hl ⊢
  have hl : lv_has ls 2 [(0, .ref (ad 0)), (1, .int (nI t))] := hl
  obtain ⟨pn, ln, bn, ⟨r0, r1, r2, r3, hpn, hln, hbn⟩, hv⟩ := hV
  have hvt := hv t ht
  have lt9 := hvt.1
  refine lv_aload_n hx hb dX10_isEven_0 rfl (lv_at hl 0 rfl) ?_
  refine lv_iload_n hx hb dX10_isEven_1 rfl (lv_at hl 1 rfl) ?_
  refine lv_iconst (v := nI 0) hx hb dX10_isEven_2 (by decide +kernel) ?_
  have hR_1 : RN ad cA g x pn ln bn := ⟨r0, r1, r2, r3, hpn, hln, hbn⟩
  refine va_calll (va_runV (As := [.int (nI t), .int (nI 0)]) (rest := []) ⟨hx, hb, hml, hown, hts⟩ (c_X10_piece l dC dI A ad cA g x pn ln bn t 0 hR_1 (by omega) lt9 (by omega)) (cwV 2 hts (goodIn_app (goodIn_r [Cond.methodLink RX10 87 yX10_piece, Cond.instanceMethod yX10_piece, Cond.selects RX10 yX10_piece yX10_piece, Cond.initialized RX10] [1, 2, 3, 4] rfl rfl) (goodIn_sub (fun w9 h9 => bk0 w9 h9) gw_X10_piece)) rfl rfl rfl (by decide +kernel) ⟨Nat.le_of_ble_eq_true rfl, Nat.le_of_ble_eq_true rfl⟩) ⟨fun a U g mk q => ⟨q.1, q.2.1, q.2.2.1, LY.moved (u := U) (U := U.calling g mk a) (Vm.Alike.refl U.vm) q.2.2.2⟩, va_recv hK hP (ci := 13) (q0 := 0) rfl (wo_at (by decide) r0), fun U hU hW => ⟨rfl, by rw [hU]; exact fun q h => hA q (Nat.le_trans hS.1 h), by rw [hU]; exact hP, LY.moved hW.alike hL⟩⟩ rfl rfl hl.1 rfl (lv_room (Nat.le_of_ble_eq_true rfl)) dX10_isEven_3 ⟨(Nat.le_of_ble_eq_true rfl), (Nat.le_of_ble_eq_true rfl)⟩) hS (fun q _ h => h) (fun q h => h) (fun r_2 u8 t8 H1 locs ht8 hvm8 hw_3 hB hz1 hk1 hS => ?_)
  obtain ⟨⟩ := u8
  try dsimp only at hw_3 hB
  rw [ht8] at hB
  have hP := hB
  generalize H1 = H at hP hS ⊢
  obtain rfl := hw_3
  rw [show pc9 pn ln t 0 = dgt (vf t).natAbs 0 from hvt.pc 0]
  obtain ⟨n_4, hn_4⟩ : ∃ z, z = dgt (vf t).natAbs 0 := ⟨_, rfl⟩
  rw [← hn_4]
  have bn_4 : n_4 < 4294967296 := by rw [hn_4]; exact dgt_lt _ _
  have cn_4 : n_4 % 2 = (vf t).natAbs % 2 := by rw [hn_4, dgt_0]; omega
  refine lv_lconst (v := lN 1) hx hb dX10_isEven_6 (by decide +kernel) ?_
  refine lv_land hx hb dX10_isEven_7 ?_
  refine lv_topl (fun y_5 e_6 => ?_)
  obtain rfl : y_5 = lN (n_4 % 2) := e_6.trans (g_mask (a := n_4) (s := 1) (p := 2) (by decide) (by decide) (by omega))
  refine lv_lconst (v := lN 0) hx hb dX10_isEven_8 (by decide +kernel) ?_
  refine W.lcmp hx hb dX10_isEven_9 ?_
  refine lv_if_ne (tgt := 17) hx hb dX10_isEven_10 (by decide) (fun c_7 => ?_) (fun c_7 => ?_)
  · have c_7 := mt (pk_lEQ (a := (n_4 % 2)) (b := 0) (by omega) (by decide)).mpr (mt (k_cmp_eq (lN (n_4 % 2)) (lN 0)).mpr c_7)
    refine lv_iconst (v := nI 0) hx hb dX10_isEven_17 (by decide +kernel) ?_
    refine W.widen (k := 0) (n := 0) (by omega) (by omega) ?_
    exact W.zret (v := nI 0) hx hb hr (by decide +kernel) (fun t9 ht9 hW9 => ⟨⟨nI 0, (), rfl, Or.inr ⟨rfl, by omega⟩, by show va_P (dC, dI) vwCl _ t9.heap; rw [ht9]; exact hP⟩, hS.F ht9⟩) hS.2.2 dX10_isEven_18
  · have c_7 := (pk_lEQ (a := (n_4 % 2)) (b := 0) (by omega) (by decide)).mp ((k_cmp_eq (lN (n_4 % 2)) (lN 0)).mp c_7)
    refine lv_iconst (v := nI 1) hx hb dX10_isEven_13 (by decide +kernel) ?_
    refine lv_goto (tgt := 18) hx hb dX10_isEven_14 (by decide) ?_
    refine W.widen (k := 0) (n := 0) (by omega) (by omega) ?_
    exact W.zret (v := nI 1) hx hb hr (by decide +kernel) (fun t9 ht9 hW9 => ⟨⟨nI 1, (), rfl, Or.inl ⟨rfl, by omega⟩, by show va_P (dC, dI) vwCl _ t9.heap; rw [ht9]; exact hP⟩, hS.F ht9⟩) hS.2.2 dX10_isEven_18
