def wd_X10_assign : List Cond := .code yX10_assign cX10_assign 6 none :: (([.fieldLink RX10 8 "GradientDeskModel" "pieces" "[J", .constantLong RX10 81 (4294967295), .fieldLink RX10 14 "GradientDeskModel" "length" "[I", .fieldLink RX10 18 "GradientDeskModel" "below" "[Z", .methodLink RX10 83 yX10_trim, .instanceMethod yX10_trim, .selects RX10 yX10_trim yX10_trim, .initialized RX10] : List Cond) ++ (u_ws RX10 TX10 29 ++ (wd_X10_trim ++ ([]))))
theorem gw_X10_assign : wd_X10_assign.all goodWord = true := k_allc rfl (k_all (by decide +kernel) (k_all (gu_X10) (k_all (gw_X10_trim) (rfl))))
abbrev at_X10_assign (dC : Nat → ClassId) (dI : Nat → Nat → Nat) (A : Nat → Prop) (o : Nat) (fs : List Value) (p1 : Nat) (l1 : Nat) (b1 : Nat) (cP : ClassId) (cL : ClassId) (cB : ClassId) (pn : Nat → Nat) (ln : Nat → Nat) (bn : Nat → Nat) (s9 : Nat) (a9 : Nat) (u : (Nat → Nat) × (Nat → Nat) × (Nat → Nat)) (t : State) : Prop := match u with
  | (pn2, ln2, bn2) => va_P (dC, dI) vwCl [(o, .inr (13, fs)), (p1, .inl (cP, 165440, .inr (.inl (fun j => lN (pn2 j))))), (l1, .inl (cL, 2068, .inl (fun j => nI (ln2 j)))), (b1, .inl (cB, 2068, .inl (fun j => nI (bn2 j))))] t.heap ∧ va_K (dC, dI) vwCl [(cP, .long), (cL, .int), (cB, .boolean)] t ∧ va_D A [(o, .inr (13, fs)), (p1, .inl (cP, 165440, .inr (.inl (fun j => lN (pn2 j))))), (l1, .inl (cL, 2068, .inl (fun j => nI (ln2 j)))), (b1, .inl (cB, 2068, .inl (fun j => nI (bn2 j))))]
set_option maxHeartbeats 4000000 in
set_option maxRecDepth 100000 in
theorem c_X10_assign (l : Launch) (dC : Nat → ClassId) (dI : Nat → Nat → Nat) (A : Nat → Prop) (sz : Nat) (hA0 : ∀ q, sz ≤ q → A q) (o : Nat) (fs : List Value) (p1 : Nat) (l1 : Nat) (b1 : Nat) (cP : ClassId) (cL : ClassId) (cB : ClassId) (pn : Nat → Nat) (ln : Nat → Nat) (bn : Nat → Nat) (s9 : Nat) (a9 : Nat) (h1 : fs[1]? = some (.ref p1)) (h2 : fs[2]? = some (.ref l1)) (h3 : fs[3]? = some (.ref b1)) (hpn : ∀ j, pn j < 4294967296) (hln : ∀ j, ln j < 81) (hbn : ∀ j, bn j < 2) (hs : s9 < 2068) (ha : a9 < 4294967296) : Met l yX10_assign wd_X10_assign ({ frames := 20, cells := 0, slots := 0, locals := 400 }) (va_Pc [.ref o, .int (nI s9), .long (lN a9)] (fun U => U.heap.size = sz ∧ va_P (dC, dI) vwCl [(o, .inr (13, fs)), (p1, .inl (cP, 165440, .inr (.inl (fun j => lN (pn j))))), (l1, .inl (cL, 2068, .inl (fun j => nI (ln j)))), (b1, .inl (cB, 2068, .inl (fun j => nI (bn j))))] U.heap ∧ va_K (dC, dI) vwCl [(cP, .long), (cL, .int), (cB, .boolean)] U ∧ va_D A [(o, .inr (13, fs)), (p1, .inl (cP, 165440, .inr (.inl (fun j => lN (pn j))))), (l1, .inl (cL, 2068, .inl (fun j => nI (ln j)))), (b1, .inl (cB, 2068, .inl (fun j => nI (bn j))))])) (va_Qv (fun (u : (Nat → Nat) × (Nat → Nat) × (Nat → Nat)) => match u with | (pn2, ln2, bn2) => (∀ j, pn2 j < 4294967296) ∧ (∀ j, ln2 j < 81) ∧ (∀ j, bn2 j < 2) ∧ (pn2 = va_up (va_up pn (80 * s9) a9) (80 * s9 + 1) 0 ∧ ln2 = va_up ln s9 (if a9 = 0 then 0 else 1) ∧ bn2 = va_up bn s9 0)) (at_X10_assign dC dI A o fs p1 l1 b1 cP cL cB pn ln bn s9 a9) A) (0) (0) A := by
  refine Met.ofW (cc := cX10_assign) (maxL := 6) (ret := none) (by decide) rfl ?_
  intro p e s m args below meth c s₁ B hml hv
  obtain ⟨rfl, hsz, hP, hK, hD⟩ := hv
  have hx := B.exec
  have hb := B.bytes
  have hr := B.returns
  have hts := atoms_spec (ws := wd_X10_assign) B.pre
  have hown : s.vm.findClass RX10 = some m.cls := findClass_of_methodNamed B.named
  have hlocks := B.notSynchronized
  have bk0 : ∀ w ∈ u_ws RX10 TX10 29, w ∈ wd_X10_assign := fun _ h => List.mem_cons_of_mem _ (List.mem_append_right _ (List.mem_append_left _ h))
  have bk1 : ∀ w ∈ wd_X10_trim, w ∈ wd_X10_assign := fun _ h => List.mem_cons_of_mem _ (List.mem_append_right _ (List.mem_append_right _ (List.mem_append_left _ h)))
  subst hsz
  have hA : ∀ q : Nat, s.heap.size ≤ q → A q := hA0
  have hS : va_S A s.heap s.heap [] := va_S.rf
  have hl := lv_entry ([.ref o, .int (nI s9), .long (lN a9)]) (n := 6) (Nat.le_of_ble_eq_true rfl)
  rw [lg_entry_eq]
  generalize (lg_sl ([.ref o, .int (nI s9), .long (lN a9)]) ++ List.replicate (6 - (lg_sl ([.ref o, .int (nI s9), .long (lN a9)])).length) Slot.unset).toArray = ls at hl ⊢
  have hl : lv_has ls 6 [(0, .ref o), (1, .int (nI s9)), (2, .long (lN a9))] := hl
  refine lv_lload_n hx hb dX10_assign_0 rfl (lv_at hl 2 rfl) ?_
  refine lv_lconst (v := lN 0) hx hb dX10_assign_1 (by decide +kernel) ?_
  refine W.lcmp hx hb dX10_assign_2 ?_
  refine lv_if_ge (tgt := 11) hx hb dX10_assign_3 (by decide) (fun c_1 => ?_) (fun c_1 => absurd (mt (pk_lLE (a := 0) (b := a9) (by decide) (by omega)).mpr (mt (k_cmp_ge (lN a9) (lN 0)).mpr c_1)) (by omega))
  refine lv_lload_n hx hb dX10_assign_11 rfl (lv_at hl 2 rfl) ?_
  refine lv_lstore (lv' := [(4, .long (lN a9)), (0, .ref o), (1, .int (nI s9)), (2, .long (lN a9))]) hx hb dX10_assign_12 hl (by decide) rfl (fun ls hl => ?_)
  refine lv_aload_n hx hb dX10_assign_14 rfl (lv_at hl 1 rfl) ?_
  refine va_get (D := (dC, dI)) (ci := 13) (v := .ref p1) (C := RX10) (T := TX10) (N := 29) hx hb hts bk0 hown hK hP 0 rfl rfl 1 (by decide) (hts (.fieldLink RX10 8 "GradientDeskModel" "pieces" "[J") (List.mem_of_getElem? (i := 1) rfl)) (fun _ h9 => h9) h1 dX10_assign_15 ?_
  refine lv_bipush (v := nI 80) hx hb dX10_assign_18 (by decide +kernel) ?_
  refine lv_iload_n hx hb dX10_assign_20 rfl (lv_at hl 2 rfl) ?_
  refine lv_imul hx hb dX10_assign_21 ?_
  refine lv_topi (fun x_2 e_3 => ?_)
  obtain rfl : x_2 = nI (80 * s9) := e_3.trans (pk_mul 80 s9)
  refine lv_lload hx hb dX10_assign_22 (lv_at hl 0 rfl) ?_
  refine lv_ldc2 (v := 4294967295) hx hb hown (hts (.constantLong RX10 81 (4294967295)) (List.mem_of_getElem? (i := 2) rfl)) dX10_assign_24 ?_
  refine lv_topl (fun y_4 e_5 => ?_)
  obtain rfl : y_4 = lN 4294967295 := e_5
  refine lv_land hx hb dX10_assign_27 ?_
  refine lv_topl (fun y_6 e_7 => ?_)
  obtain rfl : y_6 = lN (a9 % 4294967296) := e_7.trans (g_mask (a := a9) (s := 32) (p := 4294967296) (by decide) (by decide) (by omega))
  refine va_last hx hb hK hP hD hS 1 0 rfl rfl (vp_in_nI (show 80 * s9 < 165440 by omega) (by decide)) dX10_assign_28 (fun H locs hP hD hS => ?_)
  rw [nI_clamp (show 80 * s9 < 2 ^ 31 by omega)] at hP hD
  rw [k_updL] at hP hD
  have hb_8 : ∀ j, (va_up pn (80 * s9) (a9 % 4294967296)) j < 4294967296 := k_up_lt hpn (by omega)
  have hP : va_P (dC, dI) vwCl ([(o, .inr (13, fs)), (p1, .inl (cP, 165440, .inr (.inl (fun j => lN ((va_up pn (80 * s9) (a9 % 4294967296)) j))))), (l1, .inl (cL, 2068, .inl (fun j => nI (ln j)))), (b1, .inl (cB, 2068, .inl (fun j => nI (bn j))))]) H := hP
  have hD : va_D A ([(o, .inr (13, fs)), (p1, .inl (cP, 165440, .inr (.inl (fun j => lN ((va_up pn (80 * s9) (a9 % 4294967296)) j))))), (l1, .inl (cL, 2068, .inl (fun j => nI (ln j)))), (b1, .inl (cB, 2068, .inl (fun j => nI (bn j))))]) := hD
  refine lv_aload_n hx hb dX10_assign_29 rfl (lv_at hl 1 rfl) ?_
  refine va_get (D := (dC, dI)) (ci := 13) (v := .ref p1) (C := RX10) (T := TX10) (N := 29) hx hb hts bk0 hown hK hP 0 rfl rfl 1 (by decide) (hts (.fieldLink RX10 8 "GradientDeskModel" "pieces" "[J") (List.mem_of_getElem? (i := 1) rfl)) (fun _ h9 => h9) h1 dX10_assign_30 ?_
  refine lv_bipush (v := nI 80) hx hb dX10_assign_33 (by decide +kernel) ?_
  refine lv_iload_n hx hb dX10_assign_35 rfl (lv_at hl 2 rfl) ?_
  refine lv_imul hx hb dX10_assign_36 ?_
  refine lv_topi (fun x_9 e_10 => ?_)
  obtain rfl : x_9 = nI (80 * s9) := e_10.trans (pk_mul 80 s9)
  refine lv_iconst (v := nI 1) hx hb dX10_assign_37 (by decide +kernel) ?_
  refine lv_iadd hx hb dX10_assign_38 ?_
  refine lv_topi (fun x_11 e_12 => ?_)
  obtain rfl : x_11 = nI (80 * s9 + 1) := e_12.trans (nI_add (80 * s9) 1)
  refine lv_lload hx hb dX10_assign_39 (lv_at hl 0 rfl) ?_
  refine lv_bipush (v := nI 32) hx hb dX10_assign_41 (by decide +kernel) ?_
  refine lv_lushr hx hb dX10_assign_43 rfl ?_
  refine lv_topl (fun y_13 e_14 => ?_)
  obtain rfl : y_13 = lN (a9 / 4294967296) := e_14.trans ((wb_shr (n := a9) (k := 32) (by omega) (by decide)).trans rfl)
  refine va_last hx hb hK hP hD hS 1 0 rfl rfl (vp_in_nI (show 80 * s9 + 1 < 165440 by omega) (by decide)) dX10_assign_44 (fun H locs hP hD hS => ?_)
  rw [nI_clamp (show 80 * s9 + 1 < 2 ^ 31 by omega)] at hP hD
  rw [k_updL] at hP hD
  have hb_15 : ∀ j, (va_up (va_up pn (80 * s9) (a9 % 4294967296)) (80 * s9 + 1) (a9 / 4294967296)) j < 4294967296 := k_up_lt hb_8 (by omega)
  have hP : va_P (dC, dI) vwCl ([(o, .inr (13, fs)), (p1, .inl (cP, 165440, .inr (.inl (fun j => lN ((va_up (va_up pn (80 * s9) (a9 % 4294967296)) (80 * s9 + 1) (a9 / 4294967296)) j))))), (l1, .inl (cL, 2068, .inl (fun j => nI (ln j)))), (b1, .inl (cB, 2068, .inl (fun j => nI (bn j))))]) H := hP
  have hD : va_D A ([(o, .inr (13, fs)), (p1, .inl (cP, 165440, .inr (.inl (fun j => lN ((va_up (va_up pn (80 * s9) (a9 % 4294967296)) (80 * s9 + 1) (a9 / 4294967296)) j))))), (l1, .inl (cL, 2068, .inl (fun j => nI (ln j)))), (b1, .inl (cB, 2068, .inl (fun j => nI (bn j))))]) := hD
  refine lv_aload_n hx hb dX10_assign_45 rfl (lv_at hl 1 rfl) ?_
  refine va_get (D := (dC, dI)) (ci := 13) (v := .ref l1) (C := RX10) (T := TX10) (N := 29) hx hb hts bk0 hown hK hP 0 rfl rfl 2 (by decide) (hts (.fieldLink RX10 14 "GradientDeskModel" "length" "[I") (List.mem_of_getElem? (i := 3) rfl)) (fun _ h9 => h9) h2 dX10_assign_46 ?_
  refine lv_iload_n hx hb dX10_assign_49 rfl (lv_at hl 2 rfl) ?_
  refine lv_iconst (v := nI 2) hx hb dX10_assign_50 (by decide +kernel) ?_
  refine va_iast hx hb hK hP hD hS 2 1 rfl rfl (vp_in_nI (show s9 < 2068 by omega) (by decide)) dX10_assign_51 (fun H locs hP hD hS => ?_)
  rw [nI_clamp (show s9 < 2 ^ 31 by omega)] at hP hD
  rw [k_updI] at hP hD
  have hb_16 : ∀ j, (va_up ln s9 2) j < 81 := k_up_lt hln (by omega)
  have hP : va_P (dC, dI) vwCl ([(o, .inr (13, fs)), (p1, .inl (cP, 165440, .inr (.inl (fun j => lN ((va_up (va_up pn (80 * s9) (a9 % 4294967296)) (80 * s9 + 1) (a9 / 4294967296)) j))))), (l1, .inl (cL, 2068, .inl (fun j => nI ((va_up ln s9 2) j)))), (b1, .inl (cB, 2068, .inl (fun j => nI (bn j))))]) H := hP
  have hD : va_D A ([(o, .inr (13, fs)), (p1, .inl (cP, 165440, .inr (.inl (fun j => lN ((va_up (va_up pn (80 * s9) (a9 % 4294967296)) (80 * s9 + 1) (a9 / 4294967296)) j))))), (l1, .inl (cL, 2068, .inl (fun j => nI ((va_up ln s9 2) j)))), (b1, .inl (cB, 2068, .inl (fun j => nI (bn j))))]) := hD
  refine lv_aload_n hx hb dX10_assign_52 rfl (lv_at hl 1 rfl) ?_
  refine va_get (D := (dC, dI)) (ci := 13) (v := .ref b1) (C := RX10) (T := TX10) (N := 29) hx hb hts bk0 hown hK hP 0 rfl rfl 3 (by decide) (hts (.fieldLink RX10 18 "GradientDeskModel" "below" "[Z") (List.mem_of_getElem? (i := 4) rfl)) (fun _ h9 => h9) h3 dX10_assign_53 ?_
  refine lv_iload_n hx hb dX10_assign_56 rfl (lv_at hl 2 rfl) ?_
  refine lv_lload_n hx hb dX10_assign_57 rfl (lv_at hl 3 rfl) ?_
  refine lv_lconst (v := lN 0) hx hb dX10_assign_58 (by decide +kernel) ?_
  refine W.lcmp hx hb dX10_assign_59 ?_
  refine lv_if_ge (tgt := 67) hx hb dX10_assign_60 (by decide) (fun c_17 => ?_) (fun c_17 => absurd (mt (pk_lLE (a := 0) (b := a9) (by decide) (by omega)).mpr (mt (k_cmp_ge (lN a9) (lN 0)).mpr c_17)) (by omega))
  refine lv_iconst (v := nI 0) hx hb dX10_assign_67 (by decide +kernel) ?_
  refine va_zast hx hb hK hP hD hS 3 2 rfl rfl (vp_in_nI (show s9 < 2068 by omega) (by decide)) dX10_assign_68 (fun H locs hP hD hS => ?_)
  rw [nI_clamp (show s9 < 2 ^ 31 by omega)] at hP hD
  rw [k_narZ (show 0 ≤ 1 by omega)] at hP hD
  rw [k_updI] at hP hD
  have hb_18 : ∀ j, (va_up bn s9 0) j < 2 := k_up_lt hbn (by omega)
  have hP : va_P (dC, dI) vwCl ([(o, .inr (13, fs)), (p1, .inl (cP, 165440, .inr (.inl (fun j => lN ((va_up (va_up pn (80 * s9) (a9 % 4294967296)) (80 * s9 + 1) (a9 / 4294967296)) j))))), (l1, .inl (cL, 2068, .inl (fun j => nI ((va_up ln s9 2) j)))), (b1, .inl (cB, 2068, .inl (fun j => nI ((va_up bn s9 0) j))))]) H := hP
  have hD : va_D A ([(o, .inr (13, fs)), (p1, .inl (cP, 165440, .inr (.inl (fun j => lN ((va_up (va_up pn (80 * s9) (a9 % 4294967296)) (80 * s9 + 1) (a9 / 4294967296)) j))))), (l1, .inl (cL, 2068, .inl (fun j => nI ((va_up ln s9 2) j)))), (b1, .inl (cB, 2068, .inl (fun j => nI ((va_up bn s9 0) j))))]) := hD
  refine lv_aload_n hx hb dX10_assign_69 rfl (lv_at hl 1 rfl) ?_
  refine lv_iload_n hx hb dX10_assign_70 rfl (lv_at hl 2 rfl) ?_
  have hPc := hP.sub (ws' := [(o, .inr (13, fs)), (p1, .inl (cP, 165440, .inr (.inl (fun j => lN ((va_up (va_up pn (80 * s9) (a9 % 4294967296)) (80 * s9 + 1) (a9 / 4294967296)) j))))), (l1, .inl (cL, 2068, .inl (fun j => nI ((va_up ln s9 2) j)))), (b1, .inl (cB, 2068, .inl (fun j => nI ((va_up bn s9 0) j))))]) [0, 1, 2, 3] rfl
  have hDc := hD.sub (ws' := [(o, .inr (13, fs)), (p1, .inl (cP, 165440, .inr (.inl (fun j => lN ((va_up (va_up pn (80 * s9) (a9 % 4294967296)) (80 * s9 + 1) (a9 / 4294967296)) j))))), (l1, .inl (cL, 2068, .inl (fun j => nI ((va_up ln s9 2) j)))), (b1, .inl (cB, 2068, .inl (fun j => nI ((va_up bn s9 0) j))))]) [0, 1, 2, 3] (by decide) rfl
  have hKc := hK.sub (tys' := [(cP, .long), (cL, .int), (cB, .boolean)]) [0, 1, 2] rfl
  have hFc := va_free (wc := [(o, .inr (13, fs)), (p1, .inl (cP, 165440, .inr (.inl (fun j => lN ((va_up (va_up pn (80 * s9) (a9 % 4294967296)) (80 * s9 + 1) (a9 / 4294967296)) j))))), (l1, .inl (cL, 2068, .inl (fun j => nI ((va_up ln s9 2) j)))), (b1, .inl (cB, 2068, .inl (fun j => nI ((va_up bn s9 0) j))))]) hD hS hA [0, 1, 2, 3] rfl
  refine va_callv (va_runV (As := [.int (nI s9)]) (rest := []) ⟨hx, hb, hml, hown, hts⟩ (c_X10_trim l dC dI (va_A [(o, .inr (13, fs)), (p1, .inl (cP, 165440, .inr (.inl (fun j => lN ((va_up (va_up pn (80 * s9) (a9 % 4294967296)) (80 * s9 + 1) (a9 / 4294967296)) j))))), (l1, .inl (cL, 2068, .inl (fun j => nI ((va_up ln s9 2) j)))), (b1, .inl (cB, 2068, .inl (fun j => nI ((va_up bn s9 0) j))))] H.size) H.size (fun _ h => Or.inr h) o fs p1 l1 b1 cP cL cB (va_up (va_up pn (80 * s9) (a9 % 4294967296)) (80 * s9 + 1) (a9 / 4294967296)) (va_up ln s9 2) (va_up bn s9 0) s9 h1 h2 h3 hb_15 hb_16 hb_18 hs) (cwV 1 hts (goodIn_app (goodIn_r [Cond.methodLink RX10 83 yX10_trim, Cond.instanceMethod yX10_trim, Cond.selects RX10 yX10_trim yX10_trim, Cond.initialized RX10] [5, 6, 7, 8] rfl rfl) (goodIn_sub (fun w9 h9 => bk1 w9 h9) gw_X10_trim)) rfl rfl rfl (by decide +kernel) ⟨Nat.le_of_ble_eq_true rfl, Nat.le_of_ble_eq_true rfl⟩) ⟨fun a U g mk q => by obtain ⟨q0, q1, qP, qK, qD⟩ := q; exact ⟨q0, q1, qP, va_K.moved (u := U) (U := U.calling g mk a) (Vm.Alike.refl U.vm) qK, qD⟩, va_recv hKc hPc (ci := 13) (q0 := 0) rfl rfl, fun U hU hW => ⟨rfl, by rw [hU], by rw [hU]; exact hPc, va_K.moved hW.alike hKc, hDc.self⟩⟩ rfl rfl hl.1 rfl (lv_room (Nat.le_of_ble_eq_true rfl)) dX10_assign_71 ⟨(Nat.le_of_ble_eq_true rfl), (Nat.le_of_ble_eq_true rfl)⟩) hS (fun q _ h => hFc q h) hFc (fun u t H1 locs ht hvm hw_19 hB hz1 hk1 hS => ?_)
  obtain ⟨pn2_20, ln2_21, bn2_22⟩ := u
  obtain ⟨hP1, hK1, hD1⟩ := hB
  rw [ht] at hP1
  have hK1 := va_K.moved hvm.symm hK1
  try dsimp only at hw_19
  obtain ⟨hP, hD⟩ := va_join (wr := []) (w1 := [(o, .inr (13, fs)), (p1, .inl (cP, 165440, .inr (.inl (fun j => lN (pn2_20 j))))), (l1, .inl (cL, 2068, .inl (fun j => nI (ln2_21 j)))), (b1, .inl (cB, 2068, .inl (fun j => nI (bn2_22 j))))]) hP hD [0, 1, 2, 3] [] rfl rfl (by decide) (by decide) hk1 hFc hP1 hD1
  have hK := (hK.sub (tys' := []) [] rfl).app hK1
  generalize H1 = H at hP hS ⊢
  have hP : va_P (dC, dI) vwCl ([(o, .inr (13, fs)), (p1, .inl (cP, 165440, .inr (.inl (fun j => lN (pn2_20 j))))), (l1, .inl (cL, 2068, .inl (fun j => nI (ln2_21 j)))), (b1, .inl (cB, 2068, .inl (fun j => nI (bn2_22 j))))]) H := hP
  have hD : va_D A ([(o, .inr (13, fs)), (p1, .inl (cP, 165440, .inr (.inl (fun j => lN (pn2_20 j))))), (l1, .inl (cL, 2068, .inl (fun j => nI (ln2_21 j)))), (b1, .inl (cB, 2068, .inl (fun j => nI (bn2_22 j))))]) := hD
  have hK : va_K (dC, dI) vwCl [(cP, .long), (cL, .int), (cB, .boolean)] s := hK
  obtain ⟨hb_23, hb_24, hb_25, rfl, m9, hm, hz, ht9, rfl, rfl⟩ := hw_19
  rw [va_up_self] at hm hz
  have hv0 : (va_up (va_up pn (80 * s9) (a9 % 4294967296)) (80 * s9 + 1) (a9 / 4294967296)) (80 * s9) = a9 := by rw [va_up_ne _ _ (by omega), va_up_self]; omega
  have hv1 : (va_up (va_up pn (80 * s9) (a9 % 4294967296)) (80 * s9 + 1) (a9 / 4294967296)) (80 * s9 + 1) = 0 := by rw [va_up_self]; omega
  have hm9 : m9 = if a9 = 0 then 0 else 1 := by
    by_cases h0 : a9 = 0
    · rw [if_pos h0]; rcases ht9 with h | ⟨h1, h2⟩
      · exact h
      · exfalso; rcases (show m9 = 1 ∨ m9 = 2 by omega) with rfl | rfl
        · exact h2 (hv0.trans h0)
        · exact h2 hv1
    · rw [if_neg h0]; rcases ht9 with h | ⟨h1, h2⟩
      · exfalso; subst h; exact h0 (hv0.symm.trans (hz 0 (Nat.le_refl _) (by decide)))
      · rcases (show m9 = 1 ∨ m9 = 2 by omega) with rfl | rfl
        · rfl
        · exact absurd hv1 h2
  have q1 : (va_up (va_up pn (80 * s9) (a9 % 4294967296)) (80 * s9 + 1) (a9 / 4294967296)) = va_up (va_up pn (80 * s9) a9) (80 * s9 + 1) 0 := by rw [show a9 % 4294967296 = a9 from Nat.mod_eq_of_lt ha, show a9 / 4294967296 = 0 from Nat.div_eq_of_lt ha]
  have q2 : (va_up (va_up ln s9 2) s9 m9) = va_up ln s9 (if a9 = 0 then 0 else 1) := by rw [k_up_up, hm9]
  have q3 : (va_up (va_up bn s9 0) s9 (if m9 = 0 then 0 else (va_up bn s9 0) s9)) = va_up bn s9 0 := by rw [k_up_up]; congr 1; split; rfl; rw [va_up_self]
  have hP9 := hP.sub (ws' := [(o, .inr (13, fs)), (p1, .inl (cP, 165440, .inr (.inl (fun j => lN ((va_up (va_up pn (80 * s9) (a9 % 4294967296)) (80 * s9 + 1) (a9 / 4294967296)) j))))), (l1, .inl (cL, 2068, .inl (fun j => nI ((va_up (va_up ln s9 2) s9 m9) j)))), (b1, .inl (cB, 2068, .inl (fun j => nI ((va_up (va_up bn s9 0) s9 (if m9 = 0 then 0 else (va_up bn s9 0) s9)) j))))]) [0, 1, 2, 3] rfl
  have hD9 := hD.sub (ws' := [(o, .inr (13, fs)), (p1, .inl (cP, 165440, .inr (.inl (fun j => lN ((va_up (va_up pn (80 * s9) (a9 % 4294967296)) (80 * s9 + 1) (a9 / 4294967296)) j))))), (l1, .inl (cL, 2068, .inl (fun j => nI ((va_up (va_up ln s9 2) s9 m9) j)))), (b1, .inl (cB, 2068, .inl (fun j => nI ((va_up (va_up bn s9 0) s9 (if m9 = 0 then 0 else (va_up bn s9 0) s9)) j))))]) [0, 1, 2, 3] (by decide) rfl
  have hK9 := hK.sub (tys' := [(cP, .long), (cL, .int), (cB, .boolean)]) [0, 1, 2] rfl
  refine W.widen (k := 0) (n := 0) (by omega) (by omega) ?_
  exact W.vret hx hb hr (fun t ht hW => ⟨⟨(va_up (va_up pn (80 * s9) (a9 % 4294967296)) (80 * s9 + 1) (a9 / 4294967296), va_up (va_up ln s9 2) s9 m9, va_up (va_up bn s9 0) s9 (if m9 = 0 then 0 else (va_up bn s9 0) s9)), rfl, ⟨hb_23, hb_24, hb_25, q1, q2, q3⟩, by rw [ht]; exact hP9, va_K.moved hW.alike hK9, hD9⟩, hS.F ht⟩) hS.2.2 dX10_assign_74
