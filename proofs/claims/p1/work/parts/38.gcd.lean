theorem k_asgN {pn ln : Nat → Nat} {s a : Nat} (h : a ≠ 0) : On1 (va_up (va_up pn (80 * s) a) (80 * s + 1) 0) (va_up ln s 1) s a ∧ Fr9 [s] pn ln (va_up (va_up pn (80 * s) a) (80 * s + 1) 0) (va_up ln s 1) := by
  have := k_asg (pn := pn) (ln := ln) (s := s) (a := a)
  rw [if_neg h] at this; exact this
theorem k_pw1 {a b c : Nat} (h : a * 2 ^ b < c) : a < c := Nat.lt_of_le_of_lt (Nat.le_mul_of_pos_right a (Nat.pow_pos (by decide))) h
theorem k_pw2 {a b c : Nat} (h : a * 2 ^ b < c) (he : a % 2 = 0) : a / 2 * 2 ^ (b + 1) < c := by
  rw [Nat.pow_succ, Nat.mul_comm (2 ^ b) 2, ← Nat.mul_assoc, Nat.div_mul_cancel (Nat.dvd_of_mod_eq_zero he)]; exact h
theorem k_pw3 {a a2 b c : Nat} (h : a * 2 ^ b < c) (he : a2 ≤ a) : a2 * 2 ^ b < c := Nat.lt_of_le_of_lt (Nat.mul_le_mul_right _ he) h
theorem k_pw4 {a b k c : Nat} (h : a * 2 ^ (b - k) < c) (hk : k < b) : 2 * a * 2 ^ (b - (k + 1)) < c := by
  rw [show b - k = b - (k + 1) + 1 by omega, Nat.pow_succ] at h
  rw [Nat.mul_comm 2 a, Nat.mul_assoc, Nat.mul_comm 2]; exact h
def wd_X10_assignN : List Cond := .code yX10_assign cX10_assign 6 none :: (([.fieldLink RX10 8 "GradientDeskModel" "pieces" "[J", .constantLong RX10 81 (4294967295), .fieldLink RX10 14 "GradientDeskModel" "length" "[I", .fieldLink RX10 18 "GradientDeskModel" "below" "[Z", .methodLink RX10 83 yX10_trim, .instanceMethod yX10_trim, .selects RX10 yX10_trim yX10_trim, .initialized RX10] : List Cond) ++ (u_ws RX10 TX10 29 ++ (wd_X10_trim ++ ([]))))
theorem gw_X10_assignN : wd_X10_assignN.all goodWord = true := k_allc rfl (k_all (by decide +kernel) (k_all (gu_X10) (k_all (gw_X10_trim) (rfl))))
abbrev at_X10_assignN (dC : Nat → ClassId) (dI : Nat → Nat → Nat) (A : Nat → Prop) (o : Nat) (fs : List Value) (p1 : Nat) (l1 : Nat) (b1 : Nat) (cP : ClassId) (cL : ClassId) (cB : ClassId) (pn : Nat → Nat) (ln : Nat → Nat) (bn : Nat → Nat) (s9 : Nat) (a9 : Nat) (u : (Nat → Nat) × (Nat → Nat) × (Nat → Nat)) (t : State) : Prop := match u with
  | (pn2, ln2, bn2) => va_P (dC, dI) vwCl [(o, .inr (13, fs)), (p1, .inl (cP, 165440, .inr (.inl (fun j => lN (pn2 j))))), (l1, .inl (cL, 2068, .inl (fun j => nI (ln2 j)))), (b1, .inl (cB, 2068, .inl (fun j => nI (bn2 j))))] t.heap ∧ va_K (dC, dI) vwCl [(cP, .long), (cL, .int), (cB, .boolean)] t ∧ va_D A [(o, .inr (13, fs)), (p1, .inl (cP, 165440, .inr (.inl (fun j => lN (pn2 j))))), (l1, .inl (cL, 2068, .inl (fun j => nI (ln2 j)))), (b1, .inl (cB, 2068, .inl (fun j => nI (bn2 j))))]
set_option maxHeartbeats 4000000 in
set_option maxRecDepth 100000 in
theorem c_X10_assignN (l : Launch) (dC : Nat → ClassId) (dI : Nat → Nat → Nat) (A : Nat → Prop) (sz : Nat) (hA0 : ∀ q, sz ≤ q → A q) (o : Nat) (fs : List Value) (p1 : Nat) (l1 : Nat) (b1 : Nat) (cP : ClassId) (cL : ClassId) (cB : ClassId) (pn : Nat → Nat) (ln : Nat → Nat) (bn : Nat → Nat) (s9 : Nat) (a9 : Nat) (h1 : fs[1]? = some (.ref p1)) (h2 : fs[2]? = some (.ref l1)) (h3 : fs[3]? = some (.ref b1)) (hpn : ∀ j, pn j < 4294967296) (hln : ∀ j, ln j < 81) (hbn : ∀ j, bn j < 2) (hs : s9 < 2068) (ha0 : 0 < a9) (ha : a9 < 2147483648) : Met l yX10_assign wd_X10_assignN ({ frames := 20, cells := 0, slots := 0, locals := 400 }) (va_Pc [.ref o, .int (nI s9), .long (-lN a9)] (fun U => U.heap.size = sz ∧ va_P (dC, dI) vwCl [(o, .inr (13, fs)), (p1, .inl (cP, 165440, .inr (.inl (fun j => lN (pn j))))), (l1, .inl (cL, 2068, .inl (fun j => nI (ln j)))), (b1, .inl (cB, 2068, .inl (fun j => nI (bn j))))] U.heap ∧ va_K (dC, dI) vwCl [(cP, .long), (cL, .int), (cB, .boolean)] U ∧ va_D A [(o, .inr (13, fs)), (p1, .inl (cP, 165440, .inr (.inl (fun j => lN (pn j))))), (l1, .inl (cL, 2068, .inl (fun j => nI (ln j)))), (b1, .inl (cB, 2068, .inl (fun j => nI (bn j))))])) (va_Qv (fun (u : (Nat → Nat) × (Nat → Nat) × (Nat → Nat)) => match u with | (pn2, ln2, bn2) => (∀ j, pn2 j < 4294967296) ∧ (∀ j, ln2 j < 81) ∧ (∀ j, bn2 j < 2) ∧ (Fr9 [s9] pn ln pn2 ln2 ∧ On1 pn2 ln2 s9 a9)) (at_X10_assignN dC dI A o fs p1 l1 b1 cP cL cB pn ln bn s9 a9) A) (0) (0) A := by
  refine Met.ofW (cc := cX10_assign) (maxL := 6) (ret := none) (by decide) rfl ?_
  intro p e s m args below meth c s₁ B hml hv
  obtain ⟨rfl, hsz, hP, hK, hD⟩ := hv
  have hx := B.exec
  have hb := B.bytes
  have hr := B.returns
  have hts := atoms_spec (ws := wd_X10_assignN) B.pre
  have hown : s.vm.findClass RX10 = some m.cls := findClass_of_methodNamed B.named
  have hlocks := B.notSynchronized
  have bk0 : ∀ w ∈ u_ws RX10 TX10 29, w ∈ wd_X10_assignN := fun _ h => List.mem_cons_of_mem _ (List.mem_append_right _ (List.mem_append_left _ h))
  have bk1 : ∀ w ∈ wd_X10_trim, w ∈ wd_X10_assignN := fun _ h => List.mem_cons_of_mem _ (List.mem_append_right _ (List.mem_append_right _ (List.mem_append_left _ h)))
  subst hsz
  have hA : ∀ q : Nat, s.heap.size ≤ q → A q := hA0
  have hS : va_S A s.heap s.heap [] := va_S.rf
  have hl := lv_entry ([.ref o, .int (nI s9), .long (-lN a9)]) (n := 6) (Nat.le_of_ble_eq_true rfl)
  rw [lg_entry_eq]
  generalize (lg_sl ([.ref o, .int (nI s9), .long (-lN a9)]) ++ List.replicate (6 - (lg_sl ([.ref o, .int (nI s9), .long (-lN a9)])).length) Slot.unset).toArray = ls at hl ⊢
  have hl : lv_has ls 6 [(0, .ref o), (1, .int (nI s9)), (2, .long (-lN a9))] := hl
  refine lv_lload_n hx hb dX10_assign_0 rfl (lv_at hl 2 rfl) ?_
  refine lv_lconst (v := lN 0) hx hb dX10_assign_1 (by decide +kernel) ?_
  refine W.lcmp hx hb dX10_assign_2 ?_
  refine lv_if_ge (tgt := 11) hx hb dX10_assign_3 (by decide) (fun c_1 => absurd ((k_cmp_ge _ _).mp c_1) (Int64.not_le.mpr (k_negL ha0 ha).1)) (fun c_1 => ?_)
  refine lv_lload_n hx hb dX10_assign_6 rfl (lv_at hl 2 rfl) ?_
  refine lv_lneg hx hb dX10_assign_7 ?_
  refine lv_topl (fun y_2 e_3 => ?_)
  obtain rfl : y_2 = lN a9 := e_3.trans (k_negL ha0 ha).2
  refine lv_goto (tgt := 12) hx hb dX10_assign_8 (by decide) ?_
  refine lv_lstore (lv' := [(4, .long (lN a9)), (0, .ref o), (1, .int (nI s9)), (2, .long (-lN a9))]) hx hb dX10_assign_12 hl (by decide) rfl (fun ls hl => ?_)
  refine lv_aload_n hx hb dX10_assign_14 rfl (lv_at hl 1 rfl) ?_
  refine va_get (D := (dC, dI)) (ci := 13) (v := .ref p1) (C := RX10) (T := TX10) (N := 29) hx hb hts bk0 hown hK hP 0 rfl rfl 1 (by decide) (hts (.fieldLink RX10 8 "GradientDeskModel" "pieces" "[J") (List.mem_of_getElem? (i := 1) rfl)) (fun _ h9 => h9) h1 dX10_assign_15 ?_
  refine lv_bipush (v := nI 80) hx hb dX10_assign_18 (by decide +kernel) ?_
  refine lv_iload_n hx hb dX10_assign_20 rfl (lv_at hl 2 rfl) ?_
  refine lv_imul hx hb dX10_assign_21 ?_
  refine lv_topi (fun x_4 e_5 => ?_)
  obtain rfl : x_4 = nI (80 * s9) := e_5.trans (pk_mul 80 s9)
  refine lv_lload hx hb dX10_assign_22 (lv_at hl 0 rfl) ?_
  refine lv_ldc2 (v := 4294967295) hx hb hown (hts (.constantLong RX10 81 (4294967295)) (List.mem_of_getElem? (i := 2) rfl)) dX10_assign_24 ?_
  refine lv_topl (fun y_6 e_7 => ?_)
  obtain rfl : y_6 = lN 4294967295 := e_7
  refine lv_land hx hb dX10_assign_27 ?_
  refine lv_topl (fun y_8 e_9 => ?_)
  obtain rfl : y_8 = lN (a9 % 4294967296) := e_9.trans (g_mask (a := a9) (s := 32) (p := 4294967296) (by decide) (by decide) (by omega))
  refine va_last hx hb hK hP hD hS 1 0 rfl rfl (vp_in_nI (show 80 * s9 < 165440 by omega) (by decide)) dX10_assign_28 (fun H locs hP hD hS => ?_)
  rw [nI_clamp (show 80 * s9 < 2 ^ 31 by omega)] at hP hD
  rw [k_updL] at hP hD
  have hb_10 : ∀ j, (va_up pn (80 * s9) (a9 % 4294967296)) j < 4294967296 := k_up_lt hpn (by omega)
  have hP : va_P (dC, dI) vwCl ([(o, .inr (13, fs)), (p1, .inl (cP, 165440, .inr (.inl (fun j => lN ((va_up pn (80 * s9) (a9 % 4294967296)) j))))), (l1, .inl (cL, 2068, .inl (fun j => nI (ln j)))), (b1, .inl (cB, 2068, .inl (fun j => nI (bn j))))]) H := hP
  have hD : va_D A ([(o, .inr (13, fs)), (p1, .inl (cP, 165440, .inr (.inl (fun j => lN ((va_up pn (80 * s9) (a9 % 4294967296)) j))))), (l1, .inl (cL, 2068, .inl (fun j => nI (ln j)))), (b1, .inl (cB, 2068, .inl (fun j => nI (bn j))))]) := hD
  refine lv_aload_n hx hb dX10_assign_29 rfl (lv_at hl 1 rfl) ?_
  refine va_get (D := (dC, dI)) (ci := 13) (v := .ref p1) (C := RX10) (T := TX10) (N := 29) hx hb hts bk0 hown hK hP 0 rfl rfl 1 (by decide) (hts (.fieldLink RX10 8 "GradientDeskModel" "pieces" "[J") (List.mem_of_getElem? (i := 1) rfl)) (fun _ h9 => h9) h1 dX10_assign_30 ?_
  refine lv_bipush (v := nI 80) hx hb dX10_assign_33 (by decide +kernel) ?_
  refine lv_iload_n hx hb dX10_assign_35 rfl (lv_at hl 2 rfl) ?_
  refine lv_imul hx hb dX10_assign_36 ?_
  refine lv_topi (fun x_11 e_12 => ?_)
  obtain rfl : x_11 = nI (80 * s9) := e_12.trans (pk_mul 80 s9)
  refine lv_iconst (v := nI 1) hx hb dX10_assign_37 (by decide +kernel) ?_
  refine lv_iadd hx hb dX10_assign_38 ?_
  refine lv_topi (fun x_13 e_14 => ?_)
  obtain rfl : x_13 = nI (80 * s9 + 1) := e_14.trans (nI_add (80 * s9) 1)
  refine lv_lload hx hb dX10_assign_39 (lv_at hl 0 rfl) ?_
  refine lv_bipush (v := nI 32) hx hb dX10_assign_41 (by decide +kernel) ?_
  refine lv_lushr hx hb dX10_assign_43 rfl ?_
  refine lv_topl (fun y_15 e_16 => ?_)
  obtain rfl : y_15 = lN (a9 / 4294967296) := e_16.trans ((wb_shr (n := a9) (k := 32) (by omega) (by decide)).trans rfl)
  refine va_last hx hb hK hP hD hS 1 0 rfl rfl (vp_in_nI (show 80 * s9 + 1 < 165440 by omega) (by decide)) dX10_assign_44 (fun H locs hP hD hS => ?_)
  rw [nI_clamp (show 80 * s9 + 1 < 2 ^ 31 by omega)] at hP hD
  rw [k_updL] at hP hD
  have hb_17 : ∀ j, (va_up (va_up pn (80 * s9) (a9 % 4294967296)) (80 * s9 + 1) (a9 / 4294967296)) j < 4294967296 := k_up_lt hb_10 (by omega)
  have hP : va_P (dC, dI) vwCl ([(o, .inr (13, fs)), (p1, .inl (cP, 165440, .inr (.inl (fun j => lN ((va_up (va_up pn (80 * s9) (a9 % 4294967296)) (80 * s9 + 1) (a9 / 4294967296)) j))))), (l1, .inl (cL, 2068, .inl (fun j => nI (ln j)))), (b1, .inl (cB, 2068, .inl (fun j => nI (bn j))))]) H := hP
  have hD : va_D A ([(o, .inr (13, fs)), (p1, .inl (cP, 165440, .inr (.inl (fun j => lN ((va_up (va_up pn (80 * s9) (a9 % 4294967296)) (80 * s9 + 1) (a9 / 4294967296)) j))))), (l1, .inl (cL, 2068, .inl (fun j => nI (ln j)))), (b1, .inl (cB, 2068, .inl (fun j => nI (bn j))))]) := hD
  refine lv_aload_n hx hb dX10_assign_45 rfl (lv_at hl 1 rfl) ?_
  refine va_get (D := (dC, dI)) (ci := 13) (v := .ref l1) (C := RX10) (T := TX10) (N := 29) hx hb hts bk0 hown hK hP 0 rfl rfl 2 (by decide) (hts (.fieldLink RX10 14 "GradientDeskModel" "length" "[I") (List.mem_of_getElem? (i := 3) rfl)) (fun _ h9 => h9) h2 dX10_assign_46 ?_
  refine lv_iload_n hx hb dX10_assign_49 rfl (lv_at hl 2 rfl) ?_
  refine lv_iconst (v := nI 2) hx hb dX10_assign_50 (by decide +kernel) ?_
  refine va_iast hx hb hK hP hD hS 2 1 rfl rfl (vp_in_nI (show s9 < 2068 by omega) (by decide)) dX10_assign_51 (fun H locs hP hD hS => ?_)
  rw [nI_clamp (show s9 < 2 ^ 31 by omega)] at hP hD
  rw [k_updI] at hP hD
  have hb_18 : ∀ j, (va_up ln s9 2) j < 81 := k_up_lt hln (by omega)
  have hP : va_P (dC, dI) vwCl ([(o, .inr (13, fs)), (p1, .inl (cP, 165440, .inr (.inl (fun j => lN ((va_up (va_up pn (80 * s9) (a9 % 4294967296)) (80 * s9 + 1) (a9 / 4294967296)) j))))), (l1, .inl (cL, 2068, .inl (fun j => nI ((va_up ln s9 2) j)))), (b1, .inl (cB, 2068, .inl (fun j => nI (bn j))))]) H := hP
  have hD : va_D A ([(o, .inr (13, fs)), (p1, .inl (cP, 165440, .inr (.inl (fun j => lN ((va_up (va_up pn (80 * s9) (a9 % 4294967296)) (80 * s9 + 1) (a9 / 4294967296)) j))))), (l1, .inl (cL, 2068, .inl (fun j => nI ((va_up ln s9 2) j)))), (b1, .inl (cB, 2068, .inl (fun j => nI (bn j))))]) := hD
  refine lv_aload_n hx hb dX10_assign_52 rfl (lv_at hl 1 rfl) ?_
  refine va_get (D := (dC, dI)) (ci := 13) (v := .ref b1) (C := RX10) (T := TX10) (N := 29) hx hb hts bk0 hown hK hP 0 rfl rfl 3 (by decide) (hts (.fieldLink RX10 18 "GradientDeskModel" "below" "[Z") (List.mem_of_getElem? (i := 4) rfl)) (fun _ h9 => h9) h3 dX10_assign_53 ?_
  refine lv_iload_n hx hb dX10_assign_56 rfl (lv_at hl 2 rfl) ?_
  refine lv_lload_n hx hb dX10_assign_57 rfl (lv_at hl 3 rfl) ?_
  refine lv_lconst (v := lN 0) hx hb dX10_assign_58 (by decide +kernel) ?_
  refine W.lcmp hx hb dX10_assign_59 ?_
  refine lv_if_ge (tgt := 67) hx hb dX10_assign_60 (by decide) (fun c_19 => absurd ((k_cmp_ge _ _).mp c_19) (Int64.not_le.mpr (k_negL ha0 ha).1)) (fun c_19 => ?_)
  refine lv_iconst (v := nI 1) hx hb dX10_assign_63 (by decide +kernel) ?_
  refine lv_goto (tgt := 68) hx hb dX10_assign_64 (by decide) ?_
  refine va_zast hx hb hK hP hD hS 3 2 rfl rfl (vp_in_nI (show s9 < 2068 by omega) (by decide)) dX10_assign_68 (fun H locs hP hD hS => ?_)
  rw [nI_clamp (show s9 < 2 ^ 31 by omega)] at hP hD
  rw [k_narZ (show 1 ≤ 1 by omega)] at hP hD
  rw [k_updI] at hP hD
  have hb_20 : ∀ j, (va_up bn s9 1) j < 2 := k_up_lt hbn (by omega)
  have hP : va_P (dC, dI) vwCl ([(o, .inr (13, fs)), (p1, .inl (cP, 165440, .inr (.inl (fun j => lN ((va_up (va_up pn (80 * s9) (a9 % 4294967296)) (80 * s9 + 1) (a9 / 4294967296)) j))))), (l1, .inl (cL, 2068, .inl (fun j => nI ((va_up ln s9 2) j)))), (b1, .inl (cB, 2068, .inl (fun j => nI ((va_up bn s9 1) j))))]) H := hP
  have hD : va_D A ([(o, .inr (13, fs)), (p1, .inl (cP, 165440, .inr (.inl (fun j => lN ((va_up (va_up pn (80 * s9) (a9 % 4294967296)) (80 * s9 + 1) (a9 / 4294967296)) j))))), (l1, .inl (cL, 2068, .inl (fun j => nI ((va_up ln s9 2) j)))), (b1, .inl (cB, 2068, .inl (fun j => nI ((va_up bn s9 1) j))))]) := hD
  refine lv_aload_n hx hb dX10_assign_69 rfl (lv_at hl 1 rfl) ?_
  refine lv_iload_n hx hb dX10_assign_70 rfl (lv_at hl 2 rfl) ?_
  have hPc := hP.sub (ws' := [(o, .inr (13, fs)), (p1, .inl (cP, 165440, .inr (.inl (fun j => lN ((va_up (va_up pn (80 * s9) (a9 % 4294967296)) (80 * s9 + 1) (a9 / 4294967296)) j))))), (l1, .inl (cL, 2068, .inl (fun j => nI ((va_up ln s9 2) j)))), (b1, .inl (cB, 2068, .inl (fun j => nI ((va_up bn s9 1) j))))]) [0, 1, 2, 3] rfl
  have hDc := hD.sub (ws' := [(o, .inr (13, fs)), (p1, .inl (cP, 165440, .inr (.inl (fun j => lN ((va_up (va_up pn (80 * s9) (a9 % 4294967296)) (80 * s9 + 1) (a9 / 4294967296)) j))))), (l1, .inl (cL, 2068, .inl (fun j => nI ((va_up ln s9 2) j)))), (b1, .inl (cB, 2068, .inl (fun j => nI ((va_up bn s9 1) j))))]) [0, 1, 2, 3] (by decide) rfl
  have hKc := hK.sub (tys' := [(cP, .long), (cL, .int), (cB, .boolean)]) [0, 1, 2] rfl
  have hFc := va_free (wc := [(o, .inr (13, fs)), (p1, .inl (cP, 165440, .inr (.inl (fun j => lN ((va_up (va_up pn (80 * s9) (a9 % 4294967296)) (80 * s9 + 1) (a9 / 4294967296)) j))))), (l1, .inl (cL, 2068, .inl (fun j => nI ((va_up ln s9 2) j)))), (b1, .inl (cB, 2068, .inl (fun j => nI ((va_up bn s9 1) j))))]) hD hS hA [0, 1, 2, 3] rfl
  refine va_callv (va_runV (As := [.int (nI s9)]) (rest := []) ⟨hx, hb, hml, hown, hts⟩ (c_X10_trim l dC dI (va_A [(o, .inr (13, fs)), (p1, .inl (cP, 165440, .inr (.inl (fun j => lN ((va_up (va_up pn (80 * s9) (a9 % 4294967296)) (80 * s9 + 1) (a9 / 4294967296)) j))))), (l1, .inl (cL, 2068, .inl (fun j => nI ((va_up ln s9 2) j)))), (b1, .inl (cB, 2068, .inl (fun j => nI ((va_up bn s9 1) j))))] H.size) H.size (fun _ h => Or.inr h) o fs p1 l1 b1 cP cL cB (va_up (va_up pn (80 * s9) (a9 % 4294967296)) (80 * s9 + 1) (a9 / 4294967296)) (va_up ln s9 2) (va_up bn s9 1) s9 h1 h2 h3 hb_17 hb_18 hb_20 hs) (cwV 1 hts (goodIn_app (goodIn_r [Cond.methodLink RX10 83 yX10_trim, Cond.instanceMethod yX10_trim, Cond.selects RX10 yX10_trim yX10_trim, Cond.initialized RX10] [5, 6, 7, 8] rfl rfl) (goodIn_sub (fun w9 h9 => bk1 w9 h9) gw_X10_trim)) rfl rfl rfl (by decide +kernel) ⟨Nat.le_of_ble_eq_true rfl, Nat.le_of_ble_eq_true rfl⟩) ⟨fun a U g mk q => by obtain ⟨q0, q1, qP, qK, qD⟩ := q; exact ⟨q0, q1, qP, va_K.moved (u := U) (U := U.calling g mk a) (Vm.Alike.refl U.vm) qK, qD⟩, va_recv hKc hPc (ci := 13) (q0 := 0) rfl rfl, fun U hU hW => ⟨rfl, by rw [hU], by rw [hU]; exact hPc, va_K.moved hW.alike hKc, hDc.self⟩⟩ rfl rfl hl.1 rfl (lv_room (Nat.le_of_ble_eq_true rfl)) dX10_assign_71 ⟨(Nat.le_of_ble_eq_true rfl), (Nat.le_of_ble_eq_true rfl)⟩) hS (fun q _ h => hFc q h) hFc (fun u t H1 locs ht hvm hw_21 hB hz1 hk1 hS => ?_)
  obtain ⟨pn2_22, ln2_23, bn2_24⟩ := u
  obtain ⟨hP1, hK1, hD1⟩ := hB
  rw [ht] at hP1
  have hK1 := va_K.moved hvm.symm hK1
  try dsimp only at hw_21
  obtain ⟨hP, hD⟩ := va_join (wr := []) (w1 := [(o, .inr (13, fs)), (p1, .inl (cP, 165440, .inr (.inl (fun j => lN (pn2_22 j))))), (l1, .inl (cL, 2068, .inl (fun j => nI (ln2_23 j)))), (b1, .inl (cB, 2068, .inl (fun j => nI (bn2_24 j))))]) hP hD [0, 1, 2, 3] [] rfl rfl (by decide) (by decide) hk1 hFc hP1 hD1
  have hK := (hK.sub (tys' := []) [] rfl).app hK1
  generalize H1 = H at hP hS ⊢
  have hP : va_P (dC, dI) vwCl ([(o, .inr (13, fs)), (p1, .inl (cP, 165440, .inr (.inl (fun j => lN (pn2_22 j))))), (l1, .inl (cL, 2068, .inl (fun j => nI (ln2_23 j)))), (b1, .inl (cB, 2068, .inl (fun j => nI (bn2_24 j))))]) H := hP
  have hD : va_D A ([(o, .inr (13, fs)), (p1, .inl (cP, 165440, .inr (.inl (fun j => lN (pn2_22 j))))), (l1, .inl (cL, 2068, .inl (fun j => nI (ln2_23 j)))), (b1, .inl (cB, 2068, .inl (fun j => nI (bn2_24 j))))]) := hD
  have hK : va_K (dC, dI) vwCl [(cP, .long), (cL, .int), (cB, .boolean)] s := hK
  obtain ⟨hb_25, hb_26, hb_27, hpq, m9, hm, hz, ht9, rfl, rfl⟩ := hw_21
  obtain rfl := hpq.symm
  have hl9 : (va_up ln s9 2) s9 = 2 := va_up_self _ _ _
  have hx9 : (va_up (va_up pn (80 * s9) (a9 % 4294967296)) (80 * s9 + 1) (a9 / 4294967296)) (80 * s9) = a9 := by rw [va_up_ne _ _ (by omega), va_up_self]; omega
  have hT : On1 (va_up (va_up pn (80 * s9) (a9 % 4294967296)) (80 * s9 + 1) (a9 / 4294967296)) (va_up (va_up ln s9 2) s9 m9) s9 a9 := k_On1_eq (k_ltrim (Or.inr ⟨hl9, by rw [va_up_self]; omega⟩) hm hz ht9) (by rw [hl9, if_neg (show ¬ 2 = 0 by decide), hx9])
  have hP9 := hP.sub (ws' := [(o, .inr (13, fs)), (p1, .inl (cP, 165440, .inr (.inl (fun j => lN ((va_up (va_up pn (80 * s9) (a9 % 4294967296)) (80 * s9 + 1) (a9 / 4294967296)) j))))), (l1, .inl (cL, 2068, .inl (fun j => nI ((va_up (va_up ln s9 2) s9 m9) j)))), (b1, .inl (cB, 2068, .inl (fun j => nI ((va_up (va_up bn s9 1) s9 (if m9 = 0 then 0 else (va_up bn s9 1) s9)) j))))]) [0, 1, 2, 3] rfl
  have hD9 := hD.sub (ws' := [(o, .inr (13, fs)), (p1, .inl (cP, 165440, .inr (.inl (fun j => lN ((va_up (va_up pn (80 * s9) (a9 % 4294967296)) (80 * s9 + 1) (a9 / 4294967296)) j))))), (l1, .inl (cL, 2068, .inl (fun j => nI ((va_up (va_up ln s9 2) s9 m9) j)))), (b1, .inl (cB, 2068, .inl (fun j => nI ((va_up (va_up bn s9 1) s9 (if m9 = 0 then 0 else (va_up bn s9 1) s9)) j))))]) [0, 1, 2, 3] (by decide) rfl
  have hK9 := hK.sub (tys' := [(cP, .long), (cL, .int), (cB, .boolean)]) [0, 1, 2] rfl
  refine W.widen (k := 0) (n := 0) (by omega) (by omega) ?_
  exact W.vret hx hb hr (fun t ht hW => ⟨⟨(va_up (va_up pn (80 * s9) (a9 % 4294967296)) (80 * s9 + 1) (a9 / 4294967296), va_up (va_up ln s9 2) s9 m9, va_up (va_up bn s9 1) s9 (if m9 = 0 then 0 else (va_up bn s9 1) s9)), rfl, ⟨hb_25, hb_26, hb_27, (by intro j hj; simp only [List.mem_cons, List.not_mem_nil, or_false, not_or] at hj; constructor <;> first | rfl | (simp only [va_up]; (repeat' split) <;> first | rfl | omega)), hT⟩, by rw [ht]; exact hP9, va_K.moved hW.alike hK9, hD9⟩, hS.F ht⟩) hS.2.2 dX10_assign_74
def wd_X10_divisor : List Cond := .code yX10_divisor cX10_divisor 5 none :: (([.methodLink RX10 92 yX10_copy, .instanceMethod yX10_copy, .selects RX10 yX10_copy yX10_copy, .initialized RX10, .fieldLink RX10 18 "GradientDeskModel" "below" "[Z", .methodLink RX10 107 yX10_isEven, .instanceMethod yX10_isEven, .selects RX10 yX10_isEven yX10_isEven, .methodLink RX10 111 yX10_halve, .instanceMethod yX10_halve, .selects RX10 yX10_halve yX10_halve, .fieldLink RX10 14 "GradientDeskModel" "length" "[I", .methodLink RX10 114 yX10_twice, .instanceMethod yX10_twice, .selects RX10 yX10_twice yX10_twice, .methodLink RX10 100 yX10_compareSizes, .instanceMethod yX10_compareSizes, .selects RX10 yX10_compareSizes yX10_compareSizes, .methodLink RX10 104 yX10_takeSizes, .instanceMethod yX10_takeSizes, .selects RX10 yX10_takeSizes yX10_takeSizes] : List Cond) ++ (wd_X10_copy ++ (u_ws RX10 TX10 29 ++ (wd_X10_isEven ++ (wd_X10_halve ++ (wd_X10_twice ++ (wd_X10_cmp ++ (wd_X10_take ++ ([])))))))))
theorem gw_X10_divisor : wd_X10_divisor.all goodWord = true := k_allc rfl (k_all (by decide +kernel) (k_all (gw_X10_copy) (k_all (gu_X10) (k_all (gw_X10_isEven) (k_all (gw_X10_halve) (k_all (gw_X10_twice) (k_all (gw_X10_cmp) (k_all (gw_X10_take) (rfl)))))))))
abbrev at_X10_divisor (dC : Nat → ClassId) (dI : Nat → Nat → Nat) (A : Nat → Prop) (o : Nat) (fs : List Value) (p1 : Nat) (l1 : Nat) (b1 : Nat) (cP : ClassId) (cL : ClassId) (cB : ClassId) (pn : Nat → Nat) (ln : Nat → Nat) (bn : Nat → Nat) (s9 : Nat) (t9 : Nat) (v9 : Nat) (w9 : Nat) (u : (Nat → Nat) × (Nat → Nat) × (Nat → Nat) × Nat) (t : State) : Prop := match u with
  | (pn2, ln2, bn2, gg) => va_P (dC, dI) vwCl [(o, .inr (13, fs)), (p1, .inl (cP, 165440, .inr (.inl (fun j => lN (pn2 j))))), (l1, .inl (cL, 2068, .inl (fun j => nI (ln2 j)))), (b1, .inl (cB, 2068, .inl (fun j => nI (bn2 j))))] t.heap ∧ va_K (dC, dI) vwCl [(cP, .long), (cL, .int), (cB, .boolean)] t ∧ va_D A [(o, .inr (13, fs)), (p1, .inl (cP, 165440, .inr (.inl (fun j => lN (pn2 j))))), (l1, .inl (cL, 2068, .inl (fun j => nI (ln2 j)))), (b1, .inl (cB, 2068, .inl (fun j => nI (bn2 j))))]
set_option maxHeartbeats 4000000 in
set_option maxRecDepth 100000 in
theorem c_X10_divisor (l : Launch) (dC : Nat → ClassId) (dI : Nat → Nat → Nat) (A : Nat → Prop) (sz : Nat) (hA0 : ∀ q, sz ≤ q → A q) (o : Nat) (fs : List Value) (p1 : Nat) (l1 : Nat) (b1 : Nat) (cP : ClassId) (cL : ClassId) (cB : ClassId) (pn : Nat → Nat) (ln : Nat → Nat) (bn : Nat → Nat) (s9 : Nat) (t9 : Nat) (v9 : Nat) (w9 : Nat) (h1 : fs[1]? = some (.ref p1)) (h2 : fs[2]? = some (.ref l1)) (h3 : fs[3]? = some (.ref b1)) (hpn : ∀ j, pn j < 4294967296) (hln : ∀ j, ln j < 81) (hbn : ∀ j, bn j < 2) (hs : s9 < 2060) (htq : t9 < 2060) (ha : On1 pn ln s9 v9) (hb9 : On1 pn ln t9 w9) (hv0 : 0 < v9) (hw0 : 0 < w9) (hv4 : v9 < 16384) (hw4 : w9 < 16384) : Met l yX10_divisor wd_X10_divisor ({ frames := 40, cells := 0, slots := 0, locals := 800 }) (va_Pc [.ref o, .int (nI s9), .int (nI t9)] (fun U => U.heap.size = sz ∧ va_P (dC, dI) vwCl [(o, .inr (13, fs)), (p1, .inl (cP, 165440, .inr (.inl (fun j => lN (pn j))))), (l1, .inl (cL, 2068, .inl (fun j => nI (ln j)))), (b1, .inl (cB, 2068, .inl (fun j => nI (bn j))))] U.heap ∧ va_K (dC, dI) vwCl [(cP, .long), (cL, .int), (cB, .boolean)] U ∧ va_D A [(o, .inr (13, fs)), (p1, .inl (cP, 165440, .inr (.inl (fun j => lN (pn j))))), (l1, .inl (cL, 2068, .inl (fun j => nI (ln j)))), (b1, .inl (cB, 2068, .inl (fun j => nI (bn j))))])) (va_Qv (fun (u : (Nat → Nat) × (Nat → Nat) × (Nat → Nat) × Nat) => match u with | (pn2, ln2, bn2, gg) => (∀ j, pn2 j < 4294967296) ∧ (∀ j, ln2 j < 81) ∧ (∀ j, bn2 j < 2) ∧ (Fr9 [2060, 2061, 2066] pn ln pn2 ln2 ∧ On1 pn2 ln2 2060 gg ∧ 0 < gg ∧ gg < 16384)) (at_X10_divisor dC dI A o fs p1 l1 b1 cP cL cB pn ln bn s9 t9 v9 w9) A) (0) (0) A := by
  refine Met.ofW (cc := cX10_divisor) (maxL := 5) (ret := none) (by decide) rfl ?_
  intro p e s m args below meth c s₁ B hml hv
  obtain ⟨rfl, hsz, hP, hK, hD⟩ := hv
  have hx := B.exec
  have hb := B.bytes
  have hr := B.returns
  have hts := atoms_spec (ws := wd_X10_divisor) B.pre
  have hown : s.vm.findClass RX10 = some m.cls := findClass_of_methodNamed B.named
  have hlocks := B.notSynchronized
  have bk0 : ∀ w ∈ wd_X10_copy, w ∈ wd_X10_divisor := fun _ h => List.mem_cons_of_mem _ (List.mem_append_right _ (List.mem_append_left _ h))
  have bk1 : ∀ w ∈ u_ws RX10 TX10 29, w ∈ wd_X10_divisor := fun _ h => List.mem_cons_of_mem _ (List.mem_append_right _ (List.mem_append_right _ (List.mem_append_left _ h)))
  have bk2 : ∀ w ∈ wd_X10_isEven, w ∈ wd_X10_divisor := fun _ h => List.mem_cons_of_mem _ (List.mem_append_right _ (List.mem_append_right _ (List.mem_append_right _ (List.mem_append_left _ h))))
  have bk3 : ∀ w ∈ wd_X10_halve, w ∈ wd_X10_divisor := fun _ h => List.mem_cons_of_mem _ (List.mem_append_right _ (List.mem_append_right _ (List.mem_append_right _ (List.mem_append_right _ (List.mem_append_left _ h)))))
  have bk4 : ∀ w ∈ wd_X10_twice, w ∈ wd_X10_divisor := fun _ h => List.mem_cons_of_mem _ (List.mem_append_right _ (List.mem_append_right _ (List.mem_append_right _ (List.mem_append_right _ (List.mem_append_right _ (List.mem_append_left _ h))))))
  have bk5 : ∀ w ∈ wd_X10_cmp, w ∈ wd_X10_divisor := fun _ h => List.mem_cons_of_mem _ (List.mem_append_right _ (List.mem_append_right _ (List.mem_append_right _ (List.mem_append_right _ (List.mem_append_right _ (List.mem_append_right _ (List.mem_append_left _ h)))))))
  have bk6 : ∀ w ∈ wd_X10_take, w ∈ wd_X10_divisor := fun _ h => List.mem_cons_of_mem _ (List.mem_append_right _ (List.mem_append_right _ (List.mem_append_right _ (List.mem_append_right _ (List.mem_append_right _ (List.mem_append_right _ (List.mem_append_right _ (List.mem_append_left _ h))))))))
  subst hsz
  have hA : ∀ q : Nat, s.heap.size ≤ q → A q := hA0
  have hS : va_S A s.heap s.heap [] := va_S.rf
  have hl := lv_entry ([.ref o, .int (nI s9), .int (nI t9)]) (n := 5) (Nat.le_of_ble_eq_true rfl)
  rw [lg_entry_eq]
  generalize (lg_sl ([.ref o, .int (nI s9), .int (nI t9)]) ++ List.replicate (5 - (lg_sl ([.ref o, .int (nI s9), .int (nI t9)])).length) Slot.unset).toArray = ls at hl ⊢
  have hl : lv_has ls 5 [(0, .ref o), (1, .int (nI s9)), (2, .int (nI t9))] := hl
  refine lv_aload_n hx hb dX10_divisor_0 rfl (lv_at hl 0 rfl) ?_
  refine lv_sipush (v := nI 2060) hx hb dX10_divisor_1 (by decide +kernel) ?_
  refine lv_iload_n hx hb dX10_divisor_4 rfl (lv_at hl 1 rfl) ?_
  have hPc := hP.sub (ws' := [(o, .inr (13, fs)), (p1, .inl (cP, 165440, .inr (.inl (fun j => lN (pn j))))), (l1, .inl (cL, 2068, .inl (fun j => nI (ln j)))), (b1, .inl (cB, 2068, .inl (fun j => nI (bn j))))]) [0, 1, 2, 3] rfl
  have hDc := hD.sub (ws' := [(o, .inr (13, fs)), (p1, .inl (cP, 165440, .inr (.inl (fun j => lN (pn j))))), (l1, .inl (cL, 2068, .inl (fun j => nI (ln j)))), (b1, .inl (cB, 2068, .inl (fun j => nI (bn j))))]) [0, 1, 2, 3] (by decide) rfl
  have hKc := hK.sub (tys' := [(cP, .long), (cL, .int), (cB, .boolean)]) [0, 1, 2] rfl
  have hFc := va_free (wc := [(o, .inr (13, fs)), (p1, .inl (cP, 165440, .inr (.inl (fun j => lN (pn j))))), (l1, .inl (cL, 2068, .inl (fun j => nI (ln j)))), (b1, .inl (cB, 2068, .inl (fun j => nI (bn j))))]) hD hS hA [0, 1, 2, 3] rfl
  refine va_callv (va_runV (As := [.int (nI 2060), .int (nI s9)]) (rest := []) ⟨hx, hb, hml, hown, hts⟩ (c_X10_copy l dC dI (va_A [(o, .inr (13, fs)), (p1, .inl (cP, 165440, .inr (.inl (fun j => lN (pn j))))), (l1, .inl (cL, 2068, .inl (fun j => nI (ln j)))), (b1, .inl (cB, 2068, .inl (fun j => nI (bn j))))] s.heap.size) s.heap.size (fun _ h => Or.inr h) o fs p1 l1 b1 cP cL cB pn ln bn 2060 s9 v9 h1 h2 h3 hpn hln hbn (by decide) (by omega) ha) (cwV 2 hts (goodIn_app (goodIn_r [Cond.methodLink RX10 92 yX10_copy, Cond.instanceMethod yX10_copy, Cond.selects RX10 yX10_copy yX10_copy, Cond.initialized RX10] [1, 2, 3, 4] rfl rfl) (goodIn_sub (fun w9 h9 => bk0 w9 h9) gw_X10_copy)) rfl rfl rfl (by decide +kernel) ⟨Nat.le_of_ble_eq_true rfl, Nat.le_of_ble_eq_true rfl⟩) ⟨fun a U g mk q => by obtain ⟨q0, q1, qP, qK, qD⟩ := q; exact ⟨q0, q1, qP, va_K.moved (u := U) (U := U.calling g mk a) (Vm.Alike.refl U.vm) qK, qD⟩, va_recv hKc hPc (ci := 13) (q0 := 0) rfl rfl, fun U hU hW => ⟨rfl, by rw [hU], by rw [hU]; exact hPc, va_K.moved hW.alike hKc, hDc.self⟩⟩ rfl rfl hl.1 rfl (lv_room (Nat.le_of_ble_eq_true rfl)) dX10_divisor_5 ⟨(Nat.le_of_ble_eq_true rfl), (Nat.le_of_ble_eq_true rfl)⟩) hS (fun q _ h => hFc q h) hFc (fun u t H1 locs ht hvm hw_1 hB hz1 hk1 hS => ?_)
  obtain ⟨pn2_2, ln2_3, bn2_4⟩ := u
  obtain ⟨hP1, hK1, hD1⟩ := hB
  rw [ht] at hP1
  have hK1 := va_K.moved hvm.symm hK1
  try dsimp only at hw_1
  obtain ⟨hP, hD⟩ := va_join (wr := []) (w1 := [(o, .inr (13, fs)), (p1, .inl (cP, 165440, .inr (.inl (fun j => lN (pn2_2 j))))), (l1, .inl (cL, 2068, .inl (fun j => nI (ln2_3 j)))), (b1, .inl (cB, 2068, .inl (fun j => nI (bn2_4 j))))]) hP hD [0, 1, 2, 3] [] rfl rfl (by decide) (by decide) hk1 hFc hP1 hD1
  have hK := (hK.sub (tys' := []) [] rfl).app hK1
  generalize H1 = H at hP hS ⊢
  have hP : va_P (dC, dI) vwCl ([(o, .inr (13, fs)), (p1, .inl (cP, 165440, .inr (.inl (fun j => lN (pn2_2 j))))), (l1, .inl (cL, 2068, .inl (fun j => nI (ln2_3 j)))), (b1, .inl (cB, 2068, .inl (fun j => nI (bn2_4 j))))]) H := hP
  have hD : va_D A ([(o, .inr (13, fs)), (p1, .inl (cP, 165440, .inr (.inl (fun j => lN (pn2_2 j))))), (l1, .inl (cL, 2068, .inl (fun j => nI (ln2_3 j)))), (b1, .inl (cB, 2068, .inl (fun j => nI (bn2_4 j))))]) := hD
  have hK : va_K (dC, dI) vwCl [(cP, .long), (cL, .int), (cB, .boolean)] s := hK
  obtain ⟨hb_5, hb_6, hb_7, rel_8⟩ := hw_1
  obtain ⟨fd0, od0, _⟩ := rel_8
  have hb10 := hb9.fr fd0 (by simp only [List.mem_cons, List.not_mem_nil, or_false]; omega)
  refine lv_aload_n hx hb dX10_divisor_8 rfl (lv_at hl 0 rfl) ?_
  refine lv_sipush (v := nI 2061) hx hb dX10_divisor_9 (by decide +kernel) ?_
  refine lv_iload_n hx hb dX10_divisor_12 rfl (lv_at hl 2 rfl) ?_
  have hPc := hP.sub (ws' := [(o, .inr (13, fs)), (p1, .inl (cP, 165440, .inr (.inl (fun j => lN (pn2_2 j))))), (l1, .inl (cL, 2068, .inl (fun j => nI (ln2_3 j)))), (b1, .inl (cB, 2068, .inl (fun j => nI (bn2_4 j))))]) [0, 1, 2, 3] rfl
  have hDc := hD.sub (ws' := [(o, .inr (13, fs)), (p1, .inl (cP, 165440, .inr (.inl (fun j => lN (pn2_2 j))))), (l1, .inl (cL, 2068, .inl (fun j => nI (ln2_3 j)))), (b1, .inl (cB, 2068, .inl (fun j => nI (bn2_4 j))))]) [0, 1, 2, 3] (by decide) rfl
  have hKc := hK.sub (tys' := [(cP, .long), (cL, .int), (cB, .boolean)]) [0, 1, 2] rfl
  have hFc := va_free (wc := [(o, .inr (13, fs)), (p1, .inl (cP, 165440, .inr (.inl (fun j => lN (pn2_2 j))))), (l1, .inl (cL, 2068, .inl (fun j => nI (ln2_3 j)))), (b1, .inl (cB, 2068, .inl (fun j => nI (bn2_4 j))))]) hD hS hA [0, 1, 2, 3] rfl
  refine va_callv (va_runV (As := [.int (nI 2061), .int (nI t9)]) (rest := []) ⟨hx, hb, hml, hown, hts⟩ (c_X10_copy l dC dI (va_A [(o, .inr (13, fs)), (p1, .inl (cP, 165440, .inr (.inl (fun j => lN (pn2_2 j))))), (l1, .inl (cL, 2068, .inl (fun j => nI (ln2_3 j)))), (b1, .inl (cB, 2068, .inl (fun j => nI (bn2_4 j))))] H.size) H.size (fun _ h => Or.inr h) o fs p1 l1 b1 cP cL cB pn2_2 ln2_3 bn2_4 2061 t9 w9 h1 h2 h3 hb_5 hb_6 hb_7 (by decide) (by omega) hb10) (cwV 2 hts (goodIn_app (goodIn_r [Cond.methodLink RX10 92 yX10_copy, Cond.instanceMethod yX10_copy, Cond.selects RX10 yX10_copy yX10_copy, Cond.initialized RX10] [1, 2, 3, 4] rfl rfl) (goodIn_sub (fun w9 h9 => bk0 w9 h9) gw_X10_copy)) rfl rfl rfl (by decide +kernel) ⟨Nat.le_of_ble_eq_true rfl, Nat.le_of_ble_eq_true rfl⟩) ⟨fun a U g mk q => by obtain ⟨q0, q1, qP, qK, qD⟩ := q; exact ⟨q0, q1, qP, va_K.moved (u := U) (U := U.calling g mk a) (Vm.Alike.refl U.vm) qK, qD⟩, va_recv hKc hPc (ci := 13) (q0 := 0) rfl rfl, fun U hU hW => ⟨rfl, by rw [hU], by rw [hU]; exact hPc, va_K.moved hW.alike hKc, hDc.self⟩⟩ rfl rfl hl.1 rfl (lv_room (Nat.le_of_ble_eq_true rfl)) dX10_divisor_13 ⟨(Nat.le_of_ble_eq_true rfl), (Nat.le_of_ble_eq_true rfl)⟩) hS (fun q _ h => hFc q h) hFc (fun u t H1 locs ht hvm hw_9 hB hz1 hk1 hS => ?_)
  obtain ⟨pn2_10, ln2_11, bn2_12⟩ := u
  obtain ⟨hP1, hK1, hD1⟩ := hB
  rw [ht] at hP1
  have hK1 := va_K.moved hvm.symm hK1
  try dsimp only at hw_9
  obtain ⟨hP, hD⟩ := va_join (wr := []) (w1 := [(o, .inr (13, fs)), (p1, .inl (cP, 165440, .inr (.inl (fun j => lN (pn2_10 j))))), (l1, .inl (cL, 2068, .inl (fun j => nI (ln2_11 j)))), (b1, .inl (cB, 2068, .inl (fun j => nI (bn2_12 j))))]) hP hD [0, 1, 2, 3] [] rfl rfl (by decide) (by decide) hk1 hFc hP1 hD1
  have hK := (hK.sub (tys' := []) [] rfl).app hK1
  generalize H1 = H at hP hS ⊢
  have hP : va_P (dC, dI) vwCl ([(o, .inr (13, fs)), (p1, .inl (cP, 165440, .inr (.inl (fun j => lN (pn2_10 j))))), (l1, .inl (cL, 2068, .inl (fun j => nI (ln2_11 j)))), (b1, .inl (cB, 2068, .inl (fun j => nI (bn2_12 j))))]) H := hP
  have hD : va_D A ([(o, .inr (13, fs)), (p1, .inl (cP, 165440, .inr (.inl (fun j => lN (pn2_10 j))))), (l1, .inl (cL, 2068, .inl (fun j => nI (ln2_11 j)))), (b1, .inl (cB, 2068, .inl (fun j => nI (bn2_12 j))))]) := hD
  have hK : va_K (dC, dI) vwCl [(cP, .long), (cL, .int), (cB, .boolean)] s := hK
  obtain ⟨hb_13, hb_14, hb_15, rel_16⟩ := hw_9
  obtain ⟨fd1, od1, _⟩ := rel_16
  have od0 := od0.fr fd1 (by simp only [List.mem_cons, List.not_mem_nil, or_false]; omega)
  have fd := fd0.tr (S := [2060, 2061, 2066]) fd1 (fun j h => by simp at h ⊢; omega) (fun j h => by simp at h ⊢; omega)
  refine lv_aload_n hx hb dX10_divisor_16 rfl (lv_at hl 0 rfl) ?_
  refine va_get (D := (dC, dI)) (ci := 13) (v := .ref b1) (C := RX10) (T := TX10) (N := 29) hx hb hts bk1 hown hK hP 0 rfl rfl 3 (by decide) (hts (.fieldLink RX10 18 "GradientDeskModel" "below" "[Z") (List.mem_of_getElem? (i := 5) rfl)) (fun _ h9 => h9) h3 dX10_divisor_17 ?_
  refine lv_sipush (v := nI 2060) hx hb dX10_divisor_20 (by decide +kernel) ?_
  refine lv_iconst (v := nI 0) hx hb dX10_divisor_23 (by decide +kernel) ?_
  refine va_zast hx hb hK hP hD hS 3 2 rfl rfl (vp_in_nI (show 2060 < 2068 by decide) (by decide)) dX10_divisor_24 (fun H locs hP hD hS => ?_)
  rw [nI_clamp (show 2060 < 2 ^ 31 by decide)] at hP hD
  rw [k_narZ (show 0 ≤ 1 by omega)] at hP hD
  rw [k_updI] at hP hD
  have hb_17 : ∀ j, (va_up bn2_12 2060 0) j < 2 := k_up_lt hb_15 (by omega)
  have hP : va_P (dC, dI) vwCl ([(o, .inr (13, fs)), (p1, .inl (cP, 165440, .inr (.inl (fun j => lN (pn2_10 j))))), (l1, .inl (cL, 2068, .inl (fun j => nI (ln2_11 j)))), (b1, .inl (cB, 2068, .inl (fun j => nI ((va_up bn2_12 2060 0) j))))]) H := hP
  have hD : va_D A ([(o, .inr (13, fs)), (p1, .inl (cP, 165440, .inr (.inl (fun j => lN (pn2_10 j))))), (l1, .inl (cL, 2068, .inl (fun j => nI (ln2_11 j)))), (b1, .inl (cB, 2068, .inl (fun j => nI ((va_up bn2_12 2060 0) j))))]) := hD
  refine lv_aload_n hx hb dX10_divisor_25 rfl (lv_at hl 0 rfl) ?_
  refine va_get (D := (dC, dI)) (ci := 13) (v := .ref b1) (C := RX10) (T := TX10) (N := 29) hx hb hts bk1 hown hK hP 0 rfl rfl 3 (by decide) (hts (.fieldLink RX10 18 "GradientDeskModel" "below" "[Z") (List.mem_of_getElem? (i := 5) rfl)) (fun _ h9 => h9) h3 dX10_divisor_26 ?_
  refine lv_sipush (v := nI 2061) hx hb dX10_divisor_29 (by decide +kernel) ?_
  refine lv_iconst (v := nI 0) hx hb dX10_divisor_32 (by decide +kernel) ?_
  refine va_zast hx hb hK hP hD hS 3 2 rfl rfl (vp_in_nI (show 2061 < 2068 by decide) (by decide)) dX10_divisor_33 (fun H locs hP hD hS => ?_)
  rw [nI_clamp (show 2061 < 2 ^ 31 by decide)] at hP hD
  rw [k_narZ (show 0 ≤ 1 by omega)] at hP hD
  rw [k_updI] at hP hD
  have hb_18 : ∀ j, (va_up (va_up bn2_12 2060 0) 2061 0) j < 2 := k_up_lt hb_17 (by omega)
  have hP : va_P (dC, dI) vwCl ([(o, .inr (13, fs)), (p1, .inl (cP, 165440, .inr (.inl (fun j => lN (pn2_10 j))))), (l1, .inl (cL, 2068, .inl (fun j => nI (ln2_11 j)))), (b1, .inl (cB, 2068, .inl (fun j => nI ((va_up (va_up bn2_12 2060 0) 2061 0) j))))]) H := hP
  have hD : va_D A ([(o, .inr (13, fs)), (p1, .inl (cP, 165440, .inr (.inl (fun j => lN (pn2_10 j))))), (l1, .inl (cL, 2068, .inl (fun j => nI (ln2_11 j)))), (b1, .inl (cB, 2068, .inl (fun j => nI ((va_up (va_up bn2_12 2060 0) 2061 0) j))))]) := hD
  refine lv_iconst (v := nI 0) hx hb dX10_divisor_34 (by decide +kernel) ?_
  refine lv_istore_n (lv' := [(3, .int (nI 0)), (0, .ref o), (1, .int (nI s9)), (2, .int (nI t9))]) hx hb dX10_divisor_35 rfl hl (by decide) rfl (fun ls hl => ?_)
  have loop_19 : ∀ (k9 : Nat) (kk : Nat) (g9 : Nat) (h9x : Nat) (pn8 : Nat → Nat) (ln8 : Nat → Nat) (bn8 : Nat → Nat), g9 < k9 → (∀ j, pn8 j < 4294967296) → (∀ j, ln8 j < 81) → (∀ j, bn8 j < 2) → Fr9 [2060, 2061, 2066] pn ln pn8 ln8 → On1 pn8 ln8 2060 g9 → On1 pn8 ln8 2061 h9x → 0 < g9 → 0 < h9x → g9 * 2 ^ kk < 16384 → h9x * 2 ^ kk < 16384 → kk + g9 < 16400 → ∀ (H : Heap) (locs : List Loc) (ls : Array Slot), va_P (dC, dI) vwCl [(o, .inr (13, fs)), (p1, .inl (cP, 165440, .inr (.inl (fun j => lN (pn8 j))))), (l1, .inl (cL, 2068, .inl (fun j => nI (ln8 j)))), (b1, .inl (cB, 2068, .inl (fun j => nI (bn8 j))))] H → va_D A [(o, .inr (13, fs)), (p1, .inl (cP, 165440, .inr (.inl (fun j => lN (pn8 j))))), (l1, .inl (cL, 2068, .inl (fun j => nI (ln8 j)))), (b1, .inl (cB, 2068, .inl (fun j => nI (bn8 j))))] → va_K (dC, dI) vwCl [(cP, .long), (cL, .int), (cB, .boolean)] s → va_S A s.heap H locs → lv_has ls 5 [(0, .ref o), (3, .int (nI kk))] → W p l e (headSpec wd_X10_divisor ({ frames := 40, cells := 0, slots := 0, locals := 800 })).room s m ([.ref o, .int (nI s9), .int (nI t9)] : List Value).toArray below meth c H locs (0) (0) (MQ below (va_Qv (fun (u : (Nat → Nat) × (Nat → Nat) × (Nat → Nat) × Nat) => match u with | (pn2, ln2, bn2, gg) => (∀ j, pn2 j < 4294967296) ∧ (∀ j, ln2 j < 81) ∧ (∀ j, bn2 j < 2) ∧ (Fr9 [2060, 2061, 2066] pn ln pn2 ln2 ∧ On1 pn2 ln2 2060 gg ∧ 0 < gg ∧ gg < 16384)) (at_X10_divisor dC dI A o fs p1 l1 b1 cP cL cB pn ln bn s9 t9 v9 w9) A) ([.ref o, .int (nI s9), .int (nI t9)] : List Value).toArray s (0) (0) A) (F0 m 36 ls []) := by
    intro k9
    induction k9 with
    | zero => intro kk g9 h9x pn8 ln8 bn8 h9; exact absurd h9 (Nat.not_lt_zero _)
    | succ k9 ih_20 =>
      intro kk g9 h9x pn8 ln8 bn8 h9 hp8 hl8 hb8 hf8 hG hH hg0 hh0 hgp hhp hk8 H locs ls hP hD hK hS hl
      have hg4 := k_pw1 hgp
      have hh4 := k_pw1 hhp
      refine lv_aload_n hx hb dX10_divisor_36 rfl (lv_at hl 0 rfl) ?_
      refine lv_sipush (v := nI 2060) hx hb dX10_divisor_37 (by decide +kernel) ?_
      have hPc := hP.sub (ws' := [(o, .inr (13, fs)), (p1, .inl (cP, 165440, .inr (.inl (fun j => lN (pn8 j))))), (l1, .inl (cL, 2068, .inl (fun j => nI (ln8 j)))), (b1, .inl (cB, 2068, .inl (fun j => nI (bn8 j))))]) [0, 1, 2, 3] rfl
      have hDc := hD.sub (ws' := [(o, .inr (13, fs)), (p1, .inl (cP, 165440, .inr (.inl (fun j => lN (pn8 j))))), (l1, .inl (cL, 2068, .inl (fun j => nI (ln8 j)))), (b1, .inl (cB, 2068, .inl (fun j => nI (bn8 j))))]) [0, 1, 2, 3] (by decide) rfl
      have hKc := hK.sub (tys' := [(cP, .long), (cL, .int), (cB, .boolean)]) [0, 1, 2] rfl
      have hFc := va_free (wc := [(o, .inr (13, fs)), (p1, .inl (cP, 165440, .inr (.inl (fun j => lN (pn8 j))))), (l1, .inl (cL, 2068, .inl (fun j => nI (ln8 j)))), (b1, .inl (cB, 2068, .inl (fun j => nI (bn8 j))))]) hD hS hA [0, 1, 2, 3] rfl
      refine va_calli (va_runV (As := [.int (nI 2060)]) (rest := []) ⟨hx, hb, hml, hown, hts⟩ (c_X10_isEven l dC dI (va_A [(o, .inr (13, fs)), (p1, .inl (cP, 165440, .inr (.inl (fun j => lN (pn8 j))))), (l1, .inl (cL, 2068, .inl (fun j => nI (ln8 j)))), (b1, .inl (cB, 2068, .inl (fun j => nI (bn8 j))))] H.size) H.size (fun _ h => Or.inr h) o fs p1 l1 b1 cP cL cB pn8 ln8 bn8 2060 g9 h1 h2 h3 hp8 hl8 hb8 (by decide) hG (by omega)) (cwV 1 hts (goodIn_app (goodIn_r [Cond.methodLink RX10 107 yX10_isEven, Cond.instanceMethod yX10_isEven, Cond.selects RX10 yX10_isEven yX10_isEven, Cond.initialized RX10] [6, 7, 8, 4] rfl rfl) (goodIn_sub (fun w9 h9 => bk2 w9 h9) gw_X10_isEven)) rfl rfl rfl (by decide +kernel) ⟨Nat.le_of_ble_eq_true rfl, Nat.le_of_ble_eq_true rfl⟩) ⟨fun a U g mk q => by obtain ⟨q0, q1, qP, qK, qD⟩ := q; exact ⟨q0, q1, qP, va_K.moved (u := U) (U := U.calling g mk a) (Vm.Alike.refl U.vm) qK, qD⟩, va_recv hKc hPc (ci := 13) (q0 := 0) rfl rfl, fun U hU hW => ⟨rfl, by rw [hU], by rw [hU]; exact hPc, va_K.moved hW.alike hKc, hDc.self⟩⟩ rfl rfl hl.1 rfl (lv_room (Nat.le_of_ble_eq_true rfl)) dX10_divisor_40 ⟨(Nat.le_of_ble_eq_true rfl), (Nat.le_of_ble_eq_true rfl)⟩) hS (fun q _ h => hFc q h) hFc (fun r_21 u t H1 locs ht hvm hw_22 hB hz1 hk1 hS => ?_)
      obtain ⟨⟩ := u
      obtain ⟨hP1, hK1, hD1⟩ := hB
      rw [ht] at hP1
      have hK1 := va_K.moved hvm.symm hK1
      try dsimp only at hw_22
      obtain ⟨hP, hD⟩ := va_join (wr := []) (w1 := [(o, .inr (13, fs)), (p1, .inl (cP, 165440, .inr (.inl (fun j => lN (pn8 j))))), (l1, .inl (cL, 2068, .inl (fun j => nI (ln8 j)))), (b1, .inl (cB, 2068, .inl (fun j => nI (bn8 j))))]) hP hD [0, 1, 2, 3] [] rfl rfl (by decide) (by decide) hk1 hFc hP1 hD1
      have hK := (hK.sub (tys' := []) [] rfl).app hK1
      generalize H1 = H at hP hS ⊢
      have hP : va_P (dC, dI) vwCl ([(o, .inr (13, fs)), (p1, .inl (cP, 165440, .inr (.inl (fun j => lN (pn8 j))))), (l1, .inl (cL, 2068, .inl (fun j => nI (ln8 j)))), (b1, .inl (cB, 2068, .inl (fun j => nI (bn8 j))))]) H := hP
      have hD : va_D A ([(o, .inr (13, fs)), (p1, .inl (cP, 165440, .inr (.inl (fun j => lN (pn8 j))))), (l1, .inl (cL, 2068, .inl (fun j => nI (ln8 j)))), (b1, .inl (cB, 2068, .inl (fun j => nI (bn8 j))))]) := hD
      have hK : va_K (dC, dI) vwCl [(cP, .long), (cL, .int), (cB, .boolean)] s := hK
      rcases hw_22 with ⟨rfl, z_23⟩ | ⟨rfl, z_23⟩
      · refine lv_if_eq (tgt := 76) hx hb dX10_divisor_43 (by decide) (fun c_24 => absurd c_24 (by decide)) (fun c_24 => ?_)
        refine lv_aload_n hx hb dX10_divisor_46 rfl (lv_at hl 0 rfl) ?_
        refine lv_sipush (v := nI 2061) hx hb dX10_divisor_47 (by decide +kernel) ?_
        have hPc := hP.sub (ws' := [(o, .inr (13, fs)), (p1, .inl (cP, 165440, .inr (.inl (fun j => lN (pn8 j))))), (l1, .inl (cL, 2068, .inl (fun j => nI (ln8 j)))), (b1, .inl (cB, 2068, .inl (fun j => nI (bn8 j))))]) [0, 1, 2, 3] rfl
        have hDc := hD.sub (ws' := [(o, .inr (13, fs)), (p1, .inl (cP, 165440, .inr (.inl (fun j => lN (pn8 j))))), (l1, .inl (cL, 2068, .inl (fun j => nI (ln8 j)))), (b1, .inl (cB, 2068, .inl (fun j => nI (bn8 j))))]) [0, 1, 2, 3] (by decide) rfl
        have hKc := hK.sub (tys' := [(cP, .long), (cL, .int), (cB, .boolean)]) [0, 1, 2] rfl
        have hFc := va_free (wc := [(o, .inr (13, fs)), (p1, .inl (cP, 165440, .inr (.inl (fun j => lN (pn8 j))))), (l1, .inl (cL, 2068, .inl (fun j => nI (ln8 j)))), (b1, .inl (cB, 2068, .inl (fun j => nI (bn8 j))))]) hD hS hA [0, 1, 2, 3] rfl
        refine va_calli (va_runV (As := [.int (nI 2061)]) (rest := []) ⟨hx, hb, hml, hown, hts⟩ (c_X10_isEven l dC dI (va_A [(o, .inr (13, fs)), (p1, .inl (cP, 165440, .inr (.inl (fun j => lN (pn8 j))))), (l1, .inl (cL, 2068, .inl (fun j => nI (ln8 j)))), (b1, .inl (cB, 2068, .inl (fun j => nI (bn8 j))))] H.size) H.size (fun _ h => Or.inr h) o fs p1 l1 b1 cP cL cB pn8 ln8 bn8 2061 h9x h1 h2 h3 hp8 hl8 hb8 (by decide) hH (by omega)) (cwV 1 hts (goodIn_app (goodIn_r [Cond.methodLink RX10 107 yX10_isEven, Cond.instanceMethod yX10_isEven, Cond.selects RX10 yX10_isEven yX10_isEven, Cond.initialized RX10] [6, 7, 8, 4] rfl rfl) (goodIn_sub (fun w9 h9 => bk2 w9 h9) gw_X10_isEven)) rfl rfl rfl (by decide +kernel) ⟨Nat.le_of_ble_eq_true rfl, Nat.le_of_ble_eq_true rfl⟩) ⟨fun a U g mk q => by obtain ⟨q0, q1, qP, qK, qD⟩ := q; exact ⟨q0, q1, qP, va_K.moved (u := U) (U := U.calling g mk a) (Vm.Alike.refl U.vm) qK, qD⟩, va_recv hKc hPc (ci := 13) (q0 := 0) rfl rfl, fun U hU hW => ⟨rfl, by rw [hU], by rw [hU]; exact hPc, va_K.moved hW.alike hKc, hDc.self⟩⟩ rfl rfl hl.1 rfl (lv_room (Nat.le_of_ble_eq_true rfl)) dX10_divisor_50 ⟨(Nat.le_of_ble_eq_true rfl), (Nat.le_of_ble_eq_true rfl)⟩) hS (fun q _ h => hFc q h) hFc (fun r_25 u t H1 locs ht hvm hw_26 hB hz1 hk1 hS => ?_)
        obtain ⟨⟩ := u
        obtain ⟨hP1, hK1, hD1⟩ := hB
        rw [ht] at hP1
        have hK1 := va_K.moved hvm.symm hK1
        try dsimp only at hw_26
        obtain ⟨hP, hD⟩ := va_join (wr := []) (w1 := [(o, .inr (13, fs)), (p1, .inl (cP, 165440, .inr (.inl (fun j => lN (pn8 j))))), (l1, .inl (cL, 2068, .inl (fun j => nI (ln8 j)))), (b1, .inl (cB, 2068, .inl (fun j => nI (bn8 j))))]) hP hD [0, 1, 2, 3] [] rfl rfl (by decide) (by decide) hk1 hFc hP1 hD1
        have hK := (hK.sub (tys' := []) [] rfl).app hK1
        generalize H1 = H at hP hS ⊢
        have hP : va_P (dC, dI) vwCl ([(o, .inr (13, fs)), (p1, .inl (cP, 165440, .inr (.inl (fun j => lN (pn8 j))))), (l1, .inl (cL, 2068, .inl (fun j => nI (ln8 j)))), (b1, .inl (cB, 2068, .inl (fun j => nI (bn8 j))))]) H := hP
        have hD : va_D A ([(o, .inr (13, fs)), (p1, .inl (cP, 165440, .inr (.inl (fun j => lN (pn8 j))))), (l1, .inl (cL, 2068, .inl (fun j => nI (ln8 j)))), (b1, .inl (cB, 2068, .inl (fun j => nI (bn8 j))))]) := hD
        have hK : va_K (dC, dI) vwCl [(cP, .long), (cL, .int), (cB, .boolean)] s := hK
        rcases hw_26 with ⟨rfl, z_27⟩ | ⟨rfl, z_27⟩
        · refine lv_if_eq (tgt := 76) hx hb dX10_divisor_53 (by decide) (fun c_28 => absurd c_28 (by decide)) (fun c_28 => ?_)
          refine lv_aload_n hx hb dX10_divisor_56 rfl (lv_at hl 0 rfl) ?_
          refine lv_sipush (v := nI 2060) hx hb dX10_divisor_57 (by decide +kernel) ?_
          have hPc := hP.sub (ws' := [(o, .inr (13, fs)), (p1, .inl (cP, 165440, .inr (.inl (fun j => lN (pn8 j))))), (l1, .inl (cL, 2068, .inl (fun j => nI (ln8 j)))), (b1, .inl (cB, 2068, .inl (fun j => nI (bn8 j))))]) [0, 1, 2, 3] rfl
          have hDc := hD.sub (ws' := [(o, .inr (13, fs)), (p1, .inl (cP, 165440, .inr (.inl (fun j => lN (pn8 j))))), (l1, .inl (cL, 2068, .inl (fun j => nI (ln8 j)))), (b1, .inl (cB, 2068, .inl (fun j => nI (bn8 j))))]) [0, 1, 2, 3] (by decide) rfl
          have hKc := hK.sub (tys' := [(cP, .long), (cL, .int), (cB, .boolean)]) [0, 1, 2] rfl
          have hFc := va_free (wc := [(o, .inr (13, fs)), (p1, .inl (cP, 165440, .inr (.inl (fun j => lN (pn8 j))))), (l1, .inl (cL, 2068, .inl (fun j => nI (ln8 j)))), (b1, .inl (cB, 2068, .inl (fun j => nI (bn8 j))))]) hD hS hA [0, 1, 2, 3] rfl
          refine va_callv (va_runV (As := [.int (nI 2060)]) (rest := []) ⟨hx, hb, hml, hown, hts⟩ (c_X10_halve l dC dI (va_A [(o, .inr (13, fs)), (p1, .inl (cP, 165440, .inr (.inl (fun j => lN (pn8 j))))), (l1, .inl (cL, 2068, .inl (fun j => nI (ln8 j)))), (b1, .inl (cB, 2068, .inl (fun j => nI (bn8 j))))] H.size) H.size (fun _ h => Or.inr h) o fs p1 l1 b1 cP cL cB pn8 ln8 bn8 2060 g9 h1 h2 h3 hp8 hl8 hb8 (by decide) hG (by omega)) (cwV 1 hts (goodIn_app (goodIn_r [Cond.methodLink RX10 111 yX10_halve, Cond.instanceMethod yX10_halve, Cond.selects RX10 yX10_halve yX10_halve, Cond.initialized RX10] [9, 10, 11, 4] rfl rfl) (goodIn_sub (fun w9 h9 => bk3 w9 h9) gw_X10_halve)) rfl rfl rfl (by decide +kernel) ⟨Nat.le_of_ble_eq_true rfl, Nat.le_of_ble_eq_true rfl⟩) ⟨fun a U g mk q => by obtain ⟨q0, q1, qP, qK, qD⟩ := q; exact ⟨q0, q1, qP, va_K.moved (u := U) (U := U.calling g mk a) (Vm.Alike.refl U.vm) qK, qD⟩, va_recv hKc hPc (ci := 13) (q0 := 0) rfl rfl, fun U hU hW => ⟨rfl, by rw [hU], by rw [hU]; exact hPc, va_K.moved hW.alike hKc, hDc.self⟩⟩ rfl rfl hl.1 rfl (lv_room (Nat.le_of_ble_eq_true rfl)) dX10_divisor_60 ⟨(Nat.le_of_ble_eq_true rfl), (Nat.le_of_ble_eq_true rfl)⟩) hS (fun q _ h => hFc q h) hFc (fun u t H1 locs ht hvm hw_29 hB hz1 hk1 hS => ?_)
          obtain ⟨pn2_30, ln2_31, bn2_32⟩ := u
          obtain ⟨hP1, hK1, hD1⟩ := hB
          rw [ht] at hP1
          have hK1 := va_K.moved hvm.symm hK1
          try dsimp only at hw_29
          obtain ⟨hP, hD⟩ := va_join (wr := []) (w1 := [(o, .inr (13, fs)), (p1, .inl (cP, 165440, .inr (.inl (fun j => lN (pn2_30 j))))), (l1, .inl (cL, 2068, .inl (fun j => nI (ln2_31 j)))), (b1, .inl (cB, 2068, .inl (fun j => nI (bn2_32 j))))]) hP hD [0, 1, 2, 3] [] rfl rfl (by decide) (by decide) hk1 hFc hP1 hD1
          have hK := (hK.sub (tys' := []) [] rfl).app hK1
          generalize H1 = H at hP hS ⊢
          have hP : va_P (dC, dI) vwCl ([(o, .inr (13, fs)), (p1, .inl (cP, 165440, .inr (.inl (fun j => lN (pn2_30 j))))), (l1, .inl (cL, 2068, .inl (fun j => nI (ln2_31 j)))), (b1, .inl (cB, 2068, .inl (fun j => nI (bn2_32 j))))]) H := hP
          have hD : va_D A ([(o, .inr (13, fs)), (p1, .inl (cP, 165440, .inr (.inl (fun j => lN (pn2_30 j))))), (l1, .inl (cL, 2068, .inl (fun j => nI (ln2_31 j)))), (b1, .inl (cB, 2068, .inl (fun j => nI (bn2_32 j))))]) := hD
          have hK : va_K (dC, dI) vwCl [(cP, .long), (cL, .int), (cB, .boolean)] s := hK
          obtain ⟨hb_33, hb_34, hb_35, rel_36⟩ := hw_29
          obtain ⟨fr_37, on_38⟩ := rel_36
          have on_39 := hH.fr fr_37 (by simp only [List.mem_cons, List.not_mem_nil, or_false]; omega)
          have F_40 := hf8.tr (S := [2060, 2061, 2066]) fr_37 (fun j h => by simp at h ⊢; omega) (fun j h => by simp at h ⊢; omega)
          refine lv_aload_n hx hb dX10_divisor_63 rfl (lv_at hl 0 rfl) ?_
          refine lv_sipush (v := nI 2061) hx hb dX10_divisor_64 (by decide +kernel) ?_
          have hPc := hP.sub (ws' := [(o, .inr (13, fs)), (p1, .inl (cP, 165440, .inr (.inl (fun j => lN (pn2_30 j))))), (l1, .inl (cL, 2068, .inl (fun j => nI (ln2_31 j)))), (b1, .inl (cB, 2068, .inl (fun j => nI (bn2_32 j))))]) [0, 1, 2, 3] rfl
          have hDc := hD.sub (ws' := [(o, .inr (13, fs)), (p1, .inl (cP, 165440, .inr (.inl (fun j => lN (pn2_30 j))))), (l1, .inl (cL, 2068, .inl (fun j => nI (ln2_31 j)))), (b1, .inl (cB, 2068, .inl (fun j => nI (bn2_32 j))))]) [0, 1, 2, 3] (by decide) rfl
          have hKc := hK.sub (tys' := [(cP, .long), (cL, .int), (cB, .boolean)]) [0, 1, 2] rfl
          have hFc := va_free (wc := [(o, .inr (13, fs)), (p1, .inl (cP, 165440, .inr (.inl (fun j => lN (pn2_30 j))))), (l1, .inl (cL, 2068, .inl (fun j => nI (ln2_31 j)))), (b1, .inl (cB, 2068, .inl (fun j => nI (bn2_32 j))))]) hD hS hA [0, 1, 2, 3] rfl
          refine va_callv (va_runV (As := [.int (nI 2061)]) (rest := []) ⟨hx, hb, hml, hown, hts⟩ (c_X10_halve l dC dI (va_A [(o, .inr (13, fs)), (p1, .inl (cP, 165440, .inr (.inl (fun j => lN (pn2_30 j))))), (l1, .inl (cL, 2068, .inl (fun j => nI (ln2_31 j)))), (b1, .inl (cB, 2068, .inl (fun j => nI (bn2_32 j))))] H.size) H.size (fun _ h => Or.inr h) o fs p1 l1 b1 cP cL cB pn2_30 ln2_31 bn2_32 2061 h9x h1 h2 h3 hb_33 hb_34 hb_35 (by decide) on_39 (by omega)) (cwV 1 hts (goodIn_app (goodIn_r [Cond.methodLink RX10 111 yX10_halve, Cond.instanceMethod yX10_halve, Cond.selects RX10 yX10_halve yX10_halve, Cond.initialized RX10] [9, 10, 11, 4] rfl rfl) (goodIn_sub (fun w9 h9 => bk3 w9 h9) gw_X10_halve)) rfl rfl rfl (by decide +kernel) ⟨Nat.le_of_ble_eq_true rfl, Nat.le_of_ble_eq_true rfl⟩) ⟨fun a U g mk q => by obtain ⟨q0, q1, qP, qK, qD⟩ := q; exact ⟨q0, q1, qP, va_K.moved (u := U) (U := U.calling g mk a) (Vm.Alike.refl U.vm) qK, qD⟩, va_recv hKc hPc (ci := 13) (q0 := 0) rfl rfl, fun U hU hW => ⟨rfl, by rw [hU], by rw [hU]; exact hPc, va_K.moved hW.alike hKc, hDc.self⟩⟩ rfl rfl hl.1 rfl (lv_room (Nat.le_of_ble_eq_true rfl)) dX10_divisor_67 ⟨(Nat.le_of_ble_eq_true rfl), (Nat.le_of_ble_eq_true rfl)⟩) hS (fun q _ h => hFc q h) hFc (fun u t H1 locs ht hvm hw_41 hB hz1 hk1 hS => ?_)
          obtain ⟨pn2_42, ln2_43, bn2_44⟩ := u
          obtain ⟨hP1, hK1, hD1⟩ := hB
          rw [ht] at hP1
          have hK1 := va_K.moved hvm.symm hK1
          try dsimp only at hw_41
          obtain ⟨hP, hD⟩ := va_join (wr := []) (w1 := [(o, .inr (13, fs)), (p1, .inl (cP, 165440, .inr (.inl (fun j => lN (pn2_42 j))))), (l1, .inl (cL, 2068, .inl (fun j => nI (ln2_43 j)))), (b1, .inl (cB, 2068, .inl (fun j => nI (bn2_44 j))))]) hP hD [0, 1, 2, 3] [] rfl rfl (by decide) (by decide) hk1 hFc hP1 hD1
          have hK := (hK.sub (tys' := []) [] rfl).app hK1
          generalize H1 = H at hP hS ⊢
          have hP : va_P (dC, dI) vwCl ([(o, .inr (13, fs)), (p1, .inl (cP, 165440, .inr (.inl (fun j => lN (pn2_42 j))))), (l1, .inl (cL, 2068, .inl (fun j => nI (ln2_43 j)))), (b1, .inl (cB, 2068, .inl (fun j => nI (bn2_44 j))))]) H := hP
          have hD : va_D A ([(o, .inr (13, fs)), (p1, .inl (cP, 165440, .inr (.inl (fun j => lN (pn2_42 j))))), (l1, .inl (cL, 2068, .inl (fun j => nI (ln2_43 j)))), (b1, .inl (cB, 2068, .inl (fun j => nI (bn2_44 j))))]) := hD
          have hK : va_K (dC, dI) vwCl [(cP, .long), (cL, .int), (cB, .boolean)] s := hK
          obtain ⟨hb_45, hb_46, hb_47, rel_48⟩ := hw_41
          obtain ⟨fr_49, on_50⟩ := rel_48
          have on_51 := on_38.fr fr_49 (by simp only [List.mem_cons, List.not_mem_nil, or_false]; omega)
          have F_52 := F_40.tr (S := [2060, 2061, 2066]) fr_49 (fun j h => by simp at h ⊢; omega) (fun j h => by simp at h ⊢; omega)
          refine lv_iinc (v := nI (kk + 1)) (lv' := [(3, .int (nI (kk + 1))), (0, .ref o)]) hx hb dX10_divisor_70 hl (k := 1) rfl (nI_add kk 1) (by decide) rfl (fun ls hl => ?_)
          refine lv_goto (tgt := 36) hx hb dX10_divisor_73 (by decide) ?_
          exact ih_20 (kk + 1) (g9 / 2) (h9x / 2) pn2_42 ln2_43 bn2_44 (by omega) hb_45 hb_46 hb_47 F_52 on_51 on_50 (by omega) (by omega) (k_pw2 hgp (by omega)) (k_pw2 hhp (by omega)) (by omega) _ _ _ (hP.sub (ws' := [(o, .inr (13, fs)), (p1, .inl (cP, 165440, .inr (.inl (fun j => lN (pn2_42 j))))), (l1, .inl (cL, 2068, .inl (fun j => nI (ln2_43 j)))), (b1, .inl (cB, 2068, .inl (fun j => nI (bn2_44 j))))]) [0, 1, 2, 3] rfl) (hD.sub (ws' := [(o, .inr (13, fs)), (p1, .inl (cP, 165440, .inr (.inl (fun j => lN (pn2_42 j))))), (l1, .inl (cL, 2068, .inl (fun j => nI (ln2_43 j)))), (b1, .inl (cB, 2068, .inl (fun j => nI (bn2_44 j))))]) [0, 1, 2, 3] (by decide) rfl) (hK.sub (tys' := [(cP, .long), (cL, .int), (cB, .boolean)]) [0, 1, 2] rfl) hS (lv_sub (l' := [(0, .ref o), (3, .int (nI (kk + 1)))]) hl [1, 0] rfl)
        · refine lv_if_eq (tgt := 76) hx hb dX10_divisor_53 (by decide) (fun c_55 => ?_) (fun c_55 => absurd c_55 (by decide))
          have loop_56 : ∀ (k9 : Nat) (g1 : Nat) (h1x : Nat) (pn8 : Nat → Nat) (ln8 : Nat → Nat) (bn8 : Nat → Nat), g1 + h1x < k9 → (∀ j, pn8 j < 4294967296) → (∀ j, ln8 j < 81) → (∀ j, bn8 j < 2) → Fr9 [2060, 2061, 2066] pn ln pn8 ln8 → On1 pn8 ln8 2060 g1 → On1 pn8 ln8 2061 h1x → 0 < g1 → g1 * 2 ^ kk < 16384 → h1x * 2 ^ kk < 16384 → ∀ (H : Heap) (locs : List Loc) (ls : Array Slot), va_P (dC, dI) vwCl [(o, .inr (13, fs)), (p1, .inl (cP, 165440, .inr (.inl (fun j => lN (pn8 j))))), (l1, .inl (cL, 2068, .inl (fun j => nI (ln8 j)))), (b1, .inl (cB, 2068, .inl (fun j => nI (bn8 j))))] H → va_D A [(o, .inr (13, fs)), (p1, .inl (cP, 165440, .inr (.inl (fun j => lN (pn8 j))))), (l1, .inl (cL, 2068, .inl (fun j => nI (ln8 j)))), (b1, .inl (cB, 2068, .inl (fun j => nI (bn8 j))))] → va_K (dC, dI) vwCl [(cP, .long), (cL, .int), (cB, .boolean)] s → va_S A s.heap H locs → lv_has ls 5 [(0, .ref o), (3, .int (nI kk))] → W p l e (headSpec wd_X10_divisor ({ frames := 40, cells := 0, slots := 0, locals := 800 })).room s m ([.ref o, .int (nI s9), .int (nI t9)] : List Value).toArray below meth c H locs (0) (0) (MQ below (va_Qv (fun (u : (Nat → Nat) × (Nat → Nat) × (Nat → Nat) × Nat) => match u with | (pn2, ln2, bn2, gg) => (∀ j, pn2 j < 4294967296) ∧ (∀ j, ln2 j < 81) ∧ (∀ j, bn2 j < 2) ∧ (Fr9 [2060, 2061, 2066] pn ln pn2 ln2 ∧ On1 pn2 ln2 2060 gg ∧ 0 < gg ∧ gg < 16384)) (at_X10_divisor dC dI A o fs p1 l1 b1 cP cL cB pn ln bn s9 t9 v9 w9) A) ([.ref o, .int (nI s9), .int (nI t9)] : List Value).toArray s (0) (0) A) (F0 m 76 ls []) := by
            intro k9
            induction k9 with
            | zero => intro g1 h1x pn8 ln8 bn8 h9; exact absurd h9 (Nat.not_lt_zero _)
            | succ k9 ih_57 =>
              intro g1 h1x pn8 ln8 bn8 h9 hp8 hl8 hb8 hf8 hG hH hg0 hgp hhp H locs ls hP hD hK hS hl
              have hg4 := k_pw1 hgp
              have hh4 := k_pw1 hhp
              refine lv_aload_n hx hb dX10_divisor_76 rfl (lv_at hl 0 rfl) ?_
              refine va_get (D := (dC, dI)) (ci := 13) (v := .ref l1) (C := RX10) (T := TX10) (N := 29) hx hb hts bk1 hown hK hP 0 rfl rfl 2 (by decide) (hts (.fieldLink RX10 14 "GradientDeskModel" "length" "[I") (List.mem_of_getElem? (i := 12) rfl)) (fun _ h9 => h9) h2 dX10_divisor_77 ?_
              refine lv_sipush (v := nI 2061) hx hb dX10_divisor_80 (by decide +kernel) ?_
              refine va_iald hx hb hK hP 2 1 rfl rfl (vp_in_nI (show 2061 < 2068 by decide) (by decide)) dX10_divisor_83 ?_
              refine lv_topi (fun x_58 e_59 => ?_)
              rw [nI_clamp (show 2061 < 2 ^ 31 by decide)] at e_59
              obtain ⟨n_60, e_61⟩ : ∃ z : Nat, z = ln8 2061 := ⟨_, rfl⟩
              obtain rfl : x_58 = nI n_60 := by rw [e_61]; exact e_59
              have b_62 : n_60 < 81 := by rw [e_61]; exact hl8 _
              have hle9 : n_60 = 0 ↔ h1x = 0 := by rw [e_61]; exact hH.zero
              refine lv_if_le (tgt := 202) hx hb dX10_divisor_84 (by decide) (fun c_63 => ?_) (fun c_63 => ?_)
              · have c_63 := (nI_leI (a := n_60) (b := 0) (by omega) (by decide)).mp c_63
                refine lv_iconst (v := nI 0) hx hb dX10_divisor_202 (by decide +kernel) ?_
                refine lv_istore (lv' := [(4, .int (nI 0)), (0, .ref o), (3, .int (nI kk))]) hx hb dX10_divisor_203 hl (by decide) rfl (fun ls hl => ?_)
                have loop_64 : ∀ (k9 : Nat) (k5 : Nat) (g8 : Nat) (pn8 : Nat → Nat) (ln8 : Nat → Nat) (bn8 : Nat → Nat), 20000 - k5 < k9 → (∀ j, pn8 j < 4294967296) → (∀ j, ln8 j < 81) → (∀ j, bn8 j < 2) → Fr9 [2060, 2061, 2066] pn ln pn8 ln8 → On1 pn8 ln8 2060 g8 → 0 < g8 → g8 * 2 ^ (kk - k5) < 16384 → k5 ≤ kk → ∀ (H : Heap) (locs : List Loc) (ls : Array Slot), va_P (dC, dI) vwCl [(o, .inr (13, fs)), (p1, .inl (cP, 165440, .inr (.inl (fun j => lN (pn8 j))))), (l1, .inl (cL, 2068, .inl (fun j => nI (ln8 j)))), (b1, .inl (cB, 2068, .inl (fun j => nI (bn8 j))))] H → va_D A [(o, .inr (13, fs)), (p1, .inl (cP, 165440, .inr (.inl (fun j => lN (pn8 j))))), (l1, .inl (cL, 2068, .inl (fun j => nI (ln8 j)))), (b1, .inl (cB, 2068, .inl (fun j => nI (bn8 j))))] → va_K (dC, dI) vwCl [(cP, .long), (cL, .int), (cB, .boolean)] s → va_S A s.heap H locs → lv_has ls 5 [(0, .ref o), (3, .int (nI kk)), (4, .int (nI k5))] → W p l e (headSpec wd_X10_divisor ({ frames := 40, cells := 0, slots := 0, locals := 800 })).room s m ([.ref o, .int (nI s9), .int (nI t9)] : List Value).toArray below meth c H locs (0) (0) (MQ below (va_Qv (fun (u : (Nat → Nat) × (Nat → Nat) × (Nat → Nat) × Nat) => match u with | (pn2, ln2, bn2, gg) => (∀ j, pn2 j < 4294967296) ∧ (∀ j, ln2 j < 81) ∧ (∀ j, bn2 j < 2) ∧ (Fr9 [2060, 2061, 2066] pn ln pn2 ln2 ∧ On1 pn2 ln2 2060 gg ∧ 0 < gg ∧ gg < 16384)) (at_X10_divisor dC dI A o fs p1 l1 b1 cP cL cB pn ln bn s9 t9 v9 w9) A) ([.ref o, .int (nI s9), .int (nI t9)] : List Value).toArray s (0) (0) A) (F0 m 205 ls []) := by
                  intro k9
                  induction k9 with
                  | zero => intro k5 g8 pn8 ln8 bn8 h9; exact absurd h9 (Nat.not_lt_zero _)
                  | succ k9 ih_65 =>
                    intro k5 g8 pn8 ln8 bn8 h9 hp8 hl8 hb8 hf8 hG hg0 hgp hk5 H locs ls hP hD hK hS hl
                    have hg4 := k_pw1 hgp
                    refine lv_iload hx hb dX10_divisor_205 (lv_at hl 2 rfl) ?_
                    refine lv_iload_n hx hb dX10_divisor_207 rfl (lv_at hl 1 rfl) ?_
                    refine lv_icmp_ge (tgt := 225) hx hb dX10_divisor_208 (by decide) (fun c_66 => ?_) (fun c_66 => ?_)
                    · have c_66 := (nI_leI (a := kk) (b := k5) (by omega) (by omega)).mp c_66
                      have hP9 := hP.sub (ws' := [(o, .inr (13, fs)), (p1, .inl (cP, 165440, .inr (.inl (fun j => lN (pn8 j))))), (l1, .inl (cL, 2068, .inl (fun j => nI (ln8 j)))), (b1, .inl (cB, 2068, .inl (fun j => nI (bn8 j))))]) [0, 1, 2, 3] rfl
                      have hD9 := hD.sub (ws' := [(o, .inr (13, fs)), (p1, .inl (cP, 165440, .inr (.inl (fun j => lN (pn8 j))))), (l1, .inl (cL, 2068, .inl (fun j => nI (ln8 j)))), (b1, .inl (cB, 2068, .inl (fun j => nI (bn8 j))))]) [0, 1, 2, 3] (by decide) rfl
                      have hK9 := hK.sub (tys' := [(cP, .long), (cL, .int), (cB, .boolean)]) [0, 1, 2] rfl
                      refine W.widen (k := 0) (n := 0) (by omega) (by omega) ?_
                      exact W.vret hx hb hr (fun t ht hW => ⟨⟨(pn8, ln8, bn8, g8), rfl, ⟨hp8, hl8, hb8, hf8, hG, hg0, hg4⟩, by rw [ht]; exact hP9, va_K.moved hW.alike hK9, hD9⟩, hS.F ht⟩) hS.2.2 dX10_divisor_225
                    · have c_66 := mt (nI_leI (a := kk) (b := k5) (by omega) (by omega)).mpr c_66
                      refine lv_aload_n hx hb dX10_divisor_211 rfl (lv_at hl 0 rfl) ?_
                      refine lv_sipush (v := nI 2060) hx hb dX10_divisor_212 (by decide +kernel) ?_
                      refine lv_iconst (v := nI 0) hx hb dX10_divisor_215 (by decide +kernel) ?_
                      have hPc := hP.sub (ws' := [(o, .inr (13, fs)), (p1, .inl (cP, 165440, .inr (.inl (fun j => lN (pn8 j))))), (l1, .inl (cL, 2068, .inl (fun j => nI (ln8 j)))), (b1, .inl (cB, 2068, .inl (fun j => nI (bn8 j))))]) [0, 1, 2, 3] rfl
                      have hDc := hD.sub (ws' := [(o, .inr (13, fs)), (p1, .inl (cP, 165440, .inr (.inl (fun j => lN (pn8 j))))), (l1, .inl (cL, 2068, .inl (fun j => nI (ln8 j)))), (b1, .inl (cB, 2068, .inl (fun j => nI (bn8 j))))]) [0, 1, 2, 3] (by decide) rfl
                      have hKc := hK.sub (tys' := [(cP, .long), (cL, .int), (cB, .boolean)]) [0, 1, 2] rfl
                      have hFc := va_free (wc := [(o, .inr (13, fs)), (p1, .inl (cP, 165440, .inr (.inl (fun j => lN (pn8 j))))), (l1, .inl (cL, 2068, .inl (fun j => nI (ln8 j)))), (b1, .inl (cB, 2068, .inl (fun j => nI (bn8 j))))]) hD hS hA [0, 1, 2, 3] rfl
                      refine va_callv (va_runV (As := [.int (nI 2060), .int (nI 0)]) (rest := []) ⟨hx, hb, hml, hown, hts⟩ (c_X10_twice l dC dI (va_A [(o, .inr (13, fs)), (p1, .inl (cP, 165440, .inr (.inl (fun j => lN (pn8 j))))), (l1, .inl (cL, 2068, .inl (fun j => nI (ln8 j)))), (b1, .inl (cB, 2068, .inl (fun j => nI (bn8 j))))] H.size) H.size (fun _ h => Or.inr h) o fs p1 l1 b1 cP cL cB pn8 ln8 bn8 2060 0 g8 h1 h2 h3 hp8 hl8 hb8 (by decide) hG (by omega) (by decide)) (cwV 2 hts (goodIn_app (goodIn_r [Cond.methodLink RX10 114 yX10_twice, Cond.instanceMethod yX10_twice, Cond.selects RX10 yX10_twice yX10_twice, Cond.initialized RX10] [13, 14, 15, 4] rfl rfl) (goodIn_sub (fun w9 h9 => bk4 w9 h9) gw_X10_twice)) rfl rfl rfl (by decide +kernel) ⟨Nat.le_of_ble_eq_true rfl, Nat.le_of_ble_eq_true rfl⟩) ⟨fun a U g mk q => by obtain ⟨q0, q1, qP, qK, qD⟩ := q; exact ⟨q0, q1, qP, va_K.moved (u := U) (U := U.calling g mk a) (Vm.Alike.refl U.vm) qK, qD⟩, va_recv hKc hPc (ci := 13) (q0 := 0) rfl rfl, fun U hU hW => ⟨rfl, by rw [hU], by rw [hU]; exact hPc, va_K.moved hW.alike hKc, hDc.self⟩⟩ rfl rfl hl.1 rfl (lv_room (Nat.le_of_ble_eq_true rfl)) dX10_divisor_216 ⟨(Nat.le_of_ble_eq_true rfl), (Nat.le_of_ble_eq_true rfl)⟩) hS (fun q _ h => hFc q h) hFc (fun u t H1 locs ht hvm hw_67 hB hz1 hk1 hS => ?_)
                      obtain ⟨pn2_68, ln2_69, bn2_70⟩ := u
                      obtain ⟨hP1, hK1, hD1⟩ := hB
                      rw [ht] at hP1
                      have hK1 := va_K.moved hvm.symm hK1
                      try dsimp only at hw_67
                      obtain ⟨hP, hD⟩ := va_join (wr := []) (w1 := [(o, .inr (13, fs)), (p1, .inl (cP, 165440, .inr (.inl (fun j => lN (pn2_68 j))))), (l1, .inl (cL, 2068, .inl (fun j => nI (ln2_69 j)))), (b1, .inl (cB, 2068, .inl (fun j => nI (bn2_70 j))))]) hP hD [0, 1, 2, 3] [] rfl rfl (by decide) (by decide) hk1 hFc hP1 hD1
                      have hK := (hK.sub (tys' := []) [] rfl).app hK1
                      generalize H1 = H at hP hS ⊢
                      have hP : va_P (dC, dI) vwCl ([(o, .inr (13, fs)), (p1, .inl (cP, 165440, .inr (.inl (fun j => lN (pn2_68 j))))), (l1, .inl (cL, 2068, .inl (fun j => nI (ln2_69 j)))), (b1, .inl (cB, 2068, .inl (fun j => nI (bn2_70 j))))]) H := hP
                      have hD : va_D A ([(o, .inr (13, fs)), (p1, .inl (cP, 165440, .inr (.inl (fun j => lN (pn2_68 j))))), (l1, .inl (cL, 2068, .inl (fun j => nI (ln2_69 j)))), (b1, .inl (cB, 2068, .inl (fun j => nI (bn2_70 j))))]) := hD
                      have hK : va_K (dC, dI) vwCl [(cP, .long), (cL, .int), (cB, .boolean)] s := hK
                      obtain ⟨hb_71, hb_72, hb_73, rel_74⟩ := hw_67
                      obtain ⟨f5, o5⟩ := rel_74
                      have f6 := hf8.tr (S := [2060, 2061, 2066]) f5 (fun j h => by simp at h ⊢; omega) (fun j h => by simp at h ⊢; omega)
                      refine lv_iinc (v := nI (k5 + 1)) (lv' := [(4, .int (nI (k5 + 1))), (0, .ref o), (3, .int (nI kk))]) hx hb dX10_divisor_219 hl (k := 2) rfl (nI_add k5 1) (by decide) rfl (fun ls hl => ?_)
                      refine lv_goto (tgt := 205) hx hb dX10_divisor_222 (by decide) ?_
                      exact ih_65 (k5 + 1) (2 * g8) pn2_68 ln2_69 bn2_70 (by omega) hb_71 hb_72 hb_73 f6 o5 (by omega) (k_pw4 hgp (by omega)) (by omega) _ _ _ (hP.sub (ws' := [(o, .inr (13, fs)), (p1, .inl (cP, 165440, .inr (.inl (fun j => lN (pn2_68 j))))), (l1, .inl (cL, 2068, .inl (fun j => nI (ln2_69 j)))), (b1, .inl (cB, 2068, .inl (fun j => nI (bn2_70 j))))]) [0, 1, 2, 3] rfl) (hD.sub (ws' := [(o, .inr (13, fs)), (p1, .inl (cP, 165440, .inr (.inl (fun j => lN (pn2_68 j))))), (l1, .inl (cL, 2068, .inl (fun j => nI (ln2_69 j)))), (b1, .inl (cB, 2068, .inl (fun j => nI (bn2_70 j))))]) [0, 1, 2, 3] (by decide) rfl) (hK.sub (tys' := [(cP, .long), (cL, .int), (cB, .boolean)]) [0, 1, 2] rfl) hS (lv_sub (l' := [(0, .ref o), (3, .int (nI kk)), (4, .int (nI (k5 + 1)))]) hl [1, 2, 0] rfl)
                exact loop_64 _ 0 g1 pn8 ln8 bn8 (Nat.lt_succ_self _) hp8 hl8 hb8 hf8 hG hg0 hgp (Nat.zero_le _) _ _ _ (hP.sub (ws' := [(o, .inr (13, fs)), (p1, .inl (cP, 165440, .inr (.inl (fun j => lN (pn8 j))))), (l1, .inl (cL, 2068, .inl (fun j => nI (ln8 j)))), (b1, .inl (cB, 2068, .inl (fun j => nI (bn8 j))))]) [0, 1, 2, 3] rfl) (hD.sub (ws' := [(o, .inr (13, fs)), (p1, .inl (cP, 165440, .inr (.inl (fun j => lN (pn8 j))))), (l1, .inl (cL, 2068, .inl (fun j => nI (ln8 j)))), (b1, .inl (cB, 2068, .inl (fun j => nI (bn8 j))))]) [0, 1, 2, 3] (by decide) rfl) (hK.sub (tys' := [(cP, .long), (cL, .int), (cB, .boolean)]) [0, 1, 2] rfl) hS (lv_sub (l' := [(0, .ref o), (3, .int (nI kk)), (4, .int (nI 0))]) hl [1, 2, 0] rfl)
              · have c_63 := mt (nI_leI (a := n_60) (b := 0) (by omega) (by decide)).mpr c_63
                have loop_77 : ∀ (k9 : Nat) (g2 : Nat) (h2x : Nat) (pn8 : Nat → Nat) (ln8 : Nat → Nat) (bn8 : Nat → Nat), g2 < k9 → (∀ j, pn8 j < 4294967296) → (∀ j, ln8 j < 81) → (∀ j, bn8 j < 2) → Fr9 [2060, 2061, 2066] pn ln pn8 ln8 → On1 pn8 ln8 2060 g2 → On1 pn8 ln8 2061 h2x → 0 < g2 → g2 * 2 ^ kk < 16384 → h2x * 2 ^ kk < 16384 → g2 + h2x ≤ g1 + h1x → 0 < h2x → ∀ (H : Heap) (locs : List Loc) (ls : Array Slot), va_P (dC, dI) vwCl [(o, .inr (13, fs)), (p1, .inl (cP, 165440, .inr (.inl (fun j => lN (pn8 j))))), (l1, .inl (cL, 2068, .inl (fun j => nI (ln8 j)))), (b1, .inl (cB, 2068, .inl (fun j => nI (bn8 j))))] H → va_D A [(o, .inr (13, fs)), (p1, .inl (cP, 165440, .inr (.inl (fun j => lN (pn8 j))))), (l1, .inl (cL, 2068, .inl (fun j => nI (ln8 j)))), (b1, .inl (cB, 2068, .inl (fun j => nI (bn8 j))))] → va_K (dC, dI) vwCl [(cP, .long), (cL, .int), (cB, .boolean)] s → va_S A s.heap H locs → lv_has ls 5 [(0, .ref o), (3, .int (nI kk))] → W p l e (headSpec wd_X10_divisor ({ frames := 40, cells := 0, slots := 0, locals := 800 })).room s m ([.ref o, .int (nI s9), .int (nI t9)] : List Value).toArray below meth c H locs (0) (0) (MQ below (va_Qv (fun (u : (Nat → Nat) × (Nat → Nat) × (Nat → Nat) × Nat) => match u with | (pn2, ln2, bn2, gg) => (∀ j, pn2 j < 4294967296) ∧ (∀ j, ln2 j < 81) ∧ (∀ j, bn2 j < 2) ∧ (Fr9 [2060, 2061, 2066] pn ln pn2 ln2 ∧ On1 pn2 ln2 2060 gg ∧ 0 < gg ∧ gg < 16384)) (at_X10_divisor dC dI A o fs p1 l1 b1 cP cL cB pn ln bn s9 t9 v9 w9) A) ([.ref o, .int (nI s9), .int (nI t9)] : List Value).toArray s (0) (0) A) (F0 m 87 ls []) := by
                  intro k9
                  induction k9 with
                  | zero => intro g2 h2x pn8 ln8 bn8 h9; exact absurd h9 (Nat.not_lt_zero _)
                  | succ k9 ih_78 =>
                    intro g2 h2x pn8 ln8 bn8 h9 hp8 hl8 hb8 hf8 hG hH hg0 hgp hhp hm8 hh0 H locs ls hP hD hK hS hl
                    have hg4 := k_pw1 hgp
                    have hh4 := k_pw1 hhp
                    refine lv_aload_n hx hb dX10_divisor_87 rfl (lv_at hl 0 rfl) ?_
                    refine lv_sipush (v := nI 2060) hx hb dX10_divisor_88 (by decide +kernel) ?_
                    have hPc := hP.sub (ws' := [(o, .inr (13, fs)), (p1, .inl (cP, 165440, .inr (.inl (fun j => lN (pn8 j))))), (l1, .inl (cL, 2068, .inl (fun j => nI (ln8 j)))), (b1, .inl (cB, 2068, .inl (fun j => nI (bn8 j))))]) [0, 1, 2, 3] rfl
                    have hDc := hD.sub (ws' := [(o, .inr (13, fs)), (p1, .inl (cP, 165440, .inr (.inl (fun j => lN (pn8 j))))), (l1, .inl (cL, 2068, .inl (fun j => nI (ln8 j)))), (b1, .inl (cB, 2068, .inl (fun j => nI (bn8 j))))]) [0, 1, 2, 3] (by decide) rfl
                    have hKc := hK.sub (tys' := [(cP, .long), (cL, .int), (cB, .boolean)]) [0, 1, 2] rfl
                    have hFc := va_free (wc := [(o, .inr (13, fs)), (p1, .inl (cP, 165440, .inr (.inl (fun j => lN (pn8 j))))), (l1, .inl (cL, 2068, .inl (fun j => nI (ln8 j)))), (b1, .inl (cB, 2068, .inl (fun j => nI (bn8 j))))]) hD hS hA [0, 1, 2, 3] rfl
                    refine va_calli (va_runV (As := [.int (nI 2060)]) (rest := []) ⟨hx, hb, hml, hown, hts⟩ (c_X10_isEven l dC dI (va_A [(o, .inr (13, fs)), (p1, .inl (cP, 165440, .inr (.inl (fun j => lN (pn8 j))))), (l1, .inl (cL, 2068, .inl (fun j => nI (ln8 j)))), (b1, .inl (cB, 2068, .inl (fun j => nI (bn8 j))))] H.size) H.size (fun _ h => Or.inr h) o fs p1 l1 b1 cP cL cB pn8 ln8 bn8 2060 g2 h1 h2 h3 hp8 hl8 hb8 (by decide) hG (by omega)) (cwV 1 hts (goodIn_app (goodIn_r [Cond.methodLink RX10 107 yX10_isEven, Cond.instanceMethod yX10_isEven, Cond.selects RX10 yX10_isEven yX10_isEven, Cond.initialized RX10] [6, 7, 8, 4] rfl rfl) (goodIn_sub (fun w9 h9 => bk2 w9 h9) gw_X10_isEven)) rfl rfl rfl (by decide +kernel) ⟨Nat.le_of_ble_eq_true rfl, Nat.le_of_ble_eq_true rfl⟩) ⟨fun a U g mk q => by obtain ⟨q0, q1, qP, qK, qD⟩ := q; exact ⟨q0, q1, qP, va_K.moved (u := U) (U := U.calling g mk a) (Vm.Alike.refl U.vm) qK, qD⟩, va_recv hKc hPc (ci := 13) (q0 := 0) rfl rfl, fun U hU hW => ⟨rfl, by rw [hU], by rw [hU]; exact hPc, va_K.moved hW.alike hKc, hDc.self⟩⟩ rfl rfl hl.1 rfl (lv_room (Nat.le_of_ble_eq_true rfl)) dX10_divisor_91 ⟨(Nat.le_of_ble_eq_true rfl), (Nat.le_of_ble_eq_true rfl)⟩) hS (fun q _ h => hFc q h) hFc (fun r_79 u t H1 locs ht hvm hw_80 hB hz1 hk1 hS => ?_)
                    obtain ⟨⟩ := u
                    obtain ⟨hP1, hK1, hD1⟩ := hB
                    rw [ht] at hP1
                    have hK1 := va_K.moved hvm.symm hK1
                    try dsimp only at hw_80
                    obtain ⟨hP, hD⟩ := va_join (wr := []) (w1 := [(o, .inr (13, fs)), (p1, .inl (cP, 165440, .inr (.inl (fun j => lN (pn8 j))))), (l1, .inl (cL, 2068, .inl (fun j => nI (ln8 j)))), (b1, .inl (cB, 2068, .inl (fun j => nI (bn8 j))))]) hP hD [0, 1, 2, 3] [] rfl rfl (by decide) (by decide) hk1 hFc hP1 hD1
                    have hK := (hK.sub (tys' := []) [] rfl).app hK1
                    generalize H1 = H at hP hS ⊢
                    have hP : va_P (dC, dI) vwCl ([(o, .inr (13, fs)), (p1, .inl (cP, 165440, .inr (.inl (fun j => lN (pn8 j))))), (l1, .inl (cL, 2068, .inl (fun j => nI (ln8 j)))), (b1, .inl (cB, 2068, .inl (fun j => nI (bn8 j))))]) H := hP
                    have hD : va_D A ([(o, .inr (13, fs)), (p1, .inl (cP, 165440, .inr (.inl (fun j => lN (pn8 j))))), (l1, .inl (cL, 2068, .inl (fun j => nI (ln8 j)))), (b1, .inl (cB, 2068, .inl (fun j => nI (bn8 j))))]) := hD
                    have hK : va_K (dC, dI) vwCl [(cP, .long), (cL, .int), (cB, .boolean)] s := hK
                    rcases hw_80 with ⟨rfl, z_81⟩ | ⟨rfl, z_81⟩
                    · refine lv_if_eq (tgt := 107) hx hb dX10_divisor_94 (by decide) (fun c_82 => absurd c_82 (by decide)) (fun c_82 => ?_)
                      refine lv_aload_n hx hb dX10_divisor_97 rfl (lv_at hl 0 rfl) ?_
                      refine lv_sipush (v := nI 2060) hx hb dX10_divisor_98 (by decide +kernel) ?_
                      have hPc := hP.sub (ws' := [(o, .inr (13, fs)), (p1, .inl (cP, 165440, .inr (.inl (fun j => lN (pn8 j))))), (l1, .inl (cL, 2068, .inl (fun j => nI (ln8 j)))), (b1, .inl (cB, 2068, .inl (fun j => nI (bn8 j))))]) [0, 1, 2, 3] rfl
                      have hDc := hD.sub (ws' := [(o, .inr (13, fs)), (p1, .inl (cP, 165440, .inr (.inl (fun j => lN (pn8 j))))), (l1, .inl (cL, 2068, .inl (fun j => nI (ln8 j)))), (b1, .inl (cB, 2068, .inl (fun j => nI (bn8 j))))]) [0, 1, 2, 3] (by decide) rfl
                      have hKc := hK.sub (tys' := [(cP, .long), (cL, .int), (cB, .boolean)]) [0, 1, 2] rfl
                      have hFc := va_free (wc := [(o, .inr (13, fs)), (p1, .inl (cP, 165440, .inr (.inl (fun j => lN (pn8 j))))), (l1, .inl (cL, 2068, .inl (fun j => nI (ln8 j)))), (b1, .inl (cB, 2068, .inl (fun j => nI (bn8 j))))]) hD hS hA [0, 1, 2, 3] rfl
                      refine va_callv (va_runV (As := [.int (nI 2060)]) (rest := []) ⟨hx, hb, hml, hown, hts⟩ (c_X10_halve l dC dI (va_A [(o, .inr (13, fs)), (p1, .inl (cP, 165440, .inr (.inl (fun j => lN (pn8 j))))), (l1, .inl (cL, 2068, .inl (fun j => nI (ln8 j)))), (b1, .inl (cB, 2068, .inl (fun j => nI (bn8 j))))] H.size) H.size (fun _ h => Or.inr h) o fs p1 l1 b1 cP cL cB pn8 ln8 bn8 2060 g2 h1 h2 h3 hp8 hl8 hb8 (by decide) hG (by omega)) (cwV 1 hts (goodIn_app (goodIn_r [Cond.methodLink RX10 111 yX10_halve, Cond.instanceMethod yX10_halve, Cond.selects RX10 yX10_halve yX10_halve, Cond.initialized RX10] [9, 10, 11, 4] rfl rfl) (goodIn_sub (fun w9 h9 => bk3 w9 h9) gw_X10_halve)) rfl rfl rfl (by decide +kernel) ⟨Nat.le_of_ble_eq_true rfl, Nat.le_of_ble_eq_true rfl⟩) ⟨fun a U g mk q => by obtain ⟨q0, q1, qP, qK, qD⟩ := q; exact ⟨q0, q1, qP, va_K.moved (u := U) (U := U.calling g mk a) (Vm.Alike.refl U.vm) qK, qD⟩, va_recv hKc hPc (ci := 13) (q0 := 0) rfl rfl, fun U hU hW => ⟨rfl, by rw [hU], by rw [hU]; exact hPc, va_K.moved hW.alike hKc, hDc.self⟩⟩ rfl rfl hl.1 rfl (lv_room (Nat.le_of_ble_eq_true rfl)) dX10_divisor_101 ⟨(Nat.le_of_ble_eq_true rfl), (Nat.le_of_ble_eq_true rfl)⟩) hS (fun q _ h => hFc q h) hFc (fun u t H1 locs ht hvm hw_83 hB hz1 hk1 hS => ?_)
                      obtain ⟨pn2_84, ln2_85, bn2_86⟩ := u
                      obtain ⟨hP1, hK1, hD1⟩ := hB
                      rw [ht] at hP1
                      have hK1 := va_K.moved hvm.symm hK1
                      try dsimp only at hw_83
                      obtain ⟨hP, hD⟩ := va_join (wr := []) (w1 := [(o, .inr (13, fs)), (p1, .inl (cP, 165440, .inr (.inl (fun j => lN (pn2_84 j))))), (l1, .inl (cL, 2068, .inl (fun j => nI (ln2_85 j)))), (b1, .inl (cB, 2068, .inl (fun j => nI (bn2_86 j))))]) hP hD [0, 1, 2, 3] [] rfl rfl (by decide) (by decide) hk1 hFc hP1 hD1
                      have hK := (hK.sub (tys' := []) [] rfl).app hK1
                      generalize H1 = H at hP hS ⊢
                      have hP : va_P (dC, dI) vwCl ([(o, .inr (13, fs)), (p1, .inl (cP, 165440, .inr (.inl (fun j => lN (pn2_84 j))))), (l1, .inl (cL, 2068, .inl (fun j => nI (ln2_85 j)))), (b1, .inl (cB, 2068, .inl (fun j => nI (bn2_86 j))))]) H := hP
                      have hD : va_D A ([(o, .inr (13, fs)), (p1, .inl (cP, 165440, .inr (.inl (fun j => lN (pn2_84 j))))), (l1, .inl (cL, 2068, .inl (fun j => nI (ln2_85 j)))), (b1, .inl (cB, 2068, .inl (fun j => nI (bn2_86 j))))]) := hD
                      have hK : va_K (dC, dI) vwCl [(cP, .long), (cL, .int), (cB, .boolean)] s := hK
                      obtain ⟨hb_87, hb_88, hb_89, rel_90⟩ := hw_83
                      obtain ⟨fr_91, on_92⟩ := rel_90
                      have on_93 := hH.fr fr_91 (by simp only [List.mem_cons, List.not_mem_nil, or_false]; omega)
                      have F_94 := hf8.tr (S := [2060, 2061, 2066]) fr_91 (fun j h => by simp at h ⊢; omega) (fun j h => by simp at h ⊢; omega)
                      refine lv_goto (tgt := 87) hx hb dX10_divisor_104 (by decide) ?_
                      exact ih_78 (g2 / 2) h2x pn2_84 ln2_85 bn2_86 (by omega) hb_87 hb_88 hb_89 F_94 on_92 on_93 (by omega) (k_pw3 hgp (Nat.div_le_self _ _)) hhp (by omega) (by omega) _ _ _ (hP.sub (ws' := [(o, .inr (13, fs)), (p1, .inl (cP, 165440, .inr (.inl (fun j => lN (pn2_84 j))))), (l1, .inl (cL, 2068, .inl (fun j => nI (ln2_85 j)))), (b1, .inl (cB, 2068, .inl (fun j => nI (bn2_86 j))))]) [0, 1, 2, 3] rfl) (hD.sub (ws' := [(o, .inr (13, fs)), (p1, .inl (cP, 165440, .inr (.inl (fun j => lN (pn2_84 j))))), (l1, .inl (cL, 2068, .inl (fun j => nI (ln2_85 j)))), (b1, .inl (cB, 2068, .inl (fun j => nI (bn2_86 j))))]) [0, 1, 2, 3] (by decide) rfl) (hK.sub (tys' := [(cP, .long), (cL, .int), (cB, .boolean)]) [0, 1, 2] rfl) hS (lv_sub (l' := [(0, .ref o), (3, .int (nI kk))]) hl [0, 1] rfl)
                    · refine lv_if_eq (tgt := 107) hx hb dX10_divisor_94 (by decide) (fun c_95 => ?_) (fun c_95 => absurd c_95 (by decide))
                      have loop_96 : ∀ (k9 : Nat) (g3 : Nat) (h3x : Nat) (pn8 : Nat → Nat) (ln8 : Nat → Nat) (bn8 : Nat → Nat), h3x < k9 → (∀ j, pn8 j < 4294967296) → (∀ j, ln8 j < 81) → (∀ j, bn8 j < 2) → Fr9 [2060, 2061, 2066] pn ln pn8 ln8 → On1 pn8 ln8 2060 g3 → On1 pn8 ln8 2061 h3x → 0 < g3 → g3 * 2 ^ kk < 16384 → h3x * 2 ^ kk < 16384 → g3 + h3x ≤ g1 + h1x → 0 < h3x → g3 % 2 = 1 → ∀ (H : Heap) (locs : List Loc) (ls : Array Slot), va_P (dC, dI) vwCl [(o, .inr (13, fs)), (p1, .inl (cP, 165440, .inr (.inl (fun j => lN (pn8 j))))), (l1, .inl (cL, 2068, .inl (fun j => nI (ln8 j)))), (b1, .inl (cB, 2068, .inl (fun j => nI (bn8 j))))] H → va_D A [(o, .inr (13, fs)), (p1, .inl (cP, 165440, .inr (.inl (fun j => lN (pn8 j))))), (l1, .inl (cL, 2068, .inl (fun j => nI (ln8 j)))), (b1, .inl (cB, 2068, .inl (fun j => nI (bn8 j))))] → va_K (dC, dI) vwCl [(cP, .long), (cL, .int), (cB, .boolean)] s → va_S A s.heap H locs → lv_has ls 5 [(0, .ref o), (3, .int (nI kk))] → W p l e (headSpec wd_X10_divisor ({ frames := 40, cells := 0, slots := 0, locals := 800 })).room s m ([.ref o, .int (nI s9), .int (nI t9)] : List Value).toArray below meth c H locs (0) (0) (MQ below (va_Qv (fun (u : (Nat → Nat) × (Nat → Nat) × (Nat → Nat) × Nat) => match u with | (pn2, ln2, bn2, gg) => (∀ j, pn2 j < 4294967296) ∧ (∀ j, ln2 j < 81) ∧ (∀ j, bn2 j < 2) ∧ (Fr9 [2060, 2061, 2066] pn ln pn2 ln2 ∧ On1 pn2 ln2 2060 gg ∧ 0 < gg ∧ gg < 16384)) (at_X10_divisor dC dI A o fs p1 l1 b1 cP cL cB pn ln bn s9 t9 v9 w9) A) ([.ref o, .int (nI s9), .int (nI t9)] : List Value).toArray s (0) (0) A) (F0 m 107 ls []) := by
                        intro k9
                        induction k9 with
                        | zero => intro g3 h3x pn8 ln8 bn8 h9; exact absurd h9 (Nat.not_lt_zero _)
                        | succ k9 ih_97 =>
                          intro g3 h3x pn8 ln8 bn8 h9 hp8 hl8 hb8 hf8 hG hH hg0 hgp hhp hm8 hh0 ho2 H locs ls hP hD hK hS hl
                          have hg4 := k_pw1 hgp
                          have hh4 := k_pw1 hhp
                          refine lv_aload_n hx hb dX10_divisor_107 rfl (lv_at hl 0 rfl) ?_
                          refine lv_sipush (v := nI 2061) hx hb dX10_divisor_108 (by decide +kernel) ?_
                          have hPc := hP.sub (ws' := [(o, .inr (13, fs)), (p1, .inl (cP, 165440, .inr (.inl (fun j => lN (pn8 j))))), (l1, .inl (cL, 2068, .inl (fun j => nI (ln8 j)))), (b1, .inl (cB, 2068, .inl (fun j => nI (bn8 j))))]) [0, 1, 2, 3] rfl
                          have hDc := hD.sub (ws' := [(o, .inr (13, fs)), (p1, .inl (cP, 165440, .inr (.inl (fun j => lN (pn8 j))))), (l1, .inl (cL, 2068, .inl (fun j => nI (ln8 j)))), (b1, .inl (cB, 2068, .inl (fun j => nI (bn8 j))))]) [0, 1, 2, 3] (by decide) rfl
                          have hKc := hK.sub (tys' := [(cP, .long), (cL, .int), (cB, .boolean)]) [0, 1, 2] rfl
                          have hFc := va_free (wc := [(o, .inr (13, fs)), (p1, .inl (cP, 165440, .inr (.inl (fun j => lN (pn8 j))))), (l1, .inl (cL, 2068, .inl (fun j => nI (ln8 j)))), (b1, .inl (cB, 2068, .inl (fun j => nI (bn8 j))))]) hD hS hA [0, 1, 2, 3] rfl
                          refine va_calli (va_runV (As := [.int (nI 2061)]) (rest := []) ⟨hx, hb, hml, hown, hts⟩ (c_X10_isEven l dC dI (va_A [(o, .inr (13, fs)), (p1, .inl (cP, 165440, .inr (.inl (fun j => lN (pn8 j))))), (l1, .inl (cL, 2068, .inl (fun j => nI (ln8 j)))), (b1, .inl (cB, 2068, .inl (fun j => nI (bn8 j))))] H.size) H.size (fun _ h => Or.inr h) o fs p1 l1 b1 cP cL cB pn8 ln8 bn8 2061 h3x h1 h2 h3 hp8 hl8 hb8 (by decide) hH (by omega)) (cwV 1 hts (goodIn_app (goodIn_r [Cond.methodLink RX10 107 yX10_isEven, Cond.instanceMethod yX10_isEven, Cond.selects RX10 yX10_isEven yX10_isEven, Cond.initialized RX10] [6, 7, 8, 4] rfl rfl) (goodIn_sub (fun w9 h9 => bk2 w9 h9) gw_X10_isEven)) rfl rfl rfl (by decide +kernel) ⟨Nat.le_of_ble_eq_true rfl, Nat.le_of_ble_eq_true rfl⟩) ⟨fun a U g mk q => by obtain ⟨q0, q1, qP, qK, qD⟩ := q; exact ⟨q0, q1, qP, va_K.moved (u := U) (U := U.calling g mk a) (Vm.Alike.refl U.vm) qK, qD⟩, va_recv hKc hPc (ci := 13) (q0 := 0) rfl rfl, fun U hU hW => ⟨rfl, by rw [hU], by rw [hU]; exact hPc, va_K.moved hW.alike hKc, hDc.self⟩⟩ rfl rfl hl.1 rfl (lv_room (Nat.le_of_ble_eq_true rfl)) dX10_divisor_111 ⟨(Nat.le_of_ble_eq_true rfl), (Nat.le_of_ble_eq_true rfl)⟩) hS (fun q _ h => hFc q h) hFc (fun r_98 u t H1 locs ht hvm hw_99 hB hz1 hk1 hS => ?_)
                          obtain ⟨⟩ := u
                          obtain ⟨hP1, hK1, hD1⟩ := hB
                          rw [ht] at hP1
                          have hK1 := va_K.moved hvm.symm hK1
                          try dsimp only at hw_99
                          obtain ⟨hP, hD⟩ := va_join (wr := []) (w1 := [(o, .inr (13, fs)), (p1, .inl (cP, 165440, .inr (.inl (fun j => lN (pn8 j))))), (l1, .inl (cL, 2068, .inl (fun j => nI (ln8 j)))), (b1, .inl (cB, 2068, .inl (fun j => nI (bn8 j))))]) hP hD [0, 1, 2, 3] [] rfl rfl (by decide) (by decide) hk1 hFc hP1 hD1
                          have hK := (hK.sub (tys' := []) [] rfl).app hK1
                          generalize H1 = H at hP hS ⊢
                          have hP : va_P (dC, dI) vwCl ([(o, .inr (13, fs)), (p1, .inl (cP, 165440, .inr (.inl (fun j => lN (pn8 j))))), (l1, .inl (cL, 2068, .inl (fun j => nI (ln8 j)))), (b1, .inl (cB, 2068, .inl (fun j => nI (bn8 j))))]) H := hP
                          have hD : va_D A ([(o, .inr (13, fs)), (p1, .inl (cP, 165440, .inr (.inl (fun j => lN (pn8 j))))), (l1, .inl (cL, 2068, .inl (fun j => nI (ln8 j)))), (b1, .inl (cB, 2068, .inl (fun j => nI (bn8 j))))]) := hD
                          have hK : va_K (dC, dI) vwCl [(cP, .long), (cL, .int), (cB, .boolean)] s := hK
                          rcases hw_99 with ⟨rfl, z_100⟩ | ⟨rfl, z_100⟩
                          · refine lv_if_eq (tgt := 127) hx hb dX10_divisor_114 (by decide) (fun c_101 => absurd c_101 (by decide)) (fun c_101 => ?_)
                            refine lv_aload_n hx hb dX10_divisor_117 rfl (lv_at hl 0 rfl) ?_
                            refine lv_sipush (v := nI 2061) hx hb dX10_divisor_118 (by decide +kernel) ?_
                            have hPc := hP.sub (ws' := [(o, .inr (13, fs)), (p1, .inl (cP, 165440, .inr (.inl (fun j => lN (pn8 j))))), (l1, .inl (cL, 2068, .inl (fun j => nI (ln8 j)))), (b1, .inl (cB, 2068, .inl (fun j => nI (bn8 j))))]) [0, 1, 2, 3] rfl
                            have hDc := hD.sub (ws' := [(o, .inr (13, fs)), (p1, .inl (cP, 165440, .inr (.inl (fun j => lN (pn8 j))))), (l1, .inl (cL, 2068, .inl (fun j => nI (ln8 j)))), (b1, .inl (cB, 2068, .inl (fun j => nI (bn8 j))))]) [0, 1, 2, 3] (by decide) rfl
                            have hKc := hK.sub (tys' := [(cP, .long), (cL, .int), (cB, .boolean)]) [0, 1, 2] rfl
                            have hFc := va_free (wc := [(o, .inr (13, fs)), (p1, .inl (cP, 165440, .inr (.inl (fun j => lN (pn8 j))))), (l1, .inl (cL, 2068, .inl (fun j => nI (ln8 j)))), (b1, .inl (cB, 2068, .inl (fun j => nI (bn8 j))))]) hD hS hA [0, 1, 2, 3] rfl
                            refine va_callv (va_runV (As := [.int (nI 2061)]) (rest := []) ⟨hx, hb, hml, hown, hts⟩ (c_X10_halve l dC dI (va_A [(o, .inr (13, fs)), (p1, .inl (cP, 165440, .inr (.inl (fun j => lN (pn8 j))))), (l1, .inl (cL, 2068, .inl (fun j => nI (ln8 j)))), (b1, .inl (cB, 2068, .inl (fun j => nI (bn8 j))))] H.size) H.size (fun _ h => Or.inr h) o fs p1 l1 b1 cP cL cB pn8 ln8 bn8 2061 h3x h1 h2 h3 hp8 hl8 hb8 (by decide) hH (by omega)) (cwV 1 hts (goodIn_app (goodIn_r [Cond.methodLink RX10 111 yX10_halve, Cond.instanceMethod yX10_halve, Cond.selects RX10 yX10_halve yX10_halve, Cond.initialized RX10] [9, 10, 11, 4] rfl rfl) (goodIn_sub (fun w9 h9 => bk3 w9 h9) gw_X10_halve)) rfl rfl rfl (by decide +kernel) ⟨Nat.le_of_ble_eq_true rfl, Nat.le_of_ble_eq_true rfl⟩) ⟨fun a U g mk q => by obtain ⟨q0, q1, qP, qK, qD⟩ := q; exact ⟨q0, q1, qP, va_K.moved (u := U) (U := U.calling g mk a) (Vm.Alike.refl U.vm) qK, qD⟩, va_recv hKc hPc (ci := 13) (q0 := 0) rfl rfl, fun U hU hW => ⟨rfl, by rw [hU], by rw [hU]; exact hPc, va_K.moved hW.alike hKc, hDc.self⟩⟩ rfl rfl hl.1 rfl (lv_room (Nat.le_of_ble_eq_true rfl)) dX10_divisor_121 ⟨(Nat.le_of_ble_eq_true rfl), (Nat.le_of_ble_eq_true rfl)⟩) hS (fun q _ h => hFc q h) hFc (fun u t H1 locs ht hvm hw_102 hB hz1 hk1 hS => ?_)
                            obtain ⟨pn2_103, ln2_104, bn2_105⟩ := u
                            obtain ⟨hP1, hK1, hD1⟩ := hB
                            rw [ht] at hP1
                            have hK1 := va_K.moved hvm.symm hK1
                            try dsimp only at hw_102
                            obtain ⟨hP, hD⟩ := va_join (wr := []) (w1 := [(o, .inr (13, fs)), (p1, .inl (cP, 165440, .inr (.inl (fun j => lN (pn2_103 j))))), (l1, .inl (cL, 2068, .inl (fun j => nI (ln2_104 j)))), (b1, .inl (cB, 2068, .inl (fun j => nI (bn2_105 j))))]) hP hD [0, 1, 2, 3] [] rfl rfl (by decide) (by decide) hk1 hFc hP1 hD1
                            have hK := (hK.sub (tys' := []) [] rfl).app hK1
                            generalize H1 = H at hP hS ⊢
                            have hP : va_P (dC, dI) vwCl ([(o, .inr (13, fs)), (p1, .inl (cP, 165440, .inr (.inl (fun j => lN (pn2_103 j))))), (l1, .inl (cL, 2068, .inl (fun j => nI (ln2_104 j)))), (b1, .inl (cB, 2068, .inl (fun j => nI (bn2_105 j))))]) H := hP
                            have hD : va_D A ([(o, .inr (13, fs)), (p1, .inl (cP, 165440, .inr (.inl (fun j => lN (pn2_103 j))))), (l1, .inl (cL, 2068, .inl (fun j => nI (ln2_104 j)))), (b1, .inl (cB, 2068, .inl (fun j => nI (bn2_105 j))))]) := hD
                            have hK : va_K (dC, dI) vwCl [(cP, .long), (cL, .int), (cB, .boolean)] s := hK
                            obtain ⟨hb_106, hb_107, hb_108, rel_109⟩ := hw_102
                            obtain ⟨fr_110, on_111⟩ := rel_109
                            have on_112 := hG.fr fr_110 (by simp only [List.mem_cons, List.not_mem_nil, or_false]; omega)
                            have F_113 := hf8.tr (S := [2060, 2061, 2066]) fr_110 (fun j h => by simp at h ⊢; omega) (fun j h => by simp at h ⊢; omega)
                            refine lv_goto (tgt := 107) hx hb dX10_divisor_124 (by decide) ?_
                            exact ih_97 g3 (h3x / 2) pn2_103 ln2_104 bn2_105 (by omega) hb_106 hb_107 hb_108 F_113 on_112 on_111 hg0 hgp (k_pw3 hhp (Nat.div_le_self _ _)) (by omega) (by omega) ho2 _ _ _ (hP.sub (ws' := [(o, .inr (13, fs)), (p1, .inl (cP, 165440, .inr (.inl (fun j => lN (pn2_103 j))))), (l1, .inl (cL, 2068, .inl (fun j => nI (ln2_104 j)))), (b1, .inl (cB, 2068, .inl (fun j => nI (bn2_105 j))))]) [0, 1, 2, 3] rfl) (hD.sub (ws' := [(o, .inr (13, fs)), (p1, .inl (cP, 165440, .inr (.inl (fun j => lN (pn2_103 j))))), (l1, .inl (cL, 2068, .inl (fun j => nI (ln2_104 j)))), (b1, .inl (cB, 2068, .inl (fun j => nI (bn2_105 j))))]) [0, 1, 2, 3] (by decide) rfl) (hK.sub (tys' := [(cP, .long), (cL, .int), (cB, .boolean)]) [0, 1, 2] rfl) hS (lv_sub (l' := [(0, .ref o), (3, .int (nI kk))]) hl [0, 1] rfl)
                          · refine lv_if_eq (tgt := 127) hx hb dX10_divisor_114 (by decide) (fun c_114 => ?_) (fun c_114 => absurd c_114 (by decide))
                            refine lv_aload_n hx hb dX10_divisor_127 rfl (lv_at hl 0 rfl) ?_
                            refine lv_sipush (v := nI 2060) hx hb dX10_divisor_128 (by decide +kernel) ?_
                            refine lv_sipush (v := nI 2061) hx hb dX10_divisor_131 (by decide +kernel) ?_
                            have hPc := hP.sub (ws' := [(o, .inr (13, fs)), (p1, .inl (cP, 165440, .inr (.inl (fun j => lN (pn8 j))))), (l1, .inl (cL, 2068, .inl (fun j => nI (ln8 j)))), (b1, .inl (cB, 2068, .inl (fun j => nI (bn8 j))))]) [0, 1, 2, 3] rfl
                            have hDc := hD.sub (ws' := [(o, .inr (13, fs)), (p1, .inl (cP, 165440, .inr (.inl (fun j => lN (pn8 j))))), (l1, .inl (cL, 2068, .inl (fun j => nI (ln8 j)))), (b1, .inl (cB, 2068, .inl (fun j => nI (bn8 j))))]) [0, 1, 2, 3] (by decide) rfl
                            have hKc := hK.sub (tys' := [(cP, .long), (cL, .int), (cB, .boolean)]) [0, 1, 2] rfl
                            have hFc := va_free (wc := [(o, .inr (13, fs)), (p1, .inl (cP, 165440, .inr (.inl (fun j => lN (pn8 j))))), (l1, .inl (cL, 2068, .inl (fun j => nI (ln8 j)))), (b1, .inl (cB, 2068, .inl (fun j => nI (bn8 j))))]) hD hS hA [0, 1, 2, 3] rfl
                            refine va_calli (va_runV (As := [.int (nI 2060), .int (nI 2061)]) (rest := []) ⟨hx, hb, hml, hown, hts⟩ (c_X10_cmp l dC dI (va_A [(o, .inr (13, fs)), (p1, .inl (cP, 165440, .inr (.inl (fun j => lN (pn8 j))))), (l1, .inl (cL, 2068, .inl (fun j => nI (ln8 j)))), (b1, .inl (cB, 2068, .inl (fun j => nI (bn8 j))))] H.size) H.size (fun _ h => Or.inr h) o fs p1 l1 b1 cP cL cB pn8 ln8 bn8 2060 2061 g3 h3x h1 h2 h3 hp8 hl8 hb8 (by decide) (by decide) hG hH (by omega) (by omega)) (cwV 2 hts (goodIn_app (goodIn_r [Cond.methodLink RX10 100 yX10_compareSizes, Cond.instanceMethod yX10_compareSizes, Cond.selects RX10 yX10_compareSizes yX10_compareSizes, Cond.initialized RX10] [16, 17, 18, 4] rfl rfl) (goodIn_sub (fun w9 h9 => bk5 w9 h9) gw_X10_cmp)) rfl rfl rfl (by decide +kernel) ⟨Nat.le_of_ble_eq_true rfl, Nat.le_of_ble_eq_true rfl⟩) ⟨fun a U g mk q => by obtain ⟨q0, q1, qP, qK, qD⟩ := q; exact ⟨q0, q1, qP, va_K.moved (u := U) (U := U.calling g mk a) (Vm.Alike.refl U.vm) qK, qD⟩, va_recv hKc hPc (ci := 13) (q0 := 0) rfl rfl, fun U hU hW => ⟨rfl, by rw [hU], by rw [hU]; exact hPc, va_K.moved hW.alike hKc, hDc.self⟩⟩ rfl rfl hl.1 rfl (lv_room (Nat.le_of_ble_eq_true rfl)) dX10_divisor_134 ⟨(Nat.le_of_ble_eq_true rfl), (Nat.le_of_ble_eq_true rfl)⟩) hS (fun q _ h => hFc q h) hFc (fun r_115 u t H1 locs ht hvm hw_116 hB hz1 hk1 hS => ?_)
                            obtain ⟨⟩ := u
                            obtain ⟨hP1, hK1, hD1⟩ := hB
                            rw [ht] at hP1
                            have hK1 := va_K.moved hvm.symm hK1
                            try dsimp only at hw_116
                            obtain ⟨hP, hD⟩ := va_join (wr := []) (w1 := [(o, .inr (13, fs)), (p1, .inl (cP, 165440, .inr (.inl (fun j => lN (pn8 j))))), (l1, .inl (cL, 2068, .inl (fun j => nI (ln8 j)))), (b1, .inl (cB, 2068, .inl (fun j => nI (bn8 j))))]) hP hD [0, 1, 2, 3] [] rfl rfl (by decide) (by decide) hk1 hFc hP1 hD1
                            have hK := (hK.sub (tys' := []) [] rfl).app hK1
                            generalize H1 = H at hP hS ⊢
                            have hP : va_P (dC, dI) vwCl ([(o, .inr (13, fs)), (p1, .inl (cP, 165440, .inr (.inl (fun j => lN (pn8 j))))), (l1, .inl (cL, 2068, .inl (fun j => nI (ln8 j)))), (b1, .inl (cB, 2068, .inl (fun j => nI (bn8 j))))]) H := hP
                            have hD : va_D A ([(o, .inr (13, fs)), (p1, .inl (cP, 165440, .inr (.inl (fun j => lN (pn8 j))))), (l1, .inl (cL, 2068, .inl (fun j => nI (ln8 j)))), (b1, .inl (cB, 2068, .inl (fun j => nI (bn8 j))))]) := hD
                            have hK : va_K (dC, dI) vwCl [(cP, .long), (cL, .int), (cB, .boolean)] s := hK
                            rcases hw_116 with ⟨rfl, z_117⟩ | ⟨rfl, z_117⟩ | ⟨rfl, z_117⟩
                            · refine lv_if_le (tgt := 156) hx hb dX10_divisor_137 (by decide) (fun c_118 => ?_) (fun c_118 => absurd c_118 (by decide))
                              refine lv_aload_n hx hb dX10_divisor_156 rfl (lv_at hl 0 rfl) ?_
                              refine lv_sipush (v := nI 2061) hx hb dX10_divisor_157 (by decide +kernel) ?_
                              refine lv_sipush (v := nI 2061) hx hb dX10_divisor_160 (by decide +kernel) ?_
                              refine lv_sipush (v := nI 2060) hx hb dX10_divisor_163 (by decide +kernel) ?_
                              have hPc := hP.sub (ws' := [(o, .inr (13, fs)), (p1, .inl (cP, 165440, .inr (.inl (fun j => lN (pn8 j))))), (l1, .inl (cL, 2068, .inl (fun j => nI (ln8 j)))), (b1, .inl (cB, 2068, .inl (fun j => nI (bn8 j))))]) [0, 1, 2, 3] rfl
                              have hDc := hD.sub (ws' := [(o, .inr (13, fs)), (p1, .inl (cP, 165440, .inr (.inl (fun j => lN (pn8 j))))), (l1, .inl (cL, 2068, .inl (fun j => nI (ln8 j)))), (b1, .inl (cB, 2068, .inl (fun j => nI (bn8 j))))]) [0, 1, 2, 3] (by decide) rfl
                              have hKc := hK.sub (tys' := [(cP, .long), (cL, .int), (cB, .boolean)]) [0, 1, 2] rfl
                              have hFc := va_free (wc := [(o, .inr (13, fs)), (p1, .inl (cP, 165440, .inr (.inl (fun j => lN (pn8 j))))), (l1, .inl (cL, 2068, .inl (fun j => nI (ln8 j)))), (b1, .inl (cB, 2068, .inl (fun j => nI (bn8 j))))]) hD hS hA [0, 1, 2, 3] rfl
                              refine va_callv (va_runV (As := [.int (nI 2061), .int (nI 2061), .int (nI 2060)]) (rest := []) ⟨hx, hb, hml, hown, hts⟩ (c_X10_take l dC dI (va_A [(o, .inr (13, fs)), (p1, .inl (cP, 165440, .inr (.inl (fun j => lN (pn8 j))))), (l1, .inl (cL, 2068, .inl (fun j => nI (ln8 j)))), (b1, .inl (cB, 2068, .inl (fun j => nI (bn8 j))))] H.size) H.size (fun _ h => Or.inr h) o fs p1 l1 b1 cP cL cB pn8 ln8 bn8 2061 2061 2060 h3x g3 h1 h2 h3 hp8 hl8 hb8 (by decide) (by decide) (by decide) hH hG (by omega) (by omega)) (cwV 3 hts (goodIn_app (goodIn_r [Cond.methodLink RX10 104 yX10_takeSizes, Cond.instanceMethod yX10_takeSizes, Cond.selects RX10 yX10_takeSizes yX10_takeSizes, Cond.initialized RX10] [19, 20, 21, 4] rfl rfl) (goodIn_sub (fun w9 h9 => bk6 w9 h9) gw_X10_take)) rfl rfl rfl (by decide +kernel) ⟨Nat.le_of_ble_eq_true rfl, Nat.le_of_ble_eq_true rfl⟩) ⟨fun a U g mk q => by obtain ⟨q0, q1, qP, qK, qD⟩ := q; exact ⟨q0, q1, qP, va_K.moved (u := U) (U := U.calling g mk a) (Vm.Alike.refl U.vm) qK, qD⟩, va_recv hKc hPc (ci := 13) (q0 := 0) rfl rfl, fun U hU hW => ⟨rfl, by rw [hU], by rw [hU]; exact hPc, va_K.moved hW.alike hKc, hDc.self⟩⟩ rfl rfl hl.1 rfl (lv_room (Nat.le_of_ble_eq_true rfl)) dX10_divisor_166 ⟨(Nat.le_of_ble_eq_true rfl), (Nat.le_of_ble_eq_true rfl)⟩) hS (fun q _ h => hFc q h) hFc (fun u t H1 locs ht hvm hw_119 hB hz1 hk1 hS => ?_)
                              obtain ⟨pn2_120, ln2_121, bn2_122⟩ := u
                              obtain ⟨hP1, hK1, hD1⟩ := hB
                              rw [ht] at hP1
                              have hK1 := va_K.moved hvm.symm hK1
                              try dsimp only at hw_119
                              obtain ⟨hP, hD⟩ := va_join (wr := []) (w1 := [(o, .inr (13, fs)), (p1, .inl (cP, 165440, .inr (.inl (fun j => lN (pn2_120 j))))), (l1, .inl (cL, 2068, .inl (fun j => nI (ln2_121 j)))), (b1, .inl (cB, 2068, .inl (fun j => nI (bn2_122 j))))]) hP hD [0, 1, 2, 3] [] rfl rfl (by decide) (by decide) hk1 hFc hP1 hD1
                              have hK := (hK.sub (tys' := []) [] rfl).app hK1
                              generalize H1 = H at hP hS ⊢
                              have hP : va_P (dC, dI) vwCl ([(o, .inr (13, fs)), (p1, .inl (cP, 165440, .inr (.inl (fun j => lN (pn2_120 j))))), (l1, .inl (cL, 2068, .inl (fun j => nI (ln2_121 j)))), (b1, .inl (cB, 2068, .inl (fun j => nI (bn2_122 j))))]) H := hP
                              have hD : va_D A ([(o, .inr (13, fs)), (p1, .inl (cP, 165440, .inr (.inl (fun j => lN (pn2_120 j))))), (l1, .inl (cL, 2068, .inl (fun j => nI (ln2_121 j)))), (b1, .inl (cB, 2068, .inl (fun j => nI (bn2_122 j))))]) := hD
                              have hK : va_K (dC, dI) vwCl [(cP, .long), (cL, .int), (cB, .boolean)] s := hK
                              obtain ⟨hb_123, hb_124, hb_125, rel_126⟩ := hw_119
                              obtain ⟨fr_127, on_128⟩ := rel_126
                              have on_129 := hG.fr fr_127 (by simp only [List.mem_cons, List.not_mem_nil, or_false]; omega)
                              have F_130 := hf8.tr (S := [2060, 2061, 2066]) fr_127 (fun j h => by simp at h ⊢; omega) (fun j h => by simp at h ⊢; omega)
                              refine lv_aload_n hx hb dX10_divisor_169 rfl (lv_at hl 0 rfl) ?_
                              refine va_get (D := (dC, dI)) (ci := 13) (v := .ref l1) (C := RX10) (T := TX10) (N := 29) hx hb hts bk1 hown hK hP 0 rfl rfl 2 (by decide) (hts (.fieldLink RX10 14 "GradientDeskModel" "length" "[I") (List.mem_of_getElem? (i := 12) rfl)) (fun _ h9 => h9) h2 dX10_divisor_170 ?_
                              refine lv_sipush (v := nI 2060) hx hb dX10_divisor_173 (by decide +kernel) ?_
                              refine va_iald hx hb hK hP 2 1 rfl rfl (vp_in_nI (show 2060 < 2068 by decide) (by decide)) dX10_divisor_176 ?_
                              refine lv_topi (fun x_131 e_132 => ?_)
                              rw [nI_clamp (show 2060 < 2 ^ 31 by decide)] at e_132
                              obtain ⟨n_133, e_134⟩ : ∃ z : Nat, z = ln2_121 2060 := ⟨_, rfl⟩
                              obtain rfl : x_131 = nI n_133 := by rw [e_134]; exact e_132
                              have b_135 : n_133 < 81 := by rw [e_134]; exact hb_124 _
                              have hle9 : n_133 = 0 ↔ g3 = 0 := by rw [e_134]; exact on_129.zero
                              refine lv_if_ne (tgt := 76) hx hb dX10_divisor_177 (by decide) (fun c_136 => ?_) (fun c_136 => ?_)
                              · have c_136 := mt (nI_eq (a := n_133) (b := 0) (by omega) (by decide)).mpr c_136
                                exact ih_57 g3 (h3x - g3) pn2_120 ln2_121 bn2_122 (by omega) hb_123 hb_124 hb_125 F_130 on_129 on_128 (by omega) hgp (k_pw3 hhp (Nat.sub_le _ _)) _ _ _ (hP.sub (ws' := [(o, .inr (13, fs)), (p1, .inl (cP, 165440, .inr (.inl (fun j => lN (pn2_120 j))))), (l1, .inl (cL, 2068, .inl (fun j => nI (ln2_121 j)))), (b1, .inl (cB, 2068, .inl (fun j => nI (bn2_122 j))))]) [0, 1, 2, 3] rfl) (hD.sub (ws' := [(o, .inr (13, fs)), (p1, .inl (cP, 165440, .inr (.inl (fun j => lN (pn2_120 j))))), (l1, .inl (cL, 2068, .inl (fun j => nI (ln2_121 j)))), (b1, .inl (cB, 2068, .inl (fun j => nI (bn2_122 j))))]) [0, 1, 2, 3] (by decide) rfl) (hK.sub (tys' := [(cP, .long), (cL, .int), (cB, .boolean)]) [0, 1, 2] rfl) hS (lv_sub (l' := [(0, .ref o), (3, .int (nI kk))]) hl [0, 1] rfl)
                              · have c_136 := (nI_eq (a := n_133) (b := 0) (by omega) (by decide)).mp c_136
                                exfalso; omega
                            · refine lv_if_le (tgt := 156) hx hb dX10_divisor_137 (by decide) (fun c_137 => ?_) (fun c_137 => absurd c_137 (by decide))
                              refine lv_aload_n hx hb dX10_divisor_156 rfl (lv_at hl 0 rfl) ?_
                              refine lv_sipush (v := nI 2061) hx hb dX10_divisor_157 (by decide +kernel) ?_
                              refine lv_sipush (v := nI 2061) hx hb dX10_divisor_160 (by decide +kernel) ?_
                              refine lv_sipush (v := nI 2060) hx hb dX10_divisor_163 (by decide +kernel) ?_
                              have hPc := hP.sub (ws' := [(o, .inr (13, fs)), (p1, .inl (cP, 165440, .inr (.inl (fun j => lN (pn8 j))))), (l1, .inl (cL, 2068, .inl (fun j => nI (ln8 j)))), (b1, .inl (cB, 2068, .inl (fun j => nI (bn8 j))))]) [0, 1, 2, 3] rfl
                              have hDc := hD.sub (ws' := [(o, .inr (13, fs)), (p1, .inl (cP, 165440, .inr (.inl (fun j => lN (pn8 j))))), (l1, .inl (cL, 2068, .inl (fun j => nI (ln8 j)))), (b1, .inl (cB, 2068, .inl (fun j => nI (bn8 j))))]) [0, 1, 2, 3] (by decide) rfl
                              have hKc := hK.sub (tys' := [(cP, .long), (cL, .int), (cB, .boolean)]) [0, 1, 2] rfl
                              have hFc := va_free (wc := [(o, .inr (13, fs)), (p1, .inl (cP, 165440, .inr (.inl (fun j => lN (pn8 j))))), (l1, .inl (cL, 2068, .inl (fun j => nI (ln8 j)))), (b1, .inl (cB, 2068, .inl (fun j => nI (bn8 j))))]) hD hS hA [0, 1, 2, 3] rfl
                              refine va_callv (va_runV (As := [.int (nI 2061), .int (nI 2061), .int (nI 2060)]) (rest := []) ⟨hx, hb, hml, hown, hts⟩ (c_X10_take l dC dI (va_A [(o, .inr (13, fs)), (p1, .inl (cP, 165440, .inr (.inl (fun j => lN (pn8 j))))), (l1, .inl (cL, 2068, .inl (fun j => nI (ln8 j)))), (b1, .inl (cB, 2068, .inl (fun j => nI (bn8 j))))] H.size) H.size (fun _ h => Or.inr h) o fs p1 l1 b1 cP cL cB pn8 ln8 bn8 2061 2061 2060 h3x g3 h1 h2 h3 hp8 hl8 hb8 (by decide) (by decide) (by decide) hH hG (by omega) (by omega)) (cwV 3 hts (goodIn_app (goodIn_r [Cond.methodLink RX10 104 yX10_takeSizes, Cond.instanceMethod yX10_takeSizes, Cond.selects RX10 yX10_takeSizes yX10_takeSizes, Cond.initialized RX10] [19, 20, 21, 4] rfl rfl) (goodIn_sub (fun w9 h9 => bk6 w9 h9) gw_X10_take)) rfl rfl rfl (by decide +kernel) ⟨Nat.le_of_ble_eq_true rfl, Nat.le_of_ble_eq_true rfl⟩) ⟨fun a U g mk q => by obtain ⟨q0, q1, qP, qK, qD⟩ := q; exact ⟨q0, q1, qP, va_K.moved (u := U) (U := U.calling g mk a) (Vm.Alike.refl U.vm) qK, qD⟩, va_recv hKc hPc (ci := 13) (q0 := 0) rfl rfl, fun U hU hW => ⟨rfl, by rw [hU], by rw [hU]; exact hPc, va_K.moved hW.alike hKc, hDc.self⟩⟩ rfl rfl hl.1 rfl (lv_room (Nat.le_of_ble_eq_true rfl)) dX10_divisor_166 ⟨(Nat.le_of_ble_eq_true rfl), (Nat.le_of_ble_eq_true rfl)⟩) hS (fun q _ h => hFc q h) hFc (fun u t H1 locs ht hvm hw_138 hB hz1 hk1 hS => ?_)
                              obtain ⟨pn2_139, ln2_140, bn2_141⟩ := u
                              obtain ⟨hP1, hK1, hD1⟩ := hB
                              rw [ht] at hP1
                              have hK1 := va_K.moved hvm.symm hK1
                              try dsimp only at hw_138
                              obtain ⟨hP, hD⟩ := va_join (wr := []) (w1 := [(o, .inr (13, fs)), (p1, .inl (cP, 165440, .inr (.inl (fun j => lN (pn2_139 j))))), (l1, .inl (cL, 2068, .inl (fun j => nI (ln2_140 j)))), (b1, .inl (cB, 2068, .inl (fun j => nI (bn2_141 j))))]) hP hD [0, 1, 2, 3] [] rfl rfl (by decide) (by decide) hk1 hFc hP1 hD1
                              have hK := (hK.sub (tys' := []) [] rfl).app hK1
                              generalize H1 = H at hP hS ⊢
                              have hP : va_P (dC, dI) vwCl ([(o, .inr (13, fs)), (p1, .inl (cP, 165440, .inr (.inl (fun j => lN (pn2_139 j))))), (l1, .inl (cL, 2068, .inl (fun j => nI (ln2_140 j)))), (b1, .inl (cB, 2068, .inl (fun j => nI (bn2_141 j))))]) H := hP
                              have hD : va_D A ([(o, .inr (13, fs)), (p1, .inl (cP, 165440, .inr (.inl (fun j => lN (pn2_139 j))))), (l1, .inl (cL, 2068, .inl (fun j => nI (ln2_140 j)))), (b1, .inl (cB, 2068, .inl (fun j => nI (bn2_141 j))))]) := hD
                              have hK : va_K (dC, dI) vwCl [(cP, .long), (cL, .int), (cB, .boolean)] s := hK
                              obtain ⟨hb_142, hb_143, hb_144, rel_145⟩ := hw_138
                              obtain ⟨fr_146, on_147⟩ := rel_145
                              have on_148 := hG.fr fr_146 (by simp only [List.mem_cons, List.not_mem_nil, or_false]; omega)
                              have F_149 := hf8.tr (S := [2060, 2061, 2066]) fr_146 (fun j h => by simp at h ⊢; omega) (fun j h => by simp at h ⊢; omega)
                              refine lv_aload_n hx hb dX10_divisor_169 rfl (lv_at hl 0 rfl) ?_
                              refine va_get (D := (dC, dI)) (ci := 13) (v := .ref l1) (C := RX10) (T := TX10) (N := 29) hx hb hts bk1 hown hK hP 0 rfl rfl 2 (by decide) (hts (.fieldLink RX10 14 "GradientDeskModel" "length" "[I") (List.mem_of_getElem? (i := 12) rfl)) (fun _ h9 => h9) h2 dX10_divisor_170 ?_
                              refine lv_sipush (v := nI 2060) hx hb dX10_divisor_173 (by decide +kernel) ?_
                              refine va_iald hx hb hK hP 2 1 rfl rfl (vp_in_nI (show 2060 < 2068 by decide) (by decide)) dX10_divisor_176 ?_
                              refine lv_topi (fun x_150 e_151 => ?_)
                              rw [nI_clamp (show 2060 < 2 ^ 31 by decide)] at e_151
                              obtain ⟨n_152, e_153⟩ : ∃ z : Nat, z = ln2_140 2060 := ⟨_, rfl⟩
                              obtain rfl : x_150 = nI n_152 := by rw [e_153]; exact e_151
                              have b_154 : n_152 < 81 := by rw [e_153]; exact hb_143 _
                              have hle9 : n_152 = 0 ↔ g3 = 0 := by rw [e_153]; exact on_148.zero
                              refine lv_if_ne (tgt := 76) hx hb dX10_divisor_177 (by decide) (fun c_155 => ?_) (fun c_155 => ?_)
                              · have c_155 := mt (nI_eq (a := n_152) (b := 0) (by omega) (by decide)).mpr c_155
                                exact ih_57 g3 (h3x - g3) pn2_139 ln2_140 bn2_141 (by omega) hb_142 hb_143 hb_144 F_149 on_148 on_147 (by omega) hgp (k_pw3 hhp (Nat.sub_le _ _)) _ _ _ (hP.sub (ws' := [(o, .inr (13, fs)), (p1, .inl (cP, 165440, .inr (.inl (fun j => lN (pn2_139 j))))), (l1, .inl (cL, 2068, .inl (fun j => nI (ln2_140 j)))), (b1, .inl (cB, 2068, .inl (fun j => nI (bn2_141 j))))]) [0, 1, 2, 3] rfl) (hD.sub (ws' := [(o, .inr (13, fs)), (p1, .inl (cP, 165440, .inr (.inl (fun j => lN (pn2_139 j))))), (l1, .inl (cL, 2068, .inl (fun j => nI (ln2_140 j)))), (b1, .inl (cB, 2068, .inl (fun j => nI (bn2_141 j))))]) [0, 1, 2, 3] (by decide) rfl) (hK.sub (tys' := [(cP, .long), (cL, .int), (cB, .boolean)]) [0, 1, 2] rfl) hS (lv_sub (l' := [(0, .ref o), (3, .int (nI kk))]) hl [0, 1] rfl)
                              · have c_155 := (nI_eq (a := n_152) (b := 0) (by omega) (by decide)).mp c_155
                                exfalso; omega
                            · refine lv_if_le (tgt := 156) hx hb dX10_divisor_137 (by decide) (fun c_156 => absurd c_156 (by decide)) (fun c_156 => ?_)
                              refine lv_aload_n hx hb dX10_divisor_140 rfl (lv_at hl 0 rfl) ?_
                              refine lv_sipush (v := nI 2060) hx hb dX10_divisor_141 (by decide +kernel) ?_
                              refine lv_sipush (v := nI 2060) hx hb dX10_divisor_144 (by decide +kernel) ?_
                              refine lv_sipush (v := nI 2061) hx hb dX10_divisor_147 (by decide +kernel) ?_
                              have hPc := hP.sub (ws' := [(o, .inr (13, fs)), (p1, .inl (cP, 165440, .inr (.inl (fun j => lN (pn8 j))))), (l1, .inl (cL, 2068, .inl (fun j => nI (ln8 j)))), (b1, .inl (cB, 2068, .inl (fun j => nI (bn8 j))))]) [0, 1, 2, 3] rfl
                              have hDc := hD.sub (ws' := [(o, .inr (13, fs)), (p1, .inl (cP, 165440, .inr (.inl (fun j => lN (pn8 j))))), (l1, .inl (cL, 2068, .inl (fun j => nI (ln8 j)))), (b1, .inl (cB, 2068, .inl (fun j => nI (bn8 j))))]) [0, 1, 2, 3] (by decide) rfl
                              have hKc := hK.sub (tys' := [(cP, .long), (cL, .int), (cB, .boolean)]) [0, 1, 2] rfl
                              have hFc := va_free (wc := [(o, .inr (13, fs)), (p1, .inl (cP, 165440, .inr (.inl (fun j => lN (pn8 j))))), (l1, .inl (cL, 2068, .inl (fun j => nI (ln8 j)))), (b1, .inl (cB, 2068, .inl (fun j => nI (bn8 j))))]) hD hS hA [0, 1, 2, 3] rfl
                              refine va_callv (va_runV (As := [.int (nI 2060), .int (nI 2060), .int (nI 2061)]) (rest := []) ⟨hx, hb, hml, hown, hts⟩ (c_X10_take l dC dI (va_A [(o, .inr (13, fs)), (p1, .inl (cP, 165440, .inr (.inl (fun j => lN (pn8 j))))), (l1, .inl (cL, 2068, .inl (fun j => nI (ln8 j)))), (b1, .inl (cB, 2068, .inl (fun j => nI (bn8 j))))] H.size) H.size (fun _ h => Or.inr h) o fs p1 l1 b1 cP cL cB pn8 ln8 bn8 2060 2060 2061 g3 h3x h1 h2 h3 hp8 hl8 hb8 (by decide) (by decide) (by decide) hG hH (by omega) (by omega)) (cwV 3 hts (goodIn_app (goodIn_r [Cond.methodLink RX10 104 yX10_takeSizes, Cond.instanceMethod yX10_takeSizes, Cond.selects RX10 yX10_takeSizes yX10_takeSizes, Cond.initialized RX10] [19, 20, 21, 4] rfl rfl) (goodIn_sub (fun w9 h9 => bk6 w9 h9) gw_X10_take)) rfl rfl rfl (by decide +kernel) ⟨Nat.le_of_ble_eq_true rfl, Nat.le_of_ble_eq_true rfl⟩) ⟨fun a U g mk q => by obtain ⟨q0, q1, qP, qK, qD⟩ := q; exact ⟨q0, q1, qP, va_K.moved (u := U) (U := U.calling g mk a) (Vm.Alike.refl U.vm) qK, qD⟩, va_recv hKc hPc (ci := 13) (q0 := 0) rfl rfl, fun U hU hW => ⟨rfl, by rw [hU], by rw [hU]; exact hPc, va_K.moved hW.alike hKc, hDc.self⟩⟩ rfl rfl hl.1 rfl (lv_room (Nat.le_of_ble_eq_true rfl)) dX10_divisor_150 ⟨(Nat.le_of_ble_eq_true rfl), (Nat.le_of_ble_eq_true rfl)⟩) hS (fun q _ h => hFc q h) hFc (fun u t H1 locs ht hvm hw_157 hB hz1 hk1 hS => ?_)
                              obtain ⟨pn2_158, ln2_159, bn2_160⟩ := u
                              obtain ⟨hP1, hK1, hD1⟩ := hB
                              rw [ht] at hP1
                              have hK1 := va_K.moved hvm.symm hK1
                              try dsimp only at hw_157
                              obtain ⟨hP, hD⟩ := va_join (wr := []) (w1 := [(o, .inr (13, fs)), (p1, .inl (cP, 165440, .inr (.inl (fun j => lN (pn2_158 j))))), (l1, .inl (cL, 2068, .inl (fun j => nI (ln2_159 j)))), (b1, .inl (cB, 2068, .inl (fun j => nI (bn2_160 j))))]) hP hD [0, 1, 2, 3] [] rfl rfl (by decide) (by decide) hk1 hFc hP1 hD1
                              have hK := (hK.sub (tys' := []) [] rfl).app hK1
                              generalize H1 = H at hP hS ⊢
                              have hP : va_P (dC, dI) vwCl ([(o, .inr (13, fs)), (p1, .inl (cP, 165440, .inr (.inl (fun j => lN (pn2_158 j))))), (l1, .inl (cL, 2068, .inl (fun j => nI (ln2_159 j)))), (b1, .inl (cB, 2068, .inl (fun j => nI (bn2_160 j))))]) H := hP
                              have hD : va_D A ([(o, .inr (13, fs)), (p1, .inl (cP, 165440, .inr (.inl (fun j => lN (pn2_158 j))))), (l1, .inl (cL, 2068, .inl (fun j => nI (ln2_159 j)))), (b1, .inl (cB, 2068, .inl (fun j => nI (bn2_160 j))))]) := hD
                              have hK : va_K (dC, dI) vwCl [(cP, .long), (cL, .int), (cB, .boolean)] s := hK
                              obtain ⟨hb_161, hb_162, hb_163, rel_164⟩ := hw_157
                              obtain ⟨fr_165, on_166⟩ := rel_164
                              have on_167 := hH.fr fr_165 (by simp only [List.mem_cons, List.not_mem_nil, or_false]; omega)
                              have F_168 := hf8.tr (S := [2060, 2061, 2066]) fr_165 (fun j h => by simp at h ⊢; omega) (fun j h => by simp at h ⊢; omega)
                              refine lv_goto (tgt := 169) hx hb dX10_divisor_153 (by decide) ?_
                              refine lv_aload_n hx hb dX10_divisor_169 rfl (lv_at hl 0 rfl) ?_
                              refine va_get (D := (dC, dI)) (ci := 13) (v := .ref l1) (C := RX10) (T := TX10) (N := 29) hx hb hts bk1 hown hK hP 0 rfl rfl 2 (by decide) (hts (.fieldLink RX10 14 "GradientDeskModel" "length" "[I") (List.mem_of_getElem? (i := 12) rfl)) (fun _ h9 => h9) h2 dX10_divisor_170 ?_
                              refine lv_sipush (v := nI 2060) hx hb dX10_divisor_173 (by decide +kernel) ?_
                              refine va_iald hx hb hK hP 2 1 rfl rfl (vp_in_nI (show 2060 < 2068 by decide) (by decide)) dX10_divisor_176 ?_
                              refine lv_topi (fun x_169 e_170 => ?_)
                              rw [nI_clamp (show 2060 < 2 ^ 31 by decide)] at e_170
                              obtain ⟨n_171, e_172⟩ : ∃ z : Nat, z = ln2_159 2060 := ⟨_, rfl⟩
                              obtain rfl : x_169 = nI n_171 := by rw [e_172]; exact e_170
                              have b_173 : n_171 < 81 := by rw [e_172]; exact hb_162 _
                              have hle9 : n_171 = 0 ↔ (g3 - h3x) = 0 := by rw [e_172]; exact on_166.zero
                              refine lv_if_ne (tgt := 76) hx hb dX10_divisor_177 (by decide) (fun c_174 => ?_) (fun c_174 => ?_)
                              · have c_174 := mt (nI_eq (a := n_171) (b := 0) (by omega) (by decide)).mpr c_174
                                exact ih_57 (g3 - h3x) h3x pn2_158 ln2_159 bn2_160 (by omega) hb_161 hb_162 hb_163 F_168 on_166 on_167 (by omega) (k_pw3 hgp (Nat.sub_le _ _)) hhp _ _ _ (hP.sub (ws' := [(o, .inr (13, fs)), (p1, .inl (cP, 165440, .inr (.inl (fun j => lN (pn2_158 j))))), (l1, .inl (cL, 2068, .inl (fun j => nI (ln2_159 j)))), (b1, .inl (cB, 2068, .inl (fun j => nI (bn2_160 j))))]) [0, 1, 2, 3] rfl) (hD.sub (ws' := [(o, .inr (13, fs)), (p1, .inl (cP, 165440, .inr (.inl (fun j => lN (pn2_158 j))))), (l1, .inl (cL, 2068, .inl (fun j => nI (ln2_159 j)))), (b1, .inl (cB, 2068, .inl (fun j => nI (bn2_160 j))))]) [0, 1, 2, 3] (by decide) rfl) (hK.sub (tys' := [(cP, .long), (cL, .int), (cB, .boolean)]) [0, 1, 2] rfl) hS (lv_sub (l' := [(0, .ref o), (3, .int (nI kk))]) hl [0, 1] rfl)
                              · have c_174 := (nI_eq (a := n_171) (b := 0) (by omega) (by decide)).mp c_174
                                exfalso; omega
                      exact loop_96 _ g2 h2x pn8 ln8 bn8 (Nat.lt_succ_self _) hp8 hl8 hb8 hf8 hG hH hg0 hgp hhp hm8 hh0 (by omega) _ _ _ (hP.sub (ws' := [(o, .inr (13, fs)), (p1, .inl (cP, 165440, .inr (.inl (fun j => lN (pn8 j))))), (l1, .inl (cL, 2068, .inl (fun j => nI (ln8 j)))), (b1, .inl (cB, 2068, .inl (fun j => nI (bn8 j))))]) [0, 1, 2, 3] rfl) (hD.sub (ws' := [(o, .inr (13, fs)), (p1, .inl (cP, 165440, .inr (.inl (fun j => lN (pn8 j))))), (l1, .inl (cL, 2068, .inl (fun j => nI (ln8 j)))), (b1, .inl (cB, 2068, .inl (fun j => nI (bn8 j))))]) [0, 1, 2, 3] (by decide) rfl) (hK.sub (tys' := [(cP, .long), (cL, .int), (cB, .boolean)]) [0, 1, 2] rfl) hS (lv_sub (l' := [(0, .ref o), (3, .int (nI kk))]) hl [0, 1] rfl)
                exact loop_77 _ g1 h1x pn8 ln8 bn8 (Nat.lt_succ_self _) hp8 hl8 hb8 hf8 hG hH hg0 hgp hhp (Nat.le_refl _) (by omega) _ _ _ (hP.sub (ws' := [(o, .inr (13, fs)), (p1, .inl (cP, 165440, .inr (.inl (fun j => lN (pn8 j))))), (l1, .inl (cL, 2068, .inl (fun j => nI (ln8 j)))), (b1, .inl (cB, 2068, .inl (fun j => nI (bn8 j))))]) [0, 1, 2, 3] rfl) (hD.sub (ws' := [(o, .inr (13, fs)), (p1, .inl (cP, 165440, .inr (.inl (fun j => lN (pn8 j))))), (l1, .inl (cL, 2068, .inl (fun j => nI (ln8 j)))), (b1, .inl (cB, 2068, .inl (fun j => nI (bn8 j))))]) [0, 1, 2, 3] (by decide) rfl) (hK.sub (tys' := [(cP, .long), (cL, .int), (cB, .boolean)]) [0, 1, 2] rfl) hS (lv_sub (l' := [(0, .ref o), (3, .int (nI kk))]) hl [0, 1] rfl)
          exact loop_56 _ g9 h9x pn8 ln8 bn8 (Nat.lt_succ_self _) hp8 hl8 hb8 hf8 hG hH hg0 hgp hhp _ _ _ (hP.sub (ws' := [(o, .inr (13, fs)), (p1, .inl (cP, 165440, .inr (.inl (fun j => lN (pn8 j))))), (l1, .inl (cL, 2068, .inl (fun j => nI (ln8 j)))), (b1, .inl (cB, 2068, .inl (fun j => nI (bn8 j))))]) [0, 1, 2, 3] rfl) (hD.sub (ws' := [(o, .inr (13, fs)), (p1, .inl (cP, 165440, .inr (.inl (fun j => lN (pn8 j))))), (l1, .inl (cL, 2068, .inl (fun j => nI (ln8 j)))), (b1, .inl (cB, 2068, .inl (fun j => nI (bn8 j))))]) [0, 1, 2, 3] (by decide) rfl) (hK.sub (tys' := [(cP, .long), (cL, .int), (cB, .boolean)]) [0, 1, 2] rfl) hS (lv_sub (l' := [(0, .ref o), (3, .int (nI kk))]) hl [0, 1] rfl)
      · refine lv_if_eq (tgt := 76) hx hb dX10_divisor_43 (by decide) (fun c_175 => ?_) (fun c_175 => absurd c_175 (by decide))
        have loop_176 : ∀ (k9 : Nat) (g1 : Nat) (h1x : Nat) (pn8 : Nat → Nat) (ln8 : Nat → Nat) (bn8 : Nat → Nat), g1 + h1x < k9 → (∀ j, pn8 j < 4294967296) → (∀ j, ln8 j < 81) → (∀ j, bn8 j < 2) → Fr9 [2060, 2061, 2066] pn ln pn8 ln8 → On1 pn8 ln8 2060 g1 → On1 pn8 ln8 2061 h1x → 0 < g1 → g1 * 2 ^ kk < 16384 → h1x * 2 ^ kk < 16384 → ∀ (H : Heap) (locs : List Loc) (ls : Array Slot), va_P (dC, dI) vwCl [(o, .inr (13, fs)), (p1, .inl (cP, 165440, .inr (.inl (fun j => lN (pn8 j))))), (l1, .inl (cL, 2068, .inl (fun j => nI (ln8 j)))), (b1, .inl (cB, 2068, .inl (fun j => nI (bn8 j))))] H → va_D A [(o, .inr (13, fs)), (p1, .inl (cP, 165440, .inr (.inl (fun j => lN (pn8 j))))), (l1, .inl (cL, 2068, .inl (fun j => nI (ln8 j)))), (b1, .inl (cB, 2068, .inl (fun j => nI (bn8 j))))] → va_K (dC, dI) vwCl [(cP, .long), (cL, .int), (cB, .boolean)] s → va_S A s.heap H locs → lv_has ls 5 [(0, .ref o), (3, .int (nI kk))] → W p l e (headSpec wd_X10_divisor ({ frames := 40, cells := 0, slots := 0, locals := 800 })).room s m ([.ref o, .int (nI s9), .int (nI t9)] : List Value).toArray below meth c H locs (0) (0) (MQ below (va_Qv (fun (u : (Nat → Nat) × (Nat → Nat) × (Nat → Nat) × Nat) => match u with | (pn2, ln2, bn2, gg) => (∀ j, pn2 j < 4294967296) ∧ (∀ j, ln2 j < 81) ∧ (∀ j, bn2 j < 2) ∧ (Fr9 [2060, 2061, 2066] pn ln pn2 ln2 ∧ On1 pn2 ln2 2060 gg ∧ 0 < gg ∧ gg < 16384)) (at_X10_divisor dC dI A o fs p1 l1 b1 cP cL cB pn ln bn s9 t9 v9 w9) A) ([.ref o, .int (nI s9), .int (nI t9)] : List Value).toArray s (0) (0) A) (F0 m 76 ls []) := by
          intro k9
          induction k9 with
          | zero => intro g1 h1x pn8 ln8 bn8 h9; exact absurd h9 (Nat.not_lt_zero _)
          | succ k9 ih_177 =>
            intro g1 h1x pn8 ln8 bn8 h9 hp8 hl8 hb8 hf8 hG hH hg0 hgp hhp H locs ls hP hD hK hS hl
            have hg4 := k_pw1 hgp
            have hh4 := k_pw1 hhp
            refine lv_aload_n hx hb dX10_divisor_76 rfl (lv_at hl 0 rfl) ?_
            refine va_get (D := (dC, dI)) (ci := 13) (v := .ref l1) (C := RX10) (T := TX10) (N := 29) hx hb hts bk1 hown hK hP 0 rfl rfl 2 (by decide) (hts (.fieldLink RX10 14 "GradientDeskModel" "length" "[I") (List.mem_of_getElem? (i := 12) rfl)) (fun _ h9 => h9) h2 dX10_divisor_77 ?_
            refine lv_sipush (v := nI 2061) hx hb dX10_divisor_80 (by decide +kernel) ?_
            refine va_iald hx hb hK hP 2 1 rfl rfl (vp_in_nI (show 2061 < 2068 by decide) (by decide)) dX10_divisor_83 ?_
            refine lv_topi (fun x_178 e_179 => ?_)
            rw [nI_clamp (show 2061 < 2 ^ 31 by decide)] at e_179
            obtain ⟨n_180, e_181⟩ : ∃ z : Nat, z = ln8 2061 := ⟨_, rfl⟩
            obtain rfl : x_178 = nI n_180 := by rw [e_181]; exact e_179
            have b_182 : n_180 < 81 := by rw [e_181]; exact hl8 _
            have hle9 : n_180 = 0 ↔ h1x = 0 := by rw [e_181]; exact hH.zero
            refine lv_if_le (tgt := 202) hx hb dX10_divisor_84 (by decide) (fun c_183 => ?_) (fun c_183 => ?_)
            · have c_183 := (nI_leI (a := n_180) (b := 0) (by omega) (by decide)).mp c_183
              refine lv_iconst (v := nI 0) hx hb dX10_divisor_202 (by decide +kernel) ?_
              refine lv_istore (lv' := [(4, .int (nI 0)), (0, .ref o), (3, .int (nI kk))]) hx hb dX10_divisor_203 hl (by decide) rfl (fun ls hl => ?_)
              have loop_184 : ∀ (k9 : Nat) (k5 : Nat) (g8 : Nat) (pn8 : Nat → Nat) (ln8 : Nat → Nat) (bn8 : Nat → Nat), 20000 - k5 < k9 → (∀ j, pn8 j < 4294967296) → (∀ j, ln8 j < 81) → (∀ j, bn8 j < 2) → Fr9 [2060, 2061, 2066] pn ln pn8 ln8 → On1 pn8 ln8 2060 g8 → 0 < g8 → g8 * 2 ^ (kk - k5) < 16384 → k5 ≤ kk → ∀ (H : Heap) (locs : List Loc) (ls : Array Slot), va_P (dC, dI) vwCl [(o, .inr (13, fs)), (p1, .inl (cP, 165440, .inr (.inl (fun j => lN (pn8 j))))), (l1, .inl (cL, 2068, .inl (fun j => nI (ln8 j)))), (b1, .inl (cB, 2068, .inl (fun j => nI (bn8 j))))] H → va_D A [(o, .inr (13, fs)), (p1, .inl (cP, 165440, .inr (.inl (fun j => lN (pn8 j))))), (l1, .inl (cL, 2068, .inl (fun j => nI (ln8 j)))), (b1, .inl (cB, 2068, .inl (fun j => nI (bn8 j))))] → va_K (dC, dI) vwCl [(cP, .long), (cL, .int), (cB, .boolean)] s → va_S A s.heap H locs → lv_has ls 5 [(0, .ref o), (3, .int (nI kk)), (4, .int (nI k5))] → W p l e (headSpec wd_X10_divisor ({ frames := 40, cells := 0, slots := 0, locals := 800 })).room s m ([.ref o, .int (nI s9), .int (nI t9)] : List Value).toArray below meth c H locs (0) (0) (MQ below (va_Qv (fun (u : (Nat → Nat) × (Nat → Nat) × (Nat → Nat) × Nat) => match u with | (pn2, ln2, bn2, gg) => (∀ j, pn2 j < 4294967296) ∧ (∀ j, ln2 j < 81) ∧ (∀ j, bn2 j < 2) ∧ (Fr9 [2060, 2061, 2066] pn ln pn2 ln2 ∧ On1 pn2 ln2 2060 gg ∧ 0 < gg ∧ gg < 16384)) (at_X10_divisor dC dI A o fs p1 l1 b1 cP cL cB pn ln bn s9 t9 v9 w9) A) ([.ref o, .int (nI s9), .int (nI t9)] : List Value).toArray s (0) (0) A) (F0 m 205 ls []) := by
                intro k9
                induction k9 with
                | zero => intro k5 g8 pn8 ln8 bn8 h9; exact absurd h9 (Nat.not_lt_zero _)
                | succ k9 ih_185 =>
                  intro k5 g8 pn8 ln8 bn8 h9 hp8 hl8 hb8 hf8 hG hg0 hgp hk5 H locs ls hP hD hK hS hl
                  have hg4 := k_pw1 hgp
                  refine lv_iload hx hb dX10_divisor_205 (lv_at hl 2 rfl) ?_
                  refine lv_iload_n hx hb dX10_divisor_207 rfl (lv_at hl 1 rfl) ?_
                  refine lv_icmp_ge (tgt := 225) hx hb dX10_divisor_208 (by decide) (fun c_186 => ?_) (fun c_186 => ?_)
                  · have c_186 := (nI_leI (a := kk) (b := k5) (by omega) (by omega)).mp c_186
                    have hP9 := hP.sub (ws' := [(o, .inr (13, fs)), (p1, .inl (cP, 165440, .inr (.inl (fun j => lN (pn8 j))))), (l1, .inl (cL, 2068, .inl (fun j => nI (ln8 j)))), (b1, .inl (cB, 2068, .inl (fun j => nI (bn8 j))))]) [0, 1, 2, 3] rfl
                    have hD9 := hD.sub (ws' := [(o, .inr (13, fs)), (p1, .inl (cP, 165440, .inr (.inl (fun j => lN (pn8 j))))), (l1, .inl (cL, 2068, .inl (fun j => nI (ln8 j)))), (b1, .inl (cB, 2068, .inl (fun j => nI (bn8 j))))]) [0, 1, 2, 3] (by decide) rfl
                    have hK9 := hK.sub (tys' := [(cP, .long), (cL, .int), (cB, .boolean)]) [0, 1, 2] rfl
                    refine W.widen (k := 0) (n := 0) (by omega) (by omega) ?_
                    exact W.vret hx hb hr (fun t ht hW => ⟨⟨(pn8, ln8, bn8, g8), rfl, ⟨hp8, hl8, hb8, hf8, hG, hg0, hg4⟩, by rw [ht]; exact hP9, va_K.moved hW.alike hK9, hD9⟩, hS.F ht⟩) hS.2.2 dX10_divisor_225
                  · have c_186 := mt (nI_leI (a := kk) (b := k5) (by omega) (by omega)).mpr c_186
                    refine lv_aload_n hx hb dX10_divisor_211 rfl (lv_at hl 0 rfl) ?_
                    refine lv_sipush (v := nI 2060) hx hb dX10_divisor_212 (by decide +kernel) ?_
                    refine lv_iconst (v := nI 0) hx hb dX10_divisor_215 (by decide +kernel) ?_
                    have hPc := hP.sub (ws' := [(o, .inr (13, fs)), (p1, .inl (cP, 165440, .inr (.inl (fun j => lN (pn8 j))))), (l1, .inl (cL, 2068, .inl (fun j => nI (ln8 j)))), (b1, .inl (cB, 2068, .inl (fun j => nI (bn8 j))))]) [0, 1, 2, 3] rfl
                    have hDc := hD.sub (ws' := [(o, .inr (13, fs)), (p1, .inl (cP, 165440, .inr (.inl (fun j => lN (pn8 j))))), (l1, .inl (cL, 2068, .inl (fun j => nI (ln8 j)))), (b1, .inl (cB, 2068, .inl (fun j => nI (bn8 j))))]) [0, 1, 2, 3] (by decide) rfl
                    have hKc := hK.sub (tys' := [(cP, .long), (cL, .int), (cB, .boolean)]) [0, 1, 2] rfl
                    have hFc := va_free (wc := [(o, .inr (13, fs)), (p1, .inl (cP, 165440, .inr (.inl (fun j => lN (pn8 j))))), (l1, .inl (cL, 2068, .inl (fun j => nI (ln8 j)))), (b1, .inl (cB, 2068, .inl (fun j => nI (bn8 j))))]) hD hS hA [0, 1, 2, 3] rfl
                    refine va_callv (va_runV (As := [.int (nI 2060), .int (nI 0)]) (rest := []) ⟨hx, hb, hml, hown, hts⟩ (c_X10_twice l dC dI (va_A [(o, .inr (13, fs)), (p1, .inl (cP, 165440, .inr (.inl (fun j => lN (pn8 j))))), (l1, .inl (cL, 2068, .inl (fun j => nI (ln8 j)))), (b1, .inl (cB, 2068, .inl (fun j => nI (bn8 j))))] H.size) H.size (fun _ h => Or.inr h) o fs p1 l1 b1 cP cL cB pn8 ln8 bn8 2060 0 g8 h1 h2 h3 hp8 hl8 hb8 (by decide) hG (by omega) (by decide)) (cwV 2 hts (goodIn_app (goodIn_r [Cond.methodLink RX10 114 yX10_twice, Cond.instanceMethod yX10_twice, Cond.selects RX10 yX10_twice yX10_twice, Cond.initialized RX10] [13, 14, 15, 4] rfl rfl) (goodIn_sub (fun w9 h9 => bk4 w9 h9) gw_X10_twice)) rfl rfl rfl (by decide +kernel) ⟨Nat.le_of_ble_eq_true rfl, Nat.le_of_ble_eq_true rfl⟩) ⟨fun a U g mk q => by obtain ⟨q0, q1, qP, qK, qD⟩ := q; exact ⟨q0, q1, qP, va_K.moved (u := U) (U := U.calling g mk a) (Vm.Alike.refl U.vm) qK, qD⟩, va_recv hKc hPc (ci := 13) (q0 := 0) rfl rfl, fun U hU hW => ⟨rfl, by rw [hU], by rw [hU]; exact hPc, va_K.moved hW.alike hKc, hDc.self⟩⟩ rfl rfl hl.1 rfl (lv_room (Nat.le_of_ble_eq_true rfl)) dX10_divisor_216 ⟨(Nat.le_of_ble_eq_true rfl), (Nat.le_of_ble_eq_true rfl)⟩) hS (fun q _ h => hFc q h) hFc (fun u t H1 locs ht hvm hw_187 hB hz1 hk1 hS => ?_)
                    obtain ⟨pn2_188, ln2_189, bn2_190⟩ := u
                    obtain ⟨hP1, hK1, hD1⟩ := hB
                    rw [ht] at hP1
                    have hK1 := va_K.moved hvm.symm hK1
                    try dsimp only at hw_187
                    obtain ⟨hP, hD⟩ := va_join (wr := []) (w1 := [(o, .inr (13, fs)), (p1, .inl (cP, 165440, .inr (.inl (fun j => lN (pn2_188 j))))), (l1, .inl (cL, 2068, .inl (fun j => nI (ln2_189 j)))), (b1, .inl (cB, 2068, .inl (fun j => nI (bn2_190 j))))]) hP hD [0, 1, 2, 3] [] rfl rfl (by decide) (by decide) hk1 hFc hP1 hD1
                    have hK := (hK.sub (tys' := []) [] rfl).app hK1
                    generalize H1 = H at hP hS ⊢
                    have hP : va_P (dC, dI) vwCl ([(o, .inr (13, fs)), (p1, .inl (cP, 165440, .inr (.inl (fun j => lN (pn2_188 j))))), (l1, .inl (cL, 2068, .inl (fun j => nI (ln2_189 j)))), (b1, .inl (cB, 2068, .inl (fun j => nI (bn2_190 j))))]) H := hP
                    have hD : va_D A ([(o, .inr (13, fs)), (p1, .inl (cP, 165440, .inr (.inl (fun j => lN (pn2_188 j))))), (l1, .inl (cL, 2068, .inl (fun j => nI (ln2_189 j)))), (b1, .inl (cB, 2068, .inl (fun j => nI (bn2_190 j))))]) := hD
                    have hK : va_K (dC, dI) vwCl [(cP, .long), (cL, .int), (cB, .boolean)] s := hK
                    obtain ⟨hb_191, hb_192, hb_193, rel_194⟩ := hw_187
                    obtain ⟨f5, o5⟩ := rel_194
                    have f6 := hf8.tr (S := [2060, 2061, 2066]) f5 (fun j h => by simp at h ⊢; omega) (fun j h => by simp at h ⊢; omega)
                    refine lv_iinc (v := nI (k5 + 1)) (lv' := [(4, .int (nI (k5 + 1))), (0, .ref o), (3, .int (nI kk))]) hx hb dX10_divisor_219 hl (k := 2) rfl (nI_add k5 1) (by decide) rfl (fun ls hl => ?_)
                    refine lv_goto (tgt := 205) hx hb dX10_divisor_222 (by decide) ?_
                    exact ih_185 (k5 + 1) (2 * g8) pn2_188 ln2_189 bn2_190 (by omega) hb_191 hb_192 hb_193 f6 o5 (by omega) (k_pw4 hgp (by omega)) (by omega) _ _ _ (hP.sub (ws' := [(o, .inr (13, fs)), (p1, .inl (cP, 165440, .inr (.inl (fun j => lN (pn2_188 j))))), (l1, .inl (cL, 2068, .inl (fun j => nI (ln2_189 j)))), (b1, .inl (cB, 2068, .inl (fun j => nI (bn2_190 j))))]) [0, 1, 2, 3] rfl) (hD.sub (ws' := [(o, .inr (13, fs)), (p1, .inl (cP, 165440, .inr (.inl (fun j => lN (pn2_188 j))))), (l1, .inl (cL, 2068, .inl (fun j => nI (ln2_189 j)))), (b1, .inl (cB, 2068, .inl (fun j => nI (bn2_190 j))))]) [0, 1, 2, 3] (by decide) rfl) (hK.sub (tys' := [(cP, .long), (cL, .int), (cB, .boolean)]) [0, 1, 2] rfl) hS (lv_sub (l' := [(0, .ref o), (3, .int (nI kk)), (4, .int (nI (k5 + 1)))]) hl [1, 2, 0] rfl)
              exact loop_184 _ 0 g1 pn8 ln8 bn8 (Nat.lt_succ_self _) hp8 hl8 hb8 hf8 hG hg0 hgp (Nat.zero_le _) _ _ _ (hP.sub (ws' := [(o, .inr (13, fs)), (p1, .inl (cP, 165440, .inr (.inl (fun j => lN (pn8 j))))), (l1, .inl (cL, 2068, .inl (fun j => nI (ln8 j)))), (b1, .inl (cB, 2068, .inl (fun j => nI (bn8 j))))]) [0, 1, 2, 3] rfl) (hD.sub (ws' := [(o, .inr (13, fs)), (p1, .inl (cP, 165440, .inr (.inl (fun j => lN (pn8 j))))), (l1, .inl (cL, 2068, .inl (fun j => nI (ln8 j)))), (b1, .inl (cB, 2068, .inl (fun j => nI (bn8 j))))]) [0, 1, 2, 3] (by decide) rfl) (hK.sub (tys' := [(cP, .long), (cL, .int), (cB, .boolean)]) [0, 1, 2] rfl) hS (lv_sub (l' := [(0, .ref o), (3, .int (nI kk)), (4, .int (nI 0))]) hl [1, 2, 0] rfl)
            · have c_183 := mt (nI_leI (a := n_180) (b := 0) (by omega) (by decide)).mpr c_183
              have loop_197 : ∀ (k9 : Nat) (g2 : Nat) (h2x : Nat) (pn8 : Nat → Nat) (ln8 : Nat → Nat) (bn8 : Nat → Nat), g2 < k9 → (∀ j, pn8 j < 4294967296) → (∀ j, ln8 j < 81) → (∀ j, bn8 j < 2) → Fr9 [2060, 2061, 2066] pn ln pn8 ln8 → On1 pn8 ln8 2060 g2 → On1 pn8 ln8 2061 h2x → 0 < g2 → g2 * 2 ^ kk < 16384 → h2x * 2 ^ kk < 16384 → g2 + h2x ≤ g1 + h1x → 0 < h2x → ∀ (H : Heap) (locs : List Loc) (ls : Array Slot), va_P (dC, dI) vwCl [(o, .inr (13, fs)), (p1, .inl (cP, 165440, .inr (.inl (fun j => lN (pn8 j))))), (l1, .inl (cL, 2068, .inl (fun j => nI (ln8 j)))), (b1, .inl (cB, 2068, .inl (fun j => nI (bn8 j))))] H → va_D A [(o, .inr (13, fs)), (p1, .inl (cP, 165440, .inr (.inl (fun j => lN (pn8 j))))), (l1, .inl (cL, 2068, .inl (fun j => nI (ln8 j)))), (b1, .inl (cB, 2068, .inl (fun j => nI (bn8 j))))] → va_K (dC, dI) vwCl [(cP, .long), (cL, .int), (cB, .boolean)] s → va_S A s.heap H locs → lv_has ls 5 [(0, .ref o), (3, .int (nI kk))] → W p l e (headSpec wd_X10_divisor ({ frames := 40, cells := 0, slots := 0, locals := 800 })).room s m ([.ref o, .int (nI s9), .int (nI t9)] : List Value).toArray below meth c H locs (0) (0) (MQ below (va_Qv (fun (u : (Nat → Nat) × (Nat → Nat) × (Nat → Nat) × Nat) => match u with | (pn2, ln2, bn2, gg) => (∀ j, pn2 j < 4294967296) ∧ (∀ j, ln2 j < 81) ∧ (∀ j, bn2 j < 2) ∧ (Fr9 [2060, 2061, 2066] pn ln pn2 ln2 ∧ On1 pn2 ln2 2060 gg ∧ 0 < gg ∧ gg < 16384)) (at_X10_divisor dC dI A o fs p1 l1 b1 cP cL cB pn ln bn s9 t9 v9 w9) A) ([.ref o, .int (nI s9), .int (nI t9)] : List Value).toArray s (0) (0) A) (F0 m 87 ls []) := by
                intro k9
                induction k9 with
                | zero => intro g2 h2x pn8 ln8 bn8 h9; exact absurd h9 (Nat.not_lt_zero _)
                | succ k9 ih_198 =>
                  intro g2 h2x pn8 ln8 bn8 h9 hp8 hl8 hb8 hf8 hG hH hg0 hgp hhp hm8 hh0 H locs ls hP hD hK hS hl
                  have hg4 := k_pw1 hgp
                  have hh4 := k_pw1 hhp
                  refine lv_aload_n hx hb dX10_divisor_87 rfl (lv_at hl 0 rfl) ?_
                  refine lv_sipush (v := nI 2060) hx hb dX10_divisor_88 (by decide +kernel) ?_
                  have hPc := hP.sub (ws' := [(o, .inr (13, fs)), (p1, .inl (cP, 165440, .inr (.inl (fun j => lN (pn8 j))))), (l1, .inl (cL, 2068, .inl (fun j => nI (ln8 j)))), (b1, .inl (cB, 2068, .inl (fun j => nI (bn8 j))))]) [0, 1, 2, 3] rfl
                  have hDc := hD.sub (ws' := [(o, .inr (13, fs)), (p1, .inl (cP, 165440, .inr (.inl (fun j => lN (pn8 j))))), (l1, .inl (cL, 2068, .inl (fun j => nI (ln8 j)))), (b1, .inl (cB, 2068, .inl (fun j => nI (bn8 j))))]) [0, 1, 2, 3] (by decide) rfl
                  have hKc := hK.sub (tys' := [(cP, .long), (cL, .int), (cB, .boolean)]) [0, 1, 2] rfl
                  have hFc := va_free (wc := [(o, .inr (13, fs)), (p1, .inl (cP, 165440, .inr (.inl (fun j => lN (pn8 j))))), (l1, .inl (cL, 2068, .inl (fun j => nI (ln8 j)))), (b1, .inl (cB, 2068, .inl (fun j => nI (bn8 j))))]) hD hS hA [0, 1, 2, 3] rfl
                  refine va_calli (va_runV (As := [.int (nI 2060)]) (rest := []) ⟨hx, hb, hml, hown, hts⟩ (c_X10_isEven l dC dI (va_A [(o, .inr (13, fs)), (p1, .inl (cP, 165440, .inr (.inl (fun j => lN (pn8 j))))), (l1, .inl (cL, 2068, .inl (fun j => nI (ln8 j)))), (b1, .inl (cB, 2068, .inl (fun j => nI (bn8 j))))] H.size) H.size (fun _ h => Or.inr h) o fs p1 l1 b1 cP cL cB pn8 ln8 bn8 2060 g2 h1 h2 h3 hp8 hl8 hb8 (by decide) hG (by omega)) (cwV 1 hts (goodIn_app (goodIn_r [Cond.methodLink RX10 107 yX10_isEven, Cond.instanceMethod yX10_isEven, Cond.selects RX10 yX10_isEven yX10_isEven, Cond.initialized RX10] [6, 7, 8, 4] rfl rfl) (goodIn_sub (fun w9 h9 => bk2 w9 h9) gw_X10_isEven)) rfl rfl rfl (by decide +kernel) ⟨Nat.le_of_ble_eq_true rfl, Nat.le_of_ble_eq_true rfl⟩) ⟨fun a U g mk q => by obtain ⟨q0, q1, qP, qK, qD⟩ := q; exact ⟨q0, q1, qP, va_K.moved (u := U) (U := U.calling g mk a) (Vm.Alike.refl U.vm) qK, qD⟩, va_recv hKc hPc (ci := 13) (q0 := 0) rfl rfl, fun U hU hW => ⟨rfl, by rw [hU], by rw [hU]; exact hPc, va_K.moved hW.alike hKc, hDc.self⟩⟩ rfl rfl hl.1 rfl (lv_room (Nat.le_of_ble_eq_true rfl)) dX10_divisor_91 ⟨(Nat.le_of_ble_eq_true rfl), (Nat.le_of_ble_eq_true rfl)⟩) hS (fun q _ h => hFc q h) hFc (fun r_199 u t H1 locs ht hvm hw_200 hB hz1 hk1 hS => ?_)
                  obtain ⟨⟩ := u
                  obtain ⟨hP1, hK1, hD1⟩ := hB
                  rw [ht] at hP1
                  have hK1 := va_K.moved hvm.symm hK1
                  try dsimp only at hw_200
                  obtain ⟨hP, hD⟩ := va_join (wr := []) (w1 := [(o, .inr (13, fs)), (p1, .inl (cP, 165440, .inr (.inl (fun j => lN (pn8 j))))), (l1, .inl (cL, 2068, .inl (fun j => nI (ln8 j)))), (b1, .inl (cB, 2068, .inl (fun j => nI (bn8 j))))]) hP hD [0, 1, 2, 3] [] rfl rfl (by decide) (by decide) hk1 hFc hP1 hD1
                  have hK := (hK.sub (tys' := []) [] rfl).app hK1
                  generalize H1 = H at hP hS ⊢
                  have hP : va_P (dC, dI) vwCl ([(o, .inr (13, fs)), (p1, .inl (cP, 165440, .inr (.inl (fun j => lN (pn8 j))))), (l1, .inl (cL, 2068, .inl (fun j => nI (ln8 j)))), (b1, .inl (cB, 2068, .inl (fun j => nI (bn8 j))))]) H := hP
                  have hD : va_D A ([(o, .inr (13, fs)), (p1, .inl (cP, 165440, .inr (.inl (fun j => lN (pn8 j))))), (l1, .inl (cL, 2068, .inl (fun j => nI (ln8 j)))), (b1, .inl (cB, 2068, .inl (fun j => nI (bn8 j))))]) := hD
                  have hK : va_K (dC, dI) vwCl [(cP, .long), (cL, .int), (cB, .boolean)] s := hK
                  rcases hw_200 with ⟨rfl, z_201⟩ | ⟨rfl, z_201⟩
                  · refine lv_if_eq (tgt := 107) hx hb dX10_divisor_94 (by decide) (fun c_202 => absurd c_202 (by decide)) (fun c_202 => ?_)
                    refine lv_aload_n hx hb dX10_divisor_97 rfl (lv_at hl 0 rfl) ?_
                    refine lv_sipush (v := nI 2060) hx hb dX10_divisor_98 (by decide +kernel) ?_
                    have hPc := hP.sub (ws' := [(o, .inr (13, fs)), (p1, .inl (cP, 165440, .inr (.inl (fun j => lN (pn8 j))))), (l1, .inl (cL, 2068, .inl (fun j => nI (ln8 j)))), (b1, .inl (cB, 2068, .inl (fun j => nI (bn8 j))))]) [0, 1, 2, 3] rfl
                    have hDc := hD.sub (ws' := [(o, .inr (13, fs)), (p1, .inl (cP, 165440, .inr (.inl (fun j => lN (pn8 j))))), (l1, .inl (cL, 2068, .inl (fun j => nI (ln8 j)))), (b1, .inl (cB, 2068, .inl (fun j => nI (bn8 j))))]) [0, 1, 2, 3] (by decide) rfl
                    have hKc := hK.sub (tys' := [(cP, .long), (cL, .int), (cB, .boolean)]) [0, 1, 2] rfl
                    have hFc := va_free (wc := [(o, .inr (13, fs)), (p1, .inl (cP, 165440, .inr (.inl (fun j => lN (pn8 j))))), (l1, .inl (cL, 2068, .inl (fun j => nI (ln8 j)))), (b1, .inl (cB, 2068, .inl (fun j => nI (bn8 j))))]) hD hS hA [0, 1, 2, 3] rfl
                    refine va_callv (va_runV (As := [.int (nI 2060)]) (rest := []) ⟨hx, hb, hml, hown, hts⟩ (c_X10_halve l dC dI (va_A [(o, .inr (13, fs)), (p1, .inl (cP, 165440, .inr (.inl (fun j => lN (pn8 j))))), (l1, .inl (cL, 2068, .inl (fun j => nI (ln8 j)))), (b1, .inl (cB, 2068, .inl (fun j => nI (bn8 j))))] H.size) H.size (fun _ h => Or.inr h) o fs p1 l1 b1 cP cL cB pn8 ln8 bn8 2060 g2 h1 h2 h3 hp8 hl8 hb8 (by decide) hG (by omega)) (cwV 1 hts (goodIn_app (goodIn_r [Cond.methodLink RX10 111 yX10_halve, Cond.instanceMethod yX10_halve, Cond.selects RX10 yX10_halve yX10_halve, Cond.initialized RX10] [9, 10, 11, 4] rfl rfl) (goodIn_sub (fun w9 h9 => bk3 w9 h9) gw_X10_halve)) rfl rfl rfl (by decide +kernel) ⟨Nat.le_of_ble_eq_true rfl, Nat.le_of_ble_eq_true rfl⟩) ⟨fun a U g mk q => by obtain ⟨q0, q1, qP, qK, qD⟩ := q; exact ⟨q0, q1, qP, va_K.moved (u := U) (U := U.calling g mk a) (Vm.Alike.refl U.vm) qK, qD⟩, va_recv hKc hPc (ci := 13) (q0 := 0) rfl rfl, fun U hU hW => ⟨rfl, by rw [hU], by rw [hU]; exact hPc, va_K.moved hW.alike hKc, hDc.self⟩⟩ rfl rfl hl.1 rfl (lv_room (Nat.le_of_ble_eq_true rfl)) dX10_divisor_101 ⟨(Nat.le_of_ble_eq_true rfl), (Nat.le_of_ble_eq_true rfl)⟩) hS (fun q _ h => hFc q h) hFc (fun u t H1 locs ht hvm hw_203 hB hz1 hk1 hS => ?_)
                    obtain ⟨pn2_204, ln2_205, bn2_206⟩ := u
                    obtain ⟨hP1, hK1, hD1⟩ := hB
                    rw [ht] at hP1
                    have hK1 := va_K.moved hvm.symm hK1
                    try dsimp only at hw_203
                    obtain ⟨hP, hD⟩ := va_join (wr := []) (w1 := [(o, .inr (13, fs)), (p1, .inl (cP, 165440, .inr (.inl (fun j => lN (pn2_204 j))))), (l1, .inl (cL, 2068, .inl (fun j => nI (ln2_205 j)))), (b1, .inl (cB, 2068, .inl (fun j => nI (bn2_206 j))))]) hP hD [0, 1, 2, 3] [] rfl rfl (by decide) (by decide) hk1 hFc hP1 hD1
                    have hK := (hK.sub (tys' := []) [] rfl).app hK1
                    generalize H1 = H at hP hS ⊢
                    have hP : va_P (dC, dI) vwCl ([(o, .inr (13, fs)), (p1, .inl (cP, 165440, .inr (.inl (fun j => lN (pn2_204 j))))), (l1, .inl (cL, 2068, .inl (fun j => nI (ln2_205 j)))), (b1, .inl (cB, 2068, .inl (fun j => nI (bn2_206 j))))]) H := hP
                    have hD : va_D A ([(o, .inr (13, fs)), (p1, .inl (cP, 165440, .inr (.inl (fun j => lN (pn2_204 j))))), (l1, .inl (cL, 2068, .inl (fun j => nI (ln2_205 j)))), (b1, .inl (cB, 2068, .inl (fun j => nI (bn2_206 j))))]) := hD
                    have hK : va_K (dC, dI) vwCl [(cP, .long), (cL, .int), (cB, .boolean)] s := hK
                    obtain ⟨hb_207, hb_208, hb_209, rel_210⟩ := hw_203
                    obtain ⟨fr_211, on_212⟩ := rel_210
                    have on_213 := hH.fr fr_211 (by simp only [List.mem_cons, List.not_mem_nil, or_false]; omega)
                    have F_214 := hf8.tr (S := [2060, 2061, 2066]) fr_211 (fun j h => by simp at h ⊢; omega) (fun j h => by simp at h ⊢; omega)
                    refine lv_goto (tgt := 87) hx hb dX10_divisor_104 (by decide) ?_
                    exact ih_198 (g2 / 2) h2x pn2_204 ln2_205 bn2_206 (by omega) hb_207 hb_208 hb_209 F_214 on_212 on_213 (by omega) (k_pw3 hgp (Nat.div_le_self _ _)) hhp (by omega) (by omega) _ _ _ (hP.sub (ws' := [(o, .inr (13, fs)), (p1, .inl (cP, 165440, .inr (.inl (fun j => lN (pn2_204 j))))), (l1, .inl (cL, 2068, .inl (fun j => nI (ln2_205 j)))), (b1, .inl (cB, 2068, .inl (fun j => nI (bn2_206 j))))]) [0, 1, 2, 3] rfl) (hD.sub (ws' := [(o, .inr (13, fs)), (p1, .inl (cP, 165440, .inr (.inl (fun j => lN (pn2_204 j))))), (l1, .inl (cL, 2068, .inl (fun j => nI (ln2_205 j)))), (b1, .inl (cB, 2068, .inl (fun j => nI (bn2_206 j))))]) [0, 1, 2, 3] (by decide) rfl) (hK.sub (tys' := [(cP, .long), (cL, .int), (cB, .boolean)]) [0, 1, 2] rfl) hS (lv_sub (l' := [(0, .ref o), (3, .int (nI kk))]) hl [0, 1] rfl)
                  · refine lv_if_eq (tgt := 107) hx hb dX10_divisor_94 (by decide) (fun c_215 => ?_) (fun c_215 => absurd c_215 (by decide))
                    have loop_216 : ∀ (k9 : Nat) (g3 : Nat) (h3x : Nat) (pn8 : Nat → Nat) (ln8 : Nat → Nat) (bn8 : Nat → Nat), h3x < k9 → (∀ j, pn8 j < 4294967296) → (∀ j, ln8 j < 81) → (∀ j, bn8 j < 2) → Fr9 [2060, 2061, 2066] pn ln pn8 ln8 → On1 pn8 ln8 2060 g3 → On1 pn8 ln8 2061 h3x → 0 < g3 → g3 * 2 ^ kk < 16384 → h3x * 2 ^ kk < 16384 → g3 + h3x ≤ g1 + h1x → 0 < h3x → g3 % 2 = 1 → ∀ (H : Heap) (locs : List Loc) (ls : Array Slot), va_P (dC, dI) vwCl [(o, .inr (13, fs)), (p1, .inl (cP, 165440, .inr (.inl (fun j => lN (pn8 j))))), (l1, .inl (cL, 2068, .inl (fun j => nI (ln8 j)))), (b1, .inl (cB, 2068, .inl (fun j => nI (bn8 j))))] H → va_D A [(o, .inr (13, fs)), (p1, .inl (cP, 165440, .inr (.inl (fun j => lN (pn8 j))))), (l1, .inl (cL, 2068, .inl (fun j => nI (ln8 j)))), (b1, .inl (cB, 2068, .inl (fun j => nI (bn8 j))))] → va_K (dC, dI) vwCl [(cP, .long), (cL, .int), (cB, .boolean)] s → va_S A s.heap H locs → lv_has ls 5 [(0, .ref o), (3, .int (nI kk))] → W p l e (headSpec wd_X10_divisor ({ frames := 40, cells := 0, slots := 0, locals := 800 })).room s m ([.ref o, .int (nI s9), .int (nI t9)] : List Value).toArray below meth c H locs (0) (0) (MQ below (va_Qv (fun (u : (Nat → Nat) × (Nat → Nat) × (Nat → Nat) × Nat) => match u with | (pn2, ln2, bn2, gg) => (∀ j, pn2 j < 4294967296) ∧ (∀ j, ln2 j < 81) ∧ (∀ j, bn2 j < 2) ∧ (Fr9 [2060, 2061, 2066] pn ln pn2 ln2 ∧ On1 pn2 ln2 2060 gg ∧ 0 < gg ∧ gg < 16384)) (at_X10_divisor dC dI A o fs p1 l1 b1 cP cL cB pn ln bn s9 t9 v9 w9) A) ([.ref o, .int (nI s9), .int (nI t9)] : List Value).toArray s (0) (0) A) (F0 m 107 ls []) := by
                      intro k9
                      induction k9 with
                      | zero => intro g3 h3x pn8 ln8 bn8 h9; exact absurd h9 (Nat.not_lt_zero _)
                      | succ k9 ih_217 =>
                        intro g3 h3x pn8 ln8 bn8 h9 hp8 hl8 hb8 hf8 hG hH hg0 hgp hhp hm8 hh0 ho2 H locs ls hP hD hK hS hl
                        have hg4 := k_pw1 hgp
                        have hh4 := k_pw1 hhp
                        refine lv_aload_n hx hb dX10_divisor_107 rfl (lv_at hl 0 rfl) ?_
                        refine lv_sipush (v := nI 2061) hx hb dX10_divisor_108 (by decide +kernel) ?_
                        have hPc := hP.sub (ws' := [(o, .inr (13, fs)), (p1, .inl (cP, 165440, .inr (.inl (fun j => lN (pn8 j))))), (l1, .inl (cL, 2068, .inl (fun j => nI (ln8 j)))), (b1, .inl (cB, 2068, .inl (fun j => nI (bn8 j))))]) [0, 1, 2, 3] rfl
                        have hDc := hD.sub (ws' := [(o, .inr (13, fs)), (p1, .inl (cP, 165440, .inr (.inl (fun j => lN (pn8 j))))), (l1, .inl (cL, 2068, .inl (fun j => nI (ln8 j)))), (b1, .inl (cB, 2068, .inl (fun j => nI (bn8 j))))]) [0, 1, 2, 3] (by decide) rfl
                        have hKc := hK.sub (tys' := [(cP, .long), (cL, .int), (cB, .boolean)]) [0, 1, 2] rfl
                        have hFc := va_free (wc := [(o, .inr (13, fs)), (p1, .inl (cP, 165440, .inr (.inl (fun j => lN (pn8 j))))), (l1, .inl (cL, 2068, .inl (fun j => nI (ln8 j)))), (b1, .inl (cB, 2068, .inl (fun j => nI (bn8 j))))]) hD hS hA [0, 1, 2, 3] rfl
                        refine va_calli (va_runV (As := [.int (nI 2061)]) (rest := []) ⟨hx, hb, hml, hown, hts⟩ (c_X10_isEven l dC dI (va_A [(o, .inr (13, fs)), (p1, .inl (cP, 165440, .inr (.inl (fun j => lN (pn8 j))))), (l1, .inl (cL, 2068, .inl (fun j => nI (ln8 j)))), (b1, .inl (cB, 2068, .inl (fun j => nI (bn8 j))))] H.size) H.size (fun _ h => Or.inr h) o fs p1 l1 b1 cP cL cB pn8 ln8 bn8 2061 h3x h1 h2 h3 hp8 hl8 hb8 (by decide) hH (by omega)) (cwV 1 hts (goodIn_app (goodIn_r [Cond.methodLink RX10 107 yX10_isEven, Cond.instanceMethod yX10_isEven, Cond.selects RX10 yX10_isEven yX10_isEven, Cond.initialized RX10] [6, 7, 8, 4] rfl rfl) (goodIn_sub (fun w9 h9 => bk2 w9 h9) gw_X10_isEven)) rfl rfl rfl (by decide +kernel) ⟨Nat.le_of_ble_eq_true rfl, Nat.le_of_ble_eq_true rfl⟩) ⟨fun a U g mk q => by obtain ⟨q0, q1, qP, qK, qD⟩ := q; exact ⟨q0, q1, qP, va_K.moved (u := U) (U := U.calling g mk a) (Vm.Alike.refl U.vm) qK, qD⟩, va_recv hKc hPc (ci := 13) (q0 := 0) rfl rfl, fun U hU hW => ⟨rfl, by rw [hU], by rw [hU]; exact hPc, va_K.moved hW.alike hKc, hDc.self⟩⟩ rfl rfl hl.1 rfl (lv_room (Nat.le_of_ble_eq_true rfl)) dX10_divisor_111 ⟨(Nat.le_of_ble_eq_true rfl), (Nat.le_of_ble_eq_true rfl)⟩) hS (fun q _ h => hFc q h) hFc (fun r_218 u t H1 locs ht hvm hw_219 hB hz1 hk1 hS => ?_)
                        obtain ⟨⟩ := u
                        obtain ⟨hP1, hK1, hD1⟩ := hB
                        rw [ht] at hP1
                        have hK1 := va_K.moved hvm.symm hK1
                        try dsimp only at hw_219
                        obtain ⟨hP, hD⟩ := va_join (wr := []) (w1 := [(o, .inr (13, fs)), (p1, .inl (cP, 165440, .inr (.inl (fun j => lN (pn8 j))))), (l1, .inl (cL, 2068, .inl (fun j => nI (ln8 j)))), (b1, .inl (cB, 2068, .inl (fun j => nI (bn8 j))))]) hP hD [0, 1, 2, 3] [] rfl rfl (by decide) (by decide) hk1 hFc hP1 hD1
                        have hK := (hK.sub (tys' := []) [] rfl).app hK1
                        generalize H1 = H at hP hS ⊢
                        have hP : va_P (dC, dI) vwCl ([(o, .inr (13, fs)), (p1, .inl (cP, 165440, .inr (.inl (fun j => lN (pn8 j))))), (l1, .inl (cL, 2068, .inl (fun j => nI (ln8 j)))), (b1, .inl (cB, 2068, .inl (fun j => nI (bn8 j))))]) H := hP
                        have hD : va_D A ([(o, .inr (13, fs)), (p1, .inl (cP, 165440, .inr (.inl (fun j => lN (pn8 j))))), (l1, .inl (cL, 2068, .inl (fun j => nI (ln8 j)))), (b1, .inl (cB, 2068, .inl (fun j => nI (bn8 j))))]) := hD
                        have hK : va_K (dC, dI) vwCl [(cP, .long), (cL, .int), (cB, .boolean)] s := hK
                        rcases hw_219 with ⟨rfl, z_220⟩ | ⟨rfl, z_220⟩
                        · refine lv_if_eq (tgt := 127) hx hb dX10_divisor_114 (by decide) (fun c_221 => absurd c_221 (by decide)) (fun c_221 => ?_)
                          refine lv_aload_n hx hb dX10_divisor_117 rfl (lv_at hl 0 rfl) ?_
                          refine lv_sipush (v := nI 2061) hx hb dX10_divisor_118 (by decide +kernel) ?_
                          have hPc := hP.sub (ws' := [(o, .inr (13, fs)), (p1, .inl (cP, 165440, .inr (.inl (fun j => lN (pn8 j))))), (l1, .inl (cL, 2068, .inl (fun j => nI (ln8 j)))), (b1, .inl (cB, 2068, .inl (fun j => nI (bn8 j))))]) [0, 1, 2, 3] rfl
                          have hDc := hD.sub (ws' := [(o, .inr (13, fs)), (p1, .inl (cP, 165440, .inr (.inl (fun j => lN (pn8 j))))), (l1, .inl (cL, 2068, .inl (fun j => nI (ln8 j)))), (b1, .inl (cB, 2068, .inl (fun j => nI (bn8 j))))]) [0, 1, 2, 3] (by decide) rfl
                          have hKc := hK.sub (tys' := [(cP, .long), (cL, .int), (cB, .boolean)]) [0, 1, 2] rfl
                          have hFc := va_free (wc := [(o, .inr (13, fs)), (p1, .inl (cP, 165440, .inr (.inl (fun j => lN (pn8 j))))), (l1, .inl (cL, 2068, .inl (fun j => nI (ln8 j)))), (b1, .inl (cB, 2068, .inl (fun j => nI (bn8 j))))]) hD hS hA [0, 1, 2, 3] rfl
                          refine va_callv (va_runV (As := [.int (nI 2061)]) (rest := []) ⟨hx, hb, hml, hown, hts⟩ (c_X10_halve l dC dI (va_A [(o, .inr (13, fs)), (p1, .inl (cP, 165440, .inr (.inl (fun j => lN (pn8 j))))), (l1, .inl (cL, 2068, .inl (fun j => nI (ln8 j)))), (b1, .inl (cB, 2068, .inl (fun j => nI (bn8 j))))] H.size) H.size (fun _ h => Or.inr h) o fs p1 l1 b1 cP cL cB pn8 ln8 bn8 2061 h3x h1 h2 h3 hp8 hl8 hb8 (by decide) hH (by omega)) (cwV 1 hts (goodIn_app (goodIn_r [Cond.methodLink RX10 111 yX10_halve, Cond.instanceMethod yX10_halve, Cond.selects RX10 yX10_halve yX10_halve, Cond.initialized RX10] [9, 10, 11, 4] rfl rfl) (goodIn_sub (fun w9 h9 => bk3 w9 h9) gw_X10_halve)) rfl rfl rfl (by decide +kernel) ⟨Nat.le_of_ble_eq_true rfl, Nat.le_of_ble_eq_true rfl⟩) ⟨fun a U g mk q => by obtain ⟨q0, q1, qP, qK, qD⟩ := q; exact ⟨q0, q1, qP, va_K.moved (u := U) (U := U.calling g mk a) (Vm.Alike.refl U.vm) qK, qD⟩, va_recv hKc hPc (ci := 13) (q0 := 0) rfl rfl, fun U hU hW => ⟨rfl, by rw [hU], by rw [hU]; exact hPc, va_K.moved hW.alike hKc, hDc.self⟩⟩ rfl rfl hl.1 rfl (lv_room (Nat.le_of_ble_eq_true rfl)) dX10_divisor_121 ⟨(Nat.le_of_ble_eq_true rfl), (Nat.le_of_ble_eq_true rfl)⟩) hS (fun q _ h => hFc q h) hFc (fun u t H1 locs ht hvm hw_222 hB hz1 hk1 hS => ?_)
                          obtain ⟨pn2_223, ln2_224, bn2_225⟩ := u
                          obtain ⟨hP1, hK1, hD1⟩ := hB
                          rw [ht] at hP1
                          have hK1 := va_K.moved hvm.symm hK1
                          try dsimp only at hw_222
                          obtain ⟨hP, hD⟩ := va_join (wr := []) (w1 := [(o, .inr (13, fs)), (p1, .inl (cP, 165440, .inr (.inl (fun j => lN (pn2_223 j))))), (l1, .inl (cL, 2068, .inl (fun j => nI (ln2_224 j)))), (b1, .inl (cB, 2068, .inl (fun j => nI (bn2_225 j))))]) hP hD [0, 1, 2, 3] [] rfl rfl (by decide) (by decide) hk1 hFc hP1 hD1
                          have hK := (hK.sub (tys' := []) [] rfl).app hK1
                          generalize H1 = H at hP hS ⊢
                          have hP : va_P (dC, dI) vwCl ([(o, .inr (13, fs)), (p1, .inl (cP, 165440, .inr (.inl (fun j => lN (pn2_223 j))))), (l1, .inl (cL, 2068, .inl (fun j => nI (ln2_224 j)))), (b1, .inl (cB, 2068, .inl (fun j => nI (bn2_225 j))))]) H := hP
                          have hD : va_D A ([(o, .inr (13, fs)), (p1, .inl (cP, 165440, .inr (.inl (fun j => lN (pn2_223 j))))), (l1, .inl (cL, 2068, .inl (fun j => nI (ln2_224 j)))), (b1, .inl (cB, 2068, .inl (fun j => nI (bn2_225 j))))]) := hD
                          have hK : va_K (dC, dI) vwCl [(cP, .long), (cL, .int), (cB, .boolean)] s := hK
                          obtain ⟨hb_226, hb_227, hb_228, rel_229⟩ := hw_222
                          obtain ⟨fr_230, on_231⟩ := rel_229
                          have on_232 := hG.fr fr_230 (by simp only [List.mem_cons, List.not_mem_nil, or_false]; omega)
                          have F_233 := hf8.tr (S := [2060, 2061, 2066]) fr_230 (fun j h => by simp at h ⊢; omega) (fun j h => by simp at h ⊢; omega)
                          refine lv_goto (tgt := 107) hx hb dX10_divisor_124 (by decide) ?_
                          exact ih_217 g3 (h3x / 2) pn2_223 ln2_224 bn2_225 (by omega) hb_226 hb_227 hb_228 F_233 on_232 on_231 hg0 hgp (k_pw3 hhp (Nat.div_le_self _ _)) (by omega) (by omega) ho2 _ _ _ (hP.sub (ws' := [(o, .inr (13, fs)), (p1, .inl (cP, 165440, .inr (.inl (fun j => lN (pn2_223 j))))), (l1, .inl (cL, 2068, .inl (fun j => nI (ln2_224 j)))), (b1, .inl (cB, 2068, .inl (fun j => nI (bn2_225 j))))]) [0, 1, 2, 3] rfl) (hD.sub (ws' := [(o, .inr (13, fs)), (p1, .inl (cP, 165440, .inr (.inl (fun j => lN (pn2_223 j))))), (l1, .inl (cL, 2068, .inl (fun j => nI (ln2_224 j)))), (b1, .inl (cB, 2068, .inl (fun j => nI (bn2_225 j))))]) [0, 1, 2, 3] (by decide) rfl) (hK.sub (tys' := [(cP, .long), (cL, .int), (cB, .boolean)]) [0, 1, 2] rfl) hS (lv_sub (l' := [(0, .ref o), (3, .int (nI kk))]) hl [0, 1] rfl)
                        · refine lv_if_eq (tgt := 127) hx hb dX10_divisor_114 (by decide) (fun c_234 => ?_) (fun c_234 => absurd c_234 (by decide))
                          refine lv_aload_n hx hb dX10_divisor_127 rfl (lv_at hl 0 rfl) ?_
                          refine lv_sipush (v := nI 2060) hx hb dX10_divisor_128 (by decide +kernel) ?_
                          refine lv_sipush (v := nI 2061) hx hb dX10_divisor_131 (by decide +kernel) ?_
                          have hPc := hP.sub (ws' := [(o, .inr (13, fs)), (p1, .inl (cP, 165440, .inr (.inl (fun j => lN (pn8 j))))), (l1, .inl (cL, 2068, .inl (fun j => nI (ln8 j)))), (b1, .inl (cB, 2068, .inl (fun j => nI (bn8 j))))]) [0, 1, 2, 3] rfl
                          have hDc := hD.sub (ws' := [(o, .inr (13, fs)), (p1, .inl (cP, 165440, .inr (.inl (fun j => lN (pn8 j))))), (l1, .inl (cL, 2068, .inl (fun j => nI (ln8 j)))), (b1, .inl (cB, 2068, .inl (fun j => nI (bn8 j))))]) [0, 1, 2, 3] (by decide) rfl
                          have hKc := hK.sub (tys' := [(cP, .long), (cL, .int), (cB, .boolean)]) [0, 1, 2] rfl
                          have hFc := va_free (wc := [(o, .inr (13, fs)), (p1, .inl (cP, 165440, .inr (.inl (fun j => lN (pn8 j))))), (l1, .inl (cL, 2068, .inl (fun j => nI (ln8 j)))), (b1, .inl (cB, 2068, .inl (fun j => nI (bn8 j))))]) hD hS hA [0, 1, 2, 3] rfl
                          refine va_calli (va_runV (As := [.int (nI 2060), .int (nI 2061)]) (rest := []) ⟨hx, hb, hml, hown, hts⟩ (c_X10_cmp l dC dI (va_A [(o, .inr (13, fs)), (p1, .inl (cP, 165440, .inr (.inl (fun j => lN (pn8 j))))), (l1, .inl (cL, 2068, .inl (fun j => nI (ln8 j)))), (b1, .inl (cB, 2068, .inl (fun j => nI (bn8 j))))] H.size) H.size (fun _ h => Or.inr h) o fs p1 l1 b1 cP cL cB pn8 ln8 bn8 2060 2061 g3 h3x h1 h2 h3 hp8 hl8 hb8 (by decide) (by decide) hG hH (by omega) (by omega)) (cwV 2 hts (goodIn_app (goodIn_r [Cond.methodLink RX10 100 yX10_compareSizes, Cond.instanceMethod yX10_compareSizes, Cond.selects RX10 yX10_compareSizes yX10_compareSizes, Cond.initialized RX10] [16, 17, 18, 4] rfl rfl) (goodIn_sub (fun w9 h9 => bk5 w9 h9) gw_X10_cmp)) rfl rfl rfl (by decide +kernel) ⟨Nat.le_of_ble_eq_true rfl, Nat.le_of_ble_eq_true rfl⟩) ⟨fun a U g mk q => by obtain ⟨q0, q1, qP, qK, qD⟩ := q; exact ⟨q0, q1, qP, va_K.moved (u := U) (U := U.calling g mk a) (Vm.Alike.refl U.vm) qK, qD⟩, va_recv hKc hPc (ci := 13) (q0 := 0) rfl rfl, fun U hU hW => ⟨rfl, by rw [hU], by rw [hU]; exact hPc, va_K.moved hW.alike hKc, hDc.self⟩⟩ rfl rfl hl.1 rfl (lv_room (Nat.le_of_ble_eq_true rfl)) dX10_divisor_134 ⟨(Nat.le_of_ble_eq_true rfl), (Nat.le_of_ble_eq_true rfl)⟩) hS (fun q _ h => hFc q h) hFc (fun r_235 u t H1 locs ht hvm hw_236 hB hz1 hk1 hS => ?_)
                          obtain ⟨⟩ := u
                          obtain ⟨hP1, hK1, hD1⟩ := hB
                          rw [ht] at hP1
                          have hK1 := va_K.moved hvm.symm hK1
                          try dsimp only at hw_236
                          obtain ⟨hP, hD⟩ := va_join (wr := []) (w1 := [(o, .inr (13, fs)), (p1, .inl (cP, 165440, .inr (.inl (fun j => lN (pn8 j))))), (l1, .inl (cL, 2068, .inl (fun j => nI (ln8 j)))), (b1, .inl (cB, 2068, .inl (fun j => nI (bn8 j))))]) hP hD [0, 1, 2, 3] [] rfl rfl (by decide) (by decide) hk1 hFc hP1 hD1
                          have hK := (hK.sub (tys' := []) [] rfl).app hK1
                          generalize H1 = H at hP hS ⊢
                          have hP : va_P (dC, dI) vwCl ([(o, .inr (13, fs)), (p1, .inl (cP, 165440, .inr (.inl (fun j => lN (pn8 j))))), (l1, .inl (cL, 2068, .inl (fun j => nI (ln8 j)))), (b1, .inl (cB, 2068, .inl (fun j => nI (bn8 j))))]) H := hP
                          have hD : va_D A ([(o, .inr (13, fs)), (p1, .inl (cP, 165440, .inr (.inl (fun j => lN (pn8 j))))), (l1, .inl (cL, 2068, .inl (fun j => nI (ln8 j)))), (b1, .inl (cB, 2068, .inl (fun j => nI (bn8 j))))]) := hD
                          have hK : va_K (dC, dI) vwCl [(cP, .long), (cL, .int), (cB, .boolean)] s := hK
                          rcases hw_236 with ⟨rfl, z_237⟩ | ⟨rfl, z_237⟩ | ⟨rfl, z_237⟩
                          · refine lv_if_le (tgt := 156) hx hb dX10_divisor_137 (by decide) (fun c_238 => ?_) (fun c_238 => absurd c_238 (by decide))
                            refine lv_aload_n hx hb dX10_divisor_156 rfl (lv_at hl 0 rfl) ?_
                            refine lv_sipush (v := nI 2061) hx hb dX10_divisor_157 (by decide +kernel) ?_
                            refine lv_sipush (v := nI 2061) hx hb dX10_divisor_160 (by decide +kernel) ?_
                            refine lv_sipush (v := nI 2060) hx hb dX10_divisor_163 (by decide +kernel) ?_
                            have hPc := hP.sub (ws' := [(o, .inr (13, fs)), (p1, .inl (cP, 165440, .inr (.inl (fun j => lN (pn8 j))))), (l1, .inl (cL, 2068, .inl (fun j => nI (ln8 j)))), (b1, .inl (cB, 2068, .inl (fun j => nI (bn8 j))))]) [0, 1, 2, 3] rfl
                            have hDc := hD.sub (ws' := [(o, .inr (13, fs)), (p1, .inl (cP, 165440, .inr (.inl (fun j => lN (pn8 j))))), (l1, .inl (cL, 2068, .inl (fun j => nI (ln8 j)))), (b1, .inl (cB, 2068, .inl (fun j => nI (bn8 j))))]) [0, 1, 2, 3] (by decide) rfl
                            have hKc := hK.sub (tys' := [(cP, .long), (cL, .int), (cB, .boolean)]) [0, 1, 2] rfl
                            have hFc := va_free (wc := [(o, .inr (13, fs)), (p1, .inl (cP, 165440, .inr (.inl (fun j => lN (pn8 j))))), (l1, .inl (cL, 2068, .inl (fun j => nI (ln8 j)))), (b1, .inl (cB, 2068, .inl (fun j => nI (bn8 j))))]) hD hS hA [0, 1, 2, 3] rfl
                            refine va_callv (va_runV (As := [.int (nI 2061), .int (nI 2061), .int (nI 2060)]) (rest := []) ⟨hx, hb, hml, hown, hts⟩ (c_X10_take l dC dI (va_A [(o, .inr (13, fs)), (p1, .inl (cP, 165440, .inr (.inl (fun j => lN (pn8 j))))), (l1, .inl (cL, 2068, .inl (fun j => nI (ln8 j)))), (b1, .inl (cB, 2068, .inl (fun j => nI (bn8 j))))] H.size) H.size (fun _ h => Or.inr h) o fs p1 l1 b1 cP cL cB pn8 ln8 bn8 2061 2061 2060 h3x g3 h1 h2 h3 hp8 hl8 hb8 (by decide) (by decide) (by decide) hH hG (by omega) (by omega)) (cwV 3 hts (goodIn_app (goodIn_r [Cond.methodLink RX10 104 yX10_takeSizes, Cond.instanceMethod yX10_takeSizes, Cond.selects RX10 yX10_takeSizes yX10_takeSizes, Cond.initialized RX10] [19, 20, 21, 4] rfl rfl) (goodIn_sub (fun w9 h9 => bk6 w9 h9) gw_X10_take)) rfl rfl rfl (by decide +kernel) ⟨Nat.le_of_ble_eq_true rfl, Nat.le_of_ble_eq_true rfl⟩) ⟨fun a U g mk q => by obtain ⟨q0, q1, qP, qK, qD⟩ := q; exact ⟨q0, q1, qP, va_K.moved (u := U) (U := U.calling g mk a) (Vm.Alike.refl U.vm) qK, qD⟩, va_recv hKc hPc (ci := 13) (q0 := 0) rfl rfl, fun U hU hW => ⟨rfl, by rw [hU], by rw [hU]; exact hPc, va_K.moved hW.alike hKc, hDc.self⟩⟩ rfl rfl hl.1 rfl (lv_room (Nat.le_of_ble_eq_true rfl)) dX10_divisor_166 ⟨(Nat.le_of_ble_eq_true rfl), (Nat.le_of_ble_eq_true rfl)⟩) hS (fun q _ h => hFc q h) hFc (fun u t H1 locs ht hvm hw_239 hB hz1 hk1 hS => ?_)
                            obtain ⟨pn2_240, ln2_241, bn2_242⟩ := u
                            obtain ⟨hP1, hK1, hD1⟩ := hB
                            rw [ht] at hP1
                            have hK1 := va_K.moved hvm.symm hK1
                            try dsimp only at hw_239
                            obtain ⟨hP, hD⟩ := va_join (wr := []) (w1 := [(o, .inr (13, fs)), (p1, .inl (cP, 165440, .inr (.inl (fun j => lN (pn2_240 j))))), (l1, .inl (cL, 2068, .inl (fun j => nI (ln2_241 j)))), (b1, .inl (cB, 2068, .inl (fun j => nI (bn2_242 j))))]) hP hD [0, 1, 2, 3] [] rfl rfl (by decide) (by decide) hk1 hFc hP1 hD1
                            have hK := (hK.sub (tys' := []) [] rfl).app hK1
                            generalize H1 = H at hP hS ⊢
                            have hP : va_P (dC, dI) vwCl ([(o, .inr (13, fs)), (p1, .inl (cP, 165440, .inr (.inl (fun j => lN (pn2_240 j))))), (l1, .inl (cL, 2068, .inl (fun j => nI (ln2_241 j)))), (b1, .inl (cB, 2068, .inl (fun j => nI (bn2_242 j))))]) H := hP
                            have hD : va_D A ([(o, .inr (13, fs)), (p1, .inl (cP, 165440, .inr (.inl (fun j => lN (pn2_240 j))))), (l1, .inl (cL, 2068, .inl (fun j => nI (ln2_241 j)))), (b1, .inl (cB, 2068, .inl (fun j => nI (bn2_242 j))))]) := hD
                            have hK : va_K (dC, dI) vwCl [(cP, .long), (cL, .int), (cB, .boolean)] s := hK
                            obtain ⟨hb_243, hb_244, hb_245, rel_246⟩ := hw_239
                            obtain ⟨fr_247, on_248⟩ := rel_246
                            have on_249 := hG.fr fr_247 (by simp only [List.mem_cons, List.not_mem_nil, or_false]; omega)
                            have F_250 := hf8.tr (S := [2060, 2061, 2066]) fr_247 (fun j h => by simp at h ⊢; omega) (fun j h => by simp at h ⊢; omega)
                            refine lv_aload_n hx hb dX10_divisor_169 rfl (lv_at hl 0 rfl) ?_
                            refine va_get (D := (dC, dI)) (ci := 13) (v := .ref l1) (C := RX10) (T := TX10) (N := 29) hx hb hts bk1 hown hK hP 0 rfl rfl 2 (by decide) (hts (.fieldLink RX10 14 "GradientDeskModel" "length" "[I") (List.mem_of_getElem? (i := 12) rfl)) (fun _ h9 => h9) h2 dX10_divisor_170 ?_
                            refine lv_sipush (v := nI 2060) hx hb dX10_divisor_173 (by decide +kernel) ?_
                            refine va_iald hx hb hK hP 2 1 rfl rfl (vp_in_nI (show 2060 < 2068 by decide) (by decide)) dX10_divisor_176 ?_
                            refine lv_topi (fun x_251 e_252 => ?_)
                            rw [nI_clamp (show 2060 < 2 ^ 31 by decide)] at e_252
                            obtain ⟨n_253, e_254⟩ : ∃ z : Nat, z = ln2_241 2060 := ⟨_, rfl⟩
                            obtain rfl : x_251 = nI n_253 := by rw [e_254]; exact e_252
                            have b_255 : n_253 < 81 := by rw [e_254]; exact hb_244 _
                            have hle9 : n_253 = 0 ↔ g3 = 0 := by rw [e_254]; exact on_249.zero
                            refine lv_if_ne (tgt := 76) hx hb dX10_divisor_177 (by decide) (fun c_256 => ?_) (fun c_256 => ?_)
                            · have c_256 := mt (nI_eq (a := n_253) (b := 0) (by omega) (by decide)).mpr c_256
                              exact ih_177 g3 (h3x - g3) pn2_240 ln2_241 bn2_242 (by omega) hb_243 hb_244 hb_245 F_250 on_249 on_248 (by omega) hgp (k_pw3 hhp (Nat.sub_le _ _)) _ _ _ (hP.sub (ws' := [(o, .inr (13, fs)), (p1, .inl (cP, 165440, .inr (.inl (fun j => lN (pn2_240 j))))), (l1, .inl (cL, 2068, .inl (fun j => nI (ln2_241 j)))), (b1, .inl (cB, 2068, .inl (fun j => nI (bn2_242 j))))]) [0, 1, 2, 3] rfl) (hD.sub (ws' := [(o, .inr (13, fs)), (p1, .inl (cP, 165440, .inr (.inl (fun j => lN (pn2_240 j))))), (l1, .inl (cL, 2068, .inl (fun j => nI (ln2_241 j)))), (b1, .inl (cB, 2068, .inl (fun j => nI (bn2_242 j))))]) [0, 1, 2, 3] (by decide) rfl) (hK.sub (tys' := [(cP, .long), (cL, .int), (cB, .boolean)]) [0, 1, 2] rfl) hS (lv_sub (l' := [(0, .ref o), (3, .int (nI kk))]) hl [0, 1] rfl)
                            · have c_256 := (nI_eq (a := n_253) (b := 0) (by omega) (by decide)).mp c_256
                              exfalso; omega
                          · refine lv_if_le (tgt := 156) hx hb dX10_divisor_137 (by decide) (fun c_257 => ?_) (fun c_257 => absurd c_257 (by decide))
                            refine lv_aload_n hx hb dX10_divisor_156 rfl (lv_at hl 0 rfl) ?_
                            refine lv_sipush (v := nI 2061) hx hb dX10_divisor_157 (by decide +kernel) ?_
                            refine lv_sipush (v := nI 2061) hx hb dX10_divisor_160 (by decide +kernel) ?_
                            refine lv_sipush (v := nI 2060) hx hb dX10_divisor_163 (by decide +kernel) ?_
                            have hPc := hP.sub (ws' := [(o, .inr (13, fs)), (p1, .inl (cP, 165440, .inr (.inl (fun j => lN (pn8 j))))), (l1, .inl (cL, 2068, .inl (fun j => nI (ln8 j)))), (b1, .inl (cB, 2068, .inl (fun j => nI (bn8 j))))]) [0, 1, 2, 3] rfl
                            have hDc := hD.sub (ws' := [(o, .inr (13, fs)), (p1, .inl (cP, 165440, .inr (.inl (fun j => lN (pn8 j))))), (l1, .inl (cL, 2068, .inl (fun j => nI (ln8 j)))), (b1, .inl (cB, 2068, .inl (fun j => nI (bn8 j))))]) [0, 1, 2, 3] (by decide) rfl
                            have hKc := hK.sub (tys' := [(cP, .long), (cL, .int), (cB, .boolean)]) [0, 1, 2] rfl
                            have hFc := va_free (wc := [(o, .inr (13, fs)), (p1, .inl (cP, 165440, .inr (.inl (fun j => lN (pn8 j))))), (l1, .inl (cL, 2068, .inl (fun j => nI (ln8 j)))), (b1, .inl (cB, 2068, .inl (fun j => nI (bn8 j))))]) hD hS hA [0, 1, 2, 3] rfl
                            refine va_callv (va_runV (As := [.int (nI 2061), .int (nI 2061), .int (nI 2060)]) (rest := []) ⟨hx, hb, hml, hown, hts⟩ (c_X10_take l dC dI (va_A [(o, .inr (13, fs)), (p1, .inl (cP, 165440, .inr (.inl (fun j => lN (pn8 j))))), (l1, .inl (cL, 2068, .inl (fun j => nI (ln8 j)))), (b1, .inl (cB, 2068, .inl (fun j => nI (bn8 j))))] H.size) H.size (fun _ h => Or.inr h) o fs p1 l1 b1 cP cL cB pn8 ln8 bn8 2061 2061 2060 h3x g3 h1 h2 h3 hp8 hl8 hb8 (by decide) (by decide) (by decide) hH hG (by omega) (by omega)) (cwV 3 hts (goodIn_app (goodIn_r [Cond.methodLink RX10 104 yX10_takeSizes, Cond.instanceMethod yX10_takeSizes, Cond.selects RX10 yX10_takeSizes yX10_takeSizes, Cond.initialized RX10] [19, 20, 21, 4] rfl rfl) (goodIn_sub (fun w9 h9 => bk6 w9 h9) gw_X10_take)) rfl rfl rfl (by decide +kernel) ⟨Nat.le_of_ble_eq_true rfl, Nat.le_of_ble_eq_true rfl⟩) ⟨fun a U g mk q => by obtain ⟨q0, q1, qP, qK, qD⟩ := q; exact ⟨q0, q1, qP, va_K.moved (u := U) (U := U.calling g mk a) (Vm.Alike.refl U.vm) qK, qD⟩, va_recv hKc hPc (ci := 13) (q0 := 0) rfl rfl, fun U hU hW => ⟨rfl, by rw [hU], by rw [hU]; exact hPc, va_K.moved hW.alike hKc, hDc.self⟩⟩ rfl rfl hl.1 rfl (lv_room (Nat.le_of_ble_eq_true rfl)) dX10_divisor_166 ⟨(Nat.le_of_ble_eq_true rfl), (Nat.le_of_ble_eq_true rfl)⟩) hS (fun q _ h => hFc q h) hFc (fun u t H1 locs ht hvm hw_258 hB hz1 hk1 hS => ?_)
                            obtain ⟨pn2_259, ln2_260, bn2_261⟩ := u
                            obtain ⟨hP1, hK1, hD1⟩ := hB
                            rw [ht] at hP1
                            have hK1 := va_K.moved hvm.symm hK1
                            try dsimp only at hw_258
                            obtain ⟨hP, hD⟩ := va_join (wr := []) (w1 := [(o, .inr (13, fs)), (p1, .inl (cP, 165440, .inr (.inl (fun j => lN (pn2_259 j))))), (l1, .inl (cL, 2068, .inl (fun j => nI (ln2_260 j)))), (b1, .inl (cB, 2068, .inl (fun j => nI (bn2_261 j))))]) hP hD [0, 1, 2, 3] [] rfl rfl (by decide) (by decide) hk1 hFc hP1 hD1
                            have hK := (hK.sub (tys' := []) [] rfl).app hK1
                            generalize H1 = H at hP hS ⊢
                            have hP : va_P (dC, dI) vwCl ([(o, .inr (13, fs)), (p1, .inl (cP, 165440, .inr (.inl (fun j => lN (pn2_259 j))))), (l1, .inl (cL, 2068, .inl (fun j => nI (ln2_260 j)))), (b1, .inl (cB, 2068, .inl (fun j => nI (bn2_261 j))))]) H := hP
                            have hD : va_D A ([(o, .inr (13, fs)), (p1, .inl (cP, 165440, .inr (.inl (fun j => lN (pn2_259 j))))), (l1, .inl (cL, 2068, .inl (fun j => nI (ln2_260 j)))), (b1, .inl (cB, 2068, .inl (fun j => nI (bn2_261 j))))]) := hD
                            have hK : va_K (dC, dI) vwCl [(cP, .long), (cL, .int), (cB, .boolean)] s := hK
                            obtain ⟨hb_262, hb_263, hb_264, rel_265⟩ := hw_258
                            obtain ⟨fr_266, on_267⟩ := rel_265
                            have on_268 := hG.fr fr_266 (by simp only [List.mem_cons, List.not_mem_nil, or_false]; omega)
                            have F_269 := hf8.tr (S := [2060, 2061, 2066]) fr_266 (fun j h => by simp at h ⊢; omega) (fun j h => by simp at h ⊢; omega)
                            refine lv_aload_n hx hb dX10_divisor_169 rfl (lv_at hl 0 rfl) ?_
                            refine va_get (D := (dC, dI)) (ci := 13) (v := .ref l1) (C := RX10) (T := TX10) (N := 29) hx hb hts bk1 hown hK hP 0 rfl rfl 2 (by decide) (hts (.fieldLink RX10 14 "GradientDeskModel" "length" "[I") (List.mem_of_getElem? (i := 12) rfl)) (fun _ h9 => h9) h2 dX10_divisor_170 ?_
                            refine lv_sipush (v := nI 2060) hx hb dX10_divisor_173 (by decide +kernel) ?_
                            refine va_iald hx hb hK hP 2 1 rfl rfl (vp_in_nI (show 2060 < 2068 by decide) (by decide)) dX10_divisor_176 ?_
                            refine lv_topi (fun x_270 e_271 => ?_)
                            rw [nI_clamp (show 2060 < 2 ^ 31 by decide)] at e_271
                            obtain ⟨n_272, e_273⟩ : ∃ z : Nat, z = ln2_260 2060 := ⟨_, rfl⟩
                            obtain rfl : x_270 = nI n_272 := by rw [e_273]; exact e_271
                            have b_274 : n_272 < 81 := by rw [e_273]; exact hb_263 _
                            have hle9 : n_272 = 0 ↔ g3 = 0 := by rw [e_273]; exact on_268.zero
                            refine lv_if_ne (tgt := 76) hx hb dX10_divisor_177 (by decide) (fun c_275 => ?_) (fun c_275 => ?_)
                            · have c_275 := mt (nI_eq (a := n_272) (b := 0) (by omega) (by decide)).mpr c_275
                              exact ih_177 g3 (h3x - g3) pn2_259 ln2_260 bn2_261 (by omega) hb_262 hb_263 hb_264 F_269 on_268 on_267 (by omega) hgp (k_pw3 hhp (Nat.sub_le _ _)) _ _ _ (hP.sub (ws' := [(o, .inr (13, fs)), (p1, .inl (cP, 165440, .inr (.inl (fun j => lN (pn2_259 j))))), (l1, .inl (cL, 2068, .inl (fun j => nI (ln2_260 j)))), (b1, .inl (cB, 2068, .inl (fun j => nI (bn2_261 j))))]) [0, 1, 2, 3] rfl) (hD.sub (ws' := [(o, .inr (13, fs)), (p1, .inl (cP, 165440, .inr (.inl (fun j => lN (pn2_259 j))))), (l1, .inl (cL, 2068, .inl (fun j => nI (ln2_260 j)))), (b1, .inl (cB, 2068, .inl (fun j => nI (bn2_261 j))))]) [0, 1, 2, 3] (by decide) rfl) (hK.sub (tys' := [(cP, .long), (cL, .int), (cB, .boolean)]) [0, 1, 2] rfl) hS (lv_sub (l' := [(0, .ref o), (3, .int (nI kk))]) hl [0, 1] rfl)
                            · have c_275 := (nI_eq (a := n_272) (b := 0) (by omega) (by decide)).mp c_275
                              exfalso; omega
                          · refine lv_if_le (tgt := 156) hx hb dX10_divisor_137 (by decide) (fun c_276 => absurd c_276 (by decide)) (fun c_276 => ?_)
                            refine lv_aload_n hx hb dX10_divisor_140 rfl (lv_at hl 0 rfl) ?_
                            refine lv_sipush (v := nI 2060) hx hb dX10_divisor_141 (by decide +kernel) ?_
                            refine lv_sipush (v := nI 2060) hx hb dX10_divisor_144 (by decide +kernel) ?_
                            refine lv_sipush (v := nI 2061) hx hb dX10_divisor_147 (by decide +kernel) ?_
                            have hPc := hP.sub (ws' := [(o, .inr (13, fs)), (p1, .inl (cP, 165440, .inr (.inl (fun j => lN (pn8 j))))), (l1, .inl (cL, 2068, .inl (fun j => nI (ln8 j)))), (b1, .inl (cB, 2068, .inl (fun j => nI (bn8 j))))]) [0, 1, 2, 3] rfl
                            have hDc := hD.sub (ws' := [(o, .inr (13, fs)), (p1, .inl (cP, 165440, .inr (.inl (fun j => lN (pn8 j))))), (l1, .inl (cL, 2068, .inl (fun j => nI (ln8 j)))), (b1, .inl (cB, 2068, .inl (fun j => nI (bn8 j))))]) [0, 1, 2, 3] (by decide) rfl
                            have hKc := hK.sub (tys' := [(cP, .long), (cL, .int), (cB, .boolean)]) [0, 1, 2] rfl
                            have hFc := va_free (wc := [(o, .inr (13, fs)), (p1, .inl (cP, 165440, .inr (.inl (fun j => lN (pn8 j))))), (l1, .inl (cL, 2068, .inl (fun j => nI (ln8 j)))), (b1, .inl (cB, 2068, .inl (fun j => nI (bn8 j))))]) hD hS hA [0, 1, 2, 3] rfl
                            refine va_callv (va_runV (As := [.int (nI 2060), .int (nI 2060), .int (nI 2061)]) (rest := []) ⟨hx, hb, hml, hown, hts⟩ (c_X10_take l dC dI (va_A [(o, .inr (13, fs)), (p1, .inl (cP, 165440, .inr (.inl (fun j => lN (pn8 j))))), (l1, .inl (cL, 2068, .inl (fun j => nI (ln8 j)))), (b1, .inl (cB, 2068, .inl (fun j => nI (bn8 j))))] H.size) H.size (fun _ h => Or.inr h) o fs p1 l1 b1 cP cL cB pn8 ln8 bn8 2060 2060 2061 g3 h3x h1 h2 h3 hp8 hl8 hb8 (by decide) (by decide) (by decide) hG hH (by omega) (by omega)) (cwV 3 hts (goodIn_app (goodIn_r [Cond.methodLink RX10 104 yX10_takeSizes, Cond.instanceMethod yX10_takeSizes, Cond.selects RX10 yX10_takeSizes yX10_takeSizes, Cond.initialized RX10] [19, 20, 21, 4] rfl rfl) (goodIn_sub (fun w9 h9 => bk6 w9 h9) gw_X10_take)) rfl rfl rfl (by decide +kernel) ⟨Nat.le_of_ble_eq_true rfl, Nat.le_of_ble_eq_true rfl⟩) ⟨fun a U g mk q => by obtain ⟨q0, q1, qP, qK, qD⟩ := q; exact ⟨q0, q1, qP, va_K.moved (u := U) (U := U.calling g mk a) (Vm.Alike.refl U.vm) qK, qD⟩, va_recv hKc hPc (ci := 13) (q0 := 0) rfl rfl, fun U hU hW => ⟨rfl, by rw [hU], by rw [hU]; exact hPc, va_K.moved hW.alike hKc, hDc.self⟩⟩ rfl rfl hl.1 rfl (lv_room (Nat.le_of_ble_eq_true rfl)) dX10_divisor_150 ⟨(Nat.le_of_ble_eq_true rfl), (Nat.le_of_ble_eq_true rfl)⟩) hS (fun q _ h => hFc q h) hFc (fun u t H1 locs ht hvm hw_277 hB hz1 hk1 hS => ?_)
                            obtain ⟨pn2_278, ln2_279, bn2_280⟩ := u
                            obtain ⟨hP1, hK1, hD1⟩ := hB
                            rw [ht] at hP1
                            have hK1 := va_K.moved hvm.symm hK1
                            try dsimp only at hw_277
                            obtain ⟨hP, hD⟩ := va_join (wr := []) (w1 := [(o, .inr (13, fs)), (p1, .inl (cP, 165440, .inr (.inl (fun j => lN (pn2_278 j))))), (l1, .inl (cL, 2068, .inl (fun j => nI (ln2_279 j)))), (b1, .inl (cB, 2068, .inl (fun j => nI (bn2_280 j))))]) hP hD [0, 1, 2, 3] [] rfl rfl (by decide) (by decide) hk1 hFc hP1 hD1
                            have hK := (hK.sub (tys' := []) [] rfl).app hK1
                            generalize H1 = H at hP hS ⊢
                            have hP : va_P (dC, dI) vwCl ([(o, .inr (13, fs)), (p1, .inl (cP, 165440, .inr (.inl (fun j => lN (pn2_278 j))))), (l1, .inl (cL, 2068, .inl (fun j => nI (ln2_279 j)))), (b1, .inl (cB, 2068, .inl (fun j => nI (bn2_280 j))))]) H := hP
                            have hD : va_D A ([(o, .inr (13, fs)), (p1, .inl (cP, 165440, .inr (.inl (fun j => lN (pn2_278 j))))), (l1, .inl (cL, 2068, .inl (fun j => nI (ln2_279 j)))), (b1, .inl (cB, 2068, .inl (fun j => nI (bn2_280 j))))]) := hD
                            have hK : va_K (dC, dI) vwCl [(cP, .long), (cL, .int), (cB, .boolean)] s := hK
                            obtain ⟨hb_281, hb_282, hb_283, rel_284⟩ := hw_277
                            obtain ⟨fr_285, on_286⟩ := rel_284
                            have on_287 := hH.fr fr_285 (by simp only [List.mem_cons, List.not_mem_nil, or_false]; omega)
                            have F_288 := hf8.tr (S := [2060, 2061, 2066]) fr_285 (fun j h => by simp at h ⊢; omega) (fun j h => by simp at h ⊢; omega)
                            refine lv_goto (tgt := 169) hx hb dX10_divisor_153 (by decide) ?_
                            refine lv_aload_n hx hb dX10_divisor_169 rfl (lv_at hl 0 rfl) ?_
                            refine va_get (D := (dC, dI)) (ci := 13) (v := .ref l1) (C := RX10) (T := TX10) (N := 29) hx hb hts bk1 hown hK hP 0 rfl rfl 2 (by decide) (hts (.fieldLink RX10 14 "GradientDeskModel" "length" "[I") (List.mem_of_getElem? (i := 12) rfl)) (fun _ h9 => h9) h2 dX10_divisor_170 ?_
                            refine lv_sipush (v := nI 2060) hx hb dX10_divisor_173 (by decide +kernel) ?_
                            refine va_iald hx hb hK hP 2 1 rfl rfl (vp_in_nI (show 2060 < 2068 by decide) (by decide)) dX10_divisor_176 ?_
                            refine lv_topi (fun x_289 e_290 => ?_)
                            rw [nI_clamp (show 2060 < 2 ^ 31 by decide)] at e_290
                            obtain ⟨n_291, e_292⟩ : ∃ z : Nat, z = ln2_279 2060 := ⟨_, rfl⟩
                            obtain rfl : x_289 = nI n_291 := by rw [e_292]; exact e_290
                            have b_293 : n_291 < 81 := by rw [e_292]; exact hb_282 _
                            have hle9 : n_291 = 0 ↔ (g3 - h3x) = 0 := by rw [e_292]; exact on_286.zero
                            refine lv_if_ne (tgt := 76) hx hb dX10_divisor_177 (by decide) (fun c_294 => ?_) (fun c_294 => ?_)
                            · have c_294 := mt (nI_eq (a := n_291) (b := 0) (by omega) (by decide)).mpr c_294
                              exact ih_177 (g3 - h3x) h3x pn2_278 ln2_279 bn2_280 (by omega) hb_281 hb_282 hb_283 F_288 on_286 on_287 (by omega) (k_pw3 hgp (Nat.sub_le _ _)) hhp _ _ _ (hP.sub (ws' := [(o, .inr (13, fs)), (p1, .inl (cP, 165440, .inr (.inl (fun j => lN (pn2_278 j))))), (l1, .inl (cL, 2068, .inl (fun j => nI (ln2_279 j)))), (b1, .inl (cB, 2068, .inl (fun j => nI (bn2_280 j))))]) [0, 1, 2, 3] rfl) (hD.sub (ws' := [(o, .inr (13, fs)), (p1, .inl (cP, 165440, .inr (.inl (fun j => lN (pn2_278 j))))), (l1, .inl (cL, 2068, .inl (fun j => nI (ln2_279 j)))), (b1, .inl (cB, 2068, .inl (fun j => nI (bn2_280 j))))]) [0, 1, 2, 3] (by decide) rfl) (hK.sub (tys' := [(cP, .long), (cL, .int), (cB, .boolean)]) [0, 1, 2] rfl) hS (lv_sub (l' := [(0, .ref o), (3, .int (nI kk))]) hl [0, 1] rfl)
                            · have c_294 := (nI_eq (a := n_291) (b := 0) (by omega) (by decide)).mp c_294
                              exfalso; omega
                    exact loop_216 _ g2 h2x pn8 ln8 bn8 (Nat.lt_succ_self _) hp8 hl8 hb8 hf8 hG hH hg0 hgp hhp hm8 hh0 (by omega) _ _ _ (hP.sub (ws' := [(o, .inr (13, fs)), (p1, .inl (cP, 165440, .inr (.inl (fun j => lN (pn8 j))))), (l1, .inl (cL, 2068, .inl (fun j => nI (ln8 j)))), (b1, .inl (cB, 2068, .inl (fun j => nI (bn8 j))))]) [0, 1, 2, 3] rfl) (hD.sub (ws' := [(o, .inr (13, fs)), (p1, .inl (cP, 165440, .inr (.inl (fun j => lN (pn8 j))))), (l1, .inl (cL, 2068, .inl (fun j => nI (ln8 j)))), (b1, .inl (cB, 2068, .inl (fun j => nI (bn8 j))))]) [0, 1, 2, 3] (by decide) rfl) (hK.sub (tys' := [(cP, .long), (cL, .int), (cB, .boolean)]) [0, 1, 2] rfl) hS (lv_sub (l' := [(0, .ref o), (3, .int (nI kk))]) hl [0, 1] rfl)
              exact loop_197 _ g1 h1x pn8 ln8 bn8 (Nat.lt_succ_self _) hp8 hl8 hb8 hf8 hG hH hg0 hgp hhp (Nat.le_refl _) (by omega) _ _ _ (hP.sub (ws' := [(o, .inr (13, fs)), (p1, .inl (cP, 165440, .inr (.inl (fun j => lN (pn8 j))))), (l1, .inl (cL, 2068, .inl (fun j => nI (ln8 j)))), (b1, .inl (cB, 2068, .inl (fun j => nI (bn8 j))))]) [0, 1, 2, 3] rfl) (hD.sub (ws' := [(o, .inr (13, fs)), (p1, .inl (cP, 165440, .inr (.inl (fun j => lN (pn8 j))))), (l1, .inl (cL, 2068, .inl (fun j => nI (ln8 j)))), (b1, .inl (cB, 2068, .inl (fun j => nI (bn8 j))))]) [0, 1, 2, 3] (by decide) rfl) (hK.sub (tys' := [(cP, .long), (cL, .int), (cB, .boolean)]) [0, 1, 2] rfl) hS (lv_sub (l' := [(0, .ref o), (3, .int (nI kk))]) hl [0, 1] rfl)
        exact loop_176 _ g9 h9x pn8 ln8 bn8 (Nat.lt_succ_self _) hp8 hl8 hb8 hf8 hG hH hg0 hgp hhp _ _ _ (hP.sub (ws' := [(o, .inr (13, fs)), (p1, .inl (cP, 165440, .inr (.inl (fun j => lN (pn8 j))))), (l1, .inl (cL, 2068, .inl (fun j => nI (ln8 j)))), (b1, .inl (cB, 2068, .inl (fun j => nI (bn8 j))))]) [0, 1, 2, 3] rfl) (hD.sub (ws' := [(o, .inr (13, fs)), (p1, .inl (cP, 165440, .inr (.inl (fun j => lN (pn8 j))))), (l1, .inl (cL, 2068, .inl (fun j => nI (ln8 j)))), (b1, .inl (cB, 2068, .inl (fun j => nI (bn8 j))))]) [0, 1, 2, 3] (by decide) rfl) (hK.sub (tys' := [(cP, .long), (cL, .int), (cB, .boolean)]) [0, 1, 2] rfl) hS (lv_sub (l' := [(0, .ref o), (3, .int (nI kk))]) hl [0, 1] rfl)
  exact loop_19 _ 0 v9 w9 pn2_10 ln2_11 (va_up (va_up bn2_12 2060 0) 2061 0) (Nat.lt_succ_self _) hb_13 hb_14 hb_18 fd od0 od1 hv0 hw0 (by omega) (by omega) (by omega) _ _ _ (hP.sub (ws' := [(o, .inr (13, fs)), (p1, .inl (cP, 165440, .inr (.inl (fun j => lN (pn2_10 j))))), (l1, .inl (cL, 2068, .inl (fun j => nI (ln2_11 j)))), (b1, .inl (cB, 2068, .inl (fun j => nI ((va_up (va_up bn2_12 2060 0) 2061 0) j))))]) [0, 1, 2, 3] rfl) (hD.sub (ws' := [(o, .inr (13, fs)), (p1, .inl (cP, 165440, .inr (.inl (fun j => lN (pn2_10 j))))), (l1, .inl (cL, 2068, .inl (fun j => nI (ln2_11 j)))), (b1, .inl (cB, 2068, .inl (fun j => nI ((va_up (va_up bn2_12 2060 0) 2061 0) j))))]) [0, 1, 2, 3] (by decide) rfl) (hK.sub (tys' := [(cP, .long), (cL, .int), (cB, .boolean)]) [0, 1, 2] rfl) hS (lv_sub (l' := [(0, .ref o), (3, .int (nI 0))]) hl [1, 0] rfl)
