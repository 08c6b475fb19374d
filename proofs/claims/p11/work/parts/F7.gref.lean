section
def wd_G10_init : List Cond := .code yX10_init cX10_init 2 none :: (([.methodLink RX10 1 objectInit, .instanceMethod objectInit, .code objectInit ⟨#[0xb1]⟩ 1 none, .constant RX10 7 (165440), .arrayClass .long, .fieldLink RX10 8 "GradientDeskModel" "pieces" "[J", .arrayClass .int, .fieldLink RX10 14 "GradientDeskModel" "length" "[I", .arrayClass .boolean, .fieldLink RX10 18 "GradientDeskModel" "below" "[Z", .fieldLink RX10 22 "GradientDeskModel" "text" "[I", .fieldLink RX10 25 "GradientDeskModel" "place" "I", .fieldLink RX10 29 "GradientDeskModel" "sort" "[I", .fieldLink RX10 32 "GradientDeskModel" "first" "[I", .fieldLink RX10 35 "GradientDeskModel" "second" "[I", .fieldLink RX10 38 "GradientDeskModel" "degree" "[I", .fieldLink RX10 41 "GradientDeskModel" "sizeN" "[I", .fieldLink RX10 44 "GradientDeskModel" "sizeD" "[I", .fieldLink RX10 47 "GradientDeskModel" "names" "[I", .fieldLink RX10 50 "GradientDeskModel" "reached" "[Z", .fieldLink RX10 53 "GradientDeskModel" "derived" "[I", .fieldLink RX10 56 "GradientDeskModel" "values" "[I", .fieldLink RX10 59 "GradientDeskModel" "operators" "[I", .fieldLink RX10 62 "GradientDeskModel" "out" "[I", .fieldLink RX10 65 "GradientDeskModel" "draft" "[I", .fieldLink RX10 68 "GradientDeskModel" "digits" "[I", .fieldLink RX10 71 "GradientDeskModel" "waiting" "[I", .methodLink RX10 74 yX10_assign, .instanceMethod yX10_assign, .selects RX10 yX10_assign yX10_assign, .initialized RX10] : List Cond) ++ (u_ws RX10 TX10 29 ++ (wd_X10_assign ++ (wd_X10_asgL ++ ([])))))
theorem gw_G10_init : wd_G10_init.all goodWord = true := k_allc rfl (k_all (by decide +kernel) (k_all (gu_X10) (k_all (gw_X10_assign) (k_all (gw_X10_asgL) (rfl)))))
set_option maxHeartbeats 8000000 in
set_option maxRecDepth 100000 in
theorem c_G10_init (l : Launch) (dC : Nat → ClassId) (dI : Nat → Nat → Nat) (A : Nat → Prop) (ad : Nat → Nat) (cA : Nat → ClassId) (g : Nat → va_E) (hob : g 0 = .inr (13, [.int (nI 0), .null, .null, .null, .null, .int (nI 0), .int (nI 0), .null, .null, .null, .null, .null, .null, .int (nI 0), .int (nI 0), .null, .null, .null, .null, .null, .int (nI 0), .int (nI 0), .int (nI 0), .null, .null, .int (nI 0), .null, .null, .int (nI 0)])) : Met l yX10_init wd_G10_init ({ frames := 40, cells := 19, slots := 173406, locals := 800 }) (va_Pc [.ref (ad 0)] (PCR 1 tyr dC dI A ad cA g)) (va_Qv (fun (u : Nat → va_E) => match u with | g2 => (∀ k, 20 ≤ k → g2 k = g k) ∧ RIE ad cA g2 xz0 [] nm0 (fun _ => 0) 0 []) (fun (u : Nat → va_E) (t : State) => va_P (dC, dI) vwCl (wo ad (1 + 19) u) t.heap) A) (19) (173406) A := by
  refine Met.ofW (cc := cX10_init) (maxL := 2) (ret := none) (by decide) rfl ?_
  intro p e s m args below meth c s₁ B hml hv
  obtain ⟨rfl, hA, hz0, hP, hKK⟩ := hv
  obtain ⟨hKA, had, hAd, hE⟩ := id hKK
  have hx := B.exec
  have hb := B.bytes
  have hr := B.returns
  have hts := atoms_spec (ws := wd_G10_init) B.pre
  have hown : s.vm.findClass RX10 = some m.cls := findClass_of_methodNamed B.named
  have hlocks := B.notSynchronized
  have hK := hKA (1 + 0)
  have hD0 : ∀ (n : Nat) (g : Nat → va_E), va_D A (wo ad n g) := fun n g => wo_D (fun i j _ _ h => ad_inj had i j h) (fun i _ => hAd i) g
  have hD := hD0 (1 + 0)
  have hS : va_S A s.heap s.heap [] := va_S.rf
  have hP : va_P (dC, dI) vwCl (wo ad (1 + 0) g) s.heap := hP
  have hin : meth.name = "<init>" := (name_of_methodNamed B.named B.method).1
  have bk0 : ∀ w ∈ u_ws RX10 TX10 29, w ∈ wd_G10_init := fun _ h => List.mem_cons_of_mem _ (List.mem_append_right _ (List.mem_append_left _ h))
  have bk1 : ∀ w ∈ wd_X10_assign, w ∈ wd_G10_init := fun _ h => List.mem_cons_of_mem _ (List.mem_append_right _ (List.mem_append_right _ (List.mem_append_left _ h)))
  have bk2 : ∀ w ∈ wd_X10_asgL, w ∈ wd_G10_init := fun _ h => List.mem_cons_of_mem _ (List.mem_append_right _ (List.mem_append_right _ (List.mem_append_right _ (List.mem_append_left _ h))))
  have hl := lv_entry ([.ref (ad 0)]) (n := 2) (Nat.le_of_ble_eq_true rfl)
  rw [lg_entry_eq]
  generalize (lg_sl ([.ref (ad 0)]) ++ List.replicate (2 - (lg_sl ([.ref (ad 0)])).length) Slot.unset).toArray = ls at hl ⊢
  have hl : lv_has ls 2 [(0, .ref (ad 0))] := hl
  refine lv_aload_n hx hb dX10_init_0 rfl (lv_at hl 0 rfl) ?_
  refine W.objInit hx hb hown (hts (.methodLink RX10 1 objectInit) (List.mem_of_getElem? (i := 1) rfl)) (hts (.instanceMethod objectInit) (List.mem_of_getElem? (i := 2) rfl)) (hts _ (List.mem_of_getElem? (i := 3) rfl)) rfl (by rw [hml]; exact hl.1) rfl dX10_init_1 (Nat.le_of_ble_eq_true rfl) (Nat.le_of_ble_eq_true rfl) ?_
  refine W.eq (g2 := F0 m 4 ls []) rfl ?_
  refine lv_aload_n hx hb dX10_init_4 rfl (lv_at hl 0 rfl) ?_
  refine lv_ldc (v := 165440) hx hb hown (hts (.constant RX10 7 (165440)) (List.mem_of_getElem? (i := 4) rfl)) dX10_init_5 ?_
  refine lv_topi (fun x_1 e_2 => ?_)
  obtain rfl : x_1 = nI 165440 := e_2.trans (by decide)
  refine w_size (fun hle => ?_)
  have hz_3 := sz_eq had hz0 hP hS hle
  refine m_newa (atype := .long) (t := .long) (N' := 165440) (a0 := (165440, .inr (.inl (fun _ => 0)))) hx hb (hts (.arrayClass .long) (List.mem_of_getElem? (i := 5) rfl)) rfl rfl (hKA _) hP hS hz_3 (fun _ => rfl) (nI_pos (by decide)) (nI_clamp (by decide)) (by decide) (Nat.le_of_ble_eq_true rfl) (Nat.le_of_ble_eq_true rfl) dX10_init_7 (fun H g_4 f_5 fr_6 hP hS => ?_)
  refine W.cs (cells' := 1) (slots' := 165440) (by omega) (by omega) ?_
  have hP : va_P (dC, dI) vwCl (wo ad (1 + 1) g_4) H := hP
  have hK := hKA (1 + 1)
  have hD := hD0 (1 + 1)
  have f_7 : g_4 0 = .inr (13, [.int (nI 0), .null, .null, .null, .null, .int (nI 0), .int (nI 0), .null, .null, .null, .null, .null, .null, .int (nI 0), .int (nI 0), .null, .null, .null, .null, .null, .int (nI 0), .int (nI 0), .int (nI 0), .null, .null, .int (nI 0), .null, .null, .int (nI 0)]) := (fr_6 0 (by first | exact nt9 htt | exact nl9 rfl | omega)).trans hob
  refine m_putF (D := (dC, dI)) (v := .ref (ad (1 + 0))) (tv := .array .long) (C := RX10) (T := TX10) (N := 29) hx hb hts bk0 tyX10 tyX10_ok nmX10 hown hK hP hD hS 0 (by decide) f_7 rfl 1 (by decide) (hts (.fieldLink RX10 8 "GradientDeskModel" "pieces" "[J") (List.mem_of_getElem? (i := 6) rfl)) (fun _ h9 => h9) rfl hin rfl (by decide +kernel) rfl rfl (Nat.le_of_ble_eq_true rfl) dX10_init_9 (fun H locs g_8 f_9 fr_10 hP hS => ?_)
  have f_9 : g_8 0 = .inr (13, [.int (nI 0), .ref (ad (1 + 0)), .null, .null, .null, .int (nI 0), .int (nI 0), .null, .null, .null, .null, .null, .null, .int (nI 0), .int (nI 0), .null, .null, .null, .null, .null, .int (nI 0), .int (nI 0), .int (nI 0), .null, .null, .int (nI 0), .null, .null, .int (nI 0)]) := f_9
  refine lv_aload_n hx hb dX10_init_12 rfl (lv_at hl 0 rfl) ?_
  refine lv_sipush (v := nI 2068) hx hb dX10_init_13 (by decide +kernel) ?_
  refine w_size (fun hle => ?_)
  have hz_11 := sz_eq had hz0 hP hS hle
  refine m_newa (atype := .int) (t := .int) (N' := 2068) (a0 := (2068, .inl (fun _ => 0))) hx hb (hts (.arrayClass .int) (List.mem_of_getElem? (i := 7) rfl)) rfl rfl (hKA _) hP hS hz_11 (fun _ => rfl) (nI_pos (by decide)) (nI_clamp (by decide)) (by decide) (Nat.le_of_ble_eq_true rfl) (Nat.le_of_ble_eq_true rfl) dX10_init_16 (fun H g_12 f_13 fr_14 hP hS => ?_)
  refine W.cs (cells' := 2) (slots' := 167508) (by omega) (by omega) ?_
  have hP : va_P (dC, dI) vwCl (wo ad (1 + 2) g_12) H := hP
  have hK := hKA (1 + 2)
  have hD := hD0 (1 + 2)
  have f_15 : g_12 0 = .inr (13, [.int (nI 0), .ref (ad (1 + 0)), .null, .null, .null, .int (nI 0), .int (nI 0), .null, .null, .null, .null, .null, .null, .int (nI 0), .int (nI 0), .null, .null, .null, .null, .null, .int (nI 0), .int (nI 0), .int (nI 0), .null, .null, .int (nI 0), .null, .null, .int (nI 0)]) := (fr_14 0 (by first | exact nt9 htt | exact nl9 rfl | omega)).trans f_9
  refine m_putF (D := (dC, dI)) (v := .ref (ad (1 + 1))) (tv := .array .int) (C := RX10) (T := TX10) (N := 29) hx hb hts bk0 tyX10 tyX10_ok nmX10 hown hK hP hD hS 0 (by decide) f_15 rfl 2 (by decide) (hts (.fieldLink RX10 14 "GradientDeskModel" "length" "[I") (List.mem_of_getElem? (i := 8) rfl)) (fun _ h9 => h9) rfl hin rfl (by decide +kernel) rfl rfl (Nat.le_of_ble_eq_true rfl) dX10_init_18 (fun H locs g_16 f_17 fr_18 hP hS => ?_)
  have f_17 : g_16 0 = .inr (13, [.int (nI 0), .ref (ad (1 + 0)), .ref (ad (1 + 1)), .null, .null, .int (nI 0), .int (nI 0), .null, .null, .null, .null, .null, .null, .int (nI 0), .int (nI 0), .null, .null, .null, .null, .null, .int (nI 0), .int (nI 0), .int (nI 0), .null, .null, .int (nI 0), .null, .null, .int (nI 0)]) := f_17
  refine lv_aload_n hx hb dX10_init_21 rfl (lv_at hl 0 rfl) ?_
  refine lv_sipush (v := nI 2068) hx hb dX10_init_22 (by decide +kernel) ?_
  refine w_size (fun hle => ?_)
  have hz_19 := sz_eq had hz0 hP hS hle
  refine m_newa (atype := .boolean) (t := .boolean) (N' := 2068) (a0 := (2068, .inl (fun _ => 0))) hx hb (hts (.arrayClass .boolean) (List.mem_of_getElem? (i := 9) rfl)) rfl rfl (hKA _) hP hS hz_19 (fun _ => rfl) (nI_pos (by decide)) (nI_clamp (by decide)) (by decide) (Nat.le_of_ble_eq_true rfl) (Nat.le_of_ble_eq_true rfl) dX10_init_25 (fun H g_20 f_21 fr_22 hP hS => ?_)
  refine W.cs (cells' := 3) (slots' := 169576) (by omega) (by omega) ?_
  have hP : va_P (dC, dI) vwCl (wo ad (1 + 3) g_20) H := hP
  have hK := hKA (1 + 3)
  have hD := hD0 (1 + 3)
  have f_23 : g_20 0 = .inr (13, [.int (nI 0), .ref (ad (1 + 0)), .ref (ad (1 + 1)), .null, .null, .int (nI 0), .int (nI 0), .null, .null, .null, .null, .null, .null, .int (nI 0), .int (nI 0), .null, .null, .null, .null, .null, .int (nI 0), .int (nI 0), .int (nI 0), .null, .null, .int (nI 0), .null, .null, .int (nI 0)]) := (fr_22 0 (by first | exact nt9 htt | exact nl9 rfl | omega)).trans f_17
  refine m_putF (D := (dC, dI)) (v := .ref (ad (1 + 2))) (tv := .array .boolean) (C := RX10) (T := TX10) (N := 29) hx hb hts bk0 tyX10 tyX10_ok nmX10 hown hK hP hD hS 0 (by decide) f_23 rfl 3 (by decide) (hts (.fieldLink RX10 18 "GradientDeskModel" "below" "[Z") (List.mem_of_getElem? (i := 10) rfl)) (fun _ h9 => h9) rfl hin rfl (by decide +kernel) rfl rfl (Nat.le_of_ble_eq_true rfl) dX10_init_27 (fun H locs g_24 f_25 fr_26 hP hS => ?_)
  have f_25 : g_24 0 = .inr (13, [.int (nI 0), .ref (ad (1 + 0)), .ref (ad (1 + 1)), .ref (ad (1 + 2)), .null, .int (nI 0), .int (nI 0), .null, .null, .null, .null, .null, .null, .int (nI 0), .int (nI 0), .null, .null, .null, .null, .null, .int (nI 0), .int (nI 0), .int (nI 0), .null, .null, .int (nI 0), .null, .null, .int (nI 0)]) := f_25
  refine lv_aload_n hx hb dX10_init_30 rfl (lv_at hl 0 rfl) ?_
  refine lv_bipush (v := nI 64) hx hb dX10_init_31 (by decide +kernel) ?_
  refine w_size (fun hle => ?_)
  have hz_27 := sz_eq had hz0 hP hS hle
  refine m_newa (atype := .int) (t := .int) (N' := 64) (a0 := (64, .inl (fun _ => 0))) hx hb (hts (.arrayClass .int) (List.mem_of_getElem? (i := 7) rfl)) rfl rfl (hKA _) hP hS hz_27 (fun _ => rfl) (nI_pos (by decide)) (nI_clamp (by decide)) (by decide) (Nat.le_of_ble_eq_true rfl) (Nat.le_of_ble_eq_true rfl) dX10_init_33 (fun H g_28 f_29 fr_30 hP hS => ?_)
  refine W.cs (cells' := 4) (slots' := 169640) (by omega) (by omega) ?_
  have hP : va_P (dC, dI) vwCl (wo ad (1 + 4) g_28) H := hP
  have hK := hKA (1 + 4)
  have hD := hD0 (1 + 4)
  have f_31 : g_28 0 = .inr (13, [.int (nI 0), .ref (ad (1 + 0)), .ref (ad (1 + 1)), .ref (ad (1 + 2)), .null, .int (nI 0), .int (nI 0), .null, .null, .null, .null, .null, .null, .int (nI 0), .int (nI 0), .null, .null, .null, .null, .null, .int (nI 0), .int (nI 0), .int (nI 0), .null, .null, .int (nI 0), .null, .null, .int (nI 0)]) := (fr_30 0 (by first | exact nt9 htt | exact nl9 rfl | omega)).trans f_25
  refine m_putF (D := (dC, dI)) (v := .ref (ad (1 + 3))) (tv := .array .int) (C := RX10) (T := TX10) (N := 29) hx hb hts bk0 tyX10 tyX10_ok nmX10 hown hK hP hD hS 0 (by decide) f_31 rfl 4 (by decide) (hts (.fieldLink RX10 22 "GradientDeskModel" "text" "[I") (List.mem_of_getElem? (i := 11) rfl)) (fun _ h9 => h9) rfl hin rfl (by decide +kernel) rfl rfl (Nat.le_of_ble_eq_true rfl) dX10_init_35 (fun H locs g_32 f_33 fr_34 hP hS => ?_)
  have f_33 : g_32 0 = .inr (13, [.int (nI 0), .ref (ad (1 + 0)), .ref (ad (1 + 1)), .ref (ad (1 + 2)), .ref (ad (1 + 3)), .int (nI 0), .int (nI 0), .null, .null, .null, .null, .null, .null, .int (nI 0), .int (nI 0), .null, .null, .null, .null, .null, .int (nI 0), .int (nI 0), .int (nI 0), .null, .null, .int (nI 0), .null, .null, .int (nI 0)]) := f_33
  refine lv_aload_n hx hb dX10_init_38 rfl (lv_at hl 0 rfl) ?_
  refine lv_iconst (v := -1) hx hb dX10_init_39 (by decide +kernel) ?_
  refine m_put (D := (dC, dI)) (v := .int (-1)) (tv := .int) (C := RX10) (T := TX10) (N := 29) hx hb hts bk0 tyX10 tyX10_ok nmX10 hown hK hP hD hS 0 (by decide) f_33 rfl 6 (by decide) (hts (.fieldLink RX10 25 "GradientDeskModel" "place" "I") (List.mem_of_getElem? (i := 12) rfl)) (fun _ h9 => h9) rfl (by decide +kernel) rfl rfl (Nat.le_of_ble_eq_true rfl) dX10_init_40 (fun H locs g_35 f_36 fr_37 hP hS => ?_)
  have f_36 : g_35 0 = .inr (13, [.int (nI 0), .ref (ad (1 + 0)), .ref (ad (1 + 1)), .ref (ad (1 + 2)), .ref (ad (1 + 3)), .int (nI 0), .int (-1), .null, .null, .null, .null, .null, .null, .int (nI 0), .int (nI 0), .null, .null, .null, .null, .null, .int (nI 0), .int (nI 0), .int (nI 0), .null, .null, .int (nI 0), .null, .null, .int (nI 0)]) := f_36
  refine lv_aload_n hx hb dX10_init_43 rfl (lv_at hl 0 rfl) ?_
  refine lv_sipush (v := nI 201) hx hb dX10_init_44 (by decide +kernel) ?_
  refine w_size (fun hle => ?_)
  have hz_38 := sz_eq had hz0 hP hS hle
  refine m_newa (atype := .int) (t := .int) (N' := 201) (a0 := (201, .inl (fun _ => 0))) hx hb (hts (.arrayClass .int) (List.mem_of_getElem? (i := 7) rfl)) rfl rfl (hKA _) hP hS hz_38 (fun _ => rfl) (nI_pos (by decide)) (nI_clamp (by decide)) (by decide) (Nat.le_of_ble_eq_true rfl) (Nat.le_of_ble_eq_true rfl) dX10_init_47 (fun H g_39 f_40 fr_41 hP hS => ?_)
  refine W.cs (cells' := 5) (slots' := 169841) (by omega) (by omega) ?_
  have hP : va_P (dC, dI) vwCl (wo ad (1 + 5) g_39) H := hP
  have hK := hKA (1 + 5)
  have hD := hD0 (1 + 5)
  have f_42 : g_39 0 = .inr (13, [.int (nI 0), .ref (ad (1 + 0)), .ref (ad (1 + 1)), .ref (ad (1 + 2)), .ref (ad (1 + 3)), .int (nI 0), .int (-1), .null, .null, .null, .null, .null, .null, .int (nI 0), .int (nI 0), .null, .null, .null, .null, .null, .int (nI 0), .int (nI 0), .int (nI 0), .null, .null, .int (nI 0), .null, .null, .int (nI 0)]) := (fr_41 0 (by first | exact nt9 htt | exact nl9 rfl | omega)).trans f_36
  refine m_putF (D := (dC, dI)) (v := .ref (ad (1 + 4))) (tv := .array .int) (C := RX10) (T := TX10) (N := 29) hx hb hts bk0 tyX10 tyX10_ok nmX10 hown hK hP hD hS 0 (by decide) f_42 rfl 7 (by decide) (hts (.fieldLink RX10 29 "GradientDeskModel" "sort" "[I") (List.mem_of_getElem? (i := 13) rfl)) (fun _ h9 => h9) rfl hin rfl (by decide +kernel) rfl rfl (Nat.le_of_ble_eq_true rfl) dX10_init_49 (fun H locs g_43 f_44 fr_45 hP hS => ?_)
  have f_44 : g_43 0 = .inr (13, [.int (nI 0), .ref (ad (1 + 0)), .ref (ad (1 + 1)), .ref (ad (1 + 2)), .ref (ad (1 + 3)), .int (nI 0), .int (-1), .ref (ad (1 + 4)), .null, .null, .null, .null, .null, .int (nI 0), .int (nI 0), .null, .null, .null, .null, .null, .int (nI 0), .int (nI 0), .int (nI 0), .null, .null, .int (nI 0), .null, .null, .int (nI 0)]) := f_44
  refine lv_aload_n hx hb dX10_init_52 rfl (lv_at hl 0 rfl) ?_
  refine lv_sipush (v := nI 201) hx hb dX10_init_53 (by decide +kernel) ?_
  refine w_size (fun hle => ?_)
  have hz_46 := sz_eq had hz0 hP hS hle
  refine m_newa (atype := .int) (t := .int) (N' := 201) (a0 := (201, .inl (fun _ => 0))) hx hb (hts (.arrayClass .int) (List.mem_of_getElem? (i := 7) rfl)) rfl rfl (hKA _) hP hS hz_46 (fun _ => rfl) (nI_pos (by decide)) (nI_clamp (by decide)) (by decide) (Nat.le_of_ble_eq_true rfl) (Nat.le_of_ble_eq_true rfl) dX10_init_56 (fun H g_47 f_48 fr_49 hP hS => ?_)
  refine W.cs (cells' := 6) (slots' := 170042) (by omega) (by omega) ?_
  have hP : va_P (dC, dI) vwCl (wo ad (1 + 6) g_47) H := hP
  have hK := hKA (1 + 6)
  have hD := hD0 (1 + 6)
  have f_50 : g_47 0 = .inr (13, [.int (nI 0), .ref (ad (1 + 0)), .ref (ad (1 + 1)), .ref (ad (1 + 2)), .ref (ad (1 + 3)), .int (nI 0), .int (-1), .ref (ad (1 + 4)), .null, .null, .null, .null, .null, .int (nI 0), .int (nI 0), .null, .null, .null, .null, .null, .int (nI 0), .int (nI 0), .int (nI 0), .null, .null, .int (nI 0), .null, .null, .int (nI 0)]) := (fr_49 0 (by first | exact nt9 htt | exact nl9 rfl | omega)).trans f_44
  refine m_putF (D := (dC, dI)) (v := .ref (ad (1 + 5))) (tv := .array .int) (C := RX10) (T := TX10) (N := 29) hx hb hts bk0 tyX10 tyX10_ok nmX10 hown hK hP hD hS 0 (by decide) f_50 rfl 8 (by decide) (hts (.fieldLink RX10 32 "GradientDeskModel" "first" "[I") (List.mem_of_getElem? (i := 14) rfl)) (fun _ h9 => h9) rfl hin rfl (by decide +kernel) rfl rfl (Nat.le_of_ble_eq_true rfl) dX10_init_58 (fun H locs g_51 f_52 fr_53 hP hS => ?_)
  have f_52 : g_51 0 = .inr (13, [.int (nI 0), .ref (ad (1 + 0)), .ref (ad (1 + 1)), .ref (ad (1 + 2)), .ref (ad (1 + 3)), .int (nI 0), .int (-1), .ref (ad (1 + 4)), .ref (ad (1 + 5)), .null, .null, .null, .null, .int (nI 0), .int (nI 0), .null, .null, .null, .null, .null, .int (nI 0), .int (nI 0), .int (nI 0), .null, .null, .int (nI 0), .null, .null, .int (nI 0)]) := f_52
  refine lv_aload_n hx hb dX10_init_61 rfl (lv_at hl 0 rfl) ?_
  refine lv_sipush (v := nI 201) hx hb dX10_init_62 (by decide +kernel) ?_
  refine w_size (fun hle => ?_)
  have hz_54 := sz_eq had hz0 hP hS hle
  refine m_newa (atype := .int) (t := .int) (N' := 201) (a0 := (201, .inl (fun _ => 0))) hx hb (hts (.arrayClass .int) (List.mem_of_getElem? (i := 7) rfl)) rfl rfl (hKA _) hP hS hz_54 (fun _ => rfl) (nI_pos (by decide)) (nI_clamp (by decide)) (by decide) (Nat.le_of_ble_eq_true rfl) (Nat.le_of_ble_eq_true rfl) dX10_init_65 (fun H g_55 f_56 fr_57 hP hS => ?_)
  refine W.cs (cells' := 7) (slots' := 170243) (by omega) (by omega) ?_
  have hP : va_P (dC, dI) vwCl (wo ad (1 + 7) g_55) H := hP
  have hK := hKA (1 + 7)
  have hD := hD0 (1 + 7)
  have f_58 : g_55 0 = .inr (13, [.int (nI 0), .ref (ad (1 + 0)), .ref (ad (1 + 1)), .ref (ad (1 + 2)), .ref (ad (1 + 3)), .int (nI 0), .int (-1), .ref (ad (1 + 4)), .ref (ad (1 + 5)), .null, .null, .null, .null, .int (nI 0), .int (nI 0), .null, .null, .null, .null, .null, .int (nI 0), .int (nI 0), .int (nI 0), .null, .null, .int (nI 0), .null, .null, .int (nI 0)]) := (fr_57 0 (by first | exact nt9 htt | exact nl9 rfl | omega)).trans f_52
  refine m_putF (D := (dC, dI)) (v := .ref (ad (1 + 6))) (tv := .array .int) (C := RX10) (T := TX10) (N := 29) hx hb hts bk0 tyX10 tyX10_ok nmX10 hown hK hP hD hS 0 (by decide) f_58 rfl 9 (by decide) (hts (.fieldLink RX10 35 "GradientDeskModel" "second" "[I") (List.mem_of_getElem? (i := 15) rfl)) (fun _ h9 => h9) rfl hin rfl (by decide +kernel) rfl rfl (Nat.le_of_ble_eq_true rfl) dX10_init_67 (fun H locs g_59 f_60 fr_61 hP hS => ?_)
  have f_60 : g_59 0 = .inr (13, [.int (nI 0), .ref (ad (1 + 0)), .ref (ad (1 + 1)), .ref (ad (1 + 2)), .ref (ad (1 + 3)), .int (nI 0), .int (-1), .ref (ad (1 + 4)), .ref (ad (1 + 5)), .ref (ad (1 + 6)), .null, .null, .null, .int (nI 0), .int (nI 0), .null, .null, .null, .null, .null, .int (nI 0), .int (nI 0), .int (nI 0), .null, .null, .int (nI 0), .null, .null, .int (nI 0)]) := f_60
  refine lv_aload_n hx hb dX10_init_70 rfl (lv_at hl 0 rfl) ?_
  refine lv_sipush (v := nI 201) hx hb dX10_init_71 (by decide +kernel) ?_
  refine w_size (fun hle => ?_)
  have hz_62 := sz_eq had hz0 hP hS hle
  refine m_newa (atype := .int) (t := .int) (N' := 201) (a0 := (201, .inl (fun _ => 0))) hx hb (hts (.arrayClass .int) (List.mem_of_getElem? (i := 7) rfl)) rfl rfl (hKA _) hP hS hz_62 (fun _ => rfl) (nI_pos (by decide)) (nI_clamp (by decide)) (by decide) (Nat.le_of_ble_eq_true rfl) (Nat.le_of_ble_eq_true rfl) dX10_init_74 (fun H g_63 f_64 fr_65 hP hS => ?_)
  refine W.cs (cells' := 8) (slots' := 170444) (by omega) (by omega) ?_
  have hP : va_P (dC, dI) vwCl (wo ad (1 + 8) g_63) H := hP
  have hK := hKA (1 + 8)
  have hD := hD0 (1 + 8)
  have f_66 : g_63 0 = .inr (13, [.int (nI 0), .ref (ad (1 + 0)), .ref (ad (1 + 1)), .ref (ad (1 + 2)), .ref (ad (1 + 3)), .int (nI 0), .int (-1), .ref (ad (1 + 4)), .ref (ad (1 + 5)), .ref (ad (1 + 6)), .null, .null, .null, .int (nI 0), .int (nI 0), .null, .null, .null, .null, .null, .int (nI 0), .int (nI 0), .int (nI 0), .null, .null, .int (nI 0), .null, .null, .int (nI 0)]) := (fr_65 0 (by first | exact nt9 htt | exact nl9 rfl | omega)).trans f_60
  refine m_putF (D := (dC, dI)) (v := .ref (ad (1 + 7))) (tv := .array .int) (C := RX10) (T := TX10) (N := 29) hx hb hts bk0 tyX10 tyX10_ok nmX10 hown hK hP hD hS 0 (by decide) f_66 rfl 10 (by decide) (hts (.fieldLink RX10 38 "GradientDeskModel" "degree" "[I") (List.mem_of_getElem? (i := 16) rfl)) (fun _ h9 => h9) rfl hin rfl (by decide +kernel) rfl rfl (Nat.le_of_ble_eq_true rfl) dX10_init_76 (fun H locs g_67 f_68 fr_69 hP hS => ?_)
  have f_68 : g_67 0 = .inr (13, [.int (nI 0), .ref (ad (1 + 0)), .ref (ad (1 + 1)), .ref (ad (1 + 2)), .ref (ad (1 + 3)), .int (nI 0), .int (-1), .ref (ad (1 + 4)), .ref (ad (1 + 5)), .ref (ad (1 + 6)), .ref (ad (1 + 7)), .null, .null, .int (nI 0), .int (nI 0), .null, .null, .null, .null, .null, .int (nI 0), .int (nI 0), .int (nI 0), .null, .null, .int (nI 0), .null, .null, .int (nI 0)]) := f_68
  refine lv_aload_n hx hb dX10_init_79 rfl (lv_at hl 0 rfl) ?_
  refine lv_sipush (v := nI 201) hx hb dX10_init_80 (by decide +kernel) ?_
  refine w_size (fun hle => ?_)
  have hz_70 := sz_eq had hz0 hP hS hle
  refine m_newa (atype := .int) (t := .int) (N' := 201) (a0 := (201, .inl (fun _ => 0))) hx hb (hts (.arrayClass .int) (List.mem_of_getElem? (i := 7) rfl)) rfl rfl (hKA _) hP hS hz_70 (fun _ => rfl) (nI_pos (by decide)) (nI_clamp (by decide)) (by decide) (Nat.le_of_ble_eq_true rfl) (Nat.le_of_ble_eq_true rfl) dX10_init_83 (fun H g_71 f_72 fr_73 hP hS => ?_)
  refine W.cs (cells' := 9) (slots' := 170645) (by omega) (by omega) ?_
  have hP : va_P (dC, dI) vwCl (wo ad (1 + 9) g_71) H := hP
  have hK := hKA (1 + 9)
  have hD := hD0 (1 + 9)
  have f_74 : g_71 0 = .inr (13, [.int (nI 0), .ref (ad (1 + 0)), .ref (ad (1 + 1)), .ref (ad (1 + 2)), .ref (ad (1 + 3)), .int (nI 0), .int (-1), .ref (ad (1 + 4)), .ref (ad (1 + 5)), .ref (ad (1 + 6)), .ref (ad (1 + 7)), .null, .null, .int (nI 0), .int (nI 0), .null, .null, .null, .null, .null, .int (nI 0), .int (nI 0), .int (nI 0), .null, .null, .int (nI 0), .null, .null, .int (nI 0)]) := (fr_73 0 (by first | exact nt9 htt | exact nl9 rfl | omega)).trans f_68
  refine m_putF (D := (dC, dI)) (v := .ref (ad (1 + 8))) (tv := .array .int) (C := RX10) (T := TX10) (N := 29) hx hb hts bk0 tyX10 tyX10_ok nmX10 hown hK hP hD hS 0 (by decide) f_74 rfl 11 (by decide) (hts (.fieldLink RX10 41 "GradientDeskModel" "sizeN" "[I") (List.mem_of_getElem? (i := 17) rfl)) (fun _ h9 => h9) rfl hin rfl (by decide +kernel) rfl rfl (Nat.le_of_ble_eq_true rfl) dX10_init_85 (fun H locs g_75 f_76 fr_77 hP hS => ?_)
  have f_76 : g_75 0 = .inr (13, [.int (nI 0), .ref (ad (1 + 0)), .ref (ad (1 + 1)), .ref (ad (1 + 2)), .ref (ad (1 + 3)), .int (nI 0), .int (-1), .ref (ad (1 + 4)), .ref (ad (1 + 5)), .ref (ad (1 + 6)), .ref (ad (1 + 7)), .ref (ad (1 + 8)), .null, .int (nI 0), .int (nI 0), .null, .null, .null, .null, .null, .int (nI 0), .int (nI 0), .int (nI 0), .null, .null, .int (nI 0), .null, .null, .int (nI 0)]) := f_76
  refine lv_aload_n hx hb dX10_init_88 rfl (lv_at hl 0 rfl) ?_
  refine lv_sipush (v := nI 201) hx hb dX10_init_89 (by decide +kernel) ?_
  refine w_size (fun hle => ?_)
  have hz_78 := sz_eq had hz0 hP hS hle
  refine m_newa (atype := .int) (t := .int) (N' := 201) (a0 := (201, .inl (fun _ => 0))) hx hb (hts (.arrayClass .int) (List.mem_of_getElem? (i := 7) rfl)) rfl rfl (hKA _) hP hS hz_78 (fun _ => rfl) (nI_pos (by decide)) (nI_clamp (by decide)) (by decide) (Nat.le_of_ble_eq_true rfl) (Nat.le_of_ble_eq_true rfl) dX10_init_92 (fun H g_79 f_80 fr_81 hP hS => ?_)
  refine W.cs (cells' := 10) (slots' := 170846) (by omega) (by omega) ?_
  have hP : va_P (dC, dI) vwCl (wo ad (1 + 10) g_79) H := hP
  have hK := hKA (1 + 10)
  have hD := hD0 (1 + 10)
  have f_82 : g_79 0 = .inr (13, [.int (nI 0), .ref (ad (1 + 0)), .ref (ad (1 + 1)), .ref (ad (1 + 2)), .ref (ad (1 + 3)), .int (nI 0), .int (-1), .ref (ad (1 + 4)), .ref (ad (1 + 5)), .ref (ad (1 + 6)), .ref (ad (1 + 7)), .ref (ad (1 + 8)), .null, .int (nI 0), .int (nI 0), .null, .null, .null, .null, .null, .int (nI 0), .int (nI 0), .int (nI 0), .null, .null, .int (nI 0), .null, .null, .int (nI 0)]) := (fr_81 0 (by first | exact nt9 htt | exact nl9 rfl | omega)).trans f_76
  refine m_putF (D := (dC, dI)) (v := .ref (ad (1 + 9))) (tv := .array .int) (C := RX10) (T := TX10) (N := 29) hx hb hts bk0 tyX10 tyX10_ok nmX10 hown hK hP hD hS 0 (by decide) f_82 rfl 12 (by decide) (hts (.fieldLink RX10 44 "GradientDeskModel" "sizeD" "[I") (List.mem_of_getElem? (i := 18) rfl)) (fun _ h9 => h9) rfl hin rfl (by decide +kernel) rfl rfl (Nat.le_of_ble_eq_true rfl) dX10_init_94 (fun H locs g_83 f_84 fr_85 hP hS => ?_)
  have f_84 : g_83 0 = .inr (13, [.int (nI 0), .ref (ad (1 + 0)), .ref (ad (1 + 1)), .ref (ad (1 + 2)), .ref (ad (1 + 3)), .int (nI 0), .int (-1), .ref (ad (1 + 4)), .ref (ad (1 + 5)), .ref (ad (1 + 6)), .ref (ad (1 + 7)), .ref (ad (1 + 8)), .ref (ad (1 + 9)), .int (nI 0), .int (nI 0), .null, .null, .null, .null, .null, .int (nI 0), .int (nI 0), .int (nI 0), .null, .null, .int (nI 0), .null, .null, .int (nI 0)]) := f_84
  refine lv_aload_n hx hb dX10_init_97 rfl (lv_at hl 0 rfl) ?_
  refine lv_bipush (v := nI 8) hx hb dX10_init_98 (by decide +kernel) ?_
  refine w_size (fun hle => ?_)
  have hz_86 := sz_eq had hz0 hP hS hle
  refine m_newa (atype := .int) (t := .int) (N' := 8) (a0 := (8, .inl (fun _ => 0))) hx hb (hts (.arrayClass .int) (List.mem_of_getElem? (i := 7) rfl)) rfl rfl (hKA _) hP hS hz_86 (fun _ => rfl) (nI_pos (by decide)) (nI_clamp (by decide)) (by decide) (Nat.le_of_ble_eq_true rfl) (Nat.le_of_ble_eq_true rfl) dX10_init_100 (fun H g_87 f_88 fr_89 hP hS => ?_)
  refine W.cs (cells' := 11) (slots' := 170854) (by omega) (by omega) ?_
  have hP : va_P (dC, dI) vwCl (wo ad (1 + 11) g_87) H := hP
  have hK := hKA (1 + 11)
  have hD := hD0 (1 + 11)
  have f_90 : g_87 0 = .inr (13, [.int (nI 0), .ref (ad (1 + 0)), .ref (ad (1 + 1)), .ref (ad (1 + 2)), .ref (ad (1 + 3)), .int (nI 0), .int (-1), .ref (ad (1 + 4)), .ref (ad (1 + 5)), .ref (ad (1 + 6)), .ref (ad (1 + 7)), .ref (ad (1 + 8)), .ref (ad (1 + 9)), .int (nI 0), .int (nI 0), .null, .null, .null, .null, .null, .int (nI 0), .int (nI 0), .int (nI 0), .null, .null, .int (nI 0), .null, .null, .int (nI 0)]) := (fr_89 0 (by first | exact nt9 htt | exact nl9 rfl | omega)).trans f_84
  refine m_putF (D := (dC, dI)) (v := .ref (ad (1 + 10))) (tv := .array .int) (C := RX10) (T := TX10) (N := 29) hx hb hts bk0 tyX10 tyX10_ok nmX10 hown hK hP hD hS 0 (by decide) f_90 rfl 15 (by decide) (hts (.fieldLink RX10 47 "GradientDeskModel" "names" "[I") (List.mem_of_getElem? (i := 19) rfl)) (fun _ h9 => h9) rfl hin rfl (by decide +kernel) rfl rfl (Nat.le_of_ble_eq_true rfl) dX10_init_102 (fun H locs g_91 f_92 fr_93 hP hS => ?_)
  have f_92 : g_91 0 = .inr (13, [.int (nI 0), .ref (ad (1 + 0)), .ref (ad (1 + 1)), .ref (ad (1 + 2)), .ref (ad (1 + 3)), .int (nI 0), .int (-1), .ref (ad (1 + 4)), .ref (ad (1 + 5)), .ref (ad (1 + 6)), .ref (ad (1 + 7)), .ref (ad (1 + 8)), .ref (ad (1 + 9)), .int (nI 0), .int (nI 0), .ref (ad (1 + 10)), .null, .null, .null, .null, .int (nI 0), .int (nI 0), .int (nI 0), .null, .null, .int (nI 0), .null, .null, .int (nI 0)]) := f_92
  refine lv_aload_n hx hb dX10_init_105 rfl (lv_at hl 0 rfl) ?_
  refine lv_sipush (v := nI 200) hx hb dX10_init_106 (by decide +kernel) ?_
  refine w_size (fun hle => ?_)
  have hz_94 := sz_eq had hz0 hP hS hle
  refine m_newa (atype := .boolean) (t := .boolean) (N' := 200) (a0 := (200, .inl (fun _ => 0))) hx hb (hts (.arrayClass .boolean) (List.mem_of_getElem? (i := 9) rfl)) rfl rfl (hKA _) hP hS hz_94 (fun _ => rfl) (nI_pos (by decide)) (nI_clamp (by decide)) (by decide) (Nat.le_of_ble_eq_true rfl) (Nat.le_of_ble_eq_true rfl) dX10_init_109 (fun H g_95 f_96 fr_97 hP hS => ?_)
  refine W.cs (cells' := 12) (slots' := 171054) (by omega) (by omega) ?_
  have hP : va_P (dC, dI) vwCl (wo ad (1 + 12) g_95) H := hP
  have hK := hKA (1 + 12)
  have hD := hD0 (1 + 12)
  have f_98 : g_95 0 = .inr (13, [.int (nI 0), .ref (ad (1 + 0)), .ref (ad (1 + 1)), .ref (ad (1 + 2)), .ref (ad (1 + 3)), .int (nI 0), .int (-1), .ref (ad (1 + 4)), .ref (ad (1 + 5)), .ref (ad (1 + 6)), .ref (ad (1 + 7)), .ref (ad (1 + 8)), .ref (ad (1 + 9)), .int (nI 0), .int (nI 0), .ref (ad (1 + 10)), .null, .null, .null, .null, .int (nI 0), .int (nI 0), .int (nI 0), .null, .null, .int (nI 0), .null, .null, .int (nI 0)]) := (fr_97 0 (by first | exact nt9 htt | exact nl9 rfl | omega)).trans f_92
  refine m_putF (D := (dC, dI)) (v := .ref (ad (1 + 11))) (tv := .array .boolean) (C := RX10) (T := TX10) (N := 29) hx hb hts bk0 tyX10 tyX10_ok nmX10 hown hK hP hD hS 0 (by decide) f_98 rfl 16 (by decide) (hts (.fieldLink RX10 50 "GradientDeskModel" "reached" "[Z") (List.mem_of_getElem? (i := 20) rfl)) (fun _ h9 => h9) rfl hin rfl (by decide +kernel) rfl rfl (Nat.le_of_ble_eq_true rfl) dX10_init_111 (fun H locs g_99 f_100 fr_101 hP hS => ?_)
  have f_100 : g_99 0 = .inr (13, [.int (nI 0), .ref (ad (1 + 0)), .ref (ad (1 + 1)), .ref (ad (1 + 2)), .ref (ad (1 + 3)), .int (nI 0), .int (-1), .ref (ad (1 + 4)), .ref (ad (1 + 5)), .ref (ad (1 + 6)), .ref (ad (1 + 7)), .ref (ad (1 + 8)), .ref (ad (1 + 9)), .int (nI 0), .int (nI 0), .ref (ad (1 + 10)), .ref (ad (1 + 11)), .null, .null, .null, .int (nI 0), .int (nI 0), .int (nI 0), .null, .null, .int (nI 0), .null, .null, .int (nI 0)]) := f_100
  refine lv_aload_n hx hb dX10_init_114 rfl (lv_at hl 0 rfl) ?_
  refine lv_sipush (v := nI 200) hx hb dX10_init_115 (by decide +kernel) ?_
  refine w_size (fun hle => ?_)
  have hz_102 := sz_eq had hz0 hP hS hle
  refine m_newa (atype := .int) (t := .int) (N' := 200) (a0 := (200, .inl (fun _ => 0))) hx hb (hts (.arrayClass .int) (List.mem_of_getElem? (i := 7) rfl)) rfl rfl (hKA _) hP hS hz_102 (fun _ => rfl) (nI_pos (by decide)) (nI_clamp (by decide)) (by decide) (Nat.le_of_ble_eq_true rfl) (Nat.le_of_ble_eq_true rfl) dX10_init_118 (fun H g_103 f_104 fr_105 hP hS => ?_)
  refine W.cs (cells' := 13) (slots' := 171254) (by omega) (by omega) ?_
  have hP : va_P (dC, dI) vwCl (wo ad (1 + 13) g_103) H := hP
  have hK := hKA (1 + 13)
  have hD := hD0 (1 + 13)
  have f_106 : g_103 0 = .inr (13, [.int (nI 0), .ref (ad (1 + 0)), .ref (ad (1 + 1)), .ref (ad (1 + 2)), .ref (ad (1 + 3)), .int (nI 0), .int (-1), .ref (ad (1 + 4)), .ref (ad (1 + 5)), .ref (ad (1 + 6)), .ref (ad (1 + 7)), .ref (ad (1 + 8)), .ref (ad (1 + 9)), .int (nI 0), .int (nI 0), .ref (ad (1 + 10)), .ref (ad (1 + 11)), .null, .null, .null, .int (nI 0), .int (nI 0), .int (nI 0), .null, .null, .int (nI 0), .null, .null, .int (nI 0)]) := (fr_105 0 (by first | exact nt9 htt | exact nl9 rfl | omega)).trans f_100
  refine m_putF (D := (dC, dI)) (v := .ref (ad (1 + 12))) (tv := .array .int) (C := RX10) (T := TX10) (N := 29) hx hb hts bk0 tyX10 tyX10_ok nmX10 hown hK hP hD hS 0 (by decide) f_106 rfl 17 (by decide) (hts (.fieldLink RX10 53 "GradientDeskModel" "derived" "[I") (List.mem_of_getElem? (i := 21) rfl)) (fun _ h9 => h9) rfl hin rfl (by decide +kernel) rfl rfl (Nat.le_of_ble_eq_true rfl) dX10_init_120 (fun H locs g_107 f_108 fr_109 hP hS => ?_)
  have f_108 : g_107 0 = .inr (13, [.int (nI 0), .ref (ad (1 + 0)), .ref (ad (1 + 1)), .ref (ad (1 + 2)), .ref (ad (1 + 3)), .int (nI 0), .int (-1), .ref (ad (1 + 4)), .ref (ad (1 + 5)), .ref (ad (1 + 6)), .ref (ad (1 + 7)), .ref (ad (1 + 8)), .ref (ad (1 + 9)), .int (nI 0), .int (nI 0), .ref (ad (1 + 10)), .ref (ad (1 + 11)), .ref (ad (1 + 12)), .null, .null, .int (nI 0), .int (nI 0), .int (nI 0), .null, .null, .int (nI 0), .null, .null, .int (nI 0)]) := f_108
  refine lv_aload_n hx hb dX10_init_123 rfl (lv_at hl 0 rfl) ?_
  refine lv_bipush (v := nI 80) hx hb dX10_init_124 (by decide +kernel) ?_
  refine w_size (fun hle => ?_)
  have hz_110 := sz_eq had hz0 hP hS hle
  refine m_newa (atype := .int) (t := .int) (N' := 80) (a0 := (80, .inl (fun _ => 0))) hx hb (hts (.arrayClass .int) (List.mem_of_getElem? (i := 7) rfl)) rfl rfl (hKA _) hP hS hz_110 (fun _ => rfl) (nI_pos (by decide)) (nI_clamp (by decide)) (by decide) (Nat.le_of_ble_eq_true rfl) (Nat.le_of_ble_eq_true rfl) dX10_init_126 (fun H g_111 f_112 fr_113 hP hS => ?_)
  refine W.cs (cells' := 14) (slots' := 171334) (by omega) (by omega) ?_
  have hP : va_P (dC, dI) vwCl (wo ad (1 + 14) g_111) H := hP
  have hK := hKA (1 + 14)
  have hD := hD0 (1 + 14)
  have f_114 : g_111 0 = .inr (13, [.int (nI 0), .ref (ad (1 + 0)), .ref (ad (1 + 1)), .ref (ad (1 + 2)), .ref (ad (1 + 3)), .int (nI 0), .int (-1), .ref (ad (1 + 4)), .ref (ad (1 + 5)), .ref (ad (1 + 6)), .ref (ad (1 + 7)), .ref (ad (1 + 8)), .ref (ad (1 + 9)), .int (nI 0), .int (nI 0), .ref (ad (1 + 10)), .ref (ad (1 + 11)), .ref (ad (1 + 12)), .null, .null, .int (nI 0), .int (nI 0), .int (nI 0), .null, .null, .int (nI 0), .null, .null, .int (nI 0)]) := (fr_113 0 (by first | exact nt9 htt | exact nl9 rfl | omega)).trans f_108
  refine m_putF (D := (dC, dI)) (v := .ref (ad (1 + 13))) (tv := .array .int) (C := RX10) (T := TX10) (N := 29) hx hb hts bk0 tyX10 tyX10_ok nmX10 hown hK hP hD hS 0 (by decide) f_114 rfl 18 (by decide) (hts (.fieldLink RX10 56 "GradientDeskModel" "values" "[I") (List.mem_of_getElem? (i := 22) rfl)) (fun _ h9 => h9) rfl hin rfl (by decide +kernel) rfl rfl (Nat.le_of_ble_eq_true rfl) dX10_init_128 (fun H locs g_115 f_116 fr_117 hP hS => ?_)
  have f_116 : g_115 0 = .inr (13, [.int (nI 0), .ref (ad (1 + 0)), .ref (ad (1 + 1)), .ref (ad (1 + 2)), .ref (ad (1 + 3)), .int (nI 0), .int (-1), .ref (ad (1 + 4)), .ref (ad (1 + 5)), .ref (ad (1 + 6)), .ref (ad (1 + 7)), .ref (ad (1 + 8)), .ref (ad (1 + 9)), .int (nI 0), .int (nI 0), .ref (ad (1 + 10)), .ref (ad (1 + 11)), .ref (ad (1 + 12)), .ref (ad (1 + 13)), .null, .int (nI 0), .int (nI 0), .int (nI 0), .null, .null, .int (nI 0), .null, .null, .int (nI 0)]) := f_116
  refine lv_aload_n hx hb dX10_init_131 rfl (lv_at hl 0 rfl) ?_
  refine lv_sipush (v := nI 160) hx hb dX10_init_132 (by decide +kernel) ?_
  refine w_size (fun hle => ?_)
  have hz_118 := sz_eq had hz0 hP hS hle
  refine m_newa (atype := .int) (t := .int) (N' := 160) (a0 := (160, .inl (fun _ => 0))) hx hb (hts (.arrayClass .int) (List.mem_of_getElem? (i := 7) rfl)) rfl rfl (hKA _) hP hS hz_118 (fun _ => rfl) (nI_pos (by decide)) (nI_clamp (by decide)) (by decide) (Nat.le_of_ble_eq_true rfl) (Nat.le_of_ble_eq_true rfl) dX10_init_135 (fun H g_119 f_120 fr_121 hP hS => ?_)
  refine W.cs (cells' := 15) (slots' := 171494) (by omega) (by omega) ?_
  have hP : va_P (dC, dI) vwCl (wo ad (1 + 15) g_119) H := hP
  have hK := hKA (1 + 15)
  have hD := hD0 (1 + 15)
  have f_122 : g_119 0 = .inr (13, [.int (nI 0), .ref (ad (1 + 0)), .ref (ad (1 + 1)), .ref (ad (1 + 2)), .ref (ad (1 + 3)), .int (nI 0), .int (-1), .ref (ad (1 + 4)), .ref (ad (1 + 5)), .ref (ad (1 + 6)), .ref (ad (1 + 7)), .ref (ad (1 + 8)), .ref (ad (1 + 9)), .int (nI 0), .int (nI 0), .ref (ad (1 + 10)), .ref (ad (1 + 11)), .ref (ad (1 + 12)), .ref (ad (1 + 13)), .null, .int (nI 0), .int (nI 0), .int (nI 0), .null, .null, .int (nI 0), .null, .null, .int (nI 0)]) := (fr_121 0 (by first | exact nt9 htt | exact nl9 rfl | omega)).trans f_116
  refine m_putF (D := (dC, dI)) (v := .ref (ad (1 + 14))) (tv := .array .int) (C := RX10) (T := TX10) (N := 29) hx hb hts bk0 tyX10 tyX10_ok nmX10 hown hK hP hD hS 0 (by decide) f_122 rfl 19 (by decide) (hts (.fieldLink RX10 59 "GradientDeskModel" "operators" "[I") (List.mem_of_getElem? (i := 23) rfl)) (fun _ h9 => h9) rfl hin rfl (by decide +kernel) rfl rfl (Nat.le_of_ble_eq_true rfl) dX10_init_137 (fun H locs g_123 f_124 fr_125 hP hS => ?_)
  have f_124 : g_123 0 = .inr (13, [.int (nI 0), .ref (ad (1 + 0)), .ref (ad (1 + 1)), .ref (ad (1 + 2)), .ref (ad (1 + 3)), .int (nI 0), .int (-1), .ref (ad (1 + 4)), .ref (ad (1 + 5)), .ref (ad (1 + 6)), .ref (ad (1 + 7)), .ref (ad (1 + 8)), .ref (ad (1 + 9)), .int (nI 0), .int (nI 0), .ref (ad (1 + 10)), .ref (ad (1 + 11)), .ref (ad (1 + 12)), .ref (ad (1 + 13)), .ref (ad (1 + 14)), .int (nI 0), .int (nI 0), .int (nI 0), .null, .null, .int (nI 0), .null, .null, .int (nI 0)]) := f_124
  refine lv_aload_n hx hb dX10_init_140 rfl (lv_at hl 0 rfl) ?_
  refine lv_sipush (v := nI 256) hx hb dX10_init_141 (by decide +kernel) ?_
  refine w_size (fun hle => ?_)
  have hz_126 := sz_eq had hz0 hP hS hle
  refine m_newa (atype := .int) (t := .int) (N' := 256) (a0 := (256, .inl (fun _ => 0))) hx hb (hts (.arrayClass .int) (List.mem_of_getElem? (i := 7) rfl)) rfl rfl (hKA _) hP hS hz_126 (fun _ => rfl) (nI_pos (by decide)) (nI_clamp (by decide)) (by decide) (Nat.le_of_ble_eq_true rfl) (Nat.le_of_ble_eq_true rfl) dX10_init_144 (fun H g_127 f_128 fr_129 hP hS => ?_)
  refine W.cs (cells' := 16) (slots' := 171750) (by omega) (by omega) ?_
  have hP : va_P (dC, dI) vwCl (wo ad (1 + 16) g_127) H := hP
  have hK := hKA (1 + 16)
  have hD := hD0 (1 + 16)
  have f_130 : g_127 0 = .inr (13, [.int (nI 0), .ref (ad (1 + 0)), .ref (ad (1 + 1)), .ref (ad (1 + 2)), .ref (ad (1 + 3)), .int (nI 0), .int (-1), .ref (ad (1 + 4)), .ref (ad (1 + 5)), .ref (ad (1 + 6)), .ref (ad (1 + 7)), .ref (ad (1 + 8)), .ref (ad (1 + 9)), .int (nI 0), .int (nI 0), .ref (ad (1 + 10)), .ref (ad (1 + 11)), .ref (ad (1 + 12)), .ref (ad (1 + 13)), .ref (ad (1 + 14)), .int (nI 0), .int (nI 0), .int (nI 0), .null, .null, .int (nI 0), .null, .null, .int (nI 0)]) := (fr_129 0 (by first | exact nt9 htt | exact nl9 rfl | omega)).trans f_124
  refine m_putF (D := (dC, dI)) (v := .ref (ad (1 + 15))) (tv := .array .int) (C := RX10) (T := TX10) (N := 29) hx hb hts bk0 tyX10 tyX10_ok nmX10 hown hK hP hD hS 0 (by decide) f_130 rfl 23 (by decide) (hts (.fieldLink RX10 62 "GradientDeskModel" "out" "[I") (List.mem_of_getElem? (i := 24) rfl)) (fun _ h9 => h9) rfl hin rfl (by decide +kernel) rfl rfl (Nat.le_of_ble_eq_true rfl) dX10_init_146 (fun H locs g_131 f_132 fr_133 hP hS => ?_)
  have f_132 : g_131 0 = .inr (13, [.int (nI 0), .ref (ad (1 + 0)), .ref (ad (1 + 1)), .ref (ad (1 + 2)), .ref (ad (1 + 3)), .int (nI 0), .int (-1), .ref (ad (1 + 4)), .ref (ad (1 + 5)), .ref (ad (1 + 6)), .ref (ad (1 + 7)), .ref (ad (1 + 8)), .ref (ad (1 + 9)), .int (nI 0), .int (nI 0), .ref (ad (1 + 10)), .ref (ad (1 + 11)), .ref (ad (1 + 12)), .ref (ad (1 + 13)), .ref (ad (1 + 14)), .int (nI 0), .int (nI 0), .int (nI 0), .ref (ad (1 + 15)), .null, .int (nI 0), .null, .null, .int (nI 0)]) := f_132
  refine lv_aload_n hx hb dX10_init_149 rfl (lv_at hl 0 rfl) ?_
  refine lv_sipush (v := nI 256) hx hb dX10_init_150 (by decide +kernel) ?_
  refine w_size (fun hle => ?_)
  have hz_134 := sz_eq had hz0 hP hS hle
  refine m_newa (atype := .int) (t := .int) (N' := 256) (a0 := (256, .inl (fun _ => 0))) hx hb (hts (.arrayClass .int) (List.mem_of_getElem? (i := 7) rfl)) rfl rfl (hKA _) hP hS hz_134 (fun _ => rfl) (nI_pos (by decide)) (nI_clamp (by decide)) (by decide) (Nat.le_of_ble_eq_true rfl) (Nat.le_of_ble_eq_true rfl) dX10_init_153 (fun H g_135 f_136 fr_137 hP hS => ?_)
  refine W.cs (cells' := 17) (slots' := 172006) (by omega) (by omega) ?_
  have hP : va_P (dC, dI) vwCl (wo ad (1 + 17) g_135) H := hP
  have hK := hKA (1 + 17)
  have hD := hD0 (1 + 17)
  have f_138 : g_135 0 = .inr (13, [.int (nI 0), .ref (ad (1 + 0)), .ref (ad (1 + 1)), .ref (ad (1 + 2)), .ref (ad (1 + 3)), .int (nI 0), .int (-1), .ref (ad (1 + 4)), .ref (ad (1 + 5)), .ref (ad (1 + 6)), .ref (ad (1 + 7)), .ref (ad (1 + 8)), .ref (ad (1 + 9)), .int (nI 0), .int (nI 0), .ref (ad (1 + 10)), .ref (ad (1 + 11)), .ref (ad (1 + 12)), .ref (ad (1 + 13)), .ref (ad (1 + 14)), .int (nI 0), .int (nI 0), .int (nI 0), .ref (ad (1 + 15)), .null, .int (nI 0), .null, .null, .int (nI 0)]) := (fr_137 0 (by first | exact nt9 htt | exact nl9 rfl | omega)).trans f_132
  refine m_putF (D := (dC, dI)) (v := .ref (ad (1 + 16))) (tv := .array .int) (C := RX10) (T := TX10) (N := 29) hx hb hts bk0 tyX10 tyX10_ok nmX10 hown hK hP hD hS 0 (by decide) f_138 rfl 24 (by decide) (hts (.fieldLink RX10 65 "GradientDeskModel" "draft" "[I") (List.mem_of_getElem? (i := 25) rfl)) (fun _ h9 => h9) rfl hin rfl (by decide +kernel) rfl rfl (Nat.le_of_ble_eq_true rfl) dX10_init_155 (fun H locs g_139 f_140 fr_141 hP hS => ?_)
  have f_140 : g_139 0 = .inr (13, [.int (nI 0), .ref (ad (1 + 0)), .ref (ad (1 + 1)), .ref (ad (1 + 2)), .ref (ad (1 + 3)), .int (nI 0), .int (-1), .ref (ad (1 + 4)), .ref (ad (1 + 5)), .ref (ad (1 + 6)), .ref (ad (1 + 7)), .ref (ad (1 + 8)), .ref (ad (1 + 9)), .int (nI 0), .int (nI 0), .ref (ad (1 + 10)), .ref (ad (1 + 11)), .ref (ad (1 + 12)), .ref (ad (1 + 13)), .ref (ad (1 + 14)), .int (nI 0), .int (nI 0), .int (nI 0), .ref (ad (1 + 15)), .ref (ad (1 + 16)), .int (nI 0), .null, .null, .int (nI 0)]) := f_140
  refine lv_aload_n hx hb dX10_init_158 rfl (lv_at hl 0 rfl) ?_
  refine lv_sipush (v := nI 200) hx hb dX10_init_159 (by decide +kernel) ?_
  refine w_size (fun hle => ?_)
  have hz_142 := sz_eq had hz0 hP hS hle
  refine m_newa (atype := .int) (t := .int) (N' := 200) (a0 := (200, .inl (fun _ => 0))) hx hb (hts (.arrayClass .int) (List.mem_of_getElem? (i := 7) rfl)) rfl rfl (hKA _) hP hS hz_142 (fun _ => rfl) (nI_pos (by decide)) (nI_clamp (by decide)) (by decide) (Nat.le_of_ble_eq_true rfl) (Nat.le_of_ble_eq_true rfl) dX10_init_162 (fun H g_143 f_144 fr_145 hP hS => ?_)
  refine W.cs (cells' := 18) (slots' := 172206) (by omega) (by omega) ?_
  have hP : va_P (dC, dI) vwCl (wo ad (1 + 18) g_143) H := hP
  have hK := hKA (1 + 18)
  have hD := hD0 (1 + 18)
  have f_146 : g_143 0 = .inr (13, [.int (nI 0), .ref (ad (1 + 0)), .ref (ad (1 + 1)), .ref (ad (1 + 2)), .ref (ad (1 + 3)), .int (nI 0), .int (-1), .ref (ad (1 + 4)), .ref (ad (1 + 5)), .ref (ad (1 + 6)), .ref (ad (1 + 7)), .ref (ad (1 + 8)), .ref (ad (1 + 9)), .int (nI 0), .int (nI 0), .ref (ad (1 + 10)), .ref (ad (1 + 11)), .ref (ad (1 + 12)), .ref (ad (1 + 13)), .ref (ad (1 + 14)), .int (nI 0), .int (nI 0), .int (nI 0), .ref (ad (1 + 15)), .ref (ad (1 + 16)), .int (nI 0), .null, .null, .int (nI 0)]) := (fr_145 0 (by first | exact nt9 htt | exact nl9 rfl | omega)).trans f_140
  refine m_putF (D := (dC, dI)) (v := .ref (ad (1 + 17))) (tv := .array .int) (C := RX10) (T := TX10) (N := 29) hx hb hts bk0 tyX10 tyX10_ok nmX10 hown hK hP hD hS 0 (by decide) f_146 rfl 26 (by decide) (hts (.fieldLink RX10 68 "GradientDeskModel" "digits" "[I") (List.mem_of_getElem? (i := 26) rfl)) (fun _ h9 => h9) rfl hin rfl (by decide +kernel) rfl rfl (Nat.le_of_ble_eq_true rfl) dX10_init_164 (fun H locs g_147 f_148 fr_149 hP hS => ?_)
  have f_148 : g_147 0 = .inr (13, [.int (nI 0), .ref (ad (1 + 0)), .ref (ad (1 + 1)), .ref (ad (1 + 2)), .ref (ad (1 + 3)), .int (nI 0), .int (-1), .ref (ad (1 + 4)), .ref (ad (1 + 5)), .ref (ad (1 + 6)), .ref (ad (1 + 7)), .ref (ad (1 + 8)), .ref (ad (1 + 9)), .int (nI 0), .int (nI 0), .ref (ad (1 + 10)), .ref (ad (1 + 11)), .ref (ad (1 + 12)), .ref (ad (1 + 13)), .ref (ad (1 + 14)), .int (nI 0), .int (nI 0), .int (nI 0), .ref (ad (1 + 15)), .ref (ad (1 + 16)), .int (nI 0), .ref (ad (1 + 17)), .null, .int (nI 0)]) := f_148
  refine lv_aload_n hx hb dX10_init_167 rfl (lv_at hl 0 rfl) ?_
  refine lv_sipush (v := nI 1200) hx hb dX10_init_168 (by decide +kernel) ?_
  refine w_size (fun hle => ?_)
  have hz_150 := sz_eq had hz0 hP hS hle
  refine m_newa (atype := .int) (t := .int) (N' := 1200) (a0 := (1200, .inl (fun _ => 0))) hx hb (hts (.arrayClass .int) (List.mem_of_getElem? (i := 7) rfl)) rfl rfl (hKA _) hP hS hz_150 (fun _ => rfl) (nI_pos (by decide)) (nI_clamp (by decide)) (by decide) (Nat.le_of_ble_eq_true rfl) (Nat.le_of_ble_eq_true rfl) dX10_init_171 (fun H g_151 f_152 fr_153 hP hS => ?_)
  refine W.cs (cells' := 19) (slots' := 173406) (by omega) (by omega) ?_
  have hP : va_P (dC, dI) vwCl (wo ad (1 + 19) g_151) H := hP
  have hK := hKA (1 + 19)
  have hD := hD0 (1 + 19)
  have f_154 : g_151 0 = .inr (13, [.int (nI 0), .ref (ad (1 + 0)), .ref (ad (1 + 1)), .ref (ad (1 + 2)), .ref (ad (1 + 3)), .int (nI 0), .int (-1), .ref (ad (1 + 4)), .ref (ad (1 + 5)), .ref (ad (1 + 6)), .ref (ad (1 + 7)), .ref (ad (1 + 8)), .ref (ad (1 + 9)), .int (nI 0), .int (nI 0), .ref (ad (1 + 10)), .ref (ad (1 + 11)), .ref (ad (1 + 12)), .ref (ad (1 + 13)), .ref (ad (1 + 14)), .int (nI 0), .int (nI 0), .int (nI 0), .ref (ad (1 + 15)), .ref (ad (1 + 16)), .int (nI 0), .ref (ad (1 + 17)), .null, .int (nI 0)]) := (fr_153 0 (by first | exact nt9 htt | exact nl9 rfl | omega)).trans f_148
  refine m_putF (D := (dC, dI)) (v := .ref (ad (1 + 18))) (tv := .array .int) (C := RX10) (T := TX10) (N := 29) hx hb hts bk0 tyX10 tyX10_ok nmX10 hown hK hP hD hS 0 (by decide) f_154 rfl 27 (by decide) (hts (.fieldLink RX10 71 "GradientDeskModel" "waiting" "[I") (List.mem_of_getElem? (i := 27) rfl)) (fun _ h9 => h9) rfl hin rfl (by decide +kernel) rfl rfl (Nat.le_of_ble_eq_true rfl) dX10_init_173 (fun H locs g_155 f_156 fr_157 hP hS => ?_)
  have f_156 : g_155 0 = .inr (13, [.int (nI 0), .ref (ad (1 + 0)), .ref (ad (1 + 1)), .ref (ad (1 + 2)), .ref (ad (1 + 3)), .int (nI 0), .int (-1), .ref (ad (1 + 4)), .ref (ad (1 + 5)), .ref (ad (1 + 6)), .ref (ad (1 + 7)), .ref (ad (1 + 8)), .ref (ad (1 + 9)), .int (nI 0), .int (nI 0), .ref (ad (1 + 10)), .ref (ad (1 + 11)), .ref (ad (1 + 12)), .ref (ad (1 + 13)), .ref (ad (1 + 14)), .int (nI 0), .int (nI 0), .int (nI 0), .ref (ad (1 + 15)), .ref (ad (1 + 16)), .int (nI 0), .ref (ad (1 + 17)), .ref (ad (1 + 18)), .int (nI 0)]) := f_156
  have f_158 : g_155 (1 + 0) = .inl (cA (1 + 0), 165440, .inr (.inl (fun _ => 0))) := (fr_157 (1 + 0) (by first | exact nt9 htt | exact nl9 rfl | omega)).trans ((fr_153 (1 + 0) (by first | exact nt9 htt | exact nl9 rfl | omega)).trans ((fr_149 (1 + 0) (by first | exact nt9 htt | exact nl9 rfl | omega)).trans ((fr_145 (1 + 0) (by first | exact nt9 htt | exact nl9 rfl | omega)).trans ((fr_141 (1 + 0) (by first | exact nt9 htt | exact nl9 rfl | omega)).trans ((fr_137 (1 + 0) (by first | exact nt9 htt | exact nl9 rfl | omega)).trans ((fr_133 (1 + 0) (by first | exact nt9 htt | exact nl9 rfl | omega)).trans ((fr_129 (1 + 0) (by first | exact nt9 htt | exact nl9 rfl | omega)).trans ((fr_125 (1 + 0) (by first | exact nt9 htt | exact nl9 rfl | omega)).trans ((fr_121 (1 + 0) (by first | exact nt9 htt | exact nl9 rfl | omega)).trans ((fr_117 (1 + 0) (by first | exact nt9 htt | exact nl9 rfl | omega)).trans ((fr_113 (1 + 0) (by first | exact nt9 htt | exact nl9 rfl | omega)).trans ((fr_109 (1 + 0) (by first | exact nt9 htt | exact nl9 rfl | omega)).trans ((fr_105 (1 + 0) (by first | exact nt9 htt | exact nl9 rfl | omega)).trans ((fr_101 (1 + 0) (by first | exact nt9 htt | exact nl9 rfl | omega)).trans ((fr_97 (1 + 0) (by first | exact nt9 htt | exact nl9 rfl | omega)).trans ((fr_93 (1 + 0) (by first | exact nt9 htt | exact nl9 rfl | omega)).trans ((fr_89 (1 + 0) (by first | exact nt9 htt | exact nl9 rfl | omega)).trans ((fr_85 (1 + 0) (by first | exact nt9 htt | exact nl9 rfl | omega)).trans ((fr_81 (1 + 0) (by first | exact nt9 htt | exact nl9 rfl | omega)).trans ((fr_77 (1 + 0) (by first | exact nt9 htt | exact nl9 rfl | omega)).trans ((fr_73 (1 + 0) (by first | exact nt9 htt | exact nl9 rfl | omega)).trans ((fr_69 (1 + 0) (by first | exact nt9 htt | exact nl9 rfl | omega)).trans ((fr_65 (1 + 0) (by first | exact nt9 htt | exact nl9 rfl | omega)).trans ((fr_61 (1 + 0) (by first | exact nt9 htt | exact nl9 rfl | omega)).trans ((fr_57 (1 + 0) (by first | exact nt9 htt | exact nl9 rfl | omega)).trans ((fr_53 (1 + 0) (by first | exact nt9 htt | exact nl9 rfl | omega)).trans ((fr_49 (1 + 0) (by first | exact nt9 htt | exact nl9 rfl | omega)).trans ((fr_45 (1 + 0) (by first | exact nt9 htt | exact nl9 rfl | omega)).trans ((fr_41 (1 + 0) (by first | exact nt9 htt | exact nl9 rfl | omega)).trans ((fr_37 (1 + 0) (by first | exact nt9 htt | exact nl9 rfl | omega)).trans ((fr_34 (1 + 0) (by first | exact nt9 htt | exact nl9 rfl | omega)).trans ((fr_30 (1 + 0) (by first | exact nt9 htt | exact nl9 rfl | omega)).trans ((fr_26 (1 + 0) (by first | exact nt9 htt | exact nl9 rfl | omega)).trans ((fr_22 (1 + 0) (by first | exact nt9 htt | exact nl9 rfl | omega)).trans ((fr_18 (1 + 0) (by first | exact nt9 htt | exact nl9 rfl | omega)).trans ((fr_14 (1 + 0) (by first | exact nt9 htt | exact nl9 rfl | omega)).trans ((fr_10 (1 + 0) (by first | exact nt9 htt | exact nl9 rfl | omega)).trans f_5)))))))))))))))))))))))))))))))))))))
  have f_159 : g_155 (1 + 1) = .inl (cA (1 + 1), 2068, .inl (fun _ => 0)) := (fr_157 (1 + 1) (by first | exact nt9 htt | exact nl9 rfl | omega)).trans ((fr_153 (1 + 1) (by first | exact nt9 htt | exact nl9 rfl | omega)).trans ((fr_149 (1 + 1) (by first | exact nt9 htt | exact nl9 rfl | omega)).trans ((fr_145 (1 + 1) (by first | exact nt9 htt | exact nl9 rfl | omega)).trans ((fr_141 (1 + 1) (by first | exact nt9 htt | exact nl9 rfl | omega)).trans ((fr_137 (1 + 1) (by first | exact nt9 htt | exact nl9 rfl | omega)).trans ((fr_133 (1 + 1) (by first | exact nt9 htt | exact nl9 rfl | omega)).trans ((fr_129 (1 + 1) (by first | exact nt9 htt | exact nl9 rfl | omega)).trans ((fr_125 (1 + 1) (by first | exact nt9 htt | exact nl9 rfl | omega)).trans ((fr_121 (1 + 1) (by first | exact nt9 htt | exact nl9 rfl | omega)).trans ((fr_117 (1 + 1) (by first | exact nt9 htt | exact nl9 rfl | omega)).trans ((fr_113 (1 + 1) (by first | exact nt9 htt | exact nl9 rfl | omega)).trans ((fr_109 (1 + 1) (by first | exact nt9 htt | exact nl9 rfl | omega)).trans ((fr_105 (1 + 1) (by first | exact nt9 htt | exact nl9 rfl | omega)).trans ((fr_101 (1 + 1) (by first | exact nt9 htt | exact nl9 rfl | omega)).trans ((fr_97 (1 + 1) (by first | exact nt9 htt | exact nl9 rfl | omega)).trans ((fr_93 (1 + 1) (by first | exact nt9 htt | exact nl9 rfl | omega)).trans ((fr_89 (1 + 1) (by first | exact nt9 htt | exact nl9 rfl | omega)).trans ((fr_85 (1 + 1) (by first | exact nt9 htt | exact nl9 rfl | omega)).trans ((fr_81 (1 + 1) (by first | exact nt9 htt | exact nl9 rfl | omega)).trans ((fr_77 (1 + 1) (by first | exact nt9 htt | exact nl9 rfl | omega)).trans ((fr_73 (1 + 1) (by first | exact nt9 htt | exact nl9 rfl | omega)).trans ((fr_69 (1 + 1) (by first | exact nt9 htt | exact nl9 rfl | omega)).trans ((fr_65 (1 + 1) (by first | exact nt9 htt | exact nl9 rfl | omega)).trans ((fr_61 (1 + 1) (by first | exact nt9 htt | exact nl9 rfl | omega)).trans ((fr_57 (1 + 1) (by first | exact nt9 htt | exact nl9 rfl | omega)).trans ((fr_53 (1 + 1) (by first | exact nt9 htt | exact nl9 rfl | omega)).trans ((fr_49 (1 + 1) (by first | exact nt9 htt | exact nl9 rfl | omega)).trans ((fr_45 (1 + 1) (by first | exact nt9 htt | exact nl9 rfl | omega)).trans ((fr_41 (1 + 1) (by first | exact nt9 htt | exact nl9 rfl | omega)).trans ((fr_37 (1 + 1) (by first | exact nt9 htt | exact nl9 rfl | omega)).trans ((fr_34 (1 + 1) (by first | exact nt9 htt | exact nl9 rfl | omega)).trans ((fr_30 (1 + 1) (by first | exact nt9 htt | exact nl9 rfl | omega)).trans ((fr_26 (1 + 1) (by first | exact nt9 htt | exact nl9 rfl | omega)).trans ((fr_22 (1 + 1) (by first | exact nt9 htt | exact nl9 rfl | omega)).trans ((fr_18 (1 + 1) (by first | exact nt9 htt | exact nl9 rfl | omega)).trans f_13)))))))))))))))))))))))))))))))))))
  have f_160 : g_155 (1 + 2) = .inl (cA (1 + 2), 2068, .inl (fun _ => 0)) := (fr_157 (1 + 2) (by first | exact nt9 htt | exact nl9 rfl | omega)).trans ((fr_153 (1 + 2) (by first | exact nt9 htt | exact nl9 rfl | omega)).trans ((fr_149 (1 + 2) (by first | exact nt9 htt | exact nl9 rfl | omega)).trans ((fr_145 (1 + 2) (by first | exact nt9 htt | exact nl9 rfl | omega)).trans ((fr_141 (1 + 2) (by first | exact nt9 htt | exact nl9 rfl | omega)).trans ((fr_137 (1 + 2) (by first | exact nt9 htt | exact nl9 rfl | omega)).trans ((fr_133 (1 + 2) (by first | exact nt9 htt | exact nl9 rfl | omega)).trans ((fr_129 (1 + 2) (by first | exact nt9 htt | exact nl9 rfl | omega)).trans ((fr_125 (1 + 2) (by first | exact nt9 htt | exact nl9 rfl | omega)).trans ((fr_121 (1 + 2) (by first | exact nt9 htt | exact nl9 rfl | omega)).trans ((fr_117 (1 + 2) (by first | exact nt9 htt | exact nl9 rfl | omega)).trans ((fr_113 (1 + 2) (by first | exact nt9 htt | exact nl9 rfl | omega)).trans ((fr_109 (1 + 2) (by first | exact nt9 htt | exact nl9 rfl | omega)).trans ((fr_105 (1 + 2) (by first | exact nt9 htt | exact nl9 rfl | omega)).trans ((fr_101 (1 + 2) (by first | exact nt9 htt | exact nl9 rfl | omega)).trans ((fr_97 (1 + 2) (by first | exact nt9 htt | exact nl9 rfl | omega)).trans ((fr_93 (1 + 2) (by first | exact nt9 htt | exact nl9 rfl | omega)).trans ((fr_89 (1 + 2) (by first | exact nt9 htt | exact nl9 rfl | omega)).trans ((fr_85 (1 + 2) (by first | exact nt9 htt | exact nl9 rfl | omega)).trans ((fr_81 (1 + 2) (by first | exact nt9 htt | exact nl9 rfl | omega)).trans ((fr_77 (1 + 2) (by first | exact nt9 htt | exact nl9 rfl | omega)).trans ((fr_73 (1 + 2) (by first | exact nt9 htt | exact nl9 rfl | omega)).trans ((fr_69 (1 + 2) (by first | exact nt9 htt | exact nl9 rfl | omega)).trans ((fr_65 (1 + 2) (by first | exact nt9 htt | exact nl9 rfl | omega)).trans ((fr_61 (1 + 2) (by first | exact nt9 htt | exact nl9 rfl | omega)).trans ((fr_57 (1 + 2) (by first | exact nt9 htt | exact nl9 rfl | omega)).trans ((fr_53 (1 + 2) (by first | exact nt9 htt | exact nl9 rfl | omega)).trans ((fr_49 (1 + 2) (by first | exact nt9 htt | exact nl9 rfl | omega)).trans ((fr_45 (1 + 2) (by first | exact nt9 htt | exact nl9 rfl | omega)).trans ((fr_41 (1 + 2) (by first | exact nt9 htt | exact nl9 rfl | omega)).trans ((fr_37 (1 + 2) (by first | exact nt9 htt | exact nl9 rfl | omega)).trans ((fr_34 (1 + 2) (by first | exact nt9 htt | exact nl9 rfl | omega)).trans ((fr_30 (1 + 2) (by first | exact nt9 htt | exact nl9 rfl | omega)).trans ((fr_26 (1 + 2) (by first | exact nt9 htt | exact nl9 rfl | omega)).trans f_21)))))))))))))))))))))))))))))))))
  have f_161 : g_155 (1 + 3) = .inl (cA (1 + 3), 64, .inl (fun _ => 0)) := (fr_157 (1 + 3) (by first | exact nt9 htt | exact nl9 rfl | omega)).trans ((fr_153 (1 + 3) (by first | exact nt9 htt | exact nl9 rfl | omega)).trans ((fr_149 (1 + 3) (by first | exact nt9 htt | exact nl9 rfl | omega)).trans ((fr_145 (1 + 3) (by first | exact nt9 htt | exact nl9 rfl | omega)).trans ((fr_141 (1 + 3) (by first | exact nt9 htt | exact nl9 rfl | omega)).trans ((fr_137 (1 + 3) (by first | exact nt9 htt | exact nl9 rfl | omega)).trans ((fr_133 (1 + 3) (by first | exact nt9 htt | exact nl9 rfl | omega)).trans ((fr_129 (1 + 3) (by first | exact nt9 htt | exact nl9 rfl | omega)).trans ((fr_125 (1 + 3) (by first | exact nt9 htt | exact nl9 rfl | omega)).trans ((fr_121 (1 + 3) (by first | exact nt9 htt | exact nl9 rfl | omega)).trans ((fr_117 (1 + 3) (by first | exact nt9 htt | exact nl9 rfl | omega)).trans ((fr_113 (1 + 3) (by first | exact nt9 htt | exact nl9 rfl | omega)).trans ((fr_109 (1 + 3) (by first | exact nt9 htt | exact nl9 rfl | omega)).trans ((fr_105 (1 + 3) (by first | exact nt9 htt | exact nl9 rfl | omega)).trans ((fr_101 (1 + 3) (by first | exact nt9 htt | exact nl9 rfl | omega)).trans ((fr_97 (1 + 3) (by first | exact nt9 htt | exact nl9 rfl | omega)).trans ((fr_93 (1 + 3) (by first | exact nt9 htt | exact nl9 rfl | omega)).trans ((fr_89 (1 + 3) (by first | exact nt9 htt | exact nl9 rfl | omega)).trans ((fr_85 (1 + 3) (by first | exact nt9 htt | exact nl9 rfl | omega)).trans ((fr_81 (1 + 3) (by first | exact nt9 htt | exact nl9 rfl | omega)).trans ((fr_77 (1 + 3) (by first | exact nt9 htt | exact nl9 rfl | omega)).trans ((fr_73 (1 + 3) (by first | exact nt9 htt | exact nl9 rfl | omega)).trans ((fr_69 (1 + 3) (by first | exact nt9 htt | exact nl9 rfl | omega)).trans ((fr_65 (1 + 3) (by first | exact nt9 htt | exact nl9 rfl | omega)).trans ((fr_61 (1 + 3) (by first | exact nt9 htt | exact nl9 rfl | omega)).trans ((fr_57 (1 + 3) (by first | exact nt9 htt | exact nl9 rfl | omega)).trans ((fr_53 (1 + 3) (by first | exact nt9 htt | exact nl9 rfl | omega)).trans ((fr_49 (1 + 3) (by first | exact nt9 htt | exact nl9 rfl | omega)).trans ((fr_45 (1 + 3) (by first | exact nt9 htt | exact nl9 rfl | omega)).trans ((fr_41 (1 + 3) (by first | exact nt9 htt | exact nl9 rfl | omega)).trans ((fr_37 (1 + 3) (by first | exact nt9 htt | exact nl9 rfl | omega)).trans ((fr_34 (1 + 3) (by first | exact nt9 htt | exact nl9 rfl | omega)).trans f_29)))))))))))))))))))))))))))))))
  have f_162 : g_155 (1 + 4) = .inl (cA (1 + 4), 201, .inl (fun _ => 0)) := (fr_157 (1 + 4) (by first | exact nt9 htt | exact nl9 rfl | omega)).trans ((fr_153 (1 + 4) (by first | exact nt9 htt | exact nl9 rfl | omega)).trans ((fr_149 (1 + 4) (by first | exact nt9 htt | exact nl9 rfl | omega)).trans ((fr_145 (1 + 4) (by first | exact nt9 htt | exact nl9 rfl | omega)).trans ((fr_141 (1 + 4) (by first | exact nt9 htt | exact nl9 rfl | omega)).trans ((fr_137 (1 + 4) (by first | exact nt9 htt | exact nl9 rfl | omega)).trans ((fr_133 (1 + 4) (by first | exact nt9 htt | exact nl9 rfl | omega)).trans ((fr_129 (1 + 4) (by first | exact nt9 htt | exact nl9 rfl | omega)).trans ((fr_125 (1 + 4) (by first | exact nt9 htt | exact nl9 rfl | omega)).trans ((fr_121 (1 + 4) (by first | exact nt9 htt | exact nl9 rfl | omega)).trans ((fr_117 (1 + 4) (by first | exact nt9 htt | exact nl9 rfl | omega)).trans ((fr_113 (1 + 4) (by first | exact nt9 htt | exact nl9 rfl | omega)).trans ((fr_109 (1 + 4) (by first | exact nt9 htt | exact nl9 rfl | omega)).trans ((fr_105 (1 + 4) (by first | exact nt9 htt | exact nl9 rfl | omega)).trans ((fr_101 (1 + 4) (by first | exact nt9 htt | exact nl9 rfl | omega)).trans ((fr_97 (1 + 4) (by first | exact nt9 htt | exact nl9 rfl | omega)).trans ((fr_93 (1 + 4) (by first | exact nt9 htt | exact nl9 rfl | omega)).trans ((fr_89 (1 + 4) (by first | exact nt9 htt | exact nl9 rfl | omega)).trans ((fr_85 (1 + 4) (by first | exact nt9 htt | exact nl9 rfl | omega)).trans ((fr_81 (1 + 4) (by first | exact nt9 htt | exact nl9 rfl | omega)).trans ((fr_77 (1 + 4) (by first | exact nt9 htt | exact nl9 rfl | omega)).trans ((fr_73 (1 + 4) (by first | exact nt9 htt | exact nl9 rfl | omega)).trans ((fr_69 (1 + 4) (by first | exact nt9 htt | exact nl9 rfl | omega)).trans ((fr_65 (1 + 4) (by first | exact nt9 htt | exact nl9 rfl | omega)).trans ((fr_61 (1 + 4) (by first | exact nt9 htt | exact nl9 rfl | omega)).trans ((fr_57 (1 + 4) (by first | exact nt9 htt | exact nl9 rfl | omega)).trans ((fr_53 (1 + 4) (by first | exact nt9 htt | exact nl9 rfl | omega)).trans ((fr_49 (1 + 4) (by first | exact nt9 htt | exact nl9 rfl | omega)).trans ((fr_45 (1 + 4) (by first | exact nt9 htt | exact nl9 rfl | omega)).trans f_40))))))))))))))))))))))))))))
  have f_163 : g_155 (1 + 5) = .inl (cA (1 + 5), 201, .inl (fun _ => 0)) := (fr_157 (1 + 5) (by first | exact nt9 htt | exact nl9 rfl | omega)).trans ((fr_153 (1 + 5) (by first | exact nt9 htt | exact nl9 rfl | omega)).trans ((fr_149 (1 + 5) (by first | exact nt9 htt | exact nl9 rfl | omega)).trans ((fr_145 (1 + 5) (by first | exact nt9 htt | exact nl9 rfl | omega)).trans ((fr_141 (1 + 5) (by first | exact nt9 htt | exact nl9 rfl | omega)).trans ((fr_137 (1 + 5) (by first | exact nt9 htt | exact nl9 rfl | omega)).trans ((fr_133 (1 + 5) (by first | exact nt9 htt | exact nl9 rfl | omega)).trans ((fr_129 (1 + 5) (by first | exact nt9 htt | exact nl9 rfl | omega)).trans ((fr_125 (1 + 5) (by first | exact nt9 htt | exact nl9 rfl | omega)).trans ((fr_121 (1 + 5) (by first | exact nt9 htt | exact nl9 rfl | omega)).trans ((fr_117 (1 + 5) (by first | exact nt9 htt | exact nl9 rfl | omega)).trans ((fr_113 (1 + 5) (by first | exact nt9 htt | exact nl9 rfl | omega)).trans ((fr_109 (1 + 5) (by first | exact nt9 htt | exact nl9 rfl | omega)).trans ((fr_105 (1 + 5) (by first | exact nt9 htt | exact nl9 rfl | omega)).trans ((fr_101 (1 + 5) (by first | exact nt9 htt | exact nl9 rfl | omega)).trans ((fr_97 (1 + 5) (by first | exact nt9 htt | exact nl9 rfl | omega)).trans ((fr_93 (1 + 5) (by first | exact nt9 htt | exact nl9 rfl | omega)).trans ((fr_89 (1 + 5) (by first | exact nt9 htt | exact nl9 rfl | omega)).trans ((fr_85 (1 + 5) (by first | exact nt9 htt | exact nl9 rfl | omega)).trans ((fr_81 (1 + 5) (by first | exact nt9 htt | exact nl9 rfl | omega)).trans ((fr_77 (1 + 5) (by first | exact nt9 htt | exact nl9 rfl | omega)).trans ((fr_73 (1 + 5) (by first | exact nt9 htt | exact nl9 rfl | omega)).trans ((fr_69 (1 + 5) (by first | exact nt9 htt | exact nl9 rfl | omega)).trans ((fr_65 (1 + 5) (by first | exact nt9 htt | exact nl9 rfl | omega)).trans ((fr_61 (1 + 5) (by first | exact nt9 htt | exact nl9 rfl | omega)).trans ((fr_57 (1 + 5) (by first | exact nt9 htt | exact nl9 rfl | omega)).trans ((fr_53 (1 + 5) (by first | exact nt9 htt | exact nl9 rfl | omega)).trans f_48))))))))))))))))))))))))))
  have f_164 : g_155 (1 + 6) = .inl (cA (1 + 6), 201, .inl (fun _ => 0)) := (fr_157 (1 + 6) (by first | exact nt9 htt | exact nl9 rfl | omega)).trans ((fr_153 (1 + 6) (by first | exact nt9 htt | exact nl9 rfl | omega)).trans ((fr_149 (1 + 6) (by first | exact nt9 htt | exact nl9 rfl | omega)).trans ((fr_145 (1 + 6) (by first | exact nt9 htt | exact nl9 rfl | omega)).trans ((fr_141 (1 + 6) (by first | exact nt9 htt | exact nl9 rfl | omega)).trans ((fr_137 (1 + 6) (by first | exact nt9 htt | exact nl9 rfl | omega)).trans ((fr_133 (1 + 6) (by first | exact nt9 htt | exact nl9 rfl | omega)).trans ((fr_129 (1 + 6) (by first | exact nt9 htt | exact nl9 rfl | omega)).trans ((fr_125 (1 + 6) (by first | exact nt9 htt | exact nl9 rfl | omega)).trans ((fr_121 (1 + 6) (by first | exact nt9 htt | exact nl9 rfl | omega)).trans ((fr_117 (1 + 6) (by first | exact nt9 htt | exact nl9 rfl | omega)).trans ((fr_113 (1 + 6) (by first | exact nt9 htt | exact nl9 rfl | omega)).trans ((fr_109 (1 + 6) (by first | exact nt9 htt | exact nl9 rfl | omega)).trans ((fr_105 (1 + 6) (by first | exact nt9 htt | exact nl9 rfl | omega)).trans ((fr_101 (1 + 6) (by first | exact nt9 htt | exact nl9 rfl | omega)).trans ((fr_97 (1 + 6) (by first | exact nt9 htt | exact nl9 rfl | omega)).trans ((fr_93 (1 + 6) (by first | exact nt9 htt | exact nl9 rfl | omega)).trans ((fr_89 (1 + 6) (by first | exact nt9 htt | exact nl9 rfl | omega)).trans ((fr_85 (1 + 6) (by first | exact nt9 htt | exact nl9 rfl | omega)).trans ((fr_81 (1 + 6) (by first | exact nt9 htt | exact nl9 rfl | omega)).trans ((fr_77 (1 + 6) (by first | exact nt9 htt | exact nl9 rfl | omega)).trans ((fr_73 (1 + 6) (by first | exact nt9 htt | exact nl9 rfl | omega)).trans ((fr_69 (1 + 6) (by first | exact nt9 htt | exact nl9 rfl | omega)).trans ((fr_65 (1 + 6) (by first | exact nt9 htt | exact nl9 rfl | omega)).trans ((fr_61 (1 + 6) (by first | exact nt9 htt | exact nl9 rfl | omega)).trans f_56))))))))))))))))))))))))
  have f_165 : g_155 (1 + 7) = .inl (cA (1 + 7), 201, .inl (fun _ => 0)) := (fr_157 (1 + 7) (by first | exact nt9 htt | exact nl9 rfl | omega)).trans ((fr_153 (1 + 7) (by first | exact nt9 htt | exact nl9 rfl | omega)).trans ((fr_149 (1 + 7) (by first | exact nt9 htt | exact nl9 rfl | omega)).trans ((fr_145 (1 + 7) (by first | exact nt9 htt | exact nl9 rfl | omega)).trans ((fr_141 (1 + 7) (by first | exact nt9 htt | exact nl9 rfl | omega)).trans ((fr_137 (1 + 7) (by first | exact nt9 htt | exact nl9 rfl | omega)).trans ((fr_133 (1 + 7) (by first | exact nt9 htt | exact nl9 rfl | omega)).trans ((fr_129 (1 + 7) (by first | exact nt9 htt | exact nl9 rfl | omega)).trans ((fr_125 (1 + 7) (by first | exact nt9 htt | exact nl9 rfl | omega)).trans ((fr_121 (1 + 7) (by first | exact nt9 htt | exact nl9 rfl | omega)).trans ((fr_117 (1 + 7) (by first | exact nt9 htt | exact nl9 rfl | omega)).trans ((fr_113 (1 + 7) (by first | exact nt9 htt | exact nl9 rfl | omega)).trans ((fr_109 (1 + 7) (by first | exact nt9 htt | exact nl9 rfl | omega)).trans ((fr_105 (1 + 7) (by first | exact nt9 htt | exact nl9 rfl | omega)).trans ((fr_101 (1 + 7) (by first | exact nt9 htt | exact nl9 rfl | omega)).trans ((fr_97 (1 + 7) (by first | exact nt9 htt | exact nl9 rfl | omega)).trans ((fr_93 (1 + 7) (by first | exact nt9 htt | exact nl9 rfl | omega)).trans ((fr_89 (1 + 7) (by first | exact nt9 htt | exact nl9 rfl | omega)).trans ((fr_85 (1 + 7) (by first | exact nt9 htt | exact nl9 rfl | omega)).trans ((fr_81 (1 + 7) (by first | exact nt9 htt | exact nl9 rfl | omega)).trans ((fr_77 (1 + 7) (by first | exact nt9 htt | exact nl9 rfl | omega)).trans ((fr_73 (1 + 7) (by first | exact nt9 htt | exact nl9 rfl | omega)).trans ((fr_69 (1 + 7) (by first | exact nt9 htt | exact nl9 rfl | omega)).trans f_64))))))))))))))))))))))
  have f_166 : g_155 (1 + 8) = .inl (cA (1 + 8), 201, .inl (fun _ => 0)) := (fr_157 (1 + 8) (by first | exact nt9 htt | exact nl9 rfl | omega)).trans ((fr_153 (1 + 8) (by first | exact nt9 htt | exact nl9 rfl | omega)).trans ((fr_149 (1 + 8) (by first | exact nt9 htt | exact nl9 rfl | omega)).trans ((fr_145 (1 + 8) (by first | exact nt9 htt | exact nl9 rfl | omega)).trans ((fr_141 (1 + 8) (by first | exact nt9 htt | exact nl9 rfl | omega)).trans ((fr_137 (1 + 8) (by first | exact nt9 htt | exact nl9 rfl | omega)).trans ((fr_133 (1 + 8) (by first | exact nt9 htt | exact nl9 rfl | omega)).trans ((fr_129 (1 + 8) (by first | exact nt9 htt | exact nl9 rfl | omega)).trans ((fr_125 (1 + 8) (by first | exact nt9 htt | exact nl9 rfl | omega)).trans ((fr_121 (1 + 8) (by first | exact nt9 htt | exact nl9 rfl | omega)).trans ((fr_117 (1 + 8) (by first | exact nt9 htt | exact nl9 rfl | omega)).trans ((fr_113 (1 + 8) (by first | exact nt9 htt | exact nl9 rfl | omega)).trans ((fr_109 (1 + 8) (by first | exact nt9 htt | exact nl9 rfl | omega)).trans ((fr_105 (1 + 8) (by first | exact nt9 htt | exact nl9 rfl | omega)).trans ((fr_101 (1 + 8) (by first | exact nt9 htt | exact nl9 rfl | omega)).trans ((fr_97 (1 + 8) (by first | exact nt9 htt | exact nl9 rfl | omega)).trans ((fr_93 (1 + 8) (by first | exact nt9 htt | exact nl9 rfl | omega)).trans ((fr_89 (1 + 8) (by first | exact nt9 htt | exact nl9 rfl | omega)).trans ((fr_85 (1 + 8) (by first | exact nt9 htt | exact nl9 rfl | omega)).trans ((fr_81 (1 + 8) (by first | exact nt9 htt | exact nl9 rfl | omega)).trans ((fr_77 (1 + 8) (by first | exact nt9 htt | exact nl9 rfl | omega)).trans f_72))))))))))))))))))))
  have f_167 : g_155 (1 + 9) = .inl (cA (1 + 9), 201, .inl (fun _ => 0)) := (fr_157 (1 + 9) (by first | exact nt9 htt | exact nl9 rfl | omega)).trans ((fr_153 (1 + 9) (by first | exact nt9 htt | exact nl9 rfl | omega)).trans ((fr_149 (1 + 9) (by first | exact nt9 htt | exact nl9 rfl | omega)).trans ((fr_145 (1 + 9) (by first | exact nt9 htt | exact nl9 rfl | omega)).trans ((fr_141 (1 + 9) (by first | exact nt9 htt | exact nl9 rfl | omega)).trans ((fr_137 (1 + 9) (by first | exact nt9 htt | exact nl9 rfl | omega)).trans ((fr_133 (1 + 9) (by first | exact nt9 htt | exact nl9 rfl | omega)).trans ((fr_129 (1 + 9) (by first | exact nt9 htt | exact nl9 rfl | omega)).trans ((fr_125 (1 + 9) (by first | exact nt9 htt | exact nl9 rfl | omega)).trans ((fr_121 (1 + 9) (by first | exact nt9 htt | exact nl9 rfl | omega)).trans ((fr_117 (1 + 9) (by first | exact nt9 htt | exact nl9 rfl | omega)).trans ((fr_113 (1 + 9) (by first | exact nt9 htt | exact nl9 rfl | omega)).trans ((fr_109 (1 + 9) (by first | exact nt9 htt | exact nl9 rfl | omega)).trans ((fr_105 (1 + 9) (by first | exact nt9 htt | exact nl9 rfl | omega)).trans ((fr_101 (1 + 9) (by first | exact nt9 htt | exact nl9 rfl | omega)).trans ((fr_97 (1 + 9) (by first | exact nt9 htt | exact nl9 rfl | omega)).trans ((fr_93 (1 + 9) (by first | exact nt9 htt | exact nl9 rfl | omega)).trans ((fr_89 (1 + 9) (by first | exact nt9 htt | exact nl9 rfl | omega)).trans ((fr_85 (1 + 9) (by first | exact nt9 htt | exact nl9 rfl | omega)).trans f_80))))))))))))))))))
  have f_168 : g_155 (1 + 10) = .inl (cA (1 + 10), 8, .inl (fun _ => 0)) := (fr_157 (1 + 10) (by first | exact nt9 htt | exact nl9 rfl | omega)).trans ((fr_153 (1 + 10) (by first | exact nt9 htt | exact nl9 rfl | omega)).trans ((fr_149 (1 + 10) (by first | exact nt9 htt | exact nl9 rfl | omega)).trans ((fr_145 (1 + 10) (by first | exact nt9 htt | exact nl9 rfl | omega)).trans ((fr_141 (1 + 10) (by first | exact nt9 htt | exact nl9 rfl | omega)).trans ((fr_137 (1 + 10) (by first | exact nt9 htt | exact nl9 rfl | omega)).trans ((fr_133 (1 + 10) (by first | exact nt9 htt | exact nl9 rfl | omega)).trans ((fr_129 (1 + 10) (by first | exact nt9 htt | exact nl9 rfl | omega)).trans ((fr_125 (1 + 10) (by first | exact nt9 htt | exact nl9 rfl | omega)).trans ((fr_121 (1 + 10) (by first | exact nt9 htt | exact nl9 rfl | omega)).trans ((fr_117 (1 + 10) (by first | exact nt9 htt | exact nl9 rfl | omega)).trans ((fr_113 (1 + 10) (by first | exact nt9 htt | exact nl9 rfl | omega)).trans ((fr_109 (1 + 10) (by first | exact nt9 htt | exact nl9 rfl | omega)).trans ((fr_105 (1 + 10) (by first | exact nt9 htt | exact nl9 rfl | omega)).trans ((fr_101 (1 + 10) (by first | exact nt9 htt | exact nl9 rfl | omega)).trans ((fr_97 (1 + 10) (by first | exact nt9 htt | exact nl9 rfl | omega)).trans ((fr_93 (1 + 10) (by first | exact nt9 htt | exact nl9 rfl | omega)).trans f_88))))))))))))))))
  have f_169 : g_155 (1 + 11) = .inl (cA (1 + 11), 200, .inl (fun _ => 0)) := (fr_157 (1 + 11) (by first | exact nt9 htt | exact nl9 rfl | omega)).trans ((fr_153 (1 + 11) (by first | exact nt9 htt | exact nl9 rfl | omega)).trans ((fr_149 (1 + 11) (by first | exact nt9 htt | exact nl9 rfl | omega)).trans ((fr_145 (1 + 11) (by first | exact nt9 htt | exact nl9 rfl | omega)).trans ((fr_141 (1 + 11) (by first | exact nt9 htt | exact nl9 rfl | omega)).trans ((fr_137 (1 + 11) (by first | exact nt9 htt | exact nl9 rfl | omega)).trans ((fr_133 (1 + 11) (by first | exact nt9 htt | exact nl9 rfl | omega)).trans ((fr_129 (1 + 11) (by first | exact nt9 htt | exact nl9 rfl | omega)).trans ((fr_125 (1 + 11) (by first | exact nt9 htt | exact nl9 rfl | omega)).trans ((fr_121 (1 + 11) (by first | exact nt9 htt | exact nl9 rfl | omega)).trans ((fr_117 (1 + 11) (by first | exact nt9 htt | exact nl9 rfl | omega)).trans ((fr_113 (1 + 11) (by first | exact nt9 htt | exact nl9 rfl | omega)).trans ((fr_109 (1 + 11) (by first | exact nt9 htt | exact nl9 rfl | omega)).trans ((fr_105 (1 + 11) (by first | exact nt9 htt | exact nl9 rfl | omega)).trans ((fr_101 (1 + 11) (by first | exact nt9 htt | exact nl9 rfl | omega)).trans f_96))))))))))))))
  have f_170 : g_155 (1 + 12) = .inl (cA (1 + 12), 200, .inl (fun _ => 0)) := (fr_157 (1 + 12) (by first | exact nt9 htt | exact nl9 rfl | omega)).trans ((fr_153 (1 + 12) (by first | exact nt9 htt | exact nl9 rfl | omega)).trans ((fr_149 (1 + 12) (by first | exact nt9 htt | exact nl9 rfl | omega)).trans ((fr_145 (1 + 12) (by first | exact nt9 htt | exact nl9 rfl | omega)).trans ((fr_141 (1 + 12) (by first | exact nt9 htt | exact nl9 rfl | omega)).trans ((fr_137 (1 + 12) (by first | exact nt9 htt | exact nl9 rfl | omega)).trans ((fr_133 (1 + 12) (by first | exact nt9 htt | exact nl9 rfl | omega)).trans ((fr_129 (1 + 12) (by first | exact nt9 htt | exact nl9 rfl | omega)).trans ((fr_125 (1 + 12) (by first | exact nt9 htt | exact nl9 rfl | omega)).trans ((fr_121 (1 + 12) (by first | exact nt9 htt | exact nl9 rfl | omega)).trans ((fr_117 (1 + 12) (by first | exact nt9 htt | exact nl9 rfl | omega)).trans ((fr_113 (1 + 12) (by first | exact nt9 htt | exact nl9 rfl | omega)).trans ((fr_109 (1 + 12) (by first | exact nt9 htt | exact nl9 rfl | omega)).trans f_104))))))))))))
  have f_171 : g_155 (1 + 13) = .inl (cA (1 + 13), 80, .inl (fun _ => 0)) := (fr_157 (1 + 13) (by first | exact nt9 htt | exact nl9 rfl | omega)).trans ((fr_153 (1 + 13) (by first | exact nt9 htt | exact nl9 rfl | omega)).trans ((fr_149 (1 + 13) (by first | exact nt9 htt | exact nl9 rfl | omega)).trans ((fr_145 (1 + 13) (by first | exact nt9 htt | exact nl9 rfl | omega)).trans ((fr_141 (1 + 13) (by first | exact nt9 htt | exact nl9 rfl | omega)).trans ((fr_137 (1 + 13) (by first | exact nt9 htt | exact nl9 rfl | omega)).trans ((fr_133 (1 + 13) (by first | exact nt9 htt | exact nl9 rfl | omega)).trans ((fr_129 (1 + 13) (by first | exact nt9 htt | exact nl9 rfl | omega)).trans ((fr_125 (1 + 13) (by first | exact nt9 htt | exact nl9 rfl | omega)).trans ((fr_121 (1 + 13) (by first | exact nt9 htt | exact nl9 rfl | omega)).trans ((fr_117 (1 + 13) (by first | exact nt9 htt | exact nl9 rfl | omega)).trans f_112))))))))))
  have f_172 : g_155 (1 + 14) = .inl (cA (1 + 14), 160, .inl (fun _ => 0)) := (fr_157 (1 + 14) (by first | exact nt9 htt | exact nl9 rfl | omega)).trans ((fr_153 (1 + 14) (by first | exact nt9 htt | exact nl9 rfl | omega)).trans ((fr_149 (1 + 14) (by first | exact nt9 htt | exact nl9 rfl | omega)).trans ((fr_145 (1 + 14) (by first | exact nt9 htt | exact nl9 rfl | omega)).trans ((fr_141 (1 + 14) (by first | exact nt9 htt | exact nl9 rfl | omega)).trans ((fr_137 (1 + 14) (by first | exact nt9 htt | exact nl9 rfl | omega)).trans ((fr_133 (1 + 14) (by first | exact nt9 htt | exact nl9 rfl | omega)).trans ((fr_129 (1 + 14) (by first | exact nt9 htt | exact nl9 rfl | omega)).trans ((fr_125 (1 + 14) (by first | exact nt9 htt | exact nl9 rfl | omega)).trans f_120))))))))
  have f_173 : g_155 (1 + 15) = .inl (cA (1 + 15), 256, .inl (fun _ => 0)) := (fr_157 (1 + 15) (by first | exact nt9 htt | exact nl9 rfl | omega)).trans ((fr_153 (1 + 15) (by first | exact nt9 htt | exact nl9 rfl | omega)).trans ((fr_149 (1 + 15) (by first | exact nt9 htt | exact nl9 rfl | omega)).trans ((fr_145 (1 + 15) (by first | exact nt9 htt | exact nl9 rfl | omega)).trans ((fr_141 (1 + 15) (by first | exact nt9 htt | exact nl9 rfl | omega)).trans ((fr_137 (1 + 15) (by first | exact nt9 htt | exact nl9 rfl | omega)).trans ((fr_133 (1 + 15) (by first | exact nt9 htt | exact nl9 rfl | omega)).trans f_128))))))
  have f_174 : g_155 (1 + 16) = .inl (cA (1 + 16), 256, .inl (fun _ => 0)) := (fr_157 (1 + 16) (by first | exact nt9 htt | exact nl9 rfl | omega)).trans ((fr_153 (1 + 16) (by first | exact nt9 htt | exact nl9 rfl | omega)).trans ((fr_149 (1 + 16) (by first | exact nt9 htt | exact nl9 rfl | omega)).trans ((fr_145 (1 + 16) (by first | exact nt9 htt | exact nl9 rfl | omega)).trans ((fr_141 (1 + 16) (by first | exact nt9 htt | exact nl9 rfl | omega)).trans f_136))))
  have f_175 : g_155 (1 + 17) = .inl (cA (1 + 17), 200, .inl (fun _ => 0)) := (fr_157 (1 + 17) (by first | exact nt9 htt | exact nl9 rfl | omega)).trans ((fr_153 (1 + 17) (by first | exact nt9 htt | exact nl9 rfl | omega)).trans ((fr_149 (1 + 17) (by first | exact nt9 htt | exact nl9 rfl | omega)).trans f_144))
  have f_176 : g_155 (1 + 18) = .inl (cA (1 + 18), 1200, .inl (fun _ => 0)) := (fr_157 (1 + 18) (by first | exact nt9 htt | exact nl9 rfl | omega)).trans f_152
  have hL : LY NSr tyr dC dI A ad cA s := ⟨hKA NSr, fun i j _ _ h => ad_inj had i j h, fun i _ => hAd i⟩
  have hP : va_P (dC, dI) vwCl (wo ad NSr g_155) H := hP
  have hK := hKA NSr
  have hD := hD0 NSr
  have e0 : g_155 0 = .inr (13, Rob ad xz0) := f_156
  have hV0 : RV ad cA g_155 xz0 (vz 0) := ⟨fun _ => 0, fun _ => 0, fun _ => 0, ⟨e0, f_158, f_159, f_160, fun _ => (by decide : (0 : Nat) < 4294967296), fun _ => (by decide : (0 : Nat) < 161), fun _ => (by decide : (0 : Nat) < 2)⟩, fun j hj => by rw [show vz 0 j = 0 from if_neg (by omega)]; exact VAL.z0 j⟩
  have e4 : g_155 4 = .inl (cA 4, 64, .inl (fun j => nI ((fun _ => 0 : Nat → Nat) j))) := f_161
  have e5 : g_155 5 = .inl (cA 5, 201, .inl (fun j => iI ((fun _ => 0 : Nat → Int) j))) := f_162
  have e6 : g_155 6 = .inl (cA 6, 201, .inl (fun j => iI ((fun _ => 0 : Nat → Int) j))) := f_163
  have e7 : g_155 7 = .inl (cA 7, 201, .inl (fun j => iI ((fun _ => 0 : Nat → Int) j))) := f_164
  have e8 : g_155 8 = .inl (cA 8, 201, .inl (fun j => iI ((fun _ => 0 : Nat → Int) j))) := f_165
  have e9 : g_155 9 = .inl (cA 9, 201, .inl (fun j => iI ((fun _ => 0 : Nat → Int) j))) := f_166
  have e10 : g_155 10 = .inl (cA 10, 201, .inl (fun j => iI ((fun _ => 0 : Nat → Int) j))) := f_167
  have e11 : g_155 11 = .inl (cA 11, 8, .inl (fun j => iI ((fun _ => 0 : Nat → Int) j))) := f_168
  have e12 : g_155 12 = .inl (cA 12, 200, .inl (fun j => nI ((fun _ => 0 : Nat → Nat) j))) := f_169
  have e13 : g_155 13 = .inl (cA 13, 200, .inl (fun j => iI ((fun _ => 0 : Nat → Int) j))) := f_170
  have e14 : g_155 14 = .inl (cA 14, 80, .inl (fun j => iI ((fun _ => 0 : Nat → Int) j))) := f_171
  have e15 : g_155 15 = .inl (cA 15, 160, .inl (fun j => iI ((fun _ => 0 : Nat → Int) j))) := f_172
  have e16 : g_155 16 = .inl (cA 16, 256, .inl (fun j => iI ((fun _ => 0 : Nat → Int) j))) := f_173
  have e17 : g_155 17 = .inl (cA 17, 256, .inl (fun j => iI ((fun _ => 0 : Nat → Int) j))) := f_174
  have e18 : g_155 18 = .inl (cA 18, 200, .inl (fun j => iI ((fun _ => 0 : Nat → Int) j))) := f_175
  have e19 : g_155 19 = .inl (cA 19, 1200, .inl (fun j => iI ((fun _ => 0 : Nat → Int) j))) := f_176
  refine lv_iconst (v := nI 0) hx hb dX10_init_176 (by decide +kernel) ?_
  refine lv_istore_n (lv' := [(1, .int (nI 0)), (0, .ref (ad 0))]) hx hb dX10_init_177 rfl hl (by decide) rfl (fun ls hl => ?_)
  have loop_177 : ∀ (k9 : Nat) (i : Nat) (g_179 : Nat → va_E) (fr_180 : ∀ k, (k ≠ 1 ∧ k ≠ 2 ∧ k ≠ 3) → g_179 k = g_155 k), 2000 - i < k9 → (i ≤ 1034) → (RV ad cA g_179 xz0 (vz i)) → ∀ (H : Heap) (locs : List Loc) (ls : Array Slot), va_P (dC, dI) vwCl (wo ad NSr g_179) H → va_S A s.heap H locs → lv_has ls 2 [(0, .ref (ad 0)), (1, .int (nI i))] → W p l e (headSpec wd_G10_init ({ frames := 40, cells := 19, slots := 173406, locals := 800 })).room s m ([.ref (ad 0)] : List Value).toArray below meth c H locs (19) (173406) (MQ below (va_Qv (fun (u : Nat → va_E) => match u with | g2 => (∀ k, 20 ≤ k → g2 k = g k) ∧ RIE ad cA g2 xz0 [] nm0 (fun _ => 0) 0 []) (fun (u : Nat → va_E) (t : State) => va_P (dC, dI) vwCl (wo ad (1 + 19) u) t.heap) A) ([.ref (ad 0)] : List Value).toArray s (19) (173406) A) (F0 m 178 ls []) := by
    intro k9
    induction k9 with
    | zero => intro i g_179 fr_180 h9; exact absurd h9 (Nat.not_lt_zero _)
    | succ k9 ih_178 =>
      intro i g_179 fr_180 h9 hi hVl H locs ls hP hS hl
      refine lv_iload_n hx hb dX10_init_178 rfl (lv_at hl 1 rfl) ?_
      refine lv_sipush (v := nI 1034) hx hb dX10_init_179 (by decide +kernel) ?_
      refine lv_icmp_ge (tgt := 201) hx hb dX10_init_182 (by decide) (fun c_181 => ?_) (fun c_181 => ?_)
      · have c_181 := (nI_leI (a := 1034) (b := i) (by decide) (by omega)).mp c_181
        have hVe := hVl
        rw [show i = 1034 by omega] at hVe
        refine lv_iconst (v := nI 0) hx hb dX10_init_201 (by decide +kernel) ?_
        refine lv_istore_n (lv' := [(1, .int (nI 0)), (0, .ref (ad 0))]) hx hb dX10_init_202 rfl hl (by decide) rfl (fun ls hl => ?_)
        have loop_182 : ∀ (k9 : Nat) (i : Nat) (n1 : Nat → Int) (g_184 : Nat → va_E) (fr_185 : ∀ k, (k ≠ 11) → g_184 k = g_179 k), 300 - i < k9 → (i ≤ 8) → (∀ j, n1 j = if j < i then -1 else 0) → (g_184 11 = .inl (cA 11, 8, .inl (fun j => iI (n1 j)))) → ∀ (H : Heap) (locs : List Loc) (ls : Array Slot), va_P (dC, dI) vwCl (wo ad NSr g_184) H → va_S A s.heap H locs → lv_has ls 2 [(0, .ref (ad 0)), (1, .int (nI i))] → W p l e (headSpec wd_G10_init ({ frames := 40, cells := 19, slots := 173406, locals := 800 })).room s m ([.ref (ad 0)] : List Value).toArray below meth c H locs (19) (173406) (MQ below (va_Qv (fun (u : Nat → va_E) => match u with | g2 => (∀ k, 20 ≤ k → g2 k = g k) ∧ RIE ad cA g2 xz0 [] nm0 (fun _ => 0) 0 []) (fun (u : Nat → va_E) (t : State) => va_P (dC, dI) vwCl (wo ad (1 + 19) u) t.heap) A) ([.ref (ad 0)] : List Value).toArray s (19) (173406) A) (F0 m 203 ls []) := by
          intro k9
          induction k9 with
          | zero => intro i n1 g_184 fr_185 h9; exact absurd h9 (Nat.not_lt_zero _)
          | succ k9 ih_183 =>
            intro i n1 g_184 fr_185 h9 hi2 hn1 f_186 H locs ls hP hS hl
            refine lv_iload_n hx hb dX10_init_203 rfl (lv_at hl 1 rfl) ?_
            refine lv_bipush (v := nI 8) hx hb dX10_init_204 (by decide +kernel) ?_
            refine lv_icmp_ge (tgt := 222) hx hb dX10_init_206 (by decide) (fun c_187 => ?_) (fun c_187 => ?_)
            · have c_187 := (nI_leI (a := 8) (b := i) (by decide) (by omega)).mp c_187
              have hnm : n1 = nm0 := by funext j; rw [hn1 j, show i = 8 by omega]; rfl
              have hnl : ∀ j, -1 ≤ nm0 j ∧ nm0 j ≤ 200 := fun j => by unfold nm0; split <;> decide
              have hV9 : RV ad cA g_184 xz0 (vz 1034) := RV.setx9 hVe (fun (k : Nat) (hk : k = 0 ∨ k = 1 ∨ k = 2 ∨ k = 3) => (fr_185 k (by omega)).trans (rfl))
              have h11 : g_184 11 = .inl (cA 11, 8, .inl (fun j => iI (nm0 j))) := by rw [← hnm]; exact f_186
              have f_188 : g_184 5 = .inl (cA 5, 201, .inl (fun j => iI ((fun _ => 0) j))) := (fr_185 5 (by omega)).trans ((fr_180 5 (by omega)).trans e5)
              have f_189 : g_184 6 = .inl (cA 6, 201, .inl (fun j => iI ((fun _ => 0) j))) := (fr_185 6 (by omega)).trans ((fr_180 6 (by omega)).trans e6)
              have f_190 : g_184 7 = .inl (cA 7, 201, .inl (fun j => iI ((fun _ => 0) j))) := (fr_185 7 (by omega)).trans ((fr_180 7 (by omega)).trans e7)
              have f_191 : g_184 8 = .inl (cA 8, 201, .inl (fun j => iI ((fun _ => 0) j))) := (fr_185 8 (by omega)).trans ((fr_180 8 (by omega)).trans e8)
              have f_192 : g_184 9 = .inl (cA 9, 201, .inl (fun j => iI ((fun _ => 0) j))) := (fr_185 9 (by omega)).trans ((fr_180 9 (by omega)).trans e9)
              have f_193 : g_184 10 = .inl (cA 10, 201, .inl (fun j => iI ((fun _ => 0) j))) := (fr_185 10 (by omega)).trans ((fr_180 10 (by omega)).trans e10)
              have f_194 : g_184 4 = .inl (cA 4, 64, .inl (fun j => nI ((fun _ => 0) j))) := (fr_185 4 (by omega)).trans ((fr_180 4 (by omega)).trans e4)
              have f_195 : g_184 16 = .inl (cA 16, 256, .inl (fun j => iI ((fun _ => 0) j))) := (fr_185 16 (by omega)).trans ((fr_180 16 (by omega)).trans e16)
              have f_196 : g_184 12 = .inl (cA 12, 200, .inl (fun j => nI ((fun _ => 0) j))) := (fr_185 12 (by omega)).trans ((fr_180 12 (by omega)).trans e12)
              have f_197 : g_184 13 = .inl (cA 13, 200, .inl (fun j => iI ((fun _ => 0) j))) := (fr_185 13 (by omega)).trans ((fr_180 13 (by omega)).trans e13)
              have f_198 : g_184 14 = .inl (cA 14, 80, .inl (fun j => iI ((fun _ => 0) j))) := (fr_185 14 (by omega)).trans ((fr_180 14 (by omega)).trans e14)
              have f_199 : g_184 15 = .inl (cA 15, 160, .inl (fun j => iI ((fun _ => 0) j))) := (fr_185 15 (by omega)).trans ((fr_180 15 (by omega)).trans e15)
              have f_200 : g_184 17 = .inl (cA 17, 256, .inl (fun j => iI ((fun _ => 0) j))) := (fr_185 17 (by omega)).trans ((fr_180 17 (by omega)).trans e17)
              have f_201 : g_184 18 = .inl (cA 18, 200, .inl (fun j => iI ((fun _ => 0) j))) := (fr_185 18 (by omega)).trans ((fr_180 18 (by omega)).trans e18)
              have f_202 : g_184 19 = .inl (cA 19, 1200, .inl (fun j => iI ((fun _ => 0) j))) := (fr_185 19 (by omega)).trans ((fr_180 19 (by omega)).trans e19)
              refine W.widen (k := 19) (n := 173406) (by omega) (by omega) ?_
              have hP : va_P (dC, dI) vwCl (wo ad (1 + 19) g_184) H := hP
              exact W.vret hx hb hr (fun t9 ht9 hW9 => ⟨⟨g_184, rfl, ⟨(fun (k : Nat) (hk : 20 ≤ k) => (fr_185 k (by omega)).trans ((fr_180 k (by omega)).trans ((fr_157 k (by omega)).trans ((fr_153 k (by omega)).trans ((fr_149 k (by omega)).trans ((fr_145 k (by omega)).trans ((fr_141 k (by omega)).trans ((fr_137 k (by omega)).trans ((fr_133 k (by omega)).trans ((fr_129 k (by omega)).trans ((fr_125 k (by omega)).trans ((fr_121 k (by omega)).trans ((fr_117 k (by omega)).trans ((fr_113 k (by omega)).trans ((fr_109 k (by omega)).trans ((fr_105 k (by omega)).trans ((fr_101 k (by omega)).trans ((fr_97 k (by omega)).trans ((fr_93 k (by omega)).trans ((fr_89 k (by omega)).trans ((fr_85 k (by omega)).trans ((fr_81 k (by omega)).trans ((fr_77 k (by omega)).trans ((fr_73 k (by omega)).trans ((fr_69 k (by omega)).trans ((fr_65 k (by omega)).trans ((fr_61 k (by omega)).trans ((fr_57 k (by omega)).trans ((fr_53 k (by omega)).trans ((fr_49 k (by omega)).trans ((fr_45 k (by omega)).trans ((fr_41 k (by omega)).trans ((fr_37 k (by omega)).trans ((fr_34 k (by omega)).trans ((fr_30 k (by omega)).trans ((fr_26 k (by omega)).trans ((fr_22 k (by omega)).trans ((fr_18 k (by omega)).trans ((fr_14 k (by omega)).trans ((fr_10 k (by omega)).trans ((fr_6 k (by omega)).trans (rfl)))))))))))))))))))))))))))))))))))))))))), fun _ => 0, fun _ => 1, fun _ _ => 0, ⟨vz 1034, hV9, fun f hf => ⟨if_neg (by omega), if_pos ⟨by omega, by omega⟩, red01⟩⟩, ⟨f_188, f_189, f_190, f_191, f_192, f_193, fun _ _ => (by decide : -1 ≤ (0 : Int) ∧ (0 : Int) ≤ 20000)⟩, MT.nil, WFL.nil, by decide, rfl, ⟨f_194, fun _ => (by decide : (0 : Nat) < 127), h11, hnl, fun j hj => by unfold nm0; rw [if_pos hj]; decide⟩, rfl, by decide, rfl, ⟨by decide, _, f_195, fun k hk => absurd hk (Nat.not_lt_zero _)⟩, ⟨⟨_, f_196, fun _ => (by decide : (0 : Nat) < 2)⟩, ⟨_, f_197⟩, ⟨_, f_198⟩, ⟨_, f_199⟩, ⟨_, f_195⟩, ⟨_, f_200⟩, ⟨_, f_201⟩, ⟨_, f_202⟩⟩, RBd.fresh⟩, by show va_P (dC, dI) vwCl _ t9.heap; rw [ht9]; exact hP⟩, hS.F ht9⟩) hS.2.2 dX10_init_222
            · have c_187 := mt (nI_leI (a := 8) (b := i) (by decide) (by omega)).mpr c_187
              refine lv_aload_n hx hb dX10_init_209 rfl (lv_at hl 0 rfl) ?_
              have f_203 : g_184 0 = .inr (13, Rob ad xz0) := (fr_185 0 (by omega)).trans ((fr_180 0 (by omega)).trans e0)
              refine m_get (D := (dC, dI)) (v := .ref (ad 11)) (C := RX10) (T := TX10) (N := 29) hx hb hts bk0 hown hK hP 0 (by decide) f_203 rfl 15 (by decide) (hts (.fieldLink RX10 47 "GradientDeskModel" "names" "[I") (List.mem_of_getElem? (i := 19) rfl)) (fun _ h9 => h9) rfl dX10_init_210 ?_
              refine lv_iload_n hx hb dX10_init_213 rfl (lv_at hl 1 rfl) ?_
              refine lv_iconst (v := -1) hx hb dX10_init_214 (by decide +kernel) ?_
              refine m_iast hx hb hK hP hD hS 11 (by decide) rfl f_186 (i := i) (x := -1) (by omega) (by decide) dX10_init_215 (fun H locs g_204 f_205 fr_206 hP hS => ?_)
              rw [(show (-1 : Int32) = iI (-1) from by decide), k_updZ] at f_205
              have f_205 : g_204 11 = .inl (cA 11, 8, .inl (fun j => iI ((va_up n1 i (-1)) j))) := f_205
              refine lv_iinc (v := nI (i + 1)) (lv' := [(1, .int (nI (i + 1))), (0, .ref (ad 0))]) hx hb dX10_init_216 hl (k := 1) rfl (nI_add i 1) (by decide) rfl (fun ls hl => ?_)
              refine lv_goto (tgt := 203) hx hb dX10_init_219 (by decide) ?_
              exact ih_183 (i + 1) (va_up n1 i (-1)) g_204 (fun (k : Nat) (hk : k ≠ 11) => (fr_206 k (by omega)).trans ((fr_185 k (by omega)).trans (rfl))) (by omega) (by omega) (fun j => by by_cases h8 : j = i; rw [h8, va_up_self, if_pos (by omega)]; rw [va_up_ne _ _ h8, hn1 j]; by_cases h7 : j < i; rw [if_pos h7, if_pos (by omega)]; rw [if_neg h7, if_neg (by omega)]) f_205 _ _ _ hP hS (lv_sub (l' := [(0, .ref (ad 0)), (1, .int (nI (i + 1)))]) hl [1, 0] rfl)
        have f_209 : g_179 11 = .inl (cA 11, 8, .inl (fun j => iI ((fun _ => 0) j))) := (fr_180 11 (by omega)).trans e11
        exact loop_182 _ 0 (fun _ => 0) g_179 (fun (k : Nat) (hk : k ≠ 11) => rfl) (Nat.lt_succ_self _) (by decide) (fun j => (if_neg (Nat.not_lt_zero _)).symm) f_209 _ _ _ hP hS (lv_sub (l' := [(0, .ref (ad 0)), (1, .int (nI 0))]) hl [1, 0] rfl)
      · have c_181 := mt (nI_leI (a := 1034) (b := i) (by decide) (by omega)).mpr c_181
        refine lv_aload_n hx hb dX10_init_185 rfl (lv_at hl 0 rfl) ?_
        refine lv_iconst (v := nI 2) hx hb dX10_init_186 (by decide +kernel) ?_
        refine lv_iload_n hx hb dX10_init_187 rfl (lv_at hl 1 rfl) ?_
        refine lv_imul hx hb dX10_init_188 ?_
        refine lv_topi (fun x_210 e_211 => ?_)
        obtain rfl : x_210 = nI (2 * i) := e_211.trans (pk_mul 2 i)
        refine lv_iconst (v := nI 1) hx hb dX10_init_189 (by decide +kernel) ?_
        refine lv_iadd hx hb dX10_init_190 ?_
        refine lv_topi (fun x_212 e_213 => ?_)
        obtain rfl : x_212 = nI (2 * i + 1) := e_213.trans (nI_add (2 * i) 1)
        refine lv_lconst (v := lN 1) hx hb dX10_init_191 (by decide +kernel) ?_
        rcases (show i < 1033 ∨ i = 1033 by omega) with hs8 | hs8
        · skip
          have f_214 : g_179 0 = .inr (13, Rob ad xz0) := (fr_180 0 (by omega)).trans e0
          refine va_callv (va_runV (As := [.int (nI (2 * i + 1)), .long (lN 1)]) (rest := []) ⟨hx, hb, hml, hown, hts⟩ (c_X10_assign l dC dI A ad cA g_179 xz0 (vz i) (2 * i + 1) (lN 1) 1 hVl (by omega) (by decide) (by decide)) (cwV 2 hts (goodIn_app (goodIn_r [Cond.methodLink RX10 74 yX10_assign, Cond.instanceMethod yX10_assign, Cond.selects RX10 yX10_assign yX10_assign, Cond.initialized RX10] [28, 29, 30, 31] rfl rfl) (goodIn_sub (fun w9 h9 => bk1 w9 h9) gw_X10_assign)) rfl rfl rfl (by decide +kernel) ⟨Nat.le_of_ble_eq_true rfl, Nat.le_of_ble_eq_true rfl⟩) ⟨fun a U g mk q => ⟨q.1, q.2.1, q.2.2.1, LY.moved (u := U) (U := U.calling g mk a) (Vm.Alike.refl U.vm) q.2.2.2⟩, va_recv hK hP (ci := 13) (q0 := 0) rfl (wo_at (by decide) f_214), fun U hU hW => ⟨rfl, by rw [hU]; exact fun q h => hA q (Nat.le_trans hS.1 h), by rw [hU]; exact hP, LY.moved hW.alike hL⟩⟩ rfl rfl hl.1 rfl (lv_room (Nat.le_of_ble_eq_true rfl)) dX10_init_192 ⟨(Nat.le_of_ble_eq_true rfl), (Nat.le_of_ble_eq_true rfl)⟩) hS (fun q _ h => h) (fun q h => h) (fun u8 t8 H1 locs ht8 hvm8 hw_215 hB hz1 hk1 hS => ?_)
          obtain ⟨g_216, rfl⟩ : ∃ z, z = u8 := ⟨_, rfl⟩
          try dsimp only at hw_215 hB
          rw [ht8] at hB
          have hP := hB
          generalize H1 = H at hP hS ⊢
          obtain ⟨fr_217, hVn⟩ := hw_215
          rw [vz_up] at hVn
          refine lv_iinc (v := nI (i + 1)) (lv' := [(1, .int (nI (i + 1))), (0, .ref (ad 0))]) hx hb dX10_init_195 hl (k := 1) rfl (nI_add i 1) (by decide) rfl (fun ls hl => ?_)
          refine lv_goto (tgt := 178) hx hb dX10_init_198 (by decide) ?_
          exact ih_178 (i + 1) g_216 (fun (k : Nat) (hk : k ≠ 1 ∧ k ≠ 2 ∧ k ≠ 3) => (fr_217 k (by omega)).trans ((fr_180 k (by omega)).trans (rfl))) (by omega) (by omega) hVn _ _ _ hP hS (lv_sub (l' := [(0, .ref (ad 0)), (1, .int (nI (i + 1)))]) hl [1, 0] rfl)
        · skip
          have f_220 : g_179 0 = .inr (13, Rob ad xz0) := (fr_180 0 (by omega)).trans e0
          refine va_callv (va_runV (As := [.int (nI (2 * i + 1)), .long (lN 1)]) (rest := []) ⟨hx, hb, hml, hown, hts⟩ (c_X10_asgL l dC dI A ad cA g_179 xz0 (vz i) (2 * i + 1) hVl (by omega)) (cwV 2 hts (goodIn_app (goodIn_r [Cond.methodLink RX10 74 yX10_assign, Cond.instanceMethod yX10_assign, Cond.selects RX10 yX10_assign yX10_assign, Cond.initialized RX10] [28, 29, 30, 31] rfl rfl) (goodIn_sub (fun w9 h9 => bk2 w9 h9) gw_X10_asgL)) rfl rfl rfl (by decide +kernel) ⟨Nat.le_of_ble_eq_true rfl, Nat.le_of_ble_eq_true rfl⟩) ⟨fun a U g mk q => ⟨q.1, q.2.1, q.2.2.1, LY.moved (u := U) (U := U.calling g mk a) (Vm.Alike.refl U.vm) q.2.2.2⟩, va_recv hK hP (ci := 13) (q0 := 0) rfl (wo_at (by decide) f_220), fun U hU hW => ⟨rfl, by rw [hU]; exact fun q h => hA q (Nat.le_trans hS.1 h), by rw [hU]; exact hP, LY.moved hW.alike hL⟩⟩ rfl rfl hl.1 rfl (lv_room (Nat.le_of_ble_eq_true rfl)) dX10_init_192 ⟨(Nat.le_of_ble_eq_true rfl), (Nat.le_of_ble_eq_true rfl)⟩) hS (fun q _ h => h) (fun q h => h) (fun u8 t8 H1 locs ht8 hvm8 hw_221 hB hz1 hk1 hS => ?_)
          obtain ⟨g_222, rfl⟩ : ∃ z, z = u8 := ⟨_, rfl⟩
          try dsimp only at hw_221 hB
          rw [ht8] at hB
          have hP := hB
          generalize H1 = H at hP hS ⊢
          obtain ⟨fr_223, hVn⟩ := hw_221
          have hVm := hVn.congr (v2 := vz (i + 1)) (fun j hj => by unfold vz; by_cases h8 : j % 2 = 1 ∧ j < 2 * i; rw [if_pos h8, if_pos ⟨h8.1, by omega⟩]; rw [if_neg h8, if_neg (by omega)])
          refine lv_iinc (v := nI (i + 1)) (lv' := [(1, .int (nI (i + 1))), (0, .ref (ad 0))]) hx hb dX10_init_195 hl (k := 1) rfl (nI_add i 1) (by decide) rfl (fun ls hl => ?_)
          refine lv_goto (tgt := 178) hx hb dX10_init_198 (by decide) ?_
          exact ih_178 (i + 1) g_222 (fun (k : Nat) (hk : k ≠ 1 ∧ k ≠ 2 ∧ k ≠ 3) => (fr_223 k (by omega)).trans ((fr_180 k (by omega)).trans (rfl))) (by omega) (by omega) hVm _ _ _ hP hS (lv_sub (l' := [(0, .ref (ad 0)), (1, .int (nI (i + 1)))]) hl [1, 0] rfl)
  exact loop_177 _ 0 g_155 (fun (k : Nat) (hk : k ≠ 1 ∧ k ≠ 2 ∧ k ≠ 3) => rfl) (Nat.lt_succ_self _) (by omega) hV0 _ _ _ hP hS (lv_sub (l' := [(0, .ref (ad 0)), (1, .int (nI 0))]) hl [1, 0] rfl)
end
section
/-! the law's wrappers: the class's place with the row of long behind it -/
theorem k_ofWH {l : Launch} {y : MethodName} {ws ws' : List Cond} {rm : Room} {Pc : Array Value → State → Prop} {Qc : Array Value → State → Outcome → State → Prop} {mc ms : Nat} {free : Addr → Prop} {cc : ByteArray} {maxL : Nat} {ret : Option FieldType} {hh : List (Nat × Nat × Nat × Nat)}
    (hy : plainName y.cls = true) (hw : ws = Cond.codeWith y cc maxL ret hh :: ws')
    (body : ∀ p e s m args below meth c s₁, BodyLoose p l y (headSpec ws rm) cc maxL ret e s m args below meth c s₁ → c.maxLocals = maxL → Pc args s →
      W p l e (headSpec ws rm).room s m args below meth c s.heap [] 0 0 (MQ below Qc args s mc ms free) (entryFrame m args maxL)) : Met l y ws rm Pc Qc mc ms free := by
  refine MetFree.of_bodyS (code := cc) (maxLocals := maxL) (ret := ret) hy ?_ ?_
  · intro args s m h hn
    obtain ⟨m9, meth, c, hn9, h1, h2, h3, h4, -, h5, h6, -⟩ := Cond.codeWith_spec (atoms_spec (ws := ws) h _ (by rw [hw]; exact List.mem_cons_self))
    cases hn.symm.trans hn9
    exact ⟨meth, c, h1, h2, h3, h4, h5, h6⟩
  · intro p e s m args below meth c s₁ B hml hP _
    have hh0 : s₁.heap = s.heap := by rw [B.state]; rfl
    obtain ⟨t, a1, o, b1, b2, b3⟩ := body p e s m args below meth c s₁ B hml hP s₁ hh0 (Stand.of_body B)
    exact ⟨t, o, a1, b1, b2, b3⟩
def NSw : Nat := 2518
def tyw (k : Nat) : FieldType := if k = 2517 then .long else tyc k
theorem tyw_c {k : Nat} (h : k < 2517) : tyw k = tyc k := by unfold tyw; rw [if_neg (by omega)]
theorem wo_cut {D : va_G} {ad : Nat → Nat} {g : Nat → va_E} {n n2 : Nat} {H : Heap} (h : va_P D vwCl (wo ad n g) H) (hn : n2 ≤ n) : va_P D vwCl (wo ad n2 g) H := fun k q hq => by
  obtain ⟨hk, rfl⟩ := wo_get hq
  exact h k _ (wo_at (by omega) rfl)
theorem wo_join {D : va_G} {ad : Nat → Nat} {g : Nat → va_E} {n : Nat} {x : va_E} {H : Heap} (h : va_P D vwCl (wo ad n g) H) (hx : va_at D vwCl (ad n, x) H) : va_P D vwCl (wo ad (n + 1) (va_up g n x)) H := fun k q hq => by
  obtain ⟨hk, rfl⟩ := wo_get hq
  by_cases e : k = n
  · rw [e, va_up_self]; exact hx
  · rw [va_up_ne _ _ e]; exact h k _ (wo_at (by omega) rfl)
theorem LY.cut {dC : Nat → ClassId} {dI : Nat → Nat → Nat} {A : Nat → Prop} {ad : Nat → Nat} {cA : Nat → ClassId} {U : State} (h : LY NSw tyw dC dI A ad cA U) : LY NSc tyc dC dI (fun q => A q ∧ q ≠ ad 2517) ad cA U := by
  have e1 : NSc = 2517 := rfl
  have e2 : NSw = 2518 := rfl
  refine ⟨⟨h.1.1, fun k q hq => ?_⟩, fun i j hi hj => h.2.1 i j (by omega) (by omega), fun i hi => ⟨h.2.2 i (by omega), fun e => ?_⟩⟩
  · have hk : k < NSc := by
      have := (List.getElem?_eq_some_iff.mp hq).1
      unfold tyl at this
      rw [List.length_map, List.length_range] at this
      exact this
    rw [tyl_at hk rfl] at hq
    obtain rfl := Option.some.inj hq
    exact h.1.2 k _ (tyl_at (by omega) (tyw_c (by omega)))
  · have := h.2.1 i 2517 (by omega) (by omega) e
    omega
theorem CIS.ext {ad : Nat → Nat} {cA : Nat → ClassId} {g g2 : Nat → va_E} {L : List PD} {nm : Nat → Int} {tx : Nat → Nat} {ty : Nat} {wp : Int32} (h : CIS ad cA g L nm tx ty wp) (hf : ∀ k, k < 2517 → g2 k = g k) : CIS ad cA g2 L nm tx ty wp := by
  obtain ⟨h0, h1, h2, h3, h4, h5, h6, h7, h8, h9, ha, hb, hc⟩ := h
  exact ⟨h0.same (fun k hk => hf k (by omega)), h1.same (h1.2.1.keep (fun k hk => hf k (by omega))) (fun k hk => hf k (by omega)), h2, h3.same (fun k hk => hf k (by omega)), h4.same (fun k hk => hf k (by omega)), h5.same (fun k hk => hf k (by omega)), h6.same (fun k hk => hf k (by omega)), h7.same (fun k hk => hf k (by omega)), h8.same (fun k hk => hf k (by omega)), h9.same (fun k hk => hf k (by omega)), ha.same (fun k hk => hf k (by omega)), hb.same (fun k hk => hf k (by omega)), hc.same (fun k hk => hf k (by omega))⟩
end
section
def wd_L_set : List Cond := .codeWith yL_set cL_set 5 (some .int) [(0, 7, 10, 13)] :: (([.methodLink RL 40 yX9_set, .instanceMethod yX9_set, .selects RX9 yX9_set yX9_set, .initialized RX9, .classLink RL 13 "java/lang/IllegalArgumentException"] : List Cond) ++ (wd_W9_set ++ ([])))
theorem gw_L_set : wd_L_set.all goodWord = true := k_allc rfl (k_all (by decide +kernel) (k_all (gw_W9_set) (rfl)))
set_option maxHeartbeats 4000000 in
set_option maxRecDepth 100000 in
theorem c_L_set (l : Launch) (hlt : l.stackTraces = false) (dC : Nat → ClassId) (dI : Nat → Nat → Nat) (A : Nat → Prop) (ad : Nat → Nat) (cA : Nat → ClassId) (g : Nat → va_E) (L : List PD) (nm : Nat → Int) (tx : Nat → Nat) (ty : Nat) (wp : Int32) (va : Int32) (vp : Int32) (vq : Int32) (fo : Nat → Int64) (hI : CIS ad cA g L nm tx ty wp) (h17 : g 2517 = .inl (cA 2517, 1, .inr (.inl fo))) : Met l yL_set wd_L_set ({ frames := 30, cells := 10, slots := 60, locals := 600 }) (va_Pc [.ref (ad 2076), .int va, .int vp, .int vq] (fun U => PR NSw tyw dC dI A ad cA g U ∧ exF A U U.heap)) (va_Qi (fun (r : Int32) => fun (u : (Nat → va_E) × Int32 × (Nat → Int64)) => match u with | (g2, r0, fo2) => (((CIS ad cA g2 L nm tx ty wp ∧ (0 ≤ va.toInt ∧ va.toInt ≤ 2 ∧ -9999 ≤ vp.toInt ∧ vp.toInt ≤ 9999 ∧ 1 ≤ vq.toInt ∧ vq.toInt ≤ 9999)) ∧ r = nI 0) ∨ (CIS ad cA g2 L nm tx ty wp ∧ (r = nI 1 ∧ ¬ (0 ≤ va.toInt ∧ va.toInt ≤ 2 ∧ -9999 ≤ vp.toInt ∧ vp.toInt ≤ 9999 ∧ 1 ≤ vq.toInt ∧ vq.toInt ≤ 9999)))) ∧ g2 2517 = .inl (cA 2517, 1, .inr (.inl fo2))) (fun (u : (Nat → va_E) × Int32 × (Nat → Int64)) (t : State) => va_P (dC, dI) vwCl (wo ad NSw u.1) t.heap) A) (10) (60) A := by
  refine k_ofWH (hh := [(0, 7, 10, 13)]) (cc := cL_set) (maxL := 5) (ret := (some .int)) (by decide) rfl ?_
  intro p e s m args below meth c s₁ B hml hv
  obtain ⟨rfl, ⟨hA, hP, hL⟩, hE⟩ := hv
  have hx := B.exec
  have hb := B.bytes
  have hr := B.returns
  have hts := atoms_spec (ws := wd_L_set) B.pre
  have hown : s.vm.findClass RL = some m.cls := findClass_of_methodNamed B.named
  have hlocks := B.notSynchronized
  have hK := hL.1
  have hD : ∀ g, va_D A (wo ad NSw g) := fun g => wo_D hL.2.1 hL.2.2 g
  have hS : va_S A s.heap s.heap [] := va_S.rf
  have bk0 : ∀ w ∈ wd_W9_set, w ∈ wd_L_set := fun _ h => List.mem_cons_of_mem _ (List.mem_append_right _ (List.mem_append_left _ h))
  have hl := lv_entry ([.ref (ad 2076), .int va, .int vp, .int vq]) (n := 5) (Nat.le_of_ble_eq_true rfl)
  rw [lg_entry_eq]
  generalize (lg_sl ([.ref (ad 2076), .int va, .int vp, .int vq]) ++ List.replicate (5 - (lg_sl ([.ref (ad 2076), .int va, .int vp, .int vq])).length) Slot.unset).toArray = ls at hl ⊢
  have hl : lv_has ls 5 [(0, .ref (ad 2076)), (1, .int va), (2, .int vp), (3, .int vq)] := hl
  have htb : c.exceptionTable.toList = [⟨0, 7, 10, 13⟩] := (vx_table (x := yL_set) B (hts (.codeWith yL_set cL_set 5 (some .int) [(0, 7, 10, 13)]) List.mem_cons_self)).trans rfl
  refine lv_aload_n hx hb dL_set_0 rfl (lv_at hl 0 rfl) ?_
  refine lv_iload_n hx hb dL_set_1 rfl (lv_at hl 1 rfl) ?_
  refine lv_iload_n hx hb dL_set_2 rfl (lv_at hl 2 rfl) ?_
  refine lv_iload_n hx hb dL_set_3 rfl (lv_at hl 3 rfl) ?_
  have hPc : va_P (dC, dI) vwCl (wo ad NSc g) s.heap := wo_cut hP (by decide)
  have hLc := LY.cut hL
  have hoL : ad 2517 < s.heap.size := (hP 2517 _ (wo_at (by decide) rfl)).lt
  have hoA := hP 2517 _ (wo_at (by decide) rfl)
  have hA2 : ∀ q9, s.heap.size ≤ q9 → (fun q9 => A q9 ∧ q9 ≠ ad 2517) q9 := fun q9 h => ⟨hA q9 h, by intro he; omega⟩
  refine vx_callv (vx_runV (As := [.int va, .int vp, .int vq]) (rest := []) ⟨hx, hb, hml, hown, hts⟩ (c_W9_set l hlt dC dI (fun q9 => A q9 ∧ q9 ≠ ad 2517) ad cA g L nm tx ty wp va vp vq hI) (cwV 3 hts (goodIn_app (goodIn_r [Cond.methodLink RL 40 yX9_set, Cond.instanceMethod yX9_set, Cond.selects RX9 yX9_set yX9_set, Cond.initialized RX9] [1, 2, 3, 4] rfl rfl) (goodIn_sub (fun w9 h9 => bk0 w9 h9) gw_W9_set)) rfl rfl rfl (by decide +kernel) ⟨Nat.le_of_ble_eq_true rfl, Nat.le_of_ble_eq_true rfl⟩) ⟨fun a U g mk q => ⟨q.1, ⟨q.2.1.1, q.2.1.2.1, LY.moved (u := U) (U := U.calling g mk a) (Vm.Alike.refl U.vm) q.2.1.2.2⟩, exF.same rfl rfl q.2.2⟩, va_recv hLc.1 hPc (ci := 12) (q0 := 2076) rfl (wo_at (by decide) hI.1), fun U hU hW => ⟨rfl, ⟨by rw [hU]; exact hA2, by rw [hU]; exact hPc, LY.moved hW.alike hLc⟩, by rw [hU]; exact exF.warm hW (hE.narrow (fun _ h => h.1))⟩⟩ rfl rfl hl.1 rfl (lv_room (Nat.le_of_ble_eq_true rfl)) dL_set_4 ⟨Nat.le_of_ble_eq_true rfl, Nat.le_of_ble_eq_true rfl⟩) hS (fun q _ h => h.1) (fun q h => h.1) (fun q _ h => h.1) (fun E ce q9 u t H1 locs1 ht hvm hpx hbx hz1 hk1 hS hce hcv hcl => ?_) (fun u t H1 locs ht hvm hw_1 hB hz1 hk1 hS => ?_)
  · obtain ⟨dx1, dx2, dx3, dx4, dx5, dx6, dx7, dx8, dx9⟩ := hE.2.2.2
    obtain ⟨hbx, hPx⟩ := hbx
    rw [ht] at hPx
    obtain ⟨rfl, hx9⟩ := hbx
    refine k_catch1 (own := RL) (name := "java/lang/IllegalArgumentException") hown ⟨0, 7, 10, 13⟩ _ htb (by decide) (by decide) (hts (.classLink RL 13 "java/lang/IllegalArgumentException") (List.mem_of_getElem? (i := 5) rfl)) (va_Nw.use rfl dx4) hce hcv hcl ?_
    have hP : va_P (dC, dI) vwCl (wo ad (2517 + 1) (va_up g 2517 (g 2517))) H1 := wo_join hPx (hoA.kept (hk1 _ hoL (fun h => h.2 rfl)))
    obtain ⟨g_2, hG_3⟩ : ∃ z, z = va_up g 2517 (g 2517) := ⟨_, rfl⟩
    rw [← hG_3] at hP
    have hP : va_P (dC, dI) vwCl (wo ad NSw g_2) H1 := hP
    have hGc_4 : ∀ k, k < 2517 → g_2 k = g k := fun k hk => by rw [hG_3]; exact va_up_ne _ _ (by omega)
    have hGo_5 : g_2 2517 = .inl (cA 2517, 1, .inr (.inl fo)) := by rw [hG_3, va_up_self]; exact h17
    generalize H1 = H at hP hS ⊢
    refine W.cs (cells' := 10) (slots' := 60) (by decide) (by decide) ?_
    refine lv_astore (lv' := [(4, .ref q9), (0, .ref (ad 2076)), (1, .int va), (2, .int vp), (3, .int vq)]) hx hb dL_set_10 hl (by decide) rfl (fun ls hl => ?_)
    refine lv_iconst (v := nI 1) hx hb dL_set_12 (by decide +kernel) ?_
    refine W.widen (k := 10) (n := 60) (by omega) (by omega) ?_
    exact W.iret (v := nI 1) hx hb hr (fun t9 ht9 hW9 => ⟨⟨nI 1, (g_2, nI 0, fo), rfl, ⟨Or.inr ⟨CIS.ext hI (fun k hk => ((fun (k : Nat) (hk : k < 2517) => rfl) k hk).trans (hGc_4 k hk)), ⟨rfl, hx9⟩⟩, hGo_5⟩, by show va_P (dC, dI) vwCl _ t9.heap; rw [ht9]; exact hP⟩, hS.F ht9⟩) hS.2.2 dL_set_13
  · obtain ⟨g_6, rfl⟩ : ∃ z, z = u := ⟨_, rfl⟩
    try dsimp only at hw_1 hB
    rw [ht] at hB
    have hP : va_P (dC, dI) vwCl (wo ad (2517 + 1) (va_up g_6 2517 (g 2517))) H1 := wo_join hB (hoA.kept (hk1 _ hoL (fun h => h.2 rfl)))
    obtain ⟨g_7, hG_8⟩ : ∃ z, z = va_up g_6 2517 (g 2517) := ⟨_, rfl⟩
    rw [← hG_8] at hP
    have hP : va_P (dC, dI) vwCl (wo ad NSw g_7) H1 := hP
    have hGc_9 : ∀ k, k < 2517 → g_7 k = g_6 k := fun k hk => by rw [hG_8]; exact va_up_ne _ _ (by omega)
    have hGo_10 : g_7 2517 = .inl (cA 2517, 1, .inr (.inl fo)) := by rw [hG_8, va_up_self]; exact h17
    generalize H1 = H at hP hS ⊢
    refine W.cs (cells' := 10) (slots' := 60) (by decide) (by decide) ?_
    refine lv_goto (tgt := 14) hx hb dL_set_7 (by decide) ?_
    refine lv_iconst (v := nI 0) hx hb dL_set_14 (by decide +kernel) ?_
    refine W.widen (k := 10) (n := 60) (by omega) (by omega) ?_
    exact W.iret (v := nI 0) hx hb hr (fun t9 ht9 hW9 => ⟨⟨nI 0, (g_7, nI 0, fo), rfl, ⟨Or.inl ⟨⟨CIS.ext hw_1.1 (fun k hk => ((fun (k : Nat) (hk : k < 2517) => rfl) k hk).trans (hGc_9 k hk)), hw_1.2⟩, rfl⟩, hGo_10⟩, by show va_P (dC, dI) vwCl _ t9.heap; rw [ht9]; exact hP⟩, hS.F ht9⟩) hS.2.2 dL_set_15
def wd_L_gradient : List Cond := .codeWith yL_gradient cL_gradient 3 (some .int) [(0, 5, 8, 13), (0, 5, 11, 25)] :: (([.methodLink RL 44 yX9_gradient, .instanceMethod yX9_gradient, .selects RX9 yX9_gradient yX9_gradient, .initialized RX9, .classLink RL 13 "java/lang/IllegalArgumentException", .classLink RL 25 "java/util/NoSuchElementException"] : List Cond) ++ (wd_W9_gradient ++ ([])))
theorem gw_L_gradient : wd_L_gradient.all goodWord = true := k_allc rfl (k_all (by decide +kernel) (k_all (gw_W9_gradient) (rfl)))
set_option maxHeartbeats 4000000 in
set_option maxRecDepth 100000 in
theorem c_L_gradient (l : Launch) (hlt : l.stackTraces = false) (dC : Nat → ClassId) (dI : Nat → Nat → Nat) (A : Nat → Prop) (ad : Nat → Nat) (cA : Nat → ClassId) (g : Nat → va_E) (L : List PD) (nm : Nat → Int) (tx : Nat → Nat) (ty : Nat) (wp : Int32) (v : Int32) (fo : Nat → Int64) (hI : CIS ad cA g L nm tx ty wp) (h17 : g 2517 = .inl (cA 2517, 1, .inr (.inl fo))) : Met l yL_gradient wd_L_gradient ({ frames := 100, cells := 10, slots := 60, locals := 2000 }) (va_Pc [.ref (ad 2076), .int v] (fun U => PR NSw tyw dC dI A ad cA g U ∧ exF A U U.heap)) (va_Qi (fun (r : Int32) => fun (u : (Nat → va_E) × Int32 × (Nat → Int64)) => match u with | (g2, r0, fo2) => (((CIS ad cA g2 L nm tx ty wp ∧ ∃ a9 : Nat, v = nI a9 ∧ a9 ≤ 7 ∧ 0 ≤ nm a9) ∧ r = nI 0) ∨ (CIS ad cA g2 L nm tx ty wp ∧ ((r = nI 1 ∧ ¬ (0 ≤ v.toInt ∧ v.toInt ≤ 7)) ∨ (r = nI 2 ∧ ∃ a9 : Nat, v = nI a9 ∧ a9 ≤ 7 ∧ nm a9 < 0)))) ∧ g2 2517 = .inl (cA 2517, 1, .inr (.inl fo2))) (fun (u : (Nat → va_E) × Int32 × (Nat → Int64)) (t : State) => va_P (dC, dI) vwCl (wo ad NSw u.1) t.heap) A) (10) (60) A := by
  refine k_ofWH (hh := [(0, 5, 8, 13), (0, 5, 11, 25)]) (cc := cL_gradient) (maxL := 3) (ret := (some .int)) (by decide) rfl ?_
  intro p e s m args below meth c s₁ B hml hv
  obtain ⟨rfl, ⟨hA, hP, hL⟩, hE⟩ := hv
  have hx := B.exec
  have hb := B.bytes
  have hr := B.returns
  have hts := atoms_spec (ws := wd_L_gradient) B.pre
  have hown : s.vm.findClass RL = some m.cls := findClass_of_methodNamed B.named
  have hlocks := B.notSynchronized
  have hK := hL.1
  have hD : ∀ g, va_D A (wo ad NSw g) := fun g => wo_D hL.2.1 hL.2.2 g
  have hS : va_S A s.heap s.heap [] := va_S.rf
  have bk0 : ∀ w ∈ wd_W9_gradient, w ∈ wd_L_gradient := fun _ h => List.mem_cons_of_mem _ (List.mem_append_right _ (List.mem_append_left _ h))
  have hl := lv_entry ([.ref (ad 2076), .int v]) (n := 3) (Nat.le_of_ble_eq_true rfl)
  rw [lg_entry_eq]
  generalize (lg_sl ([.ref (ad 2076), .int v]) ++ List.replicate (3 - (lg_sl ([.ref (ad 2076), .int v])).length) Slot.unset).toArray = ls at hl ⊢
  have hl : lv_has ls 3 [(0, .ref (ad 2076)), (1, .int v)] := hl
  have htb : c.exceptionTable.toList = [⟨0, 5, 8, 13⟩, ⟨0, 5, 11, 25⟩] := (vx_table (x := yL_gradient) B (hts (.codeWith yL_gradient cL_gradient 3 (some .int) [(0, 5, 8, 13), (0, 5, 11, 25)]) List.mem_cons_self)).trans rfl
  refine lv_aload_n hx hb dL_gradient_0 rfl (lv_at hl 0 rfl) ?_
  refine lv_iload_n hx hb dL_gradient_1 rfl (lv_at hl 1 rfl) ?_
  have hPc : va_P (dC, dI) vwCl (wo ad NSc g) s.heap := wo_cut hP (by decide)
  have hLc := LY.cut hL
  have hoL : ad 2517 < s.heap.size := (hP 2517 _ (wo_at (by decide) rfl)).lt
  have hoA := hP 2517 _ (wo_at (by decide) rfl)
  have hA2 : ∀ q9, s.heap.size ≤ q9 → (fun q9 => A q9 ∧ q9 ≠ ad 2517) q9 := fun q9 h => ⟨hA q9 h, by intro he; omega⟩
  refine vx_callv (vx_runV (As := [.int v]) (rest := []) ⟨hx, hb, hml, hown, hts⟩ (c_W9_gradient l hlt dC dI (fun q9 => A q9 ∧ q9 ≠ ad 2517) ad cA g L nm tx ty wp v hI) (cwV 1 hts (goodIn_app (goodIn_r [Cond.methodLink RL 44 yX9_gradient, Cond.instanceMethod yX9_gradient, Cond.selects RX9 yX9_gradient yX9_gradient, Cond.initialized RX9] [1, 2, 3, 4] rfl rfl) (goodIn_sub (fun w9 h9 => bk0 w9 h9) gw_W9_gradient)) rfl rfl rfl (by decide +kernel) ⟨Nat.le_of_ble_eq_true rfl, Nat.le_of_ble_eq_true rfl⟩) ⟨fun a U g mk q => ⟨q.1, ⟨q.2.1.1, q.2.1.2.1, LY.moved (u := U) (U := U.calling g mk a) (Vm.Alike.refl U.vm) q.2.1.2.2⟩, exF.same rfl rfl q.2.2⟩, va_recv hLc.1 hPc (ci := 12) (q0 := 2076) rfl (wo_at (by decide) hI.1), fun U hU hW => ⟨rfl, ⟨by rw [hU]; exact hA2, by rw [hU]; exact hPc, LY.moved hW.alike hLc⟩, by rw [hU]; exact exF.warm hW (hE.narrow (fun _ h => h.1))⟩⟩ rfl rfl hl.1 rfl (lv_room (Nat.le_of_ble_eq_true rfl)) dL_gradient_2 ⟨Nat.le_of_ble_eq_true rfl, Nat.le_of_ble_eq_true rfl⟩) hS (fun q _ h => h.1) (fun q h => h.1) (fun q _ h => h.1) (fun E ce q9 u t H1 locs1 ht hvm hpx hbx hz1 hk1 hS hce hcv hcl => ?_) (fun u t H1 locs ht hvm hw_1 hB hz1 hk1 hS => ?_)
  · obtain ⟨dx1, dx2, dx3, dx4, dx5, dx6, dx7, dx8, dx9⟩ := hE.2.2.2
    obtain ⟨hbx, hPx⟩ := hbx
    rw [ht] at hPx
    rcases hbx with ⟨rfl, hx9⟩ | ⟨rfl, hx9⟩
    · skip
      refine k_catch1 (own := RL) (name := "java/lang/IllegalArgumentException") hown ⟨0, 5, 8, 13⟩ _ htb (by decide) (by decide) (hts (.classLink RL 13 "java/lang/IllegalArgumentException") (List.mem_of_getElem? (i := 5) rfl)) (va_Nw.use rfl dx4) hce hcv hcl ?_
      have hP : va_P (dC, dI) vwCl (wo ad (2517 + 1) (va_up g 2517 (g 2517))) H1 := wo_join hPx (hoA.kept (hk1 _ hoL (fun h => h.2 rfl)))
      obtain ⟨g_2, hG_3⟩ : ∃ z, z = va_up g 2517 (g 2517) := ⟨_, rfl⟩
      rw [← hG_3] at hP
      have hP : va_P (dC, dI) vwCl (wo ad NSw g_2) H1 := hP
      have hGc_4 : ∀ k, k < 2517 → g_2 k = g k := fun k hk => by rw [hG_3]; exact va_up_ne _ _ (by omega)
      have hGo_5 : g_2 2517 = .inl (cA 2517, 1, .inr (.inl fo)) := by rw [hG_3, va_up_self]; exact h17
      generalize H1 = H at hP hS ⊢
      refine W.cs (cells' := 10) (slots' := 60) (by decide) (by decide) ?_
      refine lv_astore_n (lv' := [(2, .ref q9), (0, .ref (ad 2076)), (1, .int v)]) hx hb dL_gradient_8 rfl hl (by decide) rfl (fun ls hl => ?_)
      refine lv_iconst (v := nI 1) hx hb dL_gradient_9 (by decide +kernel) ?_
      refine W.widen (k := 10) (n := 60) (by omega) (by omega) ?_
      exact W.iret (v := nI 1) hx hb hr (fun t9 ht9 hW9 => ⟨⟨nI 1, (g_2, nI 0, fo), rfl, ⟨Or.inr ⟨CIS.ext hI (fun k hk => ((fun (k : Nat) (hk : k < 2517) => rfl) k hk).trans (hGc_4 k hk)), Or.inl ⟨rfl, hx9⟩⟩, hGo_5⟩, by show va_P (dC, dI) vwCl _ t9.heap; rw [ht9]; exact hP⟩, hS.F ht9⟩) hS.2.2 dL_gradient_10
    · skip
      refine k_catch2 (own := RL) (name := "java/util/NoSuchElementException") (nm := "java/lang/IllegalArgumentException") hown ⟨0, 5, 8, 13⟩ ⟨0, 5, 11, 25⟩ _ htb (by decide) (by decide) (hts (.classLink RL 13 "java/lang/IllegalArgumentException") (List.mem_of_getElem? (i := 5) rfl)) dx8 (by decide) (by decide) (hts (.classLink RL 25 "java/util/NoSuchElementException") (List.mem_of_getElem? (i := 6) rfl)) (va_Nw.use rfl dx7) hce hcv hcl ?_
      have hP : va_P (dC, dI) vwCl (wo ad (2517 + 1) (va_up g 2517 (g 2517))) H1 := wo_join hPx (hoA.kept (hk1 _ hoL (fun h => h.2 rfl)))
      obtain ⟨g_6, hG_7⟩ : ∃ z, z = va_up g 2517 (g 2517) := ⟨_, rfl⟩
      rw [← hG_7] at hP
      have hP : va_P (dC, dI) vwCl (wo ad NSw g_6) H1 := hP
      have hGc_8 : ∀ k, k < 2517 → g_6 k = g k := fun k hk => by rw [hG_7]; exact va_up_ne _ _ (by omega)
      have hGo_9 : g_6 2517 = .inl (cA 2517, 1, .inr (.inl fo)) := by rw [hG_7, va_up_self]; exact h17
      generalize H1 = H at hP hS ⊢
      refine W.cs (cells' := 10) (slots' := 60) (by decide) (by decide) ?_
      refine lv_astore_n (lv' := [(2, .ref q9), (0, .ref (ad 2076)), (1, .int v)]) hx hb dL_gradient_11 rfl hl (by decide) rfl (fun ls hl => ?_)
      refine lv_iconst (v := nI 2) hx hb dL_gradient_12 (by decide +kernel) ?_
      refine W.widen (k := 10) (n := 60) (by omega) (by omega) ?_
      exact W.iret (v := nI 2) hx hb hr (fun t9 ht9 hW9 => ⟨⟨nI 2, (g_6, nI 0, fo), rfl, ⟨Or.inr ⟨CIS.ext hI (fun k hk => ((fun (k : Nat) (hk : k < 2517) => rfl) k hk).trans (hGc_8 k hk)), Or.inr ⟨rfl, hx9⟩⟩, hGo_9⟩, by show va_P (dC, dI) vwCl _ t9.heap; rw [ht9]; exact hP⟩, hS.F ht9⟩) hS.2.2 dL_gradient_13
  · obtain ⟨g_10, rfl⟩ : ∃ z, z = u := ⟨_, rfl⟩
    try dsimp only at hw_1 hB
    rw [ht] at hB
    have hP : va_P (dC, dI) vwCl (wo ad (2517 + 1) (va_up g_10 2517 (g 2517))) H1 := wo_join hB (hoA.kept (hk1 _ hoL (fun h => h.2 rfl)))
    obtain ⟨g_11, hG_12⟩ : ∃ z, z = va_up g_10 2517 (g 2517) := ⟨_, rfl⟩
    rw [← hG_12] at hP
    have hP : va_P (dC, dI) vwCl (wo ad NSw g_11) H1 := hP
    have hGc_13 : ∀ k, k < 2517 → g_11 k = g_10 k := fun k hk => by rw [hG_12]; exact va_up_ne _ _ (by omega)
    have hGo_14 : g_11 2517 = .inl (cA 2517, 1, .inr (.inl fo)) := by rw [hG_12, va_up_self]; exact h17
    generalize H1 = H at hP hS ⊢
    refine W.cs (cells' := 10) (slots' := 60) (by decide) (by decide) ?_
    refine lv_goto (tgt := 14) hx hb dL_gradient_5 (by decide) ?_
    refine lv_iconst (v := nI 0) hx hb dL_gradient_14 (by decide +kernel) ?_
    refine W.widen (k := 10) (n := 60) (by omega) (by omega) ?_
    exact W.iret (v := nI 0) hx hb hr (fun t9 ht9 hW9 => ⟨⟨nI 0, (g_11, nI 0, fo), rfl, ⟨Or.inl ⟨⟨CIS.ext hw_1.1 (fun k hk => ((fun (k : Nat) (hk : k < 2517) => rfl) k hk).trans (hGc_13 k hk)), hw_1.2⟩, rfl⟩, hGo_14⟩, by show va_P (dC, dI) vwCl _ t9.heap; rw [ht9]; exact hP⟩, hS.F ht9⟩) hS.2.2 dL_gradient_15
def wd_L_along : List Cond := .codeWith yL_along cL_along 6 (some .int) [(0, 9, 12, 13), (0, 9, 16, 25)] :: (([.methodLink RL 48 yX9_along, .instanceMethod yX9_along, .selects RX9 yX9_along yX9_along, .initialized RX9, .classLink RL 13 "java/lang/IllegalArgumentException", .classLink RL 25 "java/util/NoSuchElementException"] : List Cond) ++ (wd_W9_along ++ ([])))
theorem gw_L_along : wd_L_along.all goodWord = true := k_allc rfl (k_all (by decide +kernel) (k_all (gw_W9_along) (rfl)))
set_option maxHeartbeats 4000000 in
set_option maxRecDepth 100000 in
theorem c_L_along (l : Launch) (hlt : l.stackTraces = false) (dC : Nat → ClassId) (dI : Nat → Nat → Nat) (A : Nat → Prop) (ad : Nat → Nat) (cA : Nat → ClassId) (g : Nat → va_E) (L : List PD) (nm : Nat → Int) (tx : Nat → Nat) (ty : Nat) (wp : Int32) (v : Int32) (w1 : Int32) (w2 : Int32) (w3 : Int32) (fo : Nat → Int64) (hI : CIS ad cA g L nm tx ty wp) (h17 : g 2517 = .inl (cA 2517, 1, .inr (.inl fo))) : Met l yL_along wd_L_along ({ frames := 100, cells := 10, slots := 60, locals := 2000 }) (va_Pc [.ref (ad 2076), .int v, .int w1, .int w2, .int w3] (fun U => PR NSw tyw dC dI A ad cA g U ∧ exF A U U.heap)) (va_Qi (fun (r : Int32) => fun (u : (Nat → va_E) × Int32 × (Nat → Int64)) => match u with | (g2, r0, fo2) => (((CIS ad cA g2 L nm tx ty wp ∧ (0 ≤ v.toInt ∧ v.toInt ≤ 7 ∧ -999 ≤ w1.toInt ∧ w1.toInt ≤ 999 ∧ -999 ≤ w2.toInt ∧ w2.toInt ≤ 999 ∧ -999 ≤ w3.toInt ∧ w3.toInt ≤ 999) ∧ ∃ a9 : Nat, v = nI a9 ∧ a9 ≤ 7 ∧ 0 ≤ nm a9) ∧ r = nI 0) ∨ (CIS ad cA g2 L nm tx ty wp ∧ ((r = nI 1 ∧ ¬ (0 ≤ v.toInt ∧ v.toInt ≤ 7 ∧ -999 ≤ w1.toInt ∧ w1.toInt ≤ 999 ∧ -999 ≤ w2.toInt ∧ w2.toInt ≤ 999 ∧ -999 ≤ w3.toInt ∧ w3.toInt ≤ 999)) ∨ (r = nI 2 ∧ (0 ≤ v.toInt ∧ v.toInt ≤ 7 ∧ -999 ≤ w1.toInt ∧ w1.toInt ≤ 999 ∧ -999 ≤ w2.toInt ∧ w2.toInt ≤ 999 ∧ -999 ≤ w3.toInt ∧ w3.toInt ≤ 999) ∧ ∃ a9 : Nat, v = nI a9 ∧ a9 ≤ 7 ∧ nm a9 < 0)))) ∧ g2 2517 = .inl (cA 2517, 1, .inr (.inl fo2))) (fun (u : (Nat → va_E) × Int32 × (Nat → Int64)) (t : State) => va_P (dC, dI) vwCl (wo ad NSw u.1) t.heap) A) (10) (60) A := by
  refine k_ofWH (hh := [(0, 9, 12, 13), (0, 9, 16, 25)]) (cc := cL_along) (maxL := 6) (ret := (some .int)) (by decide) rfl ?_
  intro p e s m args below meth c s₁ B hml hv
  obtain ⟨rfl, ⟨hA, hP, hL⟩, hE⟩ := hv
  have hx := B.exec
  have hb := B.bytes
  have hr := B.returns
  have hts := atoms_spec (ws := wd_L_along) B.pre
  have hown : s.vm.findClass RL = some m.cls := findClass_of_methodNamed B.named
  have hlocks := B.notSynchronized
  have hK := hL.1
  have hD : ∀ g, va_D A (wo ad NSw g) := fun g => wo_D hL.2.1 hL.2.2 g
  have hS : va_S A s.heap s.heap [] := va_S.rf
  have bk0 : ∀ w ∈ wd_W9_along, w ∈ wd_L_along := fun _ h => List.mem_cons_of_mem _ (List.mem_append_right _ (List.mem_append_left _ h))
  have hl := lv_entry ([.ref (ad 2076), .int v, .int w1, .int w2, .int w3]) (n := 6) (Nat.le_of_ble_eq_true rfl)
  rw [lg_entry_eq]
  generalize (lg_sl ([.ref (ad 2076), .int v, .int w1, .int w2, .int w3]) ++ List.replicate (6 - (lg_sl ([.ref (ad 2076), .int v, .int w1, .int w2, .int w3])).length) Slot.unset).toArray = ls at hl ⊢
  have hl : lv_has ls 6 [(0, .ref (ad 2076)), (1, .int v), (2, .int w1), (3, .int w2), (4, .int w3)] := hl
  have htb : c.exceptionTable.toList = [⟨0, 9, 12, 13⟩, ⟨0, 9, 16, 25⟩] := (vx_table (x := yL_along) B (hts (.codeWith yL_along cL_along 6 (some .int) [(0, 9, 12, 13), (0, 9, 16, 25)]) List.mem_cons_self)).trans rfl
  refine lv_aload_n hx hb dL_along_0 rfl (lv_at hl 0 rfl) ?_
  refine lv_iload_n hx hb dL_along_1 rfl (lv_at hl 1 rfl) ?_
  refine lv_iload_n hx hb dL_along_2 rfl (lv_at hl 2 rfl) ?_
  refine lv_iload_n hx hb dL_along_3 rfl (lv_at hl 3 rfl) ?_
  refine lv_iload hx hb dL_along_4 (lv_at hl 4 rfl) ?_
  have hPc : va_P (dC, dI) vwCl (wo ad NSc g) s.heap := wo_cut hP (by decide)
  have hLc := LY.cut hL
  have hoL : ad 2517 < s.heap.size := (hP 2517 _ (wo_at (by decide) rfl)).lt
  have hoA := hP 2517 _ (wo_at (by decide) rfl)
  have hA2 : ∀ q9, s.heap.size ≤ q9 → (fun q9 => A q9 ∧ q9 ≠ ad 2517) q9 := fun q9 h => ⟨hA q9 h, by intro he; omega⟩
  refine vx_callv (vx_runV (As := [.int v, .int w1, .int w2, .int w3]) (rest := []) ⟨hx, hb, hml, hown, hts⟩ (c_W9_along l hlt dC dI (fun q9 => A q9 ∧ q9 ≠ ad 2517) ad cA g L nm tx ty wp v w1 w2 w3 hI) (cwV 4 hts (goodIn_app (goodIn_r [Cond.methodLink RL 48 yX9_along, Cond.instanceMethod yX9_along, Cond.selects RX9 yX9_along yX9_along, Cond.initialized RX9] [1, 2, 3, 4] rfl rfl) (goodIn_sub (fun w9 h9 => bk0 w9 h9) gw_W9_along)) rfl rfl rfl (by decide +kernel) ⟨Nat.le_of_ble_eq_true rfl, Nat.le_of_ble_eq_true rfl⟩) ⟨fun a U g mk q => ⟨q.1, ⟨q.2.1.1, q.2.1.2.1, LY.moved (u := U) (U := U.calling g mk a) (Vm.Alike.refl U.vm) q.2.1.2.2⟩, exF.same rfl rfl q.2.2⟩, va_recv hLc.1 hPc (ci := 12) (q0 := 2076) rfl (wo_at (by decide) hI.1), fun U hU hW => ⟨rfl, ⟨by rw [hU]; exact hA2, by rw [hU]; exact hPc, LY.moved hW.alike hLc⟩, by rw [hU]; exact exF.warm hW (hE.narrow (fun _ h => h.1))⟩⟩ rfl rfl hl.1 rfl (lv_room (Nat.le_of_ble_eq_true rfl)) dL_along_6 ⟨Nat.le_of_ble_eq_true rfl, Nat.le_of_ble_eq_true rfl⟩) hS (fun q _ h => h.1) (fun q h => h.1) (fun q _ h => h.1) (fun E ce q9 u t H1 locs1 ht hvm hpx hbx hz1 hk1 hS hce hcv hcl => ?_) (fun u t H1 locs ht hvm hw_1 hB hz1 hk1 hS => ?_)
  · obtain ⟨dx1, dx2, dx3, dx4, dx5, dx6, dx7, dx8, dx9⟩ := hE.2.2.2
    obtain ⟨hbx, hPx⟩ := hbx
    rw [ht] at hPx
    rcases hbx with ⟨rfl, hx9⟩ | ⟨rfl, hx9⟩
    · skip
      refine k_catch1 (own := RL) (name := "java/lang/IllegalArgumentException") hown ⟨0, 9, 12, 13⟩ _ htb (by decide) (by decide) (hts (.classLink RL 13 "java/lang/IllegalArgumentException") (List.mem_of_getElem? (i := 5) rfl)) (va_Nw.use rfl dx4) hce hcv hcl ?_
      have hP : va_P (dC, dI) vwCl (wo ad (2517 + 1) (va_up g 2517 (g 2517))) H1 := wo_join hPx (hoA.kept (hk1 _ hoL (fun h => h.2 rfl)))
      obtain ⟨g_2, hG_3⟩ : ∃ z, z = va_up g 2517 (g 2517) := ⟨_, rfl⟩
      rw [← hG_3] at hP
      have hP : va_P (dC, dI) vwCl (wo ad NSw g_2) H1 := hP
      have hGc_4 : ∀ k, k < 2517 → g_2 k = g k := fun k hk => by rw [hG_3]; exact va_up_ne _ _ (by omega)
      have hGo_5 : g_2 2517 = .inl (cA 2517, 1, .inr (.inl fo)) := by rw [hG_3, va_up_self]; exact h17
      generalize H1 = H at hP hS ⊢
      refine W.cs (cells' := 10) (slots' := 60) (by decide) (by decide) ?_
      refine lv_astore (lv' := [(5, .ref q9), (0, .ref (ad 2076)), (1, .int v), (2, .int w1), (3, .int w2), (4, .int w3)]) hx hb dL_along_12 hl (by decide) rfl (fun ls hl => ?_)
      refine lv_iconst (v := nI 1) hx hb dL_along_14 (by decide +kernel) ?_
      refine W.widen (k := 10) (n := 60) (by omega) (by omega) ?_
      exact W.iret (v := nI 1) hx hb hr (fun t9 ht9 hW9 => ⟨⟨nI 1, (g_2, nI 0, fo), rfl, ⟨Or.inr ⟨CIS.ext hI (fun k hk => ((fun (k : Nat) (hk : k < 2517) => rfl) k hk).trans (hGc_4 k hk)), Or.inl ⟨rfl, hx9⟩⟩, hGo_5⟩, by show va_P (dC, dI) vwCl _ t9.heap; rw [ht9]; exact hP⟩, hS.F ht9⟩) hS.2.2 dL_along_15
    · skip
      refine k_catch2 (own := RL) (name := "java/util/NoSuchElementException") (nm := "java/lang/IllegalArgumentException") hown ⟨0, 9, 12, 13⟩ ⟨0, 9, 16, 25⟩ _ htb (by decide) (by decide) (hts (.classLink RL 13 "java/lang/IllegalArgumentException") (List.mem_of_getElem? (i := 5) rfl)) dx8 (by decide) (by decide) (hts (.classLink RL 25 "java/util/NoSuchElementException") (List.mem_of_getElem? (i := 6) rfl)) (va_Nw.use rfl dx7) hce hcv hcl ?_
      have hP : va_P (dC, dI) vwCl (wo ad (2517 + 1) (va_up g 2517 (g 2517))) H1 := wo_join hPx (hoA.kept (hk1 _ hoL (fun h => h.2 rfl)))
      obtain ⟨g_6, hG_7⟩ : ∃ z, z = va_up g 2517 (g 2517) := ⟨_, rfl⟩
      rw [← hG_7] at hP
      have hP : va_P (dC, dI) vwCl (wo ad NSw g_6) H1 := hP
      have hGc_8 : ∀ k, k < 2517 → g_6 k = g k := fun k hk => by rw [hG_7]; exact va_up_ne _ _ (by omega)
      have hGo_9 : g_6 2517 = .inl (cA 2517, 1, .inr (.inl fo)) := by rw [hG_7, va_up_self]; exact h17
      generalize H1 = H at hP hS ⊢
      refine W.cs (cells' := 10) (slots' := 60) (by decide) (by decide) ?_
      refine lv_astore (lv' := [(5, .ref q9), (0, .ref (ad 2076)), (1, .int v), (2, .int w1), (3, .int w2), (4, .int w3)]) hx hb dL_along_16 hl (by decide) rfl (fun ls hl => ?_)
      refine lv_iconst (v := nI 2) hx hb dL_along_18 (by decide +kernel) ?_
      refine W.widen (k := 10) (n := 60) (by omega) (by omega) ?_
      exact W.iret (v := nI 2) hx hb hr (fun t9 ht9 hW9 => ⟨⟨nI 2, (g_6, nI 0, fo), rfl, ⟨Or.inr ⟨CIS.ext hI (fun k hk => ((fun (k : Nat) (hk : k < 2517) => rfl) k hk).trans (hGc_8 k hk)), Or.inr ⟨rfl, hx9⟩⟩, hGo_9⟩, by show va_P (dC, dI) vwCl _ t9.heap; rw [ht9]; exact hP⟩, hS.F ht9⟩) hS.2.2 dL_along_19
  · obtain ⟨g_10, rfl⟩ : ∃ z, z = u := ⟨_, rfl⟩
    try dsimp only at hw_1 hB
    rw [ht] at hB
    have hP : va_P (dC, dI) vwCl (wo ad (2517 + 1) (va_up g_10 2517 (g 2517))) H1 := wo_join hB (hoA.kept (hk1 _ hoL (fun h => h.2 rfl)))
    obtain ⟨g_11, hG_12⟩ : ∃ z, z = va_up g_10 2517 (g 2517) := ⟨_, rfl⟩
    rw [← hG_12] at hP
    have hP : va_P (dC, dI) vwCl (wo ad NSw g_11) H1 := hP
    have hGc_13 : ∀ k, k < 2517 → g_11 k = g_10 k := fun k hk => by rw [hG_12]; exact va_up_ne _ _ (by omega)
    have hGo_14 : g_11 2517 = .inl (cA 2517, 1, .inr (.inl fo)) := by rw [hG_12, va_up_self]; exact h17
    generalize H1 = H at hP hS ⊢
    refine W.cs (cells' := 10) (slots' := 60) (by decide) (by decide) ?_
    refine lv_goto (tgt := 20) hx hb dL_along_9 (by decide) ?_
    refine lv_iconst (v := nI 0) hx hb dL_along_20 (by decide +kernel) ?_
    refine W.widen (k := 10) (n := 60) (by omega) (by omega) ?_
    exact W.iret (v := nI 0) hx hb hr (fun t9 ht9 hW9 => ⟨⟨nI 0, (g_11, nI 0, fo), rfl, ⟨Or.inl ⟨⟨CIS.ext hw_1.1 (fun k hk => ((fun (k : Nat) (hk : k < 2517) => rfl) k hk).trans (hGc_13 k hk)), hw_1.2⟩, rfl⟩, hGo_14⟩, by show va_P (dC, dI) vwCl _ t9.heap; rw [ht9]; exact hP⟩, hS.F ht9⟩) hS.2.2 dL_along_21
end
section
def wd_L_define : List Cond := .codeWith yL_define cL_define 4 (some .int) [(0, 9, 12, 13)] :: (([.methodLink RL 17 yX9_define, .instanceMethod yX9_define, .selects RX9 yX9_define yX9_define, .initialized RX9, .classLink RL 13 "java/lang/IllegalArgumentException"] : List Cond) ++ (wd_W9_define ++ ([])))
theorem gw_L_define : wd_L_define.all goodWord = true := k_allc rfl (k_all (by decide +kernel) (k_all (gw_W9_define) (rfl)))
set_option maxHeartbeats 4000000 in
set_option maxRecDepth 100000 in
theorem c_L_define (l : Launch) (hlt : l.stackTraces = false) (dC : Nat → ClassId) (dI : Nat → Nat → Nat) (A : Nat → Prop) (ad : Nat → Nat) (cA : Nat → ClassId) (g : Nat → va_E) (L : List PD) (nm : Nat → Int) (tx : Nat → Nat) (ty : Nat) (wp : Int32) (v : Int32) (fo : Nat → Int64) (hI : CIS ad cA g L nm tx ty wp) (h17 : g 2517 = .inl (cA 2517, 1, .inr (.inl fo))) : Met l yL_define wd_L_define ({ frames := 100, cells := 10, slots := 60, locals := 2000 }) (va_Pc [.ref (ad 2076), .int v, .ref (ad 2517)] (fun U => PR NSw tyw dC dI A ad cA g U ∧ exF A U U.heap)) (va_Qi (fun (r : Int32) => fun (u : (Nat → va_E) × (List PD) × (Nat → Int) × Int32 × Int32 × (Nat → Int64)) => match u with | (g2, L2, nm2, wp2, r0, fo2) => (((CIS ad cA g2 L2 nm2 tx 0 wp2 ∧ ∃ vn, v = nI vn ∧ vn ≤ 7 ∧ DFC tx ty nm L vn wp2 r0 L2 nm2) ∧ r = nI 0 ∧ fo2 0 = r0.toInt64) ∨ (CIS ad cA g2 L nm tx ty wp ∧ (r = nI 1 ∧ ¬ (0 ≤ v.toInt ∧ v.toInt ≤ 7)))) ∧ g2 2517 = .inl (cA 2517, 1, .inr (.inl fo2))) (fun (u : (Nat → va_E) × (List PD) × (Nat → Int) × Int32 × Int32 × (Nat → Int64)) (t : State) => va_P (dC, dI) vwCl (wo ad NSw u.1) t.heap) A) (10) (60) A := by
  refine k_ofWH (hh := [(0, 9, 12, 13)]) (cc := cL_define) (maxL := 4) (ret := (some .int)) (by decide) rfl ?_
  intro p e s m args below meth c s₁ B hml hv
  obtain ⟨rfl, ⟨hA, hP, hL⟩, hE⟩ := hv
  have hx := B.exec
  have hb := B.bytes
  have hr := B.returns
  have hts := atoms_spec (ws := wd_L_define) B.pre
  have hown : s.vm.findClass RL = some m.cls := findClass_of_methodNamed B.named
  have hlocks := B.notSynchronized
  have hK := hL.1
  have hD : ∀ g, va_D A (wo ad NSw g) := fun g => wo_D hL.2.1 hL.2.2 g
  have hS : va_S A s.heap s.heap [] := va_S.rf
  have bk0 : ∀ w ∈ wd_W9_define, w ∈ wd_L_define := fun _ h => List.mem_cons_of_mem _ (List.mem_append_right _ (List.mem_append_left _ h))
  have hl := lv_entry ([.ref (ad 2076), .int v, .ref (ad 2517)]) (n := 4) (Nat.le_of_ble_eq_true rfl)
  rw [lg_entry_eq]
  generalize (lg_sl ([.ref (ad 2076), .int v, .ref (ad 2517)]) ++ List.replicate (4 - (lg_sl ([.ref (ad 2076), .int v, .ref (ad 2517)])).length) Slot.unset).toArray = ls at hl ⊢
  have hl : lv_has ls 4 [(0, .ref (ad 2076)), (1, .int v), (2, .ref (ad 2517))] := hl
  have htb : c.exceptionTable.toList = [⟨0, 9, 12, 13⟩] := (vx_table (x := yL_define) B (hts (.codeWith yL_define cL_define 4 (some .int) [(0, 9, 12, 13)]) List.mem_cons_self)).trans rfl
  refine lv_aload_n hx hb dL_define_0 rfl (lv_at hl 2 rfl) ?_
  refine lv_iconst (v := nI 0) hx hb dL_define_1 (by decide +kernel) ?_
  refine lv_aload_n hx hb dL_define_2 rfl (lv_at hl 0 rfl) ?_
  refine lv_iload_n hx hb dL_define_3 rfl (lv_at hl 1 rfl) ?_
  have hPc : va_P (dC, dI) vwCl (wo ad NSc g) s.heap := wo_cut hP (by decide)
  have hLc := LY.cut hL
  have hoL : ad 2517 < s.heap.size := (hP 2517 _ (wo_at (by decide) rfl)).lt
  have hoA := hP 2517 _ (wo_at (by decide) rfl)
  have hA2 : ∀ q9, s.heap.size ≤ q9 → (fun q9 => A q9 ∧ q9 ≠ ad 2517) q9 := fun q9 h => ⟨hA q9 h, by intro he; omega⟩
  refine vx_calli (vx_runV (As := [.int v]) (rest := [.int (nI 0), .ref (ad 2517)]) ⟨hx, hb, hml, hown, hts⟩ (c_W9_define l hlt dC dI (fun q9 => A q9 ∧ q9 ≠ ad 2517) ad cA g L nm tx ty wp v hI) (cwV 1 hts (goodIn_app (goodIn_r [Cond.methodLink RL 17 yX9_define, Cond.instanceMethod yX9_define, Cond.selects RX9 yX9_define yX9_define, Cond.initialized RX9] [1, 2, 3, 4] rfl rfl) (goodIn_sub (fun w9 h9 => bk0 w9 h9) gw_W9_define)) rfl rfl rfl (by decide +kernel) ⟨Nat.le_of_ble_eq_true rfl, Nat.le_of_ble_eq_true rfl⟩) ⟨fun a U g mk q => ⟨q.1, ⟨q.2.1.1, q.2.1.2.1, LY.moved (u := U) (U := U.calling g mk a) (Vm.Alike.refl U.vm) q.2.1.2.2⟩, exF.same rfl rfl q.2.2⟩, va_recv hLc.1 hPc (ci := 12) (q0 := 2076) rfl (wo_at (by decide) hI.1), fun U hU hW => ⟨rfl, ⟨by rw [hU]; exact hA2, by rw [hU]; exact hPc, LY.moved hW.alike hLc⟩, by rw [hU]; exact exF.warm hW (hE.narrow (fun _ h => h.1))⟩⟩ rfl rfl hl.1 rfl (lv_room (Nat.le_of_ble_eq_true rfl)) dL_define_4 ⟨Nat.le_of_ble_eq_true rfl, Nat.le_of_ble_eq_true rfl⟩) hS (fun q _ h => h.1) (fun q h => h.1) (fun q _ h => h.1) (fun E ce q9 u t H1 locs1 ht hvm hpx hbx hz1 hk1 hS hce hcv hcl => ?_) (fun r_1 u t H1 locs ht hvm hw_2 hB hz1 hk1 hS => ?_)
  · obtain ⟨dx1, dx2, dx3, dx4, dx5, dx6, dx7, dx8, dx9⟩ := hE.2.2.2
    obtain ⟨hbx, hPx⟩ := hbx
    rw [ht] at hPx
    obtain ⟨rfl, hx9⟩ := hbx
    refine k_catch1 (own := RL) (name := "java/lang/IllegalArgumentException") hown ⟨0, 9, 12, 13⟩ _ htb (by decide) (by decide) (hts (.classLink RL 13 "java/lang/IllegalArgumentException") (List.mem_of_getElem? (i := 5) rfl)) (va_Nw.use rfl dx4) hce hcv hcl ?_
    have hP : va_P (dC, dI) vwCl (wo ad (2517 + 1) (va_up g 2517 (g 2517))) H1 := wo_join hPx (hoA.kept (hk1 _ hoL (fun h => h.2 rfl)))
    obtain ⟨g_3, hG_4⟩ : ∃ z, z = va_up g 2517 (g 2517) := ⟨_, rfl⟩
    rw [← hG_4] at hP
    have hP : va_P (dC, dI) vwCl (wo ad NSw g_3) H1 := hP
    have hGc_5 : ∀ k, k < 2517 → g_3 k = g k := fun k hk => by rw [hG_4]; exact va_up_ne _ _ (by omega)
    have hGo_6 : g_3 2517 = .inl (cA 2517, 1, .inr (.inl fo)) := by rw [hG_4, va_up_self]; exact h17
    generalize H1 = H at hP hS ⊢
    refine W.cs (cells' := 10) (slots' := 60) (by decide) (by decide) ?_
    refine lv_astore_n (lv' := [(3, .ref q9), (0, .ref (ad 2076)), (1, .int v), (2, .ref (ad 2517))]) hx hb dL_define_12 rfl hl (by decide) rfl (fun ls hl => ?_)
    refine lv_iconst (v := nI 1) hx hb dL_define_13 (by decide +kernel) ?_
    refine W.widen (k := 10) (n := 60) (by omega) (by omega) ?_
    exact W.iret (v := nI 1) hx hb hr (fun t9 ht9 hW9 => ⟨⟨nI 1, (g_3, L, nm, wp, nI 0, fo), rfl, ⟨Or.inr ⟨CIS.ext hI (fun k hk => ((fun (k : Nat) (hk : k < 2517) => rfl) k hk).trans (hGc_5 k hk)), ⟨rfl, hx9⟩⟩, hGo_6⟩, by show va_P (dC, dI) vwCl _ t9.heap; rw [ht9]; exact hP⟩, hS.F ht9⟩) hS.2.2 dL_define_14
  · obtain ⟨g_7, L2_8, nm2_9, wp2_10⟩ := u
    try dsimp only at hw_2 hB
    rw [ht] at hB
    have hP : va_P (dC, dI) vwCl (wo ad (2517 + 1) (va_up g_7 2517 (g 2517))) H1 := wo_join hB (hoA.kept (hk1 _ hoL (fun h => h.2 rfl)))
    obtain ⟨g_11, hG_12⟩ : ∃ z, z = va_up g_7 2517 (g 2517) := ⟨_, rfl⟩
    rw [← hG_12] at hP
    have hP : va_P (dC, dI) vwCl (wo ad NSw g_11) H1 := hP
    have hGc_13 : ∀ k, k < 2517 → g_11 k = g_7 k := fun k hk => by rw [hG_12]; exact va_up_ne _ _ (by omega)
    have hGo_14 : g_11 2517 = .inl (cA 2517, 1, .inr (.inl fo)) := by rw [hG_12, va_up_self]; exact h17
    generalize H1 = H at hP hS ⊢
    refine W.cs (cells' := 10) (slots' := 60) (by decide) (by decide) ?_
    refine lv_i2l hx hb dL_define_7 rfl ?_
    refine lv_topl (fun y_15 e_16 => ?_)
    refine m_last hx hb hK hP hD hS 2517 (by decide) rfl hGo_14 (i := 0) (x := y_15) (by decide) (by decide) dL_define_8 (fun H locs g_17 f_18 fr_19 hP hS => ?_)
    have f_18 : g_17 2517 = .inl (cA 2517, 1, .inr (.inl (vp_updL fo 0 y_15))) := f_18
    refine lv_goto (tgt := 15) hx hb dL_define_9 (by decide) ?_
    refine lv_iconst (v := nI 0) hx hb dL_define_15 (by decide +kernel) ?_
    refine W.widen (k := 10) (n := 60) (by omega) (by omega) ?_
    exact W.iret (v := nI 0) hx hb hr (fun t9 ht9 hW9 => ⟨⟨nI 0, (g_17, L2_8, nm2_9, wp2_10, r_1, (vp_updL fo 0 y_15)), rfl, ⟨Or.inl ⟨⟨CIS.ext hw_2.1 (fun k hk => ((fun (k : Nat) (hk : k < 2517) => (fr_19 k (by omega)).trans (rfl)) k hk).trans (hGc_13 k hk)), hw_2.2⟩, rfl, (by show vp_updL fo 0 y_15 0 = _; unfold vp_updL; rw [if_pos rfl, e_16])⟩, f_18⟩, by show va_P (dC, dI) vwCl _ t9.heap; rw [ht9]; exact hP⟩, hS.F ht9⟩) hS.2.2 dL_define_16
def wd_L_parts : List Cond := .codeWith yL_parts cL_parts 4 (some .int) [(0, 9, 12, 13), (0, 9, 15, 25)] :: (([.methodLink RL 27 yX9_parts, .instanceMethod yX9_parts, .selects RX9 yX9_parts yX9_parts, .initialized RX9, .classLink RL 13 "java/lang/IllegalArgumentException", .classLink RL 25 "java/util/NoSuchElementException"] : List Cond) ++ (wd_W9_parts ++ ([])))
theorem gw_L_parts : wd_L_parts.all goodWord = true := k_allc rfl (k_all (by decide +kernel) (k_all (gw_W9_parts) (rfl)))
set_option maxHeartbeats 4000000 in
set_option maxRecDepth 100000 in
theorem c_L_parts (l : Launch) (hlt : l.stackTraces = false) (dC : Nat → ClassId) (dI : Nat → Nat → Nat) (A : Nat → Prop) (ad : Nat → Nat) (cA : Nat → ClassId) (g : Nat → va_E) (L : List PD) (nm : Nat → Int) (tx : Nat → Nat) (ty : Nat) (wp : Int32) (v : Int32) (fo : Nat → Int64) (hI : CIS ad cA g L nm tx ty wp) (h17 : g 2517 = .inl (cA 2517, 1, .inr (.inl fo))) : Met l yL_parts wd_L_parts ({ frames := 40, cells := 10, slots := 60, locals := 800 }) (va_Pc [.ref (ad 2076), .int v, .ref (ad 2517)] (fun U => PR NSw tyw dC dI A ad cA g U ∧ exF A U U.heap)) (va_Qi (fun (r : Int32) => fun (u : (Nat → va_E) × Int32 × (Nat → Int64)) => match u with | (g2, r0, fo2) => (((CIS ad cA g2 L nm tx ty wp ∧ ∃ a9 : Nat, v = nI a9 ∧ a9 ≤ 7 ∧ 0 ≤ nm a9 ∧ r0 = nI (cntB (rchN L (nm a9).toNat ((nm a9).toNat + 1)) 200)) ∧ r = nI 0 ∧ fo2 0 = r0.toInt64) ∨ (CIS ad cA g2 L nm tx ty wp ∧ ((r = nI 1 ∧ ¬ (0 ≤ v.toInt ∧ v.toInt ≤ 7)) ∨ (r = nI 2 ∧ ∃ a9 : Nat, v = nI a9 ∧ a9 ≤ 7 ∧ nm a9 < 0)))) ∧ g2 2517 = .inl (cA 2517, 1, .inr (.inl fo2))) (fun (u : (Nat → va_E) × Int32 × (Nat → Int64)) (t : State) => va_P (dC, dI) vwCl (wo ad NSw u.1) t.heap) A) (10) (60) A := by
  refine k_ofWH (hh := [(0, 9, 12, 13), (0, 9, 15, 25)]) (cc := cL_parts) (maxL := 4) (ret := (some .int)) (by decide) rfl ?_
  intro p e s m args below meth c s₁ B hml hv
  obtain ⟨rfl, ⟨hA, hP, hL⟩, hE⟩ := hv
  have hx := B.exec
  have hb := B.bytes
  have hr := B.returns
  have hts := atoms_spec (ws := wd_L_parts) B.pre
  have hown : s.vm.findClass RL = some m.cls := findClass_of_methodNamed B.named
  have hlocks := B.notSynchronized
  have hK := hL.1
  have hD : ∀ g, va_D A (wo ad NSw g) := fun g => wo_D hL.2.1 hL.2.2 g
  have hS : va_S A s.heap s.heap [] := va_S.rf
  have bk0 : ∀ w ∈ wd_W9_parts, w ∈ wd_L_parts := fun _ h => List.mem_cons_of_mem _ (List.mem_append_right _ (List.mem_append_left _ h))
  have hl := lv_entry ([.ref (ad 2076), .int v, .ref (ad 2517)]) (n := 4) (Nat.le_of_ble_eq_true rfl)
  rw [lg_entry_eq]
  generalize (lg_sl ([.ref (ad 2076), .int v, .ref (ad 2517)]) ++ List.replicate (4 - (lg_sl ([.ref (ad 2076), .int v, .ref (ad 2517)])).length) Slot.unset).toArray = ls at hl ⊢
  have hl : lv_has ls 4 [(0, .ref (ad 2076)), (1, .int v), (2, .ref (ad 2517))] := hl
  have htb : c.exceptionTable.toList = [⟨0, 9, 12, 13⟩, ⟨0, 9, 15, 25⟩] := (vx_table (x := yL_parts) B (hts (.codeWith yL_parts cL_parts 4 (some .int) [(0, 9, 12, 13), (0, 9, 15, 25)]) List.mem_cons_self)).trans rfl
  refine lv_aload_n hx hb dL_parts_0 rfl (lv_at hl 2 rfl) ?_
  refine lv_iconst (v := nI 0) hx hb dL_parts_1 (by decide +kernel) ?_
  refine lv_aload_n hx hb dL_parts_2 rfl (lv_at hl 0 rfl) ?_
  refine lv_iload_n hx hb dL_parts_3 rfl (lv_at hl 1 rfl) ?_
  have hPc : va_P (dC, dI) vwCl (wo ad NSc g) s.heap := wo_cut hP (by decide)
  have hLc := LY.cut hL
  have hoL : ad 2517 < s.heap.size := (hP 2517 _ (wo_at (by decide) rfl)).lt
  have hoA := hP 2517 _ (wo_at (by decide) rfl)
  have hA2 : ∀ q9, s.heap.size ≤ q9 → (fun q9 => A q9 ∧ q9 ≠ ad 2517) q9 := fun q9 h => ⟨hA q9 h, by intro he; omega⟩
  refine vx_calli (vx_runV (As := [.int v]) (rest := [.int (nI 0), .ref (ad 2517)]) ⟨hx, hb, hml, hown, hts⟩ (c_W9_parts l hlt dC dI (fun q9 => A q9 ∧ q9 ≠ ad 2517) ad cA g L nm tx ty wp v hI) (cwV 1 hts (goodIn_app (goodIn_r [Cond.methodLink RL 27 yX9_parts, Cond.instanceMethod yX9_parts, Cond.selects RX9 yX9_parts yX9_parts, Cond.initialized RX9] [1, 2, 3, 4] rfl rfl) (goodIn_sub (fun w9 h9 => bk0 w9 h9) gw_W9_parts)) rfl rfl rfl (by decide +kernel) ⟨Nat.le_of_ble_eq_true rfl, Nat.le_of_ble_eq_true rfl⟩) ⟨fun a U g mk q => ⟨q.1, ⟨q.2.1.1, q.2.1.2.1, LY.moved (u := U) (U := U.calling g mk a) (Vm.Alike.refl U.vm) q.2.1.2.2⟩, exF.same rfl rfl q.2.2⟩, va_recv hLc.1 hPc (ci := 12) (q0 := 2076) rfl (wo_at (by decide) hI.1), fun U hU hW => ⟨rfl, ⟨by rw [hU]; exact hA2, by rw [hU]; exact hPc, LY.moved hW.alike hLc⟩, by rw [hU]; exact exF.warm hW (hE.narrow (fun _ h => h.1))⟩⟩ rfl rfl hl.1 rfl (lv_room (Nat.le_of_ble_eq_true rfl)) dL_parts_4 ⟨Nat.le_of_ble_eq_true rfl, Nat.le_of_ble_eq_true rfl⟩) hS (fun q _ h => h.1) (fun q h => h.1) (fun q _ h => h.1) (fun E ce q9 u t H1 locs1 ht hvm hpx hbx hz1 hk1 hS hce hcv hcl => ?_) (fun r_1 u t H1 locs ht hvm hw_2 hB hz1 hk1 hS => ?_)
  · obtain ⟨dx1, dx2, dx3, dx4, dx5, dx6, dx7, dx8, dx9⟩ := hE.2.2.2
    obtain ⟨hbx, hPx⟩ := hbx
    rw [ht] at hPx
    rcases hbx with ⟨rfl, hx9⟩ | ⟨rfl, hx9⟩
    · skip
      refine k_catch1 (own := RL) (name := "java/lang/IllegalArgumentException") hown ⟨0, 9, 12, 13⟩ _ htb (by decide) (by decide) (hts (.classLink RL 13 "java/lang/IllegalArgumentException") (List.mem_of_getElem? (i := 5) rfl)) (va_Nw.use rfl dx4) hce hcv hcl ?_
      have hP : va_P (dC, dI) vwCl (wo ad (2517 + 1) (va_up g 2517 (g 2517))) H1 := wo_join hPx (hoA.kept (hk1 _ hoL (fun h => h.2 rfl)))
      obtain ⟨g_3, hG_4⟩ : ∃ z, z = va_up g 2517 (g 2517) := ⟨_, rfl⟩
      rw [← hG_4] at hP
      have hP : va_P (dC, dI) vwCl (wo ad NSw g_3) H1 := hP
      have hGc_5 : ∀ k, k < 2517 → g_3 k = g k := fun k hk => by rw [hG_4]; exact va_up_ne _ _ (by omega)
      have hGo_6 : g_3 2517 = .inl (cA 2517, 1, .inr (.inl fo)) := by rw [hG_4, va_up_self]; exact h17
      generalize H1 = H at hP hS ⊢
      refine W.cs (cells' := 10) (slots' := 60) (by decide) (by decide) ?_
      refine lv_astore_n (lv' := [(3, .ref q9), (0, .ref (ad 2076)), (1, .int v), (2, .ref (ad 2517))]) hx hb dL_parts_12 rfl hl (by decide) rfl (fun ls hl => ?_)
      refine lv_iconst (v := nI 1) hx hb dL_parts_13 (by decide +kernel) ?_
      refine W.widen (k := 10) (n := 60) (by omega) (by omega) ?_
      exact W.iret (v := nI 1) hx hb hr (fun t9 ht9 hW9 => ⟨⟨nI 1, (g_3, nI 0, fo), rfl, ⟨Or.inr ⟨CIS.ext hI (fun k hk => ((fun (k : Nat) (hk : k < 2517) => rfl) k hk).trans (hGc_5 k hk)), Or.inl ⟨rfl, hx9⟩⟩, hGo_6⟩, by show va_P (dC, dI) vwCl _ t9.heap; rw [ht9]; exact hP⟩, hS.F ht9⟩) hS.2.2 dL_parts_14
    · skip
      refine k_catch2 (own := RL) (name := "java/util/NoSuchElementException") (nm := "java/lang/IllegalArgumentException") hown ⟨0, 9, 12, 13⟩ ⟨0, 9, 15, 25⟩ _ htb (by decide) (by decide) (hts (.classLink RL 13 "java/lang/IllegalArgumentException") (List.mem_of_getElem? (i := 5) rfl)) dx8 (by decide) (by decide) (hts (.classLink RL 25 "java/util/NoSuchElementException") (List.mem_of_getElem? (i := 6) rfl)) (va_Nw.use rfl dx7) hce hcv hcl ?_
      have hP : va_P (dC, dI) vwCl (wo ad (2517 + 1) (va_up g 2517 (g 2517))) H1 := wo_join hPx (hoA.kept (hk1 _ hoL (fun h => h.2 rfl)))
      obtain ⟨g_7, hG_8⟩ : ∃ z, z = va_up g 2517 (g 2517) := ⟨_, rfl⟩
      rw [← hG_8] at hP
      have hP : va_P (dC, dI) vwCl (wo ad NSw g_7) H1 := hP
      have hGc_9 : ∀ k, k < 2517 → g_7 k = g k := fun k hk => by rw [hG_8]; exact va_up_ne _ _ (by omega)
      have hGo_10 : g_7 2517 = .inl (cA 2517, 1, .inr (.inl fo)) := by rw [hG_8, va_up_self]; exact h17
      generalize H1 = H at hP hS ⊢
      refine W.cs (cells' := 10) (slots' := 60) (by decide) (by decide) ?_
      refine lv_astore_n (lv' := [(3, .ref q9), (0, .ref (ad 2076)), (1, .int v), (2, .ref (ad 2517))]) hx hb dL_parts_15 rfl hl (by decide) rfl (fun ls hl => ?_)
      refine lv_iconst (v := nI 2) hx hb dL_parts_16 (by decide +kernel) ?_
      refine W.widen (k := 10) (n := 60) (by omega) (by omega) ?_
      exact W.iret (v := nI 2) hx hb hr (fun t9 ht9 hW9 => ⟨⟨nI 2, (g_7, nI 0, fo), rfl, ⟨Or.inr ⟨CIS.ext hI (fun k hk => ((fun (k : Nat) (hk : k < 2517) => rfl) k hk).trans (hGc_9 k hk)), Or.inr ⟨rfl, hx9⟩⟩, hGo_10⟩, by show va_P (dC, dI) vwCl _ t9.heap; rw [ht9]; exact hP⟩, hS.F ht9⟩) hS.2.2 dL_parts_17
  · obtain ⟨g_11, rfl⟩ : ∃ z, z = u := ⟨_, rfl⟩
    try dsimp only at hw_2 hB
    rw [ht] at hB
    have hP : va_P (dC, dI) vwCl (wo ad (2517 + 1) (va_up g_11 2517 (g 2517))) H1 := wo_join hB (hoA.kept (hk1 _ hoL (fun h => h.2 rfl)))
    obtain ⟨g_12, hG_13⟩ : ∃ z, z = va_up g_11 2517 (g 2517) := ⟨_, rfl⟩
    rw [← hG_13] at hP
    have hP : va_P (dC, dI) vwCl (wo ad NSw g_12) H1 := hP
    have hGc_14 : ∀ k, k < 2517 → g_12 k = g_11 k := fun k hk => by rw [hG_13]; exact va_up_ne _ _ (by omega)
    have hGo_15 : g_12 2517 = .inl (cA 2517, 1, .inr (.inl fo)) := by rw [hG_13, va_up_self]; exact h17
    generalize H1 = H at hP hS ⊢
    refine W.cs (cells' := 10) (slots' := 60) (by decide) (by decide) ?_
    refine lv_i2l hx hb dL_parts_7 rfl ?_
    refine lv_topl (fun y_16 e_17 => ?_)
    refine m_last hx hb hK hP hD hS 2517 (by decide) rfl hGo_15 (i := 0) (x := y_16) (by decide) (by decide) dL_parts_8 (fun H locs g_18 f_19 fr_20 hP hS => ?_)
    have f_19 : g_18 2517 = .inl (cA 2517, 1, .inr (.inl (vp_updL fo 0 y_16))) := f_19
    refine lv_goto (tgt := 18) hx hb dL_parts_9 (by decide) ?_
    refine lv_iconst (v := nI 0) hx hb dL_parts_18 (by decide +kernel) ?_
    refine W.widen (k := 10) (n := 60) (by omega) (by omega) ?_
    exact W.iret (v := nI 0) hx hb hr (fun t9 ht9 hW9 => ⟨⟨nI 0, (g_18, r_1, (vp_updL fo 0 y_16)), rfl, ⟨Or.inl ⟨⟨CIS.ext hw_2.1 (fun k hk => ((fun (k : Nat) (hk : k < 2517) => (fr_20 k (by omega)).trans (rfl)) k hk).trans (hGc_14 k hk)), hw_2.2⟩, rfl, (by show vp_updL fo 0 y_16 0 = _; unfold vp_updL; rw [if_pos rfl, e_17])⟩, f_19⟩, by show va_P (dC, dI) vwCl _ t9.heap; rw [ht9]; exact hP⟩, hS.F ht9⟩) hS.2.2 dL_parts_19
def wd_L_write : List Cond := .codeWith yL_write cL_write 4 (some .int) [(0, 9, 12, 13), (0, 9, 15, 25)] :: (([.methodLink RL 68 yX9_write, .instanceMethod yX9_write, .selects RX9 yX9_write yX9_write, .initialized RX9, .classLink RL 13 "java/lang/IllegalArgumentException", .classLink RL 25 "java/util/NoSuchElementException"] : List Cond) ++ (wd_W9_write ++ ([])))
theorem gw_L_write : wd_L_write.all goodWord = true := k_allc rfl (k_all (by decide +kernel) (k_all (gw_W9_write) (rfl)))
set_option maxHeartbeats 4000000 in
set_option maxRecDepth 100000 in
theorem c_L_write (l : Launch) (hlt : l.stackTraces = false) (dC : Nat → ClassId) (dI : Nat → Nat → Nat) (A : Nat → Prop) (ad : Nat → Nat) (cA : Nat → ClassId) (g : Nat → va_E) (L : List PD) (nm : Nat → Int) (tx : Nat → Nat) (ty : Nat) (wp : Int32) (v : Int32) (fo : Nat → Int64) (hI : CIS ad cA g L nm tx ty wp) (h17 : g 2517 = .inl (cA 2517, 1, .inr (.inl fo))) : Met l yL_write wd_L_write ({ frames := 110, cells := 10, slots := 60, locals := 2200 }) (va_Pc [.ref (ad 2076), .int v, .ref (ad 2517)] (fun U => PR NSw tyw dC dI A ad cA g U ∧ exF A U U.heap)) (va_Qi (fun (r : Int32) => fun (u : (Nat → va_E) × Int32 × (Nat → Int64)) => match u with | (g2, r0, fo2) => (((CIS ad cA g2 L nm tx ty wp ∧ ∃ a9 : Nat, v = nI a9 ∧ a9 ≤ 7 ∧ 0 ≤ nm a9) ∧ r = nI 0 ∧ fo2 0 = r0.toInt64) ∨ (CIS ad cA g2 L nm tx ty wp ∧ ((r = nI 1 ∧ ¬ (0 ≤ v.toInt ∧ v.toInt ≤ 7)) ∨ (r = nI 2 ∧ ∃ a9 : Nat, v = nI a9 ∧ a9 ≤ 7 ∧ nm a9 < 0)))) ∧ g2 2517 = .inl (cA 2517, 1, .inr (.inl fo2))) (fun (u : (Nat → va_E) × Int32 × (Nat → Int64)) (t : State) => va_P (dC, dI) vwCl (wo ad NSw u.1) t.heap) A) (10) (60) A := by
  refine k_ofWH (hh := [(0, 9, 12, 13), (0, 9, 15, 25)]) (cc := cL_write) (maxL := 4) (ret := (some .int)) (by decide) rfl ?_
  intro p e s m args below meth c s₁ B hml hv
  obtain ⟨rfl, ⟨hA, hP, hL⟩, hE⟩ := hv
  have hx := B.exec
  have hb := B.bytes
  have hr := B.returns
  have hts := atoms_spec (ws := wd_L_write) B.pre
  have hown : s.vm.findClass RL = some m.cls := findClass_of_methodNamed B.named
  have hlocks := B.notSynchronized
  have hK := hL.1
  have hD : ∀ g, va_D A (wo ad NSw g) := fun g => wo_D hL.2.1 hL.2.2 g
  have hS : va_S A s.heap s.heap [] := va_S.rf
  have bk0 : ∀ w ∈ wd_W9_write, w ∈ wd_L_write := fun _ h => List.mem_cons_of_mem _ (List.mem_append_right _ (List.mem_append_left _ h))
  have hl := lv_entry ([.ref (ad 2076), .int v, .ref (ad 2517)]) (n := 4) (Nat.le_of_ble_eq_true rfl)
  rw [lg_entry_eq]
  generalize (lg_sl ([.ref (ad 2076), .int v, .ref (ad 2517)]) ++ List.replicate (4 - (lg_sl ([.ref (ad 2076), .int v, .ref (ad 2517)])).length) Slot.unset).toArray = ls at hl ⊢
  have hl : lv_has ls 4 [(0, .ref (ad 2076)), (1, .int v), (2, .ref (ad 2517))] := hl
  have htb : c.exceptionTable.toList = [⟨0, 9, 12, 13⟩, ⟨0, 9, 15, 25⟩] := (vx_table (x := yL_write) B (hts (.codeWith yL_write cL_write 4 (some .int) [(0, 9, 12, 13), (0, 9, 15, 25)]) List.mem_cons_self)).trans rfl
  refine lv_aload_n hx hb dL_write_0 rfl (lv_at hl 2 rfl) ?_
  refine lv_iconst (v := nI 0) hx hb dL_write_1 (by decide +kernel) ?_
  refine lv_aload_n hx hb dL_write_2 rfl (lv_at hl 0 rfl) ?_
  refine lv_iload_n hx hb dL_write_3 rfl (lv_at hl 1 rfl) ?_
  have hPc : va_P (dC, dI) vwCl (wo ad NSc g) s.heap := wo_cut hP (by decide)
  have hLc := LY.cut hL
  have hoL : ad 2517 < s.heap.size := (hP 2517 _ (wo_at (by decide) rfl)).lt
  have hoA := hP 2517 _ (wo_at (by decide) rfl)
  have hA2 : ∀ q9, s.heap.size ≤ q9 → (fun q9 => A q9 ∧ q9 ≠ ad 2517) q9 := fun q9 h => ⟨hA q9 h, by intro he; omega⟩
  refine vx_calli (vx_runV (As := [.int v]) (rest := [.int (nI 0), .ref (ad 2517)]) ⟨hx, hb, hml, hown, hts⟩ (c_W9_write l hlt dC dI (fun q9 => A q9 ∧ q9 ≠ ad 2517) ad cA g L nm tx ty wp v hI) (cwV 1 hts (goodIn_app (goodIn_r [Cond.methodLink RL 68 yX9_write, Cond.instanceMethod yX9_write, Cond.selects RX9 yX9_write yX9_write, Cond.initialized RX9] [1, 2, 3, 4] rfl rfl) (goodIn_sub (fun w9 h9 => bk0 w9 h9) gw_W9_write)) rfl rfl rfl (by decide +kernel) ⟨Nat.le_of_ble_eq_true rfl, Nat.le_of_ble_eq_true rfl⟩) ⟨fun a U g mk q => ⟨q.1, ⟨q.2.1.1, q.2.1.2.1, LY.moved (u := U) (U := U.calling g mk a) (Vm.Alike.refl U.vm) q.2.1.2.2⟩, exF.same rfl rfl q.2.2⟩, va_recv hLc.1 hPc (ci := 12) (q0 := 2076) rfl (wo_at (by decide) hI.1), fun U hU hW => ⟨rfl, ⟨by rw [hU]; exact hA2, by rw [hU]; exact hPc, LY.moved hW.alike hLc⟩, by rw [hU]; exact exF.warm hW (hE.narrow (fun _ h => h.1))⟩⟩ rfl rfl hl.1 rfl (lv_room (Nat.le_of_ble_eq_true rfl)) dL_write_4 ⟨Nat.le_of_ble_eq_true rfl, Nat.le_of_ble_eq_true rfl⟩) hS (fun q _ h => h.1) (fun q h => h.1) (fun q _ h => h.1) (fun E ce q9 u t H1 locs1 ht hvm hpx hbx hz1 hk1 hS hce hcv hcl => ?_) (fun r_1 u t H1 locs ht hvm hw_2 hB hz1 hk1 hS => ?_)
  · obtain ⟨dx1, dx2, dx3, dx4, dx5, dx6, dx7, dx8, dx9⟩ := hE.2.2.2
    obtain ⟨hbx, hPx⟩ := hbx
    rw [ht] at hPx
    rcases hbx with ⟨rfl, hx9⟩ | ⟨rfl, hx9⟩
    · skip
      refine k_catch1 (own := RL) (name := "java/lang/IllegalArgumentException") hown ⟨0, 9, 12, 13⟩ _ htb (by decide) (by decide) (hts (.classLink RL 13 "java/lang/IllegalArgumentException") (List.mem_of_getElem? (i := 5) rfl)) (va_Nw.use rfl dx4) hce hcv hcl ?_
      have hP : va_P (dC, dI) vwCl (wo ad (2517 + 1) (va_up g 2517 (g 2517))) H1 := wo_join hPx (hoA.kept (hk1 _ hoL (fun h => h.2 rfl)))
      obtain ⟨g_3, hG_4⟩ : ∃ z, z = va_up g 2517 (g 2517) := ⟨_, rfl⟩
      rw [← hG_4] at hP
      have hP : va_P (dC, dI) vwCl (wo ad NSw g_3) H1 := hP
      have hGc_5 : ∀ k, k < 2517 → g_3 k = g k := fun k hk => by rw [hG_4]; exact va_up_ne _ _ (by omega)
      have hGo_6 : g_3 2517 = .inl (cA 2517, 1, .inr (.inl fo)) := by rw [hG_4, va_up_self]; exact h17
      generalize H1 = H at hP hS ⊢
      refine W.cs (cells' := 10) (slots' := 60) (by decide) (by decide) ?_
      refine lv_astore_n (lv' := [(3, .ref q9), (0, .ref (ad 2076)), (1, .int v), (2, .ref (ad 2517))]) hx hb dL_write_12 rfl hl (by decide) rfl (fun ls hl => ?_)
      refine lv_iconst (v := nI 1) hx hb dL_write_13 (by decide +kernel) ?_
      refine W.widen (k := 10) (n := 60) (by omega) (by omega) ?_
      exact W.iret (v := nI 1) hx hb hr (fun t9 ht9 hW9 => ⟨⟨nI 1, (g_3, nI 0, fo), rfl, ⟨Or.inr ⟨CIS.ext hI (fun k hk => ((fun (k : Nat) (hk : k < 2517) => rfl) k hk).trans (hGc_5 k hk)), Or.inl ⟨rfl, hx9⟩⟩, hGo_6⟩, by show va_P (dC, dI) vwCl _ t9.heap; rw [ht9]; exact hP⟩, hS.F ht9⟩) hS.2.2 dL_write_14
    · skip
      refine k_catch2 (own := RL) (name := "java/util/NoSuchElementException") (nm := "java/lang/IllegalArgumentException") hown ⟨0, 9, 12, 13⟩ ⟨0, 9, 15, 25⟩ _ htb (by decide) (by decide) (hts (.classLink RL 13 "java/lang/IllegalArgumentException") (List.mem_of_getElem? (i := 5) rfl)) dx8 (by decide) (by decide) (hts (.classLink RL 25 "java/util/NoSuchElementException") (List.mem_of_getElem? (i := 6) rfl)) (va_Nw.use rfl dx7) hce hcv hcl ?_
      have hP : va_P (dC, dI) vwCl (wo ad (2517 + 1) (va_up g 2517 (g 2517))) H1 := wo_join hPx (hoA.kept (hk1 _ hoL (fun h => h.2 rfl)))
      obtain ⟨g_7, hG_8⟩ : ∃ z, z = va_up g 2517 (g 2517) := ⟨_, rfl⟩
      rw [← hG_8] at hP
      have hP : va_P (dC, dI) vwCl (wo ad NSw g_7) H1 := hP
      have hGc_9 : ∀ k, k < 2517 → g_7 k = g k := fun k hk => by rw [hG_8]; exact va_up_ne _ _ (by omega)
      have hGo_10 : g_7 2517 = .inl (cA 2517, 1, .inr (.inl fo)) := by rw [hG_8, va_up_self]; exact h17
      generalize H1 = H at hP hS ⊢
      refine W.cs (cells' := 10) (slots' := 60) (by decide) (by decide) ?_
      refine lv_astore_n (lv' := [(3, .ref q9), (0, .ref (ad 2076)), (1, .int v), (2, .ref (ad 2517))]) hx hb dL_write_15 rfl hl (by decide) rfl (fun ls hl => ?_)
      refine lv_iconst (v := nI 2) hx hb dL_write_16 (by decide +kernel) ?_
      refine W.widen (k := 10) (n := 60) (by omega) (by omega) ?_
      exact W.iret (v := nI 2) hx hb hr (fun t9 ht9 hW9 => ⟨⟨nI 2, (g_7, nI 0, fo), rfl, ⟨Or.inr ⟨CIS.ext hI (fun k hk => ((fun (k : Nat) (hk : k < 2517) => rfl) k hk).trans (hGc_9 k hk)), Or.inr ⟨rfl, hx9⟩⟩, hGo_10⟩, by show va_P (dC, dI) vwCl _ t9.heap; rw [ht9]; exact hP⟩, hS.F ht9⟩) hS.2.2 dL_write_17
  · obtain ⟨g_11, rfl⟩ : ∃ z, z = u := ⟨_, rfl⟩
    try dsimp only at hw_2 hB
    rw [ht] at hB
    have hP : va_P (dC, dI) vwCl (wo ad (2517 + 1) (va_up g_11 2517 (g 2517))) H1 := wo_join hB (hoA.kept (hk1 _ hoL (fun h => h.2 rfl)))
    obtain ⟨g_12, hG_13⟩ : ∃ z, z = va_up g_11 2517 (g 2517) := ⟨_, rfl⟩
    rw [← hG_13] at hP
    have hP : va_P (dC, dI) vwCl (wo ad NSw g_12) H1 := hP
    have hGc_14 : ∀ k, k < 2517 → g_12 k = g_11 k := fun k hk => by rw [hG_13]; exact va_up_ne _ _ (by omega)
    have hGo_15 : g_12 2517 = .inl (cA 2517, 1, .inr (.inl fo)) := by rw [hG_13, va_up_self]; exact h17
    generalize H1 = H at hP hS ⊢
    refine W.cs (cells' := 10) (slots' := 60) (by decide) (by decide) ?_
    refine lv_i2l hx hb dL_write_7 rfl ?_
    refine lv_topl (fun y_16 e_17 => ?_)
    refine m_last hx hb hK hP hD hS 2517 (by decide) rfl hGo_15 (i := 0) (x := y_16) (by decide) (by decide) dL_write_8 (fun H locs g_18 f_19 fr_20 hP hS => ?_)
    have f_19 : g_18 2517 = .inl (cA 2517, 1, .inr (.inl (vp_updL fo 0 y_16))) := f_19
    refine lv_goto (tgt := 18) hx hb dL_write_9 (by decide) ?_
    refine lv_iconst (v := nI 0) hx hb dL_write_18 (by decide +kernel) ?_
    refine W.widen (k := 10) (n := 60) (by omega) (by omega) ?_
    exact W.iret (v := nI 0) hx hb hr (fun t9 ht9 hW9 => ⟨⟨nI 0, (g_18, r_1, (vp_updL fo 0 y_16)), rfl, ⟨Or.inl ⟨⟨CIS.ext hw_2.1 (fun k hk => ((fun (k : Nat) (hk : k < 2517) => (fr_20 k (by omega)).trans (rfl)) k hk).trans (hGc_14 k hk)), hw_2.2⟩, rfl, (by show vp_updL fo 0 y_16 0 = _; unfold vp_updL; rw [if_pos rfl, e_17])⟩, f_19⟩, by show va_P (dC, dI) vwCl _ t9.heap; rw [ht9]; exact hP⟩, hS.F ht9⟩) hS.2.2 dL_write_19
def wd_L_written : List Cond := .codeWith yL_written cL_written 4 (some .int) [(0, 9, 12, 34)] :: (([.methodLink RL 71 yX9_written, .instanceMethod yX9_written, .selects RX9 yX9_written yX9_written, .initialized RX9, .classLink RL 34 "java/lang/IndexOutOfBoundsException"] : List Cond) ++ (wd_W9_written ++ ([])))
theorem gw_L_written : wd_L_written.all goodWord = true := k_allc rfl (k_all (by decide +kernel) (k_all (gw_W9_written) (rfl)))
set_option maxHeartbeats 4000000 in
set_option maxRecDepth 100000 in
theorem c_L_written (l : Launch) (hlt : l.stackTraces = false) (dC : Nat → ClassId) (dI : Nat → Nat → Nat) (A : Nat → Prop) (ad : Nat → Nat) (cA : Nat → ClassId) (g : Nat → va_E) (L : List PD) (nm : Nat → Int) (tx : Nat → Nat) (ty : Nat) (wp : Int32) (v : Int32) (fo : Nat → Int64) (hI : CIS ad cA g L nm tx ty wp) (h17 : g 2517 = .inl (cA 2517, 1, .inr (.inl fo))) : Met l yL_written wd_L_written ({ frames := 30, cells := 10, slots := 60, locals := 600 }) (va_Pc [.ref (ad 2076), .int v, .ref (ad 2517)] (fun U => PR NSw tyw dC dI A ad cA g U ∧ exF A U U.heap)) (va_Qi (fun (r : Int32) => fun (u : (Nat → va_E) × Int32 × (Nat → Int64)) => match u with | (g2, r0, fo2) => (((CIS ad cA g2 L nm tx ty wp ∧ (True)) ∧ r = nI 0 ∧ fo2 0 = r0.toInt64) ∨ (CIS ad cA g2 L nm tx ty wp ∧ (r = nI 1))) ∧ g2 2517 = .inl (cA 2517, 1, .inr (.inl fo2))) (fun (u : (Nat → va_E) × Int32 × (Nat → Int64)) (t : State) => va_P (dC, dI) vwCl (wo ad NSw u.1) t.heap) A) (10) (60) A := by
  refine k_ofWH (hh := [(0, 9, 12, 34)]) (cc := cL_written) (maxL := 4) (ret := (some .int)) (by decide) rfl ?_
  intro p e s m args below meth c s₁ B hml hv
  obtain ⟨rfl, ⟨hA, hP, hL⟩, hE⟩ := hv
  have hx := B.exec
  have hb := B.bytes
  have hr := B.returns
  have hts := atoms_spec (ws := wd_L_written) B.pre
  have hown : s.vm.findClass RL = some m.cls := findClass_of_methodNamed B.named
  have hlocks := B.notSynchronized
  have hK := hL.1
  have hD : ∀ g, va_D A (wo ad NSw g) := fun g => wo_D hL.2.1 hL.2.2 g
  have hS : va_S A s.heap s.heap [] := va_S.rf
  have bk0 : ∀ w ∈ wd_W9_written, w ∈ wd_L_written := fun _ h => List.mem_cons_of_mem _ (List.mem_append_right _ (List.mem_append_left _ h))
  have hl := lv_entry ([.ref (ad 2076), .int v, .ref (ad 2517)]) (n := 4) (Nat.le_of_ble_eq_true rfl)
  rw [lg_entry_eq]
  generalize (lg_sl ([.ref (ad 2076), .int v, .ref (ad 2517)]) ++ List.replicate (4 - (lg_sl ([.ref (ad 2076), .int v, .ref (ad 2517)])).length) Slot.unset).toArray = ls at hl ⊢
  have hl : lv_has ls 4 [(0, .ref (ad 2076)), (1, .int v), (2, .ref (ad 2517))] := hl
  have htb : c.exceptionTable.toList = [⟨0, 9, 12, 34⟩] := (vx_table (x := yL_written) B (hts (.codeWith yL_written cL_written 4 (some .int) [(0, 9, 12, 34)]) List.mem_cons_self)).trans rfl
  refine lv_aload_n hx hb dL_written_0 rfl (lv_at hl 2 rfl) ?_
  refine lv_iconst (v := nI 0) hx hb dL_written_1 (by decide +kernel) ?_
  refine lv_aload_n hx hb dL_written_2 rfl (lv_at hl 0 rfl) ?_
  refine lv_iload_n hx hb dL_written_3 rfl (lv_at hl 1 rfl) ?_
  have hPc : va_P (dC, dI) vwCl (wo ad NSc g) s.heap := wo_cut hP (by decide)
  have hLc := LY.cut hL
  have hoL : ad 2517 < s.heap.size := (hP 2517 _ (wo_at (by decide) rfl)).lt
  have hoA := hP 2517 _ (wo_at (by decide) rfl)
  have hA2 : ∀ q9, s.heap.size ≤ q9 → (fun q9 => A q9 ∧ q9 ≠ ad 2517) q9 := fun q9 h => ⟨hA q9 h, by intro he; omega⟩
  refine vx_calli (vx_runV (As := [.int v]) (rest := [.int (nI 0), .ref (ad 2517)]) ⟨hx, hb, hml, hown, hts⟩ (c_W9_written l hlt dC dI (fun q9 => A q9 ∧ q9 ≠ ad 2517) ad cA g L nm tx ty wp v hI) (cwV 1 hts (goodIn_app (goodIn_r [Cond.methodLink RL 71 yX9_written, Cond.instanceMethod yX9_written, Cond.selects RX9 yX9_written yX9_written, Cond.initialized RX9] [1, 2, 3, 4] rfl rfl) (goodIn_sub (fun w9 h9 => bk0 w9 h9) gw_W9_written)) rfl rfl rfl (by decide +kernel) ⟨Nat.le_of_ble_eq_true rfl, Nat.le_of_ble_eq_true rfl⟩) ⟨fun a U g mk q => ⟨q.1, ⟨q.2.1.1, q.2.1.2.1, LY.moved (u := U) (U := U.calling g mk a) (Vm.Alike.refl U.vm) q.2.1.2.2⟩, exF.same rfl rfl q.2.2⟩, va_recv hLc.1 hPc (ci := 12) (q0 := 2076) rfl (wo_at (by decide) hI.1), fun U hU hW => ⟨rfl, ⟨by rw [hU]; exact hA2, by rw [hU]; exact hPc, LY.moved hW.alike hLc⟩, by rw [hU]; exact exF.warm hW (hE.narrow (fun _ h => h.1))⟩⟩ rfl rfl hl.1 rfl (lv_room (Nat.le_of_ble_eq_true rfl)) dL_written_4 ⟨Nat.le_of_ble_eq_true rfl, Nat.le_of_ble_eq_true rfl⟩) hS (fun q _ h => h.1) (fun q h => h.1) (fun q _ h => h.1) (fun E ce q9 u t H1 locs1 ht hvm hpx hbx hz1 hk1 hS hce hcv hcl => ?_) (fun r_1 u t H1 locs ht hvm hw_2 hB hz1 hk1 hS => ?_)
  · obtain ⟨dx1, dx2, dx3, dx4, dx5, dx6, dx7, dx8, dx9⟩ := hE.2.2.2
    obtain ⟨hbx, hPx⟩ := hbx
    rw [ht] at hPx
    obtain rfl : E = "java/lang/IndexOutOfBoundsException" := hbx
    refine k_catch1 (own := RL) (name := "java/lang/IndexOutOfBoundsException") hown ⟨0, 9, 12, 34⟩ _ htb (by decide) (by decide) (hts (.classLink RL 34 "java/lang/IndexOutOfBoundsException") (List.mem_of_getElem? (i := 5) rfl)) (va_Nw.use rfl dx6) hce hcv hcl ?_
    have hP : va_P (dC, dI) vwCl (wo ad (2517 + 1) (va_up g 2517 (g 2517))) H1 := wo_join hPx (hoA.kept (hk1 _ hoL (fun h => h.2 rfl)))
    obtain ⟨g_3, hG_4⟩ : ∃ z, z = va_up g 2517 (g 2517) := ⟨_, rfl⟩
    rw [← hG_4] at hP
    have hP : va_P (dC, dI) vwCl (wo ad NSw g_3) H1 := hP
    have hGc_5 : ∀ k, k < 2517 → g_3 k = g k := fun k hk => by rw [hG_4]; exact va_up_ne _ _ (by omega)
    have hGo_6 : g_3 2517 = .inl (cA 2517, 1, .inr (.inl fo)) := by rw [hG_4, va_up_self]; exact h17
    generalize H1 = H at hP hS ⊢
    refine W.cs (cells' := 10) (slots' := 60) (by decide) (by decide) ?_
    refine lv_astore_n (lv' := [(3, .ref q9), (0, .ref (ad 2076)), (1, .int v), (2, .ref (ad 2517))]) hx hb dL_written_12 rfl hl (by decide) rfl (fun ls hl => ?_)
    refine lv_iconst (v := nI 1) hx hb dL_written_13 (by decide +kernel) ?_
    refine W.widen (k := 10) (n := 60) (by omega) (by omega) ?_
    exact W.iret (v := nI 1) hx hb hr (fun t9 ht9 hW9 => ⟨⟨nI 1, (g_3, nI 0, fo), rfl, ⟨Or.inr ⟨CIS.ext hI (fun k hk => ((fun (k : Nat) (hk : k < 2517) => rfl) k hk).trans (hGc_5 k hk)), rfl⟩, hGo_6⟩, by show va_P (dC, dI) vwCl _ t9.heap; rw [ht9]; exact hP⟩, hS.F ht9⟩) hS.2.2 dL_written_14
  · obtain ⟨⟩ := u
    try dsimp only at hw_2 hB
    rw [ht] at hB
    have hP : va_P (dC, dI) vwCl (wo ad (2517 + 1) (va_up g 2517 (g 2517))) H1 := wo_join hB (hoA.kept (hk1 _ hoL (fun h => h.2 rfl)))
    obtain ⟨g_7, hG_8⟩ : ∃ z, z = va_up g 2517 (g 2517) := ⟨_, rfl⟩
    rw [← hG_8] at hP
    have hP : va_P (dC, dI) vwCl (wo ad NSw g_7) H1 := hP
    have hGc_9 : ∀ k, k < 2517 → g_7 k = g k := fun k hk => by rw [hG_8]; exact va_up_ne _ _ (by omega)
    have hGo_10 : g_7 2517 = .inl (cA 2517, 1, .inr (.inl fo)) := by rw [hG_8, va_up_self]; exact h17
    generalize H1 = H at hP hS ⊢
    refine W.cs (cells' := 10) (slots' := 60) (by decide) (by decide) ?_
    refine lv_i2l hx hb dL_written_7 rfl ?_
    refine lv_topl (fun y_11 e_12 => ?_)
    refine m_last hx hb hK hP hD hS 2517 (by decide) rfl hGo_10 (i := 0) (x := y_11) (by decide) (by decide) dL_written_8 (fun H locs g_13 f_14 fr_15 hP hS => ?_)
    have f_14 : g_13 2517 = .inl (cA 2517, 1, .inr (.inl (vp_updL fo 0 y_11))) := f_14
    refine lv_goto (tgt := 15) hx hb dL_written_9 (by decide) ?_
    refine lv_iconst (v := nI 0) hx hb dL_written_15 (by decide +kernel) ?_
    refine W.widen (k := 10) (n := 60) (by omega) (by omega) ?_
    exact W.iret (v := nI 0) hx hb hr (fun t9 ht9 hW9 => ⟨⟨nI 0, (g_13, r_1, (vp_updL fo 0 y_11)), rfl, ⟨Or.inl ⟨⟨CIS.ext hI (fun k hk => ((fun (k : Nat) (hk : k < 2517) => (fr_15 k (by omega)).trans (rfl)) k hk).trans (hGc_9 k hk)), hw_2⟩, rfl, (by show vp_updL fo 0 y_11 0 = _; unfold vp_updL; rw [if_pos rfl, e_12])⟩, f_14⟩, by show va_P (dC, dI) vwCl _ t9.heap; rw [ht9]; exact hP⟩, hS.F ht9⟩) hS.2.2 dL_written_16
def wd_L_derive : List Cond := .codeWith yL_derive cL_derive 6 (some .int) [(0, 12, 15, 13), (0, 12, 19, 25)] :: (([.methodLink RL 21 yX9_derive, .instanceMethod yX9_derive, .selects RX9 yX9_derive yX9_derive, .initialized RX9, .classLink RL 13 "java/lang/IllegalArgumentException", .classLink RL 25 "java/util/NoSuchElementException"] : List Cond) ++ (wd_W9_derive ++ ([])))
theorem gw_L_derive : wd_L_derive.all goodWord = true := k_allc rfl (k_all (by decide +kernel) (k_all (gw_W9_derive) (rfl)))
set_option maxHeartbeats 4000000 in
set_option maxRecDepth 100000 in
theorem c_L_derive (l : Launch) (hlt : l.stackTraces = false) (dC : Nat → ClassId) (dI : Nat → Nat → Nat) (A : Nat → Prop) (ad : Nat → Nat) (cA : Nat → ClassId) (g : Nat → va_E) (L : List PD) (nm : Nat → Int) (tx : Nat → Nat) (ty : Nat) (wp : Int32) (v : Int32) (w1 : Int32) (w2 : Int32) (fo : Nat → Int64) (hI : CIS ad cA g L nm tx ty wp) (h17 : g 2517 = .inl (cA 2517, 1, .inr (.inl fo))) : Met l yL_derive wd_L_derive ({ frames := 90, cells := 10, slots := 60, locals := 1800 }) (va_Pc [.ref (ad 2076), .int v, .int w1, .int w2, .ref (ad 2517)] (fun U => PR NSw tyw dC dI A ad cA g U ∧ exF A U U.heap)) (va_Qi (fun (r : Int32) => fun (u : (Nat → va_E) × (List PD) × (Nat → Int) × Int32 × (Nat → Int64)) => match u with | (g2, L2, nm2, r0, fo2) => (((CIS ad cA g2 L2 nm2 tx ty wp ∧ ∃ a b d t : Nat, v = nI a ∧ a ≤ 7 ∧ w1 = nI b ∧ b ≤ 2 ∧ w2 = nI d ∧ d ≤ 7 ∧ nm a = (t : Int) ∧ (((drS L (rchN L t (t + 1)) b (t + 1)).1 < 0 ∧ r0 = iI (drS L (rchN L t (t + 1)) b (t + 1)).1 ∧ L2 = L ∧ nm2 = nm) ∨ ((drS L (rchN L t (t + 1)) b (t + 1)).1 = 0 ∧ r0 = nI ((drS L (rchN L t (t + 1)) b (t + 1)).2.1 t) ∧ L2 = (drS L (rchN L t (t + 1)) b (t + 1)).2.2 ∧ nm2 = va_up nm d (((drS L (rchN L t (t + 1)) b (t + 1)).2.1 t : Nat) : Int)))) ∧ r = nI 0 ∧ fo2 0 = r0.toInt64) ∨ (CIS ad cA g2 L nm tx ty wp ∧ ((r = nI 1 ∧ ¬ (0 ≤ v.toInt ∧ v.toInt ≤ 7 ∧ 0 ≤ w2.toInt ∧ w2.toInt ≤ 7 ∧ 0 ≤ w1.toInt ∧ w1.toInt ≤ 2)) ∨ (r = nI 2 ∧ (0 ≤ v.toInt ∧ v.toInt ≤ 7 ∧ 0 ≤ w2.toInt ∧ w2.toInt ≤ 7 ∧ 0 ≤ w1.toInt ∧ w1.toInt ≤ 2) ∧ ∃ a9 : Nat, v = nI a9 ∧ a9 ≤ 7 ∧ nm a9 < 0)))) ∧ g2 2517 = .inl (cA 2517, 1, .inr (.inl fo2))) (fun (u : (Nat → va_E) × (List PD) × (Nat → Int) × Int32 × (Nat → Int64)) (t : State) => va_P (dC, dI) vwCl (wo ad NSw u.1) t.heap) A) (10) (60) A := by
  refine k_ofWH (hh := [(0, 12, 15, 13), (0, 12, 19, 25)]) (cc := cL_derive) (maxL := 6) (ret := (some .int)) (by decide) rfl ?_
  intro p e s m args below meth c s₁ B hml hv
  obtain ⟨rfl, ⟨hA, hP, hL⟩, hE⟩ := hv
  have hx := B.exec
  have hb := B.bytes
  have hr := B.returns
  have hts := atoms_spec (ws := wd_L_derive) B.pre
  have hown : s.vm.findClass RL = some m.cls := findClass_of_methodNamed B.named
  have hlocks := B.notSynchronized
  have hK := hL.1
  have hD : ∀ g, va_D A (wo ad NSw g) := fun g => wo_D hL.2.1 hL.2.2 g
  have hS : va_S A s.heap s.heap [] := va_S.rf
  have bk0 : ∀ w ∈ wd_W9_derive, w ∈ wd_L_derive := fun _ h => List.mem_cons_of_mem _ (List.mem_append_right _ (List.mem_append_left _ h))
  have hl := lv_entry ([.ref (ad 2076), .int v, .int w1, .int w2, .ref (ad 2517)]) (n := 6) (Nat.le_of_ble_eq_true rfl)
  rw [lg_entry_eq]
  generalize (lg_sl ([.ref (ad 2076), .int v, .int w1, .int w2, .ref (ad 2517)]) ++ List.replicate (6 - (lg_sl ([.ref (ad 2076), .int v, .int w1, .int w2, .ref (ad 2517)])).length) Slot.unset).toArray = ls at hl ⊢
  have hl : lv_has ls 6 [(0, .ref (ad 2076)), (1, .int v), (2, .int w1), (3, .int w2), (4, .ref (ad 2517))] := hl
  have htb : c.exceptionTable.toList = [⟨0, 12, 15, 13⟩, ⟨0, 12, 19, 25⟩] := (vx_table (x := yL_derive) B (hts (.codeWith yL_derive cL_derive 6 (some .int) [(0, 12, 15, 13), (0, 12, 19, 25)]) List.mem_cons_self)).trans rfl
  refine lv_aload hx hb dL_derive_0 (lv_at hl 4 rfl) ?_
  refine lv_iconst (v := nI 0) hx hb dL_derive_2 (by decide +kernel) ?_
  refine lv_aload_n hx hb dL_derive_3 rfl (lv_at hl 0 rfl) ?_
  refine lv_iload_n hx hb dL_derive_4 rfl (lv_at hl 1 rfl) ?_
  refine lv_iload_n hx hb dL_derive_5 rfl (lv_at hl 2 rfl) ?_
  refine lv_iload_n hx hb dL_derive_6 rfl (lv_at hl 3 rfl) ?_
  have hPc : va_P (dC, dI) vwCl (wo ad NSc g) s.heap := wo_cut hP (by decide)
  have hLc := LY.cut hL
  have hoL : ad 2517 < s.heap.size := (hP 2517 _ (wo_at (by decide) rfl)).lt
  have hoA := hP 2517 _ (wo_at (by decide) rfl)
  have hA2 : ∀ q9, s.heap.size ≤ q9 → (fun q9 => A q9 ∧ q9 ≠ ad 2517) q9 := fun q9 h => ⟨hA q9 h, by intro he; omega⟩
  refine vx_calli (vx_runV (As := [.int v, .int w1, .int w2]) (rest := [.int (nI 0), .ref (ad 2517)]) ⟨hx, hb, hml, hown, hts⟩ (c_W9_derive l hlt dC dI (fun q9 => A q9 ∧ q9 ≠ ad 2517) ad cA g L nm tx ty wp v w1 w2 hI) (cwV 3 hts (goodIn_app (goodIn_r [Cond.methodLink RL 21 yX9_derive, Cond.instanceMethod yX9_derive, Cond.selects RX9 yX9_derive yX9_derive, Cond.initialized RX9] [1, 2, 3, 4] rfl rfl) (goodIn_sub (fun w9 h9 => bk0 w9 h9) gw_W9_derive)) rfl rfl rfl (by decide +kernel) ⟨Nat.le_of_ble_eq_true rfl, Nat.le_of_ble_eq_true rfl⟩) ⟨fun a U g mk q => ⟨q.1, ⟨q.2.1.1, q.2.1.2.1, LY.moved (u := U) (U := U.calling g mk a) (Vm.Alike.refl U.vm) q.2.1.2.2⟩, exF.same rfl rfl q.2.2⟩, va_recv hLc.1 hPc (ci := 12) (q0 := 2076) rfl (wo_at (by decide) hI.1), fun U hU hW => ⟨rfl, ⟨by rw [hU]; exact hA2, by rw [hU]; exact hPc, LY.moved hW.alike hLc⟩, by rw [hU]; exact exF.warm hW (hE.narrow (fun _ h => h.1))⟩⟩ rfl rfl hl.1 rfl (lv_room (Nat.le_of_ble_eq_true rfl)) dL_derive_7 ⟨Nat.le_of_ble_eq_true rfl, Nat.le_of_ble_eq_true rfl⟩) hS (fun q _ h => h.1) (fun q h => h.1) (fun q _ h => h.1) (fun E ce q9 u t H1 locs1 ht hvm hpx hbx hz1 hk1 hS hce hcv hcl => ?_) (fun r_1 u t H1 locs ht hvm hw_2 hB hz1 hk1 hS => ?_)
  · obtain ⟨dx1, dx2, dx3, dx4, dx5, dx6, dx7, dx8, dx9⟩ := hE.2.2.2
    obtain ⟨hbx, hPx⟩ := hbx
    rw [ht] at hPx
    rcases hbx with ⟨rfl, hx9⟩ | ⟨rfl, hx9⟩
    · skip
      refine k_catch1 (own := RL) (name := "java/lang/IllegalArgumentException") hown ⟨0, 12, 15, 13⟩ _ htb (by decide) (by decide) (hts (.classLink RL 13 "java/lang/IllegalArgumentException") (List.mem_of_getElem? (i := 5) rfl)) (va_Nw.use rfl dx4) hce hcv hcl ?_
      have hP : va_P (dC, dI) vwCl (wo ad (2517 + 1) (va_up g 2517 (g 2517))) H1 := wo_join hPx (hoA.kept (hk1 _ hoL (fun h => h.2 rfl)))
      obtain ⟨g_3, hG_4⟩ : ∃ z, z = va_up g 2517 (g 2517) := ⟨_, rfl⟩
      rw [← hG_4] at hP
      have hP : va_P (dC, dI) vwCl (wo ad NSw g_3) H1 := hP
      have hGc_5 : ∀ k, k < 2517 → g_3 k = g k := fun k hk => by rw [hG_4]; exact va_up_ne _ _ (by omega)
      have hGo_6 : g_3 2517 = .inl (cA 2517, 1, .inr (.inl fo)) := by rw [hG_4, va_up_self]; exact h17
      generalize H1 = H at hP hS ⊢
      refine W.cs (cells' := 10) (slots' := 60) (by decide) (by decide) ?_
      refine lv_astore (lv' := [(5, .ref q9), (0, .ref (ad 2076)), (1, .int v), (2, .int w1), (3, .int w2), (4, .ref (ad 2517))]) hx hb dL_derive_15 hl (by decide) rfl (fun ls hl => ?_)
      refine lv_iconst (v := nI 1) hx hb dL_derive_17 (by decide +kernel) ?_
      refine W.widen (k := 10) (n := 60) (by omega) (by omega) ?_
      exact W.iret (v := nI 1) hx hb hr (fun t9 ht9 hW9 => ⟨⟨nI 1, (g_3, L, nm, nI 0, fo), rfl, ⟨Or.inr ⟨CIS.ext hI (fun k hk => ((fun (k : Nat) (hk : k < 2517) => rfl) k hk).trans (hGc_5 k hk)), Or.inl ⟨rfl, hx9⟩⟩, hGo_6⟩, by show va_P (dC, dI) vwCl _ t9.heap; rw [ht9]; exact hP⟩, hS.F ht9⟩) hS.2.2 dL_derive_18
    · skip
      refine k_catch2 (own := RL) (name := "java/util/NoSuchElementException") (nm := "java/lang/IllegalArgumentException") hown ⟨0, 12, 15, 13⟩ ⟨0, 12, 19, 25⟩ _ htb (by decide) (by decide) (hts (.classLink RL 13 "java/lang/IllegalArgumentException") (List.mem_of_getElem? (i := 5) rfl)) dx8 (by decide) (by decide) (hts (.classLink RL 25 "java/util/NoSuchElementException") (List.mem_of_getElem? (i := 6) rfl)) (va_Nw.use rfl dx7) hce hcv hcl ?_
      have hP : va_P (dC, dI) vwCl (wo ad (2517 + 1) (va_up g 2517 (g 2517))) H1 := wo_join hPx (hoA.kept (hk1 _ hoL (fun h => h.2 rfl)))
      obtain ⟨g_7, hG_8⟩ : ∃ z, z = va_up g 2517 (g 2517) := ⟨_, rfl⟩
      rw [← hG_8] at hP
      have hP : va_P (dC, dI) vwCl (wo ad NSw g_7) H1 := hP
      have hGc_9 : ∀ k, k < 2517 → g_7 k = g k := fun k hk => by rw [hG_8]; exact va_up_ne _ _ (by omega)
      have hGo_10 : g_7 2517 = .inl (cA 2517, 1, .inr (.inl fo)) := by rw [hG_8, va_up_self]; exact h17
      generalize H1 = H at hP hS ⊢
      refine W.cs (cells' := 10) (slots' := 60) (by decide) (by decide) ?_
      refine lv_astore (lv' := [(5, .ref q9), (0, .ref (ad 2076)), (1, .int v), (2, .int w1), (3, .int w2), (4, .ref (ad 2517))]) hx hb dL_derive_19 hl (by decide) rfl (fun ls hl => ?_)
      refine lv_iconst (v := nI 2) hx hb dL_derive_21 (by decide +kernel) ?_
      refine W.widen (k := 10) (n := 60) (by omega) (by omega) ?_
      exact W.iret (v := nI 2) hx hb hr (fun t9 ht9 hW9 => ⟨⟨nI 2, (g_7, L, nm, nI 0, fo), rfl, ⟨Or.inr ⟨CIS.ext hI (fun k hk => ((fun (k : Nat) (hk : k < 2517) => rfl) k hk).trans (hGc_9 k hk)), Or.inr ⟨rfl, hx9⟩⟩, hGo_10⟩, by show va_P (dC, dI) vwCl _ t9.heap; rw [ht9]; exact hP⟩, hS.F ht9⟩) hS.2.2 dL_derive_22
  · obtain ⟨g_11, L2_12, nm2_13⟩ := u
    try dsimp only at hw_2 hB
    rw [ht] at hB
    have hP : va_P (dC, dI) vwCl (wo ad (2517 + 1) (va_up g_11 2517 (g 2517))) H1 := wo_join hB (hoA.kept (hk1 _ hoL (fun h => h.2 rfl)))
    obtain ⟨g_14, hG_15⟩ : ∃ z, z = va_up g_11 2517 (g 2517) := ⟨_, rfl⟩
    rw [← hG_15] at hP
    have hP : va_P (dC, dI) vwCl (wo ad NSw g_14) H1 := hP
    have hGc_16 : ∀ k, k < 2517 → g_14 k = g_11 k := fun k hk => by rw [hG_15]; exact va_up_ne _ _ (by omega)
    have hGo_17 : g_14 2517 = .inl (cA 2517, 1, .inr (.inl fo)) := by rw [hG_15, va_up_self]; exact h17
    generalize H1 = H at hP hS ⊢
    refine W.cs (cells' := 10) (slots' := 60) (by decide) (by decide) ?_
    refine lv_i2l hx hb dL_derive_10 rfl ?_
    refine lv_topl (fun y_18 e_19 => ?_)
    refine m_last hx hb hK hP hD hS 2517 (by decide) rfl hGo_17 (i := 0) (x := y_18) (by decide) (by decide) dL_derive_11 (fun H locs g_20 f_21 fr_22 hP hS => ?_)
    have f_21 : g_20 2517 = .inl (cA 2517, 1, .inr (.inl (vp_updL fo 0 y_18))) := f_21
    refine lv_goto (tgt := 23) hx hb dL_derive_12 (by decide) ?_
    refine lv_iconst (v := nI 0) hx hb dL_derive_23 (by decide +kernel) ?_
    refine W.widen (k := 10) (n := 60) (by omega) (by omega) ?_
    exact W.iret (v := nI 0) hx hb hr (fun t9 ht9 hW9 => ⟨⟨nI 0, (g_20, L2_12, nm2_13, r_1, (vp_updL fo 0 y_18)), rfl, ⟨Or.inl ⟨⟨CIS.ext hw_2.1 (fun k hk => ((fun (k : Nat) (hk : k < 2517) => (fr_22 k (by omega)).trans (rfl)) k hk).trans (hGc_16 k hk)), hw_2.2⟩, rfl, (by show vp_updL fo 0 y_18 0 = _; unfold vp_updL; rw [if_pos rfl, e_19])⟩, f_21⟩, by show va_P (dC, dI) vwCl _ t9.heap; rw [ht9]; exact hP⟩, hS.F ht9⟩) hS.2.2 dL_derive_24
end
