section
def wd_G1_init : List Cond := .code yX1_init cX1_init 3 none :: (([.methodLink RX1 3 objectInit, .instanceMethod objectInit, .code objectInit ⟨#[0xb1]⟩ 1 none, .classLink RX1 9 RX8, .fieldLink RX1 11 "GradientDesk$Course" "values" "[LGradientDesk$Whole;", .fieldLink RX1 17 "GradientDesk$Course" "slopes" "[LGradientDesk$Whole;", .fieldLink RX1 20 "GradientDesk$Course" "bases" "[LGradientDesk$Whole;", .fieldLink RX1 23 "GradientDesk$Course" "scales" "[LGradientDesk$Whole;", .arrayClass .long, .fieldLink RX1 26 "GradientDesk$Course" "tops" "[J", .arrayClass .int, .fieldLink RX1 30 "GradientDesk$Course" "heading" "[I", .instantiable RX8 3, .initialized RX8, .methodLink RX1 34 yX8_init, .instanceMethod yX8_init, .fieldLink RX1 37 "GradientDesk$Course" "left" "LGradientDesk$Whole;", .fieldLink RX1 41 "GradientDesk$Course" "right" "LGradientDesk$Whole;", .fieldLink RX1 44 "GradientDesk$Course" "hold" "LGradientDesk$Whole;", .fieldLink RX1 47 "GradientDesk$Course" "shelf" "LGradientDesk$Shelf;"] : List Cond) ++ (u_ws RX1 TX1 10 ++ (u_ws RX8 TX8 3 ++ (wd_G8_init ++ ([])))))
theorem gw_G1_init : wd_G1_init.all goodWord = true := k_allc rfl (k_all (by decide +kernel) (k_all (gu_X1) (k_all (gu_X8) (k_all (gw_G8_init) (rfl)))))
set_option maxHeartbeats 8000000 in
set_option maxRecDepth 100000 in
theorem c_G1_init (l : Launch) (dC : Nat → ClassId) (dI : Nat → Nat → Nat) (A : Nat → Prop) (ad : Nat → Nat) (cA : Nat → ClassId) (ty : Nat → FieldType) (n : Nat) (g : Nat → va_E) (tt : Nat) (xs : Nat) (htt : tt < n) (hob : g tt = .inr (4, [.null, .null, .null, .null, .null, .null, .null, .null, .null, .null])) (hq0 : ty (n + 0) = .object "GradientDesk$Whole") (hq1 : ty (n + 1) = .object "GradientDesk$Whole") (hq2 : ty (n + 2) = .object "GradientDesk$Whole") (hq3 : ty (n + 3) = .object "GradientDesk$Whole") (hl4 : ty (n + 4) = .long) (hty : ∀ k, n + 5 ≤ k ∧ k < n + 1230 → ty k = .int) : Met l yX1_init wd_G1_init ({ frames := 20, cells := 1230, slots := 80787, locals := 400 }) (va_Pc [.ref (ad tt), .ref (ad xs)] (PCR n ty dC dI A ad cA g)) (va_Qv (fun (u : (Nat → va_E) × (Nat → Option Nat) × (Nat → Option Nat) × (Nat → Option Nat) × (Nat → Option Nat)) => match u with | (g2, f1, f2, f3, f4) => (∀ k, k < n ∧ k ≠ tt → g2 k = g k) ∧ g2 tt = .inr (4, [.ref (ad xs), .ref (ad n), .ref (ad (n + 1)), .ref (ad (n + 2)), .ref (ad (n + 3)), .ref (ad (n + 4)), .ref (ad (n + 5)), .ref (ad (n + 6)), .ref (ad (n + 8)), .ref (ad (n + 10))]) ∧ g2 (n + 0) = .inl (cA (n + 0), 200, .inr (.inr (.inr (.inr f1)))) ∧ g2 (n + 1) = .inl (cA (n + 1), 200, .inr (.inr (.inr (.inr f2)))) ∧ g2 (n + 2) = .inl (cA (n + 2), 200, .inr (.inr (.inr (.inr f3)))) ∧ g2 (n + 3) = .inl (cA (n + 3), 9, .inr (.inr (.inr (.inr f4)))) ∧ g2 (n + 4) = .inl (cA (n + 4), 3, .inr (.inl (fun _ => 0))) ∧ g2 (n + 5) = .inl (cA (n + 5), 3, .inl (fun _ => 0)) ∧ WF0 ad cA g2 (n + 6) 26 ∧ WF0 ad cA g2 (n + 8) 26 ∧ WF0 ad cA g2 (n + 10) 26 ∧ (∀ j, j < 200 → f1 j = some (ad (n + (12 + 6 * j)))) ∧ (∀ j, j < 200 → f2 j = some (ad (n + (12 + 6 * j + 2)))) ∧ (∀ j, j < 200 → f3 j = some (ad (n + (12 + 6 * j + 4)))) ∧ (∀ j, j < 9 → f4 j = some (ad (n + (1212 + 2 * j)))) ∧ (∀ j, j < 200 → WF0 ad cA g2 (n + (12 + 6 * j)) 26) ∧ (∀ j, j < 200 → WF0 ad cA g2 (n + (12 + 6 * j + 2)) 26) ∧ (∀ j, j < 200 → WF0 ad cA g2 (n + (12 + 6 * j + 4)) 13) ∧ (∀ j, j < 9 → WF0 ad cA g2 (n + (1212 + 2 * j)) 13)) (fun (u : (Nat → va_E) × (Nat → Option Nat) × (Nat → Option Nat) × (Nat → Option Nat) × (Nat → Option Nat)) (t : State) => va_P (dC, dI) vwCl (wo ad (n + 1230) u.1) t.heap) A) (1230) (80787) A := by
  refine Met.ofW (cc := cX1_init) (maxL := 3) (ret := none) (by decide) rfl ?_
  intro p e s m args below meth c s₁ B hml hv
  obtain ⟨rfl, hA, hz0, hP, hKK⟩ := hv
  obtain ⟨hKA, had, hAd, hE⟩ := id hKK
  have hx := B.exec
  have hb := B.bytes
  have hr := B.returns
  have hts := atoms_spec (ws := wd_G1_init) B.pre
  have hown : s.vm.findClass RX1 = some m.cls := findClass_of_methodNamed B.named
  have hlocks := B.notSynchronized
  have hK := hKA (n + 0)
  have hD0 : ∀ (n : Nat) (g : Nat → va_E), va_D A (wo ad n g) := fun n g => wo_D (fun i j _ _ h => ad_inj had i j h) (fun i _ => hAd i) g
  have hD := hD0 (n + 0)
  have hS : va_S A s.heap s.heap [] := va_S.rf
  have hP : va_P (dC, dI) vwCl (wo ad (n + 0) g) s.heap := hP
  have hin : meth.name = "<init>" := (name_of_methodNamed B.named B.method).1
  have bk0 : ∀ w ∈ u_ws RX1 TX1 10, w ∈ wd_G1_init := fun _ h => List.mem_cons_of_mem _ (List.mem_append_right _ (List.mem_append_left _ h))
  have bk1 : ∀ w ∈ u_ws RX8 TX8 3, w ∈ wd_G1_init := fun _ h => List.mem_cons_of_mem _ (List.mem_append_right _ (List.mem_append_right _ (List.mem_append_left _ h)))
  have bk2 : ∀ w ∈ wd_G8_init, w ∈ wd_G1_init := fun _ h => List.mem_cons_of_mem _ (List.mem_append_right _ (List.mem_append_right _ (List.mem_append_right _ (List.mem_append_left _ h))))
  have hl := lv_entry ([.ref (ad tt), .ref (ad xs)]) (n := 3) (Nat.le_of_ble_eq_true rfl)
  rw [lg_entry_eq]
  generalize (lg_sl ([.ref (ad tt), .ref (ad xs)]) ++ List.replicate (3 - (lg_sl ([.ref (ad tt), .ref (ad xs)])).length) Slot.unset).toArray = ls at hl ⊢
  have hl : lv_has ls 3 [(0, .ref (ad tt)), (1, .ref (ad xs))] := hl
  refine lv_aload_n hx hb dX1_init_0 rfl (lv_at hl 0 rfl) ?_
  refine W.objInit hx hb hown (hts (.methodLink RX1 3 objectInit) (List.mem_of_getElem? (i := 1) rfl)) (hts (.instanceMethod objectInit) (List.mem_of_getElem? (i := 2) rfl)) (hts _ (List.mem_of_getElem? (i := 3) rfl)) rfl (by rw [hml]; exact hl.1) rfl dX1_init_1 (Nat.le_of_ble_eq_true rfl) (Nat.le_of_ble_eq_true rfl) ?_
  refine W.eq (g2 := F0 m 4 ls []) rfl ?_
  refine lv_aload_n hx hb dX1_init_4 rfl (lv_at hl 0 rfl) ?_
  refine lv_sipush (v := nI 200) hx hb dX1_init_5 (by decide +kernel) ?_
  refine w_size (fun hle => ?_)
  have hz_1 := sz_eq had hz0 hP hS hle
  refine m_newq (C := RX8) (N' := 200) hx hb hown (hts (.classLink RX1 9 RX8) (List.mem_of_getElem? (i := 4) rfl)) hE.2.1 hq0 (hKA _) hP hS hz_1 (nI_pos (by decide)) (nI_clamp (by decide)) (by decide) (Nat.le_of_ble_eq_true rfl) (Nat.le_of_ble_eq_true rfl) dX1_init_8 (fun H g_2 f_3 fr_4 hP hS => ?_)
  refine W.cs (cells' := 1) (slots' := 200) (by omega) (by omega) ?_
  have hP : va_P (dC, dI) vwCl (wo ad (n + 1) g_2) H := hP
  have hK := hKA (n + 1)
  have hD := hD0 (n + 1)
  have f_5 : g_2 tt = .inr (4, [.null, .null, .null, .null, .null, .null, .null, .null, .null, .null]) := (fr_4 tt (by first | exact nt9 htt | exact nl9 rfl | omega)).trans hob
  refine m_putF (D := (dC, dI)) (v := .ref (ad (n + 0))) (tv := .array (.object "GradientDesk$Whole")) (C := RX1) (T := TX1) (N := 10) hx hb hts bk0 tyX1 tyX1_ok nmX1 hown hK hP hD hS tt (by omega) f_5 rfl 1 (by decide) (hts (.fieldLink RX1 11 "GradientDesk$Course" "values" "[LGradientDesk$Whole;") (List.mem_of_getElem? (i := 5) rfl)) (fun _ h9 => h9) rfl hin rfl (by decide +kernel) rfl rfl (Nat.le_of_ble_eq_true rfl) dX1_init_11 (fun H locs g_6 f_7 fr_8 hP hS => ?_)
  have f_7 : g_6 tt = .inr (4, [.null, .ref (ad (n + 0)), .null, .null, .null, .null, .null, .null, .null, .null]) := f_7
  refine lv_aload_n hx hb dX1_init_14 rfl (lv_at hl 0 rfl) ?_
  refine lv_sipush (v := nI 200) hx hb dX1_init_15 (by decide +kernel) ?_
  refine w_size (fun hle => ?_)
  have hz_9 := sz_eq had hz0 hP hS hle
  refine m_newq (C := RX8) (N' := 200) hx hb hown (hts (.classLink RX1 9 RX8) (List.mem_of_getElem? (i := 4) rfl)) hE.2.1 hq1 (hKA _) hP hS hz_9 (nI_pos (by decide)) (nI_clamp (by decide)) (by decide) (Nat.le_of_ble_eq_true rfl) (Nat.le_of_ble_eq_true rfl) dX1_init_18 (fun H g_10 f_11 fr_12 hP hS => ?_)
  refine W.cs (cells' := 2) (slots' := 400) (by omega) (by omega) ?_
  have hP : va_P (dC, dI) vwCl (wo ad (n + 2) g_10) H := hP
  have hK := hKA (n + 2)
  have hD := hD0 (n + 2)
  have f_13 : g_10 tt = .inr (4, [.null, .ref (ad (n + 0)), .null, .null, .null, .null, .null, .null, .null, .null]) := (fr_12 tt (by first | exact nt9 htt | exact nl9 rfl | omega)).trans f_7
  refine m_putF (D := (dC, dI)) (v := .ref (ad (n + 1))) (tv := .array (.object "GradientDesk$Whole")) (C := RX1) (T := TX1) (N := 10) hx hb hts bk0 tyX1 tyX1_ok nmX1 hown hK hP hD hS tt (by omega) f_13 rfl 2 (by decide) (hts (.fieldLink RX1 17 "GradientDesk$Course" "slopes" "[LGradientDesk$Whole;") (List.mem_of_getElem? (i := 6) rfl)) (fun _ h9 => h9) rfl hin rfl (by decide +kernel) rfl rfl (Nat.le_of_ble_eq_true rfl) dX1_init_21 (fun H locs g_14 f_15 fr_16 hP hS => ?_)
  have f_15 : g_14 tt = .inr (4, [.null, .ref (ad (n + 0)), .ref (ad (n + 1)), .null, .null, .null, .null, .null, .null, .null]) := f_15
  refine lv_aload_n hx hb dX1_init_24 rfl (lv_at hl 0 rfl) ?_
  refine lv_sipush (v := nI 200) hx hb dX1_init_25 (by decide +kernel) ?_
  refine w_size (fun hle => ?_)
  have hz_17 := sz_eq had hz0 hP hS hle
  refine m_newq (C := RX8) (N' := 200) hx hb hown (hts (.classLink RX1 9 RX8) (List.mem_of_getElem? (i := 4) rfl)) hE.2.1 hq2 (hKA _) hP hS hz_17 (nI_pos (by decide)) (nI_clamp (by decide)) (by decide) (Nat.le_of_ble_eq_true rfl) (Nat.le_of_ble_eq_true rfl) dX1_init_28 (fun H g_18 f_19 fr_20 hP hS => ?_)
  refine W.cs (cells' := 3) (slots' := 600) (by omega) (by omega) ?_
  have hP : va_P (dC, dI) vwCl (wo ad (n + 3) g_18) H := hP
  have hK := hKA (n + 3)
  have hD := hD0 (n + 3)
  have f_21 : g_18 tt = .inr (4, [.null, .ref (ad (n + 0)), .ref (ad (n + 1)), .null, .null, .null, .null, .null, .null, .null]) := (fr_20 tt (by first | exact nt9 htt | exact nl9 rfl | omega)).trans f_15
  refine m_putF (D := (dC, dI)) (v := .ref (ad (n + 2))) (tv := .array (.object "GradientDesk$Whole")) (C := RX1) (T := TX1) (N := 10) hx hb hts bk0 tyX1 tyX1_ok nmX1 hown hK hP hD hS tt (by omega) f_21 rfl 3 (by decide) (hts (.fieldLink RX1 20 "GradientDesk$Course" "bases" "[LGradientDesk$Whole;") (List.mem_of_getElem? (i := 7) rfl)) (fun _ h9 => h9) rfl hin rfl (by decide +kernel) rfl rfl (Nat.le_of_ble_eq_true rfl) dX1_init_31 (fun H locs g_22 f_23 fr_24 hP hS => ?_)
  have f_23 : g_22 tt = .inr (4, [.null, .ref (ad (n + 0)), .ref (ad (n + 1)), .ref (ad (n + 2)), .null, .null, .null, .null, .null, .null]) := f_23
  refine lv_aload_n hx hb dX1_init_34 rfl (lv_at hl 0 rfl) ?_
  refine lv_bipush (v := nI 9) hx hb dX1_init_35 (by decide +kernel) ?_
  refine w_size (fun hle => ?_)
  have hz_25 := sz_eq had hz0 hP hS hle
  refine m_newq (C := RX8) (N' := 9) hx hb hown (hts (.classLink RX1 9 RX8) (List.mem_of_getElem? (i := 4) rfl)) hE.2.1 hq3 (hKA _) hP hS hz_25 (nI_pos (by decide)) (nI_clamp (by decide)) (by decide) (Nat.le_of_ble_eq_true rfl) (Nat.le_of_ble_eq_true rfl) dX1_init_37 (fun H g_26 f_27 fr_28 hP hS => ?_)
  refine W.cs (cells' := 4) (slots' := 609) (by omega) (by omega) ?_
  have hP : va_P (dC, dI) vwCl (wo ad (n + 4) g_26) H := hP
  have hK := hKA (n + 4)
  have hD := hD0 (n + 4)
  have f_29 : g_26 tt = .inr (4, [.null, .ref (ad (n + 0)), .ref (ad (n + 1)), .ref (ad (n + 2)), .null, .null, .null, .null, .null, .null]) := (fr_28 tt (by first | exact nt9 htt | exact nl9 rfl | omega)).trans f_23
  refine m_putF (D := (dC, dI)) (v := .ref (ad (n + 3))) (tv := .array (.object "GradientDesk$Whole")) (C := RX1) (T := TX1) (N := 10) hx hb hts bk0 tyX1 tyX1_ok nmX1 hown hK hP hD hS tt (by omega) f_29 rfl 4 (by decide) (hts (.fieldLink RX1 23 "GradientDesk$Course" "scales" "[LGradientDesk$Whole;") (List.mem_of_getElem? (i := 8) rfl)) (fun _ h9 => h9) rfl hin rfl (by decide +kernel) rfl rfl (Nat.le_of_ble_eq_true rfl) dX1_init_40 (fun H locs g_30 f_31 fr_32 hP hS => ?_)
  have f_31 : g_30 tt = .inr (4, [.null, .ref (ad (n + 0)), .ref (ad (n + 1)), .ref (ad (n + 2)), .ref (ad (n + 3)), .null, .null, .null, .null, .null]) := f_31
  refine lv_aload_n hx hb dX1_init_43 rfl (lv_at hl 0 rfl) ?_
  refine lv_iconst (v := nI 3) hx hb dX1_init_44 (by decide +kernel) ?_
  refine w_size (fun hle => ?_)
  have hz_33 := sz_eq had hz0 hP hS hle
  refine m_newa (atype := .long) (t := .long) (N' := 3) (a0 := (3, .inr (.inl (fun _ => 0)))) hx hb (hts (.arrayClass .long) (List.mem_of_getElem? (i := 9) rfl)) rfl hl4 (hKA _) hP hS hz_33 (fun _ => rfl) (nI_pos (by decide)) (nI_clamp (by decide)) (by decide) (Nat.le_of_ble_eq_true rfl) (Nat.le_of_ble_eq_true rfl) dX1_init_45 (fun H g_34 f_35 fr_36 hP hS => ?_)
  refine W.cs (cells' := 5) (slots' := 612) (by omega) (by omega) ?_
  have hP : va_P (dC, dI) vwCl (wo ad (n + 5) g_34) H := hP
  have hK := hKA (n + 5)
  have hD := hD0 (n + 5)
  have f_37 : g_34 tt = .inr (4, [.null, .ref (ad (n + 0)), .ref (ad (n + 1)), .ref (ad (n + 2)), .ref (ad (n + 3)), .null, .null, .null, .null, .null]) := (fr_36 tt (by first | exact nt9 htt | exact nl9 rfl | omega)).trans f_31
  refine m_putF (D := (dC, dI)) (v := .ref (ad (n + 4))) (tv := .array .long) (C := RX1) (T := TX1) (N := 10) hx hb hts bk0 tyX1 tyX1_ok nmX1 hown hK hP hD hS tt (by omega) f_37 rfl 5 (by decide) (hts (.fieldLink RX1 26 "GradientDesk$Course" "tops" "[J") (List.mem_of_getElem? (i := 10) rfl)) (fun _ h9 => h9) rfl hin rfl (by decide +kernel) rfl rfl (Nat.le_of_ble_eq_true rfl) dX1_init_47 (fun H locs g_38 f_39 fr_40 hP hS => ?_)
  have f_39 : g_38 tt = .inr (4, [.null, .ref (ad (n + 0)), .ref (ad (n + 1)), .ref (ad (n + 2)), .ref (ad (n + 3)), .ref (ad (n + 4)), .null, .null, .null, .null]) := f_39
  refine lv_aload_n hx hb dX1_init_50 rfl (lv_at hl 0 rfl) ?_
  refine lv_iconst (v := nI 3) hx hb dX1_init_51 (by decide +kernel) ?_
  refine w_size (fun hle => ?_)
  have hz_41 := sz_eq had hz0 hP hS hle
  refine m_newa (atype := .int) (t := .int) (N' := 3) (a0 := (3, .inl (fun _ => 0))) hx hb (hts (.arrayClass .int) (List.mem_of_getElem? (i := 11) rfl)) rfl (hty _ (by omega)) (hKA _) hP hS hz_41 (fun _ => rfl) (nI_pos (by decide)) (nI_clamp (by decide)) (by decide) (Nat.le_of_ble_eq_true rfl) (Nat.le_of_ble_eq_true rfl) dX1_init_52 (fun H g_42 f_43 fr_44 hP hS => ?_)
  refine W.cs (cells' := 6) (slots' := 615) (by omega) (by omega) ?_
  have hP : va_P (dC, dI) vwCl (wo ad (n + 6) g_42) H := hP
  have hK := hKA (n + 6)
  have hD := hD0 (n + 6)
  have f_45 : g_42 tt = .inr (4, [.null, .ref (ad (n + 0)), .ref (ad (n + 1)), .ref (ad (n + 2)), .ref (ad (n + 3)), .ref (ad (n + 4)), .null, .null, .null, .null]) := (fr_44 tt (by first | exact nt9 htt | exact nl9 rfl | omega)).trans f_39
  refine m_putF (D := (dC, dI)) (v := .ref (ad (n + 5))) (tv := .array .int) (C := RX1) (T := TX1) (N := 10) hx hb hts bk0 tyX1 tyX1_ok nmX1 hown hK hP hD hS tt (by omega) f_45 rfl 6 (by decide) (hts (.fieldLink RX1 30 "GradientDesk$Course" "heading" "[I") (List.mem_of_getElem? (i := 12) rfl)) (fun _ h9 => h9) rfl hin rfl (by decide +kernel) rfl rfl (Nat.le_of_ble_eq_true rfl) dX1_init_54 (fun H locs g_46 f_47 fr_48 hP hS => ?_)
  have f_47 : g_46 tt = .inr (4, [.null, .ref (ad (n + 0)), .ref (ad (n + 1)), .ref (ad (n + 2)), .ref (ad (n + 3)), .ref (ad (n + 4)), .ref (ad (n + 5)), .null, .null, .null]) := f_47
  refine lv_aload_n hx hb dX1_init_57 rfl (lv_at hl 0 rfl) ?_
  refine w_size (fun hle => ?_)
  have hz_49 := sz_eq had hz0 hP hS hle
  refine m_new (ci := 11) (fs := [.null, .int (nI 0), .int (nI 0)]) (C := RX8) (T := TX8) (N := 3) hx hb hts bk1 tyX8 tyX8_ok hown (hts (.classLink RX1 9 RX8) (List.mem_of_getElem? (i := 4) rfl)) (hts (.instantiable RX8 3) (List.mem_of_getElem? (i := 13) rfl)) (hts (.initialized RX8) (List.mem_of_getElem? (i := 14) rfl)) hK hP hS hz_49 rfl (fun j hj => by rcases (show j = 0 ∨ j = 1 ∨ j = 2 by omega) with rfl | rfl | rfl <;> rfl) (Nat.le_of_ble_eq_true rfl) (Nat.le_of_ble_eq_true rfl) dX1_init_58 (fun H g_50 f_51 fr_52 hP hS => ?_)
  refine W.cs (cells' := 7) (slots' := 618) (by omega) (by omega) ?_
  have hP : va_P (dC, dI) vwCl (wo ad (n + 7) g_50) H := hP
  have hK := hKA (n + 7)
  have hD := hD0 (n + 7)
  refine lv_dup hx hb dX1_init_61 rfl ?_
  refine lv_bipush (v := nI 26) hx hb dX1_init_62 (by decide +kernel) ?_
  refine w_size (fun hle => ?_)
  have hz_55 := sz_eq had hz0 hP hS hle
  refine va_callv (va_runI (As := [.int (nI 26)]) (rest := [.ref (ad (n + 6)), .ref (ad tt)]) ⟨hx, hb, hml, hown, hts⟩ (c_G8_init l dC dI A ad cA ty (n + 7) g_50 (n + 6) 26 (by omega) f_51 (by decide) (hty _ (by omega))) (cwI 1 hts (goodIn_sub (fun w9 h9 => bk2 w9 h9) gw_G8_init) rfl rfl rfl (hts (.initialized RX8) (List.mem_of_getElem? (i := 14) rfl)) (hts (.methodLink RX1 34 yX8_init) (List.mem_of_getElem? (i := 15) rfl)) (hts (.instanceMethod yX8_init) (List.mem_of_getElem? (i := 16) rfl)) rfl (by decide +kernel) ⟨Nat.le_of_ble_eq_true rfl, Nat.le_of_ble_eq_true rfl⟩) ⟨fun a U g mk q => ⟨q.1, q.2.1, q.2.2.1, q.2.2.2.1, KK.same (u := U) (U := U.calling g mk a) rfl q.2.2.2.2⟩, fun U hU hW => ⟨rfl, by rw [hU]; exact fun q h => hA q (Nat.le_trans hS.1 h), by rw [hU]; exact hz_55, by rw [hU]; exact hP, KK.warm hW hKK⟩⟩ rfl rfl hl.1 rfl (lv_room (Nat.le_of_ble_eq_true rfl)) dX1_init_64 ⟨(Nat.le_of_ble_eq_true rfl), (Nat.le_of_ble_eq_true rfl)⟩) hS (fun q _ h => h) (fun q h => h) (fun u8 t8 H1 locs ht8 hvm8 hw_56 hB hz1 hk1 hS => ?_)
  obtain ⟨g_57, rfl⟩ : ∃ z, z = u8 := ⟨_, rfl⟩
  try dsimp only at hw_56 hB
  rw [ht8] at hB
  generalize H1 = H at hB hS ⊢
  obtain ⟨fr_58, hw_53, hw_54⟩ := hw_56
  refine W.cs (cells' := 8) (slots' := 746) (by omega) (by omega) ?_
  have hP : va_P (dC, dI) vwCl (wo ad (n + 8) g_57) H := hB
  have hK := hKA (n + 8)
  have hD := hD0 (n + 8)
  have f_59 : g_57 tt = .inr (4, [.null, .ref (ad (n + 0)), .ref (ad (n + 1)), .ref (ad (n + 2)), .ref (ad (n + 3)), .ref (ad (n + 4)), .ref (ad (n + 5)), .null, .null, .null]) := (fr_58 tt (by first | exact nt9 htt | exact nl9 rfl | omega)).trans ((fr_52 tt (by first | exact nt9 htt | exact nl9 rfl | omega)).trans f_47)
  refine m_putF (D := (dC, dI)) (v := .ref (ad (n + 6))) (tv := .object "GradientDesk$Whole") (C := RX1) (T := TX1) (N := 10) hx hb hts bk0 tyX1 tyX1_ok nmX1 hown hK hP hD hS tt (by omega) f_59 rfl 7 (by decide) (hts (.fieldLink RX1 37 "GradientDesk$Course" "left" "LGradientDesk$Whole;") (List.mem_of_getElem? (i := 17) rfl)) (fun _ h9 => h9) rfl hin rfl (by decide +kernel) rfl rfl (Nat.le_of_ble_eq_true rfl) dX1_init_67 (fun H locs g_60 f_61 fr_62 hP hS => ?_)
  have f_61 : g_60 tt = .inr (4, [.null, .ref (ad (n + 0)), .ref (ad (n + 1)), .ref (ad (n + 2)), .ref (ad (n + 3)), .ref (ad (n + 4)), .ref (ad (n + 5)), .ref (ad (n + 6)), .null, .null]) := f_61
  refine lv_aload_n hx hb dX1_init_70 rfl (lv_at hl 0 rfl) ?_
  refine w_size (fun hle => ?_)
  have hz_63 := sz_eq had hz0 hP hS hle
  refine m_new (ci := 11) (fs := [.null, .int (nI 0), .int (nI 0)]) (C := RX8) (T := TX8) (N := 3) hx hb hts bk1 tyX8 tyX8_ok hown (hts (.classLink RX1 9 RX8) (List.mem_of_getElem? (i := 4) rfl)) (hts (.instantiable RX8 3) (List.mem_of_getElem? (i := 13) rfl)) (hts (.initialized RX8) (List.mem_of_getElem? (i := 14) rfl)) hK hP hS hz_63 rfl (fun j hj => by rcases (show j = 0 ∨ j = 1 ∨ j = 2 by omega) with rfl | rfl | rfl <;> rfl) (Nat.le_of_ble_eq_true rfl) (Nat.le_of_ble_eq_true rfl) dX1_init_71 (fun H g_64 f_65 fr_66 hP hS => ?_)
  refine W.cs (cells' := 9) (slots' := 749) (by omega) (by omega) ?_
  have hP : va_P (dC, dI) vwCl (wo ad (n + 9) g_64) H := hP
  have hK := hKA (n + 9)
  have hD := hD0 (n + 9)
  refine lv_dup hx hb dX1_init_74 rfl ?_
  refine lv_bipush (v := nI 26) hx hb dX1_init_75 (by decide +kernel) ?_
  refine w_size (fun hle => ?_)
  have hz_69 := sz_eq had hz0 hP hS hle
  refine va_callv (va_runI (As := [.int (nI 26)]) (rest := [.ref (ad (n + 8)), .ref (ad tt)]) ⟨hx, hb, hml, hown, hts⟩ (c_G8_init l dC dI A ad cA ty (n + 9) g_64 (n + 8) 26 (by omega) f_65 (by decide) (hty _ (by omega))) (cwI 1 hts (goodIn_sub (fun w9 h9 => bk2 w9 h9) gw_G8_init) rfl rfl rfl (hts (.initialized RX8) (List.mem_of_getElem? (i := 14) rfl)) (hts (.methodLink RX1 34 yX8_init) (List.mem_of_getElem? (i := 15) rfl)) (hts (.instanceMethod yX8_init) (List.mem_of_getElem? (i := 16) rfl)) rfl (by decide +kernel) ⟨Nat.le_of_ble_eq_true rfl, Nat.le_of_ble_eq_true rfl⟩) ⟨fun a U g mk q => ⟨q.1, q.2.1, q.2.2.1, q.2.2.2.1, KK.same (u := U) (U := U.calling g mk a) rfl q.2.2.2.2⟩, fun U hU hW => ⟨rfl, by rw [hU]; exact fun q h => hA q (Nat.le_trans hS.1 h), by rw [hU]; exact hz_69, by rw [hU]; exact hP, KK.warm hW hKK⟩⟩ rfl rfl hl.1 rfl (lv_room (Nat.le_of_ble_eq_true rfl)) dX1_init_77 ⟨(Nat.le_of_ble_eq_true rfl), (Nat.le_of_ble_eq_true rfl)⟩) hS (fun q _ h => h) (fun q h => h) (fun u8 t8 H1 locs ht8 hvm8 hw_70 hB hz1 hk1 hS => ?_)
  obtain ⟨g_71, rfl⟩ : ∃ z, z = u8 := ⟨_, rfl⟩
  try dsimp only at hw_70 hB
  rw [ht8] at hB
  generalize H1 = H at hB hS ⊢
  obtain ⟨fr_72, hw_67, hw_68⟩ := hw_70
  refine W.cs (cells' := 10) (slots' := 877) (by omega) (by omega) ?_
  have hP : va_P (dC, dI) vwCl (wo ad (n + 10) g_71) H := hB
  have hK := hKA (n + 10)
  have hD := hD0 (n + 10)
  have f_73 : g_71 tt = .inr (4, [.null, .ref (ad (n + 0)), .ref (ad (n + 1)), .ref (ad (n + 2)), .ref (ad (n + 3)), .ref (ad (n + 4)), .ref (ad (n + 5)), .ref (ad (n + 6)), .null, .null]) := (fr_72 tt (by first | exact nt9 htt | exact nl9 rfl | omega)).trans ((fr_66 tt (by first | exact nt9 htt | exact nl9 rfl | omega)).trans f_61)
  refine m_putF (D := (dC, dI)) (v := .ref (ad (n + 8))) (tv := .object "GradientDesk$Whole") (C := RX1) (T := TX1) (N := 10) hx hb hts bk0 tyX1 tyX1_ok nmX1 hown hK hP hD hS tt (by omega) f_73 rfl 8 (by decide) (hts (.fieldLink RX1 41 "GradientDesk$Course" "right" "LGradientDesk$Whole;") (List.mem_of_getElem? (i := 18) rfl)) (fun _ h9 => h9) rfl hin rfl (by decide +kernel) rfl rfl (Nat.le_of_ble_eq_true rfl) dX1_init_80 (fun H locs g_74 f_75 fr_76 hP hS => ?_)
  have f_75 : g_74 tt = .inr (4, [.null, .ref (ad (n + 0)), .ref (ad (n + 1)), .ref (ad (n + 2)), .ref (ad (n + 3)), .ref (ad (n + 4)), .ref (ad (n + 5)), .ref (ad (n + 6)), .ref (ad (n + 8)), .null]) := f_75
  refine lv_aload_n hx hb dX1_init_83 rfl (lv_at hl 0 rfl) ?_
  refine w_size (fun hle => ?_)
  have hz_77 := sz_eq had hz0 hP hS hle
  refine m_new (ci := 11) (fs := [.null, .int (nI 0), .int (nI 0)]) (C := RX8) (T := TX8) (N := 3) hx hb hts bk1 tyX8 tyX8_ok hown (hts (.classLink RX1 9 RX8) (List.mem_of_getElem? (i := 4) rfl)) (hts (.instantiable RX8 3) (List.mem_of_getElem? (i := 13) rfl)) (hts (.initialized RX8) (List.mem_of_getElem? (i := 14) rfl)) hK hP hS hz_77 rfl (fun j hj => by rcases (show j = 0 ∨ j = 1 ∨ j = 2 by omega) with rfl | rfl | rfl <;> rfl) (Nat.le_of_ble_eq_true rfl) (Nat.le_of_ble_eq_true rfl) dX1_init_84 (fun H g_78 f_79 fr_80 hP hS => ?_)
  refine W.cs (cells' := 11) (slots' := 880) (by omega) (by omega) ?_
  have hP : va_P (dC, dI) vwCl (wo ad (n + 11) g_78) H := hP
  have hK := hKA (n + 11)
  have hD := hD0 (n + 11)
  refine lv_dup hx hb dX1_init_87 rfl ?_
  refine lv_bipush (v := nI 26) hx hb dX1_init_88 (by decide +kernel) ?_
  refine w_size (fun hle => ?_)
  have hz_83 := sz_eq had hz0 hP hS hle
  refine va_callv (va_runI (As := [.int (nI 26)]) (rest := [.ref (ad (n + 10)), .ref (ad tt)]) ⟨hx, hb, hml, hown, hts⟩ (c_G8_init l dC dI A ad cA ty (n + 11) g_78 (n + 10) 26 (by omega) f_79 (by decide) (hty _ (by omega))) (cwI 1 hts (goodIn_sub (fun w9 h9 => bk2 w9 h9) gw_G8_init) rfl rfl rfl (hts (.initialized RX8) (List.mem_of_getElem? (i := 14) rfl)) (hts (.methodLink RX1 34 yX8_init) (List.mem_of_getElem? (i := 15) rfl)) (hts (.instanceMethod yX8_init) (List.mem_of_getElem? (i := 16) rfl)) rfl (by decide +kernel) ⟨Nat.le_of_ble_eq_true rfl, Nat.le_of_ble_eq_true rfl⟩) ⟨fun a U g mk q => ⟨q.1, q.2.1, q.2.2.1, q.2.2.2.1, KK.same (u := U) (U := U.calling g mk a) rfl q.2.2.2.2⟩, fun U hU hW => ⟨rfl, by rw [hU]; exact fun q h => hA q (Nat.le_trans hS.1 h), by rw [hU]; exact hz_83, by rw [hU]; exact hP, KK.warm hW hKK⟩⟩ rfl rfl hl.1 rfl (lv_room (Nat.le_of_ble_eq_true rfl)) dX1_init_90 ⟨(Nat.le_of_ble_eq_true rfl), (Nat.le_of_ble_eq_true rfl)⟩) hS (fun q _ h => h) (fun q h => h) (fun u8 t8 H1 locs ht8 hvm8 hw_84 hB hz1 hk1 hS => ?_)
  obtain ⟨g_85, rfl⟩ : ∃ z, z = u8 := ⟨_, rfl⟩
  try dsimp only at hw_84 hB
  rw [ht8] at hB
  generalize H1 = H at hB hS ⊢
  obtain ⟨fr_86, hw_81, hw_82⟩ := hw_84
  refine W.cs (cells' := 12) (slots' := 1008) (by omega) (by omega) ?_
  have hP : va_P (dC, dI) vwCl (wo ad (n + 12) g_85) H := hB
  have hK := hKA (n + 12)
  have hD := hD0 (n + 12)
  have f_87 : g_85 tt = .inr (4, [.null, .ref (ad (n + 0)), .ref (ad (n + 1)), .ref (ad (n + 2)), .ref (ad (n + 3)), .ref (ad (n + 4)), .ref (ad (n + 5)), .ref (ad (n + 6)), .ref (ad (n + 8)), .null]) := (fr_86 tt (by first | exact nt9 htt | exact nl9 rfl | omega)).trans ((fr_80 tt (by first | exact nt9 htt | exact nl9 rfl | omega)).trans f_75)
  refine m_putF (D := (dC, dI)) (v := .ref (ad (n + 10))) (tv := .object "GradientDesk$Whole") (C := RX1) (T := TX1) (N := 10) hx hb hts bk0 tyX1 tyX1_ok nmX1 hown hK hP hD hS tt (by omega) f_87 rfl 9 (by decide) (hts (.fieldLink RX1 44 "GradientDesk$Course" "hold" "LGradientDesk$Whole;") (List.mem_of_getElem? (i := 19) rfl)) (fun _ h9 => h9) rfl hin rfl (by decide +kernel) rfl rfl (Nat.le_of_ble_eq_true rfl) dX1_init_93 (fun H locs g_88 f_89 fr_90 hP hS => ?_)
  have f_89 : g_88 tt = .inr (4, [.null, .ref (ad (n + 0)), .ref (ad (n + 1)), .ref (ad (n + 2)), .ref (ad (n + 3)), .ref (ad (n + 4)), .ref (ad (n + 5)), .ref (ad (n + 6)), .ref (ad (n + 8)), .ref (ad (n + 10))]) := f_89
  refine lv_aload_n hx hb dX1_init_96 rfl (lv_at hl 0 rfl) ?_
  refine lv_aload_n hx hb dX1_init_97 rfl (lv_at hl 1 rfl) ?_
  refine m_putF (D := (dC, dI)) (v := .ref (ad xs)) (tv := .object "GradientDesk$Shelf") (C := RX1) (T := TX1) (N := 10) hx hb hts bk0 tyX1 tyX1_ok nmX1 hown hK hP hD hS tt (by omega) f_89 rfl 0 (by decide) (hts (.fieldLink RX1 47 "GradientDesk$Course" "shelf" "LGradientDesk$Shelf;") (List.mem_of_getElem? (i := 20) rfl)) (fun _ h9 => h9) rfl hin rfl (by decide +kernel) rfl rfl (Nat.le_of_ble_eq_true rfl) dX1_init_98 (fun H locs g_91 f_92 fr_93 hP hS => ?_)
  have f_92 : g_91 tt = .inr (4, [.ref (ad xs), .ref (ad (n + 0)), .ref (ad (n + 1)), .ref (ad (n + 2)), .ref (ad (n + 3)), .ref (ad (n + 4)), .ref (ad (n + 5)), .ref (ad (n + 6)), .ref (ad (n + 8)), .ref (ad (n + 10))]) := f_92
  refine lv_iconst (v := nI 0) hx hb dX1_init_101 (by decide +kernel) ?_
  refine lv_istore_n (lv' := [(2, .int (nI 0)), (0, .ref (ad tt)), (1, .ref (ad xs))]) hx hb dX1_init_102 rfl hl (by decide) rfl (fun ls hl => ?_)
  have loop_94 : ∀ (k9 : Nat) (i : Nat) (f1 : Nat → Option Nat) (f2 : Nat → Option Nat) (f3 : Nat → Option Nat) (g_96 : Nat → va_E) (fr_97 : ∀ k, ((k < n + 12 ∧ k ≠ n ∧ k ≠ n + 1 ∧ k ≠ n + 2)) → g_96 k = g_91 k), 300 - i < k9 → (i ≤ 200) → (∀ j, j < i → f1 j = some (ad (n + (12 + 6 * j)))) → (∀ j, j < i → f2 j = some (ad (n + (12 + 6 * j + 2)))) → (∀ j, j < i → f3 j = some (ad (n + (12 + 6 * j + 4)))) → (g_96 (n + 0) = .inl (cA (n + 0), 200, .inr (.inr (.inr (.inr f1))))) → (g_96 (n + 1) = .inl (cA (n + 1), 200, .inr (.inr (.inr (.inr f2))))) → (g_96 (n + 2) = .inl (cA (n + 2), 200, .inr (.inr (.inr (.inr f3))))) → (∀ j, j < i → WF0 ad cA g_96 (n + (12 + 6 * j)) 26) → (∀ j, j < i → WF0 ad cA g_96 (n + (12 + 6 * j + 2)) 26) → (∀ j, j < i → WF0 ad cA g_96 (n + (12 + 6 * j + 4)) 13) → ∀ (H : Heap) (locs : List Loc) (ls : Array Slot), va_P (dC, dI) vwCl (wo ad (n + (12 + 6 * i)) g_96) H → va_S A s.heap H locs → lv_has ls 3 [(0, .ref (ad tt)), (2, .int (nI i))] → W p l e (headSpec wd_G1_init ({ frames := 20, cells := 1230, slots := 80787, locals := 400 })).room s m ([.ref (ad tt), .ref (ad xs)] : List Value).toArray below meth c H locs (12 + 6 * i) (1008 + 393 * i) (MQ below (va_Qv (fun (u : (Nat → va_E) × (Nat → Option Nat) × (Nat → Option Nat) × (Nat → Option Nat) × (Nat → Option Nat)) => match u with | (g2, f1, f2, f3, f4) => (∀ k, k < n ∧ k ≠ tt → g2 k = g k) ∧ g2 tt = .inr (4, [.ref (ad xs), .ref (ad n), .ref (ad (n + 1)), .ref (ad (n + 2)), .ref (ad (n + 3)), .ref (ad (n + 4)), .ref (ad (n + 5)), .ref (ad (n + 6)), .ref (ad (n + 8)), .ref (ad (n + 10))]) ∧ g2 (n + 0) = .inl (cA (n + 0), 200, .inr (.inr (.inr (.inr f1)))) ∧ g2 (n + 1) = .inl (cA (n + 1), 200, .inr (.inr (.inr (.inr f2)))) ∧ g2 (n + 2) = .inl (cA (n + 2), 200, .inr (.inr (.inr (.inr f3)))) ∧ g2 (n + 3) = .inl (cA (n + 3), 9, .inr (.inr (.inr (.inr f4)))) ∧ g2 (n + 4) = .inl (cA (n + 4), 3, .inr (.inl (fun _ => 0))) ∧ g2 (n + 5) = .inl (cA (n + 5), 3, .inl (fun _ => 0)) ∧ WF0 ad cA g2 (n + 6) 26 ∧ WF0 ad cA g2 (n + 8) 26 ∧ WF0 ad cA g2 (n + 10) 26 ∧ (∀ j, j < 200 → f1 j = some (ad (n + (12 + 6 * j)))) ∧ (∀ j, j < 200 → f2 j = some (ad (n + (12 + 6 * j + 2)))) ∧ (∀ j, j < 200 → f3 j = some (ad (n + (12 + 6 * j + 4)))) ∧ (∀ j, j < 9 → f4 j = some (ad (n + (1212 + 2 * j)))) ∧ (∀ j, j < 200 → WF0 ad cA g2 (n + (12 + 6 * j)) 26) ∧ (∀ j, j < 200 → WF0 ad cA g2 (n + (12 + 6 * j + 2)) 26) ∧ (∀ j, j < 200 → WF0 ad cA g2 (n + (12 + 6 * j + 4)) 13) ∧ (∀ j, j < 9 → WF0 ad cA g2 (n + (1212 + 2 * j)) 13)) (fun (u : (Nat → va_E) × (Nat → Option Nat) × (Nat → Option Nat) × (Nat → Option Nat) × (Nat → Option Nat)) (t : State) => va_P (dC, dI) vwCl (wo ad (n + 1230) u.1) t.heap) A) ([.ref (ad tt), .ref (ad xs)] : List Value).toArray s (1230) (80787) A) (F0 m 103 ls []) := by
    intro k9
    induction k9 with
    | zero => intro i f1 f2 f3 g_96 fr_97 h9; exact absurd h9 (Nat.not_lt_zero _)
    | succ k9 ih_95 =>
      intro i f1 f2 f3 g_96 fr_97 h9 hi hf1 hf2 hf3 f_98 f_99 f_100 hW1 hW2 hW3 H locs ls hP hS hl
      have hK := hKA (n + (12 + 6 * i))
      have hD := hD0 (n + (12 + 6 * i))
      refine lv_iload_n hx hb dX1_init_103 rfl (lv_at hl 1 rfl) ?_
      refine lv_sipush (v := nI 200) hx hb dX1_init_104 (by decide +kernel) ?_
      refine lv_icmp_ge (tgt := 161) hx hb dX1_init_107 (by decide) (fun c_101 => ?_) (fun c_101 => ?_)
      · have c_101 := (nI_leI (a := 200) (b := i) (by decide) (by omega)).mp c_101
        have hie : i = 200 := by omega
        rw [hie] at hf1 hf2 hf3 hW1 hW2 hW3 hP
        refine W.cs (cells' := 1212) (slots' := 79608) (by omega) (by omega) ?_
        have hP : va_P (dC, dI) vwCl (wo ad (n + 1212) g_96) H := hP
        have hK := hKA (n + 1212)
        have hD := hD0 (n + 1212)
        refine lv_iconst (v := nI 0) hx hb dX1_init_161 (by decide +kernel) ?_
        refine lv_istore_n (lv' := [(2, .int (nI 0)), (0, .ref (ad tt))]) hx hb dX1_init_162 rfl hl (by decide) rfl (fun ls hl => ?_)
        have loop_102 : ∀ (k9 : Nat) (i : Nat) (f4 : Nat → Option Nat) (g_104 : Nat → va_E) (fr_105 : ∀ k, ((k < n + 1212 ∧ k ≠ n + 3)) → g_104 k = g_96 k), 300 - i < k9 → (i ≤ 9) → (∀ j, j < i → f4 j = some (ad (n + (1212 + 2 * j)))) → (g_104 (n + 3) = .inl (cA (n + 3), 9, .inr (.inr (.inr (.inr f4))))) → (∀ j, j < i → WF0 ad cA g_104 (n + (1212 + 2 * j)) 13) → ∀ (H : Heap) (locs : List Loc) (ls : Array Slot), va_P (dC, dI) vwCl (wo ad (n + (1212 + 2 * i)) g_104) H → va_S A s.heap H locs → lv_has ls 3 [(0, .ref (ad tt)), (2, .int (nI i))] → W p l e (headSpec wd_G1_init ({ frames := 20, cells := 1230, slots := 80787, locals := 400 })).room s m ([.ref (ad tt), .ref (ad xs)] : List Value).toArray below meth c H locs (1212 + 2 * i) (79608 + 131 * i) (MQ below (va_Qv (fun (u : (Nat → va_E) × (Nat → Option Nat) × (Nat → Option Nat) × (Nat → Option Nat) × (Nat → Option Nat)) => match u with | (g2, f1, f2, f3, f4) => (∀ k, k < n ∧ k ≠ tt → g2 k = g k) ∧ g2 tt = .inr (4, [.ref (ad xs), .ref (ad n), .ref (ad (n + 1)), .ref (ad (n + 2)), .ref (ad (n + 3)), .ref (ad (n + 4)), .ref (ad (n + 5)), .ref (ad (n + 6)), .ref (ad (n + 8)), .ref (ad (n + 10))]) ∧ g2 (n + 0) = .inl (cA (n + 0), 200, .inr (.inr (.inr (.inr f1)))) ∧ g2 (n + 1) = .inl (cA (n + 1), 200, .inr (.inr (.inr (.inr f2)))) ∧ g2 (n + 2) = .inl (cA (n + 2), 200, .inr (.inr (.inr (.inr f3)))) ∧ g2 (n + 3) = .inl (cA (n + 3), 9, .inr (.inr (.inr (.inr f4)))) ∧ g2 (n + 4) = .inl (cA (n + 4), 3, .inr (.inl (fun _ => 0))) ∧ g2 (n + 5) = .inl (cA (n + 5), 3, .inl (fun _ => 0)) ∧ WF0 ad cA g2 (n + 6) 26 ∧ WF0 ad cA g2 (n + 8) 26 ∧ WF0 ad cA g2 (n + 10) 26 ∧ (∀ j, j < 200 → f1 j = some (ad (n + (12 + 6 * j)))) ∧ (∀ j, j < 200 → f2 j = some (ad (n + (12 + 6 * j + 2)))) ∧ (∀ j, j < 200 → f3 j = some (ad (n + (12 + 6 * j + 4)))) ∧ (∀ j, j < 9 → f4 j = some (ad (n + (1212 + 2 * j)))) ∧ (∀ j, j < 200 → WF0 ad cA g2 (n + (12 + 6 * j)) 26) ∧ (∀ j, j < 200 → WF0 ad cA g2 (n + (12 + 6 * j + 2)) 26) ∧ (∀ j, j < 200 → WF0 ad cA g2 (n + (12 + 6 * j + 4)) 13) ∧ (∀ j, j < 9 → WF0 ad cA g2 (n + (1212 + 2 * j)) 13)) (fun (u : (Nat → va_E) × (Nat → Option Nat) × (Nat → Option Nat) × (Nat → Option Nat) × (Nat → Option Nat)) (t : State) => va_P (dC, dI) vwCl (wo ad (n + 1230) u.1) t.heap) A) ([.ref (ad tt), .ref (ad xs)] : List Value).toArray s (1230) (80787) A) (F0 m 163 ls []) := by
          intro k9
          induction k9 with
          | zero => intro i f4 g_104 fr_105 h9; exact absurd h9 (Nat.not_lt_zero _)
          | succ k9 ih_103 =>
            intro i f4 g_104 fr_105 h9 hi4 hf4 f_106 hW4 H locs ls hP hS hl
            have hK := hKA (n + (1212 + 2 * i))
            have hD := hD0 (n + (1212 + 2 * i))
            refine lv_iload_n hx hb dX1_init_163 rfl (lv_at hl 1 rfl) ?_
            refine lv_bipush (v := nI 8) hx hb dX1_init_164 (by decide +kernel) ?_
            refine lv_icmp_gt (tgt := 190) hx hb dX1_init_166 (by decide) (fun c_107 => ?_) (fun c_107 => ?_)
            · have c_107 := (nI_ltI (a := 8) (b := i) (by decide) (by omega)).mp c_107
              have hi9 : i = 9 := by omega
              rw [hi9] at hf4 hW4
              have f_108 : g_104 tt = .inr (4, [.ref (ad xs), .ref (ad (n + 0)), .ref (ad (n + 1)), .ref (ad (n + 2)), .ref (ad (n + 3)), .ref (ad (n + 4)), .ref (ad (n + 5)), .ref (ad (n + 6)), .ref (ad (n + 8)), .ref (ad (n + 10))]) := (fr_105 tt (by omega)).trans ((fr_97 tt (by omega)).trans f_92)
              have f_109 : g_104 (n + 0) = .inl (cA (n + 0), 200, .inr (.inr (.inr (.inr f1)))) := (fr_105 (n + 0) (by omega)).trans f_98
              have f_110 : g_104 (n + 1) = .inl (cA (n + 1), 200, .inr (.inr (.inr (.inr f2)))) := (fr_105 (n + 1) (by omega)).trans f_99
              have f_111 : g_104 (n + 2) = .inl (cA (n + 2), 200, .inr (.inr (.inr (.inr f3)))) := (fr_105 (n + 2) (by omega)).trans f_100
              have f_112 : g_104 (n + 4) = .inl (cA (n + 4), 3, .inr (.inl (fun _ => 0))) := (fr_105 (n + 4) (by omega)).trans ((fr_97 (n + 4) (by omega)).trans ((fr_93 (n + 4) (by first | exact nt9 htt | exact nl9 rfl | omega)).trans ((fr_90 (n + 4) (by first | exact nt9 htt | exact nl9 rfl | omega)).trans ((fr_86 (n + 4) (by first | exact nt9 htt | exact nl9 rfl | omega)).trans ((fr_80 (n + 4) (by first | exact nt9 htt | exact nl9 rfl | omega)).trans ((fr_76 (n + 4) (by first | exact nt9 htt | exact nl9 rfl | omega)).trans ((fr_72 (n + 4) (by first | exact nt9 htt | exact nl9 rfl | omega)).trans ((fr_66 (n + 4) (by first | exact nt9 htt | exact nl9 rfl | omega)).trans ((fr_62 (n + 4) (by first | exact nt9 htt | exact nl9 rfl | omega)).trans ((fr_58 (n + 4) (by first | exact nt9 htt | exact nl9 rfl | omega)).trans ((fr_52 (n + 4) (by first | exact nt9 htt | exact nl9 rfl | omega)).trans ((fr_48 (n + 4) (by first | exact nt9 htt | exact nl9 rfl | omega)).trans ((fr_44 (n + 4) (by first | exact nt9 htt | exact nl9 rfl | omega)).trans ((fr_40 (n + 4) (by first | exact nt9 htt | exact nl9 rfl | omega)).trans f_35))))))))))))))
              have f_113 : g_104 (n + 5) = .inl (cA (n + 5), 3, .inl (fun _ => 0)) := (fr_105 (n + 5) (by omega)).trans ((fr_97 (n + 5) (by omega)).trans ((fr_93 (n + 5) (by first | exact nt9 htt | exact nl9 rfl | omega)).trans ((fr_90 (n + 5) (by first | exact nt9 htt | exact nl9 rfl | omega)).trans ((fr_86 (n + 5) (by first | exact nt9 htt | exact nl9 rfl | omega)).trans ((fr_80 (n + 5) (by first | exact nt9 htt | exact nl9 rfl | omega)).trans ((fr_76 (n + 5) (by first | exact nt9 htt | exact nl9 rfl | omega)).trans ((fr_72 (n + 5) (by first | exact nt9 htt | exact nl9 rfl | omega)).trans ((fr_66 (n + 5) (by first | exact nt9 htt | exact nl9 rfl | omega)).trans ((fr_62 (n + 5) (by first | exact nt9 htt | exact nl9 rfl | omega)).trans ((fr_58 (n + 5) (by first | exact nt9 htt | exact nl9 rfl | omega)).trans ((fr_52 (n + 5) (by first | exact nt9 htt | exact nl9 rfl | omega)).trans ((fr_48 (n + 5) (by first | exact nt9 htt | exact nl9 rfl | omega)).trans f_43))))))))))))
              have f_114 : g_104 (n + 6) = .inr (11, [.ref (ad (n + 7)), .int (nI 0), .int (nI 0)]) := (fr_105 (n + 6) (by omega)).trans ((fr_97 (n + 6) (by omega)).trans ((fr_93 (n + 6) (by first | exact nt9 htt | exact nl9 rfl | omega)).trans ((fr_90 (n + 6) (by first | exact nt9 htt | exact nl9 rfl | omega)).trans ((fr_86 (n + 6) (by first | exact nt9 htt | exact nl9 rfl | omega)).trans ((fr_80 (n + 6) (by first | exact nt9 htt | exact nl9 rfl | omega)).trans ((fr_76 (n + 6) (by first | exact nt9 htt | exact nl9 rfl | omega)).trans ((fr_72 (n + 6) (by first | exact nt9 htt | exact nl9 rfl | omega)).trans ((fr_66 (n + 6) (by first | exact nt9 htt | exact nl9 rfl | omega)).trans ((fr_62 (n + 6) (by first | exact nt9 htt | exact nl9 rfl | omega)).trans hw_53)))))))))
              have f_115 : g_104 (n + 7) = .inl (cA (n + 7), 26, .inl (fun _ => 0)) := (fr_105 (n + 7) (by omega)).trans ((fr_97 (n + 7) (by omega)).trans ((fr_93 (n + 7) (by first | exact nt9 htt | exact nl9 rfl | omega)).trans ((fr_90 (n + 7) (by first | exact nt9 htt | exact nl9 rfl | omega)).trans ((fr_86 (n + 7) (by first | exact nt9 htt | exact nl9 rfl | omega)).trans ((fr_80 (n + 7) (by first | exact nt9 htt | exact nl9 rfl | omega)).trans ((fr_76 (n + 7) (by first | exact nt9 htt | exact nl9 rfl | omega)).trans ((fr_72 (n + 7) (by first | exact nt9 htt | exact nl9 rfl | omega)).trans ((fr_66 (n + 7) (by first | exact nt9 htt | exact nl9 rfl | omega)).trans ((fr_62 (n + 7) (by first | exact nt9 htt | exact nl9 rfl | omega)).trans hw_54)))))))))
              have f_116 : g_104 (n + 8) = .inr (11, [.ref (ad (n + 9)), .int (nI 0), .int (nI 0)]) := (fr_105 (n + 8) (by omega)).trans ((fr_97 (n + 8) (by omega)).trans ((fr_93 (n + 8) (by first | exact nt9 htt | exact nl9 rfl | omega)).trans ((fr_90 (n + 8) (by first | exact nt9 htt | exact nl9 rfl | omega)).trans ((fr_86 (n + 8) (by first | exact nt9 htt | exact nl9 rfl | omega)).trans ((fr_80 (n + 8) (by first | exact nt9 htt | exact nl9 rfl | omega)).trans ((fr_76 (n + 8) (by first | exact nt9 htt | exact nl9 rfl | omega)).trans hw_67))))))
              have f_117 : g_104 (n + 9) = .inl (cA (n + 9), 26, .inl (fun _ => 0)) := (fr_105 (n + 9) (by omega)).trans ((fr_97 (n + 9) (by omega)).trans ((fr_93 (n + 9) (by first | exact nt9 htt | exact nl9 rfl | omega)).trans ((fr_90 (n + 9) (by first | exact nt9 htt | exact nl9 rfl | omega)).trans ((fr_86 (n + 9) (by first | exact nt9 htt | exact nl9 rfl | omega)).trans ((fr_80 (n + 9) (by first | exact nt9 htt | exact nl9 rfl | omega)).trans ((fr_76 (n + 9) (by first | exact nt9 htt | exact nl9 rfl | omega)).trans hw_68))))))
              have f_118 : g_104 (n + 10) = .inr (11, [.ref (ad (n + 11)), .int (nI 0), .int (nI 0)]) := (fr_105 (n + 10) (by omega)).trans ((fr_97 (n + 10) (by omega)).trans ((fr_93 (n + 10) (by first | exact nt9 htt | exact nl9 rfl | omega)).trans ((fr_90 (n + 10) (by first | exact nt9 htt | exact nl9 rfl | omega)).trans hw_81)))
              have f_119 : g_104 (n + 11) = .inl (cA (n + 11), 26, .inl (fun _ => 0)) := (fr_105 (n + 11) (by omega)).trans ((fr_97 (n + 11) (by omega)).trans ((fr_93 (n + 11) (by first | exact nt9 htt | exact nl9 rfl | omega)).trans ((fr_90 (n + 11) (by first | exact nt9 htt | exact nl9 rfl | omega)).trans hw_82)))
              refine W.widen (k := 1230) (n := 80787) (by omega) (by omega) ?_
              have hP : va_P (dC, dI) vwCl (wo ad (n + 1230) g_104) H := by rw [show n + 1230 = n + (1212 + 2 * i) by omega]; exact hP
              exact W.vret hx hb hr (fun t9 ht9 hW9 => ⟨⟨(g_104, f1, f2, f3, f4), rfl, ⟨(fun (k : Nat) (hk : k < n ∧ k ≠ tt) => (fr_105 k (by omega)).trans ((fr_97 k (by omega)).trans ((fr_93 k (by omega)).trans ((fr_90 k (by omega)).trans ((fr_86 k (by omega)).trans ((fr_80 k (by omega)).trans ((fr_76 k (by omega)).trans ((fr_72 k (by omega)).trans ((fr_66 k (by omega)).trans ((fr_62 k (by omega)).trans ((fr_58 k (by omega)).trans ((fr_52 k (by omega)).trans ((fr_48 k (by omega)).trans ((fr_44 k (by omega)).trans ((fr_40 k (by omega)).trans ((fr_36 k (by omega)).trans ((fr_32 k (by omega)).trans ((fr_28 k (by omega)).trans ((fr_24 k (by omega)).trans ((fr_20 k (by omega)).trans ((fr_16 k (by omega)).trans ((fr_12 k (by omega)).trans ((fr_8 k (by omega)).trans ((fr_4 k (by omega)).trans (rfl))))))))))))))))))))))))), f_108, f_109, f_110, f_111, f_106, f_112, f_113, ⟨f_114, f_115⟩, ⟨f_116, f_117⟩, ⟨f_118, f_119⟩, hf1, hf2, hf3, hf4, (fun j hj => (hW1 j hj).same (fun (k : Nat) (hk : n + (12 + 6 * j) ≤ k ∧ k < n + (12 + 6 * j) + 2) => (fr_105 k (by omega)).trans (rfl))), (fun j hj => (hW2 j hj).same (fun (k : Nat) (hk : n + (12 + 6 * j + 2) ≤ k ∧ k < n + (12 + 6 * j + 2) + 2) => (fr_105 k (by omega)).trans (rfl))), (fun j hj => (hW3 j hj).same (fun (k : Nat) (hk : n + (12 + 6 * j + 4) ≤ k ∧ k < n + (12 + 6 * j + 4) + 2) => (fr_105 k (by omega)).trans (rfl))), hW4⟩, by show va_P (dC, dI) vwCl _ t9.heap; rw [ht9]; exact hP⟩, hS.F ht9⟩) hS.2.2 dX1_init_190
            · have c_107 := mt (nI_ltI (a := 8) (b := i) (by decide) (by omega)).mpr c_107
              refine lv_aload_n hx hb dX1_init_169 rfl (lv_at hl 0 rfl) ?_
              have f_120 : g_104 tt = .inr (4, [.ref (ad xs), .ref (ad (n + 0)), .ref (ad (n + 1)), .ref (ad (n + 2)), .ref (ad (n + 3)), .ref (ad (n + 4)), .ref (ad (n + 5)), .ref (ad (n + 6)), .ref (ad (n + 8)), .ref (ad (n + 10))]) := (fr_105 tt (by omega)).trans ((fr_97 tt (by omega)).trans f_92)
              refine m_get (D := (dC, dI)) (v := .ref (ad (n + 3))) (C := RX1) (T := TX1) (N := 10) hx hb hts bk0 hown hK hP tt (by omega) f_120 rfl 4 (by decide) (hts (.fieldLink RX1 23 "GradientDesk$Course" "scales" "[LGradientDesk$Whole;") (List.mem_of_getElem? (i := 8) rfl)) (fun _ h9 => h9) rfl dX1_init_170 ?_
              refine lv_iload_n hx hb dX1_init_173 rfl (lv_at hl 1 rfl) ?_
              refine w_size (fun hle => ?_)
              have hz_121 := sz_eq had hz0 hP hS hle
              refine m_new (ci := 11) (fs := [.null, .int (nI 0), .int (nI 0)]) (C := RX8) (T := TX8) (N := 3) hx hb hts bk1 tyX8 tyX8_ok hown (hts (.classLink RX1 9 RX8) (List.mem_of_getElem? (i := 4) rfl)) (hts (.instantiable RX8 3) (List.mem_of_getElem? (i := 13) rfl)) (hts (.initialized RX8) (List.mem_of_getElem? (i := 14) rfl)) hK hP hS hz_121 rfl (fun j hj => by rcases (show j = 0 ∨ j = 1 ∨ j = 2 by omega) with rfl | rfl | rfl <;> rfl) (by show _ ≤ 1230; omega) (by show _ ≤ 80787; omega) dX1_init_174 (fun H g_122 f_123 fr_124 hP hS => ?_)
              refine W.cs (cells' := 1212 + 2 * i + 1) (slots' := 79608 + 131 * i + 3) (by omega) (by omega) ?_
              have hP : va_P (dC, dI) vwCl (wo ad (n + (1212 + 2 * i + 1)) g_122) H := hP
              have hK := hKA (n + (1212 + 2 * i + 1))
              have hD := hD0 (n + (1212 + 2 * i + 1))
              refine lv_dup hx hb dX1_init_177 rfl ?_
              refine lv_bipush (v := nI 13) hx hb dX1_init_178 (by decide +kernel) ?_
              refine w_size (fun hle => ?_)
              have hz_127 := sz_eq had hz0 hP hS hle
              refine va_callv (va_runI (As := [.int (nI 13)]) (rest := [.ref (ad (n + (1212 + 2 * i))), .int (nI i), .ref (ad (n + 3))]) ⟨hx, hb, hml, hown, hts⟩ (c_G8_init l dC dI A ad cA ty (n + (1212 + 2 * i + 1)) g_122 (n + (1212 + 2 * i)) 13 (by omega) f_123 (by decide) (hty _ (by omega))) (cwI 1 hts (goodIn_sub (fun w9 h9 => bk2 w9 h9) gw_G8_init) rfl rfl rfl (hts (.initialized RX8) (List.mem_of_getElem? (i := 14) rfl)) (hts (.methodLink RX1 34 yX8_init) (List.mem_of_getElem? (i := 15) rfl)) (hts (.instanceMethod yX8_init) (List.mem_of_getElem? (i := 16) rfl)) rfl (by decide +kernel) ⟨Nat.le_of_ble_eq_true rfl, Nat.le_of_ble_eq_true rfl⟩) ⟨fun a U g mk q => ⟨q.1, q.2.1, q.2.2.1, q.2.2.2.1, KK.same (u := U) (U := U.calling g mk a) rfl q.2.2.2.2⟩, fun U hU hW => ⟨rfl, by rw [hU]; exact fun q h => hA q (Nat.le_trans hS.1 h), by rw [hU]; exact hz_127, by rw [hU]; exact hP, KK.warm hW hKK⟩⟩ rfl rfl hl.1 rfl (lv_room (Nat.le_of_ble_eq_true rfl)) dX1_init_180 ⟨(by show _ ≤ 1230; omega), (by show _ ≤ 80787; omega)⟩) hS (fun q _ h => h) (fun q h => h) (fun u8 t8 H1 locs ht8 hvm8 hw_128 hB hz1 hk1 hS => ?_)
              obtain ⟨g_129, rfl⟩ : ∃ z, z = u8 := ⟨_, rfl⟩
              try dsimp only at hw_128 hB
              rw [ht8] at hB
              generalize H1 = H at hB hS ⊢
              obtain ⟨fr_130, hw_125, hw_126⟩ := hw_128
              refine W.cs (cells' := 1212 + 2 * i + 1 + 1) (slots' := 79608 + 131 * i + 3 + 128) (by omega) (by omega) ?_
              have hP : va_P (dC, dI) vwCl (wo ad (n + (1212 + 2 * i + 1 + 1)) g_129) H := hB
              have hK := hKA (n + (1212 + 2 * i + 1 + 1))
              have hD := hD0 (n + (1212 + 2 * i + 1 + 1))
              have f_131 : g_129 (n + 3) = .inl (cA (n + 3), 9, .inr (.inr (.inr (.inr f4)))) := (fr_130 (n + 3) (by first | exact nt9 htt | exact nl9 rfl | omega)).trans ((fr_124 (n + 3) (by first | exact nt9 htt | exact nl9 rfl | omega)).trans f_106)
              refine m_aast (r := (RX8, TX8, 3)) hx hb hK hP hD hS (n + 3) (n + (1212 + 2 * i)) 11 (by omega) (by omega) hq3 f_131 hw_125 rfl (i := i) (by omega) (by decide) dX1_init_183 (fun H locs g_132 f_133 fr_134 hP hS => ?_)
              refine lv_iinc (v := nI (i + 1)) (lv' := [(2, .int (nI (i + 1))), (0, .ref (ad tt))]) hx hb dX1_init_184 hl (k := 1) rfl (nI_add i 1) (by decide) rfl (fun ls hl => ?_)
              refine lv_goto (tgt := 163) hx hb dX1_init_187 (by decide) ?_
              refine W.cs (cells' := 1212 + 2 * (i + 1)) (slots' := 79608 + 131 * (i + 1)) (by omega) (by omega) ?_
              have hP : va_P (dC, dI) vwCl (wo ad (n + (1212 + 2 * (i + 1))) g_132) H := by rw [show n + (1212 + 2 * (i + 1)) = n + (1212 + 2 * i + 1 + 1) by omega]; exact hP
              have f_137 : g_132 (n + (1212 + 2 * i)) = .inr (11, [.ref (ad (n + (1212 + 2 * i + 1))), .int (nI 0), .int (nI 0)]) := (fr_134 (n + (1212 + 2 * i)) (by first | exact nt9 htt | exact nl9 rfl | omega)).trans hw_125
              have f_138 : g_132 (n + (1212 + 2 * i + 1)) = .inl (cA (n + (1212 + 2 * i + 1)), 13, .inl (fun _ => 0)) := (fr_134 (n + (1212 + 2 * i + 1)) (by first | exact nt9 htt | exact nl9 rfl | omega)).trans hw_126
              exact ih_103 (i + 1) (va_up f4 i (some (ad (n + (1212 + 2 * i))))) g_132 (fun (k : Nat) (hk : (k < n + 1212 ∧ k ≠ n + 3)) => (fr_134 k (by omega)).trans ((fr_130 k (by omega)).trans ((fr_124 k (by omega)).trans ((fr_105 k (by omega)).trans (rfl))))) (by omega) (by omega) (fun j hj => by by_cases h8 : j = i; rw [h8, va_up_self]; rw [va_up_ne _ _ h8]; exact hf4 j (by omega)) f_133 (fun j hj => by by_cases h8 : j = i; rw [h8]; exact ⟨f_137, f_138⟩; exact (hW4 j (by omega)).same (fun (k : Nat) (hk : n + (1212 + 2 * j) ≤ k ∧ k < n + (1212 + 2 * j) + 2) => (fr_134 k (by omega)).trans ((fr_130 k (by omega)).trans ((fr_124 k (by omega)).trans (rfl))))) _ _ _ hP hS (lv_sub (l' := [(0, .ref (ad tt)), (2, .int (nI (i + 1)))]) hl [1, 0] rfl)
        refine W.cs (cells' := 1212 + 2 * 0) (slots' := 79608 + 131 * 0) (by omega) (by omega) ?_
        have hP : va_P (dC, dI) vwCl (wo ad (n + (1212 + 2 * 0)) g_96) H := by rw [show n + (1212 + 2 * 0) = n + 1212 by omega]; exact hP
        have f_139 : g_96 (n + 3) = .inl (cA (n + 3), 9, .inr (.inr (.inr (.inr (fun _ => none))))) := (fr_97 (n + 3) (by omega)).trans ((fr_93 (n + 3) (by first | exact nt9 htt | exact nl9 rfl | omega)).trans ((fr_90 (n + 3) (by first | exact nt9 htt | exact nl9 rfl | omega)).trans ((fr_86 (n + 3) (by first | exact nt9 htt | exact nl9 rfl | omega)).trans ((fr_80 (n + 3) (by first | exact nt9 htt | exact nl9 rfl | omega)).trans ((fr_76 (n + 3) (by first | exact nt9 htt | exact nl9 rfl | omega)).trans ((fr_72 (n + 3) (by first | exact nt9 htt | exact nl9 rfl | omega)).trans ((fr_66 (n + 3) (by first | exact nt9 htt | exact nl9 rfl | omega)).trans ((fr_62 (n + 3) (by first | exact nt9 htt | exact nl9 rfl | omega)).trans ((fr_58 (n + 3) (by first | exact nt9 htt | exact nl9 rfl | omega)).trans ((fr_52 (n + 3) (by first | exact nt9 htt | exact nl9 rfl | omega)).trans ((fr_48 (n + 3) (by first | exact nt9 htt | exact nl9 rfl | omega)).trans ((fr_44 (n + 3) (by first | exact nt9 htt | exact nl9 rfl | omega)).trans ((fr_40 (n + 3) (by first | exact nt9 htt | exact nl9 rfl | omega)).trans ((fr_36 (n + 3) (by first | exact nt9 htt | exact nl9 rfl | omega)).trans ((fr_32 (n + 3) (by first | exact nt9 htt | exact nl9 rfl | omega)).trans f_27)))))))))))))))
        exact loop_102 _ 0 (fun _ => none) g_96 (fun (k : Nat) (hk : (k < n + 1212 ∧ k ≠ n + 3)) => rfl) (Nat.lt_succ_self _) (by decide) (fun j h => absurd h (Nat.not_lt_zero _)) f_139 (fun j h => absurd h (Nat.not_lt_zero _)) _ _ _ hP hS (lv_sub (l' := [(0, .ref (ad tt)), (2, .int (nI 0))]) hl [1, 0] rfl)
      · have c_101 := mt (nI_leI (a := 200) (b := i) (by decide) (by omega)).mpr c_101
        refine lv_aload_n hx hb dX1_init_110 rfl (lv_at hl 0 rfl) ?_
        have f_140 : g_96 tt = .inr (4, [.ref (ad xs), .ref (ad (n + 0)), .ref (ad (n + 1)), .ref (ad (n + 2)), .ref (ad (n + 3)), .ref (ad (n + 4)), .ref (ad (n + 5)), .ref (ad (n + 6)), .ref (ad (n + 8)), .ref (ad (n + 10))]) := (fr_97 tt (by omega)).trans f_92
        refine m_get (D := (dC, dI)) (v := .ref (ad (n + 0))) (C := RX1) (T := TX1) (N := 10) hx hb hts bk0 hown hK hP tt (by omega) f_140 rfl 1 (by decide) (hts (.fieldLink RX1 11 "GradientDesk$Course" "values" "[LGradientDesk$Whole;") (List.mem_of_getElem? (i := 5) rfl)) (fun _ h9 => h9) rfl dX1_init_111 ?_
        refine lv_iload_n hx hb dX1_init_114 rfl (lv_at hl 1 rfl) ?_
        refine w_size (fun hle => ?_)
        have hz_141 := sz_eq had hz0 hP hS hle
        refine m_new (ci := 11) (fs := [.null, .int (nI 0), .int (nI 0)]) (C := RX8) (T := TX8) (N := 3) hx hb hts bk1 tyX8 tyX8_ok hown (hts (.classLink RX1 9 RX8) (List.mem_of_getElem? (i := 4) rfl)) (hts (.instantiable RX8 3) (List.mem_of_getElem? (i := 13) rfl)) (hts (.initialized RX8) (List.mem_of_getElem? (i := 14) rfl)) hK hP hS hz_141 rfl (fun j hj => by rcases (show j = 0 ∨ j = 1 ∨ j = 2 by omega) with rfl | rfl | rfl <;> rfl) (by show _ ≤ 1230; omega) (by show _ ≤ 80787; omega) dX1_init_115 (fun H g_142 f_143 fr_144 hP hS => ?_)
        refine W.cs (cells' := 12 + 6 * i + 1) (slots' := 1008 + 393 * i + 3) (by omega) (by omega) ?_
        have hP : va_P (dC, dI) vwCl (wo ad (n + (12 + 6 * i + 1)) g_142) H := hP
        have hK := hKA (n + (12 + 6 * i + 1))
        have hD := hD0 (n + (12 + 6 * i + 1))
        refine lv_dup hx hb dX1_init_118 rfl ?_
        refine lv_bipush (v := nI 26) hx hb dX1_init_119 (by decide +kernel) ?_
        refine w_size (fun hle => ?_)
        have hz_147 := sz_eq had hz0 hP hS hle
        refine va_callv (va_runI (As := [.int (nI 26)]) (rest := [.ref (ad (n + (12 + 6 * i))), .int (nI i), .ref (ad (n + 0))]) ⟨hx, hb, hml, hown, hts⟩ (c_G8_init l dC dI A ad cA ty (n + (12 + 6 * i + 1)) g_142 (n + (12 + 6 * i)) 26 (by omega) f_143 (by decide) (hty _ (by omega))) (cwI 1 hts (goodIn_sub (fun w9 h9 => bk2 w9 h9) gw_G8_init) rfl rfl rfl (hts (.initialized RX8) (List.mem_of_getElem? (i := 14) rfl)) (hts (.methodLink RX1 34 yX8_init) (List.mem_of_getElem? (i := 15) rfl)) (hts (.instanceMethod yX8_init) (List.mem_of_getElem? (i := 16) rfl)) rfl (by decide +kernel) ⟨Nat.le_of_ble_eq_true rfl, Nat.le_of_ble_eq_true rfl⟩) ⟨fun a U g mk q => ⟨q.1, q.2.1, q.2.2.1, q.2.2.2.1, KK.same (u := U) (U := U.calling g mk a) rfl q.2.2.2.2⟩, fun U hU hW => ⟨rfl, by rw [hU]; exact fun q h => hA q (Nat.le_trans hS.1 h), by rw [hU]; exact hz_147, by rw [hU]; exact hP, KK.warm hW hKK⟩⟩ rfl rfl hl.1 rfl (lv_room (Nat.le_of_ble_eq_true rfl)) dX1_init_121 ⟨(by show _ ≤ 1230; omega), (by show _ ≤ 80787; omega)⟩) hS (fun q _ h => h) (fun q h => h) (fun u8 t8 H1 locs ht8 hvm8 hw_148 hB hz1 hk1 hS => ?_)
        obtain ⟨g_149, rfl⟩ : ∃ z, z = u8 := ⟨_, rfl⟩
        try dsimp only at hw_148 hB
        rw [ht8] at hB
        generalize H1 = H at hB hS ⊢
        obtain ⟨fr_150, hw_145, hw_146⟩ := hw_148
        refine W.cs (cells' := 12 + 6 * i + 1 + 1) (slots' := 1008 + 393 * i + 3 + 128) (by omega) (by omega) ?_
        have hP : va_P (dC, dI) vwCl (wo ad (n + (12 + 6 * i + 1 + 1)) g_149) H := hB
        have hK := hKA (n + (12 + 6 * i + 1 + 1))
        have hD := hD0 (n + (12 + 6 * i + 1 + 1))
        have f_151 : g_149 (n + 0) = .inl (cA (n + 0), 200, .inr (.inr (.inr (.inr f1)))) := (fr_150 (n + 0) (by first | exact nt9 htt | exact nl9 rfl | omega)).trans ((fr_144 (n + 0) (by first | exact nt9 htt | exact nl9 rfl | omega)).trans f_98)
        refine m_aast (r := (RX8, TX8, 3)) hx hb hK hP hD hS (n + 0) (n + (12 + 6 * i)) 11 (by omega) (by omega) hq0 f_151 hw_145 rfl (i := i) (by omega) (by decide) dX1_init_124 (fun H locs g_152 f_153 fr_154 hP hS => ?_)
        refine lv_aload_n hx hb dX1_init_125 rfl (lv_at hl 0 rfl) ?_
        have f_155 : g_152 tt = .inr (4, [.ref (ad xs), .ref (ad (n + 0)), .ref (ad (n + 1)), .ref (ad (n + 2)), .ref (ad (n + 3)), .ref (ad (n + 4)), .ref (ad (n + 5)), .ref (ad (n + 6)), .ref (ad (n + 8)), .ref (ad (n + 10))]) := (fr_154 tt (by first | exact nt9 htt | exact nl9 rfl | omega)).trans ((fr_150 tt (by first | exact nt9 htt | exact nl9 rfl | omega)).trans ((fr_144 tt (by first | exact nt9 htt | exact nl9 rfl | omega)).trans f_140))
        refine m_get (D := (dC, dI)) (v := .ref (ad (n + 1))) (C := RX1) (T := TX1) (N := 10) hx hb hts bk0 hown hK hP tt (by omega) f_155 rfl 2 (by decide) (hts (.fieldLink RX1 17 "GradientDesk$Course" "slopes" "[LGradientDesk$Whole;") (List.mem_of_getElem? (i := 6) rfl)) (fun _ h9 => h9) rfl dX1_init_126 ?_
        refine lv_iload_n hx hb dX1_init_129 rfl (lv_at hl 1 rfl) ?_
        refine w_size (fun hle => ?_)
        have hz_156 := sz_eq had hz0 hP hS hle
        refine m_new (ci := 11) (fs := [.null, .int (nI 0), .int (nI 0)]) (C := RX8) (T := TX8) (N := 3) hx hb hts bk1 tyX8 tyX8_ok hown (hts (.classLink RX1 9 RX8) (List.mem_of_getElem? (i := 4) rfl)) (hts (.instantiable RX8 3) (List.mem_of_getElem? (i := 13) rfl)) (hts (.initialized RX8) (List.mem_of_getElem? (i := 14) rfl)) hK hP hS hz_156 rfl (fun j hj => by rcases (show j = 0 ∨ j = 1 ∨ j = 2 by omega) with rfl | rfl | rfl <;> rfl) (by show _ ≤ 1230; omega) (by show _ ≤ 80787; omega) dX1_init_130 (fun H g_157 f_158 fr_159 hP hS => ?_)
        refine W.cs (cells' := 12 + 6 * i + 1 + 1 + 1) (slots' := 1008 + 393 * i + 3 + 128 + 3) (by omega) (by omega) ?_
        have hP : va_P (dC, dI) vwCl (wo ad (n + (12 + 6 * i + 1 + 1 + 1)) g_157) H := hP
        have hK := hKA (n + (12 + 6 * i + 1 + 1 + 1))
        have hD := hD0 (n + (12 + 6 * i + 1 + 1 + 1))
        refine lv_dup hx hb dX1_init_133 rfl ?_
        refine lv_bipush (v := nI 26) hx hb dX1_init_134 (by decide +kernel) ?_
        refine w_size (fun hle => ?_)
        have hz_162 := sz_eq had hz0 hP hS hle
        refine va_callv (va_runI (As := [.int (nI 26)]) (rest := [.ref (ad (n + (12 + 6 * i + 1 + 1))), .int (nI i), .ref (ad (n + 1))]) ⟨hx, hb, hml, hown, hts⟩ (c_G8_init l dC dI A ad cA ty (n + (12 + 6 * i + 1 + 1 + 1)) g_157 (n + (12 + 6 * i + 1 + 1)) 26 (by omega) f_158 (by decide) (hty _ (by omega))) (cwI 1 hts (goodIn_sub (fun w9 h9 => bk2 w9 h9) gw_G8_init) rfl rfl rfl (hts (.initialized RX8) (List.mem_of_getElem? (i := 14) rfl)) (hts (.methodLink RX1 34 yX8_init) (List.mem_of_getElem? (i := 15) rfl)) (hts (.instanceMethod yX8_init) (List.mem_of_getElem? (i := 16) rfl)) rfl (by decide +kernel) ⟨Nat.le_of_ble_eq_true rfl, Nat.le_of_ble_eq_true rfl⟩) ⟨fun a U g mk q => ⟨q.1, q.2.1, q.2.2.1, q.2.2.2.1, KK.same (u := U) (U := U.calling g mk a) rfl q.2.2.2.2⟩, fun U hU hW => ⟨rfl, by rw [hU]; exact fun q h => hA q (Nat.le_trans hS.1 h), by rw [hU]; exact hz_162, by rw [hU]; exact hP, KK.warm hW hKK⟩⟩ rfl rfl hl.1 rfl (lv_room (Nat.le_of_ble_eq_true rfl)) dX1_init_136 ⟨(by show _ ≤ 1230; omega), (by show _ ≤ 80787; omega)⟩) hS (fun q _ h => h) (fun q h => h) (fun u8 t8 H1 locs ht8 hvm8 hw_163 hB hz1 hk1 hS => ?_)
        obtain ⟨g_164, rfl⟩ : ∃ z, z = u8 := ⟨_, rfl⟩
        try dsimp only at hw_163 hB
        rw [ht8] at hB
        generalize H1 = H at hB hS ⊢
        obtain ⟨fr_165, hw_160, hw_161⟩ := hw_163
        refine W.cs (cells' := 12 + 6 * i + 1 + 1 + 1 + 1) (slots' := 1008 + 393 * i + 3 + 128 + 3 + 128) (by omega) (by omega) ?_
        have hP : va_P (dC, dI) vwCl (wo ad (n + (12 + 6 * i + 1 + 1 + 1 + 1)) g_164) H := hB
        have hK := hKA (n + (12 + 6 * i + 1 + 1 + 1 + 1))
        have hD := hD0 (n + (12 + 6 * i + 1 + 1 + 1 + 1))
        have f_166 : g_164 (n + 1) = .inl (cA (n + 1), 200, .inr (.inr (.inr (.inr f2)))) := (fr_165 (n + 1) (by first | exact nt9 htt | exact nl9 rfl | omega)).trans ((fr_159 (n + 1) (by first | exact nt9 htt | exact nl9 rfl | omega)).trans ((fr_154 (n + 1) (by first | exact nt9 htt | exact nl9 rfl | omega)).trans ((fr_150 (n + 1) (by first | exact nt9 htt | exact nl9 rfl | omega)).trans ((fr_144 (n + 1) (by first | exact nt9 htt | exact nl9 rfl | omega)).trans f_99))))
        refine m_aast (r := (RX8, TX8, 3)) hx hb hK hP hD hS (n + 1) (n + (12 + 6 * i + 1 + 1)) 11 (by omega) (by omega) hq1 f_166 hw_160 rfl (i := i) (by omega) (by decide) dX1_init_139 (fun H locs g_167 f_168 fr_169 hP hS => ?_)
        refine lv_aload_n hx hb dX1_init_140 rfl (lv_at hl 0 rfl) ?_
        have f_170 : g_167 tt = .inr (4, [.ref (ad xs), .ref (ad (n + 0)), .ref (ad (n + 1)), .ref (ad (n + 2)), .ref (ad (n + 3)), .ref (ad (n + 4)), .ref (ad (n + 5)), .ref (ad (n + 6)), .ref (ad (n + 8)), .ref (ad (n + 10))]) := (fr_169 tt (by first | exact nt9 htt | exact nl9 rfl | omega)).trans ((fr_165 tt (by first | exact nt9 htt | exact nl9 rfl | omega)).trans ((fr_159 tt (by first | exact nt9 htt | exact nl9 rfl | omega)).trans f_155))
        refine m_get (D := (dC, dI)) (v := .ref (ad (n + 2))) (C := RX1) (T := TX1) (N := 10) hx hb hts bk0 hown hK hP tt (by omega) f_170 rfl 3 (by decide) (hts (.fieldLink RX1 20 "GradientDesk$Course" "bases" "[LGradientDesk$Whole;") (List.mem_of_getElem? (i := 7) rfl)) (fun _ h9 => h9) rfl dX1_init_141 ?_
        refine lv_iload_n hx hb dX1_init_144 rfl (lv_at hl 1 rfl) ?_
        refine w_size (fun hle => ?_)
        have hz_171 := sz_eq had hz0 hP hS hle
        refine m_new (ci := 11) (fs := [.null, .int (nI 0), .int (nI 0)]) (C := RX8) (T := TX8) (N := 3) hx hb hts bk1 tyX8 tyX8_ok hown (hts (.classLink RX1 9 RX8) (List.mem_of_getElem? (i := 4) rfl)) (hts (.instantiable RX8 3) (List.mem_of_getElem? (i := 13) rfl)) (hts (.initialized RX8) (List.mem_of_getElem? (i := 14) rfl)) hK hP hS hz_171 rfl (fun j hj => by rcases (show j = 0 ∨ j = 1 ∨ j = 2 by omega) with rfl | rfl | rfl <;> rfl) (by show _ ≤ 1230; omega) (by show _ ≤ 80787; omega) dX1_init_145 (fun H g_172 f_173 fr_174 hP hS => ?_)
        refine W.cs (cells' := 12 + 6 * i + 1 + 1 + 1 + 1 + 1) (slots' := 1008 + 393 * i + 3 + 128 + 3 + 128 + 3) (by omega) (by omega) ?_
        have hP : va_P (dC, dI) vwCl (wo ad (n + (12 + 6 * i + 1 + 1 + 1 + 1 + 1)) g_172) H := hP
        have hK := hKA (n + (12 + 6 * i + 1 + 1 + 1 + 1 + 1))
        have hD := hD0 (n + (12 + 6 * i + 1 + 1 + 1 + 1 + 1))
        refine lv_dup hx hb dX1_init_148 rfl ?_
        refine lv_bipush (v := nI 13) hx hb dX1_init_149 (by decide +kernel) ?_
        refine w_size (fun hle => ?_)
        have hz_177 := sz_eq had hz0 hP hS hle
        refine va_callv (va_runI (As := [.int (nI 13)]) (rest := [.ref (ad (n + (12 + 6 * i + 1 + 1 + 1 + 1))), .int (nI i), .ref (ad (n + 2))]) ⟨hx, hb, hml, hown, hts⟩ (c_G8_init l dC dI A ad cA ty (n + (12 + 6 * i + 1 + 1 + 1 + 1 + 1)) g_172 (n + (12 + 6 * i + 1 + 1 + 1 + 1)) 13 (by omega) f_173 (by decide) (hty _ (by omega))) (cwI 1 hts (goodIn_sub (fun w9 h9 => bk2 w9 h9) gw_G8_init) rfl rfl rfl (hts (.initialized RX8) (List.mem_of_getElem? (i := 14) rfl)) (hts (.methodLink RX1 34 yX8_init) (List.mem_of_getElem? (i := 15) rfl)) (hts (.instanceMethod yX8_init) (List.mem_of_getElem? (i := 16) rfl)) rfl (by decide +kernel) ⟨Nat.le_of_ble_eq_true rfl, Nat.le_of_ble_eq_true rfl⟩) ⟨fun a U g mk q => ⟨q.1, q.2.1, q.2.2.1, q.2.2.2.1, KK.same (u := U) (U := U.calling g mk a) rfl q.2.2.2.2⟩, fun U hU hW => ⟨rfl, by rw [hU]; exact fun q h => hA q (Nat.le_trans hS.1 h), by rw [hU]; exact hz_177, by rw [hU]; exact hP, KK.warm hW hKK⟩⟩ rfl rfl hl.1 rfl (lv_room (Nat.le_of_ble_eq_true rfl)) dX1_init_151 ⟨(by show _ ≤ 1230; omega), (by show _ ≤ 80787; omega)⟩) hS (fun q _ h => h) (fun q h => h) (fun u8 t8 H1 locs ht8 hvm8 hw_178 hB hz1 hk1 hS => ?_)
        obtain ⟨g_179, rfl⟩ : ∃ z, z = u8 := ⟨_, rfl⟩
        try dsimp only at hw_178 hB
        rw [ht8] at hB
        generalize H1 = H at hB hS ⊢
        obtain ⟨fr_180, hw_175, hw_176⟩ := hw_178
        refine W.cs (cells' := 12 + 6 * i + 1 + 1 + 1 + 1 + 1 + 1) (slots' := 1008 + 393 * i + 3 + 128 + 3 + 128 + 3 + 128) (by omega) (by omega) ?_
        have hP : va_P (dC, dI) vwCl (wo ad (n + (12 + 6 * i + 1 + 1 + 1 + 1 + 1 + 1)) g_179) H := hB
        have hK := hKA (n + (12 + 6 * i + 1 + 1 + 1 + 1 + 1 + 1))
        have hD := hD0 (n + (12 + 6 * i + 1 + 1 + 1 + 1 + 1 + 1))
        have f_181 : g_179 (n + 2) = .inl (cA (n + 2), 200, .inr (.inr (.inr (.inr f3)))) := (fr_180 (n + 2) (by first | exact nt9 htt | exact nl9 rfl | omega)).trans ((fr_174 (n + 2) (by first | exact nt9 htt | exact nl9 rfl | omega)).trans ((fr_169 (n + 2) (by first | exact nt9 htt | exact nl9 rfl | omega)).trans ((fr_165 (n + 2) (by first | exact nt9 htt | exact nl9 rfl | omega)).trans ((fr_159 (n + 2) (by first | exact nt9 htt | exact nl9 rfl | omega)).trans ((fr_154 (n + 2) (by first | exact nt9 htt | exact nl9 rfl | omega)).trans ((fr_150 (n + 2) (by first | exact nt9 htt | exact nl9 rfl | omega)).trans ((fr_144 (n + 2) (by first | exact nt9 htt | exact nl9 rfl | omega)).trans f_100)))))))
        refine m_aast (r := (RX8, TX8, 3)) hx hb hK hP hD hS (n + 2) (n + (12 + 6 * i + 1 + 1 + 1 + 1)) 11 (by omega) (by omega) hq2 f_181 hw_175 rfl (i := i) (by omega) (by decide) dX1_init_154 (fun H locs g_182 f_183 fr_184 hP hS => ?_)
        refine lv_iinc (v := nI (i + 1)) (lv' := [(2, .int (nI (i + 1))), (0, .ref (ad tt))]) hx hb dX1_init_155 hl (k := 1) rfl (nI_add i 1) (by decide) rfl (fun ls hl => ?_)
        refine lv_goto (tgt := 103) hx hb dX1_init_158 (by decide) ?_
        refine W.cs (cells' := 12 + 6 * (i + 1)) (slots' := 1008 + 393 * (i + 1)) (by omega) (by omega) ?_
        have hP : va_P (dC, dI) vwCl (wo ad (n + (12 + 6 * (i + 1))) g_182) H := by rw [show n + (12 + 6 * (i + 1)) = n + (12 + 6 * i + 1 + 1 + 1 + 1 + 1 + 1) by omega]; exact hP
        have f_187 : g_182 (n + 0) = .inl (cA (n + 0), 200, .inr (.inr (.inr (.inr (va_up f1 i (some (ad (n + (12 + 6 * i))))))))) := (fr_184 (n + 0) (by first | exact nt9 htt | exact nl9 rfl | omega)).trans ((fr_180 (n + 0) (by first | exact nt9 htt | exact nl9 rfl | omega)).trans ((fr_174 (n + 0) (by first | exact nt9 htt | exact nl9 rfl | omega)).trans ((fr_169 (n + 0) (by first | exact nt9 htt | exact nl9 rfl | omega)).trans ((fr_165 (n + 0) (by first | exact nt9 htt | exact nl9 rfl | omega)).trans ((fr_159 (n + 0) (by first | exact nt9 htt | exact nl9 rfl | omega)).trans f_153)))))
        have f_188 : g_182 (n + 1) = .inl (cA (n + 1), 200, .inr (.inr (.inr (.inr (va_up f2 i (some (ad (n + (12 + 6 * i + 1 + 1))))))))) := (fr_184 (n + 1) (by first | exact nt9 htt | exact nl9 rfl | omega)).trans ((fr_180 (n + 1) (by first | exact nt9 htt | exact nl9 rfl | omega)).trans ((fr_174 (n + 1) (by first | exact nt9 htt | exact nl9 rfl | omega)).trans f_168))
        have f_189 : g_182 (n + (12 + 6 * i)) = .inr (11, [.ref (ad (n + (12 + 6 * i + 1))), .int (nI 0), .int (nI 0)]) := (fr_184 (n + (12 + 6 * i)) (by first | exact nt9 htt | exact nl9 rfl | omega)).trans ((fr_180 (n + (12 + 6 * i)) (by first | exact nt9 htt | exact nl9 rfl | omega)).trans ((fr_174 (n + (12 + 6 * i)) (by first | exact nt9 htt | exact nl9 rfl | omega)).trans ((fr_169 (n + (12 + 6 * i)) (by first | exact nt9 htt | exact nl9 rfl | omega)).trans ((fr_165 (n + (12 + 6 * i)) (by first | exact nt9 htt | exact nl9 rfl | omega)).trans ((fr_159 (n + (12 + 6 * i)) (by first | exact nt9 htt | exact nl9 rfl | omega)).trans ((fr_154 (n + (12 + 6 * i)) (by first | exact nt9 htt | exact nl9 rfl | omega)).trans hw_145))))))
        have f_190 : g_182 (n + (12 + 6 * i + 1)) = .inl (cA (n + (12 + 6 * i + 1)), 26, .inl (fun _ => 0)) := (fr_184 (n + (12 + 6 * i + 1)) (by first | exact nt9 htt | exact nl9 rfl | omega)).trans ((fr_180 (n + (12 + 6 * i + 1)) (by first | exact nt9 htt | exact nl9 rfl | omega)).trans ((fr_174 (n + (12 + 6 * i + 1)) (by first | exact nt9 htt | exact nl9 rfl | omega)).trans ((fr_169 (n + (12 + 6 * i + 1)) (by first | exact nt9 htt | exact nl9 rfl | omega)).trans ((fr_165 (n + (12 + 6 * i + 1)) (by first | exact nt9 htt | exact nl9 rfl | omega)).trans ((fr_159 (n + (12 + 6 * i + 1)) (by first | exact nt9 htt | exact nl9 rfl | omega)).trans ((fr_154 (n + (12 + 6 * i + 1)) (by first | exact nt9 htt | exact nl9 rfl | omega)).trans hw_146))))))
        have f_191 : g_182 (n + (12 + 6 * i + 1 + 1)) = .inr (11, [.ref (ad (n + (12 + 6 * i + 1 + 1 + 1))), .int (nI 0), .int (nI 0)]) := (fr_184 (n + (12 + 6 * i + 1 + 1)) (by first | exact nt9 htt | exact nl9 rfl | omega)).trans ((fr_180 (n + (12 + 6 * i + 1 + 1)) (by first | exact nt9 htt | exact nl9 rfl | omega)).trans ((fr_174 (n + (12 + 6 * i + 1 + 1)) (by first | exact nt9 htt | exact nl9 rfl | omega)).trans ((fr_169 (n + (12 + 6 * i + 1 + 1)) (by first | exact nt9 htt | exact nl9 rfl | omega)).trans hw_160)))
        have f_192 : g_182 (n + (12 + 6 * i + 1 + 1 + 1)) = .inl (cA (n + (12 + 6 * i + 1 + 1 + 1)), 26, .inl (fun _ => 0)) := (fr_184 (n + (12 + 6 * i + 1 + 1 + 1)) (by first | exact nt9 htt | exact nl9 rfl | omega)).trans ((fr_180 (n + (12 + 6 * i + 1 + 1 + 1)) (by first | exact nt9 htt | exact nl9 rfl | omega)).trans ((fr_174 (n + (12 + 6 * i + 1 + 1 + 1)) (by first | exact nt9 htt | exact nl9 rfl | omega)).trans ((fr_169 (n + (12 + 6 * i + 1 + 1 + 1)) (by first | exact nt9 htt | exact nl9 rfl | omega)).trans hw_161)))
        have f_193 : g_182 (n + (12 + 6 * i + 1 + 1 + 1 + 1)) = .inr (11, [.ref (ad (n + (12 + 6 * i + 1 + 1 + 1 + 1 + 1))), .int (nI 0), .int (nI 0)]) := (fr_184 (n + (12 + 6 * i + 1 + 1 + 1 + 1)) (by first | exact nt9 htt | exact nl9 rfl | omega)).trans hw_175
        have f_194 : g_182 (n + (12 + 6 * i + 1 + 1 + 1 + 1 + 1)) = .inl (cA (n + (12 + 6 * i + 1 + 1 + 1 + 1 + 1)), 13, .inl (fun _ => 0)) := (fr_184 (n + (12 + 6 * i + 1 + 1 + 1 + 1 + 1)) (by first | exact nt9 htt | exact nl9 rfl | omega)).trans hw_176
        exact ih_95 (i + 1) (va_up f1 i (some (ad (n + (12 + 6 * i))))) (va_up f2 i (some (ad (n + (12 + 6 * i + 1 + 1))))) (va_up f3 i (some (ad (n + (12 + 6 * i + 1 + 1 + 1 + 1))))) g_182 (fun (k : Nat) (hk : (k < n + 12 ∧ k ≠ n ∧ k ≠ n + 1 ∧ k ≠ n + 2)) => (fr_184 k (by omega)).trans ((fr_180 k (by omega)).trans ((fr_174 k (by omega)).trans ((fr_169 k (by omega)).trans ((fr_165 k (by omega)).trans ((fr_159 k (by omega)).trans ((fr_154 k (by omega)).trans ((fr_150 k (by omega)).trans ((fr_144 k (by omega)).trans ((fr_97 k (by omega)).trans (rfl))))))))))) (by omega) (by omega) (fun j hj => by by_cases h8 : j = i; rw [h8, va_up_self]; rw [va_up_ne _ _ h8]; exact hf1 j (by omega)) (fun j hj => by by_cases h8 : j = i; rw [h8, va_up_self]; rw [va_up_ne _ _ h8]; exact hf2 j (by omega)) (fun j hj => by by_cases h8 : j = i; rw [h8, va_up_self]; rw [va_up_ne _ _ h8]; exact hf3 j (by omega)) f_187 f_188 f_183 (fun j hj => by by_cases h8 : j = i; rw [h8]; exact ⟨f_189, f_190⟩; exact (hW1 j (by omega)).same (fun (k : Nat) (hk : n + (12 + 6 * j) ≤ k ∧ k < n + (12 + 6 * j) + 2) => (fr_184 k (by omega)).trans ((fr_180 k (by omega)).trans ((fr_174 k (by omega)).trans ((fr_169 k (by omega)).trans ((fr_165 k (by omega)).trans ((fr_159 k (by omega)).trans ((fr_154 k (by omega)).trans ((fr_150 k (by omega)).trans ((fr_144 k (by omega)).trans (rfl))))))))))) (fun j hj => by by_cases h8 : j = i; rw [h8]; exact ⟨f_191, f_192⟩; exact (hW2 j (by omega)).same (fun (k : Nat) (hk : n + (12 + 6 * j + 2) ≤ k ∧ k < n + (12 + 6 * j + 2) + 2) => (fr_184 k (by omega)).trans ((fr_180 k (by omega)).trans ((fr_174 k (by omega)).trans ((fr_169 k (by omega)).trans ((fr_165 k (by omega)).trans ((fr_159 k (by omega)).trans ((fr_154 k (by omega)).trans ((fr_150 k (by omega)).trans ((fr_144 k (by omega)).trans (rfl))))))))))) (fun j hj => by by_cases h8 : j = i; rw [h8]; exact ⟨f_193, f_194⟩; exact (hW3 j (by omega)).same (fun (k : Nat) (hk : n + (12 + 6 * j + 4) ≤ k ∧ k < n + (12 + 6 * j + 4) + 2) => (fr_184 k (by omega)).trans ((fr_180 k (by omega)).trans ((fr_174 k (by omega)).trans ((fr_169 k (by omega)).trans ((fr_165 k (by omega)).trans ((fr_159 k (by omega)).trans ((fr_154 k (by omega)).trans ((fr_150 k (by omega)).trans ((fr_144 k (by omega)).trans (rfl))))))))))) _ _ _ hP hS (lv_sub (l' := [(0, .ref (ad tt)), (2, .int (nI (i + 1)))]) hl [1, 0] rfl)
  refine W.cs (cells' := 12 + 6 * 0) (slots' := 1008 + 393 * 0) (by omega) (by omega) ?_
  have hP : va_P (dC, dI) vwCl (wo ad (n + (12 + 6 * 0)) g_91) H := by rw [show n + (12 + 6 * 0) = n + 12 by omega]; exact hP
  have f_195 : g_91 (n + 0) = .inl (cA (n + 0), 200, .inr (.inr (.inr (.inr (fun _ => none))))) := (fr_93 (n + 0) (by first | exact nt9 htt | exact nl9 rfl | omega)).trans ((fr_90 (n + 0) (by first | exact nt9 htt | exact nl9 rfl | omega)).trans ((fr_86 (n + 0) (by first | exact nt9 htt | exact nl9 rfl | omega)).trans ((fr_80 (n + 0) (by first | exact nt9 htt | exact nl9 rfl | omega)).trans ((fr_76 (n + 0) (by first | exact nt9 htt | exact nl9 rfl | omega)).trans ((fr_72 (n + 0) (by first | exact nt9 htt | exact nl9 rfl | omega)).trans ((fr_66 (n + 0) (by first | exact nt9 htt | exact nl9 rfl | omega)).trans ((fr_62 (n + 0) (by first | exact nt9 htt | exact nl9 rfl | omega)).trans ((fr_58 (n + 0) (by first | exact nt9 htt | exact nl9 rfl | omega)).trans ((fr_52 (n + 0) (by first | exact nt9 htt | exact nl9 rfl | omega)).trans ((fr_48 (n + 0) (by first | exact nt9 htt | exact nl9 rfl | omega)).trans ((fr_44 (n + 0) (by first | exact nt9 htt | exact nl9 rfl | omega)).trans ((fr_40 (n + 0) (by first | exact nt9 htt | exact nl9 rfl | omega)).trans ((fr_36 (n + 0) (by first | exact nt9 htt | exact nl9 rfl | omega)).trans ((fr_32 (n + 0) (by first | exact nt9 htt | exact nl9 rfl | omega)).trans ((fr_28 (n + 0) (by first | exact nt9 htt | exact nl9 rfl | omega)).trans ((fr_24 (n + 0) (by first | exact nt9 htt | exact nl9 rfl | omega)).trans ((fr_20 (n + 0) (by first | exact nt9 htt | exact nl9 rfl | omega)).trans ((fr_16 (n + 0) (by first | exact nt9 htt | exact nl9 rfl | omega)).trans ((fr_12 (n + 0) (by first | exact nt9 htt | exact nl9 rfl | omega)).trans ((fr_8 (n + 0) (by first | exact nt9 htt | exact nl9 rfl | omega)).trans f_3))))))))))))))))))))
  have f_196 : g_91 (n + 1) = .inl (cA (n + 1), 200, .inr (.inr (.inr (.inr (fun _ => none))))) := (fr_93 (n + 1) (by first | exact nt9 htt | exact nl9 rfl | omega)).trans ((fr_90 (n + 1) (by first | exact nt9 htt | exact nl9 rfl | omega)).trans ((fr_86 (n + 1) (by first | exact nt9 htt | exact nl9 rfl | omega)).trans ((fr_80 (n + 1) (by first | exact nt9 htt | exact nl9 rfl | omega)).trans ((fr_76 (n + 1) (by first | exact nt9 htt | exact nl9 rfl | omega)).trans ((fr_72 (n + 1) (by first | exact nt9 htt | exact nl9 rfl | omega)).trans ((fr_66 (n + 1) (by first | exact nt9 htt | exact nl9 rfl | omega)).trans ((fr_62 (n + 1) (by first | exact nt9 htt | exact nl9 rfl | omega)).trans ((fr_58 (n + 1) (by first | exact nt9 htt | exact nl9 rfl | omega)).trans ((fr_52 (n + 1) (by first | exact nt9 htt | exact nl9 rfl | omega)).trans ((fr_48 (n + 1) (by first | exact nt9 htt | exact nl9 rfl | omega)).trans ((fr_44 (n + 1) (by first | exact nt9 htt | exact nl9 rfl | omega)).trans ((fr_40 (n + 1) (by first | exact nt9 htt | exact nl9 rfl | omega)).trans ((fr_36 (n + 1) (by first | exact nt9 htt | exact nl9 rfl | omega)).trans ((fr_32 (n + 1) (by first | exact nt9 htt | exact nl9 rfl | omega)).trans ((fr_28 (n + 1) (by first | exact nt9 htt | exact nl9 rfl | omega)).trans ((fr_24 (n + 1) (by first | exact nt9 htt | exact nl9 rfl | omega)).trans ((fr_20 (n + 1) (by first | exact nt9 htt | exact nl9 rfl | omega)).trans ((fr_16 (n + 1) (by first | exact nt9 htt | exact nl9 rfl | omega)).trans f_11))))))))))))))))))
  have f_197 : g_91 (n + 2) = .inl (cA (n + 2), 200, .inr (.inr (.inr (.inr (fun _ => none))))) := (fr_93 (n + 2) (by first | exact nt9 htt | exact nl9 rfl | omega)).trans ((fr_90 (n + 2) (by first | exact nt9 htt | exact nl9 rfl | omega)).trans ((fr_86 (n + 2) (by first | exact nt9 htt | exact nl9 rfl | omega)).trans ((fr_80 (n + 2) (by first | exact nt9 htt | exact nl9 rfl | omega)).trans ((fr_76 (n + 2) (by first | exact nt9 htt | exact nl9 rfl | omega)).trans ((fr_72 (n + 2) (by first | exact nt9 htt | exact nl9 rfl | omega)).trans ((fr_66 (n + 2) (by first | exact nt9 htt | exact nl9 rfl | omega)).trans ((fr_62 (n + 2) (by first | exact nt9 htt | exact nl9 rfl | omega)).trans ((fr_58 (n + 2) (by first | exact nt9 htt | exact nl9 rfl | omega)).trans ((fr_52 (n + 2) (by first | exact nt9 htt | exact nl9 rfl | omega)).trans ((fr_48 (n + 2) (by first | exact nt9 htt | exact nl9 rfl | omega)).trans ((fr_44 (n + 2) (by first | exact nt9 htt | exact nl9 rfl | omega)).trans ((fr_40 (n + 2) (by first | exact nt9 htt | exact nl9 rfl | omega)).trans ((fr_36 (n + 2) (by first | exact nt9 htt | exact nl9 rfl | omega)).trans ((fr_32 (n + 2) (by first | exact nt9 htt | exact nl9 rfl | omega)).trans ((fr_28 (n + 2) (by first | exact nt9 htt | exact nl9 rfl | omega)).trans ((fr_24 (n + 2) (by first | exact nt9 htt | exact nl9 rfl | omega)).trans f_19))))))))))))))))
  exact loop_94 _ 0 (fun _ => none) (fun _ => none) (fun _ => none) g_91 (fun (k : Nat) (hk : (k < n + 12 ∧ k ≠ n ∧ k ≠ n + 1 ∧ k ≠ n + 2)) => rfl) (Nat.lt_succ_self _) (by decide) (fun j h => absurd h (Nat.not_lt_zero _)) (fun j h => absurd h (Nat.not_lt_zero _)) (fun j h => absurd h (Nat.not_lt_zero _)) f_195 f_196 f_197 (fun j h => absurd h (Nat.not_lt_zero _)) (fun j h => absurd h (Nat.not_lt_zero _)) (fun j h => absurd h (Nat.not_lt_zero _)) _ _ _ hP hS (lv_sub (l' := [(0, .ref (ad tt)), (2, .int (nI 0))]) hl [1, 0] rfl)
end
