section
def wd_G1_init : List Cond := .code yX1_init cX1_init 3 none :: (([.methodLink RX1 3 objectInit, .instanceMethod objectInit, .code objectInit ⟨#[0xb1]⟩ 1 none, .classLink RX1 9 RX8, .fieldLink RX1 11 "GradientDesk$Course" "values" "[LGradientDesk$Whole;", .fieldLink RX1 17 "GradientDesk$Course" "slopes" "[LGradientDesk$Whole;", .fieldLink RX1 20 "GradientDesk$Course" "bases" "[LGradientDesk$Whole;", .fieldLink RX1 23 "GradientDesk$Course" "scales" "[LGradientDesk$Whole;", .arrayClass .long, .fieldLink RX1 26 "GradientDesk$Course" "tops" "[J", .arrayClass .int, .fieldLink RX1 30 "GradientDesk$Course" "heading" "[I", .instantiable RX8 3, .initialized RX8, .methodLink RX1 34 yX8_init, .instanceMethod yX8_init, .fieldLink RX1 37 "GradientDesk$Course" "left" "LGradientDesk$Whole;", .fieldLink RX1 41 "GradientDesk$Course" "right" "LGradientDesk$Whole;", .fieldLink RX1 44 "GradientDesk$Course" "hold" "LGradientDesk$Whole;", .fieldLink RX1 47 "GradientDesk$Course" "shelf" "LGradientDesk$Shelf;"] : List Cond) ++ (u_ws RX1 TX1 10 ++ (u_ws RX8 TX8 3 ++ (wd_G8_init ++ ([])))))
theorem gw_G1_init : wd_G1_init.all goodWord = true := k_allc rfl (k_all (by decide +kernel) (k_all (gu_X1) (k_all (gu_X8) (k_all (gw_G8_init) (rfl)))))
set_option maxHeartbeats 8000000 in
set_option maxRecDepth 100000 in
theorem c_G1_init (l : Launch) (dC : Nat → ClassId) (dI : Nat → Nat → Nat) (A : Nat → Prop) (ad : Nat → Nat) (cA : Nat → ClassId) (ty : Nat → FieldType) (n : Nat) (g : Nat → va_E) (tt : Nat) (xs : Nat) (htt : tt < n) (hob : g tt = .inr (4, [.null, .null, .null, .null, .null, .null, .null, .null, .null, .null])) (hq0 : ty (n + 0) = .object "GradientDesk$Whole") (hq1 : ty (n + 1) = .object "GradientDesk$Whole") (hq2 : ty (n + 2) = .object "GradientDesk$Whole") (hq3 : ty (n + 3) = .object "GradientDesk$Whole") (hl4 : ty (n + 4) = .long) (hty : ∀ k, n + 5 ≤ k ∧ k < n + 1230 → ty k = .int) : Met l yX1_init wd_G1_init ({ frames := 20, cells := 1230, slots := 80787, locals := 400 }) (va_Pc [.ref (ad tt), .ref (ad xs)] (PCR n ty dC dI A ad cA g)) (va_Qv (fun (u : (Nat → va_E) × (Nat → Option Nat) × (Nat → Option Nat) × (Nat → Option Nat) × (Nat → Option Nat)) => match u with | (g2, f1, f2, f3, f4) => (∀ k, k < n ∧ k ≠ tt → g2 k = g k) ∧ g2 tt = .inr (4, [.ref (ad xs), .ref (ad n), .ref (ad (n + 1)), .ref (ad (n + 2)), .ref (ad (n + 3)), .ref (ad (n + 4)), .ref (ad (n + 5)), .ref (ad (n + 6)), .ref (ad (n + 8)), .ref (ad (n + 10))]) ∧ g2 (n + 0) = .inl (cA (n + 0), 200, .inr (.inr (.inr (.inr f1)))) ∧ g2 (n + 1) = .inl (cA (n + 1), 200, .inr (.inr (.inr (.inr f2)))) ∧ g2 (n + 2) = .inl (cA (n + 2), 200, .inr (.inr (.inr (.inr f3)))) ∧ g2 (n + 3) = .inl (cA (n + 3), 9, .inr (.inr (.inr (.inr f4)))) ∧ g2 (n + 4) = .inl (cA (n + 4), 3, .inr (.inl (fun _ => 0))) ∧ g2 (n + 5) = .inl (cA (n + 5), 3, .inl (fun _ => 0)) ∧ WF0 ad cA g2 (n + 6) 26 ∧ WF0 ad cA g2 (n + 8) 26 ∧ WF0 ad cA g2 (n + 10) 26 ∧ (∀ j, j < 200 → f1 j = some (ad (n + (12 + 6 * j)))) ∧ (∀ j, j < 200 → f2 j = some (ad (n + (12 + 6 * j + 2)))) ∧ (∀ j, j < 200 → f3 j = some (ad (n + (12 + 6 * j + 4)))) ∧ (∀ j, j < 9 → f4 j = some (ad (n + (1212 + 2 * j)))) ∧ (∀ j, j < 200 → WF0 ad cA g2 (n + (12 + 6 * j)) 26) ∧ (∀ j, j < 200 → WF0 ad cA g2 (n + (12 + 6 * j + 2)) 26) ∧ (∀ j, j < 200 → WF0 ad cA g2 (n + (12 + 6 * j + 4)) 13) ∧ (∀ j, j < 9 → WF0 ad cA g2 (n + (1212 + 2 * j)) 13)) (fun (u : (Nat → va_E) × (Nat → Option Nat) × (Nat → Option Nat) × (Nat → Option Nat) × (Nat → Option Nat)) (t : State) => va_P (dC, dI) vwCl (wo ad (n + 1230) u.1) t.heap) A) (1230) (80787) A := by
  refine Met.ofW (cc := cX1_init) (maxL := 3) (ret := none) (by decide) rfl ?_
  intro p e s m args below meth c s₁ B hml hv
  obtain ⟨rfl, hA, hz0, hP, hKK⟩ := hv
  obtain ⟨hKA, had, hAd, hE⟩ := id hKK
  have hx := B.exec
  have hb := B.bytes
  have hr := B.returns
  have hts := atoms_spec (ws := wd_G1_init) B.pre
  have hown : s.vm.findClass RX1 = some m.cls := findClass_of_methodNamed B.named
  have hlocks := B.notSynchronized
  have hK := hKA (n + 0)
  have hD0 : ∀ (n : Nat) (g : Nat → va_E), va_D A (wo ad n g) := fun n g => wo_D (fun i j _ _ h => ad_inj had i j h) (fun i _ => hAd i) g
  have hD := hD0 (n + 0)
  have hS : va_S A s.heap s.heap [] := va_S.rf
  have hP : va_P (dC, dI) vwCl (wo ad (n + 0) g) s.heap := hP
  have hin : meth.name = "<init>" := (name_of_methodNamed B.named B.method).1
  have bk0 : ∀ w ∈ u_ws RX1 TX1 10, w ∈ wd_G1_init := fun _ h => List.mem_cons_of_mem _ (List.mem_append_right _ (List.mem_append_left _ h))
  have bk1 : ∀ w ∈ u_ws RX8 TX8 3, w ∈ wd_G1_init := fun _ h => List.mem_cons_of_mem _ (List.mem_append_right _ (List.mem_append_right _ (List.mem_append_left _ h)))
  have bk2 : ∀ w ∈ wd_G8_init, w ∈ wd_G1_init := fun _ h => List.mem_cons_of_mem _ (List.mem_append_right _ (List.mem_append_right _ (List.mem_append_right _ (List.mem_append_left _ h))))
  have hl := lv_entry ([.ref (ad tt), .ref (ad xs)]) (n := 3) (Nat.le_of_ble_eq_true rfl)
  rw [lg_entry_eq]
  generalize (lg_sl ([.ref (ad tt), .ref (ad xs)]) ++ List.replicate (3 - (lg_sl ([.ref (ad tt), .ref (ad xs)])).length) Slot.unset).toArray = ls at hl ⊢
  have hl : lv_has ls 3 [(0, .ref (ad tt)), (1, .ref (ad xs))] := hl
  refine lv_aload_n hx hb dX1_init_0 rfl (lv_at hl 0 rfl) ?_
  refine W.objInit hx hb hown (hts (.methodLink RX1 3 objectInit) (List.mem_of_getElem? (i := 1) rfl)) (hts (.instanceMethod objectInit) (List.mem_of_getElem? (i := 2) rfl)) (hts _ (List.mem_of_getElem? (i := 3) rfl)) rfl (by rw [hml]; exact hl.1) rfl dX1_init_1 (Nat.le_of_ble_eq_true rfl) (Nat.le_of_ble_eq_true rfl) ?_
  refine W.eq (g2 := F0 m 4 ls []) rfl ?_
  refine lv_aload_n hx hb dX1_init_4 rfl (lv_at hl 0 rfl) ?_
  refine lv_sipush (v := nI 200) hx hb dX1_init_5 (by decide +kernel) ?_
  refine w_size (fun hle => ?_)
  have hz_1 := sz_eq had hz0 hP hS hle
  refine m_newq (C := RX8) (N' := 200) hx hb hown (hts (.classLink RX1 9 RX8) (List.mem_of_getElem? (i := 4) rfl)) hE.2.1 hq0 (hKA _) hP hS hz_1 (nI_pos (by decide)) (nI_clamp (by decide)) (by decide) (Nat.le_of_ble_eq_true rfl) (Nat.le_of_ble_eq_true rfl) dX1_init_8 (fun H g_2 f_3 fr_4 hP hS => ?_)
  refine W.cs (cells' := 1) (slots' := 200) (by omega) (by omega) ?_
  have hP : va_P (dC, dI) vwCl (wo ad (n + 1) g_2) H := hP
  have hK := hKA (n + 1)
  have hD := hD0 (n + 1)
  have f_5 : g_2 tt = .inr (4, [.null, .null, .null, .null, .null, .null, .null, .null, .null, .null]) := (fr_4 tt (by omega)).trans hob
  refine m_putF (D := (dC, dI)) (v := .ref (ad (n + 0))) (tv := .array (.object "GradientDesk$Whole")) (C := RX1) (T := TX1) (N := 10) hx hb hts bk0 tyX1 tyX1_ok nmX1 hown hK hP hD hS tt (by omega) f_5 rfl 1 (by decide) (hts (.fieldLink RX1 11 "GradientDesk$Course" "values" "[LGradientDesk$Whole;") (List.mem_of_getElem? (i := 5) rfl)) (fun _ h9 => h9) rfl hin rfl (by decide +kernel) rfl rfl (Nat.le_of_ble_eq_true rfl) dX1_init_11 (fun H locs g_6 f_7 fr_8 hP hS => ?_)
  have f_7 : g_6 tt = .inr (4, [.null, .ref (ad (n + 0)), .null, .null, .null, .null, .null, .null, .null, .null]) := f_7
  refine lv_aload_n hx hb dX1_init_14 rfl (lv_at hl 0 rfl) ?_
  refine lv_sipush (v := nI 200) hx hb dX1_init_15 (by decide +kernel) ?_
  refine w_size (fun hle => ?_)
  have hz_9 := sz_eq had hz0 hP hS hle
  refine m_newq (C := RX8) (N' := 200) hx hb hown (hts (.classLink RX1 9 RX8) (List.mem_of_getElem? (i := 4) rfl)) hE.2.1 hq1 (hKA _) hP hS hz_9 (nI_pos (by decide)) (nI_clamp (by decide)) (by decide) (Nat.le_of_ble_eq_true rfl) (Nat.le_of_ble_eq_true rfl) dX1_init_18 (fun H g_10 f_11 fr_12 hP hS => ?_)
  refine W.cs (cells' := 2) (slots' := 400) (by omega) (by omega) ?_
  have hP : va_P (dC, dI) vwCl (wo ad (n + 2) g_10) H := hP
  have hK := hKA (n + 2)
  have hD := hD0 (n + 2)
  have f_13 : g_10 tt = .inr (4, [.null, .ref (ad (n + 0)), .null, .null, .null, .null, .null, .null, .null, .null]) := (fr_12 tt (by omega)).trans f_7
  refine m_putF (D := (dC, dI)) (v := .ref (ad (n + 1))) (tv := .array (.object "GradientDesk$Whole")) (C := RX1) (T := TX1) (N := 10) hx hb hts bk0 tyX1 tyX1_ok nmX1 hown hK hP hD hS tt (by omega) f_13 rfl 2 (by decide) (hts (.fieldLink RX1 17 "GradientDesk$Course" "slopes" "[LGradientDesk$Whole;") (List.mem_of_getElem? (i := 6) rfl)) (fun _ h9 => h9) rfl hin rfl (by decide +kernel) rfl rfl (Nat.le_of_ble_eq_true rfl) dX1_init_21 (fun H locs g_14 f_15 fr_16 hP hS => ?_)
  have f_15 : g_14 tt = .inr (4, [.null, .ref (ad (n + 0)), .ref (ad (n + 1)), .null, .null, .null, .null, .null, .null, .null]) := f_15
  refine lv_aload_n hx hb dX1_init_24 rfl (lv_at hl 0 rfl) ?_
  refine lv_sipush (v := nI 200) hx hb dX1_init_25 (by decide +kernel) ?_
  refine w_size (fun hle => ?_)
  have hz_17 := sz_eq had hz0 hP hS hle
  refine m_newq (C := RX8) (N' := 200) hx hb hown (hts (.classLink RX1 9 RX8) (List.mem_of_getElem? (i := 4) rfl)) hE.2.1 hq2 (hKA _) hP hS hz_17 (nI_pos (by decide)) (nI_clamp (by decide)) (by decide) (Nat.le_of_ble_eq_true rfl) (Nat.le_of_ble_eq_true rfl) dX1_init_28 (fun H g_18 f_19 fr_20 hP hS => ?_)
  refine W.cs (cells' := 3) (slots' := 600) (by omega) (by omega) ?_
  have hP : va_P (dC, dI) vwCl (wo ad (n + 3) g_18) H := hP
  have hK := hKA (n + 3)
  have hD := hD0 (n + 3)
  have f_21 : g_18 tt = .inr (4, [.null, .ref (ad (n + 0)), .ref (ad (n + 1)), .null, .null, .null, .null, .null, .null, .null]) := (fr_20 tt (by omega)).trans f_15
  refine m_putF (D := (dC, dI)) (v := .ref (ad (n + 2))) (tv := .array (.object "GradientDesk$Whole")) (C := RX1) (T := TX1) (N := 10) hx hb hts bk0 tyX1 tyX1_ok nmX1 hown hK hP hD hS tt (by omega) f_21 rfl 3 (by decide) (hts (.fieldLink RX1 20 "GradientDesk$Course" "bases" "[LGradientDesk$Whole;") (List.mem_of_getElem? (i := 7) rfl)) (fun _ h9 => h9) rfl hin rfl (by decide +kernel) rfl rfl (Nat.le_of_ble_eq_true rfl) dX1_init_31 (fun H locs g_22 f_23 fr_24 hP hS => ?_)
  have f_23 : g_22 tt = .inr (4, [.null, .ref (ad (n + 0)), .ref (ad (n + 1)), .ref (ad (n + 2)), .null, .null, .null, .null, .null, .null]) := f_23
  refine lv_aload_n hx hb dX1_init_34 rfl (lv_at hl 0 rfl) ?_
  refine lv_bipush (v := nI 9) hx hb dX1_init_35 (by decide +kernel) ?_
  refine w_size (fun hle => ?_)
  have hz_25 := sz_eq had hz0 hP hS hle
  refine m_newq (C := RX8) (N' := 9) hx hb hown (hts (.classLink RX1 9 RX8) (List.mem_of_getElem? (i := 4) rfl)) hE.2.1 hq3 (hKA _) hP hS hz_25 (nI_pos (by decide)) (nI_clamp (by decide)) (by decide) (Nat.le_of_ble_eq_true rfl) (Nat.le_of_ble_eq_true rfl) dX1_init_37 (fun H g_26 f_27 fr_28 hP hS => ?_)
  refine W.cs (cells' := 4) (slots' := 609) (by omega) (by omega) ?_
  have hP : va_P (dC, dI) vwCl (wo ad (n + 4) g_26) H := hP
  have hK := hKA (n + 4)
  have hD := hD0 (n + 4)
  have f_29 : g_26 tt = .inr (4, [.null, .ref (ad (n + 0)), .ref (ad (n + 1)), .ref (ad (n + 2)), .null, .null, .null, .null, .null, .null]) := (fr_28 tt (by omega)).trans f_23
  refine m_putF (D := (dC, dI)) (v := .ref (ad (n + 3))) (tv := .array (.object "GradientDesk$Whole")) (C := RX1) (T := TX1) (N := 10) hx hb hts bk0 tyX1 tyX1_ok nmX1 hown hK hP hD hS tt (by omega) f_29 rfl 4 (by decide) (hts (.fieldLink RX1 23 "GradientDesk$Course" "scales" "[LGradientDesk$Whole;") (List.mem_of_getElem? (i := 8) rfl)) (fun _ h9 => h9) rfl hin rfl (by decide +kernel) rfl rfl (Nat.le_of_ble_eq_true rfl) dX1_init_40 (fun H locs g_30 f_31 fr_32 hP hS => ?_)
  have f_31 : g_30 tt = .inr (4, [.null, .ref (ad (n + 0)), .ref (ad (n + 1)), .ref (ad (n + 2)), .ref (ad (n + 3)), .null, .null, .null, .null, .null]) := f_31
  refine lv_aload_n hx hb dX1_init_43 rfl (lv_at hl 0 rfl) ?_
  refine lv_iconst (v := nI 3) hx hb dX1_init_44 (by decide +kernel) ?_
  refine w_size (fun hle => ?_)
  have hz_33 := sz_eq had hz0 hP hS hle
  refine m_newa (atype := .long) (t := .long) (N' := 3) (a0 := (3, .inr (.inl (fun _ => 0)))) hx hb (hts (.arrayClass .long) (List.mem_of_getElem? (i := 9) rfl)) rfl hl4 (hKA _) hP hS hz_33 (fun _ => rfl) (nI_pos (by decide)) (nI_clamp (by decide)) (by decide) (Nat.le_of_ble_eq_true rfl) (Nat.le_of_ble_eq_true rfl) dX1_init_45 (fun H g_34 f_35 fr_36 hP hS => ?_)
  refine W.cs (cells' := 5) (slots' := 612) (by omega) (by omega) ?_
  have hP : va_P (dC, dI) vwCl (wo ad (n + 5) g_34) H := hP
  have hK := hKA (n + 5)
  have hD := hD0 (n + 5)
  have f_37 : g_34 tt = .inr (4, [.null, .ref (ad (n + 0)), .ref (ad (n + 1)), .ref (ad (n + 2)), .ref (ad (n + 3)), .null, .null, .null, .null, .null]) := (fr_36 tt (by omega)).trans f_31
  refine m_putF (D := (dC, dI)) (v := .ref (ad (n + 4))) (tv := .array .long) (C := RX1) (T := TX1) (N := 10) hx hb hts bk0 tyX1 tyX1_ok nmX1 hown hK hP hD hS tt (by omega) f_37 rfl 5 (by decide) (hts (.fieldLink RX1 26 "GradientDesk$Course" "tops" "[J") (List.mem_of_getElem? (i := 10) rfl)) (fun _ h9 => h9) rfl hin rfl (by decide +kernel) rfl rfl (Nat.le_of_ble_eq_true rfl) dX1_init_47 (fun H locs g_38 f_39 fr_40 hP hS => ?_)
  have f_39 : g_38 tt = .inr (4, [.null, .ref (ad (n + 0)), .ref (ad (n + 1)), .ref (ad (n + 2)), .ref (ad (n + 3)), .ref (ad (n + 4)), .null, .null, .null, .null]) := f_39
  refine lv_aload_n hx hb dX1_init_50 rfl (lv_at hl 0 rfl) ?_
  refine lv_iconst (v := nI 3) hx hb dX1_init_51 (by decide +kernel) ?_
  refine w_size (fun hle => ?_)
  have hz_41 := sz_eq had hz0 hP hS hle
  refine m_newa (atype := .int) (t := .int) (N' := 3) (a0 := (3, .inl (fun _ => 0))) hx hb (hts (.arrayClass .int) (List.mem_of_getElem? (i := 11) rfl)) rfl (hty _ (by omega)) (hKA _) hP hS hz_41 (fun _ => rfl) (nI_pos (by decide)) (nI_clamp (by decide)) (by decide) (Nat.le_of_ble_eq_true rfl) (Nat.le_of_ble_eq_true rfl) dX1_init_52 (fun H g_42 f_43 fr_44 hP hS => ?_)
  refine W.cs (cells' := 6) (slots' := 615) (by omega) (by omega) ?_
  have hP : va_P (dC, dI) vwCl (wo ad (n + 6) g_42) H := hP
  have hK := hKA (n + 6)
  have hD := hD0 (n + 6)
  have f_45 : g_42 tt = .inr (4, [.null, .ref (ad (n + 0)), .ref (ad (n + 1)), .ref (ad (n + 2)), .ref (ad (n + 3)), .ref (ad (n + 4)), .null, .null, .null, .null]) := (fr_44 tt (by omega)).trans f_39
  refine m_putF (D := (dC, dI)) (v := .ref (ad (n + 5))) (tv := .array .int) (C := RX1) (T := TX1) (N := 10) hx hb hts bk0 tyX1 tyX1_ok nmX1 hown hK hP hD hS tt (by omega) f_45 rfl 6 (by decide) (hts (.fieldLink RX1 30 "GradientDesk$Course" "heading" "[I") (List.mem_of_getElem? (i := 12) rfl)) (fun _ h9 => h9) rfl hin rfl (by decide +kernel) rfl rfl (Nat.le_of_ble_eq_true rfl) dX1_init_54 (fun H locs g_46 f_47 fr_48 hP hS => ?_)
  have f_47 : g_46 tt = .inr (4, [.null, .ref (ad (n + 0)), .ref (ad (n + 1)), .ref (ad (n + 2)), .ref (ad (n + 3)), .ref (ad (n + 4)), .ref (ad (n + 5)), .null, .null, .null]) := f_47
  refine lv_aload_n hx hb dX1_init_57 rfl (lv_at hl 0 rfl) ?_
  refine w_size (fun hle => ?_)
  have hz_49 := sz_eq had hz0 hP hS hle
  refine m_new (ci := 11) (fs := [.null, .int (nI 0), .int (nI 0)]) (C := RX8) (T := TX8) (N := 3) hx hb hts bk1 tyX8 tyX8_ok hown (hts (.classLink RX1 9 RX8) (List.mem_of_getElem? (i := 4) rfl)) (hts (.instantiable RX8 3) (List.mem_of_getElem? (i := 13) rfl)) (hts (.initialized RX8) (List.mem_of_getElem? (i := 14) rfl)) hK hP hS hz_49 rfl (fun j hj => by rcases (show j = 0 ∨ j = 1 ∨ j = 2 by omega) with rfl | rfl | rfl <;> rfl) (Nat.le_of_ble_eq_true rfl) (Nat.le_of_ble_eq_true rfl) dX1_init_58 (fun H g_50 f_51 fr_52 hP hS => ?_)
  refine W.cs (cells' := 7) (slots' := 618) (by omega) (by omega) ?_
  have hP : va_P (dC, dI) vwCl (wo ad (n + 7) g_50) H := hP
  have hK := hKA (n + 7)
  have hD := hD0 (n + 7)
  refine lv_dup hx hb dX1_init_61 rfl ?_
  refine lv_bipush (v := nI 26) hx hb dX1_init_62 (by decide +kernel) ?_
  refine w_size (fun hle => ?_)
  have hz_55 := sz_eq had hz0 hP hS hle
  refine va_callv (va_runI (As := [.int (nI 26)]) (rest := [.ref (ad (n + 6)), .ref (ad tt)]) ⟨hx, hb, hml, hown, hts⟩ (c_G8_init l dC dI A ad cA ty (n + 7) g_50 (n + 6) 26 (by omega) f_51 (by decide) (hty _ (by omega))) (cwI 1 hts (goodIn_sub (fun w9 h9 => bk2 w9 h9) gw_G8_init) rfl rfl rfl (hts (.initialized RX8) (List.mem_of_getElem? (i := 14) rfl)) (hts (.methodLink RX1 34 yX8_init) (List.mem_of_getElem? (i := 15) rfl)) (hts (.instanceMethod yX8_init) (List.mem_of_getElem? (i := 16) rfl)) rfl (by decide +kernel) ⟨Nat.le_of_ble_eq_true rfl, Nat.le_of_ble_eq_true rfl⟩) ⟨fun a U g mk q => ⟨q.1, q.2.1, q.2.2.1, q.2.2.2.1, KK.same (u := U) (U := U.calling g mk a) rfl q.2.2.2.2⟩, fun U hU hW => ⟨rfl, by rw [hU]; exact fun q h => hA q (Nat.le_trans hS.1 h), by rw [hU]; exact hz_55, by rw [hU]; exact hP, KK.warm hW hKK⟩⟩ rfl rfl hl.1 rfl (lv_room (Nat.le_of_ble_eq_true rfl)) dX1_init_64 ⟨(Nat.le_of_ble_eq_true rfl), (Nat.le_of_ble_eq_true rfl)⟩) hS (fun q _ h => h) (fun q h => h) (fun u8 t8 H1 locs ht8 hvm8 hw_56 hB hz1 hk1 hS => ?_)
  obtain ⟨g_57, rfl⟩ : ∃ z, z = u8 := ⟨_, rfl⟩
  try dsimp only at hw_56 hB
  rw [ht8] at hB
  generalize H1 = H at hB hS ⊢
  obtain ⟨fr_58, hw_53, hw_54⟩ := hw_56
  refine W.cs (cells' := 8) (slots' := 746) (by omega) (by omega) ?_
  have hP : va_P (dC, dI) vwCl (wo ad (n + 8) g_57) H := hB
  have hK := hKA (n + 8)
  have hD := hD0 (n + 8)
  have f_59 : g_57 tt = .inr (4, [.null, .ref (ad (n + 0)), .ref (ad (n + 1)), .ref (ad (n + 2)), .ref (ad (n + 3)), .ref (ad (n + 4)), .ref (ad (n + 5)), .null, .null, .null]) := (fr_58 tt (by omega)).trans ((fr_52 tt (by omega)).trans f_47)
  refine m_putF (D := (dC, dI)) (v := .ref (ad (n + 6))) (tv := .object "GradientDesk$Whole") (C := RX1) (T := TX1) (N := 10) hx hb hts bk0 tyX1 tyX1_ok nmX1 hown hK hP hD hS tt (by omega) f_59 rfl 7 (by decide) (hts (.fieldLink RX1 37 "GradientDesk$Course" "left" "LGradientDesk$Whole;") (List.mem_of_getElem? (i := 17) rfl)) (fun _ h9 => h9) rfl hin rfl (by decide +kernel) rfl rfl (Nat.le_of_ble_eq_true rfl) dX1_init_67 (fun H locs g_60 f_61 fr_62 hP hS => ?_)
  have f_61 : g_60 tt = .inr (4, [.null, .ref (ad (n + 0)), .ref (ad (n + 1)), .ref (ad (n + 2)), .ref (ad (n + 3)), .ref (ad (n + 4)), .ref (ad (n + 5)), .ref (ad (n + 6)), .null, .null]) := f_61
  refine lv_aload_n hx hb dX1_init_70 rfl (lv_at hl 0 rfl) ?_
  refine w_size (fun hle => ?_)
  have hz_63 := sz_eq had hz0 hP hS hle
  refine m_new (ci := 11) (fs := [.null, .int (nI 0), .int (nI 0)]) (C := RX8) (T := TX8) (N := 3) hx hb hts bk1 tyX8 tyX8_ok hown (hts (.classLink RX1 9 RX8) (List.mem_of_getElem? (i := 4) rfl)) (hts (.instantiable RX8 3) (List.mem_of_getElem? (i := 13) rfl)) (hts (.initialized RX8) (List.mem_of_getElem? (i := 14) rfl)) hK hP hS hz_63 rfl (fun j hj => by rcases (show j = 0 ∨ j = 1 ∨ j = 2 by omega) with rfl | rfl | rfl <;> rfl) (Nat.le_of_ble_eq_true rfl) (Nat.le_of_ble_eq_true rfl) dX1_init_71 (fun H g_64 f_65 fr_66 hP hS => ?_)
  refine W.cs (cells' := 9) (slots' := 749) (by omega) (by omega) ?_
  have hP : va_P (dC, dI) vwCl (wo ad (n + 9) g_64) H := hP
  have hK := hKA (n + 9)
  have hD := hD0 (n + 9)
  refine lv_dup hx hb dX1_init_74 rfl ?_
  refine lv_bipush (v := nI 26) hx hb dX1_init_75 (by decide +kernel) ?_
  refine w_size (fun hle => ?_)
  have hz_69 := sz_eq had hz0 hP hS hle
  refine va_callv (va_runI (As := [.int (nI 26)]) (rest := [.ref (ad (n + 8)), .ref (ad tt)]) ⟨hx, hb, hml, hown, hts⟩ (c_G8_init l dC dI A ad cA ty (n + 9) g_64 (n + 8) 26 (by omega) f_65 (by decide) (hty _ (by omega))) (cwI 1 hts (goodIn_sub (fun w9 h9 => bk2 w9 h9) gw_G8_init) rfl rfl rfl (hts (.initialized RX8) (List.mem_of_getElem? (i := 14) rfl)) (hts (.methodLink RX1 34 yX8_init) (List.mem_of_getElem? (i := 15) rfl)) (hts (.instanceMethod yX8_init) (List.mem_of_getElem? (i := 16) rfl)) rfl (by decide +kernel) ⟨Nat.le_of_ble_eq_true rfl, Nat.le_of_ble_eq_true rfl⟩) ⟨fun a U g mk q => ⟨q.1, q.2.1, q.2.2.1, q.2.2.2.1, KK.same (u := U) (U := U.calling g mk a) rfl q.2.2.2.2⟩, fun U hU hW => ⟨rfl, by rw [hU]; exact fun q h => hA q (Nat.le_trans hS.1 h), by rw [hU]; exact hz_69, by rw [hU]; exact hP, KK.warm hW hKK⟩⟩ rfl rfl hl.1 rfl (lv_room (Nat.le_of_ble_eq_true rfl)) dX1_init_77 ⟨(Nat.le_of_ble_eq_true rfl), (Nat.le_of_ble_eq_true rfl)⟩) hS (fun q _ h => h) (fun q h => h) (fun u8 t8 H1 locs ht8 hvm8 hw_70 hB hz1 hk1 hS => ?_)
  obtain ⟨g_71, rfl⟩ : ∃ z, z = u8 := ⟨_, rfl⟩
  try dsimp only at hw_70 hB
  rw [ht8] at hB
  generalize H1 = H at hB hS ⊢
  obtain ⟨fr_72, hw_67, hw_68⟩ := hw_70
  refine W.cs (cells' := 10) (slots' := 877) (by omega) (by omega) ?_
  have hP : va_P (dC, dI) vwCl (wo ad (n + 10) g_71) H := hB
  have hK := hKA (n + 10)
  have hD := hD0 (n + 10)
  have f_73 : g_71 tt = .inr (4, [.null, .ref (ad (n + 0)), .ref (ad (n + 1)), .ref (ad (n + 2)), .ref (ad (n + 3)), .ref (ad (n + 4)), .ref (ad (n + 5)), .ref (ad (n + 6)), .null, .null]) := (fr_72 tt (by omega)).trans ((fr_66 tt (by omega)).trans f_61)
  refine m_putF (D := (dC, dI)) (v := .ref (ad (n + 8))) (tv := .object "GradientDesk$Whole") (C := RX1) (T := TX1) (N := 10) hx hb hts bk0 tyX1 tyX1_ok nmX1 hown hK hP hD hS tt (by omega) f_73 rfl 8 (by decide) (hts (.fieldLink RX1 41 "GradientDesk$Course" "right" "LGradientDesk$Whole;") (List.mem_of_getElem? (i := 18) rfl)) (fun _ h9 => h9) rfl hin rfl (by decide +kernel) rfl rfl (Nat.le_of_ble_eq_true rfl) dX1_init_80 (fun H locs g_74 f_75 fr_76 hP hS => ?_)
  have f_75 : g_74 tt = .inr (4, [.null, .ref (ad (n + 0)), .ref (ad (n + 1)), .ref (ad (n + 2)), .ref (ad (n + 3)), .ref (ad (n + 4)), .ref (ad (n + 5)), .ref (ad (n + 6)), .ref (ad (n + 8)), .null]) := f_75
  refine lv_aload_n hx hb dX1_init_83 rfl (lv_at hl 0 rfl) ?_
  refine w_size (fun hle => ?_)
  have hz_77 := sz_eq had hz0 hP hS hle
  refine m_new (ci := 11) (fs := [.null, .int (nI 0), .int (nI 0)]) (C := RX8) (T := TX8) (N := 3) hx hb hts bk1 tyX8 tyX8_ok hown (hts (.classLink RX1 9 RX8) (List.mem_of_getElem? (i := 4) rfl)) (hts (.instantiable RX8 3) (List.mem_of_getElem? (i := 13) rfl)) (hts (.initialized RX8) (List.mem_of_getElem? (i := 14) rfl)) hK hP hS hz_77 rfl (fun j hj => by rcases (show j = 0 ∨ j = 1 ∨ j = 2 by omega) with rfl | rfl | rfl <;> rfl) (Nat.le_of_ble_eq_true rfl) (Nat.le_of_ble_eq_true rfl) dX1_init_84 (fun H g_78 f_79 fr_80 hP hS => ?_)
  refine W.cs (cells' := 11) (slots' := 880) (by omega) (by omega) ?_
  have hP : va_P (dC, dI) vwCl (wo ad (n + 11) g_78) H := hP
  have hK := hKA (n + 11)
  have hD := hD0 (n + 11)
  refine lv_dup hx hb dX1_init_87 rfl ?_
  refine lv_bipush (v := nI 26) hx hb dX1_init_88 (by decide +kernel) ?_
  refine w_size (fun hle => ?_)
  have hz_83 := sz_eq had hz0 hP hS hle
  refine va_callv (va_runI (As := [.int (nI 26)]) (rest := [.ref (ad (n + 10)), .ref (ad tt)]) ⟨hx, hb, hml, hown, hts⟩ (c_G8_init l dC dI A ad cA ty (n + 11) g_78 (n + 10) 26 (by omega) f_79 (by decide) (hty _ (by omega))) (cwI 1 hts (goodIn_sub (fun w9 h9 => bk2 w9 h9) gw_G8_init) rfl rfl rfl (hts (.initialized RX8) (List.mem_of_getElem? (i := 14) rfl)) (hts (.methodLink RX1 34 yX8_init) (List.mem_of_getElem? (i := 15) rfl)) (hts (.instanceMethod yX8_init) (List.mem_of_getElem? (i := 16) rfl)) rfl (by decide +kernel) ⟨Nat.le_of_ble_eq_true rfl, Nat.le_of_ble_eq_true rfl⟩) ⟨fun a U g mk q => ⟨q.1, q.2.1, q.2.2.1, q.2.2.2.1, KK.same (u := U) (U := U.calling g mk a) rfl q.2.2.2.2⟩, fun U hU hW => ⟨rfl, by rw [hU]; exact fun q h => hA q (Nat.le_trans hS.1 h), by rw [hU]; exact hz_83, by rw [hU]; exact hP, KK.warm hW hKK⟩⟩ rfl rfl hl.1 rfl (lv_room (Nat.le_of_ble_eq_true rfl)) dX1_init_90 ⟨(Nat.le_of_ble_eq_true rfl), (Nat.le_of_ble_eq_true rfl)⟩) hS (fun q _ h => h) (fun q h => h) (fun u8 t8 H1 locs ht8 hvm8 hw_84 hB hz1 hk1 hS => ?_)
  obtain ⟨g_85, rfl⟩ : ∃ z, z = u8 := ⟨_, rfl⟩
  try dsimp only at hw_84 hB
  rw [ht8] at hB
  generalize H1 = H at hB hS ⊢
  obtain ⟨fr_86, hw_81, hw_82⟩ := hw_84
  refine W.cs (cells' := 12) (slots' := 1008) (by omega) (by omega) ?_
  have hP : va_P (dC, dI) vwCl (wo ad (n + 12) g_85) H := hB
  have hK := hKA (n + 12)
  have hD := hD0 (n + 12)
  have f_87 : g_85 tt = .inr (4, [.null, .ref (ad (n + 0)), .ref (ad (n + 1)), .ref (ad (n + 2)), .ref (ad (n + 3)), .ref (ad (n + 4)), .ref (ad (n + 5)), .ref (ad (n + 6)), .ref (ad (n + 8)), .null]) := (fr_86 tt (by omega)).trans ((fr_80 tt (by omega)).trans f_75)
  refine m_putF (D := (dC, dI)) (v := .ref (ad (n + 10))) (tv := .object "GradientDesk$Whole") (C := RX1) (T := TX1) (N := 10) hx hb hts bk0 tyX1 tyX1_ok nmX1 hown hK hP hD hS tt (by omega) f_87 rfl 9 (by decide) (hts (.fieldLink RX1 44 "GradientDesk$Course" "hold" "LGradientDesk$Whole;") (List.mem_of_getElem? (i := 19) rfl)) (fun _ h9 => h9) rfl hin rfl (by decide +kernel) rfl rfl (Nat.le_of_ble_eq_true rfl) dX1_init_93 (fun H locs g_88 f_89 fr_90 hP hS => ?_)
  have f_89 : g_88 tt = .inr (4, [.null, .ref (ad (n + 0)), .ref (ad (n + 1)), .ref (ad (n + 2)), .ref (ad (n + 3)), .ref (ad (n + 4)), .ref (ad (n + 5)), .ref (ad (n + 6)), .ref (ad (n + 8)), .ref (ad (n + 10))]) := f_89
  refine lv_aload_n hx hb dX1_init_96 rfl (lv_at hl 0 rfl) ?_
  refine lv_aload_n hx hb dX1_init_97 rfl (lv_at hl 1 rfl) ?_
  refine m_putF (D := (dC, dI)) (v := .ref (ad xs)) (tv := .object "GradientDesk$Shelf") (C := RX1) (T := TX1) (N := 10) hx hb hts bk0 tyX1 tyX1_ok nmX1 hown hK hP hD hS tt (by omega) f_89 rfl 0 (by decide) (hts (.fieldLink RX1 47 "GradientDesk$Course" "shelf" "LGradientDesk$Shelf;") (List.mem_of_getElem? (i := 20) rfl)) (fun _ h9 => h9) rfl hin rfl (by decide +kernel) rfl rfl (Nat.le_of_ble_eq_true rfl) dX1_init_98 (fun H locs g_91 f_92 fr_93 hP hS => ?_)
  have f_92 : g_91 tt = .inr (4, [.ref (ad xs), .ref (ad (n + 0)), .ref (ad (n + 1)), .ref (ad (n + 2)), .ref (ad (n + 3)), .ref (ad (n + 4)), .ref (ad (n + 5)), .ref (ad (n + 6)), .ref (ad (n + 8)), .ref (ad (n + 10))]) := f_92
  refine lv_iconst (v := nI 0) hx hb dX1_init_101 (by decide +kernel) ?_
  refine lv_istore_n (lv' := [(2, .int (nI 0)), (0, .ref (ad tt)), (1, .ref (ad xs))]) hx hb dX1_init_102 rfl hl (by decide) rfl (fun ls hl => ?_)
  have loop_94 : ∀ (k9 : Nat) (i : Nat) (f1 : Nat → Option Nat) (f2 : Nat → Option Nat) (f3 : Nat → Option Nat) (g_96 : Nat → va_E) (fr_97 : ∀ k, ((k < n + 12 ∧ k ≠ n ∧ k ≠ n + 1 ∧ k ≠ n + 2)) → g_96 k = g_91 k), 300 - i < k9 → (i ≤ 200) → (∀ j, j < i → f1 j = some (ad (n + (12 + 6 * j)))) → (∀ j, j < i → f2 j = some (ad (n + (12 + 6 * j + 2)))) → (∀ j, j < i → f3 j = some (ad (n + (12 + 6 * j + 4)))) → (g_96 (n + 0) = .inl (cA (n + 0), 200, .inr (.inr (.inr (.inr f1))))) → (g_96 (n + 1) = .inl (cA (n + 1), 200, .inr (.inr (.inr (.inr f2))))) → (g_96 (n + 2) = .inl (cA (n + 2), 200, .inr (.inr (.inr (.inr f3))))) → (∀ j, j < i → WF0 ad cA g_96 (n + (12 + 6 * j)) 26) → (∀ j, j < i → WF0 ad cA g_96 (n + (12 + 6 * j + 2)) 26) → (∀ j, j < i → WF0 ad cA g_96 (n + (12 + 6 * j + 4)) 13) → ∀ (H : Heap) (locs : List Loc) (ls : Array Slot), va_P (dC, dI) vwCl (wo ad (n + (12 + 6 * i)) g_96) H → va_S A s.heap H locs → lv_has ls 3 [(0, .ref (ad tt)), (2, .int (nI i))] → W p l e (headSpec wd_G1_init ({ frames := 20, cells := 1230, slots := 80787, locals := 400 })).room s m ([.ref (ad tt), .ref (ad xs)] : List Value).toArray below meth c H locs (12 + 6 * i) (1008 + 393 * i) (MQ below (va_Qv (fun (u : (Nat → va_E) × (Nat → Option Nat) × (Nat → Option Nat) × (Nat → Option Nat) × (Nat → Option Nat)) => match u with | (g2, f1, f2, f3, f4) => (∀ k, k < n ∧ k ≠ tt → g2 k = g k) ∧ g2 tt = .inr (4, [.ref (ad xs), .ref (ad n), .ref (ad (n + 1)), .ref (ad (n + 2)), .ref (ad (n + 3)), .ref (ad (n + 4)), .ref (ad (n + 5)), .ref (ad (n + 6)), .ref (ad (n + 8)), .ref (ad (n + 10))]) ∧ g2 (n + 0) = .inl (cA (n + 0), 200, .inr (.inr (.inr (.inr f1)))) ∧ g2 (n + 1) = .inl (cA (n + 1), 200, .inr (.inr (.inr (.inr f2)))) ∧ g2 (n + 2) = .inl (cA (n + 2), 200, .inr (.inr (.inr (.inr f3)))) ∧ g2 (n + 3) = .inl (cA (n + 3), 9, .inr (.inr (.inr (.inr f4)))) ∧ g2 (n + 4) = .inl (cA (n + 4), 3, .inr (.inl (fun _ => 0))) ∧ g2 (n + 5) = .inl (cA (n + 5), 3, .inl (fun _ => 0)) ∧ WF0 ad cA g2 (n + 6) 26 ∧ WF0 ad cA g2 (n + 8) 26 ∧ WF0 ad cA g2 (n + 10) 26 ∧ (∀ j, j < 200 → f1 j = some (ad (n + (12 + 6 * j)))) ∧ (∀ j, j < 200 → f2 j = some (ad (n + (12 + 6 * j + 2)))) ∧ (∀ j, j < 200 → f3 j = some (ad (n + (12 + 6 * j + 4)))) ∧ (∀ j, j < 9 → f4 j = some (ad (n + (1212 + 2 * j)))) ∧ (∀ j, j < 200 → WF0 ad cA g2 (n + (12 + 6 * j)) 26) ∧ (∀ j, j < 200 → WF0 ad cA g2 (n + (12 + 6 * j + 2)) 26) ∧ (∀ j, j < 200 → WF0 ad cA g2 (n + (12 + 6 * j + 4)) 13) ∧ (∀ j, j < 9 → WF0 ad cA g2 (n + (1212 + 2 * j)) 13)) (fun (u : (Nat → va_E) × (Nat → Option Nat) × (Nat → Option Nat) × (Nat → Option Nat) × (Nat → Option Nat)) (t : State) => va_P (dC, dI) vwCl (wo ad (n + 1230) u.1) t.heap) A) ([.ref (ad tt), .ref (ad xs)] : List Value).toArray s (1230) (80787) A) (F0 m 103 ls []) := by
    intro k9
    induction k9 with
    | zero => intro i f1 f2 f3 g_96 fr_97 h9; exact absurd h9 (Nat.not_lt_zero _)
    | succ k9 ih_95 =>
      intro i f1 f2 f3 g_96 fr_97 h9 hi hf1 hf2 hf3 f_98 f_99 f_100 hW1 hW2 hW3 H locs ls hP hS hl
      have hK := hKA (n + (12 + 6 * i))
      have hD := hD0 (n + (12 + 6 * i))
      refine lv_iload_n hx hb dX1_init_103 rfl (lv_at hl 1 rfl) ?_
      refine lv_sipush (v := nI 200) hx hb dX1_init_104 (by decide +kernel) ?_
      refine lv_icmp_ge (tgt := 161) hx hb dX1_init_107 (by decide) (fun c_101 => ?_) (fun c_101 => ?_)
      · have c_101 := (nI_leI (a := 200) (b := i) (by decide) (by omega)).mp c_101
        have hie : i = 200 := by omega
        rw [hie] at hf1 hf2 hf3 hW1 hW2 hW3 hP
        refine W.cs (cells' := 1212) (slots' := 79608) (by omega) (by omega) ?_
        have hP : va_P (dC, dI) vwCl (wo ad (n + 1212) g_96) H := hP
        have hK := hKA (n + 1212)
        have hD := hD0 (n + 1212)
        refine lv_iconst (v := nI 0) hx hb dX1_init_161 (by decide +kernel) ?_
        refine lv_istore_n (lv' := [(2, .int (nI 0)), (0, .ref (ad tt))]) hx hb dX1_init_162 rfl hl (by decide) rfl (fun ls hl => ?_)
        have loop_102 : ∀ (k9 : Nat) (i : Nat) (f4 : Nat → Option Nat) (g_104 : Nat → va_E) (fr_105 : ∀ k, ((k < n + 1212 ∧ k ≠ n + 3)) → g_104 k = g_96 k), 300 - i < k9 → (i ≤ 9) → (∀ j, j < i → f4 j = some (ad (n + (1212 + 2 * j)))) → (g_104 (n + 3) = .inl (cA (n + 3), 9, .inr (.inr (.inr (.inr f4))))) → (∀ j, j < i → WF0 ad cA g_104 (n + (1212 + 2 * j)) 13) → ∀ (H : Heap) (locs : List Loc) (ls : Array Slot), va_P (dC, dI) vwCl (wo ad (n + (1212 + 2 * i)) g_104) H → va_S A s.heap H locs → lv_has ls 3 [(0, .ref (ad tt)), (2, .int (nI i))] → W p l e (headSpec wd_G1_init ({ frames := 20, cells := 1230, slots := 80787, locals := 400 })).room s m ([.ref (ad tt), .ref (ad xs)] : List Value).toArray below meth c H locs (1212 + 2 * i) (79608 + 131 * i) (MQ below (va_Qv (fun (u : (Nat → va_E) × (Nat → Option Nat) × (Nat → Option Nat) × (Nat → Option Nat) × (Nat → Option Nat)) => match u with | (g2, f1, f2, f3, f4) => (∀ k, k < n ∧ k ≠ tt → g2 k = g k) ∧ g2 tt = .inr (4, [.ref (ad xs), .ref (ad n), .ref (ad (n + 1)), .ref (ad (n + 2)), .ref (ad (n + 3)), .ref (ad (n + 4)), .ref (ad (n + 5)), .ref (ad (n + 6)), .ref (ad (n + 8)), .ref (ad (n + 10))]) ∧ g2 (n + 0) = .inl (cA (n + 0), 200, .inr (.inr (.inr (.inr f1)))) ∧ g2 (n + 1) = .inl (cA (n + 1), 200, .inr (.inr (.inr (.inr f2)))) ∧ g2 (n + 2) = .inl (cA (n + 2), 200, .inr (.inr (.inr (.inr f3)))) ∧ g2 (n + 3) = .inl (cA (n + 3), 9, .inr (.inr (.inr (.inr f4)))) ∧ g2 (n + 4) = .inl (cA (n + 4), 3, .inr (.inl (fun _ => 0))) ∧ g2 (n + 5) = .inl (cA (n + 5), 3, .inl (fun _ => 0)) ∧ WF0 ad cA g2 (n + 6) 26 ∧ WF0 ad cA g2 (n + 8) 26 ∧ WF0 ad cA g2 (n + 10) 26 ∧ (∀ j, j < 200 → f1 j = some (ad (n + (12 + 6 * j)))) ∧ (∀ j, j < 200 → f2 j = some (ad (n + (12 + 6 * j + 2)))) ∧ (∀ j, j < 200 → f3 j = some (ad (n + (12 + 6 * j + 4)))) ∧ (∀ j, j < 9 → f4 j = some (ad (n + (1212 + 2 * j)))) ∧ (∀ j, j < 200 → WF0 ad cA g2 (n + (12 + 6 * j)) 26) ∧ (∀ j, j < 200 → WF0 ad cA g2 (n + (12 + 6 * j + 2)) 26) ∧ (∀ j, j < 200 → WF0 ad cA g2 (n + (12 + 6 * j + 4)) 13) ∧ (∀ j, j < 9 → WF0 ad cA g2 (n + (1212 + 2 * j)) 13)) (fun (u : (Nat → va_E) × (Nat → Option Nat) × (Nat → Option Nat) × (Nat → Option Nat) × (Nat → Option Nat)) (t : State) => va_P (dC, dI) vwCl (wo ad (n + 1230) u.1) t.heap) A) ([.ref (ad tt), .ref (ad xs)] : List Value).toArray s (1230) (80787) A) (F0 m 163 ls []) := by
          intro k9
          induction k9 with
          | zero => intro i f4 g_104 fr_105 h9; exact absurd h9 (Nat.not_lt_zero _)
          | succ k9 ih_103 =>
            intro i f4 g_104 fr_105 h9 hi4 hf4 f_106 hW4 H locs ls hP hS hl
            have hK := hKA (n + (1212 + 2 * i))
            have hD := hD0 (n + (1212 + 2 * i))
            refine lv_iload_n hx hb dX1_init_163 rfl (lv_at hl 1 rfl) ?_
            refine lv_bipush (v := nI 8) hx hb dX1_init_164 (by decide +kernel) ?_
            refine lv_icmp_gt (tgt := 190) hx hb dX1_init_166 (by decide) (fun c_107 => ?_) (fun c_107 => ?_)
            · have c_107 := (nI_ltI (a := 8) (b := i) (by decide) (by omega)).mp c_107
              have hi9 : i = 9 := by omega
              rw [hi9] at hf4 hW4
              have f_108 : g_104 tt = .inr (4, [.ref (ad xs), .ref (ad (n + 0)), .ref (ad (n + 1)), .ref (ad (n + 2)), .ref (ad (n + 3)), .ref (ad (n + 4)), .ref (ad (n + 5)), .ref (ad (n + 6)), .ref (ad (n + 8)), .ref (ad (n + 10))]) := (fr_105 tt (by omega)).trans ((fr_97 tt (by omega)).trans f_92)
              have f_109 : g_104 (n + 0) = .inl (cA (n + 0), 200, .inr (.inr (.inr (.inr f1)))) := (fr_105 (n + 0) (by omega)).trans f_98
              have f_110 : g_104 (n + 1) = .inl (cA (n + 1), 200, .inr (.inr (.inr (.inr f2)))) := (fr_105 (n + 1) (by omega)).trans f_99
              have f_111 : g_104 (n + 2) = .inl (cA (n + 2), 200, .inr (.inr (.inr (.inr f3)))) := (fr_105 (n + 2) (by omega)).trans f_100
              have f_112 : g_104 (n + 4) = .inl (cA (n + 4), 3, .inr (.inl (fun _ => 0))) := (fr_105 (n + 4) (by omega)).trans ((fr_97 (n + 4) (by omega)).trans ((fr_93 (n + 4) (by omega)).trans ((fr_90 (n + 4) (by omega)).trans ((fr_86 (n + 4) (by omega)).trans ((fr_80 (n + 4) (by omega)).trans ((fr_76 (n + 4) (by omega)).trans ((fr_72 (n + 4) (by omega)).trans ((fr_66 (n + 4) (by omega)).trans ((fr_62 (n + 4) (by omega)).trans ((fr_58 (n + 4) (by omega)).trans ((fr_52 (n + 4) (by omega)).trans ((fr_48 (n + 4) (by omega)).trans ((fr_44 (n + 4) (by omega)).trans ((fr_40 (n + 4) (by omega)).trans f_35))))))))))))))
              have f_113 : g_104 (n + 5) = .inl (cA (n + 5), 3, .inl (fun _ => 0)) := (fr_105 (n + 5) (by omega)).trans ((fr_97 (n + 5) (by omega)).trans ((fr_93 (n + 5) (by omega)).trans ((fr_90 (n + 5) (by omega)).trans ((fr_86 (n + 5) (by omega)).trans ((fr_80 (n + 5) (by omega)).trans ((fr_76 (n + 5) (by omega)).trans ((fr_72 (n + 5) (by omega)).trans ((fr_66 (n + 5) (by omega)).trans ((fr_62 (n + 5) (by omega)).trans ((fr_58 (n + 5) (by omega)).trans ((fr_52 (n + 5) (by omega)).trans ((fr_48 (n + 5) (by omega)).trans f_43))))))))))))
              have f_114 : g_104 (n + 6) = .inr (11, [.ref (ad (n + 7)), .int (nI 0), .int (nI 0)]) := (fr_105 (n + 6) (by omega)).trans ((fr_97 (n + 6) (by omega)).trans ((fr_93 (n + 6) (by omega)).trans ((fr_90 (n + 6) (by omega)).trans ((fr_86 (n + 6) (by omega)).trans ((fr_80 (n + 6) (by omega)).trans ((fr_76 (n + 6) (by omega)).trans ((fr_72 (n + 6) (by omega)).trans ((fr_66 (n + 6) (by omega)).trans ((fr_62 (n + 6) (by omega)).trans hw_53)))))))))
              have f_115 : g_104 (n + 7) = .inl (cA (n + 7), 26, .inl (fun _ => 0)) := (fr_105 (n + 7) (by omega)).trans ((fr_97 (n + 7) (by omega)).trans ((fr_93 (n + 7) (by omega)).trans ((fr_90 (n + 7) (by omega)).trans ((fr_86 (n + 7) (by omega)).trans ((fr_80 (n + 7) (by omega)).trans ((fr_76 (n + 7) (by omega)).trans ((fr_72 (n + 7) (by omega)).trans ((fr_66 (n + 7) (by omega)).trans ((fr_62 (n + 7) (by omega)).trans hw_54)))))))))
              have f_116 : g_104 (n + 8) = .inr (11, [.ref (ad (n + 9)), .int (nI 0), .int (nI 0)]) := (fr_105 (n + 8) (by omega)).trans ((fr_97 (n + 8) (by omega)).trans ((fr_93 (n + 8) (by omega)).trans ((fr_90 (n + 8) (by omega)).trans ((fr_86 (n + 8) (by omega)).trans ((fr_80 (n + 8) (by omega)).trans ((fr_76 (n + 8) (by omega)).trans hw_67))))))
              have f_117 : g_104 (n + 9) = .inl (cA (n + 9), 26, .inl (fun _ => 0)) := (fr_105 (n + 9) (by omega)).trans ((fr_97 (n + 9) (by omega)).trans ((fr_93 (n + 9) (by omega)).trans ((fr_90 (n + 9) (by omega)).trans ((fr_86 (n + 9) (by omega)).trans ((fr_80 (n + 9) (by omega)).trans ((fr_76 (n + 9) (by omega)).trans hw_68))))))
              have f_118 : g_104 (n + 10) = .inr (11, [.ref (ad (n + 11)), .int (nI 0), .int (nI 0)]) := (fr_105 (n + 10) (by omega)).trans ((fr_97 (n + 10) (by omega)).trans ((fr_93 (n + 10) (by omega)).trans ((fr_90 (n + 10) (by omega)).trans hw_81)))
              have f_119 : g_104 (n + 11) = .inl (cA (n + 11), 26, .inl (fun _ => 0)) := (fr_105 (n + 11) (by omega)).trans ((fr_97 (n + 11) (by omega)).trans ((fr_93 (n + 11) (by omega)).trans ((fr_90 (n + 11) (by omega)).trans hw_82)))
              refine W.widen (k := 1230) (n := 80787) (by omega) (by omega) ?_
              have hP : va_P (dC, dI) vwCl (wo ad (n + 1230) g_104) H := by rw [show n + 1230 = n + (1212 + 2 * i) by omega]; exact hP
              exact W.vret hx hb hr (fun t9 ht9 hW9 => ⟨⟨(g_104, f1, f2, f3, f4), rfl, ⟨(fun (k : Nat) (hk : k < n ∧ k ≠ tt) => (fr_105 k (by omega)).trans ((fr_97 k (by omega)).trans ((fr_93 k (by omega)).trans ((fr_90 k (by omega)).trans ((fr_86 k (by omega)).trans ((fr_80 k (by omega)).trans ((fr_76 k (by omega)).trans ((fr_72 k (by omega)).trans ((fr_66 k (by omega)).trans ((fr_62 k (by omega)).trans ((fr_58 k (by omega)).trans ((fr_52 k (by omega)).trans ((fr_48 k (by omega)).trans ((fr_44 k (by omega)).trans ((fr_40 k (by omega)).trans ((fr_36 k (by omega)).trans ((fr_32 k (by omega)).trans ((fr_28 k (by omega)).trans ((fr_24 k (by omega)).trans ((fr_20 k (by omega)).trans ((fr_16 k (by omega)).trans ((fr_12 k (by omega)).trans ((fr_8 k (by omega)).trans ((fr_4 k (by omega)).trans (rfl))))))))))))))))))))))))), f_108, f_109, f_110, f_111, f_106, f_112, f_113, ⟨f_114, f_115⟩, ⟨f_116, f_117⟩, ⟨f_118, f_119⟩, hf1, hf2, hf3, hf4, (fun j hj => (hW1 j hj).same (fun (k : Nat) (hk : n + (12 + 6 * j) ≤ k ∧ k < n + (12 + 6 * j) + 2) => (fr_105 k (by omega)).trans (rfl))), (fun j hj => (hW2 j hj).same (fun (k : Nat) (hk : n + (12 + 6 * j + 2) ≤ k ∧ k < n + (12 + 6 * j + 2) + 2) => (fr_105 k (by omega)).trans (rfl))), (fun j hj => (hW3 j hj).same (fun (k : Nat) (hk : n + (12 + 6 * j + 4) ≤ k ∧ k < n + (12 + 6 * j + 4) + 2) => (fr_105 k (by omega)).trans (rfl))), hW4⟩, by show va_P (dC, dI) vwCl _ t9.heap; rw [ht9]; exact hP⟩, hS.F ht9⟩) hS.2.2 dX1_init_190
            · have c_107 := mt (nI_ltI (a := 8) (b := i) (by decide) (by omega)).mpr c_107
              refine lv_aload_n hx hb dX1_init_169 rfl (lv_at hl 0 rfl) ?_
              have f_120 : g_104 tt = .inr (4, [.ref (ad xs), .ref (ad (n + 0)), .ref (ad (n + 1)), .ref (ad (n + 2)), .ref (ad (n + 3)), .ref (ad (n + 4)), .ref (ad (n + 5)), .ref (ad (n + 6)), .ref (ad (n + 8)), .ref (ad (n + 10))]) := (fr_105 tt (by omega)).trans ((fr_97 tt (by omega)).trans f_92)
              refine m_get (D := (dC, dI)) (v := .ref (ad (n + 3))) (C := RX1) (T := TX1) (N := 10) hx hb hts bk0 hown hK hP tt (by omega) f_120 rfl 4 (by decide) (hts (.fieldLink RX1 23 "GradientDesk$Course" "scales" "[LGradientDesk$Whole;") (List.mem_of_getElem? (i := 8) rfl)) (fun _ h9 => h9) rfl dX1_init_170 ?_
              refine lv_iload_n hx hb dX1_init_173 rfl (lv_at hl 1 rfl) ?_
              refine w_size (fun hle => ?_)
              have hz_121 := sz_eq had hz0 hP hS hle
              refine m_new (ci := 11) (fs := [.null, .int (nI 0), .int (nI 0)]) (C := RX8) (T := TX8) (N := 3) hx hb hts bk1 tyX8 tyX8_ok hown (hts (.classLink RX1 9 RX8) (List.mem_of_getElem? (i := 4) rfl)) (hts (.instantiable RX8 3) (List.mem_of_getElem? (i := 13) rfl)) (hts (.initialized RX8) (List.mem_of_getElem? (i := 14) rfl)) hK hP hS hz_121 rfl (fun j hj => by rcases (show j = 0 ∨ j = 1 ∨ j = 2 by omega) with rfl | rfl | rfl <;> rfl) (by show _ ≤ 1230; omega) (by show _ ≤ 80787; omega) dX1_init_174 (fun H g_122 f_123 fr_124 hP hS => ?_)
              refine W.cs (cells' := 1212 + 2 * i + 1) (slots' := 79608 + 131 * i + 3) (by omega) (by omega) ?_
              have hP : va_P (dC, dI) vwCl (wo ad (n + (1212 + 2 * i + 1)) g_122) H := hP
              have hK := hKA (n + (1212 + 2 * i + 1))
              have hD := hD0 (n + (1212 + 2 * i + 1))
              refine lv_dup hx hb dX1_init_177 rfl ?_
              refine lv_bipush (v := nI 13) hx hb dX1_init_178 (by decide +kernel) ?_
              refine w_size (fun hle => ?_)
              have hz_127 := sz_eq had hz0 hP hS hle
              refine va_callv (va_runI (As := [.int (nI 13)]) (rest := [.ref (ad (n + (1212 + 2 * i))), .int (nI i), .ref (ad (n + 3))]) ⟨hx, hb, hml, hown, hts⟩ (c_G8_init l dC dI A ad cA ty (n + (1212 + 2 * i + 1)) g_122 (n + (1212 + 2 * i)) 13 (by omega) f_123 (by decide) (hty _ (by omega))) (cwI 1 hts (goodIn_sub (fun w9 h9 => bk2 w9 h9) gw_G8_init) rfl rfl rfl (hts (.initialized RX8) (List.mem_of_getElem? (i := 14) rfl)) (hts (.methodLink RX1 34 yX8_init) (List.mem_of_getElem? (i := 15) rfl)) (hts (.instanceMethod yX8_init) (List.mem_of_getElem? (i := 16) rfl)) rfl (by decide +kernel) ⟨Nat.le_of_ble_eq_true rfl, Nat.le_of_ble_eq_true rfl⟩) ⟨fun a U g mk q => ⟨q.1, q.2.1, q.2.2.1, q.2.2.2.1, KK.same (u := U) (U := U.calling g mk a) rfl q.2.2.2.2⟩, fun U hU hW => ⟨rfl, by rw [hU]; exact fun q h => hA q (Nat.le_trans hS.1 h), by rw [hU]; exact hz_127, by rw [hU]; exact hP, KK.warm hW hKK⟩⟩ rfl rfl hl.1 rfl (lv_room (Nat.le_of_ble_eq_true rfl)) dX1_init_180 ⟨(by show _ ≤ 1230; omega), (by show _ ≤ 80787; omega)⟩) hS (fun q _ h => h) (fun q h => h) (fun u8 t8 H1 locs ht8 hvm8 hw_128 hB hz1 hk1 hS => ?_)
              obtain ⟨g_129, rfl⟩ : ∃ z, z = u8 := ⟨_, rfl⟩
              try dsimp only at hw_128 hB
              rw [ht8] at hB
              generalize H1 = H at hB hS ⊢
              obtain ⟨fr_130, hw_125, hw_126⟩ := hw_128
              refine W.cs (cells' := 1212 + 2 * i + 1 + 1) (slots' := 79608 + 131 * i + 3 + 128) (by omega) (by omega) ?_
              have hP : va_P (dC, dI) vwCl (wo ad (n + (1212 + 2 * i + 1 + 1)) g_129) H := hB
              have hK := hKA (n + (1212 + 2 * i + 1 + 1))
              have hD := hD0 (n + (1212 + 2 * i + 1 + 1))
              have f_131 : g_129 (n + 3) = .inl (cA (n + 3), 9, .inr (.inr (.inr (.inr f4)))) := (fr_130 (n + 3) (by omega)).trans ((fr_124 (n + 3) (by omega)).trans f_106)
              refine m_aast (r := (RX8, TX8, 3)) hx hb hK hP hD hS (n + 3) (n + (1212 + 2 * i)) 11 (by omega) (by omega) hq3 f_131 hw_125 rfl (i := i) (by omega) (by decide) dX1_init_183 (fun H locs g_132 f_133 fr_134 hP hS => ?_)
              refine lv_iinc (v := nI (i + 1)) (lv' := [(2, .int (nI (i + 1))), (0, .ref (ad tt))]) hx hb dX1_init_184 hl (k := 1) rfl (nI_add i 1) (by decide) rfl (fun ls hl => ?_)
              refine lv_goto (tgt := 163) hx hb dX1_init_187 (by decide) ?_
              refine W.cs (cells' := 1212 + 2 * (i + 1)) (slots' := 79608 + 131 * (i + 1)) (by omega) (by omega) ?_
              have hP : va_P (dC, dI) vwCl (wo ad (n + (1212 + 2 * (i + 1))) g_132) H := by rw [show n + (1212 + 2 * (i + 1)) = n + (1212 + 2 * i + 1 + 1) by omega]; exact hP
              have f_137 : g_132 (n + (1212 + 2 * i)) = .inr (11, [.ref (ad (n + (1212 + 2 * i + 1))), .int (nI 0), .int (nI 0)]) := (fr_134 (n + (1212 + 2 * i)) (by omega)).trans hw_125
              have f_138 : g_132 (n + (1212 + 2 * i + 1)) = .inl (cA (n + (1212 + 2 * i + 1)), 13, .inl (fun _ => 0)) := (fr_134 (n + (1212 + 2 * i + 1)) (by omega)).trans hw_126
              exact ih_103 (i + 1) (va_up f4 i (some (ad (n + (1212 + 2 * i))))) g_132 (fun (k : Nat) (hk : (k < n + 1212 ∧ k ≠ n + 3)) => (fr_134 k (by omega)).trans ((fr_130 k (by omega)).trans ((fr_124 k (by omega)).trans ((fr_105 k (by omega)).trans (rfl))))) (by omega) (by omega) (fun j hj => by by_cases h8 : j = i; rw [h8, va_up_self]; rw [va_up_ne _ _ h8]; exact hf4 j (by omega)) f_133 (fun j hj => by by_cases h8 : j = i; rw [h8]; exact ⟨f_137, f_138⟩; exact (hW4 j (by omega)).same (fun (k : Nat) (hk : n + (1212 + 2 * j) ≤ k ∧ k < n + (1212 + 2 * j) + 2) => (fr_134 k (by omega)).trans ((fr_130 k (by omega)).trans ((fr_124 k (by omega)).trans (rfl))))) _ _ _ hP hS (lv_sub (l' := [(0, .ref (ad tt)), (2, .int (nI (i + 1)))]) hl [1, 0] rfl)
        refine W.cs (cells' := 1212 + 2 * 0) (slots' := 79608 + 131 * 0) (by omega) (by omega) ?_
        have hP : va_P (dC, dI) vwCl (wo ad (n + (1212 + 2 * 0)) g_96) H := by rw [show n + (1212 + 2 * 0) = n + 1212 by omega]; exact hP
        have f_139 : g_96 (n + 3) = .inl (cA (n + 3), 9, .inr (.inr (.inr (.inr (fun _ => none))))) := (fr_97 (n + 3) (by omega)).trans ((fr_93 (n + 3) (by omega)).trans ((fr_90 (n + 3) (by omega)).trans ((fr_86 (n + 3) (by omega)).trans ((fr_80 (n + 3) (by omega)).trans ((fr_76 (n + 3) (by omega)).trans ((fr_72 (n + 3) (by omega)).trans ((fr_66 (n + 3) (by omega)).trans ((fr_62 (n + 3) (by omega)).trans ((fr_58 (n + 3) (by omega)).trans ((fr_52 (n + 3) (by omega)).trans ((fr_48 (n + 3) (by omega)).trans ((fr_44 (n + 3) (by omega)).trans ((fr_40 (n + 3) (by omega)).trans ((fr_36 (n + 3) (by omega)).trans ((fr_32 (n + 3) (by omega)).trans f_27)))))))))))))))
        exact loop_102 _ 0 (fun _ => none) g_96 (fun (k : Nat) (hk : (k < n + 1212 ∧ k ≠ n + 3)) => rfl) (Nat.lt_succ_self _) (by decide) (fun j h => absurd h (Nat.not_lt_zero _)) f_139 (fun j h => absurd h (Nat.not_lt_zero _)) _ _ _ hP hS (lv_sub (l' := [(0, .ref (ad tt)), (2, .int (nI 0))]) hl [1, 0] rfl)
      · have c_101 := mt (nI_leI (a := 200) (b := i) (by decide) (by omega)).mpr c_101
        refine lv_aload_n hx hb dX1_init_110 rfl (lv_at hl 0 rfl) ?_
        have f_140 : g_96 tt = .inr (4, [.ref (ad xs), .ref (ad (n + 0)), .ref (ad (n + 1)), .ref (ad (n + 2)), .ref (ad (n + 3)), .ref (ad (n + 4)), .ref (ad (n + 5)), .ref (ad (n + 6)), .ref (ad (n + 8)), .ref (ad (n + 10))]) := (fr_97 tt (by omega)).trans f_92
        refine m_get (D := (dC, dI)) (v := .ref (ad (n + 0))) (C := RX1) (T := TX1) (N := 10) hx hb hts bk0 hown hK hP tt (by omega) f_140 rfl 1 (by decide) (hts (.fieldLink RX1 11 "GradientDesk$Course" "values" "[LGradientDesk$Whole;") (List.mem_of_getElem? (i := 5) rfl)) (fun _ h9 => h9) rfl dX1_init_111 ?_
        refine lv_iload_n hx hb dX1_init_114 rfl (lv_at hl 1 rfl) ?_
        refine w_size (fun hle => ?_)
        have hz_141 := sz_eq had hz0 hP hS hle
        refine m_new (ci := 11) (fs := [.null, .int (nI 0), .int (nI 0)]) (C := RX8) (T := TX8) (N := 3) hx hb hts bk1 tyX8 tyX8_ok hown (hts (.classLink RX1 9 RX8) (List.mem_of_getElem? (i := 4) rfl)) (hts (.instantiable RX8 3) (List.mem_of_getElem? (i := 13) rfl)) (hts (.initialized RX8) (List.mem_of_getElem? (i := 14) rfl)) hK hP hS hz_141 rfl (fun j hj => by rcases (show j = 0 ∨ j = 1 ∨ j = 2 by omega) with rfl | rfl | rfl <;> rfl) (by show _ ≤ 1230; omega) (by show _ ≤ 80787; omega) dX1_init_115 (fun H g_142 f_143 fr_144 hP hS => ?_)
        refine W.cs (cells' := 12 + 6 * i + 1) (slots' := 1008 + 393 * i + 3) (by omega) (by omega) ?_
        have hP : va_P (dC, dI) vwCl (wo ad (n + (12 + 6 * i + 1)) g_142) H := hP
        have hK := hKA (n + (12 + 6 * i + 1))
        have hD := hD0 (n + (12 + 6 * i + 1))
        refine lv_dup hx hb dX1_init_118 rfl ?_
        refine lv_bipush (v := nI 26) hx hb dX1_init_119 (by decide +kernel) ?_
        refine w_size (fun hle => ?_)
        have hz_147 := sz_eq had hz0 hP hS hle
        refine va_callv (va_runI (As := [.int (nI 26)]) (rest := [.ref (ad (n + (12 + 6 * i))), .int (nI i), .ref (ad (n + 0))]) ⟨hx, hb, hml, hown, hts⟩ (c_G8_init l dC dI A ad cA ty (n + (12 + 6 * i + 1)) g_142 (n + (12 + 6 * i)) 26 (by omega) f_143 (by decide) (hty _ (by omega))) (cwI 1 hts (goodIn_sub (fun w9 h9 => bk2 w9 h9) gw_G8_init) rfl rfl rfl (hts (.initialized RX8) (List.mem_of_getElem? (i := 14) rfl)) (hts (.methodLink RX1 34 yX8_init) (List.mem_of_getElem? (i := 15) rfl)) (hts (.instanceMethod yX8_init) (List.mem_of_getElem? (i := 16) rfl)) rfl (by decide +kernel) ⟨Nat.le_of_ble_eq_true rfl, Nat.le_of_ble_eq_true rfl⟩) ⟨fun a U g mk q => ⟨q.1, q.2.1, q.2.2.1, q.2.2.2.1, KK.same (u := U) (U := U.calling g mk a) rfl q.2.2.2.2⟩, fun U hU hW => ⟨rfl, by rw [hU]; exact fun q h => hA q (Nat.le_trans hS.1 h), by rw [hU]; exact hz_147, by rw [hU]; exact hP, KK.warm hW hKK⟩⟩ rfl rfl hl.1 rfl (lv_room (Nat.le_of_ble_eq_true rfl)) dX1_init_121 ⟨(by show _ ≤ 1230; omega), (by show _ ≤ 80787; omega)⟩) hS (fun q _ h => h) (fun q h => h) (fun u8 t8 H1 locs ht8 hvm8 hw_148 hB hz1 hk1 hS => ?_)
        obtain ⟨g_149, rfl⟩ : ∃ z, z = u8 := ⟨_, rfl⟩
        try dsimp only at hw_148 hB
        rw [ht8] at hB
        generalize H1 = H at hB hS ⊢
        obtain ⟨fr_150, hw_145, hw_146⟩ := hw_148
        refine W.cs (cells' := 12 + 6 * i + 1 + 1) (slots' := 1008 + 393 * i + 3 + 128) (by omega) (by omega) ?_
        have hP : va_P (dC, dI) vwCl (wo ad (n + (12 + 6 * i + 1 + 1)) g_149) H := hB
        have hK := hKA (n + (12 + 6 * i + 1 + 1))
        have hD := hD0 (n + (12 + 6 * i + 1 + 1))
        have f_151 : g_149 (n + 0) = .inl (cA (n + 0), 200, .inr (.inr (.inr (.inr f1)))) := (fr_150 (n + 0) (by omega)).trans ((fr_144 (n + 0) (by omega)).trans f_98)
        refine m_aast (r := (RX8, TX8, 3)) hx hb hK hP hD hS (n + 0) (n + (12 + 6 * i)) 11 (by omega) (by omega) hq0 f_151 hw_145 rfl (i := i) (by omega) (by decide) dX1_init_124 (fun H locs g_152 f_153 fr_154 hP hS => ?_)
        refine lv_aload_n hx hb dX1_init_125 rfl (lv_at hl 0 rfl) ?_
        have f_155 : g_152 tt = .inr (4, [.ref (ad xs), .ref (ad (n + 0)), .ref (ad (n + 1)), .ref (ad (n + 2)), .ref (ad (n + 3)), .ref (ad (n + 4)), .ref (ad (n + 5)), .ref (ad (n + 6)), .ref (ad (n + 8)), .ref (ad (n + 10))]) := (fr_154 tt (by omega)).trans ((fr_150 tt (by omega)).trans ((fr_144 tt (by omega)).trans f_140))
        refine m_get (D := (dC, dI)) (v := .ref (ad (n + 1))) (C := RX1) (T := TX1) (N := 10) hx hb hts bk0 hown hK hP tt (by omega) f_155 rfl 2 (by decide) (hts (.fieldLink RX1 17 "GradientDesk$Course" "slopes" "[LGradientDesk$Whole;") (List.mem_of_getElem? (i := 6) rfl)) (fun _ h9 => h9) rfl dX1_init_126 ?_
        refine lv_iload_n hx hb dX1_init_129 rfl (lv_at hl 1 rfl) ?_
        refine w_size (fun hle => ?_)
        have hz_156 := sz_eq had hz0 hP hS hle
        refine m_new (ci := 11) (fs := [.null, .int (nI 0), .int (nI 0)]) (C := RX8) (T := TX8) (N := 3) hx hb hts bk1 tyX8 tyX8_ok hown (hts (.classLink RX1 9 RX8) (List.mem_of_getElem? (i := 4) rfl)) (hts (.instantiable RX8 3) (List.mem_of_getElem? (i := 13) rfl)) (hts (.initialized RX8) (List.mem_of_getElem? (i := 14) rfl)) hK hP hS hz_156 rfl (fun j hj => by rcases (show j = 0 ∨ j = 1 ∨ j = 2 by omega) with rfl | rfl | rfl <;> rfl) (by show _ ≤ 1230; omega) (by show _ ≤ 80787; omega) dX1_init_130 (fun H g_157 f_158 fr_159 hP hS => ?_)
        refine W.cs (cells' := 12 + 6 * i + 1 + 1 + 1) (slots' := 1008 + 393 * i + 3 + 128 + 3) (by omega) (by omega) ?_
        have hP : va_P (dC, dI) vwCl (wo ad (n + (12 + 6 * i + 1 + 1 + 1)) g_157) H := hP
        have hK := hKA (n + (12 + 6 * i + 1 + 1 + 1))
        have hD := hD0 (n + (12 + 6 * i + 1 + 1 + 1))
        refine lv_dup hx hb dX1_init_133 rfl ?_
        refine lv_bipush (v := nI 26) hx hb dX1_init_134 (by decide +kernel) ?_
        refine w_size (fun hle => ?_)
        have hz_162 := sz_eq had hz0 hP hS hle
        refine va_callv (va_runI (As := [.int (nI 26)]) (rest := [.ref (ad (n + (12 + 6 * i + 1 + 1))), .int (nI i), .ref (ad (n + 1))]) ⟨hx, hb, hml, hown, hts⟩ (c_G8_init l dC dI A ad cA ty (n + (12 + 6 * i + 1 + 1 + 1)) g_157 (n + (12 + 6 * i + 1 + 1)) 26 (by omega) f_158 (by decide) (hty _ (by omega))) (cwI 1 hts (goodIn_sub (fun w9 h9 => bk2 w9 h9) gw_G8_init) rfl rfl rfl (hts (.initialized RX8) (List.mem_of_getElem? (i := 14) rfl)) (hts (.methodLink RX1 34 yX8_init) (List.mem_of_getElem? (i := 15) rfl)) (hts (.instanceMethod yX8_init) (List.mem_of_getElem? (i := 16) rfl)) rfl (by decide +kernel) ⟨Nat.le_of_ble_eq_true rfl, Nat.le_of_ble_eq_true rfl⟩) ⟨fun a U g mk q => ⟨q.1, q.2.1, q.2.2.1, q.2.2.2.1, KK.same (u := U) (U := U.calling g mk a) rfl q.2.2.2.2⟩, fun U hU hW => ⟨rfl, by rw [hU]; exact fun q h => hA q (Nat.le_trans hS.1 h), by rw [hU]; exact hz_162, by rw [hU]; exact hP, KK.warm hW hKK⟩⟩ rfl rfl hl.1 rfl (lv_room (Nat.le_of_ble_eq_true rfl)) dX1_init_136 ⟨(by show _ ≤ 1230; omega), (by show _ ≤ 80787; omega)⟩) hS (fun q _ h => h) (fun q h => h) (fun u8 t8 H1 locs ht8 hvm8 hw_163 hB hz1 hk1 hS => ?_)
        obtain ⟨g_164, rfl⟩ : ∃ z, z = u8 := ⟨_, rfl⟩
        try dsimp only at hw_163 hB
        rw [ht8] at hB
        generalize H1 = H at hB hS ⊢
        obtain ⟨fr_165, hw_160, hw_161⟩ := hw_163
        refine W.cs (cells' := 12 + 6 * i + 1 + 1 + 1 + 1) (slots' := 1008 + 393 * i + 3 + 128 + 3 + 128) (by omega) (by omega) ?_
        have hP : va_P (dC, dI) vwCl (wo ad (n + (12 + 6 * i + 1 + 1 + 1 + 1)) g_164) H := hB
        have hK := hKA (n + (12 + 6 * i + 1 + 1 + 1 + 1))
        have hD := hD0 (n + (12 + 6 * i + 1 + 1 + 1 + 1))
        have f_166 : g_164 (n + 1) = .inl (cA (n + 1), 200, .inr (.inr (.inr (.inr f2)))) := (fr_165 (n + 1) (by omega)).trans ((fr_159 (n + 1) (by omega)).trans ((fr_154 (n + 1) (by omega)).trans ((fr_150 (n + 1) (by omega)).trans ((fr_144 (n + 1) (by omega)).trans f_99))))
        refine m_aast (r := (RX8, TX8, 3)) hx hb hK hP hD hS (n + 1) (n + (12 + 6 * i + 1 + 1)) 11 (by omega) (by omega) hq1 f_166 hw_160 rfl (i := i) (by omega) (by decide) dX1_init_139 (fun H locs g_167 f_168 fr_169 hP hS => ?_)
        refine lv_aload_n hx hb dX1_init_140 rfl (lv_at hl 0 rfl) ?_
        have f_170 : g_167 tt = .inr (4, [.ref (ad xs), .ref (ad (n + 0)), .ref (ad (n + 1)), .ref (ad (n + 2)), .ref (ad (n + 3)), .ref (ad (n + 4)), .ref (ad (n + 5)), .ref (ad (n + 6)), .ref (ad (n + 8)), .ref (ad (n + 10))]) := (fr_169 tt (by omega)).trans ((fr_165 tt (by omega)).trans ((fr_159 tt (by omega)).trans f_155))
        refine m_get (D := (dC, dI)) (v := .ref (ad (n + 2))) (C := RX1) (T := TX1) (N := 10) hx hb hts bk0 hown hK hP tt (by omega) f_170 rfl 3 (by decide) (hts (.fieldLink RX1 20 "GradientDesk$Course" "bases" "[LGradientDesk$Whole;") (List.mem_of_getElem? (i := 7) rfl)) (fun _ h9 => h9) rfl dX1_init_141 ?_
        refine lv_iload_n hx hb dX1_init_144 rfl (lv_at hl 1 rfl) ?_
        refine w_size (fun hle => ?_)
        have hz_171 := sz_eq had hz0 hP hS hle
        refine m_new (ci := 11) (fs := [.null, .int (nI 0), .int (nI 0)]) (C := RX8) (T := TX8) (N := 3) hx hb hts bk1 tyX8 tyX8_ok hown (hts (.classLink RX1 9 RX8) (List.mem_of_getElem? (i := 4) rfl)) (hts (.instantiable RX8 3) (List.mem_of_getElem? (i := 13) rfl)) (hts (.initialized RX8) (List.mem_of_getElem? (i := 14) rfl)) hK hP hS hz_171 rfl (fun j hj => by rcases (show j = 0 ∨ j = 1 ∨ j = 2 by omega) with rfl | rfl | rfl <;> rfl) (by show _ ≤ 1230; omega) (by show _ ≤ 80787; omega) dX1_init_145 (fun H g_172 f_173 fr_174 hP hS => ?_)
        refine W.cs (cells' := 12 + 6 * i + 1 + 1 + 1 + 1 + 1) (slots' := 1008 + 393 * i + 3 + 128 + 3 + 128 + 3) (by omega) (by omega) ?_
        have hP : va_P (dC, dI) vwCl (wo ad (n + (12 + 6 * i + 1 + 1 + 1 + 1 + 1)) g_172) H := hP
        have hK := hKA (n + (12 + 6 * i + 1 + 1 + 1 + 1 + 1))
        have hD := hD0 (n + (12 + 6 * i + 1 + 1 + 1 + 1 + 1))
        refine lv_dup hx hb dX1_init_148 rfl ?_
        refine lv_bipush (v := nI 13) hx hb dX1_init_149 (by decide +kernel) ?_
        refine w_size (fun hle => ?_)
        have hz_177 := sz_eq had hz0 hP hS hle
        refine va_callv (va_runI (As := [.int (nI 13)]) (rest := [.ref (ad (n + (12 + 6 * i + 1 + 1 + 1 + 1))), .int (nI i), .ref (ad (n + 2))]) ⟨hx, hb, hml, hown, hts⟩ (c_G8_init l dC dI A ad cA ty (n + (12 + 6 * i + 1 + 1 + 1 + 1 + 1)) g_172 (n + (12 + 6 * i + 1 + 1 + 1 + 1)) 13 (by omega) f_173 (by decide) (hty _ (by omega))) (cwI 1 hts (goodIn_sub (fun w9 h9 => bk2 w9 h9) gw_G8_init) rfl rfl rfl (hts (.initialized RX8) (List.mem_of_getElem? (i := 14) rfl)) (hts (.methodLink RX1 34 yX8_init) (List.mem_of_getElem? (i := 15) rfl)) (hts (.instanceMethod yX8_init) (List.mem_of_getElem? (i := 16) rfl)) rfl (by decide +kernel) ⟨Nat.le_of_ble_eq_true rfl, Nat.le_of_ble_eq_true rfl⟩) ⟨fun a U g mk q => ⟨q.1, q.2.1, q.2.2.1, q.2.2.2.1, KK.same (u := U) (U := U.calling g mk a) rfl q.2.2.2.2⟩, fun U hU hW => ⟨rfl, by rw [hU]; exact fun q h => hA q (Nat.le_trans hS.1 h), by rw [hU]; exact hz_177, by rw [hU]; exact hP, KK.warm hW hKK⟩⟩ rfl rfl hl.1 rfl (lv_room (Nat.le_of_ble_eq_true rfl)) dX1_init_151 ⟨(by show _ ≤ 1230; omega), (by show _ ≤ 80787; omega)⟩) hS (fun q _ h => h) (fun q h => h) (fun u8 t8 H1 locs ht8 hvm8 hw_178 hB hz1 hk1 hS => ?_)
        obtain ⟨g_179, rfl⟩ : ∃ z, z = u8 := ⟨_, rfl⟩
        try dsimp only at hw_178 hB
        rw [ht8] at hB
        generalize H1 = H at hB hS ⊢
        obtain ⟨fr_180, hw_175, hw_176⟩ := hw_178
        refine W.cs (cells' := 12 + 6 * i + 1 + 1 + 1 + 1 + 1 + 1) (slots' := 1008 + 393 * i + 3 + 128 + 3 + 128 + 3 + 128) (by omega) (by omega) ?_
        have hP : va_P (dC, dI) vwCl (wo ad (n + (12 + 6 * i + 1 + 1 + 1 + 1 + 1 + 1)) g_179) H := hB
        have hK := hKA (n + (12 + 6 * i + 1 + 1 + 1 + 1 + 1 + 1))
        have hD := hD0 (n + (12 + 6 * i + 1 + 1 + 1 + 1 + 1 + 1))
        have f_181 : g_179 (n + 2) = .inl (cA (n + 2), 200, .inr (.inr (.inr (.inr f3)))) := (fr_180 (n + 2) (by omega)).trans ((fr_174 (n + 2) (by omega)).trans ((fr_169 (n + 2) (by omega)).trans ((fr_165 (n + 2) (by omega)).trans ((fr_159 (n + 2) (by omega)).trans ((fr_154 (n + 2) (by omega)).trans ((fr_150 (n + 2) (by omega)).trans ((fr_144 (n + 2) (by omega)).trans f_100)))))))
        refine m_aast (r := (RX8, TX8, 3)) hx hb hK hP hD hS (n + 2) (n + (12 + 6 * i + 1 + 1 + 1 + 1)) 11 (by omega) (by omega) hq2 f_181 hw_175 rfl (i := i) (by omega) (by decide) dX1_init_154 (fun H locs g_182 f_183 fr_184 hP hS => ?_)
        refine lv_iinc (v := nI (i + 1)) (lv' := [(2, .int (nI (i + 1))), (0, .ref (ad tt))]) hx hb dX1_init_155 hl (k := 1) rfl (nI_add i 1) (by decide) rfl (fun ls hl => ?_)
        refine lv_goto (tgt := 103) hx hb dX1_init_158 (by decide) ?_
        refine W.cs (cells' := 12 + 6 * (i + 1)) (slots' := 1008 + 393 * (i + 1)) (by omega) (by omega) ?_
        have hP : va_P (dC, dI) vwCl (wo ad (n + (12 + 6 * (i + 1))) g_182) H := by rw [show n + (12 + 6 * (i + 1)) = n + (12 + 6 * i + 1 + 1 + 1 + 1 + 1 + 1) by omega]; exact hP
        have f_187 : g_182 (n + 0) = .inl (cA (n + 0), 200, .inr (.inr (.inr (.inr (va_up f1 i (some (ad (n + (12 + 6 * i))))))))) := (fr_184 (n + 0) (by omega)).trans ((fr_180 (n + 0) (by omega)).trans ((fr_174 (n + 0) (by omega)).trans ((fr_169 (n + 0) (by omega)).trans ((fr_165 (n + 0) (by omega)).trans ((fr_159 (n + 0) (by omega)).trans f_153)))))
        have f_188 : g_182 (n + 1) = .inl (cA (n + 1), 200, .inr (.inr (.inr (.inr (va_up f2 i (some (ad (n + (12 + 6 * i + 1 + 1))))))))) := (fr_184 (n + 1) (by omega)).trans ((fr_180 (n + 1) (by omega)).trans ((fr_174 (n + 1) (by omega)).trans f_168))
        have f_189 : g_182 (n + (12 + 6 * i)) = .inr (11, [.ref (ad (n + (12 + 6 * i + 1))), .int (nI 0), .int (nI 0)]) := (fr_184 (n + (12 + 6 * i)) (by omega)).trans ((fr_180 (n + (12 + 6 * i)) (by omega)).trans ((fr_174 (n + (12 + 6 * i)) (by omega)).trans ((fr_169 (n + (12 + 6 * i)) (by omega)).trans ((fr_165 (n + (12 + 6 * i)) (by omega)).trans ((fr_159 (n + (12 + 6 * i)) (by omega)).trans ((fr_154 (n + (12 + 6 * i)) (by omega)).trans hw_145))))))
        have f_190 : g_182 (n + (12 + 6 * i + 1)) = .inl (cA (n + (12 + 6 * i + 1)), 26, .inl (fun _ => 0)) := (fr_184 (n + (12 + 6 * i + 1)) (by omega)).trans ((fr_180 (n + (12 + 6 * i + 1)) (by omega)).trans ((fr_174 (n + (12 + 6 * i + 1)) (by omega)).trans ((fr_169 (n + (12 + 6 * i + 1)) (by omega)).trans ((fr_165 (n + (12 + 6 * i + 1)) (by omega)).trans ((fr_159 (n + (12 + 6 * i + 1)) (by omega)).trans ((fr_154 (n + (12 + 6 * i + 1)) (by omega)).trans hw_146))))))
        have f_191 : g_182 (n + (12 + 6 * i + 1 + 1)) = .inr (11, [.ref (ad (n + (12 + 6 * i + 1 + 1 + 1))), .int (nI 0), .int (nI 0)]) := (fr_184 (n + (12 + 6 * i + 1 + 1)) (by omega)).trans ((fr_180 (n + (12 + 6 * i + 1 + 1)) (by omega)).trans ((fr_174 (n + (12 + 6 * i + 1 + 1)) (by omega)).trans ((fr_169 (n + (12 + 6 * i + 1 + 1)) (by omega)).trans hw_160)))
        have f_192 : g_182 (n + (12 + 6 * i + 1 + 1 + 1)) = .inl (cA (n + (12 + 6 * i + 1 + 1 + 1)), 26, .inl (fun _ => 0)) := (fr_184 (n + (12 + 6 * i + 1 + 1 + 1)) (by omega)).trans ((fr_180 (n + (12 + 6 * i + 1 + 1 + 1)) (by omega)).trans ((fr_174 (n + (12 + 6 * i + 1 + 1 + 1)) (by omega)).trans ((fr_169 (n + (12 + 6 * i + 1 + 1 + 1)) (by omega)).trans hw_161)))
        have f_193 : g_182 (n + (12 + 6 * i + 1 + 1 + 1 + 1)) = .inr (11, [.ref (ad (n + (12 + 6 * i + 1 + 1 + 1 + 1 + 1))), .int (nI 0), .int (nI 0)]) := (fr_184 (n + (12 + 6 * i + 1 + 1 + 1 + 1)) (by omega)).trans hw_175
        have f_194 : g_182 (n + (12 + 6 * i + 1 + 1 + 1 + 1 + 1)) = .inl (cA (n + (12 + 6 * i + 1 + 1 + 1 + 1 + 1)), 13, .inl (fun _ => 0)) := (fr_184 (n + (12 + 6 * i + 1 + 1 + 1 + 1 + 1)) (by omega)).trans hw_176
        exact ih_95 (i + 1) (va_up f1 i (some (ad (n + (12 + 6 * i))))) (va_up f2 i (some (ad (n + (12 + 6 * i + 1 + 1))))) (va_up f3 i (some (ad (n + (12 + 6 * i + 1 + 1 + 1 + 1))))) g_182 (fun (k : Nat) (hk : (k < n + 12 ∧ k ≠ n ∧ k ≠ n + 1 ∧ k ≠ n + 2)) => (fr_184 k (by omega)).trans ((fr_180 k (by omega)).trans ((fr_174 k (by omega)).trans ((fr_169 k (by omega)).trans ((fr_165 k (by omega)).trans ((fr_159 k (by omega)).trans ((fr_154 k (by omega)).trans ((fr_150 k (by omega)).trans ((fr_144 k (by omega)).trans ((fr_97 k (by omega)).trans (rfl))))))))))) (by omega) (by omega) (fun j hj => by by_cases h8 : j = i; rw [h8, va_up_self]; rw [va_up_ne _ _ h8]; exact hf1 j (by omega)) (fun j hj => by by_cases h8 : j = i; rw [h8, va_up_self]; rw [va_up_ne _ _ h8]; exact hf2 j (by omega)) (fun j hj => by by_cases h8 : j = i; rw [h8, va_up_self]; rw [va_up_ne _ _ h8]; exact hf3 j (by omega)) f_187 f_188 f_183 (fun j hj => by by_cases h8 : j = i; rw [h8]; exact ⟨f_189, f_190⟩; exact (hW1 j (by omega)).same (fun (k : Nat) (hk : n + (12 + 6 * j) ≤ k ∧ k < n + (12 + 6 * j) + 2) => (fr_184 k (by omega)).trans ((fr_180 k (by omega)).trans ((fr_174 k (by omega)).trans ((fr_169 k (by omega)).trans ((fr_165 k (by omega)).trans ((fr_159 k (by omega)).trans ((fr_154 k (by omega)).trans ((fr_150 k (by omega)).trans ((fr_144 k (by omega)).trans (rfl))))))))))) (fun j hj => by by_cases h8 : j = i; rw [h8]; exact ⟨f_191, f_192⟩; exact (hW2 j (by omega)).same (fun (k : Nat) (hk : n + (12 + 6 * j + 2) ≤ k ∧ k < n + (12 + 6 * j + 2) + 2) => (fr_184 k (by omega)).trans ((fr_180 k (by omega)).trans ((fr_174 k (by omega)).trans ((fr_169 k (by omega)).trans ((fr_165 k (by omega)).trans ((fr_159 k (by omega)).trans ((fr_154 k (by omega)).trans ((fr_150 k (by omega)).trans ((fr_144 k (by omega)).trans (rfl))))))))))) (fun j hj => by by_cases h8 : j = i; rw [h8]; exact ⟨f_193, f_194⟩; exact (hW3 j (by omega)).same (fun (k : Nat) (hk : n + (12 + 6 * j + 4) ≤ k ∧ k < n + (12 + 6 * j + 4) + 2) => (fr_184 k (by omega)).trans ((fr_180 k (by omega)).trans ((fr_174 k (by omega)).trans ((fr_169 k (by omega)).trans ((fr_165 k (by omega)).trans ((fr_159 k (by omega)).trans ((fr_154 k (by omega)).trans ((fr_150 k (by omega)).trans ((fr_144 k (by omega)).trans (rfl))))))))))) _ _ _ hP hS (lv_sub (l' := [(0, .ref (ad tt)), (2, .int (nI (i + 1)))]) hl [1, 0] rfl)
  refine W.cs (cells' := 12 + 6 * 0) (slots' := 1008 + 393 * 0) (by omega) (by omega) ?_
  have hP : va_P (dC, dI) vwCl (wo ad (n + (12 + 6 * 0)) g_91) H := by rw [show n + (12 + 6 * 0) = n + 12 by omega]; exact hP
  have f_195 : g_91 (n + 0) = .inl (cA (n + 0), 200, .inr (.inr (.inr (.inr (fun _ => none))))) := (fr_93 (n + 0) (by omega)).trans ((fr_90 (n + 0) (by omega)).trans ((fr_86 (n + 0) (by omega)).trans ((fr_80 (n + 0) (by omega)).trans ((fr_76 (n + 0) (by omega)).trans ((fr_72 (n + 0) (by omega)).trans ((fr_66 (n + 0) (by omega)).trans ((fr_62 (n + 0) (by omega)).trans ((fr_58 (n + 0) (by omega)).trans ((fr_52 (n + 0) (by omega)).trans ((fr_48 (n + 0) (by omega)).trans ((fr_44 (n + 0) (by omega)).trans ((fr_40 (n + 0) (by omega)).trans ((fr_36 (n + 0) (by omega)).trans ((fr_32 (n + 0) (by omega)).trans ((fr_28 (n + 0) (by omega)).trans ((fr_24 (n + 0) (by omega)).trans ((fr_20 (n + 0) (by omega)).trans ((fr_16 (n + 0) (by omega)).trans ((fr_12 (n + 0) (by omega)).trans ((fr_8 (n + 0) (by omega)).trans f_3))))))))))))))))))))
  have f_196 : g_91 (n + 1) = .inl (cA (n + 1), 200, .inr (.inr (.inr (.inr (fun _ => none))))) := (fr_93 (n + 1) (by omega)).trans ((fr_90 (n + 1) (by omega)).trans ((fr_86 (n + 1) (by omega)).trans ((fr_80 (n + 1) (by omega)).trans ((fr_76 (n + 1) (by omega)).trans ((fr_72 (n + 1) (by omega)).trans ((fr_66 (n + 1) (by omega)).trans ((fr_62 (n + 1) (by omega)).trans ((fr_58 (n + 1) (by omega)).trans ((fr_52 (n + 1) (by omega)).trans ((fr_48 (n + 1) (by omega)).trans ((fr_44 (n + 1) (by omega)).trans ((fr_40 (n + 1) (by omega)).trans ((fr_36 (n + 1) (by omega)).trans ((fr_32 (n + 1) (by omega)).trans ((fr_28 (n + 1) (by omega)).trans ((fr_24 (n + 1) (by omega)).trans ((fr_20 (n + 1) (by omega)).trans ((fr_16 (n + 1) (by omega)).trans f_11))))))))))))))))))
  have f_197 : g_91 (n + 2) = .inl (cA (n + 2), 200, .inr (.inr (.inr (.inr (fun _ => none))))) := (fr_93 (n + 2) (by omega)).trans ((fr_90 (n + 2) (by omega)).trans ((fr_86 (n + 2) (by omega)).trans ((fr_80 (n + 2) (by omega)).trans ((fr_76 (n + 2) (by omega)).trans ((fr_72 (n + 2) (by omega)).trans ((fr_66 (n + 2) (by omega)).trans ((fr_62 (n + 2) (by omega)).trans ((fr_58 (n + 2) (by omega)).trans ((fr_52 (n + 2) (by omega)).trans ((fr_48 (n + 2) (by omega)).trans ((fr_44 (n + 2) (by omega)).trans ((fr_40 (n + 2) (by omega)).trans ((fr_36 (n + 2) (by omega)).trans ((fr_32 (n + 2) (by omega)).trans ((fr_28 (n + 2) (by omega)).trans ((fr_24 (n + 2) (by omega)).trans f_19))))))))))))))))
  exact loop_94 _ 0 (fun _ => none) (fun _ => none) (fun _ => none) g_91 (fun (k : Nat) (hk : (k < n + 12 ∧ k ≠ n ∧ k ≠ n + 1 ∧ k ≠ n + 2)) => rfl) (Nat.lt_succ_self _) (by decide) (fun j h => absurd h (Nat.not_lt_zero _)) (fun j h => absurd h (Nat.not_lt_zero _)) (fun j h => absurd h (Nat.not_lt_zero _)) f_195 f_196 f_197 (fun j h => absurd h (Nat.not_lt_zero _)) (fun j h => absurd h (Nat.not_lt_zero _)) (fun j h => absurd h (Nat.not_lt_zero _)) _ _ _ hP hS (lv_sub (l' := [(0, .ref (ad tt)), (2, .int (nI 0))]) hl [1, 0] rfl)
end
section
def wd_GF_fill : List Cond := .code yJ7_fill_53178 cJ7_fill_53178 4 none :: (([] : List Cond) ++ ([]))
theorem gw_GF_fill : wd_GF_fill.all goodWord = true := k_allc rfl (k_all (by decide +kernel) (rfl))
set_option maxHeartbeats 8000000 in
set_option maxRecDepth 100000 in
theorem c_GF_fill (l : Launch) (dC : Nat → ClassId) (dI : Nat → Nat → Nat) (A : Nat → Prop) (ad : Nat → Nat) (cA : Nat → ClassId) (ty : Nat → FieldType) (n : Nat) (g : Nat → va_E) (q0 : Nat) (N9 : Nat) (f : Nat → Int32) (x : Int32) (hq0 : q0 < n) (hq : g q0 = .inl (cA q0, N9, .inl f)) (htq : ty q0 = .int) (hN : N9 ≤ 100) : Met l yJ7_fill_53178 wd_GF_fill ({ frames := 10, cells := 0, slots := 0, locals := 200 }) (va_Pc [.ref (ad q0), .int x] (PCR n ty dC dI A ad cA g)) (va_Qv (fun (u : (Nat → va_E) × (Nat → Int32)) => match u with | (g2, f2) => (∀ k, k ≠ q0 → g2 k = g k) ∧ g2 q0 = .inl (cA q0, N9, .inl f2) ∧ (∀ j, j < N9 → f2 j = x) ∧ ∀ j, N9 ≤ j → f2 j = f j) (fun (u : (Nat → va_E) × (Nat → Int32)) (t : State) => va_P (dC, dI) vwCl (wo ad (n + 0) u.1) t.heap) A) (0) (0) A := by
  refine Met.ofW (cc := cJ7_fill_53178) (maxL := 4) (ret := none) (by decide) rfl ?_
  intro p e s m args below meth c s₁ B hml hv
  obtain ⟨rfl, hA, hz0, hP, hKK⟩ := hv
  obtain ⟨hKA, had, hAd, hE⟩ := id hKK
  have hx := B.exec
  have hb := B.bytes
  have hr := B.returns
  have hts := atoms_spec (ws := wd_GF_fill) B.pre
  have hown : s.vm.findClass RJ7 = some m.cls := findClass_of_methodNamed B.named
  have hlocks := B.notSynchronized
  have hK := hKA (n + 0)
  have hD0 : ∀ (n : Nat) (g : Nat → va_E), va_D A (wo ad n g) := fun n g => wo_D (fun i j _ _ h => ad_inj had i j h) (fun i _ => hAd i) g
  have hD := hD0 (n + 0)
  have hS : va_S A s.heap s.heap [] := va_S.rf
  have hP : va_P (dC, dI) vwCl (wo ad (n + 0) g) s.heap := hP
  have hl := lv_entry ([.ref (ad q0), .int x]) (n := 4) (Nat.le_of_ble_eq_true rfl)
  rw [lg_entry_eq]
  generalize (lg_sl ([.ref (ad q0), .int x]) ++ List.replicate (4 - (lg_sl ([.ref (ad q0), .int x])).length) Slot.unset).toArray = ls at hl ⊢
  have hl : lv_has ls 4 [(0, .ref (ad q0)), (1, .int x)] := hl
  refine lv_iconst (v := nI 0) hx hb dJ7_fill_53178_0 (by decide +kernel) ?_
  refine lv_istore_n (lv' := [(2, .int (nI 0)), (0, .ref (ad q0)), (1, .int x)]) hx hb dJ7_fill_53178_1 rfl hl (by decide) rfl (fun ls hl => ?_)
  refine lv_aload_n hx hb dJ7_fill_53178_2 rfl (lv_at hl 1 rfl) ?_
  refine m_alen hx hb hK hP q0 (by omega) hq dJ7_fill_53178_3 ?_
  refine lv_istore_n (lv' := [(3, .int (nI N9)), (2, .int (nI 0)), (0, .ref (ad q0)), (1, .int x)]) hx hb dJ7_fill_53178_4 rfl hl (by decide) rfl (fun ls hl => ?_)
  have loop_1 : ∀ (k9 : Nat) (i : Nat) (f1 : Nat → Int32) (g_3 : Nat → va_E) (fr_4 : ∀ k, (k ≠ q0) → g_3 k = g k), 300 - i < k9 → (i ≤ N9) → (∀ j, j < i → f1 j = x) → (∀ j, N9 ≤ j → f1 j = f j) → (g_3 q0 = .inl (cA q0, N9, .inl f1)) → ∀ (H : Heap) (locs : List Loc) (ls : Array Slot), va_P (dC, dI) vwCl (wo ad (n + 0) g_3) H → va_S A s.heap H locs → lv_has ls 4 [(0, .ref (ad q0)), (1, .int x), (2, .int (nI i)), (3, .int (nI N9))] → W p l e (headSpec wd_GF_fill ({ frames := 10, cells := 0, slots := 0, locals := 200 })).room s m ([.ref (ad q0), .int x] : List Value).toArray below meth c H locs (0) (0) (MQ below (va_Qv (fun (u : (Nat → va_E) × (Nat → Int32)) => match u with | (g2, f2) => (∀ k, k ≠ q0 → g2 k = g k) ∧ g2 q0 = .inl (cA q0, N9, .inl f2) ∧ (∀ j, j < N9 → f2 j = x) ∧ ∀ j, N9 ≤ j → f2 j = f j) (fun (u : (Nat → va_E) × (Nat → Int32)) (t : State) => va_P (dC, dI) vwCl (wo ad (n + 0) u.1) t.heap) A) ([.ref (ad q0), .int x] : List Value).toArray s (0) (0) A) (F0 m 5 ls []) := by
    intro k9
    induction k9 with
    | zero => intro i f1 g_3 fr_4 h9; exact absurd h9 (Nat.not_lt_zero _)
    | succ k9 ih_2 =>
      intro i f1 g_3 fr_4 h9 hi hn1 hn2 f_5 H locs ls hP hS hl
      refine lv_iload_n hx hb dJ7_fill_53178_5 rfl (lv_at hl 2 rfl) ?_
      refine lv_iload_n hx hb dJ7_fill_53178_6 rfl (lv_at hl 3 rfl) ?_
      refine lv_icmp_ge (tgt := 20) hx hb dJ7_fill_53178_7 (by decide) (fun c_6 => ?_) (fun c_6 => ?_)
      · have c_6 := (nI_leI (a := N9) (b := i) (by omega) (by omega)).mp c_6
        refine W.widen (k := 0) (n := 0) (by omega) (by omega) ?_
        have hP : va_P (dC, dI) vwCl (wo ad (n + 0) g_3) H := hP
        exact W.vret hx hb hr (fun t9 ht9 hW9 => ⟨⟨(g_3, f1), rfl, ⟨(fun (k : Nat) (hk : k ≠ q0) => (fr_4 k (by omega)).trans (rfl)), f_5, fun j hj => hn1 j (by omega), hn2⟩, by show va_P (dC, dI) vwCl _ t9.heap; rw [ht9]; exact hP⟩, hS.F ht9⟩) hS.2.2 dJ7_fill_53178_20
      · have c_6 := mt (nI_leI (a := N9) (b := i) (by omega) (by omega)).mpr c_6
        refine lv_aload_n hx hb dJ7_fill_53178_10 rfl (lv_at hl 0 rfl) ?_
        refine lv_iload_n hx hb dJ7_fill_53178_11 rfl (lv_at hl 2 rfl) ?_
        refine lv_iload_n hx hb dJ7_fill_53178_12 rfl (lv_at hl 1 rfl) ?_
        refine m_iast hx hb hK hP hD hS q0 (by omega) htq f_5 (i := i) (x := x) (by omega) (by omega) dJ7_fill_53178_13 (fun H locs g_7 f_8 fr_9 hP hS => ?_)
        have f_8 : g_7 q0 = .inl (cA q0, N9, .inl (upd f1 i x)) := f_8
        refine lv_iinc (v := nI (i + 1)) (lv' := [(2, .int (nI (i + 1))), (0, .ref (ad q0)), (1, .int x), (3, .int (nI N9))]) hx hb dJ7_fill_53178_14 hl (k := 2) rfl (nI_add i 1) (by decide) rfl (fun ls hl => ?_)
        refine lv_goto (tgt := 5) hx hb dJ7_fill_53178_17 (by decide) ?_
        exact ih_2 (i + 1) (upd f1 i x) g_7 (fun (k : Nat) (hk : k ≠ q0) => (fr_9 k (by omega)).trans ((fr_4 k (by omega)).trans (rfl))) (by omega) (by omega) (fun j hj => by unfold upd; by_cases h8 : j = i; rw [if_pos h8]; rw [if_neg h8]; exact hn1 j (by omega)) (fun j hj => by unfold upd; rw [if_neg (by omega)]; exact hn2 j hj) f_8 _ _ _ hP hS (lv_sub (l' := [(0, .ref (ad q0)), (1, .int x), (2, .int (nI (i + 1))), (3, .int (nI N9))]) hl [1, 2, 0, 3] rfl)
  exact loop_1 _ 0 f g (fun (k : Nat) (hk : k ≠ q0) => rfl) (Nat.lt_succ_self _) (Nat.zero_le _) (fun j h => absurd h (Nat.not_lt_zero _)) (fun j h => rfl) hq _ _ _ hP hS (lv_sub (l' := [(0, .ref (ad q0)), (1, .int x), (2, .int (nI 0)), (3, .int (nI N9))]) hl [2, 3, 1, 0] rfl)
def wd_G9_init : List Cond := .code yX9_init cX9_init 2 none :: (([.methodLink RX9 1 objectInit, .instanceMethod objectInit, .code objectInit ⟨#[0xb1]⟩ 1 none, .classLink RX9 7 RX0, .instantiable RX0 4, .initialized RX0, .instanceMethod yX0_init, .fieldLink RX9 10 "GradientDesk" "arithmetic" "LGradientDesk$Arithmetic;", .classLink RX9 16 RX7, .instantiable RX7 5, .initialized RX7, .instanceMethod yX7_init, .fieldLink RX9 19 "GradientDesk" "text" "LGradientDesk$Text;", .classLink RX9 23 RX6, .instantiable RX6 7, .initialized RX6, .methodLink RX9 25 yX6_init, .instanceMethod yX6_init, .fieldLink RX9 28 "GradientDesk" "shelf" "LGradientDesk$Shelf;", .classLink RX9 32 RX4, .instantiable RX4 10, .initialized RX4, .methodLink RX9 34 yX4_init, .instanceMethod yX4_init, .fieldLink RX9 37 "GradientDesk" "reader" "LGradientDesk$Reader;", .classLink RX9 41 RX1, .instantiable RX1 10, .initialized RX1, .methodLink RX9 43 yX1_init, .instanceMethod yX1_init, .fieldLink RX9 46 "GradientDesk" "course" "LGradientDesk$Course;", .classLink RX9 50 RX5, .instantiable RX5 9, .initialized RX5, .methodLink RX9 52 yX5_init, .instanceMethod yX5_init, .fieldLink RX9 53 "GradientDesk" "script" "LGradientDesk$Script;", .classLink RX9 57 RX2, .fieldLink RX9 59 "GradientDesk" "results" "[LGradientDesk$Fraction;", .instantiable RX2 2, .initialized RX2, .methodLink RX9 63 yX2_init, .instanceMethod yX2_init, .fieldLink RX9 66 "GradientDesk" "spare" "LGradientDesk$Fraction;", .arrayClass .int, .fieldLink RX9 70 "GradientDesk" "names" "[I", .methodLink RX9 74 yJ7_fill_53178, .static yJ7_fill_53178, .initialized RJ7, .fieldLink RX9 80 "GradientDesk" "pointTops" "[I", .fieldLink RX9 83 "GradientDesk" "pointBottoms" "[I", .fieldLink RX9 86 "GradientDesk" "wrongPlace" "I"] : List Cond) ++ (u_ws RX0 TX0 4 ++ (wd_G0_init ++ (u_ws RX9 TX9 12 ++ (u_ws RX7 TX7 5 ++ (wd_G7_init ++ (u_ws RX6 TX6 7 ++ (wd_G6_init ++ (u_ws RX4 TX4 10 ++ (wd_G4_init ++ (u_ws RX1 TX1 10 ++ (wd_G1_init ++ (u_ws RX5 TX5 9 ++ (wd_G5_init ++ (u_ws RX2 TX2 2 ++ (wd_G2_init ++ (wd_GF_fill ++ ([]))))))))))))))))))
theorem gw_G9_init : wd_G9_init.all goodWord = true := k_allc rfl (k_all (by decide +kernel) (k_all (gu_X0) (k_all (gw_G0_init) (k_all (gu_X9) (k_all (gu_X7) (k_all (gw_G7_init) (k_all (gu_X6) (k_all (gw_G6_init) (k_all (gu_X4) (k_all (gw_G4_init) (k_all (gu_X1) (k_all (gw_G1_init) (k_all (gu_X5) (k_all (gw_G5_init) (k_all (gu_X2) (k_all (gw_G2_init) (k_all (gw_GF_fill) (rfl))))))))))))))))))
set_option maxHeartbeats 8000000 in
set_option maxRecDepth 100000 in
theorem c_G9_init (l : Launch) (dC : Nat → ClassId) (dI : Nat → Nat → Nat) (A : Nat → Prop) (ad : Nat → Nat) (cA : Nat → ClassId) (ty : Nat → FieldType) (n : Nat) (g : Nat → va_E) (tt : Nat) (htt : tt < n) (hob : g tt = .inr (12, [.null, .null, .null, .null, .null, .null, .null, .null, .null, .null, .null, .int (nI 0)])) (ht10 : ty (n + 10) = .char) (ht12 : ty (n + 12) = .object "GradientDesk$Part") (ht13 : ty (n + 13) = .boolean) (ht1223 : ty (n + 1223) = .char) (ht1229 : ty (n + 1229) = .object "GradientDesk$Whole") (ht1230 : ty (n + 1230) = .object "GradientDesk$Whole") (ht1231 : ty (n + 1231) = .object "GradientDesk$Whole") (ht1232 : ty (n + 1232) = .object "GradientDesk$Whole") (ht1233 : ty (n + 1233) = .long) (ht2460 : ty (n + 2460) = .char) (ht2464 : ty (n + 2464) = .char) (ht2467 : ty (n + 2467) = .object "GradientDesk$Fraction") (hty : ∀ k, n ≤ k ∧ k < n + 2516 ∧ k ≠ n + 10 ∧ k ≠ n + 12 ∧ k ≠ n + 13 ∧ k ≠ n + 1223 ∧ k ≠ n + 1229 ∧ k ≠ n + 1230 ∧ k ≠ n + 1231 ∧ k ≠ n + 1232 ∧ k ≠ n + 1233 ∧ k ≠ n + 2460 ∧ k ≠ n + 2464 ∧ k ≠ n + 2467 → ty k = .int) : Met l yX9_init wd_G9_init ({ frames := 70, cells := 2516, slots := 140805, locals := 1400 }) (va_Pc [.ref (ad tt)] (PCR n ty dC dI A ad cA g)) (va_Qv (fun (u : (Nat → va_E) × (Nat → Option Nat) × (Nat → Option Nat) × (Nat → Option Nat) × (Nat → Option Nat) × (Nat → Option Nat) × (Nat → Option Nat) × (Nat → Int32) × (Nat → Int32)) => match u with | (g2, fp, f1, f2, f3, f4, fr, fn, fb) => (∀ k, k < n ∧ k ≠ tt → g2 k = g k) ∧ g2 tt = .inr (12, [.ref (ad n), .ref (ad (n + 9)), .ref (ad (n + 11)), .ref (ad (n + 1222)), .ref (ad (n + 1228)), .ref (ad (n + 2459)), .ref (ad (n + 2467)), .ref (ad (n + 2508)), .ref (ad (n + 2513)), .ref (ad (n + 2514)), .ref (ad (n + 2515)), .int (-1)]) ∧ g2 (n + 0) = .inr (3, [.ref (ad (n + 1)), .ref (ad (n + 3)), .ref (ad (n + 5)), .ref (ad (n + 7))]) ∧ WF0 ad cA g2 (n + 1) 128 ∧ WF0 ad cA g2 (n + 3) 128 ∧ WF0 ad cA g2 (n + 5) 64 ∧ WF0 ad cA g2 (n + 7) 64 ∧ g2 (n + 9) = .inr (10, [.ref (ad (n + 10)), .int (nI 0), .int (nI 0), .int (nI 0), .int (nI 0)]) ∧ g2 (n + 10) = .inl (cA (n + 10), 64, .inl (fun _ => 0)) ∧ g2 (n + 11) = .inr (9, [.ref (ad (n + 12)), .ref (ad (n + 13)), .int (nI 0), .ref (ad (n + 14)), .ref (ad n), .ref (ad (n + 15)), .ref (ad (n + 20))]) ∧ g2 (n + 12) = .inl (cA (n + 12), 200, .inr (.inr (.inr (.inr fp)))) ∧ (∀ j, j < 200 → fp j = some (ad (n + 12 + (10 + 6 * j)))) ∧ g2 (n + 13) = .inl (cA (n + 13), 200, .inl (fun _ => 0)) ∧ g2 (n + 14) = .inl (cA (n + 14), 200, .inl (fun _ => 0)) ∧ FF0 ad cA g2 (n + 15) 64 ∧ WF0 ad cA g2 (n + 20) 64 ∧ (∀ j, j < 200 → PF0 ad cA g2 (n + 12 + (10 + 6 * j))) ∧ g2 (n + 1222) = .inr (7, [.ref (ad (n + 9)), .ref (ad (n + 11)), .ref (ad (n + 1223)), .ref (ad (n + 1224)), .ref (ad (n + 1225)), .ref (ad (n + 1226)), .ref (ad (n + 1227)), .int (nI 0), .int (nI 0), .int (nI 0)]) ∧ g2 (n + 1223) = .inl (cA (n + 1223), 64, .inl (fun _ => 0)) ∧ g2 (n + 1224) = .inl (cA (n + 1224), 128, .inl (fun _ => 0)) ∧ g2 (n + 1225) = .inl (cA (n + 1225), 128, .inl (fun _ => 0)) ∧ g2 (n + 1226) = .inl (cA (n + 1226), 128, .inl (fun _ => 0)) ∧ g2 (n + 1227) = .inl (cA (n + 1227), 128, .inl (fun _ => 0)) ∧ g2 (n + 1228) = .inr (4, [.ref (ad (n + 11)), .ref (ad (n + 1229)), .ref (ad (n + 1230)), .ref (ad (n + 1231)), .ref (ad (n + 1232)), .ref (ad (n + 1233)), .ref (ad (n + 1234)), .ref (ad (n + 1235)), .ref (ad (n + 1237)), .ref (ad (n + 1239))]) ∧ g2 (n + 1229) = .inl (cA (n + 1229), 200, .inr (.inr (.inr (.inr f1)))) ∧ g2 (n + 1230) = .inl (cA (n + 1230), 200, .inr (.inr (.inr (.inr f2)))) ∧ g2 (n + 1231) = .inl (cA (n + 1231), 200, .inr (.inr (.inr (.inr f3)))) ∧ g2 (n + 1232) = .inl (cA (n + 1232), 9, .inr (.inr (.inr (.inr f4)))) ∧ g2 (n + 1233) = .inl (cA (n + 1233), 3, .inr (.inl (fun _ => 0))) ∧ g2 (n + 1234) = .inl (cA (n + 1234), 3, .inl (fun _ => 0)) ∧ WF0 ad cA g2 (n + 1235) 26 ∧ WF0 ad cA g2 (n + 1237) 26 ∧ WF0 ad cA g2 (n + 1239) 26 ∧ (∀ j, j < 200 → f1 j = some (ad (n + 1229 + (12 + 6 * j)))) ∧ (∀ j, j < 200 → f2 j = some (ad (n + 1229 + (12 + 6 * j + 2)))) ∧ (∀ j, j < 200 → f3 j = some (ad (n + 1229 + (12 + 6 * j + 4)))) ∧ (∀ j, j < 9 → f4 j = some (ad (n + 1229 + (1212 + 2 * j)))) ∧ (∀ j, j < 200 → WF0 ad cA g2 (n + 1229 + (12 + 6 * j)) 26) ∧ (∀ j, j < 200 → WF0 ad cA g2 (n + 1229 + (12 + 6 * j + 2)) 26) ∧ (∀ j, j < 200 → WF0 ad cA g2 (n + 1229 + (12 + 6 * j + 4)) 13) ∧ (∀ j, j < 9 → WF0 ad cA g2 (n + 1229 + (1212 + 2 * j)) 13) ∧ g2 (n + 2459) = .inr (8, [.ref (ad (n + 2460)), .int (nI 0), .ref (ad (n + 11)), .ref (ad (n + 2461)), .ref (ad (n + 2462)), .ref (ad (n + 2463)), .ref (ad (n + 2464)), .ref (ad (n + 2465)), .int (nI 0)]) ∧ g2 (n + 2460) = .inl (cA (n + 2460), 250, .inl (fun _ => 0)) ∧ g2 (n + 2461) = .inl (cA (n + 2461), 200, .inl (fun _ => 0)) ∧ g2 (n + 2462) = .inl (cA (n + 2462), 250, .inl (fun _ => 0)) ∧ g2 (n + 2463) = .inl (cA (n + 2463), 250, .inl (fun _ => 0)) ∧ g2 (n + 2464) = .inl (cA (n + 2464), 135, .inl (fun _ => 0)) ∧ WF0 ad cA g2 (n + 2465) 13 ∧ g2 (n + 2467) = .inl (cA (n + 2467), 8, .inr (.inr (.inr (.inr fr)))) ∧ (∀ j, j < 8 → fr j = some (ad (n + (2468 + 5 * j)))) ∧ (∀ j, j < 8 → FF0 ad cA g2 (n + (2468 + 5 * j)) 64) ∧ FF0 ad cA g2 (n + 2508) 64 ∧ g2 (n + 2513) = .inl (cA (n + 2513), 8, .inl fn) ∧ (∀ j, j < 8 → fn j = -1) ∧ (∀ j, 8 ≤ j → fn j = 0) ∧ g2 (n + 2514) = .inl (cA (n + 2514), 3, .inl (fun _ => 0)) ∧ g2 (n + 2515) = .inl (cA (n + 2515), 3, .inl fb)) (fun (u : (Nat → va_E) × (Nat → Option Nat) × (Nat → Option Nat) × (Nat → Option Nat) × (Nat → Option Nat) × (Nat → Option Nat) × (Nat → Option Nat) × (Nat → Int32) × (Nat → Int32)) (t : State) => va_P (dC, dI) vwCl (wo ad (n + 2516) u.1) t.heap) A) (2516) (140805) A := by
  refine Met.ofW (cc := cX9_init) (maxL := 2) (ret := none) (by decide) rfl ?_
  intro p e s m args below meth c s₁ B hml hv
  obtain ⟨rfl, hA, hz0, hP, hKK⟩ := hv
  obtain ⟨hKA, had, hAd, hE⟩ := id hKK
  have hx := B.exec
  have hb := B.bytes
  have hr := B.returns
  have hts := atoms_spec (ws := wd_G9_init) B.pre
  have hown : s.vm.findClass RX9 = some m.cls := findClass_of_methodNamed B.named
  have hlocks := B.notSynchronized
  have hK := hKA (n + 0)
  have hD0 : ∀ (n : Nat) (g : Nat → va_E), va_D A (wo ad n g) := fun n g => wo_D (fun i j _ _ h => ad_inj had i j h) (fun i _ => hAd i) g
  have hD := hD0 (n + 0)
  have hS : va_S A s.heap s.heap [] := va_S.rf
  have hP : va_P (dC, dI) vwCl (wo ad (n + 0) g) s.heap := hP
  have hin : meth.name = "<init>" := (name_of_methodNamed B.named B.method).1
  have bk0 : ∀ w ∈ u_ws RX0 TX0 4, w ∈ wd_G9_init := fun _ h => List.mem_cons_of_mem _ (List.mem_append_right _ (List.mem_append_left _ h))
  have bk1 : ∀ w ∈ wd_G0_init, w ∈ wd_G9_init := fun _ h => List.mem_cons_of_mem _ (List.mem_append_right _ (List.mem_append_right _ (List.mem_append_left _ h)))
  have bk2 : ∀ w ∈ u_ws RX9 TX9 12, w ∈ wd_G9_init := fun _ h => List.mem_cons_of_mem _ (List.mem_append_right _ (List.mem_append_right _ (List.mem_append_right _ (List.mem_append_left _ h))))
  have bk3 : ∀ w ∈ u_ws RX7 TX7 5, w ∈ wd_G9_init := fun _ h => List.mem_cons_of_mem _ (List.mem_append_right _ (List.mem_append_right _ (List.mem_append_right _ (List.mem_append_right _ (List.mem_append_left _ h)))))
  have bk4 : ∀ w ∈ wd_G7_init, w ∈ wd_G9_init := fun _ h => List.mem_cons_of_mem _ (List.mem_append_right _ (List.mem_append_right _ (List.mem_append_right _ (List.mem_append_right _ (List.mem_append_right _ (List.mem_append_left _ h))))))
  have bk5 : ∀ w ∈ u_ws RX6 TX6 7, w ∈ wd_G9_init := fun _ h => List.mem_cons_of_mem _ (List.mem_append_right _ (List.mem_append_right _ (List.mem_append_right _ (List.mem_append_right _ (List.mem_append_right _ (List.mem_append_right _ (List.mem_append_left _ h)))))))
  have bk6 : ∀ w ∈ wd_G6_init, w ∈ wd_G9_init := fun _ h => List.mem_cons_of_mem _ (List.mem_append_right _ (List.mem_append_right _ (List.mem_append_right _ (List.mem_append_right _ (List.mem_append_right _ (List.mem_append_right _ (List.mem_append_right _ (List.mem_append_left _ h))))))))
  have bk7 : ∀ w ∈ u_ws RX4 TX4 10, w ∈ wd_G9_init := fun _ h => List.mem_cons_of_mem _ (List.mem_append_right _ (List.mem_append_right _ (List.mem_append_right _ (List.mem_append_right _ (List.mem_append_right _ (List.mem_append_right _ (List.mem_append_right _ (List.mem_append_right _ (List.mem_append_left _ h)))))))))
  have bk8 : ∀ w ∈ wd_G4_init, w ∈ wd_G9_init := fun _ h => List.mem_cons_of_mem _ (List.mem_append_right _ (List.mem_append_right _ (List.mem_append_right _ (List.mem_append_right _ (List.mem_append_right _ (List.mem_append_right _ (List.mem_append_right _ (List.mem_append_right _ (List.mem_append_right _ (List.mem_append_left _ h))))))))))
  have bk9 : ∀ w ∈ u_ws RX1 TX1 10, w ∈ wd_G9_init := fun _ h => List.mem_cons_of_mem _ (List.mem_append_right _ (List.mem_append_right _ (List.mem_append_right _ (List.mem_append_right _ (List.mem_append_right _ (List.mem_append_right _ (List.mem_append_right _ (List.mem_append_right _ (List.mem_append_right _ (List.mem_append_right _ (List.mem_append_left _ h)))))))))))
  have bk10 : ∀ w ∈ wd_G1_init, w ∈ wd_G9_init := fun _ h => List.mem_cons_of_mem _ (List.mem_append_right _ (List.mem_append_right _ (List.mem_append_right _ (List.mem_append_right _ (List.mem_append_right _ (List.mem_append_right _ (List.mem_append_right _ (List.mem_append_right _ (List.mem_append_right _ (List.mem_append_right _ (List.mem_append_right _ (List.mem_append_left _ h))))))))))))
  have bk11 : ∀ w ∈ u_ws RX5 TX5 9, w ∈ wd_G9_init := fun _ h => List.mem_cons_of_mem _ (List.mem_append_right _ (List.mem_append_right _ (List.mem_append_right _ (List.mem_append_right _ (List.mem_append_right _ (List.mem_append_right _ (List.mem_append_right _ (List.mem_append_right _ (List.mem_append_right _ (List.mem_append_right _ (List.mem_append_right _ (List.mem_append_right _ (List.mem_append_left _ h)))))))))))))
  have bk12 : ∀ w ∈ wd_G5_init, w ∈ wd_G9_init := fun _ h => List.mem_cons_of_mem _ (List.mem_append_right _ (List.mem_append_right _ (List.mem_append_right _ (List.mem_append_right _ (List.mem_append_right _ (List.mem_append_right _ (List.mem_append_right _ (List.mem_append_right _ (List.mem_append_right _ (List.mem_append_right _ (List.mem_append_right _ (List.mem_append_right _ (List.mem_append_right _ (List.mem_append_left _ h))))))))))))))
  have bk13 : ∀ w ∈ u_ws RX2 TX2 2, w ∈ wd_G9_init := fun _ h => List.mem_cons_of_mem _ (List.mem_append_right _ (List.mem_append_right _ (List.mem_append_right _ (List.mem_append_right _ (List.mem_append_right _ (List.mem_append_right _ (List.mem_append_right _ (List.mem_append_right _ (List.mem_append_right _ (List.mem_append_right _ (List.mem_append_right _ (List.mem_append_right _ (List.mem_append_right _ (List.mem_append_right _ (List.mem_append_left _ h)))))))))))))))
  have bk14 : ∀ w ∈ wd_G2_init, w ∈ wd_G9_init := fun _ h => List.mem_cons_of_mem _ (List.mem_append_right _ (List.mem_append_right _ (List.mem_append_right _ (List.mem_append_right _ (List.mem_append_right _ (List.mem_append_right _ (List.mem_append_right _ (List.mem_append_right _ (List.mem_append_right _ (List.mem_append_right _ (List.mem_append_right _ (List.mem_append_right _ (List.mem_append_right _ (List.mem_append_right _ (List.mem_append_right _ (List.mem_append_left _ h))))))))))))))))
  have bk15 : ∀ w ∈ wd_GF_fill, w ∈ wd_G9_init := fun _ h => List.mem_cons_of_mem _ (List.mem_append_right _ (List.mem_append_right _ (List.mem_append_right _ (List.mem_append_right _ (List.mem_append_right _ (List.mem_append_right _ (List.mem_append_right _ (List.mem_append_right _ (List.mem_append_right _ (List.mem_append_right _ (List.mem_append_right _ (List.mem_append_right _ (List.mem_append_right _ (List.mem_append_right _ (List.mem_append_right _ (List.mem_append_right _ (List.mem_append_left _ h)))))))))))))))))
  have hl := lv_entry ([.ref (ad tt)]) (n := 2) (Nat.le_of_ble_eq_true rfl)
  rw [lg_entry_eq]
  generalize (lg_sl ([.ref (ad tt)]) ++ List.replicate (2 - (lg_sl ([.ref (ad tt)])).length) Slot.unset).toArray = ls at hl ⊢
  have hl : lv_has ls 2 [(0, .ref (ad tt))] := hl
  refine lv_aload_n hx hb dX9_init_0 rfl (lv_at hl 0 rfl) ?_
  refine W.objInit hx hb hown (hts (.methodLink RX9 1 objectInit) (List.mem_of_getElem? (i := 1) rfl)) (hts (.instanceMethod objectInit) (List.mem_of_getElem? (i := 2) rfl)) (hts _ (List.mem_of_getElem? (i := 3) rfl)) rfl (by rw [hml]; exact hl.1) rfl dX9_init_1 (Nat.le_of_ble_eq_true rfl) (Nat.le_of_ble_eq_true rfl) ?_
  refine W.eq (g2 := F0 m 4 ls []) rfl ?_
  refine lv_aload_n hx hb dX9_init_4 rfl (lv_at hl 0 rfl) ?_
  refine w_size (fun hle => ?_)
  have hz_1 := sz_eq had hz0 hP hS hle
  refine m_new (ci := 3) (fs := [.null, .null, .null, .null]) (C := RX0) (T := TX0) (N := 4) hx hb hts bk0 tyX0 tyX0_ok hown (hts (.classLink RX9 7 RX0) (List.mem_of_getElem? (i := 4) rfl)) (hts (.instantiable RX0 4) (List.mem_of_getElem? (i := 5) rfl)) (hts (.initialized RX0) (List.mem_of_getElem? (i := 6) rfl)) hK hP hS hz_1 rfl (fun j hj => by rcases (show j = 0 ∨ j = 1 ∨ j = 2 ∨ j = 3 by omega) with rfl | rfl | rfl | rfl <;> rfl) (Nat.le_of_ble_eq_true rfl) (Nat.le_of_ble_eq_true rfl) dX9_init_5 (fun H g_2 f_3 fr_4 hP hS => ?_)
  refine W.cs (cells' := 1) (slots' := 4) (by omega) (by omega) ?_
  have hP : va_P (dC, dI) vwCl (wo ad (n + 1) g_2) H := hP
  have hK := hKA (n + 1)
  have hD := hD0 (n + 1)
  refine lv_dup hx hb dX9_init_8 rfl ?_
  refine w_size (fun hle => ?_)
  have hz_10 := sz_eq had hz0 hP hS hle
  refine va_callv (va_runIN (As := []) (rest := [.ref (ad (n + 0)), .ref (ad tt)]) ⟨hx, hb, hml, hown, hts⟩ (c_G0_init l dC dI A ad cA ty (n + 1) g_2 (n + 0) (by omega) f_3 (fun k hk => hty k (by omega))) ⟨va_cnB 0 hts (goodIn_sub (fun w9 h9 => bk1 w9 h9) gw_G0_init) rfl rfl rfl hE.2.2.2.2.1 (hts (.initialized RX0) (List.mem_of_getElem? (i := 6) rfl)) (by decide +kernel) ⟨Nat.le_of_ble_eq_true rfl, Nat.le_of_ble_eq_true rfl⟩, rfl, (hts (.instanceMethod yX0_init) (List.mem_of_getElem? (i := 7) rfl))⟩ ⟨fun a U g mk q => ⟨q.1, q.2.1, q.2.2.1, q.2.2.2.1, KK.same (u := U) (U := U.calling g mk a) rfl q.2.2.2.2⟩, fun U hU hW => ⟨rfl, by rw [hU]; exact fun q h => hA q (Nat.le_trans hS.1 h), by rw [hU]; exact hz_10, by rw [hU]; exact hP, KK.warm hW hKK⟩⟩ rfl rfl hl.1 rfl (lv_room (Nat.le_of_ble_eq_true rfl)) dX9_init_9 ⟨(Nat.le_of_ble_eq_true rfl), (Nat.le_of_ble_eq_true rfl)⟩) hS (fun q _ h => h) (fun q h => h) (fun u8 t8 H1 locs ht8 hvm8 hw_11 hB hz1 hk1 hS => ?_)
  obtain ⟨g_12, rfl⟩ : ∃ z, z = u8 := ⟨_, rfl⟩
  try dsimp only at hw_11 hB
  rw [ht8] at hB
  generalize H1 = H at hB hS ⊢
  obtain ⟨fr_13, hw_5, hv_6, hv_7, hv_8, hv_9⟩ := hw_11
  refine W.cs (cells' := 9) (slots' := 528) (by omega) (by omega) ?_
  have hP : va_P (dC, dI) vwCl (wo ad (n + 9) g_12) H := hB
  have hK := hKA (n + 9)
  have hD := hD0 (n + 9)
  have f_14 : g_12 tt = .inr (12, [.null, .null, .null, .null, .null, .null, .null, .null, .null, .null, .null, .int (nI 0)]) := (fr_13 tt (by omega)).trans ((fr_4 tt (by omega)).trans hob)
  refine m_putF (D := (dC, dI)) (v := .ref (ad (n + 0))) (tv := .object "GradientDesk$Arithmetic") (C := RX9) (T := TX9) (N := 12) hx hb hts bk2 tyX9 tyX9_ok nmX9 hown hK hP hD hS tt (by omega) f_14 rfl 0 (by decide) (hts (.fieldLink RX9 10 "GradientDesk" "arithmetic" "LGradientDesk$Arithmetic;") (List.mem_of_getElem? (i := 8) rfl)) (fun _ h9 => h9) rfl hin rfl (by decide +kernel) rfl rfl (Nat.le_of_ble_eq_true rfl) dX9_init_12 (fun H locs g_15 f_16 fr_17 hP hS => ?_)
  have f_16 : g_15 tt = .inr (12, [.ref (ad (n + 0)), .null, .null, .null, .null, .null, .null, .null, .null, .null, .null, .int (nI 0)]) := f_16
  refine lv_aload_n hx hb dX9_init_15 rfl (lv_at hl 0 rfl) ?_
  refine w_size (fun hle => ?_)
  have hz_18 := sz_eq had hz0 hP hS hle
  refine m_new (ci := 10) (fs := [.null, .int (nI 0), .int (nI 0), .int (nI 0), .int (nI 0)]) (C := RX7) (T := TX7) (N := 5) hx hb hts bk3 tyX7 tyX7_ok hown (hts (.classLink RX9 16 RX7) (List.mem_of_getElem? (i := 9) rfl)) (hts (.instantiable RX7 5) (List.mem_of_getElem? (i := 10) rfl)) (hts (.initialized RX7) (List.mem_of_getElem? (i := 11) rfl)) hK hP hS hz_18 rfl (fun j hj => by rcases (show j = 0 ∨ j = 1 ∨ j = 2 ∨ j = 3 ∨ j = 4 by omega) with rfl | rfl | rfl | rfl | rfl <;> rfl) (Nat.le_of_ble_eq_true rfl) (Nat.le_of_ble_eq_true rfl) dX9_init_16 (fun H g_19 f_20 fr_21 hP hS => ?_)
  refine W.cs (cells' := 10) (slots' := 533) (by omega) (by omega) ?_
  have hP : va_P (dC, dI) vwCl (wo ad (n + 10) g_19) H := hP
  have hK := hKA (n + 10)
  have hD := hD0 (n + 10)
  refine lv_dup hx hb dX9_init_19 rfl ?_
  refine w_size (fun hle => ?_)
  have hz_24 := sz_eq had hz0 hP hS hle
  refine va_callv (va_runIN (As := []) (rest := [.ref (ad (n + 9)), .ref (ad tt)]) ⟨hx, hb, hml, hown, hts⟩ (c_G7_init l dC dI A ad cA ty (n + 10) g_19 (n + 9) (by omega) f_20 ht10) ⟨va_cnB 0 hts (goodIn_sub (fun w9 h9 => bk4 w9 h9) gw_G7_init) rfl rfl rfl hE.2.2.2.1 (hts (.initialized RX7) (List.mem_of_getElem? (i := 11) rfl)) (by decide +kernel) ⟨Nat.le_of_ble_eq_true rfl, Nat.le_of_ble_eq_true rfl⟩, rfl, (hts (.instanceMethod yX7_init) (List.mem_of_getElem? (i := 12) rfl))⟩ ⟨fun a U g mk q => ⟨q.1, q.2.1, q.2.2.1, q.2.2.2.1, KK.same (u := U) (U := U.calling g mk a) rfl q.2.2.2.2⟩, fun U hU hW => ⟨rfl, by rw [hU]; exact fun q h => hA q (Nat.le_trans hS.1 h), by rw [hU]; exact hz_24, by rw [hU]; exact hP, KK.warm hW hKK⟩⟩ rfl rfl hl.1 rfl (lv_room (Nat.le_of_ble_eq_true rfl)) dX9_init_20 ⟨(Nat.le_of_ble_eq_true rfl), (Nat.le_of_ble_eq_true rfl)⟩) hS (fun q _ h => h) (fun q h => h) (fun u8 t8 H1 locs ht8 hvm8 hw_25 hB hz1 hk1 hS => ?_)
  obtain ⟨g_26, rfl⟩ : ∃ z, z = u8 := ⟨_, rfl⟩
  try dsimp only at hw_25 hB
  rw [ht8] at hB
  generalize H1 = H at hB hS ⊢
  obtain ⟨fr_27, hw_22, hw_23⟩ := hw_25
  refine W.cs (cells' := 11) (slots' := 597) (by omega) (by omega) ?_
  have hP : va_P (dC, dI) vwCl (wo ad (n + 11) g_26) H := hB
  have hK := hKA (n + 11)
  have hD := hD0 (n + 11)
  have f_28 : g_26 tt = .inr (12, [.ref (ad (n + 0)), .null, .null, .null, .null, .null, .null, .null, .null, .null, .null, .int (nI 0)]) := (fr_27 tt (by omega)).trans ((fr_21 tt (by omega)).trans f_16)
  refine m_putF (D := (dC, dI)) (v := .ref (ad (n + 9))) (tv := .object "GradientDesk$Text") (C := RX9) (T := TX9) (N := 12) hx hb hts bk2 tyX9 tyX9_ok nmX9 hown hK hP hD hS tt (by omega) f_28 rfl 1 (by decide) (hts (.fieldLink RX9 19 "GradientDesk" "text" "LGradientDesk$Text;") (List.mem_of_getElem? (i := 13) rfl)) (fun _ h9 => h9) rfl hin rfl (by decide +kernel) rfl rfl (Nat.le_of_ble_eq_true rfl) dX9_init_23 (fun H locs g_29 f_30 fr_31 hP hS => ?_)
  have f_30 : g_29 tt = .inr (12, [.ref (ad (n + 0)), .ref (ad (n + 9)), .null, .null, .null, .null, .null, .null, .null, .null, .null, .int (nI 0)]) := f_30
  refine lv_aload_n hx hb dX9_init_26 rfl (lv_at hl 0 rfl) ?_
  refine w_size (fun hle => ?_)
  have hz_32 := sz_eq had hz0 hP hS hle
  refine m_new (ci := 9) (fs := [.null, .null, .int (nI 0), .null, .null, .null, .null]) (C := RX6) (T := TX6) (N := 7) hx hb hts bk5 tyX6 tyX6_ok hown (hts (.classLink RX9 23 RX6) (List.mem_of_getElem? (i := 14) rfl)) (hts (.instantiable RX6 7) (List.mem_of_getElem? (i := 15) rfl)) (hts (.initialized RX6) (List.mem_of_getElem? (i := 16) rfl)) hK hP hS hz_32 rfl (fun j hj => by rcases (show j = 0 ∨ j = 1 ∨ j = 2 ∨ j = 3 ∨ j = 4 ∨ j = 5 ∨ j = 6 by omega) with rfl | rfl | rfl | rfl | rfl | rfl | rfl <;> rfl) (Nat.le_of_ble_eq_true rfl) (Nat.le_of_ble_eq_true rfl) dX9_init_27 (fun H g_33 f_34 fr_35 hP hS => ?_)
  refine W.cs (cells' := 12) (slots' := 604) (by omega) (by omega) ?_
  have hP : va_P (dC, dI) vwCl (wo ad (n + 12) g_33) H := hP
  have hK := hKA (n + 12)
  have hD := hD0 (n + 12)
  refine lv_dup hx hb dX9_init_30 rfl ?_
  refine lv_aload_n hx hb dX9_init_31 rfl (lv_at hl 0 rfl) ?_
  have f_36 : g_33 tt = .inr (12, [.ref (ad (n + 0)), .ref (ad (n + 9)), .null, .null, .null, .null, .null, .null, .null, .null, .null, .int (nI 0)]) := (fr_35 tt (by omega)).trans f_30
  refine m_get (D := (dC, dI)) (v := .ref (ad (n + 0))) (C := RX9) (T := TX9) (N := 12) hx hb hts bk2 hown hK hP tt (by omega) f_36 rfl 0 (by decide) (hts (.fieldLink RX9 10 "GradientDesk" "arithmetic" "LGradientDesk$Arithmetic;") (List.mem_of_getElem? (i := 8) rfl)) (fun _ h9 => h9) rfl dX9_init_32 ?_
  refine w_size (fun hle => ?_)
  have hz_45 := sz_eq had hz0 hP hS hle
  refine va_callv (va_runI (As := [.ref (ad (n + 0))]) (rest := [.ref (ad (n + 11)), .ref (ad tt)]) ⟨hx, hb, hml, hown, hts⟩ (c_G6_init l dC dI A ad cA ty (n + 12) g_33 (n + 11) (n + 0) (by omega) f_34 ht12 ht13 (fun k hk => hty k (by omega))) (cwI 1 hts (goodIn_sub (fun w9 h9 => bk6 w9 h9) gw_G6_init) rfl rfl rfl (hts (.initialized RX6) (List.mem_of_getElem? (i := 16) rfl)) (hts (.methodLink RX9 25 yX6_init) (List.mem_of_getElem? (i := 17) rfl)) (hts (.instanceMethod yX6_init) (List.mem_of_getElem? (i := 18) rfl)) rfl (by decide +kernel) ⟨Nat.le_of_ble_eq_true rfl, Nat.le_of_ble_eq_true rfl⟩) ⟨fun a U g mk q => ⟨q.1, q.2.1, q.2.2.1, q.2.2.2.1, KK.same (u := U) (U := U.calling g mk a) rfl q.2.2.2.2⟩, fun U hU hW => ⟨rfl, by rw [hU]; exact fun q h => hA q (Nat.le_trans hS.1 h), by rw [hU]; exact hz_45, by rw [hU]; exact hP, KK.warm hW hKK⟩⟩ rfl rfl hl.1 rfl (lv_room (Nat.le_of_ble_eq_true rfl)) dX9_init_35 ⟨(Nat.le_of_ble_eq_true rfl), (Nat.le_of_ble_eq_true rfl)⟩) hS (fun q _ h => h) (fun q h => h) (fun u8 t8 H1 locs ht8 hvm8 hw_46 hB hz1 hk1 hS => ?_)
  obtain ⟨g_47, fp_48⟩ := u8
  try dsimp only at hw_46 hB
  rw [ht8] at hB
  generalize H1 = H at hB hS ⊢
  obtain ⟨fr_49, hw_37, hw_38, hv_41, hw_39, hw_40, hv_42, hv_43, hv_44⟩ := hw_46
  refine W.cs (cells' := 1222) (slots' := 55799) (by omega) (by omega) ?_
  have hP : va_P (dC, dI) vwCl (wo ad (n + 1222) g_47) H := hB
  have hK := hKA (n + 1222)
  have hD := hD0 (n + 1222)
  have f_50 : g_47 tt = .inr (12, [.ref (ad (n + 0)), .ref (ad (n + 9)), .null, .null, .null, .null, .null, .null, .null, .null, .null, .int (nI 0)]) := (fr_49 tt (by omega)).trans f_36
  refine m_putF (D := (dC, dI)) (v := .ref (ad (n + 11))) (tv := .object "GradientDesk$Shelf") (C := RX9) (T := TX9) (N := 12) hx hb hts bk2 tyX9 tyX9_ok nmX9 hown hK hP hD hS tt (by omega) f_50 rfl 2 (by decide) (hts (.fieldLink RX9 28 "GradientDesk" "shelf" "LGradientDesk$Shelf;") (List.mem_of_getElem? (i := 19) rfl)) (fun _ h9 => h9) rfl hin rfl (by decide +kernel) rfl rfl (Nat.le_of_ble_eq_true rfl) dX9_init_38 (fun H locs g_51 f_52 fr_53 hP hS => ?_)
  have f_52 : g_51 tt = .inr (12, [.ref (ad (n + 0)), .ref (ad (n + 9)), .ref (ad (n + 11)), .null, .null, .null, .null, .null, .null, .null, .null, .int (nI 0)]) := f_52
  refine lv_aload_n hx hb dX9_init_41 rfl (lv_at hl 0 rfl) ?_
  refine w_size (fun hle => ?_)
  have hz_54 := sz_eq had hz0 hP hS hle
  refine m_new (ci := 7) (fs := [.null, .null, .null, .null, .null, .null, .null, .int (nI 0), .int (nI 0), .int (nI 0)]) (C := RX4) (T := TX4) (N := 10) hx hb hts bk7 tyX4 tyX4_ok hown (hts (.classLink RX9 32 RX4) (List.mem_of_getElem? (i := 20) rfl)) (hts (.instantiable RX4 10) (List.mem_of_getElem? (i := 21) rfl)) (hts (.initialized RX4) (List.mem_of_getElem? (i := 22) rfl)) hK hP hS hz_54 rfl (fun j hj => by rcases (show j = 0 ∨ j = 1 ∨ j = 2 ∨ j = 3 ∨ j = 4 ∨ j = 5 ∨ j = 6 ∨ j = 7 ∨ j = 8 ∨ j = 9 by omega) with rfl | rfl | rfl | rfl | rfl | rfl | rfl | rfl | rfl | rfl <;> rfl) (Nat.le_of_ble_eq_true rfl) (Nat.le_of_ble_eq_true rfl) dX9_init_42 (fun H g_55 f_56 fr_57 hP hS => ?_)
  refine W.cs (cells' := 1223) (slots' := 55809) (by omega) (by omega) ?_
  have hP : va_P (dC, dI) vwCl (wo ad (n + 1223) g_55) H := hP
  have hK := hKA (n + 1223)
  have hD := hD0 (n + 1223)
  refine lv_dup hx hb dX9_init_45 rfl ?_
  refine lv_aload_n hx hb dX9_init_46 rfl (lv_at hl 0 rfl) ?_
  have f_58 : g_55 tt = .inr (12, [.ref (ad (n + 0)), .ref (ad (n + 9)), .ref (ad (n + 11)), .null, .null, .null, .null, .null, .null, .null, .null, .int (nI 0)]) := (fr_57 tt (by omega)).trans f_52
  refine m_get (D := (dC, dI)) (v := .ref (ad (n + 9))) (C := RX9) (T := TX9) (N := 12) hx hb hts bk2 hown hK hP tt (by omega) f_58 rfl 1 (by decide) (hts (.fieldLink RX9 19 "GradientDesk" "text" "LGradientDesk$Text;") (List.mem_of_getElem? (i := 13) rfl)) (fun _ h9 => h9) rfl dX9_init_47 ?_
  refine lv_aload_n hx hb dX9_init_50 rfl (lv_at hl 0 rfl) ?_
  refine m_get (D := (dC, dI)) (v := .ref (ad (n + 11))) (C := RX9) (T := TX9) (N := 12) hx hb hts bk2 hown hK hP tt (by omega) f_58 rfl 2 (by decide) (hts (.fieldLink RX9 28 "GradientDesk" "shelf" "LGradientDesk$Shelf;") (List.mem_of_getElem? (i := 19) rfl)) (fun _ h9 => h9) rfl dX9_init_51 ?_
  refine w_size (fun hle => ?_)
  have hz_65 := sz_eq had hz0 hP hS hle
  refine va_callv (va_runI (As := [.ref (ad (n + 9)), .ref (ad (n + 11))]) (rest := [.ref (ad (n + 1222)), .ref (ad tt)]) ⟨hx, hb, hml, hown, hts⟩ (c_G4_init l dC dI A ad cA ty (n + 1223) g_55 (n + 1222) (n + 9) (n + 11) (by omega) f_56 ht1223 (fun k hk => hty k (by omega))) (cwI 2 hts (goodIn_sub (fun w9 h9 => bk8 w9 h9) gw_G4_init) rfl rfl rfl (hts (.initialized RX4) (List.mem_of_getElem? (i := 22) rfl)) (hts (.methodLink RX9 34 yX4_init) (List.mem_of_getElem? (i := 23) rfl)) (hts (.instanceMethod yX4_init) (List.mem_of_getElem? (i := 24) rfl)) rfl (by decide +kernel) ⟨Nat.le_of_ble_eq_true rfl, Nat.le_of_ble_eq_true rfl⟩) ⟨fun a U g mk q => ⟨q.1, q.2.1, q.2.2.1, q.2.2.2.1, KK.same (u := U) (U := U.calling g mk a) rfl q.2.2.2.2⟩, fun U hU hW => ⟨rfl, by rw [hU]; exact fun q h => hA q (Nat.le_trans hS.1 h), by rw [hU]; exact hz_65, by rw [hU]; exact hP, KK.warm hW hKK⟩⟩ rfl rfl hl.1 rfl (lv_room (Nat.le_of_ble_eq_true rfl)) dX9_init_54 ⟨(Nat.le_of_ble_eq_true rfl), (Nat.le_of_ble_eq_true rfl)⟩) hS (fun q _ h => h) (fun q h => h) (fun u8 t8 H1 locs ht8 hvm8 hw_66 hB hz1 hk1 hS => ?_)
  obtain ⟨g_67, rfl⟩ : ∃ z, z = u8 := ⟨_, rfl⟩
  try dsimp only at hw_66 hB
  rw [ht8] at hB
  generalize H1 = H at hB hS ⊢
  obtain ⟨fr_68, hw_59, hw_60, hw_61, hw_62, hw_63, hw_64⟩ := hw_66
  refine W.cs (cells' := 1228) (slots' := 56385) (by omega) (by omega) ?_
  have hP : va_P (dC, dI) vwCl (wo ad (n + 1228) g_67) H := hB
  have hK := hKA (n + 1228)
  have hD := hD0 (n + 1228)
  have f_69 : g_67 tt = .inr (12, [.ref (ad (n + 0)), .ref (ad (n + 9)), .ref (ad (n + 11)), .null, .null, .null, .null, .null, .null, .null, .null, .int (nI 0)]) := (fr_68 tt (by omega)).trans f_58
  refine m_putF (D := (dC, dI)) (v := .ref (ad (n + 1222))) (tv := .object "GradientDesk$Reader") (C := RX9) (T := TX9) (N := 12) hx hb hts bk2 tyX9 tyX9_ok nmX9 hown hK hP hD hS tt (by omega) f_69 rfl 3 (by decide) (hts (.fieldLink RX9 37 "GradientDesk" "reader" "LGradientDesk$Reader;") (List.mem_of_getElem? (i := 25) rfl)) (fun _ h9 => h9) rfl hin rfl (by decide +kernel) rfl rfl (Nat.le_of_ble_eq_true rfl) dX9_init_57 (fun H locs g_70 f_71 fr_72 hP hS => ?_)
  have f_71 : g_70 tt = .inr (12, [.ref (ad (n + 0)), .ref (ad (n + 9)), .ref (ad (n + 11)), .ref (ad (n + 1222)), .null, .null, .null, .null, .null, .null, .null, .int (nI 0)]) := f_71
  refine lv_aload_n hx hb dX9_init_60 rfl (lv_at hl 0 rfl) ?_
  refine w_size (fun hle => ?_)
  have hz_73 := sz_eq had hz0 hP hS hle
  refine m_new (ci := 4) (fs := [.null, .null, .null, .null, .null, .null, .null, .null, .null, .null]) (C := RX1) (T := TX1) (N := 10) hx hb hts bk9 tyX1 tyX1_ok hown (hts (.classLink RX9 41 RX1) (List.mem_of_getElem? (i := 26) rfl)) (hts (.instantiable RX1 10) (List.mem_of_getElem? (i := 27) rfl)) (hts (.initialized RX1) (List.mem_of_getElem? (i := 28) rfl)) hK hP hS hz_73 rfl (fun j hj => by rcases (show j = 0 ∨ j = 1 ∨ j = 2 ∨ j = 3 ∨ j = 4 ∨ j = 5 ∨ j = 6 ∨ j = 7 ∨ j = 8 ∨ j = 9 by omega) with rfl | rfl | rfl | rfl | rfl | rfl | rfl | rfl | rfl | rfl <;> rfl) (Nat.le_of_ble_eq_true rfl) (Nat.le_of_ble_eq_true rfl) dX9_init_61 (fun H g_74 f_75 fr_76 hP hS => ?_)
  refine W.cs (cells' := 1229) (slots' := 56395) (by omega) (by omega) ?_
  have hP : va_P (dC, dI) vwCl (wo ad (n + 1229) g_74) H := hP
  have hK := hKA (n + 1229)
  have hD := hD0 (n + 1229)
  refine lv_dup hx hb dX9_init_64 rfl ?_
  refine lv_aload_n hx hb dX9_init_65 rfl (lv_at hl 0 rfl) ?_
  have f_77 : g_74 tt = .inr (12, [.ref (ad (n + 0)), .ref (ad (n + 9)), .ref (ad (n + 11)), .ref (ad (n + 1222)), .null, .null, .null, .null, .null, .null, .null, .int (nI 0)]) := (fr_76 tt (by omega)).trans f_71
  refine m_get (D := (dC, dI)) (v := .ref (ad (n + 11))) (C := RX9) (T := TX9) (N := 12) hx hb hts bk2 hown hK hP tt (by omega) f_77 rfl 2 (by decide) (hts (.fieldLink RX9 28 "GradientDesk" "shelf" "LGradientDesk$Shelf;") (List.mem_of_getElem? (i := 19) rfl)) (fun _ h9 => h9) rfl dX9_init_66 ?_
  refine w_size (fun hle => ?_)
  have hz_96 := sz_eq had hz0 hP hS hle
  refine va_callv (va_runI (As := [.ref (ad (n + 11))]) (rest := [.ref (ad (n + 1228)), .ref (ad tt)]) ⟨hx, hb, hml, hown, hts⟩ (c_G1_init l dC dI A ad cA ty (n + 1229) g_74 (n + 1228) (n + 11) (by omega) f_75 ht1229 ht1230 ht1231 ht1232 ht1233 (fun k hk => hty k (by omega))) (cwI 1 hts (goodIn_sub (fun w9 h9 => bk10 w9 h9) gw_G1_init) rfl rfl rfl (hts (.initialized RX1) (List.mem_of_getElem? (i := 28) rfl)) (hts (.methodLink RX9 43 yX1_init) (List.mem_of_getElem? (i := 29) rfl)) (hts (.instanceMethod yX1_init) (List.mem_of_getElem? (i := 30) rfl)) rfl (by decide +kernel) ⟨Nat.le_of_ble_eq_true rfl, Nat.le_of_ble_eq_true rfl⟩) ⟨fun a U g mk q => ⟨q.1, q.2.1, q.2.2.1, q.2.2.2.1, KK.same (u := U) (U := U.calling g mk a) rfl q.2.2.2.2⟩, fun U hU hW => ⟨rfl, by rw [hU]; exact fun q h => hA q (Nat.le_trans hS.1 h), by rw [hU]; exact hz_96, by rw [hU]; exact hP, KK.warm hW hKK⟩⟩ rfl rfl hl.1 rfl (lv_room (Nat.le_of_ble_eq_true rfl)) dX9_init_69 ⟨(Nat.le_of_ble_eq_true rfl), (Nat.le_of_ble_eq_true rfl)⟩) hS (fun q _ h => h) (fun q h => h) (fun u8 t8 H1 locs ht8 hvm8 hw_97 hB hz1 hk1 hS => ?_)
  obtain ⟨g_98, f1_99, f2_100, f3_101, f4_102⟩ := u8
  try dsimp only at hw_97 hB
  rw [ht8] at hB
  generalize H1 = H at hB hS ⊢
  obtain ⟨fr_103, hw_78, hw_79, hw_80, hw_81, hw_82, hw_83, hw_84, hv_85, hv_86, hv_87, hv_88, hv_89, hv_90, hv_91, hv_92, hv_93, hv_94, hv_95⟩ := hw_97
  refine W.cs (cells' := 2459) (slots' := 137182) (by omega) (by omega) ?_
  have hP : va_P (dC, dI) vwCl (wo ad (n + 2459) g_98) H := hB
  have hK := hKA (n + 2459)
  have hD := hD0 (n + 2459)
  have f_104 : g_98 tt = .inr (12, [.ref (ad (n + 0)), .ref (ad (n + 9)), .ref (ad (n + 11)), .ref (ad (n + 1222)), .null, .null, .null, .null, .null, .null, .null, .int (nI 0)]) := (fr_103 tt (by omega)).trans f_77
  refine m_putF (D := (dC, dI)) (v := .ref (ad (n + 1228))) (tv := .object "GradientDesk$Course") (C := RX9) (T := TX9) (N := 12) hx hb hts bk2 tyX9 tyX9_ok nmX9 hown hK hP hD hS tt (by omega) f_104 rfl 4 (by decide) (hts (.fieldLink RX9 46 "GradientDesk" "course" "LGradientDesk$Course;") (List.mem_of_getElem? (i := 31) rfl)) (fun _ h9 => h9) rfl hin rfl (by decide +kernel) rfl rfl (Nat.le_of_ble_eq_true rfl) dX9_init_72 (fun H locs g_105 f_106 fr_107 hP hS => ?_)
  have f_106 : g_105 tt = .inr (12, [.ref (ad (n + 0)), .ref (ad (n + 9)), .ref (ad (n + 11)), .ref (ad (n + 1222)), .ref (ad (n + 1228)), .null, .null, .null, .null, .null, .null, .int (nI 0)]) := f_106
  refine lv_aload_n hx hb dX9_init_75 rfl (lv_at hl 0 rfl) ?_
  refine w_size (fun hle => ?_)
  have hz_108 := sz_eq had hz0 hP hS hle
  refine m_new (ci := 8) (fs := [.null, .int (nI 0), .null, .null, .null, .null, .null, .null, .int (nI 0)]) (C := RX5) (T := TX5) (N := 9) hx hb hts bk11 tyX5 tyX5_ok hown (hts (.classLink RX9 50 RX5) (List.mem_of_getElem? (i := 32) rfl)) (hts (.instantiable RX5 9) (List.mem_of_getElem? (i := 33) rfl)) (hts (.initialized RX5) (List.mem_of_getElem? (i := 34) rfl)) hK hP hS hz_108 rfl (fun j hj => by rcases (show j = 0 ∨ j = 1 ∨ j = 2 ∨ j = 3 ∨ j = 4 ∨ j = 5 ∨ j = 6 ∨ j = 7 ∨ j = 8 by omega) with rfl | rfl | rfl | rfl | rfl | rfl | rfl | rfl | rfl <;> rfl) (Nat.le_of_ble_eq_true rfl) (Nat.le_of_ble_eq_true rfl) dX9_init_76 (fun H g_109 f_110 fr_111 hP hS => ?_)
  refine W.cs (cells' := 2460) (slots' := 137191) (by omega) (by omega) ?_
  have hP : va_P (dC, dI) vwCl (wo ad (n + 2460) g_109) H := hP
  have hK := hKA (n + 2460)
  have hD := hD0 (n + 2460)
  refine lv_dup hx hb dX9_init_79 rfl ?_
  refine lv_aload_n hx hb dX9_init_80 rfl (lv_at hl 0 rfl) ?_
  have f_112 : g_109 tt = .inr (12, [.ref (ad (n + 0)), .ref (ad (n + 9)), .ref (ad (n + 11)), .ref (ad (n + 1222)), .ref (ad (n + 1228)), .null, .null, .null, .null, .null, .null, .int (nI 0)]) := (fr_111 tt (by omega)).trans f_106
  refine m_get (D := (dC, dI)) (v := .ref (ad (n + 11))) (C := RX9) (T := TX9) (N := 12) hx hb hts bk2 hown hK hP tt (by omega) f_112 rfl 2 (by decide) (hts (.fieldLink RX9 28 "GradientDesk" "shelf" "LGradientDesk$Shelf;") (List.mem_of_getElem? (i := 19) rfl)) (fun _ h9 => h9) rfl dX9_init_81 ?_
  refine w_size (fun hle => ?_)
  have hz_120 := sz_eq had hz0 hP hS hle
  refine va_callv (va_runI (As := [.ref (ad (n + 11))]) (rest := [.ref (ad (n + 2459)), .ref (ad tt)]) ⟨hx, hb, hml, hown, hts⟩ (c_G5_init l dC dI A ad cA ty (n + 2460) g_109 (n + 2459) (n + 11) (by omega) f_110 ht2460 ht2464 (fun k hk => hty k (by omega))) (cwI 1 hts (goodIn_sub (fun w9 h9 => bk12 w9 h9) gw_G5_init) rfl rfl rfl (hts (.initialized RX5) (List.mem_of_getElem? (i := 34) rfl)) (hts (.methodLink RX9 52 yX5_init) (List.mem_of_getElem? (i := 35) rfl)) (hts (.instanceMethod yX5_init) (List.mem_of_getElem? (i := 36) rfl)) rfl (by decide +kernel) ⟨Nat.le_of_ble_eq_true rfl, Nat.le_of_ble_eq_true rfl⟩) ⟨fun a U g mk q => ⟨q.1, q.2.1, q.2.2.1, q.2.2.2.1, KK.same (u := U) (U := U.calling g mk a) rfl q.2.2.2.2⟩, fun U hU hW => ⟨rfl, by rw [hU]; exact fun q h => hA q (Nat.le_trans hS.1 h), by rw [hU]; exact hz_120, by rw [hU]; exact hP, KK.warm hW hKK⟩⟩ rfl rfl hl.1 rfl (lv_room (Nat.le_of_ble_eq_true rfl)) dX9_init_84 ⟨(Nat.le_of_ble_eq_true rfl), (Nat.le_of_ble_eq_true rfl)⟩) hS (fun q _ h => h) (fun q h => h) (fun u8 t8 H1 locs ht8 hvm8 hw_121 hB hz1 hk1 hS => ?_)
  obtain ⟨g_122, rfl⟩ : ∃ z, z = u8 := ⟨_, rfl⟩
  try dsimp only at hw_121 hB
  rw [ht8] at hB
  generalize H1 = H at hB hS ⊢
  obtain ⟨fr_123, hw_113, hw_114, hw_115, hw_116, hw_117, hw_118, hv_119⟩ := hw_121
  refine W.cs (cells' := 2467) (slots' := 138407) (by omega) (by omega) ?_
  have hP : va_P (dC, dI) vwCl (wo ad (n + 2467) g_122) H := hB
  have hK := hKA (n + 2467)
  have hD := hD0 (n + 2467)
  have f_124 : g_122 tt = .inr (12, [.ref (ad (n + 0)), .ref (ad (n + 9)), .ref (ad (n + 11)), .ref (ad (n + 1222)), .ref (ad (n + 1228)), .null, .null, .null, .null, .null, .null, .int (nI 0)]) := (fr_123 tt (by omega)).trans f_112
  refine m_putF (D := (dC, dI)) (v := .ref (ad (n + 2459))) (tv := .object "GradientDesk$Script") (C := RX9) (T := TX9) (N := 12) hx hb hts bk2 tyX9 tyX9_ok nmX9 hown hK hP hD hS tt (by omega) f_124 rfl 5 (by decide) (hts (.fieldLink RX9 53 "GradientDesk" "script" "LGradientDesk$Script;") (List.mem_of_getElem? (i := 37) rfl)) (fun _ h9 => h9) rfl hin rfl (by decide +kernel) rfl rfl (Nat.le_of_ble_eq_true rfl) dX9_init_87 (fun H locs g_125 f_126 fr_127 hP hS => ?_)
  have f_126 : g_125 tt = .inr (12, [.ref (ad (n + 0)), .ref (ad (n + 9)), .ref (ad (n + 11)), .ref (ad (n + 1222)), .ref (ad (n + 1228)), .ref (ad (n + 2459)), .null, .null, .null, .null, .null, .int (nI 0)]) := f_126
  refine lv_aload_n hx hb dX9_init_90 rfl (lv_at hl 0 rfl) ?_
  refine lv_bipush (v := nI 8) hx hb dX9_init_91 (by decide +kernel) ?_
  refine w_size (fun hle => ?_)
  have hz_128 := sz_eq had hz0 hP hS hle
  refine m_newq (C := RX2) (N' := 8) hx hb hown (hts (.classLink RX9 57 RX2) (List.mem_of_getElem? (i := 38) rfl)) hE.2.2.1 ht2467 (hKA _) hP hS hz_128 (nI_pos (by decide)) (nI_clamp (by decide)) (by decide) (Nat.le_of_ble_eq_true rfl) (Nat.le_of_ble_eq_true rfl) dX9_init_93 (fun H g_129 f_130 fr_131 hP hS => ?_)
  refine W.cs (cells' := 2468) (slots' := 138415) (by omega) (by omega) ?_
  have hP : va_P (dC, dI) vwCl (wo ad (n + 2468) g_129) H := hP
  have hK := hKA (n + 2468)
  have hD := hD0 (n + 2468)
  have f_132 : g_129 tt = .inr (12, [.ref (ad (n + 0)), .ref (ad (n + 9)), .ref (ad (n + 11)), .ref (ad (n + 1222)), .ref (ad (n + 1228)), .ref (ad (n + 2459)), .null, .null, .null, .null, .null, .int (nI 0)]) := (fr_131 tt (by omega)).trans f_126
  refine m_putF (D := (dC, dI)) (v := .ref (ad (n + 2467))) (tv := .array (.object "GradientDesk$Fraction")) (C := RX9) (T := TX9) (N := 12) hx hb hts bk2 tyX9 tyX9_ok nmX9 hown hK hP hD hS tt (by omega) f_132 rfl 6 (by decide) (hts (.fieldLink RX9 59 "GradientDesk" "results" "[LGradientDesk$Fraction;") (List.mem_of_getElem? (i := 39) rfl)) (fun _ h9 => h9) rfl hin rfl (by decide +kernel) rfl rfl (Nat.le_of_ble_eq_true rfl) dX9_init_96 (fun H locs g_133 f_134 fr_135 hP hS => ?_)
  have f_134 : g_133 tt = .inr (12, [.ref (ad (n + 0)), .ref (ad (n + 9)), .ref (ad (n + 11)), .ref (ad (n + 1222)), .ref (ad (n + 1228)), .ref (ad (n + 2459)), .ref (ad (n + 2467)), .null, .null, .null, .null, .int (nI 0)]) := f_134
  refine lv_iconst (v := nI 0) hx hb dX9_init_99 (by decide +kernel) ?_
  refine lv_istore_n (lv' := [(1, .int (nI 0)), (0, .ref (ad tt))]) hx hb dX9_init_100 rfl hl (by decide) rfl (fun ls hl => ?_)
  have loop_136 : ∀ (k9 : Nat) (i : Nat) (fr : Nat → Option Nat) (g_138 : Nat → va_E) (fr_139 : ∀ k, ((k < n + 2468 ∧ k ≠ n + 2467)) → g_138 k = g_133 k), 300 - i < k9 → (i ≤ 8) → (∀ j, j < i → fr j = some (ad (n + (2468 + 5 * j)))) → (g_138 (n + 2467) = .inl (cA (n + 2467), 8, .inr (.inr (.inr (.inr fr))))) → (∀ j, j < i → FF0 ad cA g_138 (n + (2468 + 5 * j)) 64) → ∀ (H : Heap) (locs : List Loc) (ls : Array Slot), va_P (dC, dI) vwCl (wo ad (n + (2468 + 5 * i)) g_138) H → va_S A s.heap H locs → lv_has ls 2 [(0, .ref (ad tt)), (1, .int (nI i))] → W p l e (headSpec wd_G9_init ({ frames := 70, cells := 2516, slots := 140805, locals := 1400 })).room s m ([.ref (ad tt)] : List Value).toArray below meth c H locs (2468 + 5 * i) (138415 + 264 * i) (MQ below (va_Qv (fun (u : (Nat → va_E) × (Nat → Option Nat) × (Nat → Option Nat) × (Nat → Option Nat) × (Nat → Option Nat) × (Nat → Option Nat) × (Nat → Option Nat) × (Nat → Int32) × (Nat → Int32)) => match u with | (g2, fp, f1, f2, f3, f4, fr, fn, fb) => (∀ k, k < n ∧ k ≠ tt → g2 k = g k) ∧ g2 tt = .inr (12, [.ref (ad n), .ref (ad (n + 9)), .ref (ad (n + 11)), .ref (ad (n + 1222)), .ref (ad (n + 1228)), .ref (ad (n + 2459)), .ref (ad (n + 2467)), .ref (ad (n + 2508)), .ref (ad (n + 2513)), .ref (ad (n + 2514)), .ref (ad (n + 2515)), .int (-1)]) ∧ g2 (n + 0) = .inr (3, [.ref (ad (n + 1)), .ref (ad (n + 3)), .ref (ad (n + 5)), .ref (ad (n + 7))]) ∧ WF0 ad cA g2 (n + 1) 128 ∧ WF0 ad cA g2 (n + 3) 128 ∧ WF0 ad cA g2 (n + 5) 64 ∧ WF0 ad cA g2 (n + 7) 64 ∧ g2 (n + 9) = .inr (10, [.ref (ad (n + 10)), .int (nI 0), .int (nI 0), .int (nI 0), .int (nI 0)]) ∧ g2 (n + 10) = .inl (cA (n + 10), 64, .inl (fun _ => 0)) ∧ g2 (n + 11) = .inr (9, [.ref (ad (n + 12)), .ref (ad (n + 13)), .int (nI 0), .ref (ad (n + 14)), .ref (ad n), .ref (ad (n + 15)), .ref (ad (n + 20))]) ∧ g2 (n + 12) = .inl (cA (n + 12), 200, .inr (.inr (.inr (.inr fp)))) ∧ (∀ j, j < 200 → fp j = some (ad (n + 12 + (10 + 6 * j)))) ∧ g2 (n + 13) = .inl (cA (n + 13), 200, .inl (fun _ => 0)) ∧ g2 (n + 14) = .inl (cA (n + 14), 200, .inl (fun _ => 0)) ∧ FF0 ad cA g2 (n + 15) 64 ∧ WF0 ad cA g2 (n + 20) 64 ∧ (∀ j, j < 200 → PF0 ad cA g2 (n + 12 + (10 + 6 * j))) ∧ g2 (n + 1222) = .inr (7, [.ref (ad (n + 9)), .ref (ad (n + 11)), .ref (ad (n + 1223)), .ref (ad (n + 1224)), .ref (ad (n + 1225)), .ref (ad (n + 1226)), .ref (ad (n + 1227)), .int (nI 0), .int (nI 0), .int (nI 0)]) ∧ g2 (n + 1223) = .inl (cA (n + 1223), 64, .inl (fun _ => 0)) ∧ g2 (n + 1224) = .inl (cA (n + 1224), 128, .inl (fun _ => 0)) ∧ g2 (n + 1225) = .inl (cA (n + 1225), 128, .inl (fun _ => 0)) ∧ g2 (n + 1226) = .inl (cA (n + 1226), 128, .inl (fun _ => 0)) ∧ g2 (n + 1227) = .inl (cA (n + 1227), 128, .inl (fun _ => 0)) ∧ g2 (n + 1228) = .inr (4, [.ref (ad (n + 11)), .ref (ad (n + 1229)), .ref (ad (n + 1230)), .ref (ad (n + 1231)), .ref (ad (n + 1232)), .ref (ad (n + 1233)), .ref (ad (n + 1234)), .ref (ad (n + 1235)), .ref (ad (n + 1237)), .ref (ad (n + 1239))]) ∧ g2 (n + 1229) = .inl (cA (n + 1229), 200, .inr (.inr (.inr (.inr f1)))) ∧ g2 (n + 1230) = .inl (cA (n + 1230), 200, .inr (.inr (.inr (.inr f2)))) ∧ g2 (n + 1231) = .inl (cA (n + 1231), 200, .inr (.inr (.inr (.inr f3)))) ∧ g2 (n + 1232) = .inl (cA (n + 1232), 9, .inr (.inr (.inr (.inr f4)))) ∧ g2 (n + 1233) = .inl (cA (n + 1233), 3, .inr (.inl (fun _ => 0))) ∧ g2 (n + 1234) = .inl (cA (n + 1234), 3, .inl (fun _ => 0)) ∧ WF0 ad cA g2 (n + 1235) 26 ∧ WF0 ad cA g2 (n + 1237) 26 ∧ WF0 ad cA g2 (n + 1239) 26 ∧ (∀ j, j < 200 → f1 j = some (ad (n + 1229 + (12 + 6 * j)))) ∧ (∀ j, j < 200 → f2 j = some (ad (n + 1229 + (12 + 6 * j + 2)))) ∧ (∀ j, j < 200 → f3 j = some (ad (n + 1229 + (12 + 6 * j + 4)))) ∧ (∀ j, j < 9 → f4 j = some (ad (n + 1229 + (1212 + 2 * j)))) ∧ (∀ j, j < 200 → WF0 ad cA g2 (n + 1229 + (12 + 6 * j)) 26) ∧ (∀ j, j < 200 → WF0 ad cA g2 (n + 1229 + (12 + 6 * j + 2)) 26) ∧ (∀ j, j < 200 → WF0 ad cA g2 (n + 1229 + (12 + 6 * j + 4)) 13) ∧ (∀ j, j < 9 → WF0 ad cA g2 (n + 1229 + (1212 + 2 * j)) 13) ∧ g2 (n + 2459) = .inr (8, [.ref (ad (n + 2460)), .int (nI 0), .ref (ad (n + 11)), .ref (ad (n + 2461)), .ref (ad (n + 2462)), .ref (ad (n + 2463)), .ref (ad (n + 2464)), .ref (ad (n + 2465)), .int (nI 0)]) ∧ g2 (n + 2460) = .inl (cA (n + 2460), 250, .inl (fun _ => 0)) ∧ g2 (n + 2461) = .inl (cA (n + 2461), 200, .inl (fun _ => 0)) ∧ g2 (n + 2462) = .inl (cA (n + 2462), 250, .inl (fun _ => 0)) ∧ g2 (n + 2463) = .inl (cA (n + 2463), 250, .inl (fun _ => 0)) ∧ g2 (n + 2464) = .inl (cA (n + 2464), 135, .inl (fun _ => 0)) ∧ WF0 ad cA g2 (n + 2465) 13 ∧ g2 (n + 2467) = .inl (cA (n + 2467), 8, .inr (.inr (.inr (.inr fr)))) ∧ (∀ j, j < 8 → fr j = some (ad (n + (2468 + 5 * j)))) ∧ (∀ j, j < 8 → FF0 ad cA g2 (n + (2468 + 5 * j)) 64) ∧ FF0 ad cA g2 (n + 2508) 64 ∧ g2 (n + 2513) = .inl (cA (n + 2513), 8, .inl fn) ∧ (∀ j, j < 8 → fn j = -1) ∧ (∀ j, 8 ≤ j → fn j = 0) ∧ g2 (n + 2514) = .inl (cA (n + 2514), 3, .inl (fun _ => 0)) ∧ g2 (n + 2515) = .inl (cA (n + 2515), 3, .inl fb)) (fun (u : (Nat → va_E) × (Nat → Option Nat) × (Nat → Option Nat) × (Nat → Option Nat) × (Nat → Option Nat) × (Nat → Option Nat) × (Nat → Option Nat) × (Nat → Int32) × (Nat → Int32)) (t : State) => va_P (dC, dI) vwCl (wo ad (n + 2516) u.1) t.heap) A) ([.ref (ad tt)] : List Value).toArray s (2516) (140805) A) (F0 m 101 ls []) := by
    intro k9
    induction k9 with
    | zero => intro i fr g_138 fr_139 h9; exact absurd h9 (Nat.not_lt_zero _)
    | succ k9 ih_137 =>
      intro i fr g_138 fr_139 h9 hi hfr f_140 hRs H locs ls hP hS hl
      have hK := hKA (n + (2468 + 5 * i))
      have hD := hD0 (n + (2468 + 5 * i))
      refine lv_iload_n hx hb dX9_init_101 rfl (lv_at hl 1 rfl) ?_
      refine lv_bipush (v := nI 8) hx hb dX9_init_102 (by decide +kernel) ?_
      refine lv_icmp_ge (tgt := 128) hx hb dX9_init_104 (by decide) (fun c_141 => ?_) (fun c_141 => ?_)
      · have c_141 := (nI_leI (a := 8) (b := i) (by decide) (by omega)).mp c_141
        have hie : i = 8 := by omega
        rw [hie] at hfr hRs hP
        refine W.cs (cells' := 2508) (slots' := 140527) (by omega) (by omega) ?_
        have hP : va_P (dC, dI) vwCl (wo ad (n + 2508) g_138) H := hP
        have hK := hKA (n + 2508)
        have hD := hD0 (n + 2508)
        refine lv_aload_n hx hb dX9_init_128 rfl (lv_at hl 0 rfl) ?_
        refine w_size (fun hle => ?_)
        have hz_142 := sz_eq had hz0 hP hS hle
        refine m_new (ci := 5) (fs := [.null, .null]) (C := RX2) (T := TX2) (N := 2) hx hb hts bk13 tyX2 tyX2_ok hown (hts (.classLink RX9 57 RX2) (List.mem_of_getElem? (i := 38) rfl)) (hts (.instantiable RX2 2) (List.mem_of_getElem? (i := 40) rfl)) (hts (.initialized RX2) (List.mem_of_getElem? (i := 41) rfl)) hK hP hS hz_142 rfl (fun j hj => by rcases (show j = 0 ∨ j = 1 by omega) with rfl | rfl <;> rfl) (Nat.le_of_ble_eq_true rfl) (Nat.le_of_ble_eq_true rfl) dX9_init_129 (fun H g_143 f_144 fr_145 hP hS => ?_)
        refine W.cs (cells' := 2509) (slots' := 140529) (by omega) (by omega) ?_
        have hP : va_P (dC, dI) vwCl (wo ad (n + 2509) g_143) H := hP
        have hK := hKA (n + 2509)
        have hD := hD0 (n + 2509)
        refine lv_dup hx hb dX9_init_132 rfl ?_
        refine lv_bipush (v := nI 64) hx hb dX9_init_133 (by decide +kernel) ?_
        refine w_size (fun hle => ?_)
        have hz_149 := sz_eq had hz0 hP hS hle
        refine va_callv (va_runI (As := [.int (nI 64)]) (rest := [.ref (ad (n + 2508)), .ref (ad tt)]) ⟨hx, hb, hml, hown, hts⟩ (c_G2_init l dC dI A ad cA ty (n + 2509) g_143 (n + 2508) 64 (by omega) f_144 (by decide) (fun k hk => hty k (by omega))) (cwI 1 hts (goodIn_sub (fun w9 h9 => bk14 w9 h9) gw_G2_init) rfl rfl rfl (hts (.initialized RX2) (List.mem_of_getElem? (i := 41) rfl)) (hts (.methodLink RX9 63 yX2_init) (List.mem_of_getElem? (i := 42) rfl)) (hts (.instanceMethod yX2_init) (List.mem_of_getElem? (i := 43) rfl)) rfl (by decide +kernel) ⟨Nat.le_of_ble_eq_true rfl, Nat.le_of_ble_eq_true rfl⟩) ⟨fun a U g mk q => ⟨q.1, q.2.1, q.2.2.1, q.2.2.2.1, KK.same (u := U) (U := U.calling g mk a) rfl q.2.2.2.2⟩, fun U hU hW => ⟨rfl, by rw [hU]; exact fun q h => hA q (Nat.le_trans hS.1 h), by rw [hU]; exact hz_149, by rw [hU]; exact hP, KK.warm hW hKK⟩⟩ rfl rfl hl.1 rfl (lv_room (Nat.le_of_ble_eq_true rfl)) dX9_init_135 ⟨(Nat.le_of_ble_eq_true rfl), (Nat.le_of_ble_eq_true rfl)⟩) hS (fun q _ h => h) (fun q h => h) (fun u8 t8 H1 locs ht8 hvm8 hw_150 hB hz1 hk1 hS => ?_)
        obtain ⟨g_151, rfl⟩ : ∃ z, z = u8 := ⟨_, rfl⟩
        try dsimp only at hw_150 hB
        rw [ht8] at hB
        generalize H1 = H at hB hS ⊢
        obtain ⟨fr_152, hw_146, hw_147, hw_148⟩ := hw_150
        refine W.cs (cells' := 2513) (slots' := 140791) (by omega) (by omega) ?_
        have hP : va_P (dC, dI) vwCl (wo ad (n + 2513) g_151) H := hB
        have hK := hKA (n + 2513)
        have hD := hD0 (n + 2513)
        have f_153 : g_151 tt = .inr (12, [.ref (ad (n + 0)), .ref (ad (n + 9)), .ref (ad (n + 11)), .ref (ad (n + 1222)), .ref (ad (n + 1228)), .ref (ad (n + 2459)), .ref (ad (n + 2467)), .null, .null, .null, .null, .int (nI 0)]) := (fr_152 tt (by omega)).trans ((fr_145 tt (by omega)).trans ((fr_139 tt (by omega)).trans f_134))
        refine m_putF (D := (dC, dI)) (v := .ref (ad (n + 2508))) (tv := .object "GradientDesk$Fraction") (C := RX9) (T := TX9) (N := 12) hx hb hts bk2 tyX9 tyX9_ok nmX9 hown hK hP hD hS tt (by omega) f_153 rfl 7 (by decide) (hts (.fieldLink RX9 66 "GradientDesk" "spare" "LGradientDesk$Fraction;") (List.mem_of_getElem? (i := 44) rfl)) (fun _ h9 => h9) rfl hin rfl (by decide +kernel) rfl rfl (Nat.le_of_ble_eq_true rfl) dX9_init_138 (fun H locs g_154 f_155 fr_156 hP hS => ?_)
        have f_155 : g_154 tt = .inr (12, [.ref (ad (n + 0)), .ref (ad (n + 9)), .ref (ad (n + 11)), .ref (ad (n + 1222)), .ref (ad (n + 1228)), .ref (ad (n + 2459)), .ref (ad (n + 2467)), .ref (ad (n + 2508)), .null, .null, .null, .int (nI 0)]) := f_155
        refine lv_aload_n hx hb dX9_init_141 rfl (lv_at hl 0 rfl) ?_
        refine lv_bipush (v := nI 8) hx hb dX9_init_142 (by decide +kernel) ?_
        refine w_size (fun hle => ?_)
        have hz_157 := sz_eq had hz0 hP hS hle
        refine m_newa (atype := .int) (t := .int) (N' := 8) (a0 := (8, .inl (fun _ => 0))) hx hb (hts (.arrayClass .int) (List.mem_of_getElem? (i := 45) rfl)) rfl (hty _ (by omega)) (hKA _) hP hS hz_157 (fun _ => rfl) (nI_pos (by decide)) (nI_clamp (by decide)) (by decide) (Nat.le_of_ble_eq_true rfl) (Nat.le_of_ble_eq_true rfl) dX9_init_144 (fun H g_158 f_159 fr_160 hP hS => ?_)
        refine W.cs (cells' := 2514) (slots' := 140799) (by omega) (by omega) ?_
        have hP : va_P (dC, dI) vwCl (wo ad (n + 2514) g_158) H := hP
        have hK := hKA (n + 2514)
        have hD := hD0 (n + 2514)
        have f_161 : g_158 tt = .inr (12, [.ref (ad (n + 0)), .ref (ad (n + 9)), .ref (ad (n + 11)), .ref (ad (n + 1222)), .ref (ad (n + 1228)), .ref (ad (n + 2459)), .ref (ad (n + 2467)), .ref (ad (n + 2508)), .null, .null, .null, .int (nI 0)]) := (fr_160 tt (by omega)).trans f_155
        refine m_putF (D := (dC, dI)) (v := .ref (ad (n + 2513))) (tv := .array .int) (C := RX9) (T := TX9) (N := 12) hx hb hts bk2 tyX9 tyX9_ok nmX9 hown hK hP hD hS tt (by omega) f_161 rfl 8 (by decide) (hts (.fieldLink RX9 70 "GradientDesk" "names" "[I") (List.mem_of_getElem? (i := 46) rfl)) (fun _ h9 => h9) rfl hin rfl (by decide +kernel) rfl rfl (Nat.le_of_ble_eq_true rfl) dX9_init_146 (fun H locs g_162 f_163 fr_164 hP hS => ?_)
        have f_163 : g_162 tt = .inr (12, [.ref (ad (n + 0)), .ref (ad (n + 9)), .ref (ad (n + 11)), .ref (ad (n + 1222)), .ref (ad (n + 1228)), .ref (ad (n + 2459)), .ref (ad (n + 2467)), .ref (ad (n + 2508)), .ref (ad (n + 2513)), .null, .null, .int (nI 0)]) := f_163
        refine lv_aload_n hx hb dX9_init_149 rfl (lv_at hl 0 rfl) ?_
        refine m_get (D := (dC, dI)) (v := .ref (ad (n + 2513))) (C := RX9) (T := TX9) (N := 12) hx hb hts bk2 hown hK hP tt (by omega) f_163 rfl 8 (by decide) (hts (.fieldLink RX9 70 "GradientDesk" "names" "[I") (List.mem_of_getElem? (i := 46) rfl)) (fun _ h9 => h9) rfl dX9_init_150 ?_
        refine lv_iconst (v := -1) hx hb dX9_init_153 (by decide +kernel) ?_
        have f_168 : g_162 (n + 2513) = .inl (cA (n + 2513), 8, .inl (fun _ => 0)) := (fr_164 (n + 2513) (by omega)).trans f_159
        refine w_size (fun hle => ?_)
        have hz_169 := sz_eq had hz0 hP hS hle
        refine va_callv (va_runS (As := [.ref (ad (n + 2513)), .int (-1)]) (rest := []) ⟨hx, hb, hml, hown, hts⟩ (c_GF_fill l dC dI A ad cA ty (n + 2514) g_162 (n + 2513) 8 (fun _ => 0) (-1) (by omega) f_168 (hty _ (by omega)) (by decide)) (va_cwS 2 hts (goodIn_app (goodIn_r [Cond.methodLink RX9 74 yJ7_fill_53178, Cond.static yJ7_fill_53178, Cond.initialized RJ7] [47, 48, 49] rfl rfl) (goodIn_sub (fun w9 h9 => bk15 w9 h9) gw_GF_fill)) rfl rfl rfl (by decide +kernel) ⟨Nat.le_of_ble_eq_true rfl, Nat.le_of_ble_eq_true rfl⟩) ⟨fun a U g mk q => ⟨q.1, q.2.1, q.2.2.1, q.2.2.2.1, KK.same (u := U) (U := U.calling g mk a) rfl q.2.2.2.2⟩, fun U hU hW => ⟨rfl, by rw [hU]; exact fun q h => hA q (Nat.le_trans hS.1 h), by rw [hU]; exact hz_169, by rw [hU]; exact hP, KK.warm hW hKK⟩⟩ rfl rfl hl.1 rfl (lv_room (Nat.le_of_ble_eq_true rfl)) dX9_init_154 ⟨(Nat.le_of_ble_eq_true rfl), (Nat.le_of_ble_eq_true rfl)⟩) hS (fun q _ h => h) (fun q h => h) (fun u8 t8 H1 locs ht8 hvm8 hw_170 hB hz1 hk1 hS => ?_)
        obtain ⟨g_171, f2_172⟩ := u8
        try dsimp only at hw_170 hB
        rw [ht8] at hB
        generalize H1 = H at hB hS ⊢
        obtain ⟨fr_173, hw_165, hw_166, hw_167⟩ := hw_170
        refine W.cs (cells' := 2514) (slots' := 140799) (by omega) (by omega) ?_
        have hP : va_P (dC, dI) vwCl (wo ad (n + 2514) g_171) H := hB
        have hK := hKA (n + 2514)
        have hD := hD0 (n + 2514)
        refine lv_aload_n hx hb dX9_init_157 rfl (lv_at hl 0 rfl) ?_
        refine lv_iconst (v := nI 3) hx hb dX9_init_158 (by decide +kernel) ?_
        refine w_size (fun hle => ?_)
        have hz_174 := sz_eq had hz0 hP hS hle
        refine m_newa (atype := .int) (t := .int) (N' := 3) (a0 := (3, .inl (fun _ => 0))) hx hb (hts (.arrayClass .int) (List.mem_of_getElem? (i := 45) rfl)) rfl (hty _ (by omega)) (hKA _) hP hS hz_174 (fun _ => rfl) (nI_pos (by decide)) (nI_clamp (by decide)) (by decide) (Nat.le_of_ble_eq_true rfl) (Nat.le_of_ble_eq_true rfl) dX9_init_159 (fun H g_175 f_176 fr_177 hP hS => ?_)
        refine W.cs (cells' := 2515) (slots' := 140802) (by omega) (by omega) ?_
        have hP : va_P (dC, dI) vwCl (wo ad (n + 2515) g_175) H := hP
        have hK := hKA (n + 2515)
        have hD := hD0 (n + 2515)
        have f_178 : g_175 tt = .inr (12, [.ref (ad (n + 0)), .ref (ad (n + 9)), .ref (ad (n + 11)), .ref (ad (n + 1222)), .ref (ad (n + 1228)), .ref (ad (n + 2459)), .ref (ad (n + 2467)), .ref (ad (n + 2508)), .ref (ad (n + 2513)), .null, .null, .int (nI 0)]) := (fr_177 tt (by omega)).trans ((fr_173 tt (by omega)).trans f_163)
        refine m_putF (D := (dC, dI)) (v := .ref (ad (n + 2514))) (tv := .array .int) (C := RX9) (T := TX9) (N := 12) hx hb hts bk2 tyX9 tyX9_ok nmX9 hown hK hP hD hS tt (by omega) f_178 rfl 9 (by decide) (hts (.fieldLink RX9 80 "GradientDesk" "pointTops" "[I") (List.mem_of_getElem? (i := 50) rfl)) (fun _ h9 => h9) rfl hin rfl (by decide +kernel) rfl rfl (Nat.le_of_ble_eq_true rfl) dX9_init_161 (fun H locs g_179 f_180 fr_181 hP hS => ?_)
        have f_180 : g_179 tt = .inr (12, [.ref (ad (n + 0)), .ref (ad (n + 9)), .ref (ad (n + 11)), .ref (ad (n + 1222)), .ref (ad (n + 1228)), .ref (ad (n + 2459)), .ref (ad (n + 2467)), .ref (ad (n + 2508)), .ref (ad (n + 2513)), .ref (ad (n + 2514)), .null, .int (nI 0)]) := f_180
        refine lv_aload_n hx hb dX9_init_164 rfl (lv_at hl 0 rfl) ?_
        refine lv_iconst (v := nI 3) hx hb dX9_init_165 (by decide +kernel) ?_
        refine w_size (fun hle => ?_)
        have hz_182 := sz_eq had hz0 hP hS hle
        refine m_newa (atype := .int) (t := .int) (N' := 3) (a0 := (3, .inl (fun _ => 0))) hx hb (hts (.arrayClass .int) (List.mem_of_getElem? (i := 45) rfl)) rfl (hty _ (by omega)) (hKA _) hP hS hz_182 (fun _ => rfl) (nI_pos (by decide)) (nI_clamp (by decide)) (by decide) (Nat.le_of_ble_eq_true rfl) (Nat.le_of_ble_eq_true rfl) dX9_init_166 (fun H g_183 f_184 fr_185 hP hS => ?_)
        refine W.cs (cells' := 2516) (slots' := 140805) (by omega) (by omega) ?_
        have hP : va_P (dC, dI) vwCl (wo ad (n + 2516) g_183) H := hP
        have hK := hKA (n + 2516)
        have hD := hD0 (n + 2516)
        have f_186 : g_183 tt = .inr (12, [.ref (ad (n + 0)), .ref (ad (n + 9)), .ref (ad (n + 11)), .ref (ad (n + 1222)), .ref (ad (n + 1228)), .ref (ad (n + 2459)), .ref (ad (n + 2467)), .ref (ad (n + 2508)), .ref (ad (n + 2513)), .ref (ad (n + 2514)), .null, .int (nI 0)]) := (fr_185 tt (by omega)).trans f_180
        refine m_putF (D := (dC, dI)) (v := .ref (ad (n + 2515))) (tv := .array .int) (C := RX9) (T := TX9) (N := 12) hx hb hts bk2 tyX9 tyX9_ok nmX9 hown hK hP hD hS tt (by omega) f_186 rfl 10 (by decide) (hts (.fieldLink RX9 83 "GradientDesk" "pointBottoms" "[I") (List.mem_of_getElem? (i := 51) rfl)) (fun _ h9 => h9) rfl hin rfl (by decide +kernel) rfl rfl (Nat.le_of_ble_eq_true rfl) dX9_init_168 (fun H locs g_187 f_188 fr_189 hP hS => ?_)
        have f_188 : g_187 tt = .inr (12, [.ref (ad (n + 0)), .ref (ad (n + 9)), .ref (ad (n + 11)), .ref (ad (n + 1222)), .ref (ad (n + 1228)), .ref (ad (n + 2459)), .ref (ad (n + 2467)), .ref (ad (n + 2508)), .ref (ad (n + 2513)), .ref (ad (n + 2514)), .ref (ad (n + 2515)), .int (nI 0)]) := f_188
        refine lv_aload_n hx hb dX9_init_171 rfl (lv_at hl 0 rfl) ?_
        refine m_get (D := (dC, dI)) (v := .ref (ad (n + 2515))) (C := RX9) (T := TX9) (N := 12) hx hb hts bk2 hown hK hP tt (by omega) f_188 rfl 10 (by decide) (hts (.fieldLink RX9 83 "GradientDesk" "pointBottoms" "[I") (List.mem_of_getElem? (i := 51) rfl)) (fun _ h9 => h9) rfl dX9_init_172 ?_
        refine lv_iconst (v := nI 1) hx hb dX9_init_175 (by decide +kernel) ?_
        have f_193 : g_187 (n + 2515) = .inl (cA (n + 2515), 3, .inl (fun _ => 0)) := (fr_189 (n + 2515) (by omega)).trans f_184
        refine w_size (fun hle => ?_)
        have hz_194 := sz_eq had hz0 hP hS hle
        refine va_callv (va_runS (As := [.ref (ad (n + 2515)), .int (nI 1)]) (rest := []) ⟨hx, hb, hml, hown, hts⟩ (c_GF_fill l dC dI A ad cA ty (n + 2516) g_187 (n + 2515) 3 (fun _ => 0) (nI 1) (by omega) f_193 (hty _ (by omega)) (by decide)) (va_cwS 2 hts (goodIn_app (goodIn_r [Cond.methodLink RX9 74 yJ7_fill_53178, Cond.static yJ7_fill_53178, Cond.initialized RJ7] [47, 48, 49] rfl rfl) (goodIn_sub (fun w9 h9 => bk15 w9 h9) gw_GF_fill)) rfl rfl rfl (by decide +kernel) ⟨Nat.le_of_ble_eq_true rfl, Nat.le_of_ble_eq_true rfl⟩) ⟨fun a U g mk q => ⟨q.1, q.2.1, q.2.2.1, q.2.2.2.1, KK.same (u := U) (U := U.calling g mk a) rfl q.2.2.2.2⟩, fun U hU hW => ⟨rfl, by rw [hU]; exact fun q h => hA q (Nat.le_trans hS.1 h), by rw [hU]; exact hz_194, by rw [hU]; exact hP, KK.warm hW hKK⟩⟩ rfl rfl hl.1 rfl (lv_room (Nat.le_of_ble_eq_true rfl)) dX9_init_176 ⟨(Nat.le_of_ble_eq_true rfl), (Nat.le_of_ble_eq_true rfl)⟩) hS (fun q _ h => h) (fun q h => h) (fun u8 t8 H1 locs ht8 hvm8 hw_195 hB hz1 hk1 hS => ?_)
        obtain ⟨g_196, f2_197⟩ := u8
        try dsimp only at hw_195 hB
        rw [ht8] at hB
        generalize H1 = H at hB hS ⊢
        obtain ⟨fr_198, hw_190, hw_191, hw_192⟩ := hw_195
        refine W.cs (cells' := 2516) (slots' := 140805) (by omega) (by omega) ?_
        have hP : va_P (dC, dI) vwCl (wo ad (n + 2516) g_196) H := hB
        have hK := hKA (n + 2516)
        have hD := hD0 (n + 2516)
        refine lv_aload_n hx hb dX9_init_179 rfl (lv_at hl 0 rfl) ?_
        refine lv_iconst (v := -1) hx hb dX9_init_180 (by decide +kernel) ?_
        have f_199 : g_196 tt = .inr (12, [.ref (ad (n + 0)), .ref (ad (n + 9)), .ref (ad (n + 11)), .ref (ad (n + 1222)), .ref (ad (n + 1228)), .ref (ad (n + 2459)), .ref (ad (n + 2467)), .ref (ad (n + 2508)), .ref (ad (n + 2513)), .ref (ad (n + 2514)), .ref (ad (n + 2515)), .int (nI 0)]) := (fr_198 tt (by omega)).trans f_188
        refine m_put (D := (dC, dI)) (v := .int (-1)) (tv := .int) (C := RX9) (T := TX9) (N := 12) hx hb hts bk2 tyX9 tyX9_ok nmX9 hown hK hP hD hS tt (by omega) f_199 rfl 11 (by decide) (hts (.fieldLink RX9 86 "GradientDesk" "wrongPlace" "I") (List.mem_of_getElem? (i := 52) rfl)) (fun _ h9 => h9) rfl (by decide +kernel) rfl rfl (Nat.le_of_ble_eq_true rfl) dX9_init_181 (fun H locs g_200 f_201 fr_202 hP hS => ?_)
        have f_201 : g_200 tt = .inr (12, [.ref (ad (n + 0)), .ref (ad (n + 9)), .ref (ad (n + 11)), .ref (ad (n + 1222)), .ref (ad (n + 1228)), .ref (ad (n + 2459)), .ref (ad (n + 2467)), .ref (ad (n + 2508)), .ref (ad (n + 2513)), .ref (ad (n + 2514)), .ref (ad (n + 2515)), .int (-1)]) := f_201
        have f_203 : g_200 (n + 0) = .inr (3, [.ref (ad (n + 1)), .ref (ad (n + 3)), .ref (ad (n + 5)), .ref (ad (n + 7))]) := (fr_202 (n + 0) (by omega)).trans ((fr_198 (n + 0) (by omega)).trans ((fr_189 (n + 0) (by omega)).trans ((fr_185 (n + 0) (by omega)).trans ((fr_181 (n + 0) (by omega)).trans ((fr_177 (n + 0) (by omega)).trans ((fr_173 (n + 0) (by omega)).trans ((fr_164 (n + 0) (by omega)).trans ((fr_160 (n + 0) (by omega)).trans ((fr_156 (n + 0) (by omega)).trans ((fr_152 (n + 0) (by omega)).trans ((fr_145 (n + 0) (by omega)).trans ((fr_139 (n + 0) (by omega)).trans ((fr_135 (n + 0) (by omega)).trans ((fr_131 (n + 0) (by omega)).trans ((fr_127 (n + 0) (by omega)).trans ((fr_123 (n + 0) (by omega)).trans ((fr_111 (n + 0) (by omega)).trans ((fr_107 (n + 0) (by omega)).trans ((fr_103 (n + 0) (by omega)).trans ((fr_76 (n + 0) (by omega)).trans ((fr_72 (n + 0) (by omega)).trans ((fr_68 (n + 0) (by omega)).trans ((fr_57 (n + 0) (by omega)).trans ((fr_53 (n + 0) (by omega)).trans ((fr_49 (n + 0) (by omega)).trans ((fr_35 (n + 0) (by omega)).trans ((fr_31 (n + 0) (by omega)).trans ((fr_27 (n + 0) (by omega)).trans ((fr_21 (n + 0) (by omega)).trans ((fr_17 (n + 0) (by omega)).trans hw_5))))))))))))))))))))))))))))))
        have f_204 : g_200 (n + 9) = .inr (10, [.ref (ad (n + 10)), .int (nI 0), .int (nI 0), .int (nI 0), .int (nI 0)]) := (fr_202 (n + 9) (by omega)).trans ((fr_198 (n + 9) (by omega)).trans ((fr_189 (n + 9) (by omega)).trans ((fr_185 (n + 9) (by omega)).trans ((fr_181 (n + 9) (by omega)).trans ((fr_177 (n + 9) (by omega)).trans ((fr_173 (n + 9) (by omega)).trans ((fr_164 (n + 9) (by omega)).trans ((fr_160 (n + 9) (by omega)).trans ((fr_156 (n + 9) (by omega)).trans ((fr_152 (n + 9) (by omega)).trans ((fr_145 (n + 9) (by omega)).trans ((fr_139 (n + 9) (by omega)).trans ((fr_135 (n + 9) (by omega)).trans ((fr_131 (n + 9) (by omega)).trans ((fr_127 (n + 9) (by omega)).trans ((fr_123 (n + 9) (by omega)).trans ((fr_111 (n + 9) (by omega)).trans ((fr_107 (n + 9) (by omega)).trans ((fr_103 (n + 9) (by omega)).trans ((fr_76 (n + 9) (by omega)).trans ((fr_72 (n + 9) (by omega)).trans ((fr_68 (n + 9) (by omega)).trans ((fr_57 (n + 9) (by omega)).trans ((fr_53 (n + 9) (by omega)).trans ((fr_49 (n + 9) (by omega)).trans ((fr_35 (n + 9) (by omega)).trans ((fr_31 (n + 9) (by omega)).trans hw_22)))))))))))))))))))))))))))
        have f_205 : g_200 (n + 10) = .inl (cA (n + 10), 64, .inl (fun _ => 0)) := (fr_202 (n + 10) (by omega)).trans ((fr_198 (n + 10) (by omega)).trans ((fr_189 (n + 10) (by omega)).trans ((fr_185 (n + 10) (by omega)).trans ((fr_181 (n + 10) (by omega)).trans ((fr_177 (n + 10) (by omega)).trans ((fr_173 (n + 10) (by omega)).trans ((fr_164 (n + 10) (by omega)).trans ((fr_160 (n + 10) (by omega)).trans ((fr_156 (n + 10) (by omega)).trans ((fr_152 (n + 10) (by omega)).trans ((fr_145 (n + 10) (by omega)).trans ((fr_139 (n + 10) (by omega)).trans ((fr_135 (n + 10) (by omega)).trans ((fr_131 (n + 10) (by omega)).trans ((fr_127 (n + 10) (by omega)).trans ((fr_123 (n + 10) (by omega)).trans ((fr_111 (n + 10) (by omega)).trans ((fr_107 (n + 10) (by omega)).trans ((fr_103 (n + 10) (by omega)).trans ((fr_76 (n + 10) (by omega)).trans ((fr_72 (n + 10) (by omega)).trans ((fr_68 (n + 10) (by omega)).trans ((fr_57 (n + 10) (by omega)).trans ((fr_53 (n + 10) (by omega)).trans ((fr_49 (n + 10) (by omega)).trans ((fr_35 (n + 10) (by omega)).trans ((fr_31 (n + 10) (by omega)).trans hw_23)))))))))))))))))))))))))))
        have f_206 : g_200 (n + 11) = .inr (9, [.ref (ad (n + 12)), .ref (ad (n + 13)), .int (nI 0), .ref (ad (n + 14)), .ref (ad n), .ref (ad (n + 15)), .ref (ad (n + 20))]) := (fr_202 (n + 11) (by omega)).trans ((fr_198 (n + 11) (by omega)).trans ((fr_189 (n + 11) (by omega)).trans ((fr_185 (n + 11) (by omega)).trans ((fr_181 (n + 11) (by omega)).trans ((fr_177 (n + 11) (by omega)).trans ((fr_173 (n + 11) (by omega)).trans ((fr_164 (n + 11) (by omega)).trans ((fr_160 (n + 11) (by omega)).trans ((fr_156 (n + 11) (by omega)).trans ((fr_152 (n + 11) (by omega)).trans ((fr_145 (n + 11) (by omega)).trans ((fr_139 (n + 11) (by omega)).trans ((fr_135 (n + 11) (by omega)).trans ((fr_131 (n + 11) (by omega)).trans ((fr_127 (n + 11) (by omega)).trans ((fr_123 (n + 11) (by omega)).trans ((fr_111 (n + 11) (by omega)).trans ((fr_107 (n + 11) (by omega)).trans ((fr_103 (n + 11) (by omega)).trans ((fr_76 (n + 11) (by omega)).trans ((fr_72 (n + 11) (by omega)).trans ((fr_68 (n + 11) (by omega)).trans ((fr_57 (n + 11) (by omega)).trans ((fr_53 (n + 11) (by omega)).trans hw_37))))))))))))))))))))))))
        have f_207 : g_200 (n + 12) = .inl (cA (n + 12), 200, .inr (.inr (.inr (.inr fp_48)))) := (fr_202 (n + 12) (by omega)).trans ((fr_198 (n + 12) (by omega)).trans ((fr_189 (n + 12) (by omega)).trans ((fr_185 (n + 12) (by omega)).trans ((fr_181 (n + 12) (by omega)).trans ((fr_177 (n + 12) (by omega)).trans ((fr_173 (n + 12) (by omega)).trans ((fr_164 (n + 12) (by omega)).trans ((fr_160 (n + 12) (by omega)).trans ((fr_156 (n + 12) (by omega)).trans ((fr_152 (n + 12) (by omega)).trans ((fr_145 (n + 12) (by omega)).trans ((fr_139 (n + 12) (by omega)).trans ((fr_135 (n + 12) (by omega)).trans ((fr_131 (n + 12) (by omega)).trans ((fr_127 (n + 12) (by omega)).trans ((fr_123 (n + 12) (by omega)).trans ((fr_111 (n + 12) (by omega)).trans ((fr_107 (n + 12) (by omega)).trans ((fr_103 (n + 12) (by omega)).trans ((fr_76 (n + 12) (by omega)).trans ((fr_72 (n + 12) (by omega)).trans ((fr_68 (n + 12) (by omega)).trans ((fr_57 (n + 12) (by omega)).trans ((fr_53 (n + 12) (by omega)).trans hw_38))))))))))))))))))))))))
        have f_208 : g_200 (n + 13) = .inl (cA (n + 13), 200, .inl (fun _ => 0)) := (fr_202 (n + 13) (by omega)).trans ((fr_198 (n + 13) (by omega)).trans ((fr_189 (n + 13) (by omega)).trans ((fr_185 (n + 13) (by omega)).trans ((fr_181 (n + 13) (by omega)).trans ((fr_177 (n + 13) (by omega)).trans ((fr_173 (n + 13) (by omega)).trans ((fr_164 (n + 13) (by omega)).trans ((fr_160 (n + 13) (by omega)).trans ((fr_156 (n + 13) (by omega)).trans ((fr_152 (n + 13) (by omega)).trans ((fr_145 (n + 13) (by omega)).trans ((fr_139 (n + 13) (by omega)).trans ((fr_135 (n + 13) (by omega)).trans ((fr_131 (n + 13) (by omega)).trans ((fr_127 (n + 13) (by omega)).trans ((fr_123 (n + 13) (by omega)).trans ((fr_111 (n + 13) (by omega)).trans ((fr_107 (n + 13) (by omega)).trans ((fr_103 (n + 13) (by omega)).trans ((fr_76 (n + 13) (by omega)).trans ((fr_72 (n + 13) (by omega)).trans ((fr_68 (n + 13) (by omega)).trans ((fr_57 (n + 13) (by omega)).trans ((fr_53 (n + 13) (by omega)).trans hw_39))))))))))))))))))))))))
        have f_209 : g_200 (n + 14) = .inl (cA (n + 14), 200, .inl (fun _ => 0)) := (fr_202 (n + 14) (by omega)).trans ((fr_198 (n + 14) (by omega)).trans ((fr_189 (n + 14) (by omega)).trans ((fr_185 (n + 14) (by omega)).trans ((fr_181 (n + 14) (by omega)).trans ((fr_177 (n + 14) (by omega)).trans ((fr_173 (n + 14) (by omega)).trans ((fr_164 (n + 14) (by omega)).trans ((fr_160 (n + 14) (by omega)).trans ((fr_156 (n + 14) (by omega)).trans ((fr_152 (n + 14) (by omega)).trans ((fr_145 (n + 14) (by omega)).trans ((fr_139 (n + 14) (by omega)).trans ((fr_135 (n + 14) (by omega)).trans ((fr_131 (n + 14) (by omega)).trans ((fr_127 (n + 14) (by omega)).trans ((fr_123 (n + 14) (by omega)).trans ((fr_111 (n + 14) (by omega)).trans ((fr_107 (n + 14) (by omega)).trans ((fr_103 (n + 14) (by omega)).trans ((fr_76 (n + 14) (by omega)).trans ((fr_72 (n + 14) (by omega)).trans ((fr_68 (n + 14) (by omega)).trans ((fr_57 (n + 14) (by omega)).trans ((fr_53 (n + 14) (by omega)).trans hw_40))))))))))))))))))))))))
        have f_210 : g_200 (n + 1222) = .inr (7, [.ref (ad (n + 9)), .ref (ad (n + 11)), .ref (ad (n + 1223)), .ref (ad (n + 1224)), .ref (ad (n + 1225)), .ref (ad (n + 1226)), .ref (ad (n + 1227)), .int (nI 0), .int (nI 0), .int (nI 0)]) := (fr_202 (n + 1222) (by omega)).trans ((fr_198 (n + 1222) (by omega)).trans ((fr_189 (n + 1222) (by omega)).trans ((fr_185 (n + 1222) (by omega)).trans ((fr_181 (n + 1222) (by omega)).trans ((fr_177 (n + 1222) (by omega)).trans ((fr_173 (n + 1222) (by omega)).trans ((fr_164 (n + 1222) (by omega)).trans ((fr_160 (n + 1222) (by omega)).trans ((fr_156 (n + 1222) (by omega)).trans ((fr_152 (n + 1222) (by omega)).trans ((fr_145 (n + 1222) (by omega)).trans ((fr_139 (n + 1222) (by omega)).trans ((fr_135 (n + 1222) (by omega)).trans ((fr_131 (n + 1222) (by omega)).trans ((fr_127 (n + 1222) (by omega)).trans ((fr_123 (n + 1222) (by omega)).trans ((fr_111 (n + 1222) (by omega)).trans ((fr_107 (n + 1222) (by omega)).trans ((fr_103 (n + 1222) (by omega)).trans ((fr_76 (n + 1222) (by omega)).trans ((fr_72 (n + 1222) (by omega)).trans hw_59)))))))))))))))))))))
        have f_211 : g_200 (n + 1223) = .inl (cA (n + 1223), 64, .inl (fun _ => 0)) := (fr_202 (n + 1223) (by omega)).trans ((fr_198 (n + 1223) (by omega)).trans ((fr_189 (n + 1223) (by omega)).trans ((fr_185 (n + 1223) (by omega)).trans ((fr_181 (n + 1223) (by omega)).trans ((fr_177 (n + 1223) (by omega)).trans ((fr_173 (n + 1223) (by omega)).trans ((fr_164 (n + 1223) (by omega)).trans ((fr_160 (n + 1223) (by omega)).trans ((fr_156 (n + 1223) (by omega)).trans ((fr_152 (n + 1223) (by omega)).trans ((fr_145 (n + 1223) (by omega)).trans ((fr_139 (n + 1223) (by omega)).trans ((fr_135 (n + 1223) (by omega)).trans ((fr_131 (n + 1223) (by omega)).trans ((fr_127 (n + 1223) (by omega)).trans ((fr_123 (n + 1223) (by omega)).trans ((fr_111 (n + 1223) (by omega)).trans ((fr_107 (n + 1223) (by omega)).trans ((fr_103 (n + 1223) (by omega)).trans ((fr_76 (n + 1223) (by omega)).trans ((fr_72 (n + 1223) (by omega)).trans hw_60)))))))))))))))))))))
        have f_212 : g_200 (n + 1224) = .inl (cA (n + 1224), 128, .inl (fun _ => 0)) := (fr_202 (n + 1224) (by omega)).trans ((fr_198 (n + 1224) (by omega)).trans ((fr_189 (n + 1224) (by omega)).trans ((fr_185 (n + 1224) (by omega)).trans ((fr_181 (n + 1224) (by omega)).trans ((fr_177 (n + 1224) (by omega)).trans ((fr_173 (n + 1224) (by omega)).trans ((fr_164 (n + 1224) (by omega)).trans ((fr_160 (n + 1224) (by omega)).trans ((fr_156 (n + 1224) (by omega)).trans ((fr_152 (n + 1224) (by omega)).trans ((fr_145 (n + 1224) (by omega)).trans ((fr_139 (n + 1224) (by omega)).trans ((fr_135 (n + 1224) (by omega)).trans ((fr_131 (n + 1224) (by omega)).trans ((fr_127 (n + 1224) (by omega)).trans ((fr_123 (n + 1224) (by omega)).trans ((fr_111 (n + 1224) (by omega)).trans ((fr_107 (n + 1224) (by omega)).trans ((fr_103 (n + 1224) (by omega)).trans ((fr_76 (n + 1224) (by omega)).trans ((fr_72 (n + 1224) (by omega)).trans hw_61)))))))))))))))))))))
        have f_213 : g_200 (n + 1225) = .inl (cA (n + 1225), 128, .inl (fun _ => 0)) := (fr_202 (n + 1225) (by omega)).trans ((fr_198 (n + 1225) (by omega)).trans ((fr_189 (n + 1225) (by omega)).trans ((fr_185 (n + 1225) (by omega)).trans ((fr_181 (n + 1225) (by omega)).trans ((fr_177 (n + 1225) (by omega)).trans ((fr_173 (n + 1225) (by omega)).trans ((fr_164 (n + 1225) (by omega)).trans ((fr_160 (n + 1225) (by omega)).trans ((fr_156 (n + 1225) (by omega)).trans ((fr_152 (n + 1225) (by omega)).trans ((fr_145 (n + 1225) (by omega)).trans ((fr_139 (n + 1225) (by omega)).trans ((fr_135 (n + 1225) (by omega)).trans ((fr_131 (n + 1225) (by omega)).trans ((fr_127 (n + 1225) (by omega)).trans ((fr_123 (n + 1225) (by omega)).trans ((fr_111 (n + 1225) (by omega)).trans ((fr_107 (n + 1225) (by omega)).trans ((fr_103 (n + 1225) (by omega)).trans ((fr_76 (n + 1225) (by omega)).trans ((fr_72 (n + 1225) (by omega)).trans hw_62)))))))))))))))))))))
        have f_214 : g_200 (n + 1226) = .inl (cA (n + 1226), 128, .inl (fun _ => 0)) := (fr_202 (n + 1226) (by omega)).trans ((fr_198 (n + 1226) (by omega)).trans ((fr_189 (n + 1226) (by omega)).trans ((fr_185 (n + 1226) (by omega)).trans ((fr_181 (n + 1226) (by omega)).trans ((fr_177 (n + 1226) (by omega)).trans ((fr_173 (n + 1226) (by omega)).trans ((fr_164 (n + 1226) (by omega)).trans ((fr_160 (n + 1226) (by omega)).trans ((fr_156 (n + 1226) (by omega)).trans ((fr_152 (n + 1226) (by omega)).trans ((fr_145 (n + 1226) (by omega)).trans ((fr_139 (n + 1226) (by omega)).trans ((fr_135 (n + 1226) (by omega)).trans ((fr_131 (n + 1226) (by omega)).trans ((fr_127 (n + 1226) (by omega)).trans ((fr_123 (n + 1226) (by omega)).trans ((fr_111 (n + 1226) (by omega)).trans ((fr_107 (n + 1226) (by omega)).trans ((fr_103 (n + 1226) (by omega)).trans ((fr_76 (n + 1226) (by omega)).trans ((fr_72 (n + 1226) (by omega)).trans hw_63)))))))))))))))))))))
        have f_215 : g_200 (n + 1227) = .inl (cA (n + 1227), 128, .inl (fun _ => 0)) := (fr_202 (n + 1227) (by omega)).trans ((fr_198 (n + 1227) (by omega)).trans ((fr_189 (n + 1227) (by omega)).trans ((fr_185 (n + 1227) (by omega)).trans ((fr_181 (n + 1227) (by omega)).trans ((fr_177 (n + 1227) (by omega)).trans ((fr_173 (n + 1227) (by omega)).trans ((fr_164 (n + 1227) (by omega)).trans ((fr_160 (n + 1227) (by omega)).trans ((fr_156 (n + 1227) (by omega)).trans ((fr_152 (n + 1227) (by omega)).trans ((fr_145 (n + 1227) (by omega)).trans ((fr_139 (n + 1227) (by omega)).trans ((fr_135 (n + 1227) (by omega)).trans ((fr_131 (n + 1227) (by omega)).trans ((fr_127 (n + 1227) (by omega)).trans ((fr_123 (n + 1227) (by omega)).trans ((fr_111 (n + 1227) (by omega)).trans ((fr_107 (n + 1227) (by omega)).trans ((fr_103 (n + 1227) (by omega)).trans ((fr_76 (n + 1227) (by omega)).trans ((fr_72 (n + 1227) (by omega)).trans hw_64)))))))))))))))))))))
        have f_216 : g_200 (n + 1228) = .inr (4, [.ref (ad (n + 11)), .ref (ad (n + 1229)), .ref (ad (n + 1230)), .ref (ad (n + 1231)), .ref (ad (n + 1232)), .ref (ad (n + 1233)), .ref (ad (n + 1234)), .ref (ad (n + 1235)), .ref (ad (n + 1237)), .ref (ad (n + 1239))]) := (fr_202 (n + 1228) (by omega)).trans ((fr_198 (n + 1228) (by omega)).trans ((fr_189 (n + 1228) (by omega)).trans ((fr_185 (n + 1228) (by omega)).trans ((fr_181 (n + 1228) (by omega)).trans ((fr_177 (n + 1228) (by omega)).trans ((fr_173 (n + 1228) (by omega)).trans ((fr_164 (n + 1228) (by omega)).trans ((fr_160 (n + 1228) (by omega)).trans ((fr_156 (n + 1228) (by omega)).trans ((fr_152 (n + 1228) (by omega)).trans ((fr_145 (n + 1228) (by omega)).trans ((fr_139 (n + 1228) (by omega)).trans ((fr_135 (n + 1228) (by omega)).trans ((fr_131 (n + 1228) (by omega)).trans ((fr_127 (n + 1228) (by omega)).trans ((fr_123 (n + 1228) (by omega)).trans ((fr_111 (n + 1228) (by omega)).trans ((fr_107 (n + 1228) (by omega)).trans hw_78))))))))))))))))))
        have f_217 : g_200 (n + 1229) = .inl (cA (n + 1229), 200, .inr (.inr (.inr (.inr f1_99)))) := (fr_202 (n + 1229) (by omega)).trans ((fr_198 (n + 1229) (by omega)).trans ((fr_189 (n + 1229) (by omega)).trans ((fr_185 (n + 1229) (by omega)).trans ((fr_181 (n + 1229) (by omega)).trans ((fr_177 (n + 1229) (by omega)).trans ((fr_173 (n + 1229) (by omega)).trans ((fr_164 (n + 1229) (by omega)).trans ((fr_160 (n + 1229) (by omega)).trans ((fr_156 (n + 1229) (by omega)).trans ((fr_152 (n + 1229) (by omega)).trans ((fr_145 (n + 1229) (by omega)).trans ((fr_139 (n + 1229) (by omega)).trans ((fr_135 (n + 1229) (by omega)).trans ((fr_131 (n + 1229) (by omega)).trans ((fr_127 (n + 1229) (by omega)).trans ((fr_123 (n + 1229) (by omega)).trans ((fr_111 (n + 1229) (by omega)).trans ((fr_107 (n + 1229) (by omega)).trans hw_79))))))))))))))))))
        have f_218 : g_200 (n + 1230) = .inl (cA (n + 1230), 200, .inr (.inr (.inr (.inr f2_100)))) := (fr_202 (n + 1230) (by omega)).trans ((fr_198 (n + 1230) (by omega)).trans ((fr_189 (n + 1230) (by omega)).trans ((fr_185 (n + 1230) (by omega)).trans ((fr_181 (n + 1230) (by omega)).trans ((fr_177 (n + 1230) (by omega)).trans ((fr_173 (n + 1230) (by omega)).trans ((fr_164 (n + 1230) (by omega)).trans ((fr_160 (n + 1230) (by omega)).trans ((fr_156 (n + 1230) (by omega)).trans ((fr_152 (n + 1230) (by omega)).trans ((fr_145 (n + 1230) (by omega)).trans ((fr_139 (n + 1230) (by omega)).trans ((fr_135 (n + 1230) (by omega)).trans ((fr_131 (n + 1230) (by omega)).trans ((fr_127 (n + 1230) (by omega)).trans ((fr_123 (n + 1230) (by omega)).trans ((fr_111 (n + 1230) (by omega)).trans ((fr_107 (n + 1230) (by omega)).trans hw_80))))))))))))))))))
        have f_219 : g_200 (n + 1231) = .inl (cA (n + 1231), 200, .inr (.inr (.inr (.inr f3_101)))) := (fr_202 (n + 1231) (by omega)).trans ((fr_198 (n + 1231) (by omega)).trans ((fr_189 (n + 1231) (by omega)).trans ((fr_185 (n + 1231) (by omega)).trans ((fr_181 (n + 1231) (by omega)).trans ((fr_177 (n + 1231) (by omega)).trans ((fr_173 (n + 1231) (by omega)).trans ((fr_164 (n + 1231) (by omega)).trans ((fr_160 (n + 1231) (by omega)).trans ((fr_156 (n + 1231) (by omega)).trans ((fr_152 (n + 1231) (by omega)).trans ((fr_145 (n + 1231) (by omega)).trans ((fr_139 (n + 1231) (by omega)).trans ((fr_135 (n + 1231) (by omega)).trans ((fr_131 (n + 1231) (by omega)).trans ((fr_127 (n + 1231) (by omega)).trans ((fr_123 (n + 1231) (by omega)).trans ((fr_111 (n + 1231) (by omega)).trans ((fr_107 (n + 1231) (by omega)).trans hw_81))))))))))))))))))
        have f_220 : g_200 (n + 1232) = .inl (cA (n + 1232), 9, .inr (.inr (.inr (.inr f4_102)))) := (fr_202 (n + 1232) (by omega)).trans ((fr_198 (n + 1232) (by omega)).trans ((fr_189 (n + 1232) (by omega)).trans ((fr_185 (n + 1232) (by omega)).trans ((fr_181 (n + 1232) (by omega)).trans ((fr_177 (n + 1232) (by omega)).trans ((fr_173 (n + 1232) (by omega)).trans ((fr_164 (n + 1232) (by omega)).trans ((fr_160 (n + 1232) (by omega)).trans ((fr_156 (n + 1232) (by omega)).trans ((fr_152 (n + 1232) (by omega)).trans ((fr_145 (n + 1232) (by omega)).trans ((fr_139 (n + 1232) (by omega)).trans ((fr_135 (n + 1232) (by omega)).trans ((fr_131 (n + 1232) (by omega)).trans ((fr_127 (n + 1232) (by omega)).trans ((fr_123 (n + 1232) (by omega)).trans ((fr_111 (n + 1232) (by omega)).trans ((fr_107 (n + 1232) (by omega)).trans hw_82))))))))))))))))))
        have f_221 : g_200 (n + 1233) = .inl (cA (n + 1233), 3, .inr (.inl (fun _ => 0))) := (fr_202 (n + 1233) (by omega)).trans ((fr_198 (n + 1233) (by omega)).trans ((fr_189 (n + 1233) (by omega)).trans ((fr_185 (n + 1233) (by omega)).trans ((fr_181 (n + 1233) (by omega)).trans ((fr_177 (n + 1233) (by omega)).trans ((fr_173 (n + 1233) (by omega)).trans ((fr_164 (n + 1233) (by omega)).trans ((fr_160 (n + 1233) (by omega)).trans ((fr_156 (n + 1233) (by omega)).trans ((fr_152 (n + 1233) (by omega)).trans ((fr_145 (n + 1233) (by omega)).trans ((fr_139 (n + 1233) (by omega)).trans ((fr_135 (n + 1233) (by omega)).trans ((fr_131 (n + 1233) (by omega)).trans ((fr_127 (n + 1233) (by omega)).trans ((fr_123 (n + 1233) (by omega)).trans ((fr_111 (n + 1233) (by omega)).trans ((fr_107 (n + 1233) (by omega)).trans hw_83))))))))))))))))))
        have f_222 : g_200 (n + 1234) = .inl (cA (n + 1234), 3, .inl (fun _ => 0)) := (fr_202 (n + 1234) (by omega)).trans ((fr_198 (n + 1234) (by omega)).trans ((fr_189 (n + 1234) (by omega)).trans ((fr_185 (n + 1234) (by omega)).trans ((fr_181 (n + 1234) (by omega)).trans ((fr_177 (n + 1234) (by omega)).trans ((fr_173 (n + 1234) (by omega)).trans ((fr_164 (n + 1234) (by omega)).trans ((fr_160 (n + 1234) (by omega)).trans ((fr_156 (n + 1234) (by omega)).trans ((fr_152 (n + 1234) (by omega)).trans ((fr_145 (n + 1234) (by omega)).trans ((fr_139 (n + 1234) (by omega)).trans ((fr_135 (n + 1234) (by omega)).trans ((fr_131 (n + 1234) (by omega)).trans ((fr_127 (n + 1234) (by omega)).trans ((fr_123 (n + 1234) (by omega)).trans ((fr_111 (n + 1234) (by omega)).trans ((fr_107 (n + 1234) (by omega)).trans hw_84))))))))))))))))))
        have f_223 : g_200 (n + 2459) = .inr (8, [.ref (ad (n + 2460)), .int (nI 0), .ref (ad (n + 11)), .ref (ad (n + 2461)), .ref (ad (n + 2462)), .ref (ad (n + 2463)), .ref (ad (n + 2464)), .ref (ad (n + 2465)), .int (nI 0)]) := (fr_202 (n + 2459) (by omega)).trans ((fr_198 (n + 2459) (by omega)).trans ((fr_189 (n + 2459) (by omega)).trans ((fr_185 (n + 2459) (by omega)).trans ((fr_181 (n + 2459) (by omega)).trans ((fr_177 (n + 2459) (by omega)).trans ((fr_173 (n + 2459) (by omega)).trans ((fr_164 (n + 2459) (by omega)).trans ((fr_160 (n + 2459) (by omega)).trans ((fr_156 (n + 2459) (by omega)).trans ((fr_152 (n + 2459) (by omega)).trans ((fr_145 (n + 2459) (by omega)).trans ((fr_139 (n + 2459) (by omega)).trans ((fr_135 (n + 2459) (by omega)).trans ((fr_131 (n + 2459) (by omega)).trans ((fr_127 (n + 2459) (by omega)).trans hw_113)))))))))))))))
        have f_224 : g_200 (n + 2460) = .inl (cA (n + 2460), 250, .inl (fun _ => 0)) := (fr_202 (n + 2460) (by omega)).trans ((fr_198 (n + 2460) (by omega)).trans ((fr_189 (n + 2460) (by omega)).trans ((fr_185 (n + 2460) (by omega)).trans ((fr_181 (n + 2460) (by omega)).trans ((fr_177 (n + 2460) (by omega)).trans ((fr_173 (n + 2460) (by omega)).trans ((fr_164 (n + 2460) (by omega)).trans ((fr_160 (n + 2460) (by omega)).trans ((fr_156 (n + 2460) (by omega)).trans ((fr_152 (n + 2460) (by omega)).trans ((fr_145 (n + 2460) (by omega)).trans ((fr_139 (n + 2460) (by omega)).trans ((fr_135 (n + 2460) (by omega)).trans ((fr_131 (n + 2460) (by omega)).trans ((fr_127 (n + 2460) (by omega)).trans hw_114)))))))))))))))
        have f_225 : g_200 (n + 2461) = .inl (cA (n + 2461), 200, .inl (fun _ => 0)) := (fr_202 (n + 2461) (by omega)).trans ((fr_198 (n + 2461) (by omega)).trans ((fr_189 (n + 2461) (by omega)).trans ((fr_185 (n + 2461) (by omega)).trans ((fr_181 (n + 2461) (by omega)).trans ((fr_177 (n + 2461) (by omega)).trans ((fr_173 (n + 2461) (by omega)).trans ((fr_164 (n + 2461) (by omega)).trans ((fr_160 (n + 2461) (by omega)).trans ((fr_156 (n + 2461) (by omega)).trans ((fr_152 (n + 2461) (by omega)).trans ((fr_145 (n + 2461) (by omega)).trans ((fr_139 (n + 2461) (by omega)).trans ((fr_135 (n + 2461) (by omega)).trans ((fr_131 (n + 2461) (by omega)).trans ((fr_127 (n + 2461) (by omega)).trans hw_115)))))))))))))))
        have f_226 : g_200 (n + 2462) = .inl (cA (n + 2462), 250, .inl (fun _ => 0)) := (fr_202 (n + 2462) (by omega)).trans ((fr_198 (n + 2462) (by omega)).trans ((fr_189 (n + 2462) (by omega)).trans ((fr_185 (n + 2462) (by omega)).trans ((fr_181 (n + 2462) (by omega)).trans ((fr_177 (n + 2462) (by omega)).trans ((fr_173 (n + 2462) (by omega)).trans ((fr_164 (n + 2462) (by omega)).trans ((fr_160 (n + 2462) (by omega)).trans ((fr_156 (n + 2462) (by omega)).trans ((fr_152 (n + 2462) (by omega)).trans ((fr_145 (n + 2462) (by omega)).trans ((fr_139 (n + 2462) (by omega)).trans ((fr_135 (n + 2462) (by omega)).trans ((fr_131 (n + 2462) (by omega)).trans ((fr_127 (n + 2462) (by omega)).trans hw_116)))))))))))))))
        have f_227 : g_200 (n + 2463) = .inl (cA (n + 2463), 250, .inl (fun _ => 0)) := (fr_202 (n + 2463) (by omega)).trans ((fr_198 (n + 2463) (by omega)).trans ((fr_189 (n + 2463) (by omega)).trans ((fr_185 (n + 2463) (by omega)).trans ((fr_181 (n + 2463) (by omega)).trans ((fr_177 (n + 2463) (by omega)).trans ((fr_173 (n + 2463) (by omega)).trans ((fr_164 (n + 2463) (by omega)).trans ((fr_160 (n + 2463) (by omega)).trans ((fr_156 (n + 2463) (by omega)).trans ((fr_152 (n + 2463) (by omega)).trans ((fr_145 (n + 2463) (by omega)).trans ((fr_139 (n + 2463) (by omega)).trans ((fr_135 (n + 2463) (by omega)).trans ((fr_131 (n + 2463) (by omega)).trans ((fr_127 (n + 2463) (by omega)).trans hw_117)))))))))))))))
        have f_228 : g_200 (n + 2464) = .inl (cA (n + 2464), 135, .inl (fun _ => 0)) := (fr_202 (n + 2464) (by omega)).trans ((fr_198 (n + 2464) (by omega)).trans ((fr_189 (n + 2464) (by omega)).trans ((fr_185 (n + 2464) (by omega)).trans ((fr_181 (n + 2464) (by omega)).trans ((fr_177 (n + 2464) (by omega)).trans ((fr_173 (n + 2464) (by omega)).trans ((fr_164 (n + 2464) (by omega)).trans ((fr_160 (n + 2464) (by omega)).trans ((fr_156 (n + 2464) (by omega)).trans ((fr_152 (n + 2464) (by omega)).trans ((fr_145 (n + 2464) (by omega)).trans ((fr_139 (n + 2464) (by omega)).trans ((fr_135 (n + 2464) (by omega)).trans ((fr_131 (n + 2464) (by omega)).trans ((fr_127 (n + 2464) (by omega)).trans hw_118)))))))))))))))
        have f_229 : g_200 (n + 2467) = .inl (cA (n + 2467), 8, .inr (.inr (.inr (.inr fr)))) := (fr_202 (n + 2467) (by omega)).trans ((fr_198 (n + 2467) (by omega)).trans ((fr_189 (n + 2467) (by omega)).trans ((fr_185 (n + 2467) (by omega)).trans ((fr_181 (n + 2467) (by omega)).trans ((fr_177 (n + 2467) (by omega)).trans ((fr_173 (n + 2467) (by omega)).trans ((fr_164 (n + 2467) (by omega)).trans ((fr_160 (n + 2467) (by omega)).trans ((fr_156 (n + 2467) (by omega)).trans ((fr_152 (n + 2467) (by omega)).trans ((fr_145 (n + 2467) (by omega)).trans f_140)))))))))))
        have f_230 : g_200 (n + 2508) = .inr (5, [.ref (ad (n + 2509)), .ref (ad (n + 2509 + 2))]) := (fr_202 (n + 2508) (by omega)).trans ((fr_198 (n + 2508) (by omega)).trans ((fr_189 (n + 2508) (by omega)).trans ((fr_185 (n + 2508) (by omega)).trans ((fr_181 (n + 2508) (by omega)).trans ((fr_177 (n + 2508) (by omega)).trans ((fr_173 (n + 2508) (by omega)).trans ((fr_164 (n + 2508) (by omega)).trans ((fr_160 (n + 2508) (by omega)).trans ((fr_156 (n + 2508) (by omega)).trans hw_146)))))))))
        have f_231 : g_200 (n + 2513) = .inl (cA (n + 2513), 8, .inl f2_172) := (fr_202 (n + 2513) (by omega)).trans ((fr_198 (n + 2513) (by omega)).trans ((fr_189 (n + 2513) (by omega)).trans ((fr_185 (n + 2513) (by omega)).trans ((fr_181 (n + 2513) (by omega)).trans ((fr_177 (n + 2513) (by omega)).trans hw_165)))))
        have f_232 : g_200 (n + 2514) = .inl (cA (n + 2514), 3, .inl (fun _ => 0)) := (fr_202 (n + 2514) (by omega)).trans ((fr_198 (n + 2514) (by omega)).trans ((fr_189 (n + 2514) (by omega)).trans ((fr_185 (n + 2514) (by omega)).trans ((fr_181 (n + 2514) (by omega)).trans f_176))))
        have f_233 : g_200 (n + 2515) = .inl (cA (n + 2515), 3, .inl f2_197) := (fr_202 (n + 2515) (by omega)).trans hw_190
        refine W.widen (k := 2516) (n := 140805) (by omega) (by omega) ?_
        have hP : va_P (dC, dI) vwCl (wo ad (n + 2516) g_200) H := hP
        exact W.vret hx hb hr (fun t9 ht9 hW9 => ⟨⟨(g_200, fp_48, f1_99, f2_100, f3_101, f4_102, fr, f2_172, f2_197), rfl, ⟨(fun (k : Nat) (hk : k < n ∧ k ≠ tt) => (fr_202 k (by omega)).trans ((fr_198 k (by omega)).trans ((fr_189 k (by omega)).trans ((fr_185 k (by omega)).trans ((fr_181 k (by omega)).trans ((fr_177 k (by omega)).trans ((fr_173 k (by omega)).trans ((fr_164 k (by omega)).trans ((fr_160 k (by omega)).trans ((fr_156 k (by omega)).trans ((fr_152 k (by omega)).trans ((fr_145 k (by omega)).trans ((fr_139 k (by omega)).trans ((fr_135 k (by omega)).trans ((fr_131 k (by omega)).trans ((fr_127 k (by omega)).trans ((fr_123 k (by omega)).trans ((fr_111 k (by omega)).trans ((fr_107 k (by omega)).trans ((fr_103 k (by omega)).trans ((fr_76 k (by omega)).trans ((fr_72 k (by omega)).trans ((fr_68 k (by omega)).trans ((fr_57 k (by omega)).trans ((fr_53 k (by omega)).trans ((fr_49 k (by omega)).trans ((fr_35 k (by omega)).trans ((fr_31 k (by omega)).trans ((fr_27 k (by omega)).trans ((fr_21 k (by omega)).trans ((fr_17 k (by omega)).trans ((fr_13 k (by omega)).trans ((fr_4 k (by omega)).trans (rfl)))))))))))))))))))))))))))))))))), f_201, f_203, (hv_6.same (fun (k : Nat) (hk : n + 1 ≤ k ∧ k < n + 1 + 2) => (fr_202 k (by omega)).trans ((fr_198 k (by omega)).trans ((fr_189 k (by omega)).trans ((fr_185 k (by omega)).trans ((fr_181 k (by omega)).trans ((fr_177 k (by omega)).trans ((fr_173 k (by omega)).trans ((fr_164 k (by omega)).trans ((fr_160 k (by omega)).trans ((fr_156 k (by omega)).trans ((fr_152 k (by omega)).trans ((fr_145 k (by omega)).trans ((fr_139 k (by omega)).trans ((fr_135 k (by omega)).trans ((fr_131 k (by omega)).trans ((fr_127 k (by omega)).trans ((fr_123 k (by omega)).trans ((fr_111 k (by omega)).trans ((fr_107 k (by omega)).trans ((fr_103 k (by omega)).trans ((fr_76 k (by omega)).trans ((fr_72 k (by omega)).trans ((fr_68 k (by omega)).trans ((fr_57 k (by omega)).trans ((fr_53 k (by omega)).trans ((fr_49 k (by omega)).trans ((fr_35 k (by omega)).trans ((fr_31 k (by omega)).trans ((fr_27 k (by omega)).trans ((fr_21 k (by omega)).trans ((fr_17 k (by omega)).trans (rfl))))))))))))))))))))))))))))))))), (hv_7.same (fun (k : Nat) (hk : n + 3 ≤ k ∧ k < n + 3 + 2) => (fr_202 k (by omega)).trans ((fr_198 k (by omega)).trans ((fr_189 k (by omega)).trans ((fr_185 k (by omega)).trans ((fr_181 k (by omega)).trans ((fr_177 k (by omega)).trans ((fr_173 k (by omega)).trans ((fr_164 k (by omega)).trans ((fr_160 k (by omega)).trans ((fr_156 k (by omega)).trans ((fr_152 k (by omega)).trans ((fr_145 k (by omega)).trans ((fr_139 k (by omega)).trans ((fr_135 k (by omega)).trans ((fr_131 k (by omega)).trans ((fr_127 k (by omega)).trans ((fr_123 k (by omega)).trans ((fr_111 k (by omega)).trans ((fr_107 k (by omega)).trans ((fr_103 k (by omega)).trans ((fr_76 k (by omega)).trans ((fr_72 k (by omega)).trans ((fr_68 k (by omega)).trans ((fr_57 k (by omega)).trans ((fr_53 k (by omega)).trans ((fr_49 k (by omega)).trans ((fr_35 k (by omega)).trans ((fr_31 k (by omega)).trans ((fr_27 k (by omega)).trans ((fr_21 k (by omega)).trans ((fr_17 k (by omega)).trans (rfl))))))))))))))))))))))))))))))))), (hv_8.same (fun (k : Nat) (hk : n + 5 ≤ k ∧ k < n + 5 + 2) => (fr_202 k (by omega)).trans ((fr_198 k (by omega)).trans ((fr_189 k (by omega)).trans ((fr_185 k (by omega)).trans ((fr_181 k (by omega)).trans ((fr_177 k (by omega)).trans ((fr_173 k (by omega)).trans ((fr_164 k (by omega)).trans ((fr_160 k (by omega)).trans ((fr_156 k (by omega)).trans ((fr_152 k (by omega)).trans ((fr_145 k (by omega)).trans ((fr_139 k (by omega)).trans ((fr_135 k (by omega)).trans ((fr_131 k (by omega)).trans ((fr_127 k (by omega)).trans ((fr_123 k (by omega)).trans ((fr_111 k (by omega)).trans ((fr_107 k (by omega)).trans ((fr_103 k (by omega)).trans ((fr_76 k (by omega)).trans ((fr_72 k (by omega)).trans ((fr_68 k (by omega)).trans ((fr_57 k (by omega)).trans ((fr_53 k (by omega)).trans ((fr_49 k (by omega)).trans ((fr_35 k (by omega)).trans ((fr_31 k (by omega)).trans ((fr_27 k (by omega)).trans ((fr_21 k (by omega)).trans ((fr_17 k (by omega)).trans (rfl))))))))))))))))))))))))))))))))), (hv_9.same (fun (k : Nat) (hk : n + 7 ≤ k ∧ k < n + 7 + 2) => (fr_202 k (by omega)).trans ((fr_198 k (by omega)).trans ((fr_189 k (by omega)).trans ((fr_185 k (by omega)).trans ((fr_181 k (by omega)).trans ((fr_177 k (by omega)).trans ((fr_173 k (by omega)).trans ((fr_164 k (by omega)).trans ((fr_160 k (by omega)).trans ((fr_156 k (by omega)).trans ((fr_152 k (by omega)).trans ((fr_145 k (by omega)).trans ((fr_139 k (by omega)).trans ((fr_135 k (by omega)).trans ((fr_131 k (by omega)).trans ((fr_127 k (by omega)).trans ((fr_123 k (by omega)).trans ((fr_111 k (by omega)).trans ((fr_107 k (by omega)).trans ((fr_103 k (by omega)).trans ((fr_76 k (by omega)).trans ((fr_72 k (by omega)).trans ((fr_68 k (by omega)).trans ((fr_57 k (by omega)).trans ((fr_53 k (by omega)).trans ((fr_49 k (by omega)).trans ((fr_35 k (by omega)).trans ((fr_31 k (by omega)).trans ((fr_27 k (by omega)).trans ((fr_21 k (by omega)).trans ((fr_17 k (by omega)).trans (rfl))))))))))))))))))))))))))))))))), f_204, f_205, f_206, f_207, hv_41, f_208, f_209, (hv_42.same (fun (k : Nat) (hk : n + 15 ≤ k ∧ k < n + 15 + 5) => (fr_202 k (by omega)).trans ((fr_198 k (by omega)).trans ((fr_189 k (by omega)).trans ((fr_185 k (by omega)).trans ((fr_181 k (by omega)).trans ((fr_177 k (by omega)).trans ((fr_173 k (by omega)).trans ((fr_164 k (by omega)).trans ((fr_160 k (by omega)).trans ((fr_156 k (by omega)).trans ((fr_152 k (by omega)).trans ((fr_145 k (by omega)).trans ((fr_139 k (by omega)).trans ((fr_135 k (by omega)).trans ((fr_131 k (by omega)).trans ((fr_127 k (by omega)).trans ((fr_123 k (by omega)).trans ((fr_111 k (by omega)).trans ((fr_107 k (by omega)).trans ((fr_103 k (by omega)).trans ((fr_76 k (by omega)).trans ((fr_72 k (by omega)).trans ((fr_68 k (by omega)).trans ((fr_57 k (by omega)).trans ((fr_53 k (by omega)).trans (rfl))))))))))))))))))))))))))), (hv_43.same (fun (k : Nat) (hk : n + 20 ≤ k ∧ k < n + 20 + 2) => (fr_202 k (by omega)).trans ((fr_198 k (by omega)).trans ((fr_189 k (by omega)).trans ((fr_185 k (by omega)).trans ((fr_181 k (by omega)).trans ((fr_177 k (by omega)).trans ((fr_173 k (by omega)).trans ((fr_164 k (by omega)).trans ((fr_160 k (by omega)).trans ((fr_156 k (by omega)).trans ((fr_152 k (by omega)).trans ((fr_145 k (by omega)).trans ((fr_139 k (by omega)).trans ((fr_135 k (by omega)).trans ((fr_131 k (by omega)).trans ((fr_127 k (by omega)).trans ((fr_123 k (by omega)).trans ((fr_111 k (by omega)).trans ((fr_107 k (by omega)).trans ((fr_103 k (by omega)).trans ((fr_76 k (by omega)).trans ((fr_72 k (by omega)).trans ((fr_68 k (by omega)).trans ((fr_57 k (by omega)).trans ((fr_53 k (by omega)).trans (rfl))))))))))))))))))))))))))), (fun j hj => (hv_44 j hj).same (fun (k : Nat) (hk : n + 12 + (10 + 6 * j) ≤ k ∧ k < n + 12 + (10 + 6 * j) + 6) => (fr_202 k (by omega)).trans ((fr_198 k (by omega)).trans ((fr_189 k (by omega)).trans ((fr_185 k (by omega)).trans ((fr_181 k (by omega)).trans ((fr_177 k (by omega)).trans ((fr_173 k (by omega)).trans ((fr_164 k (by omega)).trans ((fr_160 k (by omega)).trans ((fr_156 k (by omega)).trans ((fr_152 k (by omega)).trans ((fr_145 k (by omega)).trans ((fr_139 k (by omega)).trans ((fr_135 k (by omega)).trans ((fr_131 k (by omega)).trans ((fr_127 k (by omega)).trans ((fr_123 k (by omega)).trans ((fr_111 k (by omega)).trans ((fr_107 k (by omega)).trans ((fr_103 k (by omega)).trans ((fr_76 k (by omega)).trans ((fr_72 k (by omega)).trans ((fr_68 k (by omega)).trans ((fr_57 k (by omega)).trans ((fr_53 k (by omega)).trans (rfl))))))))))))))))))))))))))), f_210, f_211, f_212, f_213, f_214, f_215, f_216, f_217, f_218, f_219, f_220, f_221, f_222, (hv_85.same (fun (k : Nat) (hk : n + 1235 ≤ k ∧ k < n + 1235 + 2) => (fr_202 k (by omega)).trans ((fr_198 k (by omega)).trans ((fr_189 k (by omega)).trans ((fr_185 k (by omega)).trans ((fr_181 k (by omega)).trans ((fr_177 k (by omega)).trans ((fr_173 k (by omega)).trans ((fr_164 k (by omega)).trans ((fr_160 k (by omega)).trans ((fr_156 k (by omega)).trans ((fr_152 k (by omega)).trans ((fr_145 k (by omega)).trans ((fr_139 k (by omega)).trans ((fr_135 k (by omega)).trans ((fr_131 k (by omega)).trans ((fr_127 k (by omega)).trans ((fr_123 k (by omega)).trans ((fr_111 k (by omega)).trans ((fr_107 k (by omega)).trans (rfl))))))))))))))))))))), (hv_86.same (fun (k : Nat) (hk : n + 1237 ≤ k ∧ k < n + 1237 + 2) => (fr_202 k (by omega)).trans ((fr_198 k (by omega)).trans ((fr_189 k (by omega)).trans ((fr_185 k (by omega)).trans ((fr_181 k (by omega)).trans ((fr_177 k (by omega)).trans ((fr_173 k (by omega)).trans ((fr_164 k (by omega)).trans ((fr_160 k (by omega)).trans ((fr_156 k (by omega)).trans ((fr_152 k (by omega)).trans ((fr_145 k (by omega)).trans ((fr_139 k (by omega)).trans ((fr_135 k (by omega)).trans ((fr_131 k (by omega)).trans ((fr_127 k (by omega)).trans ((fr_123 k (by omega)).trans ((fr_111 k (by omega)).trans ((fr_107 k (by omega)).trans (rfl))))))))))))))))))))), (hv_87.same (fun (k : Nat) (hk : n + 1239 ≤ k ∧ k < n + 1239 + 2) => (fr_202 k (by omega)).trans ((fr_198 k (by omega)).trans ((fr_189 k (by omega)).trans ((fr_185 k (by omega)).trans ((fr_181 k (by omega)).trans ((fr_177 k (by omega)).trans ((fr_173 k (by omega)).trans ((fr_164 k (by omega)).trans ((fr_160 k (by omega)).trans ((fr_156 k (by omega)).trans ((fr_152 k (by omega)).trans ((fr_145 k (by omega)).trans ((fr_139 k (by omega)).trans ((fr_135 k (by omega)).trans ((fr_131 k (by omega)).trans ((fr_127 k (by omega)).trans ((fr_123 k (by omega)).trans ((fr_111 k (by omega)).trans ((fr_107 k (by omega)).trans (rfl))))))))))))))))))))), hv_88, hv_89, hv_90, hv_91, (fun j hj => (hv_92 j hj).same (fun (k : Nat) (hk : n + 1229 + (12 + 6 * j) ≤ k ∧ k < n + 1229 + (12 + 6 * j) + 2) => (fr_202 k (by omega)).trans ((fr_198 k (by omega)).trans ((fr_189 k (by omega)).trans ((fr_185 k (by omega)).trans ((fr_181 k (by omega)).trans ((fr_177 k (by omega)).trans ((fr_173 k (by omega)).trans ((fr_164 k (by omega)).trans ((fr_160 k (by omega)).trans ((fr_156 k (by omega)).trans ((fr_152 k (by omega)).trans ((fr_145 k (by omega)).trans ((fr_139 k (by omega)).trans ((fr_135 k (by omega)).trans ((fr_131 k (by omega)).trans ((fr_127 k (by omega)).trans ((fr_123 k (by omega)).trans ((fr_111 k (by omega)).trans ((fr_107 k (by omega)).trans (rfl))))))))))))))))))))), (fun j hj => (hv_93 j hj).same (fun (k : Nat) (hk : n + 1229 + (12 + 6 * j + 2) ≤ k ∧ k < n + 1229 + (12 + 6 * j + 2) + 2) => (fr_202 k (by omega)).trans ((fr_198 k (by omega)).trans ((fr_189 k (by omega)).trans ((fr_185 k (by omega)).trans ((fr_181 k (by omega)).trans ((fr_177 k (by omega)).trans ((fr_173 k (by omega)).trans ((fr_164 k (by omega)).trans ((fr_160 k (by omega)).trans ((fr_156 k (by omega)).trans ((fr_152 k (by omega)).trans ((fr_145 k (by omega)).trans ((fr_139 k (by omega)).trans ((fr_135 k (by omega)).trans ((fr_131 k (by omega)).trans ((fr_127 k (by omega)).trans ((fr_123 k (by omega)).trans ((fr_111 k (by omega)).trans ((fr_107 k (by omega)).trans (rfl))))))))))))))))))))), (fun j hj => (hv_94 j hj).same (fun (k : Nat) (hk : n + 1229 + (12 + 6 * j + 4) ≤ k ∧ k < n + 1229 + (12 + 6 * j + 4) + 2) => (fr_202 k (by omega)).trans ((fr_198 k (by omega)).trans ((fr_189 k (by omega)).trans ((fr_185 k (by omega)).trans ((fr_181 k (by omega)).trans ((fr_177 k (by omega)).trans ((fr_173 k (by omega)).trans ((fr_164 k (by omega)).trans ((fr_160 k (by omega)).trans ((fr_156 k (by omega)).trans ((fr_152 k (by omega)).trans ((fr_145 k (by omega)).trans ((fr_139 k (by omega)).trans ((fr_135 k (by omega)).trans ((fr_131 k (by omega)).trans ((fr_127 k (by omega)).trans ((fr_123 k (by omega)).trans ((fr_111 k (by omega)).trans ((fr_107 k (by omega)).trans (rfl))))))))))))))))))))), (fun j hj => (hv_95 j hj).same (fun (k : Nat) (hk : n + 1229 + (1212 + 2 * j) ≤ k ∧ k < n + 1229 + (1212 + 2 * j) + 2) => (fr_202 k (by omega)).trans ((fr_198 k (by omega)).trans ((fr_189 k (by omega)).trans ((fr_185 k (by omega)).trans ((fr_181 k (by omega)).trans ((fr_177 k (by omega)).trans ((fr_173 k (by omega)).trans ((fr_164 k (by omega)).trans ((fr_160 k (by omega)).trans ((fr_156 k (by omega)).trans ((fr_152 k (by omega)).trans ((fr_145 k (by omega)).trans ((fr_139 k (by omega)).trans ((fr_135 k (by omega)).trans ((fr_131 k (by omega)).trans ((fr_127 k (by omega)).trans ((fr_123 k (by omega)).trans ((fr_111 k (by omega)).trans ((fr_107 k (by omega)).trans (rfl))))))))))))))))))))), f_223, f_224, f_225, f_226, f_227, f_228, (hv_119.same (fun (k : Nat) (hk : n + 2465 ≤ k ∧ k < n + 2465 + 2) => (fr_202 k (by omega)).trans ((fr_198 k (by omega)).trans ((fr_189 k (by omega)).trans ((fr_185 k (by omega)).trans ((fr_181 k (by omega)).trans ((fr_177 k (by omega)).trans ((fr_173 k (by omega)).trans ((fr_164 k (by omega)).trans ((fr_160 k (by omega)).trans ((fr_156 k (by omega)).trans ((fr_152 k (by omega)).trans ((fr_145 k (by omega)).trans ((fr_139 k (by omega)).trans ((fr_135 k (by omega)).trans ((fr_131 k (by omega)).trans ((fr_127 k (by omega)).trans (rfl)))))))))))))))))), f_229, hfr, (fun j hj => (hRs j hj).same (fun (k : Nat) (hk : n + (2468 + 5 * j) ≤ k ∧ k < n + (2468 + 5 * j) + 5) => (fr_202 k (by omega)).trans ((fr_198 k (by omega)).trans ((fr_189 k (by omega)).trans ((fr_185 k (by omega)).trans ((fr_181 k (by omega)).trans ((fr_177 k (by omega)).trans ((fr_173 k (by omega)).trans ((fr_164 k (by omega)).trans ((fr_160 k (by omega)).trans ((fr_156 k (by omega)).trans ((fr_152 k (by omega)).trans ((fr_145 k (by omega)).trans (rfl)))))))))))))), ⟨f_230, (hw_147.same (fun (k : Nat) (hk : n + 2509 ≤ k ∧ k < n + 2509 + 2) => (fr_202 k (by omega)).trans ((fr_198 k (by omega)).trans ((fr_189 k (by omega)).trans ((fr_185 k (by omega)).trans ((fr_181 k (by omega)).trans ((fr_177 k (by omega)).trans ((fr_173 k (by omega)).trans ((fr_164 k (by omega)).trans ((fr_160 k (by omega)).trans ((fr_156 k (by omega)).trans (rfl)))))))))))), (hw_148.same (fun (k : Nat) (hk : n + 2509 + 2 ≤ k ∧ k < n + 2509 + 2 + 2) => (fr_202 k (by omega)).trans ((fr_198 k (by omega)).trans ((fr_189 k (by omega)).trans ((fr_185 k (by omega)).trans ((fr_181 k (by omega)).trans ((fr_177 k (by omega)).trans ((fr_173 k (by omega)).trans ((fr_164 k (by omega)).trans ((fr_160 k (by omega)).trans ((fr_156 k (by omega)).trans (rfl))))))))))))⟩, f_231, hw_166, hw_167, f_232, f_233⟩, by show va_P (dC, dI) vwCl _ t9.heap; rw [ht9]; exact hP⟩, hS.F ht9⟩) hS.2.2 dX9_init_184
      · have c_141 := mt (nI_leI (a := 8) (b := i) (by decide) (by omega)).mpr c_141
        refine lv_aload_n hx hb dX9_init_107 rfl (lv_at hl 0 rfl) ?_
        have f_234 : g_138 tt = .inr (12, [.ref (ad (n + 0)), .ref (ad (n + 9)), .ref (ad (n + 11)), .ref (ad (n + 1222)), .ref (ad (n + 1228)), .ref (ad (n + 2459)), .ref (ad (n + 2467)), .null, .null, .null, .null, .int (nI 0)]) := (fr_139 tt (by omega)).trans f_134
        refine m_get (D := (dC, dI)) (v := .ref (ad (n + 2467))) (C := RX9) (T := TX9) (N := 12) hx hb hts bk2 hown hK hP tt (by omega) f_234 rfl 6 (by decide) (hts (.fieldLink RX9 59 "GradientDesk" "results" "[LGradientDesk$Fraction;") (List.mem_of_getElem? (i := 39) rfl)) (fun _ h9 => h9) rfl dX9_init_108 ?_
        refine lv_iload_n hx hb dX9_init_111 rfl (lv_at hl 1 rfl) ?_
        refine w_size (fun hle => ?_)
        have hz_235 := sz_eq had hz0 hP hS hle
        refine m_new (ci := 5) (fs := [.null, .null]) (C := RX2) (T := TX2) (N := 2) hx hb hts bk13 tyX2 tyX2_ok hown (hts (.classLink RX9 57 RX2) (List.mem_of_getElem? (i := 38) rfl)) (hts (.instantiable RX2 2) (List.mem_of_getElem? (i := 40) rfl)) (hts (.initialized RX2) (List.mem_of_getElem? (i := 41) rfl)) hK hP hS hz_235 rfl (fun j hj => by rcases (show j = 0 ∨ j = 1 by omega) with rfl | rfl <;> rfl) (by show _ ≤ 2516; omega) (by show _ ≤ 140805; omega) dX9_init_112 (fun H g_236 f_237 fr_238 hP hS => ?_)
        refine W.cs (cells' := 2468 + 5 * i + 1) (slots' := 138415 + 264 * i + 2) (by omega) (by omega) ?_
        have hP : va_P (dC, dI) vwCl (wo ad (n + (2468 + 5 * i + 1)) g_236) H := hP
        have hK := hKA (n + (2468 + 5 * i + 1))
        have hD := hD0 (n + (2468 + 5 * i + 1))
        refine lv_dup hx hb dX9_init_115 rfl ?_
        refine lv_bipush (v := nI 64) hx hb dX9_init_116 (by decide +kernel) ?_
        refine w_size (fun hle => ?_)
        have hz_242 := sz_eq had hz0 hP hS hle
        refine va_callv (va_runI (As := [.int (nI 64)]) (rest := [.ref (ad (n + (2468 + 5 * i))), .int (nI i), .ref (ad (n + 2467))]) ⟨hx, hb, hml, hown, hts⟩ (c_G2_init l dC dI A ad cA ty (n + (2468 + 5 * i + 1)) g_236 (n + (2468 + 5 * i)) 64 (by omega) f_237 (by decide) (fun k hk => hty k (by omega))) (cwI 1 hts (goodIn_sub (fun w9 h9 => bk14 w9 h9) gw_G2_init) rfl rfl rfl (hts (.initialized RX2) (List.mem_of_getElem? (i := 41) rfl)) (hts (.methodLink RX9 63 yX2_init) (List.mem_of_getElem? (i := 42) rfl)) (hts (.instanceMethod yX2_init) (List.mem_of_getElem? (i := 43) rfl)) rfl (by decide +kernel) ⟨Nat.le_of_ble_eq_true rfl, Nat.le_of_ble_eq_true rfl⟩) ⟨fun a U g mk q => ⟨q.1, q.2.1, q.2.2.1, q.2.2.2.1, KK.same (u := U) (U := U.calling g mk a) rfl q.2.2.2.2⟩, fun U hU hW => ⟨rfl, by rw [hU]; exact fun q h => hA q (Nat.le_trans hS.1 h), by rw [hU]; exact hz_242, by rw [hU]; exact hP, KK.warm hW hKK⟩⟩ rfl rfl hl.1 rfl (lv_room (Nat.le_of_ble_eq_true rfl)) dX9_init_118 ⟨(by show _ ≤ 2516; omega), (by show _ ≤ 140805; omega)⟩) hS (fun q _ h => h) (fun q h => h) (fun u8 t8 H1 locs ht8 hvm8 hw_243 hB hz1 hk1 hS => ?_)
        obtain ⟨g_244, rfl⟩ : ∃ z, z = u8 := ⟨_, rfl⟩
        try dsimp only at hw_243 hB
        rw [ht8] at hB
        generalize H1 = H at hB hS ⊢
        obtain ⟨fr_245, hw_239, hw_240, hw_241⟩ := hw_243
        refine W.cs (cells' := 2468 + 5 * i + 1 + 4) (slots' := 138415 + 264 * i + 2 + 262) (by omega) (by omega) ?_
        have hP : va_P (dC, dI) vwCl (wo ad (n + (2468 + 5 * i + 1 + 4)) g_244) H := hB
        have hK := hKA (n + (2468 + 5 * i + 1 + 4))
        have hD := hD0 (n + (2468 + 5 * i + 1 + 4))
        have f_246 : g_244 (n + 2467) = .inl (cA (n + 2467), 8, .inr (.inr (.inr (.inr fr)))) := (fr_245 (n + 2467) (by omega)).trans ((fr_238 (n + 2467) (by omega)).trans f_140)
        refine m_aast (r := (RX2, TX2, 2)) hx hb hK hP hD hS (n + 2467) (n + (2468 + 5 * i)) 5 (by omega) (by omega) ht2467 f_246 hw_239 rfl (i := i) (by omega) (by decide) dX9_init_121 (fun H locs g_247 f_248 fr_249 hP hS => ?_)
        refine lv_iinc (v := nI (i + 1)) (lv' := [(1, .int (nI (i + 1))), (0, .ref (ad tt))]) hx hb dX9_init_122 hl (k := 1) rfl (nI_add i 1) (by decide) rfl (fun ls hl => ?_)
        refine lv_goto (tgt := 101) hx hb dX9_init_125 (by decide) ?_
        refine W.cs (cells' := 2468 + 5 * (i + 1)) (slots' := 138415 + 264 * (i + 1)) (by omega) (by omega) ?_
        have hP : va_P (dC, dI) vwCl (wo ad (n + (2468 + 5 * (i + 1))) g_247) H := by rw [show n + (2468 + 5 * (i + 1)) = n + (2468 + 5 * i + 1 + 4) by omega]; exact hP
        have f_252 : g_247 (n + (2468 + 5 * i)) = .inr (5, [.ref (ad (n + (2468 + 5 * i + 1))), .ref (ad (n + (2468 + 5 * i + 1) + 2))]) := (fr_249 (n + (2468 + 5 * i)) (by omega)).trans hw_239
        exact ih_137 (i + 1) (va_up fr i (some (ad (n + (2468 + 5 * i))))) g_247 (fun (k : Nat) (hk : (k < n + 2468 ∧ k ≠ n + 2467)) => (fr_249 k (by omega)).trans ((fr_245 k (by omega)).trans ((fr_238 k (by omega)).trans ((fr_139 k (by omega)).trans (rfl))))) (by omega) (by omega) (fun j hj => by by_cases h8 : j = i; rw [h8, va_up_self]; rw [va_up_ne _ _ h8]; exact hfr j (by omega)) f_248 (fun j hj => by by_cases h8 : j = i; rw [h8]; exact ⟨f_252, (hw_240.same (fun (k : Nat) (hk : n + (2468 + 5 * i + 1) ≤ k ∧ k < n + (2468 + 5 * i + 1) + 2) => (fr_249 k (by omega)).trans (rfl))), (hw_241.same (fun (k : Nat) (hk : n + (2468 + 5 * i + 1) + 2 ≤ k ∧ k < n + (2468 + 5 * i + 1) + 2 + 2) => (fr_249 k (by omega)).trans (rfl)))⟩; exact (hRs j (by omega)).same (fun (k : Nat) (hk : n + (2468 + 5 * j) ≤ k ∧ k < n + (2468 + 5 * j) + 5) => (fr_249 k (by omega)).trans ((fr_245 k (by omega)).trans ((fr_238 k (by omega)).trans (rfl))))) _ _ _ hP hS (lv_sub (l' := [(0, .ref (ad tt)), (1, .int (nI (i + 1)))]) hl [1, 0] rfl)
  refine W.cs (cells' := 2468 + 5 * 0) (slots' := 138415 + 264 * 0) (by omega) (by omega) ?_
  have hP : va_P (dC, dI) vwCl (wo ad (n + (2468 + 5 * 0)) g_133) H := by rw [show n + (2468 + 5 * 0) = n + 2468 by omega]; exact hP
  have f_253 : g_133 (n + 2467) = .inl (cA (n + 2467), 8, .inr (.inr (.inr (.inr (fun _ => none))))) := (fr_135 (n + 2467) (by omega)).trans f_130
  exact loop_136 _ 0 (fun _ => none) g_133 (fun (k : Nat) (hk : (k < n + 2468 ∧ k ≠ n + 2467)) => rfl) (Nat.lt_succ_self _) (by decide) (fun j h => absurd h (Nat.not_lt_zero _)) f_253 (fun j h => absurd h (Nat.not_lt_zero _)) _ _ _ hP hS (lv_sub (l' := [(0, .ref (ad tt)), (1, .int (nI 0))]) hl [1, 0] rfl)
end
section
/-! the reference, fresh -/
def xz0 : Nat → Int32 := fun j => if j = 2 then -1 else nI 0
def vz (i : Nat) : Nat → Int := fun j => if j % 2 = 1 ∧ j < 2 * i then 1 else 0
theorem vz_up {i : Nat} : va_up (vz i) (2 * i + 1) 1 = vz (i + 1) := by
  funext j
  by_cases e : j = 2 * i + 1
  · rw [e, va_up_self]; exact (if_pos ⟨by omega, by omega⟩).symm
  · rw [va_up_ne _ _ e]
    unfold vz
    by_cases h : j % 2 = 1 ∧ j < 2 * i
    · rw [if_pos h, if_pos ⟨h.1, by omega⟩]
    · rw [if_neg h, if_neg (by omega)]
theorem RV.congr {ad : Nat → Nat} {cA : Nat → ClassId} {g : Nat → va_E} {x : Nat → Int32} {v v2 : Nat → Int} (h : RV ad cA g x v) (hv : ∀ j, j < 2066 → v2 j = v j) : RV ad cA g x v2 := by
  obtain ⟨pn, ln, bn, hR, hV⟩ := h
  exact ⟨pn, ln, bn, hR, fun j hj => by rw [hv j hj]; exact hV j hj⟩
theorem VAL.z0 (j : Nat) : VAL (fun _ => 0) (fun _ => 0) (fun _ => 0) j 0 := ⟨Nat.zero_le _, ⟨fun j h => absurd h (Nat.not_lt_zero _), Or.inl rfl, rfl⟩, ⟨fun h => absurd h (by show ¬ (0 : Nat) = 1; decide), fun h => absurd h (by decide)⟩⟩
def nm0 : Nat → Int := fun j => if j < 8 then -1 else 0
theorem red01 : Red 0 1 := ⟨by decide, by decide⟩
theorem RBd.fresh : RBd (fun _ => 0) (fun _ => 1) := ⟨fun r _ => ⟨Nat.two_pow_pos 1000, Nat.one_lt_two_pow (by decide)⟩, fun v _ => ⟨by show (0 : Int).natAbs ≤ 9999; decide, by show 0 < 1; decide, by show 1 ≤ 9999; decide⟩⟩
theorem RV.setx9 {ad : Nat → Nat} {cA : Nat → ClassId} {g g2 : Nat → va_E} {x : Nat → Int32} {v : Nat → Int} (h : RV ad cA g x v) (hf : ∀ k, k = 0 ∨ k = 1 ∨ k = 2 ∨ k = 3 → g2 k = g k) : RV ad cA g2 x v := by
  obtain ⟨pn, ln, bn, ⟨r0, r1, r2, r3, r4⟩, hV⟩ := h
  exact ⟨pn, ln, bn, ⟨(hf _ (by decide)).trans r0, (hf _ (by decide)).trans r1, (hf _ (by decide)).trans r2, (hf _ (by decide)).trans r3, r4⟩, hV⟩
end
section
def wd_X10_trimL : List Cond := .code yX10_trim cX10_trim 2 none :: (([.fieldLink RX10 14 "GradientDeskModel" "length" "[I", .fieldLink RX10 8 "GradientDeskModel" "pieces" "[J", .fieldLink RX10 18 "GradientDeskModel" "below" "[Z"] : List Cond) ++ (u_ws RX10 TX10 29 ++ ([])))
theorem gw_X10_trimL : wd_X10_trimL.all goodWord = true := k_allc rfl (k_all (by decide +kernel) (k_all (gu_X10) (rfl)))
set_option maxHeartbeats 4000000 in
set_option maxRecDepth 100000 in
theorem c_X10_trimL (l : Launch) (dC : Nat → ClassId) (dI : Nat → Nat → Nat) (A : Nat → Prop) (ad : Nat → Nat) (cA : Nat → ClassId) (g : Nat → va_E) (x : Nat → Int32) (pn : Nat → Nat) (ln : Nat → Nat) (bn : Nat → Nat) (t : Nat) (hR : RN ad cA g x pn ln bn) (ht : t = 2067) (hl2 : ln t = 2) (hp1 : pn (80 * t + 1) = 0) (hp0 : pn (80 * t) = 1) (hb0 : bn t = 0) : Met l yX10_trim wd_X10_trimL ({ frames := 10, cells := 0, slots := 0, locals := 200 }) (va_Pc [.ref (ad 0), .int (nI t)] (PR NSr tyr dC dI A ad cA g)) (va_Qv (fun (u : Nat → va_E) => match u with | g2 => (∀ k, k ≠ 1 ∧ k ≠ 2 ∧ k ≠ 3 → g2 k = g k) ∧ RN ad cA g2 x pn (va_up ln t 1) (va_up bn t 0)) (fun (u : Nat → va_E) (t : State) => va_P (dC, dI) vwCl (wo ad NSr u) t.heap) A) (0) (0) A := by
  refine Met.ofW (cc := cX10_trim) (maxL := 2) (ret := none) (by decide) rfl ?_
  intro p e s m args below meth c s₁ B hml hv
  obtain ⟨rfl, hA, hP, hL⟩ := hv
  have hx := B.exec
  have hb := B.bytes
  have hr := B.returns
  have hts := atoms_spec (ws := wd_X10_trimL) B.pre
  have hown : s.vm.findClass RX10 = some m.cls := findClass_of_methodNamed B.named
  have hlocks := B.notSynchronized
  have hK := hL.1
  have hD : ∀ g, va_D A (wo ad NSr g) := fun g => wo_D hL.2.1 hL.2.2 g
  have hS : va_S A s.heap s.heap [] := va_S.rf
  have bk0 : ∀ w ∈ u_ws RX10 TX10 29, w ∈ wd_X10_trimL := fun _ h => List.mem_cons_of_mem _ (List.mem_append_right _ (List.mem_append_left _ h))
  have hl := lv_entry ([.ref (ad 0), .int (nI t)]) (n := 2) (Nat.le_of_ble_eq_true rfl)
  rw [lg_entry_eq]
  generalize (lg_sl ([.ref (ad 0), .int (nI t)]) ++ List.replicate (2 - (lg_sl ([.ref (ad 0), .int (nI t)])).length) Slot.unset).toArray = ls at hl ⊢
  have hl : lv_has ls 2 [(0, .ref (ad 0)), (1, .int (nI t))] := hl
  obtain ⟨r0, r1, r2, r3, hpn, hln, hbn⟩ := hR
  refine lv_aload_n hx hb dX10_trim_0 rfl (lv_at hl 0 rfl) ?_
  refine m_get (D := (dC, dI)) (v := .ref (ad 2)) (C := RX10) (T := TX10) (N := 29) hx hb hts bk0 hown hK hP 0 (by decide) r0 rfl 2 (by decide) (hts (.fieldLink RX10 14 "GradientDeskModel" "length" "[I") (List.mem_of_getElem? (i := 1) rfl)) (fun _ h9 => h9) rfl dX10_trim_1 ?_
  refine lv_iload_n hx hb dX10_trim_4 rfl (lv_at hl 1 rfl) ?_
  refine m_iald hx hb hK hP 2 (by decide) rfl r2 (i := t) (by omega) (by decide) dX10_trim_5 ?_
  have b_1 := hln t
  refine lv_topi (fun x_2 e_3 => ?_)
  obtain rfl : x_2 = nI 2 := e_3.trans (congrArg nI hl2)
  refine lv_if_le (tgt := 45) hx hb dX10_trim_6 (by decide) (fun c_4 => absurd c_4 (by decide)) (fun c_4 => ?_)
  refine lv_aload_n hx hb dX10_trim_9 rfl (lv_at hl 0 rfl) ?_
  refine m_get (D := (dC, dI)) (v := .ref (ad 1)) (C := RX10) (T := TX10) (N := 29) hx hb hts bk0 hown hK hP 0 (by decide) r0 rfl 1 (by decide) (hts (.fieldLink RX10 8 "GradientDeskModel" "pieces" "[J") (List.mem_of_getElem? (i := 2) rfl)) (fun _ h9 => h9) rfl dX10_trim_10 ?_
  refine lv_bipush (v := nI 80) hx hb dX10_trim_13 (by decide +kernel) ?_
  refine lv_iload_n hx hb dX10_trim_15 rfl (lv_at hl 1 rfl) ?_
  refine lv_imul hx hb dX10_trim_16 ?_
  refine lv_topi (fun x_5 e_6 => ?_)
  obtain rfl : x_5 = nI (80 * t) := e_6.trans (pk_mul 80 t)
  refine lv_aload_n hx hb dX10_trim_17 rfl (lv_at hl 0 rfl) ?_
  refine m_get (D := (dC, dI)) (v := .ref (ad 2)) (C := RX10) (T := TX10) (N := 29) hx hb hts bk0 hown hK hP 0 (by decide) r0 rfl 2 (by decide) (hts (.fieldLink RX10 14 "GradientDeskModel" "length" "[I") (List.mem_of_getElem? (i := 1) rfl)) (fun _ h9 => h9) rfl dX10_trim_18 ?_
  refine lv_iload_n hx hb dX10_trim_21 rfl (lv_at hl 1 rfl) ?_
  refine m_iald hx hb hK hP 2 (by decide) rfl r2 (i := t) (by omega) (by decide) dX10_trim_22 ?_
  have b_7 := hln t
  refine lv_topi (fun x_8 e_9 => ?_)
  obtain rfl : x_8 = nI 2 := e_9.trans (congrArg nI hl2)
  refine lv_iadd hx hb dX10_trim_23 ?_
  refine lv_topi (fun x_10 e_11 => ?_)
  obtain rfl : x_10 = nI (80 * t + 2) := e_11.trans (nI_add (80 * t) 2)
  refine lv_iconst (v := nI 1) hx hb dX10_trim_24 (by decide +kernel) ?_
  refine lv_isub hx hb dX10_trim_25 ?_
  refine lv_topi (fun x_12 e_13 => ?_)
  obtain rfl : x_12 = nI ((80 * t + 2) - 1) := e_13.trans (pk_sub (show 1 ≤ 80 * t + 2 by omega))
  refine m_lald hx hb hK hP 1 (by decide) rfl r1 (i := (80 * t + 2) - 1) (by omega) (by decide) dX10_trim_26 ?_
  have b_14 := hpn ((80 * t + 2) - 1)
  refine lv_topl (fun y_15 e_16 => ?_)
  obtain rfl : y_15 = lN 0 := e_16.trans (congrArg lN (show pn ((80 * t + 2) - 1) = 0 from hp1))
  refine lv_lconst (v := lN 0) hx hb dX10_trim_27 (by decide +kernel) ?_
  refine W.lcmp hx hb dX10_trim_28 ?_
  refine lv_if_ne (tgt := 45) hx hb dX10_trim_29 (by decide) (fun c_17 => absurd (mt (pk_lEQ (a := 0) (b := 0) (by decide) (by decide)).mpr (mt (k_cmp_eq (lN 0) (lN 0)).mpr c_17)) (by decide)) (fun c_17 => ?_)
  refine lv_aload_n hx hb dX10_trim_32 rfl (lv_at hl 0 rfl) ?_
  refine m_get (D := (dC, dI)) (v := .ref (ad 2)) (C := RX10) (T := TX10) (N := 29) hx hb hts bk0 hown hK hP 0 (by decide) r0 rfl 2 (by decide) (hts (.fieldLink RX10 14 "GradientDeskModel" "length" "[I") (List.mem_of_getElem? (i := 1) rfl)) (fun _ h9 => h9) rfl dX10_trim_33 ?_
  refine lv_iload_n hx hb dX10_trim_36 rfl (lv_at hl 1 rfl) ?_
  refine lv_dup2_11 hx hb dX10_trim_37 rfl rfl ?_
  refine m_iald hx hb hK hP 2 (by decide) rfl r2 (i := t) (by omega) (by decide) dX10_trim_38 ?_
  have b_18 := hln t
  refine lv_topi (fun x_19 e_20 => ?_)
  obtain rfl : x_19 = nI 2 := e_20.trans (congrArg nI hl2)
  refine lv_iconst (v := nI 1) hx hb dX10_trim_39 (by decide +kernel) ?_
  refine lv_isub hx hb dX10_trim_40 ?_
  refine lv_topi (fun x_21 e_22 => ?_)
  obtain rfl : x_21 = nI 1 := e_22.trans (pk_sub (show 1 ≤ 2 by omega))
  refine m_iast hx hb hK hP hD hS 2 (by decide) rfl r2 (i := t) (x := nI 1) (by omega) (by decide) dX10_trim_41 (fun H locs g_23 f_24 fr_25 hP hS => ?_)
  rw [k_updI] at f_24
  have b_26 : ∀ j, (va_up ln t 1) j < 161 := k_up_lt hln (by omega)
  have f_24 : g_23 2 = .inl (cA 2, 2068, .inl (fun j => nI ((va_up ln t 1) j))) := f_24
  refine lv_goto (tgt := 0) hx hb dX10_trim_42 (by decide) ?_
  refine lv_aload_n hx hb dX10_trim_0 rfl (lv_at hl 0 rfl) ?_
  have f_27 : g_23 0 = .inr (13, Rob ad x) := (fr_25 0 (by omega)).trans r0
  refine m_get (D := (dC, dI)) (v := .ref (ad 2)) (C := RX10) (T := TX10) (N := 29) hx hb hts bk0 hown hK hP 0 (by decide) f_27 rfl 2 (by decide) (hts (.fieldLink RX10 14 "GradientDeskModel" "length" "[I") (List.mem_of_getElem? (i := 1) rfl)) (fun _ h9 => h9) rfl dX10_trim_1 ?_
  refine lv_iload_n hx hb dX10_trim_4 rfl (lv_at hl 1 rfl) ?_
  refine m_iald hx hb hK hP 2 (by decide) rfl f_24 (i := t) (by omega) (by decide) dX10_trim_5 ?_
  refine lv_topi (fun x_28 e_29 => ?_)
  obtain rfl : x_28 = nI 1 := e_29.trans (congrArg nI (va_up_self _ _ _))
  have b_30 := b_26 t
  refine lv_if_le (tgt := 45) hx hb dX10_trim_6 (by decide) (fun c_31 => absurd c_31 (by decide)) (fun c_31 => ?_)
  refine lv_aload_n hx hb dX10_trim_9 rfl (lv_at hl 0 rfl) ?_
  refine m_get (D := (dC, dI)) (v := .ref (ad 1)) (C := RX10) (T := TX10) (N := 29) hx hb hts bk0 hown hK hP 0 (by decide) f_27 rfl 1 (by decide) (hts (.fieldLink RX10 8 "GradientDeskModel" "pieces" "[J") (List.mem_of_getElem? (i := 2) rfl)) (fun _ h9 => h9) rfl dX10_trim_10 ?_
  refine lv_bipush (v := nI 80) hx hb dX10_trim_13 (by decide +kernel) ?_
  refine lv_iload_n hx hb dX10_trim_15 rfl (lv_at hl 1 rfl) ?_
  refine lv_imul hx hb dX10_trim_16 ?_
  refine lv_topi (fun x_32 e_33 => ?_)
  obtain rfl : x_32 = nI (80 * t) := e_33.trans (pk_mul 80 t)
  refine lv_aload_n hx hb dX10_trim_17 rfl (lv_at hl 0 rfl) ?_
  refine m_get (D := (dC, dI)) (v := .ref (ad 2)) (C := RX10) (T := TX10) (N := 29) hx hb hts bk0 hown hK hP 0 (by decide) f_27 rfl 2 (by decide) (hts (.fieldLink RX10 14 "GradientDeskModel" "length" "[I") (List.mem_of_getElem? (i := 1) rfl)) (fun _ h9 => h9) rfl dX10_trim_18 ?_
  refine lv_iload_n hx hb dX10_trim_21 rfl (lv_at hl 1 rfl) ?_
  refine m_iald hx hb hK hP 2 (by decide) rfl f_24 (i := t) (by omega) (by decide) dX10_trim_22 ?_
  refine lv_topi (fun x_34 e_35 => ?_)
  obtain rfl : x_34 = nI 1 := e_35.trans (congrArg nI (va_up_self _ _ _))
  have b_36 := b_26 t
  refine lv_iadd hx hb dX10_trim_23 ?_
  refine lv_topi (fun x_37 e_38 => ?_)
  obtain rfl : x_37 = nI (80 * t + 1) := e_38.trans (nI_add (80 * t) 1)
  refine lv_iconst (v := nI 1) hx hb dX10_trim_24 (by decide +kernel) ?_
  refine lv_isub hx hb dX10_trim_25 ?_
  refine lv_topi (fun x_39 e_40 => ?_)
  obtain rfl : x_39 = nI ((80 * t + 1) - 1) := e_40.trans (pk_sub (show 1 ≤ 80 * t + 1 by omega))
  have f_41 : g_23 1 = .inl (cA 1, 165440, .inr (.inl (fun j => lN (pn j)))) := (fr_25 1 (by omega)).trans r1
  refine m_lald hx hb hK hP 1 (by decide) rfl f_41 (i := (80 * t + 1) - 1) (by omega) (by decide) dX10_trim_26 ?_
  have b_42 := hpn ((80 * t + 1) - 1)
  refine lv_topl (fun y_43 e_44 => ?_)
  obtain rfl : y_43 = lN 1 := e_44.trans (congrArg lN (show pn ((80 * t + 1) - 1) = 1 from hp0))
  refine lv_lconst (v := lN 0) hx hb dX10_trim_27 (by decide +kernel) ?_
  refine W.lcmp hx hb dX10_trim_28 ?_
  refine lv_if_ne (tgt := 45) hx hb dX10_trim_29 (by decide) (fun c_45 => ?_) (fun c_45 => absurd ((pk_lEQ (a := 1) (b := 0) (by decide) (by decide)).mp ((k_cmp_eq (lN 1) (lN 0)).mp c_45)) (by decide))
  refine lv_aload_n hx hb dX10_trim_45 rfl (lv_at hl 0 rfl) ?_
  refine m_get (D := (dC, dI)) (v := .ref (ad 3)) (C := RX10) (T := TX10) (N := 29) hx hb hts bk0 hown hK hP 0 (by decide) f_27 rfl 3 (by decide) (hts (.fieldLink RX10 18 "GradientDeskModel" "below" "[Z") (List.mem_of_getElem? (i := 3) rfl)) (fun _ h9 => h9) rfl dX10_trim_46 ?_
  refine lv_iload_n hx hb dX10_trim_49 rfl (lv_at hl 1 rfl) ?_
  refine lv_aload_n hx hb dX10_trim_50 rfl (lv_at hl 0 rfl) ?_
  refine m_get (D := (dC, dI)) (v := .ref (ad 3)) (C := RX10) (T := TX10) (N := 29) hx hb hts bk0 hown hK hP 0 (by decide) f_27 rfl 3 (by decide) (hts (.fieldLink RX10 18 "GradientDeskModel" "below" "[Z") (List.mem_of_getElem? (i := 3) rfl)) (fun _ h9 => h9) rfl dX10_trim_51 ?_
  refine lv_iload_n hx hb dX10_trim_54 rfl (lv_at hl 1 rfl) ?_
  have f_46 : g_23 3 = .inl (cA 3, 2068, .inl (fun j => nI (bn j))) := (fr_25 3 (by omega)).trans r3
  refine m_zald hx hb hK hP 3 (by decide) rfl f_46 (i := t) (by omega) (by decide) dX10_trim_55 ?_
  have b_47 := hbn t
  refine lv_topi (fun x_48 e_49 => ?_)
  obtain rfl : x_48 = nI 0 := e_49.trans (congrArg nI hb0)
  refine lv_if_eq (tgt := 72) hx hb dX10_trim_56 (by decide) (fun c_50 => ?_) (fun c_50 => absurd c_50 (by decide))
  refine lv_iconst (v := nI 0) hx hb dX10_trim_72 (by decide +kernel) ?_
  refine m_zast hx hb hK hP hD hS 3 (by decide) rfl f_46 (i := t) (x := nI 0) (y := nI 0) (by decide +kernel) (by omega) (by decide) dX10_trim_73 (fun H locs g_51 f_52 fr_53 hP hS => ?_)
  rw [k_updI] at f_52
  have b_54 : ∀ j, (va_up bn t 0) j < 2 := k_up_lt hbn (by omega)
  have f_52 : g_51 3 = .inl (cA 3, 2068, .inl (fun j => nI ((va_up bn t 0) j))) := f_52
  have f_55 : g_51 0 = .inr (13, Rob ad x) := (fr_53 0 (by omega)).trans f_27
  have f_56 : g_51 1 = .inl (cA 1, 165440, .inr (.inl (fun j => lN (pn j)))) := (fr_53 1 (by omega)).trans f_41
  have f_57 : g_51 2 = .inl (cA 2, 2068, .inl (fun j => nI ((va_up ln t 1) j))) := (fr_53 2 (by omega)).trans f_24
  refine W.widen (k := 0) (n := 0) (by omega) (by omega) ?_
  exact W.vret hx hb hr (fun t9 ht9 hW9 => ⟨⟨g_51, rfl, ⟨(fun (k : Nat) (hk : k ≠ 1 ∧ k ≠ 2 ∧ k ≠ 3) => (fr_53 k (by omega)).trans ((fr_25 k (by omega)).trans (rfl))), ⟨f_55, f_56, f_57, f_52, hpn, b_26, b_54⟩⟩, by show va_P (dC, dI) vwCl _ t9.heap; rw [ht9]; exact hP⟩, hS.F ht9⟩) hS.2.2 dX10_trim_74
def wd_X10_asgL : List Cond := .code yX10_assign cX10_assign 6 none :: (([.fieldLink RX10 8 "GradientDeskModel" "pieces" "[J", .constantLong RX10 81 (4294967295), .fieldLink RX10 14 "GradientDeskModel" "length" "[I", .fieldLink RX10 18 "GradientDeskModel" "below" "[Z", .methodLink RX10 83 yX10_trim, .instanceMethod yX10_trim, .selects RX10 yX10_trim yX10_trim, .initialized RX10] : List Cond) ++ (u_ws RX10 TX10 29 ++ (wd_X10_trimL ++ ([]))))
theorem gw_X10_asgL : wd_X10_asgL.all goodWord = true := k_allc rfl (k_all (by decide +kernel) (k_all (gu_X10) (k_all (gw_X10_trimL) (rfl))))
set_option maxHeartbeats 4000000 in
set_option maxRecDepth 100000 in
theorem c_X10_asgL (l : Launch) (dC : Nat → ClassId) (dI : Nat → Nat → Nat) (A : Nat → Prop) (ad : Nat → Nat) (cA : Nat → ClassId) (g : Nat → va_E) (x : Nat → Int32) (vf : Nat → Int) (t : Nat) (hV : RV ad cA g x vf) (ht : t = 2067) : Met l yX10_assign wd_X10_asgL ({ frames := 20, cells := 0, slots := 0, locals := 400 }) (va_Pc [.ref (ad 0), .int (nI t), .long (lN 1)] (PR NSr tyr dC dI A ad cA g)) (va_Qv (fun (u : Nat → va_E) => match u with | g2 => (∀ k, k ≠ 1 ∧ k ≠ 2 ∧ k ≠ 3 → g2 k = g k) ∧ RV ad cA g2 x vf) (fun (u : Nat → va_E) (t : State) => va_P (dC, dI) vwCl (wo ad NSr u) t.heap) A) (0) (0) A := by
  refine Met.ofW (cc := cX10_assign) (maxL := 6) (ret := none) (by decide) rfl ?_
  intro p e s m args below meth c s₁ B hml hv
  obtain ⟨rfl, hA, hP, hL⟩ := hv
  have hx := B.exec
  have hb := B.bytes
  have hr := B.returns
  have hts := atoms_spec (ws := wd_X10_asgL) B.pre
  have hown : s.vm.findClass RX10 = some m.cls := findClass_of_methodNamed B.named
  have hlocks := B.notSynchronized
  have hK := hL.1
  have hD : ∀ g, va_D A (wo ad NSr g) := fun g => wo_D hL.2.1 hL.2.2 g
  have hS : va_S A s.heap s.heap [] := va_S.rf
  have bk0 : ∀ w ∈ u_ws RX10 TX10 29, w ∈ wd_X10_asgL := fun _ h => List.mem_cons_of_mem _ (List.mem_append_right _ (List.mem_append_left _ h))
  have bk1 : ∀ w ∈ wd_X10_trimL, w ∈ wd_X10_asgL := fun _ h => List.mem_cons_of_mem _ (List.mem_append_right _ (List.mem_append_right _ (List.mem_append_left _ h)))
  have hl := lv_entry ([.ref (ad 0), .int (nI t), .long (lN 1)]) (n := 6) (Nat.le_of_ble_eq_true rfl)
  rw [lg_entry_eq]
  generalize (lg_sl ([.ref (ad 0), .int (nI t), .long (lN 1)]) ++ List.replicate (6 - (lg_sl ([.ref (ad 0), .int (nI t), .long (lN 1)])).length) Slot.unset).toArray = ls at hl ⊢
  have hl : lv_has ls 6 [(0, .ref (ad 0)), (1, .int (nI t)), (2, .long (lN 1))] := hl
  obtain ⟨pn, ln, bn, ⟨r0, r1, r2, r3, hpn, hln, hbn⟩, hv⟩ := hV
  refine lv_lload_n hx hb dX10_assign_0 rfl (lv_at hl 2 rfl) ?_
  refine lv_lconst (v := lN 0) hx hb dX10_assign_1 (by decide +kernel) ?_
  refine W.lcmp hx hb dX10_assign_2 ?_
  refine lv_if_ge (tgt := 11) hx hb dX10_assign_3 (by decide) (fun c_1 => ?_) (fun c_1 => absurd (mt (pk_lLE (a := 0) (b := 1) (by decide) (by decide)).mpr (mt (k_cmp_ge (lN 1) (lN 0)).mpr c_1)) (by decide))
  refine lv_lload_n hx hb dX10_assign_11 rfl (lv_at hl 2 rfl) ?_
  refine lv_lstore (lv' := [(4, .long (lN 1)), (0, .ref (ad 0)), (1, .int (nI t)), (2, .long (lN 1))]) hx hb dX10_assign_12 hl (by decide) rfl (fun ls hl => ?_)
  refine lv_aload_n hx hb dX10_assign_14 rfl (lv_at hl 1 rfl) ?_
  refine m_get (D := (dC, dI)) (v := .ref (ad 1)) (C := RX10) (T := TX10) (N := 29) hx hb hts bk0 hown hK hP 0 (by decide) r0 rfl 1 (by decide) (hts (.fieldLink RX10 8 "GradientDeskModel" "pieces" "[J") (List.mem_of_getElem? (i := 1) rfl)) (fun _ h9 => h9) rfl dX10_assign_15 ?_
  refine lv_bipush (v := nI 80) hx hb dX10_assign_18 (by decide +kernel) ?_
  refine lv_iload_n hx hb dX10_assign_20 rfl (lv_at hl 2 rfl) ?_
  refine lv_imul hx hb dX10_assign_21 ?_
  refine lv_topi (fun x_2 e_3 => ?_)
  obtain rfl : x_2 = nI (80 * t) := e_3.trans (pk_mul 80 t)
  refine lv_lload hx hb dX10_assign_22 (lv_at hl 0 rfl) ?_
  refine lv_ldc2 (v := 4294967295) hx hb hown (hts (.constantLong RX10 81 (4294967295)) (List.mem_of_getElem? (i := 2) rfl)) dX10_assign_24 ?_
  refine lv_topl (fun y_4 e_5 => ?_)
  obtain rfl : y_4 = lN 4294967295 := e_5
  refine lv_land hx hb dX10_assign_27 ?_
  refine lv_topl (fun y_6 e_7 => ?_)
  obtain rfl : y_6 = lN 1 := e_7.trans (g_mask (a := 1) (s := 32) (p := 4294967296) (by decide) (by decide) (by omega))
  refine m_last hx hb hK hP hD hS 1 (by decide) rfl r1 (i := 80 * t) (x := lN 1) (by omega) (by decide) dX10_assign_28 (fun H locs g_8 f_9 fr_10 hP hS => ?_)
  rw [k_updL] at f_9
  have b_11 : ∀ j, (va_up pn (80 * t) 1) j < 4294967296 := k_up_lt hpn (by omega)
  have f_9 : g_8 1 = .inl (cA 1, 165440, .inr (.inl (fun j => lN ((va_up pn (80 * t) 1) j)))) := f_9
  refine lv_aload_n hx hb dX10_assign_29 rfl (lv_at hl 1 rfl) ?_
  have f_12 : g_8 0 = .inr (13, Rob ad x) := (fr_10 0 (by omega)).trans r0
  refine m_get (D := (dC, dI)) (v := .ref (ad 1)) (C := RX10) (T := TX10) (N := 29) hx hb hts bk0 hown hK hP 0 (by decide) f_12 rfl 1 (by decide) (hts (.fieldLink RX10 8 "GradientDeskModel" "pieces" "[J") (List.mem_of_getElem? (i := 1) rfl)) (fun _ h9 => h9) rfl dX10_assign_30 ?_
  refine lv_bipush (v := nI 80) hx hb dX10_assign_33 (by decide +kernel) ?_
  refine lv_iload_n hx hb dX10_assign_35 rfl (lv_at hl 2 rfl) ?_
  refine lv_imul hx hb dX10_assign_36 ?_
  refine lv_topi (fun x_13 e_14 => ?_)
  obtain rfl : x_13 = nI (80 * t) := e_14.trans (pk_mul 80 t)
  refine lv_iconst (v := nI 1) hx hb dX10_assign_37 (by decide +kernel) ?_
  refine lv_iadd hx hb dX10_assign_38 ?_
  refine lv_topi (fun x_15 e_16 => ?_)
  obtain rfl : x_15 = nI (80 * t + 1) := e_16.trans (nI_add (80 * t) 1)
  refine lv_lload hx hb dX10_assign_39 (lv_at hl 0 rfl) ?_
  refine lv_bipush (v := nI 32) hx hb dX10_assign_41 (by decide +kernel) ?_
  refine lv_lushr hx hb dX10_assign_43 rfl ?_
  refine lv_topl (fun y_17 e_18 => ?_)
  obtain rfl : y_17 = lN 0 := e_18.trans ((wb_shr (n := 1) (k := 32) (by omega) (by decide)).trans rfl)
  refine m_last hx hb hK hP hD hS 1 (by decide) rfl f_9 (i := 80 * t + 1) (x := lN 0) (by omega) (by decide) dX10_assign_44 (fun H locs g_19 f_20 fr_21 hP hS => ?_)
  rw [k_updL] at f_20
  have b_22 : ∀ j, (va_up (va_up pn (80 * t) 1) (80 * t + 1) 0) j < 4294967296 := k_up_lt b_11 (by omega)
  have f_20 : g_19 1 = .inl (cA 1, 165440, .inr (.inl (fun j => lN ((va_up (va_up pn (80 * t) 1) (80 * t + 1) 0) j)))) := f_20
  refine lv_aload_n hx hb dX10_assign_45 rfl (lv_at hl 1 rfl) ?_
  have f_23 : g_19 0 = .inr (13, Rob ad x) := (fr_21 0 (by omega)).trans f_12
  refine m_get (D := (dC, dI)) (v := .ref (ad 2)) (C := RX10) (T := TX10) (N := 29) hx hb hts bk0 hown hK hP 0 (by decide) f_23 rfl 2 (by decide) (hts (.fieldLink RX10 14 "GradientDeskModel" "length" "[I") (List.mem_of_getElem? (i := 3) rfl)) (fun _ h9 => h9) rfl dX10_assign_46 ?_
  refine lv_iload_n hx hb dX10_assign_49 rfl (lv_at hl 2 rfl) ?_
  refine lv_iconst (v := nI 2) hx hb dX10_assign_50 (by decide +kernel) ?_
  have f_24 : g_19 2 = .inl (cA 2, 2068, .inl (fun j => nI (ln j))) := (fr_21 2 (by omega)).trans ((fr_10 2 (by omega)).trans r2)
  refine m_iast hx hb hK hP hD hS 2 (by decide) rfl f_24 (i := t) (x := nI 2) (by omega) (by decide) dX10_assign_51 (fun H locs g_25 f_26 fr_27 hP hS => ?_)
  rw [k_updI] at f_26
  have b_28 : ∀ j, (va_up ln t 2) j < 161 := k_up_lt hln (by omega)
  have f_26 : g_25 2 = .inl (cA 2, 2068, .inl (fun j => nI ((va_up ln t 2) j))) := f_26
  refine lv_aload_n hx hb dX10_assign_52 rfl (lv_at hl 1 rfl) ?_
  have f_29 : g_25 0 = .inr (13, Rob ad x) := (fr_27 0 (by omega)).trans f_23
  refine m_get (D := (dC, dI)) (v := .ref (ad 3)) (C := RX10) (T := TX10) (N := 29) hx hb hts bk0 hown hK hP 0 (by decide) f_29 rfl 3 (by decide) (hts (.fieldLink RX10 18 "GradientDeskModel" "below" "[Z") (List.mem_of_getElem? (i := 4) rfl)) (fun _ h9 => h9) rfl dX10_assign_53 ?_
  refine lv_iload_n hx hb dX10_assign_56 rfl (lv_at hl 2 rfl) ?_
  refine lv_lload_n hx hb dX10_assign_57 rfl (lv_at hl 3 rfl) ?_
  refine lv_lconst (v := lN 0) hx hb dX10_assign_58 (by decide +kernel) ?_
  refine W.lcmp hx hb dX10_assign_59 ?_
  refine lv_if_ge (tgt := 67) hx hb dX10_assign_60 (by decide) (fun c_30 => ?_) (fun c_30 => absurd (mt (pk_lLE (a := 0) (b := 1) (by decide) (by decide)).mpr (mt (k_cmp_ge (lN 1) (lN 0)).mpr c_30)) (by decide))
  refine lv_iconst (v := nI 0) hx hb dX10_assign_67 (by decide +kernel) ?_
  have f_31 : g_25 3 = .inl (cA 3, 2068, .inl (fun j => nI (bn j))) := (fr_27 3 (by omega)).trans ((fr_21 3 (by omega)).trans ((fr_10 3 (by omega)).trans r3))
  refine m_zast hx hb hK hP hD hS 3 (by decide) rfl f_31 (i := t) (x := nI 0) (y := nI 0) (by decide +kernel) (by omega) (by decide) dX10_assign_68 (fun H locs g_32 f_33 fr_34 hP hS => ?_)
  rw [k_updI] at f_33
  have b_35 : ∀ j, (va_up bn t 0) j < 2 := k_up_lt hbn (by omega)
  have f_33 : g_32 3 = .inl (cA 3, 2068, .inl (fun j => nI ((va_up bn t 0) j))) := f_33
  refine lv_aload_n hx hb dX10_assign_69 rfl (lv_at hl 1 rfl) ?_
  refine lv_iload_n hx hb dX10_assign_70 rfl (lv_at hl 2 rfl) ?_
  have f_36 : g_32 0 = .inr (13, Rob ad x) := (fr_34 0 (by omega)).trans f_29
  have f_37 : g_32 1 = .inl (cA 1, 165440, .inr (.inl (fun j => lN ((va_up (va_up pn (80 * t) 1) (80 * t + 1) 0) j)))) := (fr_34 1 (by omega)).trans ((fr_27 1 (by omega)).trans f_20)
  have f_38 : g_32 2 = .inl (cA 2, 2068, .inl (fun j => nI ((va_up ln t 2) j))) := (fr_34 2 (by omega)).trans f_26
  refine va_callv (va_runV (As := [.int (nI t)]) (rest := []) ⟨hx, hb, hml, hown, hts⟩ (c_X10_trimL l dC dI A ad cA g_32 x (va_up (va_up pn (80 * t) 1) (80 * t + 1) 0) (va_up ln t 2) (va_up bn t 0) t (⟨f_36, f_37, f_38, f_33, b_22, b_28, b_35⟩) ht (va_up_self _ _ _) (va_up_self _ _ _) (by rw [va_up_ne _ _ (by omega), va_up_self]) (va_up_self _ _ _)) (cwV 1 hts (goodIn_app (goodIn_r [Cond.methodLink RX10 83 yX10_trim, Cond.instanceMethod yX10_trim, Cond.selects RX10 yX10_trim yX10_trim, Cond.initialized RX10] [5, 6, 7, 8] rfl rfl) (goodIn_sub (fun w9 h9 => bk1 w9 h9) gw_X10_trimL)) rfl rfl rfl (by decide +kernel) ⟨Nat.le_of_ble_eq_true rfl, Nat.le_of_ble_eq_true rfl⟩) ⟨fun a U g mk q => ⟨q.1, q.2.1, q.2.2.1, LY.moved (u := U) (U := U.calling g mk a) (Vm.Alike.refl U.vm) q.2.2.2⟩, va_recv hK hP (ci := 13) (q0 := 0) rfl (wo_at (by decide) f_36), fun U hU hW => ⟨rfl, by rw [hU]; exact fun q h => hA q (Nat.le_trans hS.1 h), by rw [hU]; exact hP, LY.moved hW.alike hL⟩⟩ rfl rfl hl.1 rfl (lv_room (Nat.le_of_ble_eq_true rfl)) dX10_assign_71 ⟨(Nat.le_of_ble_eq_true rfl), (Nat.le_of_ble_eq_true rfl)⟩) hS (fun q _ h => h) (fun q h => h) (fun u8 t8 H1 locs ht8 hvm8 hw_39 hB hz1 hk1 hS => ?_)
  obtain ⟨g_40, rfl⟩ : ∃ z, z = u8 := ⟨_, rfl⟩
  try dsimp only at hw_39 hB
  rw [ht8] at hB
  have hP := hB
  generalize H1 = H at hP hS ⊢
  obtain ⟨fr_41, hRt⟩ := hw_39
  refine W.widen (k := 0) (n := 0) (by omega) (by omega) ?_
  exact W.vret hx hb hr (fun t9 ht9 hW9 => ⟨⟨g_40, rfl, ⟨(fun (k : Nat) (hk : k ≠ 1 ∧ k ≠ 2 ∧ k ≠ 3) => (fr_41 k (by omega)).trans ((fr_34 k (by omega)).trans ((fr_27 k (by omega)).trans ((fr_21 k (by omega)).trans ((fr_10 k (by omega)).trans (rfl)))))), _, _, _, hRt, fun j hj => (hv j hj).same ⟨by rw [va_up_ne _ _ (by omega), va_up_ne _ _ (by omega)], by rw [va_up_ne _ _ (by omega), va_up_ne _ _ (by omega)], fun k hk => by rw [va_up_ne _ _ (by omega), va_up_ne _ _ (by omega)]⟩⟩, by show va_P (dC, dI) vwCl _ t9.heap; rw [ht9]; exact hP⟩, hS.F ht9⟩) hS.2.2 dX10_assign_74
end
