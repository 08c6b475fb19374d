def wd_G6_init : List Cond := .code yX6_init cX6_init 3 none :: (([.methodLink RX6 3 objectInit, .instanceMethod objectInit, .code objectInit ⟨#[0xb1]⟩ 1 none, .classLink RX6 9 RX3, .fieldLink RX6 11 "GradientDesk$Shelf" "parts" "[LGradientDesk$Part;", .arrayClass .boolean, .fieldLink RX6 17 "GradientDesk$Shelf" "marked" "[Z", .arrayClass .int, .fieldLink RX6 21 "GradientDesk$Shelf" "slopes" "[I", .classLink RX6 25 RX2, .instantiable RX2 2, .initialized RX2, .methodLink RX6 27 yX2_init, .instanceMethod yX2_init, .fieldLink RX6 30 "GradientDesk$Shelf" "work" "LGradientDesk$Fraction;", .classLink RX6 34 RX8, .instantiable RX8 3, .initialized RX8, .methodLink RX6 36 yX8_init, .instanceMethod yX8_init, .fieldLink RX6 37 "GradientDesk$Shelf" "hold" "LGradientDesk$Whole;", .fieldLink RX6 41 "GradientDesk$Shelf" "arithmetic" "LGradientDesk$Arithmetic;", .instantiable RX3 7, .initialized RX3, .instanceMethod yX3_init] : List Cond) ++ (u_ws RX6 TX6 7 ++ (u_ws RX2 TX2 2 ++ (wd_G2_init ++ (u_ws RX8 TX8 3 ++ (wd_G8_init ++ (u_ws RX3 TX3 7 ++ (wd_G3_init ++ ([])))))))))
theorem gw_G6_init : wd_G6_init.all goodWord = true := k_allc rfl (k_all (by decide +kernel) (k_all (gu_X6) (k_all (gu_X2) (k_all (gw_G2_init) (k_all (gu_X8) (k_all (gw_G8_init) (k_all (gu_X3) (k_all (gw_G3_init) (rfl)))))))))
set_option maxHeartbeats 8000000 in
set_option maxRecDepth 100000 in
theorem c_G6_init (l : Launch) (dC : Nat → ClassId) (dI : Nat → Nat → Nat) (A : Nat → Prop) (ad : Nat → Nat) (cA : Nat → ClassId) (ty : Nat → FieldType) (n : Nat) (g : Nat → va_E) (tt : Nat) (xa : Nat) (htt : tt < n) (hob : g tt = .inr (9, [.null, .null, .int (nI 0), .null, .null, .null, .null])) (hp0 : ty n = .object "GradientDesk$Part") (hb1 : ty (n + 1) = .boolean) (hty : ∀ k, n + 2 ≤ k ∧ k < n + 1210 → ty k = .int) : Met l yX6_init wd_G6_init ({ frames := 50, cells := 1210, slots := 55195, locals := 1000 }) (va_Pc [.ref (ad tt), .ref (ad xa)] (PCR n ty dC dI A ad cA g)) (va_Qv (fun (u : (Nat → va_E) × (Nat → Option Nat)) => match u with | (g2, fp) => (∀ k, k < n ∧ k ≠ tt → g2 k = g k) ∧ g2 tt = .inr (9, [.ref (ad n), .ref (ad (n + 1)), .int (nI 0), .ref (ad (n + 2)), .ref (ad xa), .ref (ad (n + 3)), .ref (ad (n + 8))]) ∧ g2 n = .inl (cA n, 200, .inr (.inr (.inr (.inr fp)))) ∧ (∀ j, j < 200 → fp j = some (ad (n + (10 + 6 * j)))) ∧ g2 (n + 1) = .inl (cA (n + 1), 200, .inl (fun _ => 0)) ∧ g2 (n + 2) = .inl (cA (n + 2), 200, .inl (fun _ => 0)) ∧ FF0 ad cA g2 (n + 3) 64 ∧ WF0 ad cA g2 (n + 8) 64 ∧ ∀ j, j < 200 → PF0 ad cA g2 (n + (10 + 6 * j))) (fun (u : (Nat → va_E) × (Nat → Option Nat)) (t : State) => va_P (dC, dI) vwCl (wo ad (n + 1210) u.1) t.heap) A) (1210) (55195) A := by
  refine Met.ofW (cc := cX6_init) (maxL := 3) (ret := none) (by decide) rfl ?_
  intro p e s m args below meth c s₁ B hml hv
  obtain ⟨rfl, hA, hz0, hP, hKK⟩ := hv
  obtain ⟨hKA, had, hAd, hE⟩ := id hKK
  have hx := B.exec
  have hb := B.bytes
  have hr := B.returns
  have hts := atoms_spec (ws := wd_G6_init) B.pre
  have hown : s.vm.findClass RX6 = some m.cls := findClass_of_methodNamed B.named
  have hlocks := B.notSynchronized
  have hK := hKA (n + 0)
  have hD0 : ∀ (n : Nat) (g : Nat → va_E), va_D A (wo ad n g) := fun n g => wo_D (fun i j _ _ h => ad_inj had i j h) (fun i _ => hAd i) g
  have hD := hD0 (n + 0)
  have hS : va_S A s.heap s.heap [] := va_S.rf
  have hP : va_P (dC, dI) vwCl (wo ad (n + 0) g) s.heap := hP
  have hin : meth.name = "<init>" := (name_of_methodNamed B.named B.method).1
  have bk0 : ∀ w ∈ u_ws RX6 TX6 7, w ∈ wd_G6_init := fun _ h => List.mem_cons_of_mem _ (List.mem_append_right _ (List.mem_append_left _ h))
  have bk1 : ∀ w ∈ u_ws RX2 TX2 2, w ∈ wd_G6_init := fun _ h => List.mem_cons_of_mem _ (List.mem_append_right _ (List.mem_append_right _ (List.mem_append_left _ h)))
  have bk2 : ∀ w ∈ wd_G2_init, w ∈ wd_G6_init := fun _ h => List.mem_cons_of_mem _ (List.mem_append_right _ (List.mem_append_right _ (List.mem_append_right _ (List.mem_append_left _ h))))
  have bk3 : ∀ w ∈ u_ws RX8 TX8 3, w ∈ wd_G6_init := fun _ h => List.mem_cons_of_mem _ (List.mem_append_right _ (List.mem_append_right _ (List.mem_append_right _ (List.mem_append_right _ (List.mem_append_left _ h)))))
  have bk4 : ∀ w ∈ wd_G8_init, w ∈ wd_G6_init := fun _ h => List.mem_cons_of_mem _ (List.mem_append_right _ (List.mem_append_right _ (List.mem_append_right _ (List.mem_append_right _ (List.mem_append_right _ (List.mem_append_left _ h))))))
  have bk5 : ∀ w ∈ u_ws RX3 TX3 7, w ∈ wd_G6_init := fun _ h => List.mem_cons_of_mem _ (List.mem_append_right _ (List.mem_append_right _ (List.mem_append_right _ (List.mem_append_right _ (List.mem_append_right _ (List.mem_append_right _ (List.mem_append_left _ h)))))))
  have bk6 : ∀ w ∈ wd_G3_init, w ∈ wd_G6_init := fun _ h => List.mem_cons_of_mem _ (List.mem_append_right _ (List.mem_append_right _ (List.mem_append_right _ (List.mem_append_right _ (List.mem_append_right _ (List.mem_append_right _ (List.mem_append_right _ (List.mem_append_left _ h))))))))
  have hl := lv_entry ([.ref (ad tt), .ref (ad xa)]) (n := 3) (Nat.le_of_ble_eq_true rfl)
  rw [lg_entry_eq]
  generalize (lg_sl ([.ref (ad tt), .ref (ad xa)]) ++ List.replicate (3 - (lg_sl ([.ref (ad tt), .ref (ad xa)])).length) Slot.unset).toArray = ls at hl ⊢
  have hl : lv_has ls 3 [(0, .ref (ad tt)), (1, .ref (ad xa))] := hl
  refine lv_aload_n hx hb dX6_init_0 rfl (lv_at hl 0 rfl) ?_
  refine W.objInit hx hb hown (hts (.methodLink RX6 3 objectInit) (List.mem_of_getElem? (i := 1) rfl)) (hts (.instanceMethod objectInit) (List.mem_of_getElem? (i := 2) rfl)) (hts _ (List.mem_of_getElem? (i := 3) rfl)) rfl (by rw [hml]; exact hl.1) rfl dX6_init_1 (Nat.le_of_ble_eq_true rfl) (Nat.le_of_ble_eq_true rfl) ?_
  refine W.eq (g2 := F0 m 4 ls []) rfl ?_
  refine lv_aload_n hx hb dX6_init_4 rfl (lv_at hl 0 rfl) ?_
  refine lv_sipush (v := nI 200) hx hb dX6_init_5 (by decide +kernel) ?_
  refine w_size (fun hle => ?_)
  have hz_1 := sz_eq had hz0 hP hS hle
  refine m_newq (C := RX3) (N' := 200) hx hb hown (hts (.classLink RX6 9 RX3) (List.mem_of_getElem? (i := 4) rfl)) hE.1 hp0 (hKA _) hP hS hz_1 (nI_pos (by decide)) (nI_clamp (by decide)) (by decide) (Nat.le_of_ble_eq_true rfl) (Nat.le_of_ble_eq_true rfl) dX6_init_8 (fun H g_2 f_3 fr_4 hP hS => ?_)
  refine W.cs (cells' := 1) (slots' := 200) (by omega) (by omega) ?_
  have hP : va_P (dC, dI) vwCl (wo ad (n + 1) g_2) H := hP
  have hK := hKA (n + 1)
  have hD := hD0 (n + 1)
  have f_5 : g_2 tt = .inr (9, [.null, .null, .int (nI 0), .null, .null, .null, .null]) := (fr_4 tt (by omega)).trans hob
  refine m_putF (D := (dC, dI)) (v := .ref (ad (n + 0))) (tv := .array (.object "GradientDesk$Part")) (C := RX6) (T := TX6) (N := 7) hx hb hts bk0 tyX6 tyX6_ok nmX6 hown hK hP hD hS tt (by omega) f_5 rfl 0 (by decide) (hts (.fieldLink RX6 11 "GradientDesk$Shelf" "parts" "[LGradientDesk$Part;") (List.mem_of_getElem? (i := 5) rfl)) (fun _ h9 => h9) rfl hin rfl (by decide +kernel) rfl rfl (Nat.le_of_ble_eq_true rfl) dX6_init_11 (fun H locs g_6 f_7 fr_8 hP hS => ?_)
  have f_7 : g_6 tt = .inr (9, [.ref (ad (n + 0)), .null, .int (nI 0), .null, .null, .null, .null]) := f_7
  refine lv_aload_n hx hb dX6_init_14 rfl (lv_at hl 0 rfl) ?_
  refine lv_sipush (v := nI 200) hx hb dX6_init_15 (by decide +kernel) ?_
  refine w_size (fun hle => ?_)
  have hz_9 := sz_eq had hz0 hP hS hle
  refine m_newa (atype := .boolean) (t := .boolean) (N' := 200) (a0 := (200, .inl (fun _ => 0))) hx hb (hts (.arrayClass .boolean) (List.mem_of_getElem? (i := 6) rfl)) rfl hb1 (hKA _) hP hS hz_9 (fun _ => rfl) (nI_pos (by decide)) (nI_clamp (by decide)) (by decide) (Nat.le_of_ble_eq_true rfl) (Nat.le_of_ble_eq_true rfl) dX6_init_18 (fun H g_10 f_11 fr_12 hP hS => ?_)
  refine W.cs (cells' := 2) (slots' := 400) (by omega) (by omega) ?_
  have hP : va_P (dC, dI) vwCl (wo ad (n + 2) g_10) H := hP
  have hK := hKA (n + 2)
  have hD := hD0 (n + 2)
  have f_13 : g_10 tt = .inr (9, [.ref (ad (n + 0)), .null, .int (nI 0), .null, .null, .null, .null]) := (fr_12 tt (by omega)).trans f_7
  refine m_putF (D := (dC, dI)) (v := .ref (ad (n + 1))) (tv := .array .boolean) (C := RX6) (T := TX6) (N := 7) hx hb hts bk0 tyX6 tyX6_ok nmX6 hown hK hP hD hS tt (by omega) f_13 rfl 1 (by decide) (hts (.fieldLink RX6 17 "GradientDesk$Shelf" "marked" "[Z") (List.mem_of_getElem? (i := 7) rfl)) (fun _ h9 => h9) rfl hin rfl (by decide +kernel) rfl rfl (Nat.le_of_ble_eq_true rfl) dX6_init_20 (fun H locs g_14 f_15 fr_16 hP hS => ?_)
  have f_15 : g_14 tt = .inr (9, [.ref (ad (n + 0)), .ref (ad (n + 1)), .int (nI 0), .null, .null, .null, .null]) := f_15
  refine lv_aload_n hx hb dX6_init_23 rfl (lv_at hl 0 rfl) ?_
  refine lv_sipush (v := nI 200) hx hb dX6_init_24 (by decide +kernel) ?_
  refine w_size (fun hle => ?_)
  have hz_17 := sz_eq had hz0 hP hS hle
  refine m_newa (atype := .int) (t := .int) (N' := 200) (a0 := (200, .inl (fun _ => 0))) hx hb (hts (.arrayClass .int) (List.mem_of_getElem? (i := 8) rfl)) rfl (hty _ (by omega)) (hKA _) hP hS hz_17 (fun _ => rfl) (nI_pos (by decide)) (nI_clamp (by decide)) (by decide) (Nat.le_of_ble_eq_true rfl) (Nat.le_of_ble_eq_true rfl) dX6_init_27 (fun H g_18 f_19 fr_20 hP hS => ?_)
  refine W.cs (cells' := 3) (slots' := 600) (by omega) (by omega) ?_
  have hP : va_P (dC, dI) vwCl (wo ad (n + 3) g_18) H := hP
  have hK := hKA (n + 3)
  have hD := hD0 (n + 3)
  have f_21 : g_18 tt = .inr (9, [.ref (ad (n + 0)), .ref (ad (n + 1)), .int (nI 0), .null, .null, .null, .null]) := (fr_20 tt (by omega)).trans f_15
  refine m_putF (D := (dC, dI)) (v := .ref (ad (n + 2))) (tv := .array .int) (C := RX6) (T := TX6) (N := 7) hx hb hts bk0 tyX6 tyX6_ok nmX6 hown hK hP hD hS tt (by omega) f_21 rfl 3 (by decide) (hts (.fieldLink RX6 21 "GradientDesk$Shelf" "slopes" "[I") (List.mem_of_getElem? (i := 9) rfl)) (fun _ h9 => h9) rfl hin rfl (by decide +kernel) rfl rfl (Nat.le_of_ble_eq_true rfl) dX6_init_29 (fun H locs g_22 f_23 fr_24 hP hS => ?_)
  have f_23 : g_22 tt = .inr (9, [.ref (ad (n + 0)), .ref (ad (n + 1)), .int (nI 0), .ref (ad (n + 2)), .null, .null, .null]) := f_23
  refine lv_aload_n hx hb dX6_init_32 rfl (lv_at hl 0 rfl) ?_
  refine w_size (fun hle => ?_)
  have hz_25 := sz_eq had hz0 hP hS hle
  refine m_new (ci := 5) (fs := [.null, .null]) (C := RX2) (T := TX2) (N := 2) hx hb hts bk1 tyX2 tyX2_ok hown (hts (.classLink RX6 25 RX2) (List.mem_of_getElem? (i := 10) rfl)) (hts (.instantiable RX2 2) (List.mem_of_getElem? (i := 11) rfl)) (hts (.initialized RX2) (List.mem_of_getElem? (i := 12) rfl)) hK hP hS hz_25 rfl (fun j hj => by rcases (show j = 0 ∨ j = 1 by omega) with rfl | rfl <;> rfl) (Nat.le_of_ble_eq_true rfl) (Nat.le_of_ble_eq_true rfl) dX6_init_33 (fun H g_26 f_27 fr_28 hP hS => ?_)
  refine W.cs (cells' := 4) (slots' := 602) (by omega) (by omega) ?_
  have hP : va_P (dC, dI) vwCl (wo ad (n + 4) g_26) H := hP
  have hK := hKA (n + 4)
  have hD := hD0 (n + 4)
  refine lv_dup hx hb dX6_init_36 rfl ?_
  refine lv_bipush (v := nI 64) hx hb dX6_init_37 (by decide +kernel) ?_
  refine w_size (fun hle => ?_)
  have hz_32 := sz_eq had hz0 hP hS hle
  refine va_callv (va_runI (As := [.int (nI 64)]) (rest := [.ref (ad (n + 3)), .ref (ad tt)]) ⟨hx, hb, hml, hown, hts⟩ (c_G2_init l dC dI A ad cA ty (n + 4) g_26 (n + 3) 64 (by omega) f_27 (by decide) (fun k hk => hty k (by omega))) (cwI 1 hts (goodIn_sub (fun w9 h9 => bk2 w9 h9) gw_G2_init) rfl rfl rfl (hts (.initialized RX2) (List.mem_of_getElem? (i := 12) rfl)) (hts (.methodLink RX6 27 yX2_init) (List.mem_of_getElem? (i := 13) rfl)) (hts (.instanceMethod yX2_init) (List.mem_of_getElem? (i := 14) rfl)) rfl (by decide +kernel) ⟨Nat.le_of_ble_eq_true rfl, Nat.le_of_ble_eq_true rfl⟩) ⟨fun a U g mk q => ⟨q.1, q.2.1, q.2.2.1, q.2.2.2.1, KK.same (u := U) (U := U.calling g mk a) rfl q.2.2.2.2⟩, fun U hU hW => ⟨rfl, by rw [hU]; exact fun q h => hA q (Nat.le_trans hS.1 h), by rw [hU]; exact hz_32, by rw [hU]; exact hP, KK.warm hW hKK⟩⟩ rfl rfl hl.1 rfl (lv_room (Nat.le_of_ble_eq_true rfl)) dX6_init_39 ⟨(Nat.le_of_ble_eq_true rfl), (Nat.le_of_ble_eq_true rfl)⟩) hS (fun q _ h => h) (fun q h => h) (fun u8 t8 H1 locs ht8 hvm8 hw_33 hB hz1 hk1 hS => ?_)
  obtain ⟨g_34, rfl⟩ : ∃ z, z = u8 := ⟨_, rfl⟩
  try dsimp only at hw_33 hB
  rw [ht8] at hB
  generalize H1 = H at hB hS ⊢
  obtain ⟨fr_35, hw_29, hw_30, hw_31⟩ := hw_33
  refine W.cs (cells' := 8) (slots' := 864) (by omega) (by omega) ?_
  have hP : va_P (dC, dI) vwCl (wo ad (n + 8) g_34) H := hB
  have hK := hKA (n + 8)
  have hD := hD0 (n + 8)
  have f_36 : g_34 tt = .inr (9, [.ref (ad (n + 0)), .ref (ad (n + 1)), .int (nI 0), .ref (ad (n + 2)), .null, .null, .null]) := (fr_35 tt (by omega)).trans ((fr_28 tt (by omega)).trans f_23)
  refine m_putF (D := (dC, dI)) (v := .ref (ad (n + 3))) (tv := .object "GradientDesk$Fraction") (C := RX6) (T := TX6) (N := 7) hx hb hts bk0 tyX6 tyX6_ok nmX6 hown hK hP hD hS tt (by omega) f_36 rfl 5 (by decide) (hts (.fieldLink RX6 30 "GradientDesk$Shelf" "work" "LGradientDesk$Fraction;") (List.mem_of_getElem? (i := 15) rfl)) (fun _ h9 => h9) rfl hin rfl (by decide +kernel) rfl rfl (Nat.le_of_ble_eq_true rfl) dX6_init_42 (fun H locs g_37 f_38 fr_39 hP hS => ?_)
  have f_38 : g_37 tt = .inr (9, [.ref (ad (n + 0)), .ref (ad (n + 1)), .int (nI 0), .ref (ad (n + 2)), .null, .ref (ad (n + 3)), .null]) := f_38
  refine lv_aload_n hx hb dX6_init_45 rfl (lv_at hl 0 rfl) ?_
  refine w_size (fun hle => ?_)
  have hz_40 := sz_eq had hz0 hP hS hle
  refine m_new (ci := 11) (fs := [.null, .int (nI 0), .int (nI 0)]) (C := RX8) (T := TX8) (N := 3) hx hb hts bk3 tyX8 tyX8_ok hown (hts (.classLink RX6 34 RX8) (List.mem_of_getElem? (i := 16) rfl)) (hts (.instantiable RX8 3) (List.mem_of_getElem? (i := 17) rfl)) (hts (.initialized RX8) (List.mem_of_getElem? (i := 18) rfl)) hK hP hS hz_40 rfl (fun j hj => by rcases (show j = 0 ∨ j = 1 ∨ j = 2 by omega) with rfl | rfl | rfl <;> rfl) (Nat.le_of_ble_eq_true rfl) (Nat.le_of_ble_eq_true rfl) dX6_init_46 (fun H g_41 f_42 fr_43 hP hS => ?_)
  refine W.cs (cells' := 9) (slots' := 867) (by omega) (by omega) ?_
  have hP : va_P (dC, dI) vwCl (wo ad (n + 9) g_41) H := hP
  have hK := hKA (n + 9)
  have hD := hD0 (n + 9)
  refine lv_dup hx hb dX6_init_49 rfl ?_
  refine lv_bipush (v := nI 64) hx hb dX6_init_50 (by decide +kernel) ?_
  refine w_size (fun hle => ?_)
  have hz_46 := sz_eq had hz0 hP hS hle
  refine va_callv (va_runI (As := [.int (nI 64)]) (rest := [.ref (ad (n + 8)), .ref (ad tt)]) ⟨hx, hb, hml, hown, hts⟩ (c_G8_init l dC dI A ad cA ty (n + 9) g_41 (n + 8) 64 (by omega) f_42 (by decide) (hty _ (by omega))) (cwI 1 hts (goodIn_sub (fun w9 h9 => bk4 w9 h9) gw_G8_init) rfl rfl rfl (hts (.initialized RX8) (List.mem_of_getElem? (i := 18) rfl)) (hts (.methodLink RX6 36 yX8_init) (List.mem_of_getElem? (i := 19) rfl)) (hts (.instanceMethod yX8_init) (List.mem_of_getElem? (i := 20) rfl)) rfl (by decide +kernel) ⟨Nat.le_of_ble_eq_true rfl, Nat.le_of_ble_eq_true rfl⟩) ⟨fun a U g mk q => ⟨q.1, q.2.1, q.2.2.1, q.2.2.2.1, KK.same (u := U) (U := U.calling g mk a) rfl q.2.2.2.2⟩, fun U hU hW => ⟨rfl, by rw [hU]; exact fun q h => hA q (Nat.le_trans hS.1 h), by rw [hU]; exact hz_46, by rw [hU]; exact hP, KK.warm hW hKK⟩⟩ rfl rfl hl.1 rfl (lv_room (Nat.le_of_ble_eq_true rfl)) dX6_init_52 ⟨(Nat.le_of_ble_eq_true rfl), (Nat.le_of_ble_eq_true rfl)⟩) hS (fun q _ h => h) (fun q h => h) (fun u8 t8 H1 locs ht8 hvm8 hw_47 hB hz1 hk1 hS => ?_)
  obtain ⟨g_48, rfl⟩ : ∃ z, z = u8 := ⟨_, rfl⟩
  try dsimp only at hw_47 hB
  rw [ht8] at hB
  generalize H1 = H at hB hS ⊢
  obtain ⟨fr_49, hw_44, hw_45⟩ := hw_47
  refine W.cs (cells' := 10) (slots' := 995) (by omega) (by omega) ?_
  have hP : va_P (dC, dI) vwCl (wo ad (n + 10) g_48) H := hB
  have hK := hKA (n + 10)
  have hD := hD0 (n + 10)
  have f_50 : g_48 tt = .inr (9, [.ref (ad (n + 0)), .ref (ad (n + 1)), .int (nI 0), .ref (ad (n + 2)), .null, .ref (ad (n + 3)), .null]) := (fr_49 tt (by omega)).trans ((fr_43 tt (by omega)).trans f_38)
  refine m_putF (D := (dC, dI)) (v := .ref (ad (n + 8))) (tv := .object "GradientDesk$Whole") (C := RX6) (T := TX6) (N := 7) hx hb hts bk0 tyX6 tyX6_ok nmX6 hown hK hP hD hS tt (by omega) f_50 rfl 6 (by decide) (hts (.fieldLink RX6 37 "GradientDesk$Shelf" "hold" "LGradientDesk$Whole;") (List.mem_of_getElem? (i := 21) rfl)) (fun _ h9 => h9) rfl hin rfl (by decide +kernel) rfl rfl (Nat.le_of_ble_eq_true rfl) dX6_init_55 (fun H locs g_51 f_52 fr_53 hP hS => ?_)
  have f_52 : g_51 tt = .inr (9, [.ref (ad (n + 0)), .ref (ad (n + 1)), .int (nI 0), .ref (ad (n + 2)), .null, .ref (ad (n + 3)), .ref (ad (n + 8))]) := f_52
  refine lv_aload_n hx hb dX6_init_58 rfl (lv_at hl 0 rfl) ?_
  refine lv_aload_n hx hb dX6_init_59 rfl (lv_at hl 1 rfl) ?_
  refine m_putF (D := (dC, dI)) (v := .ref (ad xa)) (tv := .object "GradientDesk$Arithmetic") (C := RX6) (T := TX6) (N := 7) hx hb hts bk0 tyX6 tyX6_ok nmX6 hown hK hP hD hS tt (by omega) f_52 rfl 4 (by decide) (hts (.fieldLink RX6 41 "GradientDesk$Shelf" "arithmetic" "LGradientDesk$Arithmetic;") (List.mem_of_getElem? (i := 22) rfl)) (fun _ h9 => h9) rfl hin rfl (by decide +kernel) rfl rfl (Nat.le_of_ble_eq_true rfl) dX6_init_60 (fun H locs g_54 f_55 fr_56 hP hS => ?_)
  have f_55 : g_54 tt = .inr (9, [.ref (ad (n + 0)), .ref (ad (n + 1)), .int (nI 0), .ref (ad (n + 2)), .ref (ad xa), .ref (ad (n + 3)), .ref (ad (n + 8))]) := f_55
  refine lv_iconst (v := nI 0) hx hb dX6_init_63 (by decide +kernel) ?_
  refine lv_istore_n (lv' := [(2, .int (nI 0)), (0, .ref (ad tt)), (1, .ref (ad xa))]) hx hb dX6_init_64 rfl hl (by decide) rfl (fun ls hl => ?_)
  have loop_57 : ∀ (k9 : Nat) (i : Nat) (fp : Nat → Option Nat) (g_59 : Nat → va_E) (fr_60 : ∀ k, (k < n + 10 ∧ k ≠ n) → g_59 k = g_54 k), 300 - i < k9 → (i ≤ 200) → (∀ j, j < i → fp j = some (ad (n + (10 + 6 * j)))) → (g_59 (n + 0) = .inl (cA (n + 0), 200, .inr (.inr (.inr (.inr fp))))) → (∀ j, j < i → PF0 ad cA g_59 (n + (10 + 6 * j))) → ∀ (H : Heap) (locs : List Loc) (ls : Array Slot), va_P (dC, dI) vwCl (wo ad (n + (10 + 6 * i)) g_59) H → va_S A s.heap H locs → lv_has ls 3 [(0, .ref (ad tt)), (2, .int (nI i))] → W p l e (headSpec wd_G6_init ({ frames := 50, cells := 1210, slots := 55195, locals := 1000 })).room s m ([.ref (ad tt), .ref (ad xa)] : List Value).toArray below meth c H locs (10 + 6 * i) (995 + 271 * i) (MQ below (va_Qv (fun (u : (Nat → va_E) × (Nat → Option Nat)) => match u with | (g2, fp) => (∀ k, k < n ∧ k ≠ tt → g2 k = g k) ∧ g2 tt = .inr (9, [.ref (ad n), .ref (ad (n + 1)), .int (nI 0), .ref (ad (n + 2)), .ref (ad xa), .ref (ad (n + 3)), .ref (ad (n + 8))]) ∧ g2 n = .inl (cA n, 200, .inr (.inr (.inr (.inr fp)))) ∧ (∀ j, j < 200 → fp j = some (ad (n + (10 + 6 * j)))) ∧ g2 (n + 1) = .inl (cA (n + 1), 200, .inl (fun _ => 0)) ∧ g2 (n + 2) = .inl (cA (n + 2), 200, .inl (fun _ => 0)) ∧ FF0 ad cA g2 (n + 3) 64 ∧ WF0 ad cA g2 (n + 8) 64 ∧ ∀ j, j < 200 → PF0 ad cA g2 (n + (10 + 6 * j))) (fun (u : (Nat → va_E) × (Nat → Option Nat)) (t : State) => va_P (dC, dI) vwCl (wo ad (n + 1210) u.1) t.heap) A) ([.ref (ad tt), .ref (ad xa)] : List Value).toArray s (1210) (55195) A) (F0 m 65 ls []) := by
    intro k9
    induction k9 with
    | zero => intro i fp g_59 fr_60 h9; exact absurd h9 (Nat.not_lt_zero _)
    | succ k9 ih_58 =>
      intro i fp g_59 fr_60 h9 hi hfp f_61 hPs H locs ls hP hS hl
      have hK := hKA (n + (10 + 6 * i))
      have hD := hD0 (n + (10 + 6 * i))
      refine lv_iload_n hx hb dX6_init_65 rfl (lv_at hl 1 rfl) ?_
      refine lv_sipush (v := nI 200) hx hb dX6_init_66 (by decide +kernel) ?_
      refine lv_icmp_ge (tgt := 91) hx hb dX6_init_69 (by decide) (fun c_62 => ?_) (fun c_62 => ?_)
      · have c_62 := (nI_leI (a := 200) (b := i) (by decide) (by omega)).mp c_62
        have hie : i = 200 := by omega
        rw [hie] at hfp hPs
        have f_63 : g_59 tt = .inr (9, [.ref (ad (n + 0)), .ref (ad (n + 1)), .int (nI 0), .ref (ad (n + 2)), .ref (ad xa), .ref (ad (n + 3)), .ref (ad (n + 8))]) := (fr_60 tt (by omega)).trans f_55
        have f_64 : g_59 (n + 1) = .inl (cA (n + 1), 200, .inl (fun _ => 0)) := (fr_60 (n + 1) (by omega)).trans ((fr_56 (n + 1) (by omega)).trans ((fr_53 (n + 1) (by omega)).trans ((fr_49 (n + 1) (by omega)).trans ((fr_43 (n + 1) (by omega)).trans ((fr_39 (n + 1) (by omega)).trans ((fr_35 (n + 1) (by omega)).trans ((fr_28 (n + 1) (by omega)).trans ((fr_24 (n + 1) (by omega)).trans ((fr_20 (n + 1) (by omega)).trans ((fr_16 (n + 1) (by omega)).trans f_11))))))))))
        have f_65 : g_59 (n + 2) = .inl (cA (n + 2), 200, .inl (fun _ => 0)) := (fr_60 (n + 2) (by omega)).trans ((fr_56 (n + 2) (by omega)).trans ((fr_53 (n + 2) (by omega)).trans ((fr_49 (n + 2) (by omega)).trans ((fr_43 (n + 2) (by omega)).trans ((fr_39 (n + 2) (by omega)).trans ((fr_35 (n + 2) (by omega)).trans ((fr_28 (n + 2) (by omega)).trans ((fr_24 (n + 2) (by omega)).trans f_19))))))))
        have f_66 : g_59 (n + 3) = .inr (5, [.ref (ad (n + 4)), .ref (ad (n + 4 + 2))]) := (fr_60 (n + 3) (by omega)).trans ((fr_56 (n + 3) (by omega)).trans ((fr_53 (n + 3) (by omega)).trans ((fr_49 (n + 3) (by omega)).trans ((fr_43 (n + 3) (by omega)).trans ((fr_39 (n + 3) (by omega)).trans hw_29)))))
        have f_67 : g_59 (n + 8) = .inr (11, [.ref (ad (n + 9)), .int (nI 0), .int (nI 0)]) := (fr_60 (n + 8) (by omega)).trans ((fr_56 (n + 8) (by omega)).trans ((fr_53 (n + 8) (by omega)).trans hw_44))
        have f_68 : g_59 (n + 9) = .inl (cA (n + 9), 64, .inl (fun _ => 0)) := (fr_60 (n + 9) (by omega)).trans ((fr_56 (n + 9) (by omega)).trans ((fr_53 (n + 9) (by omega)).trans hw_45))
        refine W.widen (k := 1210) (n := 55195) (by omega) (by omega) ?_
        have hP : va_P (dC, dI) vwCl (wo ad (n + 1210) g_59) H := by rw [show n + 1210 = n + (10 + 6 * i) by omega]; exact hP
        exact W.vret hx hb hr (fun t9 ht9 hW9 => ⟨⟨(g_59, fp), rfl, ⟨(fun (k : Nat) (hk : k < n ∧ k ≠ tt) => (fr_60 k (by omega)).trans ((fr_56 k (by omega)).trans ((fr_53 k (by omega)).trans ((fr_49 k (by omega)).trans ((fr_43 k (by omega)).trans ((fr_39 k (by omega)).trans ((fr_35 k (by omega)).trans ((fr_28 k (by omega)).trans ((fr_24 k (by omega)).trans ((fr_20 k (by omega)).trans ((fr_16 k (by omega)).trans ((fr_12 k (by omega)).trans ((fr_8 k (by omega)).trans ((fr_4 k (by omega)).trans (rfl))))))))))))))), f_63, f_61, hfp, f_64, f_65, ⟨f_66, (hw_30.same (fun (k : Nat) (hk : n + 4 ≤ k ∧ k < n + 4 + 2) => (fr_60 k (by omega)).trans ((fr_56 k (by omega)).trans ((fr_53 k (by omega)).trans ((fr_49 k (by omega)).trans ((fr_43 k (by omega)).trans ((fr_39 k (by omega)).trans (rfl)))))))), (hw_31.same (fun (k : Nat) (hk : n + 4 + 2 ≤ k ∧ k < n + 4 + 2 + 2) => (fr_60 k (by omega)).trans ((fr_56 k (by omega)).trans ((fr_53 k (by omega)).trans ((fr_49 k (by omega)).trans ((fr_43 k (by omega)).trans ((fr_39 k (by omega)).trans (rfl))))))))⟩, ⟨f_67, f_68⟩, hPs⟩, by show va_P (dC, dI) vwCl _ t9.heap; rw [ht9]; exact hP⟩, hS.F ht9⟩) hS.2.2 dX6_init_91
      · have c_62 := mt (nI_leI (a := 200) (b := i) (by decide) (by omega)).mpr c_62
        refine lv_aload_n hx hb dX6_init_72 rfl (lv_at hl 0 rfl) ?_
        have f_69 : g_59 tt = .inr (9, [.ref (ad (n + 0)), .ref (ad (n + 1)), .int (nI 0), .ref (ad (n + 2)), .ref (ad xa), .ref (ad (n + 3)), .ref (ad (n + 8))]) := (fr_60 tt (by omega)).trans f_55
        refine m_get (D := (dC, dI)) (v := .ref (ad (n + 0))) (C := RX6) (T := TX6) (N := 7) hx hb hts bk0 hown hK hP tt (by omega) f_69 rfl 0 (by decide) (hts (.fieldLink RX6 11 "GradientDesk$Shelf" "parts" "[LGradientDesk$Part;") (List.mem_of_getElem? (i := 5) rfl)) (fun _ h9 => h9) rfl dX6_init_73 ?_
        refine lv_iload_n hx hb dX6_init_76 rfl (lv_at hl 1 rfl) ?_
        refine w_size (fun hle => ?_)
        have hz_70 := sz_eq had hz0 hP hS hle
        refine m_new (ci := 6) (fs := [.null, .int (nI 0), .int (nI 0), .int (nI 0), .int (nI 0), .int (nI 0), .int (nI 0)]) (C := RX3) (T := TX3) (N := 7) hx hb hts bk5 tyX3 tyX3_ok hown (hts (.classLink RX6 9 RX3) (List.mem_of_getElem? (i := 4) rfl)) (hts (.instantiable RX3 7) (List.mem_of_getElem? (i := 23) rfl)) (hts (.initialized RX3) (List.mem_of_getElem? (i := 24) rfl)) hK hP hS hz_70 rfl (fun j hj => by rcases (show j = 0 ∨ j = 1 ∨ j = 2 ∨ j = 3 ∨ j = 4 ∨ j = 5 ∨ j = 6 by omega) with rfl | rfl | rfl | rfl | rfl | rfl | rfl <;> rfl) (by show _ ≤ 1210; omega) (by show _ ≤ 55195; omega) dX6_init_77 (fun H g_71 f_72 fr_73 hP hS => ?_)
        refine W.cs (cells' := 10 + 6 * i + 1) (slots' := 995 + 271 * i + 7) (by omega) (by omega) ?_
        have hP : va_P (dC, dI) vwCl (wo ad (n + (10 + 6 * i + 1)) g_71) H := hP
        have hK := hKA (n + (10 + 6 * i + 1))
        have hD := hD0 (n + (10 + 6 * i + 1))
        refine lv_dup hx hb dX6_init_80 rfl ?_
        refine w_size (fun hle => ?_)
        have hz_76 := sz_eq had hz0 hP hS hle
        refine va_callv (va_runIN (As := []) (rest := [.ref (ad (n + (10 + 6 * i))), .int (nI i), .ref (ad (n + 0))]) ⟨hx, hb, hml, hown, hts⟩ (c_G3_init l dC dI A ad cA ty (n + (10 + 6 * i + 1)) g_71 (n + (10 + 6 * i)) (by omega) f_72 (fun k hk => hty k (by omega))) ⟨va_cnB 0 hts (goodIn_sub (fun w9 h9 => bk6 w9 h9) gw_G3_init) rfl rfl rfl hE.2.2.2.2.2 (hts (.initialized RX3) (List.mem_of_getElem? (i := 24) rfl)) (by decide +kernel) ⟨Nat.le_of_ble_eq_true rfl, Nat.le_of_ble_eq_true rfl⟩, rfl, (hts (.instanceMethod yX3_init) (List.mem_of_getElem? (i := 25) rfl))⟩ ⟨fun a U g mk q => ⟨q.1, q.2.1, q.2.2.1, q.2.2.2.1, KK.same (u := U) (U := U.calling g mk a) rfl q.2.2.2.2⟩, fun U hU hW => ⟨rfl, by rw [hU]; exact fun q h => hA q (Nat.le_trans hS.1 h), by rw [hU]; exact hz_76, by rw [hU]; exact hP, KK.warm hW hKK⟩⟩ rfl rfl hl.1 rfl (lv_room (Nat.le_of_ble_eq_true rfl)) dX6_init_81 ⟨(by show _ ≤ 1210; omega), (by show _ ≤ 55195; omega)⟩) hS (fun q _ h => h) (fun q h => h) (fun u8 t8 H1 locs ht8 hvm8 hw_77 hB hz1 hk1 hS => ?_)
        obtain ⟨g_78, rfl⟩ : ∃ z, z = u8 := ⟨_, rfl⟩
        try dsimp only at hw_77 hB
        rw [ht8] at hB
        generalize H1 = H at hB hS ⊢
        obtain ⟨fr_79, hw_74, hw_75⟩ := hw_77
        refine W.cs (cells' := 10 + 6 * i + 1 + 5) (slots' := 995 + 271 * i + 7 + 264) (by omega) (by omega) ?_
        have hP : va_P (dC, dI) vwCl (wo ad (n + (10 + 6 * i + 1 + 5)) g_78) H := hB
        have hK := hKA (n + (10 + 6 * i + 1 + 5))
        have hD := hD0 (n + (10 + 6 * i + 1 + 5))
        have f_80 : g_78 (n + 0) = .inl (cA (n + 0), 200, .inr (.inr (.inr (.inr fp)))) := (fr_79 (n + 0) (by omega)).trans ((fr_73 (n + 0) (by omega)).trans f_61)
        refine m_aast (r := (RX3, TX3, 7)) hx hb hK hP hD hS (n + 0) (n + (10 + 6 * i)) 6 (by omega) (by omega) hp0 f_80 hw_74 rfl (i := i) (by omega) (by decide) dX6_init_84 (fun H locs g_81 f_82 fr_83 hP hS => ?_)
        have f_84 : g_81 (n + (10 + 6 * i)) = .inr (6, [.ref (ad (n + (10 + 6 * i + 1))), .int (nI 0), .int (nI 0), .int (nI 0), .int (nI 0), .int (nI 0), .int (nI 0)]) := (fr_83 (n + (10 + 6 * i)) (by omega)).trans hw_74
        refine lv_iinc (v := nI (i + 1)) (lv' := [(2, .int (nI (i + 1))), (0, .ref (ad tt))]) hx hb dX6_init_85 hl (k := 1) rfl (nI_add i 1) (by decide) rfl (fun ls hl => ?_)
        refine lv_goto (tgt := 65) hx hb dX6_init_88 (by decide) ?_
        refine W.cs (cells' := 10 + 6 * (i + 1)) (slots' := 995 + 271 * (i + 1)) (by omega) (by omega) ?_
        have hP : va_P (dC, dI) vwCl (wo ad (n + (10 + 6 * (i + 1))) g_81) H := by rw [show n + (10 + 6 * (i + 1)) = n + (10 + 6 * i + 1 + 5) by omega]; exact hP
        exact ih_58 (i + 1) (va_up fp i (some (ad (n + (10 + 6 * i))))) g_81 (fun (k : Nat) (hk : k < n + 10 ∧ k ≠ n) => (fr_83 k (by omega)).trans ((fr_79 k (by omega)).trans ((fr_73 k (by omega)).trans ((fr_60 k (by omega)).trans (rfl))))) (by omega) (by omega) (fun j hj => by by_cases h8 : j = i; rw [h8, va_up_self]; rw [va_up_ne _ _ h8]; exact hfp j (by omega)) f_82 (fun j hj => by by_cases h8 : j = i; rw [h8]; exact ⟨f_84, hw_75.same (fun (k : Nat) (hk : n + (10 + 6 * i) + 1 ≤ k ∧ k < n + (10 + 6 * i) + 1 + 5) => (fr_83 k (by omega)).trans (rfl))⟩; exact (hPs j (by omega)).same (fun (k : Nat) (hk : n + (10 + 6 * j) ≤ k ∧ k < n + (10 + 6 * j) + 6) => (fr_83 k (by omega)).trans ((fr_79 k (by omega)).trans ((fr_73 k (by omega)).trans (rfl))))) _ _ _ hP hS (lv_sub (l' := [(0, .ref (ad tt)), (2, .int (nI (i + 1)))]) hl [1, 0] rfl)
  refine W.cs (cells' := 10 + 6 * 0) (slots' := 995 + 271 * 0) (by omega) (by omega) ?_
  have hP : va_P (dC, dI) vwCl (wo ad (n + (10 + 6 * 0)) g_54) H := by rw [show n + (10 + 6 * 0) = n + 10 by omega]; exact hP
  have f_87 : g_54 (n + 0) = .inl (cA (n + 0), 200, .inr (.inr (.inr (.inr (fun _ => none))))) := (fr_56 (n + 0) (by omega)).trans ((fr_53 (n + 0) (by omega)).trans ((fr_49 (n + 0) (by omega)).trans ((fr_43 (n + 0) (by omega)).trans ((fr_39 (n + 0) (by omega)).trans ((fr_35 (n + 0) (by omega)).trans ((fr_28 (n + 0) (by omega)).trans ((fr_24 (n + 0) (by omega)).trans ((fr_20 (n + 0) (by omega)).trans ((fr_16 (n + 0) (by omega)).trans ((fr_12 (n + 0) (by omega)).trans ((fr_8 (n + 0) (by omega)).trans f_3)))))))))))
  exact loop_57 _ 0 (fun _ => none) g_54 (fun (k : Nat) (hk : k < n + 10 ∧ k ≠ n) => rfl) (Nat.lt_succ_self _) (by decide) (fun j h => absurd h (Nat.not_lt_zero _)) f_87 (fun j h => absurd h (Nat.not_lt_zero _)) _ _ _ hP hS (lv_sub (l' := [(0, .ref (ad tt)), (2, .int (nI 0))]) hl [1, 0] rfl)
