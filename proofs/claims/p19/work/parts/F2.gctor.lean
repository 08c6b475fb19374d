def wd_G2_init : List Cond := .code yX2_init cX2_init 2 none :: (([.methodLink RX2 1 objectInit, .instanceMethod objectInit, .code objectInit ⟨#[0xb1]⟩ 1 none, .classLink RX2 7 RX8, .instantiable RX8 3, .initialized RX8, .methodLink RX2 9 yX8_init, .instanceMethod yX8_init, .fieldLink RX2 12 "GradientDesk$Fraction" "top" "LGradientDesk$Whole;", .fieldLink RX2 18 "GradientDesk$Fraction" "bottom" "LGradientDesk$Whole;", .methodLink RX2 21 yX8_put, .instanceMethod yX8_put, .selects RX8 yX8_put yX8_put] : List Cond) ++ (u_ws RX8 TX8 3 ++ (wd_G8_init ++ (u_ws RX2 TX2 2 ++ (wd_G8_put ++ ([]))))))
theorem gw_G2_init : wd_G2_init.all goodWord = true := k_allc rfl (k_all (by decide +kernel) (k_all (gu_X8) (k_all (gw_G8_init) (k_all (gu_X2) (k_all (gw_G8_put) (rfl))))))
set_option maxHeartbeats 8000000 in
set_option maxRecDepth 100000 in
theorem c_G2_init (l : Launch) (dC : Nat → ClassId) (dI : Nat → Nat → Nat) (A : Nat → Prop) (ad : Nat → Nat) (cA : Nat → ClassId) (ty : Nat → FieldType) (n : Nat) (g : Nat → va_E) (tt : Nat) (rm : Nat) (htt : tt < n) (hob : g tt = .inr (5, [.null, .null])) (hrm : 2 ≤ rm ∧ rm ≤ 128) (hty : ∀ k, n ≤ k ∧ k < n + 4 → ty k = .int) : Met l yX2_init wd_G2_init ({ frames := 30, cells := 4, slots := 262, locals := 600 }) (va_Pc [.ref (ad tt), .int (nI rm)] (PCR n ty dC dI A ad cA g)) (va_Qv (fun (u : Nat → va_E) => match u with | g2 => (∀ k, k < n ∧ k ≠ tt → g2 k = g k) ∧ g2 tt = .inr (5, [.ref (ad n), .ref (ad (n + 2))]) ∧ WF0 ad cA g2 n rm ∧ WF1 ad cA g2 (n + 2) rm) (fun (u : Nat → va_E) (t : State) => va_P (dC, dI) vwCl (wo ad (n + 4) u) t.heap) A) (4) (262) A := by
  refine Met.ofW (cc := cX2_init) (maxL := 2) (ret := none) (by decide) rfl ?_
  intro p e s m args below meth c s₁ B hml hv
  obtain ⟨rfl, hA, hz0, hP, hKK⟩ := hv
  obtain ⟨hKA, had, hAd, hE⟩ := id hKK
  have hx := B.exec
  have hb := B.bytes
  have hr := B.returns
  have hts := atoms_spec (ws := wd_G2_init) B.pre
  have hown : s.vm.findClass RX2 = some m.cls := findClass_of_methodNamed B.named
  have hlocks := B.notSynchronized
  have hK := hKA (n + 0)
  have hD0 : ∀ (n : Nat) (g : Nat → va_E), va_D A (wo ad n g) := fun n g => wo_D (fun i j _ _ h => ad_inj had i j h) (fun i _ => hAd i) g
  have hD := hD0 (n + 0)
  have hS : va_S A s.heap s.heap [] := va_S.rf
  have hP : va_P (dC, dI) vwCl (wo ad (n + 0) g) s.heap := hP
  have hin : meth.name = "<init>" := (name_of_methodNamed B.named B.method).1
  have bk0 : ∀ w ∈ u_ws RX8 TX8 3, w ∈ wd_G2_init := fun _ h => List.mem_cons_of_mem _ (List.mem_append_right _ (List.mem_append_left _ h))
  have bk1 : ∀ w ∈ wd_G8_init, w ∈ wd_G2_init := fun _ h => List.mem_cons_of_mem _ (List.mem_append_right _ (List.mem_append_right _ (List.mem_append_left _ h)))
  have bk2 : ∀ w ∈ u_ws RX2 TX2 2, w ∈ wd_G2_init := fun _ h => List.mem_cons_of_mem _ (List.mem_append_right _ (List.mem_append_right _ (List.mem_append_right _ (List.mem_append_left _ h))))
  have bk3 : ∀ w ∈ wd_G8_put, w ∈ wd_G2_init := fun _ h => List.mem_cons_of_mem _ (List.mem_append_right _ (List.mem_append_right _ (List.mem_append_right _ (List.mem_append_right _ (List.mem_append_left _ h)))))
  have hl := lv_entry ([.ref (ad tt), .int (nI rm)]) (n := 2) (Nat.le_of_ble_eq_true rfl)
  rw [lg_entry_eq]
  generalize (lg_sl ([.ref (ad tt), .int (nI rm)]) ++ List.replicate (2 - (lg_sl ([.ref (ad tt), .int (nI rm)])).length) Slot.unset).toArray = ls at hl ⊢
  have hl : lv_has ls 2 [(0, .ref (ad tt)), (1, .int (nI rm))] := hl
  refine lv_aload_n hx hb dX2_init_0 rfl (lv_at hl 0 rfl) ?_
  refine W.objInit hx hb hown (hts (.methodLink RX2 1 objectInit) (List.mem_of_getElem? (i := 1) rfl)) (hts (.instanceMethod objectInit) (List.mem_of_getElem? (i := 2) rfl)) (hts _ (List.mem_of_getElem? (i := 3) rfl)) rfl (by rw [hml]; exact hl.1) rfl dX2_init_1 (Nat.le_of_ble_eq_true rfl) (Nat.le_of_ble_eq_true rfl) ?_
  refine W.eq (g2 := F0 m 4 ls []) rfl ?_
  refine lv_aload_n hx hb dX2_init_4 rfl (lv_at hl 0 rfl) ?_
  refine w_size (fun hle => ?_)
  have hz_1 := sz_eq had hz0 hP hS hle
  refine m_new (ci := 11) (fs := [.null, .int (nI 0), .int (nI 0)]) (C := RX8) (T := TX8) (N := 3) hx hb hts bk0 tyX8 tyX8_ok hown (hts (.classLink RX2 7 RX8) (List.mem_of_getElem? (i := 4) rfl)) (hts (.instantiable RX8 3) (List.mem_of_getElem? (i := 5) rfl)) (hts (.initialized RX8) (List.mem_of_getElem? (i := 6) rfl)) hK hP hS hz_1 rfl (fun j hj => by rcases (show j = 0 ∨ j = 1 ∨ j = 2 by omega) with rfl | rfl | rfl <;> rfl) (Nat.le_of_ble_eq_true rfl) (Nat.le_of_ble_eq_true rfl) dX2_init_5 (fun H g_2 f_3 fr_4 hP hS => ?_)
  refine W.cs (cells' := 1) (slots' := 3) (by omega) (by omega) ?_
  have hP : va_P (dC, dI) vwCl (wo ad (n + 1) g_2) H := hP
  have hK := hKA (n + 1)
  have hD := hD0 (n + 1)
  refine lv_dup hx hb dX2_init_8 rfl ?_
  refine lv_iload_n hx hb dX2_init_9 rfl (lv_at hl 1 rfl) ?_
  refine w_size (fun hle => ?_)
  have hz_7 := sz_eq had hz0 hP hS hle
  refine va_callv (va_runI (As := [.int (nI rm)]) (rest := [.ref (ad (n + 0)), .ref (ad tt)]) ⟨hx, hb, hml, hown, hts⟩ (c_G8_init l dC dI A ad cA ty (n + 1) g_2 (n + 0) rm (by omega) f_3 hrm (hty _ (by omega))) (cwI 1 hts (goodIn_sub (fun w9 h9 => bk1 w9 h9) gw_G8_init) rfl rfl rfl (hts (.initialized RX8) (List.mem_of_getElem? (i := 6) rfl)) (hts (.methodLink RX2 9 yX8_init) (List.mem_of_getElem? (i := 7) rfl)) (hts (.instanceMethod yX8_init) (List.mem_of_getElem? (i := 8) rfl)) rfl (by decide +kernel) ⟨Nat.le_of_ble_eq_true rfl, Nat.le_of_ble_eq_true rfl⟩) ⟨fun a U g mk q => ⟨q.1, q.2.1, q.2.2.1, q.2.2.2.1, KK.same (u := U) (U := U.calling g mk a) rfl q.2.2.2.2⟩, fun U hU hW => ⟨rfl, by rw [hU]; exact fun q h => hA q (Nat.le_trans hS.1 h), by rw [hU]; exact hz_7, by rw [hU]; exact hP, KK.warm hW hKK⟩⟩ rfl rfl hl.1 rfl (lv_room (Nat.le_of_ble_eq_true rfl)) dX2_init_10 ⟨(Nat.le_of_ble_eq_true rfl), (Nat.le_of_ble_eq_true rfl)⟩) hS (fun q _ h => h) (fun q h => h) (fun u8 t8 H1 locs ht8 hvm8 hw_8 hB hz1 hk1 hS => ?_)
  obtain ⟨g_9, rfl⟩ : ∃ z, z = u8 := ⟨_, rfl⟩
  try dsimp only at hw_8 hB
  rw [ht8] at hB
  generalize H1 = H at hB hS ⊢
  obtain ⟨fr_10, hw_5, hw_6⟩ := hw_8
  refine W.cs (cells' := 2) (slots' := 131) (by omega) (by omega) ?_
  have hP : va_P (dC, dI) vwCl (wo ad (n + 2) g_9) H := hB
  have hK := hKA (n + 2)
  have hD := hD0 (n + 2)
  have f_11 : g_9 tt = .inr (5, [.null, .null]) := (fr_10 tt (by omega)).trans ((fr_4 tt (by omega)).trans hob)
  refine m_putF (D := (dC, dI)) (v := .ref (ad (n + 0))) (tv := .object "GradientDesk$Whole") (C := RX2) (T := TX2) (N := 2) hx hb hts bk2 tyX2 tyX2_ok nmX2 hown hK hP hD hS tt (by omega) f_11 rfl 0 (by decide) (hts (.fieldLink RX2 12 "GradientDesk$Fraction" "top" "LGradientDesk$Whole;") (List.mem_of_getElem? (i := 9) rfl)) (fun _ h9 => h9) rfl hin rfl (by decide +kernel) rfl rfl (Nat.le_of_ble_eq_true rfl) dX2_init_13 (fun H locs g_12 f_13 fr_14 hP hS => ?_)
  have f_13 : g_12 tt = .inr (5, [.ref (ad (n + 0)), .null]) := f_13
  refine lv_aload_n hx hb dX2_init_16 rfl (lv_at hl 0 rfl) ?_
  refine w_size (fun hle => ?_)
  have hz_15 := sz_eq had hz0 hP hS hle
  refine m_new (ci := 11) (fs := [.null, .int (nI 0), .int (nI 0)]) (C := RX8) (T := TX8) (N := 3) hx hb hts bk0 tyX8 tyX8_ok hown (hts (.classLink RX2 7 RX8) (List.mem_of_getElem? (i := 4) rfl)) (hts (.instantiable RX8 3) (List.mem_of_getElem? (i := 5) rfl)) (hts (.initialized RX8) (List.mem_of_getElem? (i := 6) rfl)) hK hP hS hz_15 rfl (fun j hj => by rcases (show j = 0 ∨ j = 1 ∨ j = 2 by omega) with rfl | rfl | rfl <;> rfl) (Nat.le_of_ble_eq_true rfl) (Nat.le_of_ble_eq_true rfl) dX2_init_17 (fun H g_16 f_17 fr_18 hP hS => ?_)
  refine W.cs (cells' := 3) (slots' := 134) (by omega) (by omega) ?_
  have hP : va_P (dC, dI) vwCl (wo ad (n + 3) g_16) H := hP
  have hK := hKA (n + 3)
  have hD := hD0 (n + 3)
  refine lv_dup hx hb dX2_init_20 rfl ?_
  refine lv_iload_n hx hb dX2_init_21 rfl (lv_at hl 1 rfl) ?_
  refine w_size (fun hle => ?_)
  have hz_21 := sz_eq had hz0 hP hS hle
  refine va_callv (va_runI (As := [.int (nI rm)]) (rest := [.ref (ad (n + 2)), .ref (ad tt)]) ⟨hx, hb, hml, hown, hts⟩ (c_G8_init l dC dI A ad cA ty (n + 3) g_16 (n + 2) rm (by omega) f_17 hrm (hty _ (by omega))) (cwI 1 hts (goodIn_sub (fun w9 h9 => bk1 w9 h9) gw_G8_init) rfl rfl rfl (hts (.initialized RX8) (List.mem_of_getElem? (i := 6) rfl)) (hts (.methodLink RX2 9 yX8_init) (List.mem_of_getElem? (i := 7) rfl)) (hts (.instanceMethod yX8_init) (List.mem_of_getElem? (i := 8) rfl)) rfl (by decide +kernel) ⟨Nat.le_of_ble_eq_true rfl, Nat.le_of_ble_eq_true rfl⟩) ⟨fun a U g mk q => ⟨q.1, q.2.1, q.2.2.1, q.2.2.2.1, KK.same (u := U) (U := U.calling g mk a) rfl q.2.2.2.2⟩, fun U hU hW => ⟨rfl, by rw [hU]; exact fun q h => hA q (Nat.le_trans hS.1 h), by rw [hU]; exact hz_21, by rw [hU]; exact hP, KK.warm hW hKK⟩⟩ rfl rfl hl.1 rfl (lv_room (Nat.le_of_ble_eq_true rfl)) dX2_init_22 ⟨(Nat.le_of_ble_eq_true rfl), (Nat.le_of_ble_eq_true rfl)⟩) hS (fun q _ h => h) (fun q h => h) (fun u8 t8 H1 locs ht8 hvm8 hw_22 hB hz1 hk1 hS => ?_)
  obtain ⟨g_23, rfl⟩ : ∃ z, z = u8 := ⟨_, rfl⟩
  try dsimp only at hw_22 hB
  rw [ht8] at hB
  generalize H1 = H at hB hS ⊢
  obtain ⟨fr_24, hw_19, hw_20⟩ := hw_22
  refine W.cs (cells' := 4) (slots' := 262) (by omega) (by omega) ?_
  have hP : va_P (dC, dI) vwCl (wo ad (n + 4) g_23) H := hB
  have hK := hKA (n + 4)
  have hD := hD0 (n + 4)
  have f_25 : g_23 tt = .inr (5, [.ref (ad (n + 0)), .null]) := (fr_24 tt (by omega)).trans ((fr_18 tt (by omega)).trans f_13)
  refine m_putF (D := (dC, dI)) (v := .ref (ad (n + 2))) (tv := .object "GradientDesk$Whole") (C := RX2) (T := TX2) (N := 2) hx hb hts bk2 tyX2 tyX2_ok nmX2 hown hK hP hD hS tt (by omega) f_25 rfl 1 (by decide) (hts (.fieldLink RX2 18 "GradientDesk$Fraction" "bottom" "LGradientDesk$Whole;") (List.mem_of_getElem? (i := 10) rfl)) (fun _ h9 => h9) rfl hin rfl (by decide +kernel) rfl rfl (Nat.le_of_ble_eq_true rfl) dX2_init_25 (fun H locs g_26 f_27 fr_28 hP hS => ?_)
  have f_27 : g_26 tt = .inr (5, [.ref (ad (n + 0)), .ref (ad (n + 2))]) := f_27
  refine lv_aload_n hx hb dX2_init_28 rfl (lv_at hl 0 rfl) ?_
  refine m_get (D := (dC, dI)) (v := .ref (ad (n + 2))) (C := RX2) (T := TX2) (N := 2) hx hb hts bk2 hown hK hP tt (by omega) f_27 rfl 1 (by decide) (hts (.fieldLink RX2 18 "GradientDesk$Fraction" "bottom" "LGradientDesk$Whole;") (List.mem_of_getElem? (i := 10) rfl)) (fun _ h9 => h9) rfl dX2_init_29 ?_
  refine lv_lconst (v := lN 1) hx hb dX2_init_32 (by decide +kernel) ?_
  have f_30 : g_26 (n + 2) = .inr (11, [.ref (ad (n + 3)), .int (nI 0), .int (nI 0)]) := (fr_28 (n + 2) (by omega)).trans hw_19
  have f_31 : g_26 (n + 3) = .inl (cA (n + 3), rm, .inl (fun _ => 0)) := (fr_28 (n + 3) (by omega)).trans hw_20
  refine w_size (fun hle => ?_)
  have hz_32 := sz_eq had hz0 hP hS hle
  refine va_callv (va_runV (As := [.long (lN 1)]) (rest := []) ⟨hx, hb, hml, hown, hts⟩ (c_G8_put l dC dI A ad cA ty (n + 4) g_26 (n + 2) rm (by omega) (⟨f_30, f_31⟩) hrm (hty _ (by omega))) (cwV 1 hts (goodIn_app (goodIn_r [Cond.methodLink RX2 21 yX8_put, Cond.instanceMethod yX8_put, Cond.selects RX8 yX8_put yX8_put, Cond.initialized RX8] [11, 12, 13, 6] rfl rfl) (goodIn_sub (fun w9 h9 => bk3 w9 h9) gw_G8_put)) rfl rfl rfl (by decide +kernel) ⟨Nat.le_of_ble_eq_true rfl, Nat.le_of_ble_eq_true rfl⟩) ⟨fun a U g mk q => ⟨q.1, q.2.1, q.2.2.1, q.2.2.2.1, KK.same (u := U) (U := U.calling g mk a) rfl q.2.2.2.2⟩, va_recv hK hP (ci := 11) (q0 := (n + 2)) rfl (wo_at (by omega) f_30), fun U hU hW => ⟨rfl, by rw [hU]; exact fun q h => hA q (Nat.le_trans hS.1 h), by rw [hU]; exact hz_32, by rw [hU]; exact hP, KK.warm hW hKK⟩⟩ rfl rfl hl.1 rfl (lv_room (Nat.le_of_ble_eq_true rfl)) dX2_init_33 ⟨(Nat.le_of_ble_eq_true rfl), (Nat.le_of_ble_eq_true rfl)⟩) hS (fun q _ h => h) (fun q h => h) (fun u8 t8 H1 locs ht8 hvm8 hw_33 hB hz1 hk1 hS => ?_)
  obtain ⟨g_34, rfl⟩ : ∃ z, z = u8 := ⟨_, rfl⟩
  try dsimp only at hw_33 hB
  rw [ht8] at hB
  generalize H1 = H at hB hS ⊢
  obtain ⟨fr_35, hw_29⟩ := hw_33
  refine W.cs (cells' := 4) (slots' := 262) (by omega) (by omega) ?_
  have hP : va_P (dC, dI) vwCl (wo ad (n + 4) g_34) H := hB
  have hK := hKA (n + 4)
  have hD := hD0 (n + 4)
  have f_36 : g_34 tt = .inr (5, [.ref (ad (n + 0)), .ref (ad (n + 2))]) := (fr_35 tt (by omega)).trans f_27
  have f_37 : g_34 (n + 0) = .inr (11, [.ref (ad (n + 1)), .int (nI 0), .int (nI 0)]) := (fr_35 (n + 0) (by omega)).trans ((fr_28 (n + 0) (by omega)).trans ((fr_24 (n + 0) (by omega)).trans ((fr_18 (n + 0) (by omega)).trans ((fr_14 (n + 0) (by omega)).trans hw_5))))
  have f_38 : g_34 (n + 1) = .inl (cA (n + 1), rm, .inl (fun _ => 0)) := (fr_35 (n + 1) (by omega)).trans ((fr_28 (n + 1) (by omega)).trans ((fr_24 (n + 1) (by omega)).trans ((fr_18 (n + 1) (by omega)).trans ((fr_14 (n + 1) (by omega)).trans hw_6))))
  refine W.widen (k := 4) (n := 262) (by omega) (by omega) ?_
  have hP : va_P (dC, dI) vwCl (wo ad (n + 4) g_34) H := hP
  exact W.vret hx hb hr (fun t9 ht9 hW9 => ⟨⟨g_34, rfl, ⟨(fun (k : Nat) (hk : k < n ∧ k ≠ tt) => (fr_35 k (by omega)).trans ((fr_28 k (by omega)).trans ((fr_24 k (by omega)).trans ((fr_18 k (by omega)).trans ((fr_14 k (by omega)).trans ((fr_10 k (by omega)).trans ((fr_4 k (by omega)).trans (rfl)))))))), f_36, ⟨f_37, f_38⟩, hw_29⟩, by show va_P (dC, dI) vwCl _ t9.heap; rw [ht9]; exact hP⟩, hS.F ht9⟩) hS.2.2 dX2_init_36
def wd_G3_init : List Cond := .code yX3_init cX3_init 1 none :: (([.methodLink RX3 3 objectInit, .instanceMethod objectInit, .code objectInit ⟨#[0xb1]⟩ 1 none, .classLink RX3 9 RX2, .instantiable RX2 2, .initialized RX2, .methodLink RX3 11 yX2_init, .instanceMethod yX2_init, .fieldLink RX3 14 "GradientDesk$Part" "number" "LGradientDesk$Fraction;"] : List Cond) ++ (u_ws RX2 TX2 2 ++ (wd_G2_init ++ (u_ws RX3 TX3 7 ++ ([])))))
theorem gw_G3_init : wd_G3_init.all goodWord = true := k_allc rfl (k_all (by decide +kernel) (k_all (gu_X2) (k_all (gw_G2_init) (k_all (gu_X3) (rfl)))))
set_option maxHeartbeats 8000000 in
set_option maxRecDepth 100000 in
theorem c_G3_init (l : Launch) (dC : Nat → ClassId) (dI : Nat → Nat → Nat) (A : Nat → Prop) (ad : Nat → Nat) (cA : Nat → ClassId) (ty : Nat → FieldType) (n : Nat) (g : Nat → va_E) (tt : Nat) (htt : tt < n) (hob : g tt = .inr (6, [.null, .int (nI 0), .int (nI 0), .int (nI 0), .int (nI 0), .int (nI 0), .int (nI 0)])) (hty : ∀ k, n ≤ k ∧ k < n + 5 → ty k = .int) : Met l yX3_init wd_G3_init ({ frames := 40, cells := 5, slots := 264, locals := 800 }) (va_Pc [.ref (ad tt)] (PCR n ty dC dI A ad cA g)) (va_Qv (fun (u : Nat → va_E) => match u with | g2 => (∀ k, k < n ∧ k ≠ tt → g2 k = g k) ∧ g2 tt = .inr (6, [.ref (ad n), .int (nI 0), .int (nI 0), .int (nI 0), .int (nI 0), .int (nI 0), .int (nI 0)]) ∧ FF0 ad cA g2 n 13) (fun (u : Nat → va_E) (t : State) => va_P (dC, dI) vwCl (wo ad (n + 5) u) t.heap) A) (5) (264) A := by
  refine Met.ofW (cc := cX3_init) (maxL := 1) (ret := none) (by decide) rfl ?_
  intro p e s m args below meth c s₁ B hml hv
  obtain ⟨rfl, hA, hz0, hP, hKK⟩ := hv
  obtain ⟨hKA, had, hAd, hE⟩ := id hKK
  have hx := B.exec
  have hb := B.bytes
  have hr := B.returns
  have hts := atoms_spec (ws := wd_G3_init) B.pre
  have hown : s.vm.findClass RX3 = some m.cls := findClass_of_methodNamed B.named
  have hlocks := B.notSynchronized
  have hK := hKA (n + 0)
  have hD0 : ∀ (n : Nat) (g : Nat → va_E), va_D A (wo ad n g) := fun n g => wo_D (fun i j _ _ h => ad_inj had i j h) (fun i _ => hAd i) g
  have hD := hD0 (n + 0)
  have hS : va_S A s.heap s.heap [] := va_S.rf
  have hP : va_P (dC, dI) vwCl (wo ad (n + 0) g) s.heap := hP
  have hin : meth.name = "<init>" := (name_of_methodNamed B.named B.method).1
  have bk0 : ∀ w ∈ u_ws RX2 TX2 2, w ∈ wd_G3_init := fun _ h => List.mem_cons_of_mem _ (List.mem_append_right _ (List.mem_append_left _ h))
  have bk1 : ∀ w ∈ wd_G2_init, w ∈ wd_G3_init := fun _ h => List.mem_cons_of_mem _ (List.mem_append_right _ (List.mem_append_right _ (List.mem_append_left _ h)))
  have bk2 : ∀ w ∈ u_ws RX3 TX3 7, w ∈ wd_G3_init := fun _ h => List.mem_cons_of_mem _ (List.mem_append_right _ (List.mem_append_right _ (List.mem_append_right _ (List.mem_append_left _ h))))
  have hl := lv_entry ([.ref (ad tt)]) (n := 1) (Nat.le_of_ble_eq_true rfl)
  rw [lg_entry_eq]
  generalize (lg_sl ([.ref (ad tt)]) ++ List.replicate (1 - (lg_sl ([.ref (ad tt)])).length) Slot.unset).toArray = ls at hl ⊢
  have hl : lv_has ls 1 [(0, .ref (ad tt))] := hl
  refine lv_aload_n hx hb dX3_init_0 rfl (lv_at hl 0 rfl) ?_
  refine W.objInit hx hb hown (hts (.methodLink RX3 3 objectInit) (List.mem_of_getElem? (i := 1) rfl)) (hts (.instanceMethod objectInit) (List.mem_of_getElem? (i := 2) rfl)) (hts _ (List.mem_of_getElem? (i := 3) rfl)) rfl (by rw [hml]; exact hl.1) rfl dX3_init_1 (Nat.le_of_ble_eq_true rfl) (Nat.le_of_ble_eq_true rfl) ?_
  refine W.eq (g2 := F0 m 4 ls []) rfl ?_
  refine lv_aload_n hx hb dX3_init_4 rfl (lv_at hl 0 rfl) ?_
  refine w_size (fun hle => ?_)
  have hz_1 := sz_eq had hz0 hP hS hle
  refine m_new (ci := 5) (fs := [.null, .null]) (C := RX2) (T := TX2) (N := 2) hx hb hts bk0 tyX2 tyX2_ok hown (hts (.classLink RX3 9 RX2) (List.mem_of_getElem? (i := 4) rfl)) (hts (.instantiable RX2 2) (List.mem_of_getElem? (i := 5) rfl)) (hts (.initialized RX2) (List.mem_of_getElem? (i := 6) rfl)) hK hP hS hz_1 rfl (fun j hj => by rcases (show j = 0 ∨ j = 1 by omega) with rfl | rfl <;> rfl) (Nat.le_of_ble_eq_true rfl) (Nat.le_of_ble_eq_true rfl) dX3_init_5 (fun H g_2 f_3 fr_4 hP hS => ?_)
  refine W.cs (cells' := 1) (slots' := 2) (by omega) (by omega) ?_
  have hP : va_P (dC, dI) vwCl (wo ad (n + 1) g_2) H := hP
  have hK := hKA (n + 1)
  have hD := hD0 (n + 1)
  refine lv_dup hx hb dX3_init_8 rfl ?_
  refine lv_bipush (v := nI 13) hx hb dX3_init_9 (by decide +kernel) ?_
  refine w_size (fun hle => ?_)
  have hz_8 := sz_eq had hz0 hP hS hle
  refine va_callv (va_runI (As := [.int (nI 13)]) (rest := [.ref (ad (n + 0)), .ref (ad tt)]) ⟨hx, hb, hml, hown, hts⟩ (c_G2_init l dC dI A ad cA ty (n + 1) g_2 (n + 0) 13 (by omega) f_3 (by decide) (fun k hk => hty k (by omega))) (cwI 1 hts (goodIn_sub (fun w9 h9 => bk1 w9 h9) gw_G2_init) rfl rfl rfl (hts (.initialized RX2) (List.mem_of_getElem? (i := 6) rfl)) (hts (.methodLink RX3 11 yX2_init) (List.mem_of_getElem? (i := 7) rfl)) (hts (.instanceMethod yX2_init) (List.mem_of_getElem? (i := 8) rfl)) rfl (by decide +kernel) ⟨Nat.le_of_ble_eq_true rfl, Nat.le_of_ble_eq_true rfl⟩) ⟨fun a U g mk q => ⟨q.1, q.2.1, q.2.2.1, q.2.2.2.1, KK.same (u := U) (U := U.calling g mk a) rfl q.2.2.2.2⟩, fun U hU hW => ⟨rfl, by rw [hU]; exact fun q h => hA q (Nat.le_trans hS.1 h), by rw [hU]; exact hz_8, by rw [hU]; exact hP, KK.warm hW hKK⟩⟩ rfl rfl hl.1 rfl (lv_room (Nat.le_of_ble_eq_true rfl)) dX3_init_11 ⟨(Nat.le_of_ble_eq_true rfl), (Nat.le_of_ble_eq_true rfl)⟩) hS (fun q _ h => h) (fun q h => h) (fun u8 t8 H1 locs ht8 hvm8 hw_9 hB hz1 hk1 hS => ?_)
  obtain ⟨g_10, rfl⟩ : ∃ z, z = u8 := ⟨_, rfl⟩
  try dsimp only at hw_9 hB
  rw [ht8] at hB
  generalize H1 = H at hB hS ⊢
  obtain ⟨fr_11, hw_5, hw_6, hw_7⟩ := hw_9
  refine W.cs (cells' := 5) (slots' := 264) (by omega) (by omega) ?_
  have hP : va_P (dC, dI) vwCl (wo ad (n + 5) g_10) H := hB
  have hK := hKA (n + 5)
  have hD := hD0 (n + 5)
  have f_12 : g_10 tt = .inr (6, [.null, .int (nI 0), .int (nI 0), .int (nI 0), .int (nI 0), .int (nI 0), .int (nI 0)]) := (fr_11 tt (by omega)).trans ((fr_4 tt (by omega)).trans hob)
  refine m_putF (D := (dC, dI)) (v := .ref (ad (n + 0))) (tv := .object "GradientDesk$Fraction") (C := RX3) (T := TX3) (N := 7) hx hb hts bk2 tyX3 tyX3_ok nmX3 hown hK hP hD hS tt (by omega) f_12 rfl 0 (by decide) (hts (.fieldLink RX3 14 "GradientDesk$Part" "number" "LGradientDesk$Fraction;") (List.mem_of_getElem? (i := 9) rfl)) (fun _ h9 => h9) rfl hin rfl (by decide +kernel) rfl rfl (Nat.le_of_ble_eq_true rfl) dX3_init_14 (fun H locs g_13 f_14 fr_15 hP hS => ?_)
  have f_14 : g_13 tt = .inr (6, [.ref (ad (n + 0)), .int (nI 0), .int (nI 0), .int (nI 0), .int (nI 0), .int (nI 0), .int (nI 0)]) := f_14
  have f_16 : g_13 (n + 0) = .inr (5, [.ref (ad (n + 1)), .ref (ad (n + 1 + 2))]) := (fr_15 (n + 0) (by omega)).trans hw_5
  refine W.widen (k := 5) (n := 264) (by omega) (by omega) ?_
  have hP : va_P (dC, dI) vwCl (wo ad (n + 5) g_13) H := hP
  exact W.vret hx hb hr (fun t9 ht9 hW9 => ⟨⟨g_13, rfl, ⟨(fun (k : Nat) (hk : k < n ∧ k ≠ tt) => (fr_15 k (by omega)).trans ((fr_11 k (by omega)).trans ((fr_4 k (by omega)).trans (rfl)))), f_14, ⟨f_16, (hw_6.same (fun (k : Nat) (hk : n + 1 ≤ k ∧ k < n + 1 + 2) => (fr_15 k (by omega)).trans (rfl))), (hw_7.same (fun (k : Nat) (hk : n + 1 + 2 ≤ k ∧ k < n + 1 + 2 + 2) => (fr_15 k (by omega)).trans (rfl)))⟩⟩, by show va_P (dC, dI) vwCl _ t9.heap; rw [ht9]; exact hP⟩, hS.F ht9⟩) hS.2.2 dX3_init_17
def wd_G7_init : List Cond := .code yX7_init cX7_init 1 none :: (([.methodLink RX7 3 objectInit, .instanceMethod objectInit, .code objectInit ⟨#[0xb1]⟩ 1 none, .arrayClass .char, .fieldLink RX7 9 "GradientDesk$Text" "letters" "[C"] : List Cond) ++ (u_ws RX7 TX7 5 ++ ([])))
theorem gw_G7_init : wd_G7_init.all goodWord = true := k_allc rfl (k_all (by decide +kernel) (k_all (gu_X7) (rfl)))
set_option maxHeartbeats 8000000 in
set_option maxRecDepth 100000 in
theorem c_G7_init (l : Launch) (dC : Nat → ClassId) (dI : Nat → Nat → Nat) (A : Nat → Prop) (ad : Nat → Nat) (cA : Nat → ClassId) (ty : Nat → FieldType) (n : Nat) (g : Nat → va_E) (tt : Nat) (htt : tt < n) (hob : g tt = .inr (10, [.null, .int (nI 0), .int (nI 0), .int (nI 0), .int (nI 0)])) (hty0 : ty n = .char) : Met l yX7_init wd_G7_init ({ frames := 10, cells := 1, slots := 64, locals := 200 }) (va_Pc [.ref (ad tt)] (PCR n ty dC dI A ad cA g)) (va_Qv (fun (u : Nat → va_E) => match u with | g2 => (∀ k, k < n ∧ k ≠ tt → g2 k = g k) ∧ g2 tt = .inr (10, [.ref (ad n), .int (nI 0), .int (nI 0), .int (nI 0), .int (nI 0)]) ∧ g2 n = .inl (cA n, 64, .inl (fun _ => 0))) (fun (u : Nat → va_E) (t : State) => va_P (dC, dI) vwCl (wo ad (n + 1) u) t.heap) A) (1) (64) A := by
  refine Met.ofW (cc := cX7_init) (maxL := 1) (ret := none) (by decide) rfl ?_
  intro p e s m args below meth c s₁ B hml hv
  obtain ⟨rfl, hA, hz0, hP, hKK⟩ := hv
  obtain ⟨hKA, had, hAd, hE⟩ := id hKK
  have hx := B.exec
  have hb := B.bytes
  have hr := B.returns
  have hts := atoms_spec (ws := wd_G7_init) B.pre
  have hown : s.vm.findClass RX7 = some m.cls := findClass_of_methodNamed B.named
  have hlocks := B.notSynchronized
  have hK := hKA (n + 0)
  have hD0 : ∀ (n : Nat) (g : Nat → va_E), va_D A (wo ad n g) := fun n g => wo_D (fun i j _ _ h => ad_inj had i j h) (fun i _ => hAd i) g
  have hD := hD0 (n + 0)
  have hS : va_S A s.heap s.heap [] := va_S.rf
  have hP : va_P (dC, dI) vwCl (wo ad (n + 0) g) s.heap := hP
  have hin : meth.name = "<init>" := (name_of_methodNamed B.named B.method).1
  have bk0 : ∀ w ∈ u_ws RX7 TX7 5, w ∈ wd_G7_init := fun _ h => List.mem_cons_of_mem _ (List.mem_append_right _ (List.mem_append_left _ h))
  have hl := lv_entry ([.ref (ad tt)]) (n := 1) (Nat.le_of_ble_eq_true rfl)
  rw [lg_entry_eq]
  generalize (lg_sl ([.ref (ad tt)]) ++ List.replicate (1 - (lg_sl ([.ref (ad tt)])).length) Slot.unset).toArray = ls at hl ⊢
  have hl : lv_has ls 1 [(0, .ref (ad tt))] := hl
  refine lv_aload_n hx hb dX7_init_0 rfl (lv_at hl 0 rfl) ?_
  refine W.objInit hx hb hown (hts (.methodLink RX7 3 objectInit) (List.mem_of_getElem? (i := 1) rfl)) (hts (.instanceMethod objectInit) (List.mem_of_getElem? (i := 2) rfl)) (hts _ (List.mem_of_getElem? (i := 3) rfl)) rfl (by rw [hml]; exact hl.1) rfl dX7_init_1 (Nat.le_of_ble_eq_true rfl) (Nat.le_of_ble_eq_true rfl) ?_
  refine W.eq (g2 := F0 m 4 ls []) rfl ?_
  refine lv_aload_n hx hb dX7_init_4 rfl (lv_at hl 0 rfl) ?_
  refine lv_bipush (v := nI 64) hx hb dX7_init_5 (by decide +kernel) ?_
  refine w_size (fun hle => ?_)
  have hz_1 := sz_eq had hz0 hP hS hle
  refine m_newa (atype := .char) (t := .char) (N' := 64) (a0 := (64, .inl (fun _ => 0))) hx hb (hts (.arrayClass .char) (List.mem_of_getElem? (i := 4) rfl)) rfl hty0 (hKA _) hP hS hz_1 (fun _ => rfl) (nI_pos (by decide)) (nI_clamp (by decide)) (by decide) (Nat.le_of_ble_eq_true rfl) (Nat.le_of_ble_eq_true rfl) dX7_init_7 (fun H g_2 f_3 fr_4 hP hS => ?_)
  refine W.cs (cells' := 1) (slots' := 64) (by omega) (by omega) ?_
  have hP : va_P (dC, dI) vwCl (wo ad (n + 1) g_2) H := hP
  have hK := hKA (n + 1)
  have hD := hD0 (n + 1)
  have f_5 : g_2 tt = .inr (10, [.null, .int (nI 0), .int (nI 0), .int (nI 0), .int (nI 0)]) := (fr_4 tt (by omega)).trans hob
  refine m_putF (D := (dC, dI)) (v := .ref (ad (n + 0))) (tv := .array .char) (C := RX7) (T := TX7) (N := 5) hx hb hts bk0 tyX7 tyX7_ok nmX7 hown hK hP hD hS tt (by omega) f_5 rfl 0 (by decide) (hts (.fieldLink RX7 9 "GradientDesk$Text" "letters" "[C") (List.mem_of_getElem? (i := 5) rfl)) (fun _ h9 => h9) rfl hin rfl (by decide +kernel) rfl rfl (Nat.le_of_ble_eq_true rfl) dX7_init_9 (fun H locs g_6 f_7 fr_8 hP hS => ?_)
  have f_7 : g_6 tt = .inr (10, [.ref (ad (n + 0)), .int (nI 0), .int (nI 0), .int (nI 0), .int (nI 0)]) := f_7
  have f_9 : g_6 (n + 0) = .inl (cA (n + 0), 64, .inl (fun _ => 0)) := (fr_8 (n + 0) (by omega)).trans f_3
  refine W.widen (k := 1) (n := 64) (by omega) (by omega) ?_
  have hP : va_P (dC, dI) vwCl (wo ad (n + 1) g_6) H := hP
  exact W.vret hx hb hr (fun t9 ht9 hW9 => ⟨⟨g_6, rfl, ⟨(fun (k : Nat) (hk : k < n ∧ k ≠ tt) => (fr_8 k (by omega)).trans ((fr_4 k (by omega)).trans (rfl))), f_7, f_9⟩, by show va_P (dC, dI) vwCl _ t9.heap; rw [ht9]; exact hP⟩, hS.F ht9⟩) hS.2.2 dX7_init_12
def wd_G0_init : List Cond := .code yX0_init cX0_init 1 none :: (([.methodLink RX0 3 objectInit, .instanceMethod objectInit, .code objectInit ⟨#[0xb1]⟩ 1 none, .classLink RX0 9 RX8, .instantiable RX8 3, .initialized RX8, .methodLink RX0 11 yX8_init, .instanceMethod yX8_init, .fieldLink RX0 14 "GradientDesk$Arithmetic" "left" "LGradientDesk$Whole;", .fieldLink RX0 20 "GradientDesk$Arithmetic" "right" "LGradientDesk$Whole;", .fieldLink RX0 23 "GradientDesk$Arithmetic" "one" "LGradientDesk$Whole;", .fieldLink RX0 26 "GradientDesk$Arithmetic" "other" "LGradientDesk$Whole;"] : List Cond) ++ (u_ws RX8 TX8 3 ++ (wd_G8_init ++ (u_ws RX0 TX0 4 ++ ([])))))
theorem gw_G0_init : wd_G0_init.all goodWord = true := k_allc rfl (k_all (by decide +kernel) (k_all (gu_X8) (k_all (gw_G8_init) (k_all (gu_X0) (rfl)))))
set_option maxHeartbeats 8000000 in
set_option maxRecDepth 100000 in
theorem c_G0_init (l : Launch) (dC : Nat → ClassId) (dI : Nat → Nat → Nat) (A : Nat → Prop) (ad : Nat → Nat) (cA : Nat → ClassId) (ty : Nat → FieldType) (n : Nat) (g : Nat → va_E) (tt : Nat) (htt : tt < n) (hob : g tt = .inr (3, [.null, .null, .null, .null])) (hty : ∀ k, n ≤ k ∧ k < n + 8 → ty k = .int) : Met l yX0_init wd_G0_init ({ frames := 30, cells := 8, slots := 524, locals := 600 }) (va_Pc [.ref (ad tt)] (PCR n ty dC dI A ad cA g)) (va_Qv (fun (u : Nat → va_E) => match u with | g2 => (∀ k, k < n ∧ k ≠ tt → g2 k = g k) ∧ g2 tt = .inr (3, [.ref (ad n), .ref (ad (n + 2)), .ref (ad (n + 4)), .ref (ad (n + 6))]) ∧ WF0 ad cA g2 n 128 ∧ WF0 ad cA g2 (n + 2) 128 ∧ WF0 ad cA g2 (n + 4) 64 ∧ WF0 ad cA g2 (n + 6) 64) (fun (u : Nat → va_E) (t : State) => va_P (dC, dI) vwCl (wo ad (n + 8) u) t.heap) A) (8) (524) A := by
  refine Met.ofW (cc := cX0_init) (maxL := 1) (ret := none) (by decide) rfl ?_
  intro p e s m args below meth c s₁ B hml hv
  obtain ⟨rfl, hA, hz0, hP, hKK⟩ := hv
  obtain ⟨hKA, had, hAd, hE⟩ := id hKK
  have hx := B.exec
  have hb := B.bytes
  have hr := B.returns
  have hts := atoms_spec (ws := wd_G0_init) B.pre
  have hown : s.vm.findClass RX0 = some m.cls := findClass_of_methodNamed B.named
  have hlocks := B.notSynchronized
  have hK := hKA (n + 0)
  have hD0 : ∀ (n : Nat) (g : Nat → va_E), va_D A (wo ad n g) := fun n g => wo_D (fun i j _ _ h => ad_inj had i j h) (fun i _ => hAd i) g
  have hD := hD0 (n + 0)
  have hS : va_S A s.heap s.heap [] := va_S.rf
  have hP : va_P (dC, dI) vwCl (wo ad (n + 0) g) s.heap := hP
  have hin : meth.name = "<init>" := (name_of_methodNamed B.named B.method).1
  have bk0 : ∀ w ∈ u_ws RX8 TX8 3, w ∈ wd_G0_init := fun _ h => List.mem_cons_of_mem _ (List.mem_append_right _ (List.mem_append_left _ h))
  have bk1 : ∀ w ∈ wd_G8_init, w ∈ wd_G0_init := fun _ h => List.mem_cons_of_mem _ (List.mem_append_right _ (List.mem_append_right _ (List.mem_append_left _ h)))
  have bk2 : ∀ w ∈ u_ws RX0 TX0 4, w ∈ wd_G0_init := fun _ h => List.mem_cons_of_mem _ (List.mem_append_right _ (List.mem_append_right _ (List.mem_append_right _ (List.mem_append_left _ h))))
  have hl := lv_entry ([.ref (ad tt)]) (n := 1) (Nat.le_of_ble_eq_true rfl)
  rw [lg_entry_eq]
  generalize (lg_sl ([.ref (ad tt)]) ++ List.replicate (1 - (lg_sl ([.ref (ad tt)])).length) Slot.unset).toArray = ls at hl ⊢
  have hl : lv_has ls 1 [(0, .ref (ad tt))] := hl
  refine lv_aload_n hx hb dX0_init_0 rfl (lv_at hl 0 rfl) ?_
  refine W.objInit hx hb hown (hts (.methodLink RX0 3 objectInit) (List.mem_of_getElem? (i := 1) rfl)) (hts (.instanceMethod objectInit) (List.mem_of_getElem? (i := 2) rfl)) (hts _ (List.mem_of_getElem? (i := 3) rfl)) rfl (by rw [hml]; exact hl.1) rfl dX0_init_1 (Nat.le_of_ble_eq_true rfl) (Nat.le_of_ble_eq_true rfl) ?_
  refine W.eq (g2 := F0 m 4 ls []) rfl ?_
  refine lv_aload_n hx hb dX0_init_4 rfl (lv_at hl 0 rfl) ?_
  refine w_size (fun hle => ?_)
  have hz_1 := sz_eq had hz0 hP hS hle
  refine m_new (ci := 11) (fs := [.null, .int (nI 0), .int (nI 0)]) (C := RX8) (T := TX8) (N := 3) hx hb hts bk0 tyX8 tyX8_ok hown (hts (.classLink RX0 9 RX8) (List.mem_of_getElem? (i := 4) rfl)) (hts (.instantiable RX8 3) (List.mem_of_getElem? (i := 5) rfl)) (hts (.initialized RX8) (List.mem_of_getElem? (i := 6) rfl)) hK hP hS hz_1 rfl (fun j hj => by rcases (show j = 0 ∨ j = 1 ∨ j = 2 by omega) with rfl | rfl | rfl <;> rfl) (Nat.le_of_ble_eq_true rfl) (Nat.le_of_ble_eq_true rfl) dX0_init_5 (fun H g_2 f_3 fr_4 hP hS => ?_)
  refine W.cs (cells' := 1) (slots' := 3) (by omega) (by omega) ?_
  have hP : va_P (dC, dI) vwCl (wo ad (n + 1) g_2) H := hP
  have hK := hKA (n + 1)
  have hD := hD0 (n + 1)
  refine lv_dup hx hb dX0_init_8 rfl ?_
  refine lv_sipush (v := nI 128) hx hb dX0_init_9 (by decide +kernel) ?_
  refine w_size (fun hle => ?_)
  have hz_7 := sz_eq had hz0 hP hS hle
  refine va_callv (va_runI (As := [.int (nI 128)]) (rest := [.ref (ad (n + 0)), .ref (ad tt)]) ⟨hx, hb, hml, hown, hts⟩ (c_G8_init l dC dI A ad cA ty (n + 1) g_2 (n + 0) 128 (by omega) f_3 (by decide) (hty _ (by omega))) (cwI 1 hts (goodIn_sub (fun w9 h9 => bk1 w9 h9) gw_G8_init) rfl rfl rfl (hts (.initialized RX8) (List.mem_of_getElem? (i := 6) rfl)) (hts (.methodLink RX0 11 yX8_init) (List.mem_of_getElem? (i := 7) rfl)) (hts (.instanceMethod yX8_init) (List.mem_of_getElem? (i := 8) rfl)) rfl (by decide +kernel) ⟨Nat.le_of_ble_eq_true rfl, Nat.le_of_ble_eq_true rfl⟩) ⟨fun a U g mk q => ⟨q.1, q.2.1, q.2.2.1, q.2.2.2.1, KK.same (u := U) (U := U.calling g mk a) rfl q.2.2.2.2⟩, fun U hU hW => ⟨rfl, by rw [hU]; exact fun q h => hA q (Nat.le_trans hS.1 h), by rw [hU]; exact hz_7, by rw [hU]; exact hP, KK.warm hW hKK⟩⟩ rfl rfl hl.1 rfl (lv_room (Nat.le_of_ble_eq_true rfl)) dX0_init_12 ⟨(Nat.le_of_ble_eq_true rfl), (Nat.le_of_ble_eq_true rfl)⟩) hS (fun q _ h => h) (fun q h => h) (fun u8 t8 H1 locs ht8 hvm8 hw_8 hB hz1 hk1 hS => ?_)
  obtain ⟨g_9, rfl⟩ : ∃ z, z = u8 := ⟨_, rfl⟩
  try dsimp only at hw_8 hB
  rw [ht8] at hB
  generalize H1 = H at hB hS ⊢
  obtain ⟨fr_10, hw_5, hw_6⟩ := hw_8
  refine W.cs (cells' := 2) (slots' := 131) (by omega) (by omega) ?_
  have hP : va_P (dC, dI) vwCl (wo ad (n + 2) g_9) H := hB
  have hK := hKA (n + 2)
  have hD := hD0 (n + 2)
  have f_11 : g_9 tt = .inr (3, [.null, .null, .null, .null]) := (fr_10 tt (by omega)).trans ((fr_4 tt (by omega)).trans hob)
  refine m_putF (D := (dC, dI)) (v := .ref (ad (n + 0))) (tv := .object "GradientDesk$Whole") (C := RX0) (T := TX0) (N := 4) hx hb hts bk2 tyX0 tyX0_ok nmX0 hown hK hP hD hS tt (by omega) f_11 rfl 0 (by decide) (hts (.fieldLink RX0 14 "GradientDesk$Arithmetic" "left" "LGradientDesk$Whole;") (List.mem_of_getElem? (i := 9) rfl)) (fun _ h9 => h9) rfl hin rfl (by decide +kernel) rfl rfl (Nat.le_of_ble_eq_true rfl) dX0_init_15 (fun H locs g_12 f_13 fr_14 hP hS => ?_)
  have f_13 : g_12 tt = .inr (3, [.ref (ad (n + 0)), .null, .null, .null]) := f_13
  refine lv_aload_n hx hb dX0_init_18 rfl (lv_at hl 0 rfl) ?_
  refine w_size (fun hle => ?_)
  have hz_15 := sz_eq had hz0 hP hS hle
  refine m_new (ci := 11) (fs := [.null, .int (nI 0), .int (nI 0)]) (C := RX8) (T := TX8) (N := 3) hx hb hts bk0 tyX8 tyX8_ok hown (hts (.classLink RX0 9 RX8) (List.mem_of_getElem? (i := 4) rfl)) (hts (.instantiable RX8 3) (List.mem_of_getElem? (i := 5) rfl)) (hts (.initialized RX8) (List.mem_of_getElem? (i := 6) rfl)) hK hP hS hz_15 rfl (fun j hj => by rcases (show j = 0 ∨ j = 1 ∨ j = 2 by omega) with rfl | rfl | rfl <;> rfl) (Nat.le_of_ble_eq_true rfl) (Nat.le_of_ble_eq_true rfl) dX0_init_19 (fun H g_16 f_17 fr_18 hP hS => ?_)
  refine W.cs (cells' := 3) (slots' := 134) (by omega) (by omega) ?_
  have hP : va_P (dC, dI) vwCl (wo ad (n + 3) g_16) H := hP
  have hK := hKA (n + 3)
  have hD := hD0 (n + 3)
  refine lv_dup hx hb dX0_init_22 rfl ?_
  refine lv_sipush (v := nI 128) hx hb dX0_init_23 (by decide +kernel) ?_
  refine w_size (fun hle => ?_)
  have hz_21 := sz_eq had hz0 hP hS hle
  refine va_callv (va_runI (As := [.int (nI 128)]) (rest := [.ref (ad (n + 2)), .ref (ad tt)]) ⟨hx, hb, hml, hown, hts⟩ (c_G8_init l dC dI A ad cA ty (n + 3) g_16 (n + 2) 128 (by omega) f_17 (by decide) (hty _ (by omega))) (cwI 1 hts (goodIn_sub (fun w9 h9 => bk1 w9 h9) gw_G8_init) rfl rfl rfl (hts (.initialized RX8) (List.mem_of_getElem? (i := 6) rfl)) (hts (.methodLink RX0 11 yX8_init) (List.mem_of_getElem? (i := 7) rfl)) (hts (.instanceMethod yX8_init) (List.mem_of_getElem? (i := 8) rfl)) rfl (by decide +kernel) ⟨Nat.le_of_ble_eq_true rfl, Nat.le_of_ble_eq_true rfl⟩) ⟨fun a U g mk q => ⟨q.1, q.2.1, q.2.2.1, q.2.2.2.1, KK.same (u := U) (U := U.calling g mk a) rfl q.2.2.2.2⟩, fun U hU hW => ⟨rfl, by rw [hU]; exact fun q h => hA q (Nat.le_trans hS.1 h), by rw [hU]; exact hz_21, by rw [hU]; exact hP, KK.warm hW hKK⟩⟩ rfl rfl hl.1 rfl (lv_room (Nat.le_of_ble_eq_true rfl)) dX0_init_26 ⟨(Nat.le_of_ble_eq_true rfl), (Nat.le_of_ble_eq_true rfl)⟩) hS (fun q _ h => h) (fun q h => h) (fun u8 t8 H1 locs ht8 hvm8 hw_22 hB hz1 hk1 hS => ?_)
  obtain ⟨g_23, rfl⟩ : ∃ z, z = u8 := ⟨_, rfl⟩
  try dsimp only at hw_22 hB
  rw [ht8] at hB
  generalize H1 = H at hB hS ⊢
  obtain ⟨fr_24, hw_19, hw_20⟩ := hw_22
  refine W.cs (cells' := 4) (slots' := 262) (by omega) (by omega) ?_
  have hP : va_P (dC, dI) vwCl (wo ad (n + 4) g_23) H := hB
  have hK := hKA (n + 4)
  have hD := hD0 (n + 4)
  have f_25 : g_23 tt = .inr (3, [.ref (ad (n + 0)), .null, .null, .null]) := (fr_24 tt (by omega)).trans ((fr_18 tt (by omega)).trans f_13)
  refine m_putF (D := (dC, dI)) (v := .ref (ad (n + 2))) (tv := .object "GradientDesk$Whole") (C := RX0) (T := TX0) (N := 4) hx hb hts bk2 tyX0 tyX0_ok nmX0 hown hK hP hD hS tt (by omega) f_25 rfl 1 (by decide) (hts (.fieldLink RX0 20 "GradientDesk$Arithmetic" "right" "LGradientDesk$Whole;") (List.mem_of_getElem? (i := 10) rfl)) (fun _ h9 => h9) rfl hin rfl (by decide +kernel) rfl rfl (Nat.le_of_ble_eq_true rfl) dX0_init_29 (fun H locs g_26 f_27 fr_28 hP hS => ?_)
  have f_27 : g_26 tt = .inr (3, [.ref (ad (n + 0)), .ref (ad (n + 2)), .null, .null]) := f_27
  refine lv_aload_n hx hb dX0_init_32 rfl (lv_at hl 0 rfl) ?_
  refine w_size (fun hle => ?_)
  have hz_29 := sz_eq had hz0 hP hS hle
  refine m_new (ci := 11) (fs := [.null, .int (nI 0), .int (nI 0)]) (C := RX8) (T := TX8) (N := 3) hx hb hts bk0 tyX8 tyX8_ok hown (hts (.classLink RX0 9 RX8) (List.mem_of_getElem? (i := 4) rfl)) (hts (.instantiable RX8 3) (List.mem_of_getElem? (i := 5) rfl)) (hts (.initialized RX8) (List.mem_of_getElem? (i := 6) rfl)) hK hP hS hz_29 rfl (fun j hj => by rcases (show j = 0 ∨ j = 1 ∨ j = 2 by omega) with rfl | rfl | rfl <;> rfl) (Nat.le_of_ble_eq_true rfl) (Nat.le_of_ble_eq_true rfl) dX0_init_33 (fun H g_30 f_31 fr_32 hP hS => ?_)
  refine W.cs (cells' := 5) (slots' := 265) (by omega) (by omega) ?_
  have hP : va_P (dC, dI) vwCl (wo ad (n + 5) g_30) H := hP
  have hK := hKA (n + 5)
  have hD := hD0 (n + 5)
  refine lv_dup hx hb dX0_init_36 rfl ?_
  refine lv_bipush (v := nI 64) hx hb dX0_init_37 (by decide +kernel) ?_
  refine w_size (fun hle => ?_)
  have hz_35 := sz_eq had hz0 hP hS hle
  refine va_callv (va_runI (As := [.int (nI 64)]) (rest := [.ref (ad (n + 4)), .ref (ad tt)]) ⟨hx, hb, hml, hown, hts⟩ (c_G8_init l dC dI A ad cA ty (n + 5) g_30 (n + 4) 64 (by omega) f_31 (by decide) (hty _ (by omega))) (cwI 1 hts (goodIn_sub (fun w9 h9 => bk1 w9 h9) gw_G8_init) rfl rfl rfl (hts (.initialized RX8) (List.mem_of_getElem? (i := 6) rfl)) (hts (.methodLink RX0 11 yX8_init) (List.mem_of_getElem? (i := 7) rfl)) (hts (.instanceMethod yX8_init) (List.mem_of_getElem? (i := 8) rfl)) rfl (by decide +kernel) ⟨Nat.le_of_ble_eq_true rfl, Nat.le_of_ble_eq_true rfl⟩) ⟨fun a U g mk q => ⟨q.1, q.2.1, q.2.2.1, q.2.2.2.1, KK.same (u := U) (U := U.calling g mk a) rfl q.2.2.2.2⟩, fun U hU hW => ⟨rfl, by rw [hU]; exact fun q h => hA q (Nat.le_trans hS.1 h), by rw [hU]; exact hz_35, by rw [hU]; exact hP, KK.warm hW hKK⟩⟩ rfl rfl hl.1 rfl (lv_room (Nat.le_of_ble_eq_true rfl)) dX0_init_39 ⟨(Nat.le_of_ble_eq_true rfl), (Nat.le_of_ble_eq_true rfl)⟩) hS (fun q _ h => h) (fun q h => h) (fun u8 t8 H1 locs ht8 hvm8 hw_36 hB hz1 hk1 hS => ?_)
  obtain ⟨g_37, rfl⟩ : ∃ z, z = u8 := ⟨_, rfl⟩
  try dsimp only at hw_36 hB
  rw [ht8] at hB
  generalize H1 = H at hB hS ⊢
  obtain ⟨fr_38, hw_33, hw_34⟩ := hw_36
  refine W.cs (cells' := 6) (slots' := 393) (by omega) (by omega) ?_
  have hP : va_P (dC, dI) vwCl (wo ad (n + 6) g_37) H := hB
  have hK := hKA (n + 6)
  have hD := hD0 (n + 6)
  have f_39 : g_37 tt = .inr (3, [.ref (ad (n + 0)), .ref (ad (n + 2)), .null, .null]) := (fr_38 tt (by omega)).trans ((fr_32 tt (by omega)).trans f_27)
  refine m_putF (D := (dC, dI)) (v := .ref (ad (n + 4))) (tv := .object "GradientDesk$Whole") (C := RX0) (T := TX0) (N := 4) hx hb hts bk2 tyX0 tyX0_ok nmX0 hown hK hP hD hS tt (by omega) f_39 rfl 2 (by decide) (hts (.fieldLink RX0 23 "GradientDesk$Arithmetic" "one" "LGradientDesk$Whole;") (List.mem_of_getElem? (i := 11) rfl)) (fun _ h9 => h9) rfl hin rfl (by decide +kernel) rfl rfl (Nat.le_of_ble_eq_true rfl) dX0_init_42 (fun H locs g_40 f_41 fr_42 hP hS => ?_)
  have f_41 : g_40 tt = .inr (3, [.ref (ad (n + 0)), .ref (ad (n + 2)), .ref (ad (n + 4)), .null]) := f_41
  refine lv_aload_n hx hb dX0_init_45 rfl (lv_at hl 0 rfl) ?_
  refine w_size (fun hle => ?_)
  have hz_43 := sz_eq had hz0 hP hS hle
  refine m_new (ci := 11) (fs := [.null, .int (nI 0), .int (nI 0)]) (C := RX8) (T := TX8) (N := 3) hx hb hts bk0 tyX8 tyX8_ok hown (hts (.classLink RX0 9 RX8) (List.mem_of_getElem? (i := 4) rfl)) (hts (.instantiable RX8 3) (List.mem_of_getElem? (i := 5) rfl)) (hts (.initialized RX8) (List.mem_of_getElem? (i := 6) rfl)) hK hP hS hz_43 rfl (fun j hj => by rcases (show j = 0 ∨ j = 1 ∨ j = 2 by omega) with rfl | rfl | rfl <;> rfl) (Nat.le_of_ble_eq_true rfl) (Nat.le_of_ble_eq_true rfl) dX0_init_46 (fun H g_44 f_45 fr_46 hP hS => ?_)
  refine W.cs (cells' := 7) (slots' := 396) (by omega) (by omega) ?_
  have hP : va_P (dC, dI) vwCl (wo ad (n + 7) g_44) H := hP
  have hK := hKA (n + 7)
  have hD := hD0 (n + 7)
  refine lv_dup hx hb dX0_init_49 rfl ?_
  refine lv_bipush (v := nI 64) hx hb dX0_init_50 (by decide +kernel) ?_
  refine w_size (fun hle => ?_)
  have hz_49 := sz_eq had hz0 hP hS hle
  refine va_callv (va_runI (As := [.int (nI 64)]) (rest := [.ref (ad (n + 6)), .ref (ad tt)]) ⟨hx, hb, hml, hown, hts⟩ (c_G8_init l dC dI A ad cA ty (n + 7) g_44 (n + 6) 64 (by omega) f_45 (by decide) (hty _ (by omega))) (cwI 1 hts (goodIn_sub (fun w9 h9 => bk1 w9 h9) gw_G8_init) rfl rfl rfl (hts (.initialized RX8) (List.mem_of_getElem? (i := 6) rfl)) (hts (.methodLink RX0 11 yX8_init) (List.mem_of_getElem? (i := 7) rfl)) (hts (.instanceMethod yX8_init) (List.mem_of_getElem? (i := 8) rfl)) rfl (by decide +kernel) ⟨Nat.le_of_ble_eq_true rfl, Nat.le_of_ble_eq_true rfl⟩) ⟨fun a U g mk q => ⟨q.1, q.2.1, q.2.2.1, q.2.2.2.1, KK.same (u := U) (U := U.calling g mk a) rfl q.2.2.2.2⟩, fun U hU hW => ⟨rfl, by rw [hU]; exact fun q h => hA q (Nat.le_trans hS.1 h), by rw [hU]; exact hz_49, by rw [hU]; exact hP, KK.warm hW hKK⟩⟩ rfl rfl hl.1 rfl (lv_room (Nat.le_of_ble_eq_true rfl)) dX0_init_52 ⟨(Nat.le_of_ble_eq_true rfl), (Nat.le_of_ble_eq_true rfl)⟩) hS (fun q _ h => h) (fun q h => h) (fun u8 t8 H1 locs ht8 hvm8 hw_50 hB hz1 hk1 hS => ?_)
  obtain ⟨g_51, rfl⟩ : ∃ z, z = u8 := ⟨_, rfl⟩
  try dsimp only at hw_50 hB
  rw [ht8] at hB
  generalize H1 = H at hB hS ⊢
  obtain ⟨fr_52, hw_47, hw_48⟩ := hw_50
  refine W.cs (cells' := 8) (slots' := 524) (by omega) (by omega) ?_
  have hP : va_P (dC, dI) vwCl (wo ad (n + 8) g_51) H := hB
  have hK := hKA (n + 8)
  have hD := hD0 (n + 8)
  have f_53 : g_51 tt = .inr (3, [.ref (ad (n + 0)), .ref (ad (n + 2)), .ref (ad (n + 4)), .null]) := (fr_52 tt (by omega)).trans ((fr_46 tt (by omega)).trans f_41)
  refine m_putF (D := (dC, dI)) (v := .ref (ad (n + 6))) (tv := .object "GradientDesk$Whole") (C := RX0) (T := TX0) (N := 4) hx hb hts bk2 tyX0 tyX0_ok nmX0 hown hK hP hD hS tt (by omega) f_53 rfl 3 (by decide) (hts (.fieldLink RX0 26 "GradientDesk$Arithmetic" "other" "LGradientDesk$Whole;") (List.mem_of_getElem? (i := 12) rfl)) (fun _ h9 => h9) rfl hin rfl (by decide +kernel) rfl rfl (Nat.le_of_ble_eq_true rfl) dX0_init_55 (fun H locs g_54 f_55 fr_56 hP hS => ?_)
  have f_55 : g_54 tt = .inr (3, [.ref (ad (n + 0)), .ref (ad (n + 2)), .ref (ad (n + 4)), .ref (ad (n + 6))]) := f_55
  have f_57 : g_54 (n + 0) = .inr (11, [.ref (ad (n + 1)), .int (nI 0), .int (nI 0)]) := (fr_56 (n + 0) (by omega)).trans ((fr_52 (n + 0) (by omega)).trans ((fr_46 (n + 0) (by omega)).trans ((fr_42 (n + 0) (by omega)).trans ((fr_38 (n + 0) (by omega)).trans ((fr_32 (n + 0) (by omega)).trans ((fr_28 (n + 0) (by omega)).trans ((fr_24 (n + 0) (by omega)).trans ((fr_18 (n + 0) (by omega)).trans ((fr_14 (n + 0) (by omega)).trans hw_5)))))))))
  have f_58 : g_54 (n + 1) = .inl (cA (n + 1), 128, .inl (fun _ => 0)) := (fr_56 (n + 1) (by omega)).trans ((fr_52 (n + 1) (by omega)).trans ((fr_46 (n + 1) (by omega)).trans ((fr_42 (n + 1) (by omega)).trans ((fr_38 (n + 1) (by omega)).trans ((fr_32 (n + 1) (by omega)).trans ((fr_28 (n + 1) (by omega)).trans ((fr_24 (n + 1) (by omega)).trans ((fr_18 (n + 1) (by omega)).trans ((fr_14 (n + 1) (by omega)).trans hw_6)))))))))
  have f_59 : g_54 (n + 2) = .inr (11, [.ref (ad (n + 3)), .int (nI 0), .int (nI 0)]) := (fr_56 (n + 2) (by omega)).trans ((fr_52 (n + 2) (by omega)).trans ((fr_46 (n + 2) (by omega)).trans ((fr_42 (n + 2) (by omega)).trans ((fr_38 (n + 2) (by omega)).trans ((fr_32 (n + 2) (by omega)).trans ((fr_28 (n + 2) (by omega)).trans hw_19))))))
  have f_60 : g_54 (n + 3) = .inl (cA (n + 3), 128, .inl (fun _ => 0)) := (fr_56 (n + 3) (by omega)).trans ((fr_52 (n + 3) (by omega)).trans ((fr_46 (n + 3) (by omega)).trans ((fr_42 (n + 3) (by omega)).trans ((fr_38 (n + 3) (by omega)).trans ((fr_32 (n + 3) (by omega)).trans ((fr_28 (n + 3) (by omega)).trans hw_20))))))
  have f_61 : g_54 (n + 4) = .inr (11, [.ref (ad (n + 5)), .int (nI 0), .int (nI 0)]) := (fr_56 (n + 4) (by omega)).trans ((fr_52 (n + 4) (by omega)).trans ((fr_46 (n + 4) (by omega)).trans ((fr_42 (n + 4) (by omega)).trans hw_33)))
  have f_62 : g_54 (n + 5) = .inl (cA (n + 5), 64, .inl (fun _ => 0)) := (fr_56 (n + 5) (by omega)).trans ((fr_52 (n + 5) (by omega)).trans ((fr_46 (n + 5) (by omega)).trans ((fr_42 (n + 5) (by omega)).trans hw_34)))
  have f_63 : g_54 (n + 6) = .inr (11, [.ref (ad (n + 7)), .int (nI 0), .int (nI 0)]) := (fr_56 (n + 6) (by omega)).trans hw_47
  have f_64 : g_54 (n + 7) = .inl (cA (n + 7), 64, .inl (fun _ => 0)) := (fr_56 (n + 7) (by omega)).trans hw_48
  refine W.widen (k := 8) (n := 524) (by omega) (by omega) ?_
  have hP : va_P (dC, dI) vwCl (wo ad (n + 8) g_54) H := hP
  exact W.vret hx hb hr (fun t9 ht9 hW9 => ⟨⟨g_54, rfl, ⟨(fun (k : Nat) (hk : k < n ∧ k ≠ tt) => (fr_56 k (by omega)).trans ((fr_52 k (by omega)).trans ((fr_46 k (by omega)).trans ((fr_42 k (by omega)).trans ((fr_38 k (by omega)).trans ((fr_32 k (by omega)).trans ((fr_28 k (by omega)).trans ((fr_24 k (by omega)).trans ((fr_18 k (by omega)).trans ((fr_14 k (by omega)).trans ((fr_10 k (by omega)).trans ((fr_4 k (by omega)).trans (rfl))))))))))))), f_55, ⟨f_57, f_58⟩, ⟨f_59, f_60⟩, ⟨f_61, f_62⟩, ⟨f_63, f_64⟩⟩, by show va_P (dC, dI) vwCl _ t9.heap; rw [ht9]; exact hP⟩, hS.F ht9⟩) hS.2.2 dX0_init_58
def wd_G4_init : List Cond := .code yX4_init cX4_init 3 none :: (([.methodLink RX4 3 objectInit, .instanceMethod objectInit, .code objectInit ⟨#[0xb1]⟩ 1 none, .arrayClass .char, .fieldLink RX4 9 "GradientDesk$Reader" "operators" "[C", .arrayClass .int, .fieldLink RX4 15 "GradientDesk$Reader" "kinds" "[I", .fieldLink RX4 19 "GradientDesk$Reader" "firsts" "[I", .fieldLink RX4 22 "GradientDesk$Reader" "seconds" "[I", .fieldLink RX4 25 "GradientDesk$Reader" "operands" "[I", .fieldLink RX4 28 "GradientDesk$Reader" "text" "LGradientDesk$Text;", .fieldLink RX4 32 "GradientDesk$Reader" "shelf" "LGradientDesk$Shelf;"] : List Cond) ++ (u_ws RX4 TX4 10 ++ ([])))
theorem gw_G4_init : wd_G4_init.all goodWord = true := k_allc rfl (k_all (by decide +kernel) (k_all (gu_X4) (rfl)))
set_option maxHeartbeats 8000000 in
set_option maxRecDepth 100000 in
theorem c_G4_init (l : Launch) (dC : Nat → ClassId) (dI : Nat → Nat → Nat) (A : Nat → Prop) (ad : Nat → Nat) (cA : Nat → ClassId) (ty : Nat → FieldType) (n : Nat) (g : Nat → va_E) (tt : Nat) (xt : Nat) (xs : Nat) (htt : tt < n) (hob : g tt = .inr (7, [.null, .null, .null, .null, .null, .null, .null, .int (nI 0), .int (nI 0), .int (nI 0)])) (hc0 : ty (n + 0) = .char) (hty : ∀ k, n + 1 ≤ k ∧ k < n + 5 → ty k = .int) : Met l yX4_init wd_G4_init ({ frames := 10, cells := 5, slots := 576, locals := 200 }) (va_Pc [.ref (ad tt), .ref (ad xt), .ref (ad xs)] (PCR n ty dC dI A ad cA g)) (va_Qv (fun (u : Nat → va_E) => match u with | g2 => (∀ k, k < n ∧ k ≠ tt → g2 k = g k) ∧ g2 tt = .inr (7, [.ref (ad xt), .ref (ad xs), .ref (ad n), .ref (ad (n + 1)), .ref (ad (n + 2)), .ref (ad (n + 3)), .ref (ad (n + 4)), .int (nI 0), .int (nI 0), .int (nI 0)]) ∧ g2 (n + 0) = .inl (cA (n + 0), 64, .inl (fun _ => 0)) ∧ g2 (n + 1) = .inl (cA (n + 1), 128, .inl (fun _ => 0)) ∧ g2 (n + 2) = .inl (cA (n + 2), 128, .inl (fun _ => 0)) ∧ g2 (n + 3) = .inl (cA (n + 3), 128, .inl (fun _ => 0)) ∧ g2 (n + 4) = .inl (cA (n + 4), 128, .inl (fun _ => 0))) (fun (u : Nat → va_E) (t : State) => va_P (dC, dI) vwCl (wo ad (n + 5) u) t.heap) A) (5) (576) A := by
  refine Met.ofW (cc := cX4_init) (maxL := 3) (ret := none) (by decide) rfl ?_
  intro p e s m args below meth c s₁ B hml hv
  obtain ⟨rfl, hA, hz0, hP, hKK⟩ := hv
  obtain ⟨hKA, had, hAd, hE⟩ := id hKK
  have hx := B.exec
  have hb := B.bytes
  have hr := B.returns
  have hts := atoms_spec (ws := wd_G4_init) B.pre
  have hown : s.vm.findClass RX4 = some m.cls := findClass_of_methodNamed B.named
  have hlocks := B.notSynchronized
  have hK := hKA (n + 0)
  have hD0 : ∀ (n : Nat) (g : Nat → va_E), va_D A (wo ad n g) := fun n g => wo_D (fun i j _ _ h => ad_inj had i j h) (fun i _ => hAd i) g
  have hD := hD0 (n + 0)
  have hS : va_S A s.heap s.heap [] := va_S.rf
  have hP : va_P (dC, dI) vwCl (wo ad (n + 0) g) s.heap := hP
  have hin : meth.name = "<init>" := (name_of_methodNamed B.named B.method).1
  have bk0 : ∀ w ∈ u_ws RX4 TX4 10, w ∈ wd_G4_init := fun _ h => List.mem_cons_of_mem _ (List.mem_append_right _ (List.mem_append_left _ h))
  have hl := lv_entry ([.ref (ad tt), .ref (ad xt), .ref (ad xs)]) (n := 3) (Nat.le_of_ble_eq_true rfl)
  rw [lg_entry_eq]
  generalize (lg_sl ([.ref (ad tt), .ref (ad xt), .ref (ad xs)]) ++ List.replicate (3 - (lg_sl ([.ref (ad tt), .ref (ad xt), .ref (ad xs)])).length) Slot.unset).toArray = ls at hl ⊢
  have hl : lv_has ls 3 [(0, .ref (ad tt)), (1, .ref (ad xt)), (2, .ref (ad xs))] := hl
  refine lv_aload_n hx hb dX4_init_0 rfl (lv_at hl 0 rfl) ?_
  refine W.objInit hx hb hown (hts (.methodLink RX4 3 objectInit) (List.mem_of_getElem? (i := 1) rfl)) (hts (.instanceMethod objectInit) (List.mem_of_getElem? (i := 2) rfl)) (hts _ (List.mem_of_getElem? (i := 3) rfl)) rfl (by rw [hml]; exact hl.1) rfl dX4_init_1 (Nat.le_of_ble_eq_true rfl) (Nat.le_of_ble_eq_true rfl) ?_
  refine W.eq (g2 := F0 m 4 ls []) rfl ?_
  refine lv_aload_n hx hb dX4_init_4 rfl (lv_at hl 0 rfl) ?_
  refine lv_bipush (v := nI 64) hx hb dX4_init_5 (by decide +kernel) ?_
  refine w_size (fun hle => ?_)
  have hz_1 := sz_eq had hz0 hP hS hle
  refine m_newa (atype := .char) (t := .char) (N' := 64) (a0 := (64, .inl (fun _ => 0))) hx hb (hts (.arrayClass .char) (List.mem_of_getElem? (i := 4) rfl)) rfl hc0 (hKA _) hP hS hz_1 (fun _ => rfl) (nI_pos (by decide)) (nI_clamp (by decide)) (by decide) (Nat.le_of_ble_eq_true rfl) (Nat.le_of_ble_eq_true rfl) dX4_init_7 (fun H g_2 f_3 fr_4 hP hS => ?_)
  refine W.cs (cells' := 1) (slots' := 64) (by omega) (by omega) ?_
  have hP : va_P (dC, dI) vwCl (wo ad (n + 1) g_2) H := hP
  have hK := hKA (n + 1)
  have hD := hD0 (n + 1)
  have f_5 : g_2 tt = .inr (7, [.null, .null, .null, .null, .null, .null, .null, .int (nI 0), .int (nI 0), .int (nI 0)]) := (fr_4 tt (by omega)).trans hob
  refine m_putF (D := (dC, dI)) (v := .ref (ad (n + 0))) (tv := .array .char) (C := RX4) (T := TX4) (N := 10) hx hb hts bk0 tyX4 tyX4_ok nmX4 hown hK hP hD hS tt (by omega) f_5 rfl 2 (by decide) (hts (.fieldLink RX4 9 "GradientDesk$Reader" "operators" "[C") (List.mem_of_getElem? (i := 5) rfl)) (fun _ h9 => h9) rfl hin rfl (by decide +kernel) rfl rfl (Nat.le_of_ble_eq_true rfl) dX4_init_9 (fun H locs g_6 f_7 fr_8 hP hS => ?_)
  have f_7 : g_6 tt = .inr (7, [.null, .null, .ref (ad (n + 0)), .null, .null, .null, .null, .int (nI 0), .int (nI 0), .int (nI 0)]) := f_7
  refine lv_aload_n hx hb dX4_init_12 rfl (lv_at hl 0 rfl) ?_
  refine lv_sipush (v := nI 128) hx hb dX4_init_13 (by decide +kernel) ?_
  refine w_size (fun hle => ?_)
  have hz_9 := sz_eq had hz0 hP hS hle
  refine m_newa (atype := .int) (t := .int) (N' := 128) (a0 := (128, .inl (fun _ => 0))) hx hb (hts (.arrayClass .int) (List.mem_of_getElem? (i := 6) rfl)) rfl (hty _ (by omega)) (hKA _) hP hS hz_9 (fun _ => rfl) (nI_pos (by decide)) (nI_clamp (by decide)) (by decide) (Nat.le_of_ble_eq_true rfl) (Nat.le_of_ble_eq_true rfl) dX4_init_16 (fun H g_10 f_11 fr_12 hP hS => ?_)
  refine W.cs (cells' := 2) (slots' := 192) (by omega) (by omega) ?_
  have hP : va_P (dC, dI) vwCl (wo ad (n + 2) g_10) H := hP
  have hK := hKA (n + 2)
  have hD := hD0 (n + 2)
  have f_13 : g_10 tt = .inr (7, [.null, .null, .ref (ad (n + 0)), .null, .null, .null, .null, .int (nI 0), .int (nI 0), .int (nI 0)]) := (fr_12 tt (by omega)).trans f_7
  refine m_putF (D := (dC, dI)) (v := .ref (ad (n + 1))) (tv := .array .int) (C := RX4) (T := TX4) (N := 10) hx hb hts bk0 tyX4 tyX4_ok nmX4 hown hK hP hD hS tt (by omega) f_13 rfl 3 (by decide) (hts (.fieldLink RX4 15 "GradientDesk$Reader" "kinds" "[I") (List.mem_of_getElem? (i := 7) rfl)) (fun _ h9 => h9) rfl hin rfl (by decide +kernel) rfl rfl (Nat.le_of_ble_eq_true rfl) dX4_init_18 (fun H locs g_14 f_15 fr_16 hP hS => ?_)
  have f_15 : g_14 tt = .inr (7, [.null, .null, .ref (ad (n + 0)), .ref (ad (n + 1)), .null, .null, .null, .int (nI 0), .int (nI 0), .int (nI 0)]) := f_15
  refine lv_aload_n hx hb dX4_init_21 rfl (lv_at hl 0 rfl) ?_
  refine lv_sipush (v := nI 128) hx hb dX4_init_22 (by decide +kernel) ?_
  refine w_size (fun hle => ?_)
  have hz_17 := sz_eq had hz0 hP hS hle
  refine m_newa (atype := .int) (t := .int) (N' := 128) (a0 := (128, .inl (fun _ => 0))) hx hb (hts (.arrayClass .int) (List.mem_of_getElem? (i := 6) rfl)) rfl (hty _ (by omega)) (hKA _) hP hS hz_17 (fun _ => rfl) (nI_pos (by decide)) (nI_clamp (by decide)) (by decide) (Nat.le_of_ble_eq_true rfl) (Nat.le_of_ble_eq_true rfl) dX4_init_25 (fun H g_18 f_19 fr_20 hP hS => ?_)
  refine W.cs (cells' := 3) (slots' := 320) (by omega) (by omega) ?_
  have hP : va_P (dC, dI) vwCl (wo ad (n + 3) g_18) H := hP
  have hK := hKA (n + 3)
  have hD := hD0 (n + 3)
  have f_21 : g_18 tt = .inr (7, [.null, .null, .ref (ad (n + 0)), .ref (ad (n + 1)), .null, .null, .null, .int (nI 0), .int (nI 0), .int (nI 0)]) := (fr_20 tt (by omega)).trans f_15
  refine m_putF (D := (dC, dI)) (v := .ref (ad (n + 2))) (tv := .array .int) (C := RX4) (T := TX4) (N := 10) hx hb hts bk0 tyX4 tyX4_ok nmX4 hown hK hP hD hS tt (by omega) f_21 rfl 4 (by decide) (hts (.fieldLink RX4 19 "GradientDesk$Reader" "firsts" "[I") (List.mem_of_getElem? (i := 8) rfl)) (fun _ h9 => h9) rfl hin rfl (by decide +kernel) rfl rfl (Nat.le_of_ble_eq_true rfl) dX4_init_27 (fun H locs g_22 f_23 fr_24 hP hS => ?_)
  have f_23 : g_22 tt = .inr (7, [.null, .null, .ref (ad (n + 0)), .ref (ad (n + 1)), .ref (ad (n + 2)), .null, .null, .int (nI 0), .int (nI 0), .int (nI 0)]) := f_23
  refine lv_aload_n hx hb dX4_init_30 rfl (lv_at hl 0 rfl) ?_
  refine lv_sipush (v := nI 128) hx hb dX4_init_31 (by decide +kernel) ?_
  refine w_size (fun hle => ?_)
  have hz_25 := sz_eq had hz0 hP hS hle
  refine m_newa (atype := .int) (t := .int) (N' := 128) (a0 := (128, .inl (fun _ => 0))) hx hb (hts (.arrayClass .int) (List.mem_of_getElem? (i := 6) rfl)) rfl (hty _ (by omega)) (hKA _) hP hS hz_25 (fun _ => rfl) (nI_pos (by decide)) (nI_clamp (by decide)) (by decide) (Nat.le_of_ble_eq_true rfl) (Nat.le_of_ble_eq_true rfl) dX4_init_34 (fun H g_26 f_27 fr_28 hP hS => ?_)
  refine W.cs (cells' := 4) (slots' := 448) (by omega) (by omega) ?_
  have hP : va_P (dC, dI) vwCl (wo ad (n + 4) g_26) H := hP
  have hK := hKA (n + 4)
  have hD := hD0 (n + 4)
  have f_29 : g_26 tt = .inr (7, [.null, .null, .ref (ad (n + 0)), .ref (ad (n + 1)), .ref (ad (n + 2)), .null, .null, .int (nI 0), .int (nI 0), .int (nI 0)]) := (fr_28 tt (by omega)).trans f_23
  refine m_putF (D := (dC, dI)) (v := .ref (ad (n + 3))) (tv := .array .int) (C := RX4) (T := TX4) (N := 10) hx hb hts bk0 tyX4 tyX4_ok nmX4 hown hK hP hD hS tt (by omega) f_29 rfl 5 (by decide) (hts (.fieldLink RX4 22 "GradientDesk$Reader" "seconds" "[I") (List.mem_of_getElem? (i := 9) rfl)) (fun _ h9 => h9) rfl hin rfl (by decide +kernel) rfl rfl (Nat.le_of_ble_eq_true rfl) dX4_init_36 (fun H locs g_30 f_31 fr_32 hP hS => ?_)
  have f_31 : g_30 tt = .inr (7, [.null, .null, .ref (ad (n + 0)), .ref (ad (n + 1)), .ref (ad (n + 2)), .ref (ad (n + 3)), .null, .int (nI 0), .int (nI 0), .int (nI 0)]) := f_31
  refine lv_aload_n hx hb dX4_init_39 rfl (lv_at hl 0 rfl) ?_
  refine lv_sipush (v := nI 128) hx hb dX4_init_40 (by decide +kernel) ?_
  refine w_size (fun hle => ?_)
  have hz_33 := sz_eq had hz0 hP hS hle
  refine m_newa (atype := .int) (t := .int) (N' := 128) (a0 := (128, .inl (fun _ => 0))) hx hb (hts (.arrayClass .int) (List.mem_of_getElem? (i := 6) rfl)) rfl (hty _ (by omega)) (hKA _) hP hS hz_33 (fun _ => rfl) (nI_pos (by decide)) (nI_clamp (by decide)) (by decide) (Nat.le_of_ble_eq_true rfl) (Nat.le_of_ble_eq_true rfl) dX4_init_43 (fun H g_34 f_35 fr_36 hP hS => ?_)
  refine W.cs (cells' := 5) (slots' := 576) (by omega) (by omega) ?_
  have hP : va_P (dC, dI) vwCl (wo ad (n + 5) g_34) H := hP
  have hK := hKA (n + 5)
  have hD := hD0 (n + 5)
  have f_37 : g_34 tt = .inr (7, [.null, .null, .ref (ad (n + 0)), .ref (ad (n + 1)), .ref (ad (n + 2)), .ref (ad (n + 3)), .null, .int (nI 0), .int (nI 0), .int (nI 0)]) := (fr_36 tt (by omega)).trans f_31
  refine m_putF (D := (dC, dI)) (v := .ref (ad (n + 4))) (tv := .array .int) (C := RX4) (T := TX4) (N := 10) hx hb hts bk0 tyX4 tyX4_ok nmX4 hown hK hP hD hS tt (by omega) f_37 rfl 6 (by decide) (hts (.fieldLink RX4 25 "GradientDesk$Reader" "operands" "[I") (List.mem_of_getElem? (i := 10) rfl)) (fun _ h9 => h9) rfl hin rfl (by decide +kernel) rfl rfl (Nat.le_of_ble_eq_true rfl) dX4_init_45 (fun H locs g_38 f_39 fr_40 hP hS => ?_)
  have f_39 : g_38 tt = .inr (7, [.null, .null, .ref (ad (n + 0)), .ref (ad (n + 1)), .ref (ad (n + 2)), .ref (ad (n + 3)), .ref (ad (n + 4)), .int (nI 0), .int (nI 0), .int (nI 0)]) := f_39
  refine lv_aload_n hx hb dX4_init_48 rfl (lv_at hl 0 rfl) ?_
  refine lv_aload_n hx hb dX4_init_49 rfl (lv_at hl 1 rfl) ?_
  refine m_putF (D := (dC, dI)) (v := .ref (ad xt)) (tv := .object "GradientDesk$Text") (C := RX4) (T := TX4) (N := 10) hx hb hts bk0 tyX4 tyX4_ok nmX4 hown hK hP hD hS tt (by omega) f_39 rfl 0 (by decide) (hts (.fieldLink RX4 28 "GradientDesk$Reader" "text" "LGradientDesk$Text;") (List.mem_of_getElem? (i := 11) rfl)) (fun _ h9 => h9) rfl hin rfl (by decide +kernel) rfl rfl (Nat.le_of_ble_eq_true rfl) dX4_init_50 (fun H locs g_41 f_42 fr_43 hP hS => ?_)
  have f_42 : g_41 tt = .inr (7, [.ref (ad xt), .null, .ref (ad (n + 0)), .ref (ad (n + 1)), .ref (ad (n + 2)), .ref (ad (n + 3)), .ref (ad (n + 4)), .int (nI 0), .int (nI 0), .int (nI 0)]) := f_42
  refine lv_aload_n hx hb dX4_init_53 rfl (lv_at hl 0 rfl) ?_
  refine lv_aload_n hx hb dX4_init_54 rfl (lv_at hl 2 rfl) ?_
  refine m_putF (D := (dC, dI)) (v := .ref (ad xs)) (tv := .object "GradientDesk$Shelf") (C := RX4) (T := TX4) (N := 10) hx hb hts bk0 tyX4 tyX4_ok nmX4 hown hK hP hD hS tt (by omega) f_42 rfl 1 (by decide) (hts (.fieldLink RX4 32 "GradientDesk$Reader" "shelf" "LGradientDesk$Shelf;") (List.mem_of_getElem? (i := 12) rfl)) (fun _ h9 => h9) rfl hin rfl (by decide +kernel) rfl rfl (Nat.le_of_ble_eq_true rfl) dX4_init_55 (fun H locs g_44 f_45 fr_46 hP hS => ?_)
  have f_45 : g_44 tt = .inr (7, [.ref (ad xt), .ref (ad xs), .ref (ad (n + 0)), .ref (ad (n + 1)), .ref (ad (n + 2)), .ref (ad (n + 3)), .ref (ad (n + 4)), .int (nI 0), .int (nI 0), .int (nI 0)]) := f_45
  have f_47 : g_44 (n + 0) = .inl (cA (n + 0), 64, .inl (fun _ => 0)) := (fr_46 (n + 0) (by omega)).trans ((fr_43 (n + 0) (by omega)).trans ((fr_40 (n + 0) (by omega)).trans ((fr_36 (n + 0) (by omega)).trans ((fr_32 (n + 0) (by omega)).trans ((fr_28 (n + 0) (by omega)).trans ((fr_24 (n + 0) (by omega)).trans ((fr_20 (n + 0) (by omega)).trans ((fr_16 (n + 0) (by omega)).trans ((fr_12 (n + 0) (by omega)).trans ((fr_8 (n + 0) (by omega)).trans f_3))))))))))
  have f_48 : g_44 (n + 1) = .inl (cA (n + 1), 128, .inl (fun _ => 0)) := (fr_46 (n + 1) (by omega)).trans ((fr_43 (n + 1) (by omega)).trans ((fr_40 (n + 1) (by omega)).trans ((fr_36 (n + 1) (by omega)).trans ((fr_32 (n + 1) (by omega)).trans ((fr_28 (n + 1) (by omega)).trans ((fr_24 (n + 1) (by omega)).trans ((fr_20 (n + 1) (by omega)).trans ((fr_16 (n + 1) (by omega)).trans f_11))))))))
  have f_49 : g_44 (n + 2) = .inl (cA (n + 2), 128, .inl (fun _ => 0)) := (fr_46 (n + 2) (by omega)).trans ((fr_43 (n + 2) (by omega)).trans ((fr_40 (n + 2) (by omega)).trans ((fr_36 (n + 2) (by omega)).trans ((fr_32 (n + 2) (by omega)).trans ((fr_28 (n + 2) (by omega)).trans ((fr_24 (n + 2) (by omega)).trans f_19))))))
  have f_50 : g_44 (n + 3) = .inl (cA (n + 3), 128, .inl (fun _ => 0)) := (fr_46 (n + 3) (by omega)).trans ((fr_43 (n + 3) (by omega)).trans ((fr_40 (n + 3) (by omega)).trans ((fr_36 (n + 3) (by omega)).trans ((fr_32 (n + 3) (by omega)).trans f_27))))
  have f_51 : g_44 (n + 4) = .inl (cA (n + 4), 128, .inl (fun _ => 0)) := (fr_46 (n + 4) (by omega)).trans ((fr_43 (n + 4) (by omega)).trans ((fr_40 (n + 4) (by omega)).trans f_35))
  refine W.widen (k := 5) (n := 576) (by omega) (by omega) ?_
  have hP : va_P (dC, dI) vwCl (wo ad (n + 5) g_44) H := hP
  exact W.vret hx hb hr (fun t9 ht9 hW9 => ⟨⟨g_44, rfl, ⟨(fun (k : Nat) (hk : k < n ∧ k ≠ tt) => (fr_46 k (by omega)).trans ((fr_43 k (by omega)).trans ((fr_40 k (by omega)).trans ((fr_36 k (by omega)).trans ((fr_32 k (by omega)).trans ((fr_28 k (by omega)).trans ((fr_24 k (by omega)).trans ((fr_20 k (by omega)).trans ((fr_16 k (by omega)).trans ((fr_12 k (by omega)).trans ((fr_8 k (by omega)).trans ((fr_4 k (by omega)).trans (rfl))))))))))))), f_45, f_47, f_48, f_49, f_50, f_51⟩, by show va_P (dC, dI) vwCl _ t9.heap; rw [ht9]; exact hP⟩, hS.F ht9⟩) hS.2.2 dX4_init_58
def wd_G5_init : List Cond := .code yX5_init cX5_init 2 none :: (([.methodLink RX5 3 objectInit, .instanceMethod objectInit, .code objectInit ⟨#[0xb1]⟩ 1 none, .arrayClass .char, .fieldLink RX5 9 "GradientDesk$Script" "letters" "[C", .arrayClass .int, .fieldLink RX5 15 "GradientDesk$Script" "lengths" "[I", .fieldLink RX5 19 "GradientDesk$Script" "waiting" "[I", .fieldLink RX5 22 "GradientDesk$Script" "places" "[I", .fieldLink RX5 25 "GradientDesk$Script" "digits" "[C", .classLink RX5 28 RX8, .instantiable RX8 3, .initialized RX8, .methodLink RX5 30 yX8_init, .instanceMethod yX8_init, .fieldLink RX5 33 "GradientDesk$Script" "left" "LGradientDesk$Whole;", .fieldLink RX5 37 "GradientDesk$Script" "shelf" "LGradientDesk$Shelf;"] : List Cond) ++ (u_ws RX5 TX5 9 ++ (u_ws RX8 TX8 3 ++ (wd_G8_init ++ ([])))))
theorem gw_G5_init : wd_G5_init.all goodWord = true := k_allc rfl (k_all (by decide +kernel) (k_all (gu_X5) (k_all (gu_X8) (k_all (gw_G8_init) (rfl)))))
set_option maxHeartbeats 8000000 in
set_option maxRecDepth 100000 in
theorem c_G5_init (l : Launch) (dC : Nat → ClassId) (dI : Nat → Nat → Nat) (A : Nat → Prop) (ad : Nat → Nat) (cA : Nat → ClassId) (ty : Nat → FieldType) (n : Nat) (g : Nat → va_E) (tt : Nat) (xs : Nat) (htt : tt < n) (hob : g tt = .inr (8, [.null, .int (nI 0), .null, .null, .null, .null, .null, .null, .int (nI 0)])) (hc0 : ty (n + 0) = .char) (hc4 : ty (n + 4) = .char) (hty : ∀ k, (n + 1 ≤ k ∧ k < n + 4) ∨ (n + 5 ≤ k ∧ k < n + 7) → ty k = .int) : Met l yX5_init wd_G5_init ({ frames := 20, cells := 7, slots := 1216, locals := 400 }) (va_Pc [.ref (ad tt), .ref (ad xs)] (PCR n ty dC dI A ad cA g)) (va_Qv (fun (u : Nat → va_E) => match u with | g2 => (∀ k, k < n ∧ k ≠ tt → g2 k = g k) ∧ g2 tt = .inr (8, [.ref (ad n), .int (nI 0), .ref (ad xs), .ref (ad (n + 1)), .ref (ad (n + 2)), .ref (ad (n + 3)), .ref (ad (n + 4)), .ref (ad (n + 5)), .int (nI 0)]) ∧ g2 (n + 0) = .inl (cA (n + 0), 250, .inl (fun _ => 0)) ∧ g2 (n + 1) = .inl (cA (n + 1), 200, .inl (fun _ => 0)) ∧ g2 (n + 2) = .inl (cA (n + 2), 250, .inl (fun _ => 0)) ∧ g2 (n + 3) = .inl (cA (n + 3), 250, .inl (fun _ => 0)) ∧ g2 (n + 4) = .inl (cA (n + 4), 135, .inl (fun _ => 0)) ∧ WF0 ad cA g2 (n + 5) 13) (fun (u : Nat → va_E) (t : State) => va_P (dC, dI) vwCl (wo ad (n + 7) u) t.heap) A) (7) (1216) A := by
  refine Met.ofW (cc := cX5_init) (maxL := 2) (ret := none) (by decide) rfl ?_
  intro p e s m args below meth c s₁ B hml hv
  obtain ⟨rfl, hA, hz0, hP, hKK⟩ := hv
  obtain ⟨hKA, had, hAd, hE⟩ := id hKK
  have hx := B.exec
  have hb := B.bytes
  have hr := B.returns
  have hts := atoms_spec (ws := wd_G5_init) B.pre
  have hown : s.vm.findClass RX5 = some m.cls := findClass_of_methodNamed B.named
  have hlocks := B.notSynchronized
  have hK := hKA (n + 0)
  have hD0 : ∀ (n : Nat) (g : Nat → va_E), va_D A (wo ad n g) := fun n g => wo_D (fun i j _ _ h => ad_inj had i j h) (fun i _ => hAd i) g
  have hD := hD0 (n + 0)
  have hS : va_S A s.heap s.heap [] := va_S.rf
  have hP : va_P (dC, dI) vwCl (wo ad (n + 0) g) s.heap := hP
  have hin : meth.name = "<init>" := (name_of_methodNamed B.named B.method).1
  have bk0 : ∀ w ∈ u_ws RX5 TX5 9, w ∈ wd_G5_init := fun _ h => List.mem_cons_of_mem _ (List.mem_append_right _ (List.mem_append_left _ h))
  have bk1 : ∀ w ∈ u_ws RX8 TX8 3, w ∈ wd_G5_init := fun _ h => List.mem_cons_of_mem _ (List.mem_append_right _ (List.mem_append_right _ (List.mem_append_left _ h)))
  have bk2 : ∀ w ∈ wd_G8_init, w ∈ wd_G5_init := fun _ h => List.mem_cons_of_mem _ (List.mem_append_right _ (List.mem_append_right _ (List.mem_append_right _ (List.mem_append_left _ h))))
  have hl := lv_entry ([.ref (ad tt), .ref (ad xs)]) (n := 2) (Nat.le_of_ble_eq_true rfl)
  rw [lg_entry_eq]
  generalize (lg_sl ([.ref (ad tt), .ref (ad xs)]) ++ List.replicate (2 - (lg_sl ([.ref (ad tt), .ref (ad xs)])).length) Slot.unset).toArray = ls at hl ⊢
  have hl : lv_has ls 2 [(0, .ref (ad tt)), (1, .ref (ad xs))] := hl
  refine lv_aload_n hx hb dX5_init_0 rfl (lv_at hl 0 rfl) ?_
  refine W.objInit hx hb hown (hts (.methodLink RX5 3 objectInit) (List.mem_of_getElem? (i := 1) rfl)) (hts (.instanceMethod objectInit) (List.mem_of_getElem? (i := 2) rfl)) (hts _ (List.mem_of_getElem? (i := 3) rfl)) rfl (by rw [hml]; exact hl.1) rfl dX5_init_1 (Nat.le_of_ble_eq_true rfl) (Nat.le_of_ble_eq_true rfl) ?_
  refine W.eq (g2 := F0 m 4 ls []) rfl ?_
  refine lv_aload_n hx hb dX5_init_4 rfl (lv_at hl 0 rfl) ?_
  refine lv_sipush (v := nI 250) hx hb dX5_init_5 (by decide +kernel) ?_
  refine w_size (fun hle => ?_)
  have hz_1 := sz_eq had hz0 hP hS hle
  refine m_newa (atype := .char) (t := .char) (N' := 250) (a0 := (250, .inl (fun _ => 0))) hx hb (hts (.arrayClass .char) (List.mem_of_getElem? (i := 4) rfl)) rfl hc0 (hKA _) hP hS hz_1 (fun _ => rfl) (nI_pos (by decide)) (nI_clamp (by decide)) (by decide) (Nat.le_of_ble_eq_true rfl) (Nat.le_of_ble_eq_true rfl) dX5_init_8 (fun H g_2 f_3 fr_4 hP hS => ?_)
  refine W.cs (cells' := 1) (slots' := 250) (by omega) (by omega) ?_
  have hP : va_P (dC, dI) vwCl (wo ad (n + 1) g_2) H := hP
  have hK := hKA (n + 1)
  have hD := hD0 (n + 1)
  have f_5 : g_2 tt = .inr (8, [.null, .int (nI 0), .null, .null, .null, .null, .null, .null, .int (nI 0)]) := (fr_4 tt (by omega)).trans hob
  refine m_putF (D := (dC, dI)) (v := .ref (ad (n + 0))) (tv := .array .char) (C := RX5) (T := TX5) (N := 9) hx hb hts bk0 tyX5 tyX5_ok nmX5 hown hK hP hD hS tt (by omega) f_5 rfl 0 (by decide) (hts (.fieldLink RX5 9 "GradientDesk$Script" "letters" "[C") (List.mem_of_getElem? (i := 5) rfl)) (fun _ h9 => h9) rfl hin rfl (by decide +kernel) rfl rfl (Nat.le_of_ble_eq_true rfl) dX5_init_10 (fun H locs g_6 f_7 fr_8 hP hS => ?_)
  have f_7 : g_6 tt = .inr (8, [.ref (ad (n + 0)), .int (nI 0), .null, .null, .null, .null, .null, .null, .int (nI 0)]) := f_7
  refine lv_aload_n hx hb dX5_init_13 rfl (lv_at hl 0 rfl) ?_
  refine lv_sipush (v := nI 200) hx hb dX5_init_14 (by decide +kernel) ?_
  refine w_size (fun hle => ?_)
  have hz_9 := sz_eq had hz0 hP hS hle
  refine m_newa (atype := .int) (t := .int) (N' := 200) (a0 := (200, .inl (fun _ => 0))) hx hb (hts (.arrayClass .int) (List.mem_of_getElem? (i := 6) rfl)) rfl (hty _ (by omega)) (hKA _) hP hS hz_9 (fun _ => rfl) (nI_pos (by decide)) (nI_clamp (by decide)) (by decide) (Nat.le_of_ble_eq_true rfl) (Nat.le_of_ble_eq_true rfl) dX5_init_17 (fun H g_10 f_11 fr_12 hP hS => ?_)
  refine W.cs (cells' := 2) (slots' := 450) (by omega) (by omega) ?_
  have hP : va_P (dC, dI) vwCl (wo ad (n + 2) g_10) H := hP
  have hK := hKA (n + 2)
  have hD := hD0 (n + 2)
  have f_13 : g_10 tt = .inr (8, [.ref (ad (n + 0)), .int (nI 0), .null, .null, .null, .null, .null, .null, .int (nI 0)]) := (fr_12 tt (by omega)).trans f_7
  refine m_putF (D := (dC, dI)) (v := .ref (ad (n + 1))) (tv := .array .int) (C := RX5) (T := TX5) (N := 9) hx hb hts bk0 tyX5 tyX5_ok nmX5 hown hK hP hD hS tt (by omega) f_13 rfl 3 (by decide) (hts (.fieldLink RX5 15 "GradientDesk$Script" "lengths" "[I") (List.mem_of_getElem? (i := 7) rfl)) (fun _ h9 => h9) rfl hin rfl (by decide +kernel) rfl rfl (Nat.le_of_ble_eq_true rfl) dX5_init_19 (fun H locs g_14 f_15 fr_16 hP hS => ?_)
  have f_15 : g_14 tt = .inr (8, [.ref (ad (n + 0)), .int (nI 0), .null, .ref (ad (n + 1)), .null, .null, .null, .null, .int (nI 0)]) := f_15
  refine lv_aload_n hx hb dX5_init_22 rfl (lv_at hl 0 rfl) ?_
  refine lv_sipush (v := nI 250) hx hb dX5_init_23 (by decide +kernel) ?_
  refine w_size (fun hle => ?_)
  have hz_17 := sz_eq had hz0 hP hS hle
  refine m_newa (atype := .int) (t := .int) (N' := 250) (a0 := (250, .inl (fun _ => 0))) hx hb (hts (.arrayClass .int) (List.mem_of_getElem? (i := 6) rfl)) rfl (hty _ (by omega)) (hKA _) hP hS hz_17 (fun _ => rfl) (nI_pos (by decide)) (nI_clamp (by decide)) (by decide) (Nat.le_of_ble_eq_true rfl) (Nat.le_of_ble_eq_true rfl) dX5_init_26 (fun H g_18 f_19 fr_20 hP hS => ?_)
  refine W.cs (cells' := 3) (slots' := 700) (by omega) (by omega) ?_
  have hP : va_P (dC, dI) vwCl (wo ad (n + 3) g_18) H := hP
  have hK := hKA (n + 3)
  have hD := hD0 (n + 3)
  have f_21 : g_18 tt = .inr (8, [.ref (ad (n + 0)), .int (nI 0), .null, .ref (ad (n + 1)), .null, .null, .null, .null, .int (nI 0)]) := (fr_20 tt (by omega)).trans f_15
  refine m_putF (D := (dC, dI)) (v := .ref (ad (n + 2))) (tv := .array .int) (C := RX5) (T := TX5) (N := 9) hx hb hts bk0 tyX5 tyX5_ok nmX5 hown hK hP hD hS tt (by omega) f_21 rfl 4 (by decide) (hts (.fieldLink RX5 19 "GradientDesk$Script" "waiting" "[I") (List.mem_of_getElem? (i := 8) rfl)) (fun _ h9 => h9) rfl hin rfl (by decide +kernel) rfl rfl (Nat.le_of_ble_eq_true rfl) dX5_init_28 (fun H locs g_22 f_23 fr_24 hP hS => ?_)
  have f_23 : g_22 tt = .inr (8, [.ref (ad (n + 0)), .int (nI 0), .null, .ref (ad (n + 1)), .ref (ad (n + 2)), .null, .null, .null, .int (nI 0)]) := f_23
  refine lv_aload_n hx hb dX5_init_31 rfl (lv_at hl 0 rfl) ?_
  refine lv_sipush (v := nI 250) hx hb dX5_init_32 (by decide +kernel) ?_
  refine w_size (fun hle => ?_)
  have hz_25 := sz_eq had hz0 hP hS hle
  refine m_newa (atype := .int) (t := .int) (N' := 250) (a0 := (250, .inl (fun _ => 0))) hx hb (hts (.arrayClass .int) (List.mem_of_getElem? (i := 6) rfl)) rfl (hty _ (by omega)) (hKA _) hP hS hz_25 (fun _ => rfl) (nI_pos (by decide)) (nI_clamp (by decide)) (by decide) (Nat.le_of_ble_eq_true rfl) (Nat.le_of_ble_eq_true rfl) dX5_init_35 (fun H g_26 f_27 fr_28 hP hS => ?_)
  refine W.cs (cells' := 4) (slots' := 950) (by omega) (by omega) ?_
  have hP : va_P (dC, dI) vwCl (wo ad (n + 4) g_26) H := hP
  have hK := hKA (n + 4)
  have hD := hD0 (n + 4)
  have f_29 : g_26 tt = .inr (8, [.ref (ad (n + 0)), .int (nI 0), .null, .ref (ad (n + 1)), .ref (ad (n + 2)), .null, .null, .null, .int (nI 0)]) := (fr_28 tt (by omega)).trans f_23
  refine m_putF (D := (dC, dI)) (v := .ref (ad (n + 3))) (tv := .array .int) (C := RX5) (T := TX5) (N := 9) hx hb hts bk0 tyX5 tyX5_ok nmX5 hown hK hP hD hS tt (by omega) f_29 rfl 5 (by decide) (hts (.fieldLink RX5 22 "GradientDesk$Script" "places" "[I") (List.mem_of_getElem? (i := 9) rfl)) (fun _ h9 => h9) rfl hin rfl (by decide +kernel) rfl rfl (Nat.le_of_ble_eq_true rfl) dX5_init_37 (fun H locs g_30 f_31 fr_32 hP hS => ?_)
  have f_31 : g_30 tt = .inr (8, [.ref (ad (n + 0)), .int (nI 0), .null, .ref (ad (n + 1)), .ref (ad (n + 2)), .ref (ad (n + 3)), .null, .null, .int (nI 0)]) := f_31
  refine lv_aload_n hx hb dX5_init_40 rfl (lv_at hl 0 rfl) ?_
  refine lv_sipush (v := nI 135) hx hb dX5_init_41 (by decide +kernel) ?_
  refine w_size (fun hle => ?_)
  have hz_33 := sz_eq had hz0 hP hS hle
  refine m_newa (atype := .char) (t := .char) (N' := 135) (a0 := (135, .inl (fun _ => 0))) hx hb (hts (.arrayClass .char) (List.mem_of_getElem? (i := 4) rfl)) rfl hc4 (hKA _) hP hS hz_33 (fun _ => rfl) (nI_pos (by decide)) (nI_clamp (by decide)) (by decide) (Nat.le_of_ble_eq_true rfl) (Nat.le_of_ble_eq_true rfl) dX5_init_44 (fun H g_34 f_35 fr_36 hP hS => ?_)
  refine W.cs (cells' := 5) (slots' := 1085) (by omega) (by omega) ?_
  have hP : va_P (dC, dI) vwCl (wo ad (n + 5) g_34) H := hP
  have hK := hKA (n + 5)
  have hD := hD0 (n + 5)
  have f_37 : g_34 tt = .inr (8, [.ref (ad (n + 0)), .int (nI 0), .null, .ref (ad (n + 1)), .ref (ad (n + 2)), .ref (ad (n + 3)), .null, .null, .int (nI 0)]) := (fr_36 tt (by omega)).trans f_31
  refine m_putF (D := (dC, dI)) (v := .ref (ad (n + 4))) (tv := .array .char) (C := RX5) (T := TX5) (N := 9) hx hb hts bk0 tyX5 tyX5_ok nmX5 hown hK hP hD hS tt (by omega) f_37 rfl 6 (by decide) (hts (.fieldLink RX5 25 "GradientDesk$Script" "digits" "[C") (List.mem_of_getElem? (i := 10) rfl)) (fun _ h9 => h9) rfl hin rfl (by decide +kernel) rfl rfl (Nat.le_of_ble_eq_true rfl) dX5_init_46 (fun H locs g_38 f_39 fr_40 hP hS => ?_)
  have f_39 : g_38 tt = .inr (8, [.ref (ad (n + 0)), .int (nI 0), .null, .ref (ad (n + 1)), .ref (ad (n + 2)), .ref (ad (n + 3)), .ref (ad (n + 4)), .null, .int (nI 0)]) := f_39
  refine lv_aload_n hx hb dX5_init_49 rfl (lv_at hl 0 rfl) ?_
  refine w_size (fun hle => ?_)
  have hz_41 := sz_eq had hz0 hP hS hle
  refine m_new (ci := 11) (fs := [.null, .int (nI 0), .int (nI 0)]) (C := RX8) (T := TX8) (N := 3) hx hb hts bk1 tyX8 tyX8_ok hown (hts (.classLink RX5 28 RX8) (List.mem_of_getElem? (i := 11) rfl)) (hts (.instantiable RX8 3) (List.mem_of_getElem? (i := 12) rfl)) (hts (.initialized RX8) (List.mem_of_getElem? (i := 13) rfl)) hK hP hS hz_41 rfl (fun j hj => by rcases (show j = 0 ∨ j = 1 ∨ j = 2 by omega) with rfl | rfl | rfl <;> rfl) (Nat.le_of_ble_eq_true rfl) (Nat.le_of_ble_eq_true rfl) dX5_init_50 (fun H g_42 f_43 fr_44 hP hS => ?_)
  refine W.cs (cells' := 6) (slots' := 1088) (by omega) (by omega) ?_
  have hP : va_P (dC, dI) vwCl (wo ad (n + 6) g_42) H := hP
  have hK := hKA (n + 6)
  have hD := hD0 (n + 6)
  refine lv_dup hx hb dX5_init_53 rfl ?_
  refine lv_bipush (v := nI 13) hx hb dX5_init_54 (by decide +kernel) ?_
  refine w_size (fun hle => ?_)
  have hz_47 := sz_eq had hz0 hP hS hle
  refine va_callv (va_runI (As := [.int (nI 13)]) (rest := [.ref (ad (n + 5)), .ref (ad tt)]) ⟨hx, hb, hml, hown, hts⟩ (c_G8_init l dC dI A ad cA ty (n + 6) g_42 (n + 5) 13 (by omega) f_43 (by decide) (hty _ (by omega))) (cwI 1 hts (goodIn_sub (fun w9 h9 => bk2 w9 h9) gw_G8_init) rfl rfl rfl (hts (.initialized RX8) (List.mem_of_getElem? (i := 13) rfl)) (hts (.methodLink RX5 30 yX8_init) (List.mem_of_getElem? (i := 14) rfl)) (hts (.instanceMethod yX8_init) (List.mem_of_getElem? (i := 15) rfl)) rfl (by decide +kernel) ⟨Nat.le_of_ble_eq_true rfl, Nat.le_of_ble_eq_true rfl⟩) ⟨fun a U g mk q => ⟨q.1, q.2.1, q.2.2.1, q.2.2.2.1, KK.same (u := U) (U := U.calling g mk a) rfl q.2.2.2.2⟩, fun U hU hW => ⟨rfl, by rw [hU]; exact fun q h => hA q (Nat.le_trans hS.1 h), by rw [hU]; exact hz_47, by rw [hU]; exact hP, KK.warm hW hKK⟩⟩ rfl rfl hl.1 rfl (lv_room (Nat.le_of_ble_eq_true rfl)) dX5_init_56 ⟨(Nat.le_of_ble_eq_true rfl), (Nat.le_of_ble_eq_true rfl)⟩) hS (fun q _ h => h) (fun q h => h) (fun u8 t8 H1 locs ht8 hvm8 hw_48 hB hz1 hk1 hS => ?_)
  obtain ⟨g_49, rfl⟩ : ∃ z, z = u8 := ⟨_, rfl⟩
  try dsimp only at hw_48 hB
  rw [ht8] at hB
  generalize H1 = H at hB hS ⊢
  obtain ⟨fr_50, hw_45, hw_46⟩ := hw_48
  refine W.cs (cells' := 7) (slots' := 1216) (by omega) (by omega) ?_
  have hP : va_P (dC, dI) vwCl (wo ad (n + 7) g_49) H := hB
  have hK := hKA (n + 7)
  have hD := hD0 (n + 7)
  have f_51 : g_49 tt = .inr (8, [.ref (ad (n + 0)), .int (nI 0), .null, .ref (ad (n + 1)), .ref (ad (n + 2)), .ref (ad (n + 3)), .ref (ad (n + 4)), .null, .int (nI 0)]) := (fr_50 tt (by omega)).trans ((fr_44 tt (by omega)).trans f_39)
  refine m_putF (D := (dC, dI)) (v := .ref (ad (n + 5))) (tv := .object "GradientDesk$Whole") (C := RX5) (T := TX5) (N := 9) hx hb hts bk0 tyX5 tyX5_ok nmX5 hown hK hP hD hS tt (by omega) f_51 rfl 7 (by decide) (hts (.fieldLink RX5 33 "GradientDesk$Script" "left" "LGradientDesk$Whole;") (List.mem_of_getElem? (i := 16) rfl)) (fun _ h9 => h9) rfl hin rfl (by decide +kernel) rfl rfl (Nat.le_of_ble_eq_true rfl) dX5_init_59 (fun H locs g_52 f_53 fr_54 hP hS => ?_)
  have f_53 : g_52 tt = .inr (8, [.ref (ad (n + 0)), .int (nI 0), .null, .ref (ad (n + 1)), .ref (ad (n + 2)), .ref (ad (n + 3)), .ref (ad (n + 4)), .ref (ad (n + 5)), .int (nI 0)]) := f_53
  refine lv_aload_n hx hb dX5_init_62 rfl (lv_at hl 0 rfl) ?_
  refine lv_aload_n hx hb dX5_init_63 rfl (lv_at hl 1 rfl) ?_
  refine m_putF (D := (dC, dI)) (v := .ref (ad xs)) (tv := .object "GradientDesk$Shelf") (C := RX5) (T := TX5) (N := 9) hx hb hts bk0 tyX5 tyX5_ok nmX5 hown hK hP hD hS tt (by omega) f_53 rfl 2 (by decide) (hts (.fieldLink RX5 37 "GradientDesk$Script" "shelf" "LGradientDesk$Shelf;") (List.mem_of_getElem? (i := 17) rfl)) (fun _ h9 => h9) rfl hin rfl (by decide +kernel) rfl rfl (Nat.le_of_ble_eq_true rfl) dX5_init_64 (fun H locs g_55 f_56 fr_57 hP hS => ?_)
  have f_56 : g_55 tt = .inr (8, [.ref (ad (n + 0)), .int (nI 0), .ref (ad xs), .ref (ad (n + 1)), .ref (ad (n + 2)), .ref (ad (n + 3)), .ref (ad (n + 4)), .ref (ad (n + 5)), .int (nI 0)]) := f_56
  have f_58 : g_55 (n + 0) = .inl (cA (n + 0), 250, .inl (fun _ => 0)) := (fr_57 (n + 0) (by omega)).trans ((fr_54 (n + 0) (by omega)).trans ((fr_50 (n + 0) (by omega)).trans ((fr_44 (n + 0) (by omega)).trans ((fr_40 (n + 0) (by omega)).trans ((fr_36 (n + 0) (by omega)).trans ((fr_32 (n + 0) (by omega)).trans ((fr_28 (n + 0) (by omega)).trans ((fr_24 (n + 0) (by omega)).trans ((fr_20 (n + 0) (by omega)).trans ((fr_16 (n + 0) (by omega)).trans ((fr_12 (n + 0) (by omega)).trans ((fr_8 (n + 0) (by omega)).trans f_3))))))))))))
  have f_59 : g_55 (n + 1) = .inl (cA (n + 1), 200, .inl (fun _ => 0)) := (fr_57 (n + 1) (by omega)).trans ((fr_54 (n + 1) (by omega)).trans ((fr_50 (n + 1) (by omega)).trans ((fr_44 (n + 1) (by omega)).trans ((fr_40 (n + 1) (by omega)).trans ((fr_36 (n + 1) (by omega)).trans ((fr_32 (n + 1) (by omega)).trans ((fr_28 (n + 1) (by omega)).trans ((fr_24 (n + 1) (by omega)).trans ((fr_20 (n + 1) (by omega)).trans ((fr_16 (n + 1) (by omega)).trans f_11))))))))))
  have f_60 : g_55 (n + 2) = .inl (cA (n + 2), 250, .inl (fun _ => 0)) := (fr_57 (n + 2) (by omega)).trans ((fr_54 (n + 2) (by omega)).trans ((fr_50 (n + 2) (by omega)).trans ((fr_44 (n + 2) (by omega)).trans ((fr_40 (n + 2) (by omega)).trans ((fr_36 (n + 2) (by omega)).trans ((fr_32 (n + 2) (by omega)).trans ((fr_28 (n + 2) (by omega)).trans ((fr_24 (n + 2) (by omega)).trans f_19))))))))
  have f_61 : g_55 (n + 3) = .inl (cA (n + 3), 250, .inl (fun _ => 0)) := (fr_57 (n + 3) (by omega)).trans ((fr_54 (n + 3) (by omega)).trans ((fr_50 (n + 3) (by omega)).trans ((fr_44 (n + 3) (by omega)).trans ((fr_40 (n + 3) (by omega)).trans ((fr_36 (n + 3) (by omega)).trans ((fr_32 (n + 3) (by omega)).trans f_27))))))
  have f_62 : g_55 (n + 4) = .inl (cA (n + 4), 135, .inl (fun _ => 0)) := (fr_57 (n + 4) (by omega)).trans ((fr_54 (n + 4) (by omega)).trans ((fr_50 (n + 4) (by omega)).trans ((fr_44 (n + 4) (by omega)).trans ((fr_40 (n + 4) (by omega)).trans f_35))))
  have f_63 : g_55 (n + 5) = .inr (11, [.ref (ad (n + 6)), .int (nI 0), .int (nI 0)]) := (fr_57 (n + 5) (by omega)).trans ((fr_54 (n + 5) (by omega)).trans hw_45)
  have f_64 : g_55 (n + 6) = .inl (cA (n + 6), 13, .inl (fun _ => 0)) := (fr_57 (n + 6) (by omega)).trans ((fr_54 (n + 6) (by omega)).trans hw_46)
  refine W.widen (k := 7) (n := 1216) (by omega) (by omega) ?_
  have hP : va_P (dC, dI) vwCl (wo ad (n + 7) g_55) H := hP
  exact W.vret hx hb hr (fun t9 ht9 hW9 => ⟨⟨g_55, rfl, ⟨(fun (k : Nat) (hk : k < n ∧ k ≠ tt) => (fr_57 k (by omega)).trans ((fr_54 k (by omega)).trans ((fr_50 k (by omega)).trans ((fr_44 k (by omega)).trans ((fr_40 k (by omega)).trans ((fr_36 k (by omega)).trans ((fr_32 k (by omega)).trans ((fr_28 k (by omega)).trans ((fr_24 k (by omega)).trans ((fr_20 k (by omega)).trans ((fr_16 k (by omega)).trans ((fr_12 k (by omega)).trans ((fr_8 k (by omega)).trans ((fr_4 k (by omega)).trans (rfl))))))))))))))), f_56, f_58, f_59, f_60, f_61, f_62, ⟨f_63, f_64⟩⟩, by show va_P (dC, dI) vwCl _ t9.heap; rw [ht9]; exact hP⟩, hS.F ht9⟩) hS.2.2 dX5_init_67
