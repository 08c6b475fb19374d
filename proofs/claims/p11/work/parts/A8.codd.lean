def wd_V0_oddDivisor : List Cond := .code yX0_oddDivisor cX0_oddDivisor 9 (some (.object "GradientDesk$Whole")) :: (([.fieldLink RX0 23 "GradientDesk$Arithmetic" "one" "LGradientDesk$Whole;", .methodLink RX0 80 yX8_become, .instanceMethod yX8_become, .selects RX8 yX8_become yX8_become, .initialized RX8, .fieldLink RX0 26 "GradientDesk$Arithmetic" "other" "LGradientDesk$Whole;", .fieldLink RX0 83 "GradientDesk$Whole" "below" "Z", .methodLink RX0 59 yX8_lowZeros, .instanceMethod yX8_lowZeros, .selects RX8 yX8_lowZeros yX8_lowZeros, .methodLink RX0 69 yX8_shiftDown, .instanceMethod yX8_shiftDown, .selects RX8 yX8_shiftDown yX8_shiftDown, .methodLink RX0 87 yX8_bitLength, .instanceMethod yX8_bitLength, .selects RX8 yX8_bitLength yX8_bitLength, .methodLink RX0 90 yX8_orderOfSizes, .instanceMethod yX8_orderOfSizes, .selects RX8 yX8_orderOfSizes yX8_orderOfSizes, .methodLink RX0 93 yX8_isOne, .instanceMethod yX8_isOne, .selects RX8 yX8_isOne yX8_isOne, .methodLink RX0 96 yX8_takeSizes, .instanceMethod yX8_takeSizes, .selects RX8 yX8_takeSizes yX8_takeSizes] : List Cond) ++ (u_ws RX0 TX0 4 ++ (wd_V8_become ++ (u_ws RX8 TX8 3 ++ (wd_V8_lowZeros ++ (wd_V8_shiftDown ++ (wd_V8_bitLength ++ (wd_V8_order ++ (wd_V8_isOne ++ (wd_V8_take2 ++ ([])))))))))))
theorem gw_V0_oddDivisor : wd_V0_oddDivisor.all goodWord = true := k_allc rfl (k_all (by decide +kernel) (k_all (gu_X0) (k_all (gw_V8_become) (k_all (gu_X8) (k_all (gw_V8_lowZeros) (k_all (gw_V8_shiftDown) (k_all (gw_V8_bitLength) (k_all (gw_V8_order) (k_all (gw_V8_isOne) (k_all (gw_V8_take2) (rfl)))))))))))
set_option maxHeartbeats 4000000 in
set_option maxRecDepth 100000 in
theorem c_V0_oddDivisor (l : Launch) (dC : Nat → ClassId) (dI : Nat → Nat → Nat) (A : Nat → Prop) (ad : Nat → Nat) (cA : Nat → ClassId) (g : Nat → va_E) (p9 : Int) (q9 : Int) (a9 : Nat) (u9 : Nat) (b9 : Nat) (x9 : Nat) (hAW : AW ad cA g) (hAr : g 2077 = .inr (3, [.ref (ad (2 * 0)), .ref (ad (2 * 1)), .ref (ad (2 * 2)), .ref (ad (2 * 3))])) (w4 : WV ad cA g 4 p9) (w5 : WV ad cA g 5 q9) (hp9 : p9.natAbs = 2 ^ a9 * (2 * u9 + 1)) (hq9 : q9.natAbs = 2 ^ b9 * (2 * x9 + 1)) (hq0 : 0 < q9) : Met l yX0_oddDivisor wd_V0_oddDivisor ({ frames := 30, cells := 0, slots := 0, locals := 600 }) (va_Pc [.ref (ad 2077), .ref (ad (2 * 4)), .ref (ad (2 * 5))] (PR NSc tyc dC dI A ad cA g)) (va_Qr (fun (u : (Nat → va_E) × Nat) => match u with | (g2, qr) => (∀ k, 8 ≤ k → g2 k = g k) ∧ AW ad cA g2 ∧ (qr = 2 ∨ qr = 3) ∧ WV ad cA g2 qr ((Nat.gcd (2 * u9 + 1) (2 * x9 + 1) : Nat) : Int)) (fun (u : (Nat → va_E) × Nat) (ra : Nat) (t : State) => (match u with | (g2, qr) => ra = ad (2 * qr)) ∧ va_P (dC, dI) vwCl (wo ad NSc u.1) t.heap) A) (0) (0) A := by
  refine Met.ofW (cc := cX0_oddDivisor) (maxL := 9) (ret := (some (.object "GradientDesk$Whole"))) (by decide) rfl ?_
  intro p e s m args below meth c s₁ B hml hv
  obtain ⟨rfl, hA, hP, hL⟩ := hv
  have hx := B.exec
  have hb := B.bytes
  have hr := B.returns
  have hts := atoms_spec (ws := wd_V0_oddDivisor) B.pre
  have hown : s.vm.findClass RX0 = some m.cls := findClass_of_methodNamed B.named
  have hlocks := B.notSynchronized
  have hK := hL.1
  have hD : ∀ g, va_D A (wo ad NSc g) := fun g => wo_D hL.2.1 hL.2.2 g
  have hS : va_S A s.heap s.heap [] := va_S.rf
  have bk0 : ∀ w ∈ u_ws RX0 TX0 4, w ∈ wd_V0_oddDivisor := fun _ h => List.mem_cons_of_mem _ (List.mem_append_right _ (List.mem_append_left _ h))
  have bk1 : ∀ w ∈ wd_V8_become, w ∈ wd_V0_oddDivisor := fun _ h => List.mem_cons_of_mem _ (List.mem_append_right _ (List.mem_append_right _ (List.mem_append_left _ h)))
  have bk2 : ∀ w ∈ u_ws RX8 TX8 3, w ∈ wd_V0_oddDivisor := fun _ h => List.mem_cons_of_mem _ (List.mem_append_right _ (List.mem_append_right _ (List.mem_append_right _ (List.mem_append_left _ h))))
  have bk3 : ∀ w ∈ wd_V8_lowZeros, w ∈ wd_V0_oddDivisor := fun _ h => List.mem_cons_of_mem _ (List.mem_append_right _ (List.mem_append_right _ (List.mem_append_right _ (List.mem_append_right _ (List.mem_append_left _ h)))))
  have bk4 : ∀ w ∈ wd_V8_shiftDown, w ∈ wd_V0_oddDivisor := fun _ h => List.mem_cons_of_mem _ (List.mem_append_right _ (List.mem_append_right _ (List.mem_append_right _ (List.mem_append_right _ (List.mem_append_right _ (List.mem_append_left _ h))))))
  have bk5 : ∀ w ∈ wd_V8_bitLength, w ∈ wd_V0_oddDivisor := fun _ h => List.mem_cons_of_mem _ (List.mem_append_right _ (List.mem_append_right _ (List.mem_append_right _ (List.mem_append_right _ (List.mem_append_right _ (List.mem_append_right _ (List.mem_append_left _ h)))))))
  have bk6 : ∀ w ∈ wd_V8_order, w ∈ wd_V0_oddDivisor := fun _ h => List.mem_cons_of_mem _ (List.mem_append_right _ (List.mem_append_right _ (List.mem_append_right _ (List.mem_append_right _ (List.mem_append_right _ (List.mem_append_right _ (List.mem_append_right _ (List.mem_append_left _ h))))))))
  have bk7 : ∀ w ∈ wd_V8_isOne, w ∈ wd_V0_oddDivisor := fun _ h => List.mem_cons_of_mem _ (List.mem_append_right _ (List.mem_append_right _ (List.mem_append_right _ (List.mem_append_right _ (List.mem_append_right _ (List.mem_append_right _ (List.mem_append_right _ (List.mem_append_right _ (List.mem_append_left _ h)))))))))
  have bk8 : ∀ w ∈ wd_V8_take2, w ∈ wd_V0_oddDivisor := fun _ h => List.mem_cons_of_mem _ (List.mem_append_right _ (List.mem_append_right _ (List.mem_append_right _ (List.mem_append_right _ (List.mem_append_right _ (List.mem_append_right _ (List.mem_append_right _ (List.mem_append_right _ (List.mem_append_right _ (List.mem_append_left _ h))))))))))
  have hl := lv_entry ([.ref (ad 2077), .ref (ad (2 * 4)), .ref (ad (2 * 5))]) (n := 9) (Nat.le_of_ble_eq_true rfl)
  rw [lg_entry_eq]
  generalize (lg_sl ([.ref (ad 2077), .ref (ad (2 * 4)), .ref (ad (2 * 5))]) ++ List.replicate (9 - (lg_sl ([.ref (ad 2077), .ref (ad (2 * 4)), .ref (ad (2 * 5))])).length) Slot.unset).toArray = ls at hl ⊢
  have hl : lv_has ls 9 [(0, .ref (ad 2077)), (1, .ref (ad (2 * 4))), (2, .ref (ad (2 * 5)))] := hl
  have f4 := w4.fit
  have f5 := w5.fit
  have hpp : 0 < p9.natAbs := by rw [hp9]; exact Nat.mul_pos (Nat.pow_pos (by decide)) (by omega)
  have hqq : 0 < q9.natAbs := by rw [hq9]; exact Nat.mul_pos (Nat.pow_pos (by decide)) (by omega)
  refine lv_aload_n hx hb dX0_oddDivisor_0 rfl (lv_at hl 0 rfl) ?_
  refine m_get (D := (dC, dI)) (v := .ref (ad (2 * 2))) (C := RX0) (T := TX0) (N := 4) hx hb hts bk0 hown hK hP 2077 (by decide) hAr rfl 2 (by decide) (hts (.fieldLink RX0 23 "GradientDesk$Arithmetic" "one" "LGradientDesk$Whole;") (List.mem_of_getElem? (i := 1) rfl)) (fun _ h9 => h9) rfl dX0_oddDivisor_1 ?_
  refine lv_aload_n hx hb dX0_oddDivisor_4 rfl (lv_at hl 1 rfl) ?_
  obtain ⟨mw_1, sw_1, nw_1, fw_1, aw_1, bw_1, cw_1, dw_1, ew_1⟩ := hAW 2 (by omega)
  have qw_1 : mw_1 ≤ 4096 := by rw [dw_1]; exact rmc_le _
  refine va_callv (va_runV (As := [.ref (ad (2 * 4))]) (rest := []) ⟨hx, hb, hml, hown, hts⟩ (c_V8_become l dC dI A ad cA g 2 4 p9 hAW (by decide) (by decide) w4 (by decide) f4) (cwV 1 hts (goodIn_app (goodIn_r [Cond.methodLink RX0 80 yX8_become, Cond.instanceMethod yX8_become, Cond.selects RX8 yX8_become yX8_become, Cond.initialized RX8] [2, 3, 4, 5] rfl rfl) (goodIn_sub (fun w9 h9 => bk1 w9 h9) gw_V8_become)) rfl rfl rfl (by decide +kernel) ⟨Nat.le_of_ble_eq_true rfl, Nat.le_of_ble_eq_true rfl⟩) ⟨fun a U g mk q => ⟨q.1, q.2.1, q.2.2.1, LY.moved (u := U) (U := U.calling g mk a) (Vm.Alike.refl U.vm) q.2.2.2⟩, va_recv hK hP (ci := 11) (q0 := (2 * 2)) rfl (wo_at (ns_w (by omega)) aw_1), fun U hU hW => ⟨rfl, by rw [hU]; exact fun q h => hA q (Nat.le_trans hS.1 h), by rw [hU]; exact hP, LY.moved hW.alike hL⟩⟩ rfl rfl hl.1 rfl (lv_room (Nat.le_of_ble_eq_true rfl)) dX0_oddDivisor_5 ⟨(Nat.le_of_ble_eq_true rfl), (Nat.le_of_ble_eq_true rfl)⟩) hS (fun q _ h => h) (fun q h => h) (fun u8 t8 H1 locs ht8 hvm8 hw_4 hB hz1 hk1 hS => ?_)
  obtain ⟨g_5, rfl⟩ : ∃ z, z = u8 := ⟨_, rfl⟩
  try dsimp only at hw_4 hB
  rw [ht8] at hB
  have hP := hB
  generalize H1 = H at hP hS ⊢
  obtain ⟨fr_6, hAW_2, hv_3⟩ := hw_4
  refine lv_aload_n hx hb dX0_oddDivisor_8 rfl (lv_at hl 0 rfl) ?_
  have f_7 : g_5 2077 = .inr (3, [.ref (ad (2 * 0)), .ref (ad (2 * 1)), .ref (ad (2 * 2)), .ref (ad (2 * 3))]) := (fr_6 2077 (by omega)).trans hAr
  refine m_get (D := (dC, dI)) (v := .ref (ad (2 * 3))) (C := RX0) (T := TX0) (N := 4) hx hb hts bk0 hown hK hP 2077 (by decide) f_7 rfl 3 (by decide) (hts (.fieldLink RX0 26 "GradientDesk$Arithmetic" "other" "LGradientDesk$Whole;") (List.mem_of_getElem? (i := 6) rfl)) (fun _ h9 => h9) rfl dX0_oddDivisor_9 ?_
  refine lv_aload_n hx hb dX0_oddDivisor_12 rfl (lv_at hl 2 rfl) ?_
  obtain ⟨mw_8, sw_8, nw_8, fw_8, aw_8, bw_8, cw_8, dw_8, ew_8⟩ := hAW_2 3 (by omega)
  have qw_8 : mw_8 ≤ 4096 := by rw [dw_8]; exact rmc_le _
  have hv_9 : WV ad cA g_5 5 q9 := WV.same w5 ((fun (k : Nat) (hk : k = 2 * 5 ∨ k = 2 * 5 + 1) => (fr_6 k (by omega)).trans (rfl)) _ (Or.inl rfl)) ((fun (k : Nat) (hk : k = 2 * 5 ∨ k = 2 * 5 + 1) => (fr_6 k (by omega)).trans (rfl)) _ (Or.inr rfl))
  refine va_callv (va_runV (As := [.ref (ad (2 * 5))]) (rest := []) ⟨hx, hb, hml, hown, hts⟩ (c_V8_become l dC dI A ad cA g_5 3 5 q9 hAW_2 (by decide) (by decide) hv_9 (by decide) f5) (cwV 1 hts (goodIn_app (goodIn_r [Cond.methodLink RX0 80 yX8_become, Cond.instanceMethod yX8_become, Cond.selects RX8 yX8_become yX8_become, Cond.initialized RX8] [2, 3, 4, 5] rfl rfl) (goodIn_sub (fun w9 h9 => bk1 w9 h9) gw_V8_become)) rfl rfl rfl (by decide +kernel) ⟨Nat.le_of_ble_eq_true rfl, Nat.le_of_ble_eq_true rfl⟩) ⟨fun a U g mk q => ⟨q.1, q.2.1, q.2.2.1, LY.moved (u := U) (U := U.calling g mk a) (Vm.Alike.refl U.vm) q.2.2.2⟩, va_recv hK hP (ci := 11) (q0 := (2 * 3)) rfl (wo_at (ns_w (by omega)) aw_8), fun U hU hW => ⟨rfl, by rw [hU]; exact fun q h => hA q (Nat.le_trans hS.1 h), by rw [hU]; exact hP, LY.moved hW.alike hL⟩⟩ rfl rfl hl.1 rfl (lv_room (Nat.le_of_ble_eq_true rfl)) dX0_oddDivisor_13 ⟨(Nat.le_of_ble_eq_true rfl), (Nat.le_of_ble_eq_true rfl)⟩) hS (fun q _ h => h) (fun q h => h) (fun u8 t8 H1 locs ht8 hvm8 hw_12 hB hz1 hk1 hS => ?_)
  obtain ⟨g_13, rfl⟩ : ∃ z, z = u8 := ⟨_, rfl⟩
  try dsimp only at hw_12 hB
  rw [ht8] at hB
  have hP := hB
  generalize H1 = H at hP hS ⊢
  obtain ⟨fr_14, hAW_10, hv_11⟩ := hw_12
  have hv_15 : WV ad cA g_13 2 p9 := WV.same hv_3 ((fun (k : Nat) (hk : k = 2 * 2 ∨ k = 2 * 2 + 1) => (fr_14 k (by omega)).trans (rfl)) _ (Or.inl rfl)) ((fun (k : Nat) (hk : k = 2 * 2 ∨ k = 2 * 2 + 1) => (fr_14 k (by omega)).trans (rfl)) _ (Or.inr rfl))
  have h29 := hv_15
  obtain ⟨sz9, nz9, fz9, ⟨az9, bz9, uz9, cz9, ez9⟩, rz9, gz9⟩ := h29
  have qz9 := rmc_le 2
  refine lv_aload_n hx hb dX0_oddDivisor_16 rfl (lv_at hl 0 rfl) ?_
  have f_16 : g_13 2077 = .inr (3, [.ref (ad (2 * 0)), .ref (ad (2 * 1)), .ref (ad (2 * 2)), .ref (ad (2 * 3))]) := (fr_14 2077 (by omega)).trans f_7
  refine m_get (D := (dC, dI)) (v := .ref (ad (2 * 2))) (C := RX0) (T := TX0) (N := 4) hx hb hts bk0 hown hK hP 2077 (by decide) f_16 rfl 2 (by decide) (hts (.fieldLink RX0 23 "GradientDesk$Arithmetic" "one" "LGradientDesk$Whole;") (List.mem_of_getElem? (i := 1) rfl)) (fun _ h9 => h9) rfl dX0_oddDivisor_17 ?_
  refine lv_iconst (v := nI 0) hx hb dX0_oddDivisor_20 (by decide +kernel) ?_
  refine m_put (D := (dC, dI)) (v := .int (nI 0)) (tv := .boolean) (C := RX8) (T := TX8) (N := 3) hx hb hts bk2 tyX8 tyX8_ok nmX8 hown hK hP hD hS (2 * 2) (ns_w (by omega)) az9 rfl 2 (by decide) (hts (.fieldLink RX0 83 "GradientDesk$Whole" "below" "Z") (List.mem_of_getElem? (i := 7) rfl)) (fun _ h9 => h9) rfl (by decide +kernel) (by decide +kernel) (by decide +kernel) (Nat.le_of_ble_eq_true rfl) dX0_oddDivisor_21 (fun H locs g_17 f_18 fr_19 hP hS => ?_)
  have f_18 : g_17 (2 * 2) = .inr (11, [.ref (ad (2 * 2 + 1)), .int (nI sz9), .int (nI 0)]) := f_18
  have f_20 : g_17 (2 * 2 + 1) = .inl (cA (2 * 2 + 1), rmc 2, .inl (fun j => nI (fz9 j))) := (fr_19 (2 * 2 + 1) (by omega)).trans bz9
  have hw2 : WN ad cA g_17 2 sz9 0 fz9 := ⟨f_18, f_20, uz9, cz9, by decide⟩
  have hAW_21 : AW ad cA g_17 := hw2.aw hAW_10 (fun (k : Nat) (hk : k ≠ 2 * 2 ∧ k ≠ 2 * 2 + 1) => (fr_19 k (by omega)).trans (rfl))
  have hv_22 : WV ad cA g_17 2 ((p9.natAbs : Nat) : Int) := ⟨_, _, _, hw2, by rw [Int.natAbs_natCast]; exact rz9, by omega⟩
  refine lv_aload_n hx hb dX0_oddDivisor_24 rfl (lv_at hl 0 rfl) ?_
  have f_23 : g_17 2077 = .inr (3, [.ref (ad (2 * 0)), .ref (ad (2 * 1)), .ref (ad (2 * 2)), .ref (ad (2 * 3))]) := (fr_19 2077 (by omega)).trans f_16
  refine m_get (D := (dC, dI)) (v := .ref (ad (2 * 2))) (C := RX0) (T := TX0) (N := 4) hx hb hts bk0 hown hK hP 2077 (by decide) f_23 rfl 2 (by decide) (hts (.fieldLink RX0 23 "GradientDesk$Arithmetic" "one" "LGradientDesk$Whole;") (List.mem_of_getElem? (i := 1) rfl)) (fun _ h9 => h9) rfl dX0_oddDivisor_25 ?_
  refine lv_aload_n hx hb dX0_oddDivisor_28 rfl (lv_at hl 0 rfl) ?_
  refine m_get (D := (dC, dI)) (v := .ref (ad (2 * 2))) (C := RX0) (T := TX0) (N := 4) hx hb hts bk0 hown hK hP 2077 (by decide) f_23 rfl 2 (by decide) (hts (.fieldLink RX0 23 "GradientDesk$Arithmetic" "one" "LGradientDesk$Whole;") (List.mem_of_getElem? (i := 1) rfl)) (fun _ h9 => h9) rfl dX0_oddDivisor_29 ?_
  refine va_calli (va_runV (As := []) (rest := [.ref (ad (2 * 2))]) ⟨hx, hb, hml, hown, hts⟩ (c_V8_lowZeros l dC dI A ad cA g_17 2 ((p9.natAbs : Nat) : Int) hAW_21 (by omega) hv_22) (cwV 0 hts (goodIn_app (goodIn_r [Cond.methodLink RX0 59 yX8_lowZeros, Cond.instanceMethod yX8_lowZeros, Cond.selects RX8 yX8_lowZeros yX8_lowZeros, Cond.initialized RX8] [8, 9, 10, 5] rfl rfl) (goodIn_sub (fun w9 h9 => bk3 w9 h9) gw_V8_lowZeros)) rfl rfl rfl (by decide +kernel) ⟨Nat.le_of_ble_eq_true rfl, Nat.le_of_ble_eq_true rfl⟩) ⟨fun a U g mk q => ⟨q.1, q.2.1, q.2.2.1, LY.moved (u := U) (U := U.calling g mk a) (Vm.Alike.refl U.vm) q.2.2.2⟩, va_recv hK hP (ci := 11) (q0 := (2 * 2)) rfl (wo_at (ns_w (by omega)) f_18), fun U hU hW => ⟨rfl, by rw [hU]; exact fun q h => hA q (Nat.le_trans hS.1 h), by rw [hU]; exact hP, LY.moved hW.alike hL⟩⟩ rfl rfl hl.1 rfl (lv_room (Nat.le_of_ble_eq_true rfl)) dX0_oddDivisor_32 ⟨(Nat.le_of_ble_eq_true rfl), (Nat.le_of_ble_eq_true rfl)⟩) hS (fun q _ h => h) (fun q h => h) (fun r_24 u8 t8 H1 locs ht8 hvm8 hw_25 hB hz1 hk1 hS => ?_)
  obtain ⟨⟩ := u8
  try dsimp only at hw_25 hB
  rw [ht8] at hB
  have hP := hB
  generalize H1 = H at hP hS ⊢
  obtain ⟨z_26, rfl, hbz_26, htzz_26⟩ := (hw_25.resolve_left (fun h9 => absurd h9.1 (by omega))).2
  clear hw_25
  have hzez_26 : a9 = z_26 := (tz_uq htzz_26 ⟨u9, by rw [Int.natAbs_natCast]; exact hp9⟩).symm
  subst hzez_26
  refine va_callv (va_runV (As := [.int (nI a9)]) (rest := []) ⟨hx, hb, hml, hown, hts⟩ (c_V8_shiftDown l dC dI A ad cA g_17 2 ((p9.natAbs : Nat) : Int) a9 ((2 * u9 + 1 : Nat) : Int) hAW_21 (by omega) hv_22 hbz_26 (by rw [Int.natAbs_natCast, Int.natAbs_natCast, hp9, Nat.mul_div_cancel_left _ (Nat.pow_pos (by decide))]) (by omega)) (cwV 1 hts (goodIn_app (goodIn_r [Cond.methodLink RX0 69 yX8_shiftDown, Cond.instanceMethod yX8_shiftDown, Cond.selects RX8 yX8_shiftDown yX8_shiftDown, Cond.initialized RX8] [11, 12, 13, 5] rfl rfl) (goodIn_sub (fun w9 h9 => bk4 w9 h9) gw_V8_shiftDown)) rfl rfl rfl (by decide +kernel) ⟨Nat.le_of_ble_eq_true rfl, Nat.le_of_ble_eq_true rfl⟩) ⟨fun a U g mk q => ⟨q.1, q.2.1, q.2.2.1, LY.moved (u := U) (U := U.calling g mk a) (Vm.Alike.refl U.vm) q.2.2.2⟩, va_recv hK hP (ci := 11) (q0 := (2 * 2)) rfl (wo_at (ns_w (by omega)) f_18), fun U hU hW => ⟨rfl, by rw [hU]; exact fun q h => hA q (Nat.le_trans hS.1 h), by rw [hU]; exact hP, LY.moved hW.alike hL⟩⟩ rfl rfl hl.1 rfl (lv_room (Nat.le_of_ble_eq_true rfl)) dX0_oddDivisor_35 ⟨(Nat.le_of_ble_eq_true rfl), (Nat.le_of_ble_eq_true rfl)⟩) hS (fun q _ h => h) (fun q h => h) (fun u8 t8 H1 locs ht8 hvm8 hw_29 hB hz1 hk1 hS => ?_)
  obtain ⟨g_30, rfl⟩ : ∃ z, z = u8 := ⟨_, rfl⟩
  try dsimp only at hw_29 hB
  rw [ht8] at hB
  have hP := hB
  generalize H1 = H at hP hS ⊢
  obtain ⟨fr_31, hAW_27, hv_28⟩ := hw_29
  refine lv_aload_n hx hb dX0_oddDivisor_38 rfl (lv_at hl 0 rfl) ?_
  have f_32 : g_30 2077 = .inr (3, [.ref (ad (2 * 0)), .ref (ad (2 * 1)), .ref (ad (2 * 2)), .ref (ad (2 * 3))]) := (fr_31 2077 (by omega)).trans f_23
  refine m_get (D := (dC, dI)) (v := .ref (ad (2 * 3))) (C := RX0) (T := TX0) (N := 4) hx hb hts bk0 hown hK hP 2077 (by decide) f_32 rfl 3 (by decide) (hts (.fieldLink RX0 26 "GradientDesk$Arithmetic" "other" "LGradientDesk$Whole;") (List.mem_of_getElem? (i := 6) rfl)) (fun _ h9 => h9) rfl dX0_oddDivisor_39 ?_
  refine lv_aload_n hx hb dX0_oddDivisor_42 rfl (lv_at hl 0 rfl) ?_
  refine m_get (D := (dC, dI)) (v := .ref (ad (2 * 3))) (C := RX0) (T := TX0) (N := 4) hx hb hts bk0 hown hK hP 2077 (by decide) f_32 rfl 3 (by decide) (hts (.fieldLink RX0 26 "GradientDesk$Arithmetic" "other" "LGradientDesk$Whole;") (List.mem_of_getElem? (i := 6) rfl)) (fun _ h9 => h9) rfl dX0_oddDivisor_43 ?_
  obtain ⟨mw_33, sw_33, nw_33, fw_33, aw_33, bw_33, cw_33, dw_33, ew_33⟩ := hAW_27 3 (by omega)
  have qw_33 : mw_33 ≤ 4096 := by rw [dw_33]; exact rmc_le _
  have hv_34 : WV ad cA g_30 3 q9 := WV.same hv_11 ((fun (k : Nat) (hk : k = 2 * 3 ∨ k = 2 * 3 + 1) => (fr_31 k (by omega)).trans ((fr_19 k (by omega)).trans (rfl))) _ (Or.inl rfl)) ((fun (k : Nat) (hk : k = 2 * 3 ∨ k = 2 * 3 + 1) => (fr_31 k (by omega)).trans ((fr_19 k (by omega)).trans (rfl))) _ (Or.inr rfl))
  refine va_calli (va_runV (As := []) (rest := [.ref (ad (2 * 3))]) ⟨hx, hb, hml, hown, hts⟩ (c_V8_lowZeros l dC dI A ad cA g_30 3 q9 hAW_27 (by omega) hv_34) (cwV 0 hts (goodIn_app (goodIn_r [Cond.methodLink RX0 59 yX8_lowZeros, Cond.instanceMethod yX8_lowZeros, Cond.selects RX8 yX8_lowZeros yX8_lowZeros, Cond.initialized RX8] [8, 9, 10, 5] rfl rfl) (goodIn_sub (fun w9 h9 => bk3 w9 h9) gw_V8_lowZeros)) rfl rfl rfl (by decide +kernel) ⟨Nat.le_of_ble_eq_true rfl, Nat.le_of_ble_eq_true rfl⟩) ⟨fun a U g mk q => ⟨q.1, q.2.1, q.2.2.1, LY.moved (u := U) (U := U.calling g mk a) (Vm.Alike.refl U.vm) q.2.2.2⟩, va_recv hK hP (ci := 11) (q0 := (2 * 3)) rfl (wo_at (ns_w (by omega)) aw_33), fun U hU hW => ⟨rfl, by rw [hU]; exact fun q h => hA q (Nat.le_trans hS.1 h), by rw [hU]; exact hP, LY.moved hW.alike hL⟩⟩ rfl rfl hl.1 rfl (lv_room (Nat.le_of_ble_eq_true rfl)) dX0_oddDivisor_46 ⟨(Nat.le_of_ble_eq_true rfl), (Nat.le_of_ble_eq_true rfl)⟩) hS (fun q _ h => h) (fun q h => h) (fun r_35 u8 t8 H1 locs ht8 hvm8 hw_36 hB hz1 hk1 hS => ?_)
  obtain ⟨⟩ := u8
  try dsimp only at hw_36 hB
  rw [ht8] at hB
  have hP := hB
  generalize H1 = H at hP hS ⊢
  obtain ⟨z_37, rfl, hbz_37, htzz_37⟩ := (hw_36.resolve_left (fun h9 => absurd h9.1 (by omega))).2
  clear hw_36
  have hzez_37 : b9 = z_37 := (tz_uq htzz_37 ⟨x9, hq9⟩).symm
  subst hzez_37
  refine va_callv (va_runV (As := [.int (nI b9)]) (rest := []) ⟨hx, hb, hml, hown, hts⟩ (c_V8_shiftDown l dC dI A ad cA g_30 3 q9 b9 ((2 * x9 + 1 : Nat) : Int) hAW_27 (by omega) hv_34 hbz_37 (by rw [Int.natAbs_natCast, hq9, Nat.mul_div_cancel_left _ (Nat.pow_pos (by decide))]) (by omega)) (cwV 1 hts (goodIn_app (goodIn_r [Cond.methodLink RX0 69 yX8_shiftDown, Cond.instanceMethod yX8_shiftDown, Cond.selects RX8 yX8_shiftDown yX8_shiftDown, Cond.initialized RX8] [11, 12, 13, 5] rfl rfl) (goodIn_sub (fun w9 h9 => bk4 w9 h9) gw_V8_shiftDown)) rfl rfl rfl (by decide +kernel) ⟨Nat.le_of_ble_eq_true rfl, Nat.le_of_ble_eq_true rfl⟩) ⟨fun a U g mk q => ⟨q.1, q.2.1, q.2.2.1, LY.moved (u := U) (U := U.calling g mk a) (Vm.Alike.refl U.vm) q.2.2.2⟩, va_recv hK hP (ci := 11) (q0 := (2 * 3)) rfl (wo_at (ns_w (by omega)) aw_33), fun U hU hW => ⟨rfl, by rw [hU]; exact fun q h => hA q (Nat.le_trans hS.1 h), by rw [hU]; exact hP, LY.moved hW.alike hL⟩⟩ rfl rfl hl.1 rfl (lv_room (Nat.le_of_ble_eq_true rfl)) dX0_oddDivisor_49 ⟨(Nat.le_of_ble_eq_true rfl), (Nat.le_of_ble_eq_true rfl)⟩) hS (fun q _ h => h) (fun q h => h) (fun u8 t8 H1 locs ht8 hvm8 hw_40 hB hz1 hk1 hS => ?_)
  obtain ⟨g_41, rfl⟩ : ∃ z, z = u8 := ⟨_, rfl⟩
  try dsimp only at hw_40 hB
  rw [ht8] at hB
  have hP := hB
  generalize H1 = H at hP hS ⊢
  obtain ⟨fr_42, hAW_38, hv_39⟩ := hw_40
  refine lv_aload_n hx hb dX0_oddDivisor_52 rfl (lv_at hl 0 rfl) ?_
  have f_43 : g_41 2077 = .inr (3, [.ref (ad (2 * 0)), .ref (ad (2 * 1)), .ref (ad (2 * 2)), .ref (ad (2 * 3))]) := (fr_42 2077 (by omega)).trans f_32
  refine m_get (D := (dC, dI)) (v := .ref (ad (2 * 2))) (C := RX0) (T := TX0) (N := 4) hx hb hts bk0 hown hK hP 2077 (by decide) f_43 rfl 2 (by decide) (hts (.fieldLink RX0 23 "GradientDesk$Arithmetic" "one" "LGradientDesk$Whole;") (List.mem_of_getElem? (i := 1) rfl)) (fun _ h9 => h9) rfl dX0_oddDivisor_53 ?_
  refine lv_astore_n (lv' := [(3, .ref (ad (2 * 2))), (0, .ref (ad 2077)), (1, .ref (ad (2 * 4))), (2, .ref (ad (2 * 5)))]) hx hb dX0_oddDivisor_56 rfl hl (by decide) rfl (fun ls hl => ?_)
  refine lv_aload_n hx hb dX0_oddDivisor_57 rfl (lv_at hl 1 rfl) ?_
  refine m_get (D := (dC, dI)) (v := .ref (ad (2 * 3))) (C := RX0) (T := TX0) (N := 4) hx hb hts bk0 hown hK hP 2077 (by decide) f_43 rfl 3 (by decide) (hts (.fieldLink RX0 26 "GradientDesk$Arithmetic" "other" "LGradientDesk$Whole;") (List.mem_of_getElem? (i := 6) rfl)) (fun _ h9 => h9) rfl dX0_oddDivisor_58 ?_
  refine lv_astore (lv' := [(4, .ref (ad (2 * 3))), (3, .ref (ad (2 * 2))), (0, .ref (ad 2077)), (1, .ref (ad (2 * 4))), (2, .ref (ad (2 * 5)))]) hx hb dX0_oddDivisor_61 hl (by decide) rfl (fun ls hl => ?_)
  refine lv_aload_n hx hb dX0_oddDivisor_63 rfl (lv_at hl 2 rfl) ?_
  refine m_get (D := (dC, dI)) (v := .ref (ad (2 * 2))) (C := RX0) (T := TX0) (N := 4) hx hb hts bk0 hown hK hP 2077 (by decide) f_43 rfl 2 (by decide) (hts (.fieldLink RX0 23 "GradientDesk$Arithmetic" "one" "LGradientDesk$Whole;") (List.mem_of_getElem? (i := 1) rfl)) (fun _ h9 => h9) rfl dX0_oddDivisor_64 ?_
  obtain ⟨mw_44, sw_44, nw_44, fw_44, aw_44, bw_44, cw_44, dw_44, ew_44⟩ := hAW_38 2 (by omega)
  have qw_44 : mw_44 ≤ 4096 := by rw [dw_44]; exact rmc_le _
  have hv_45 : WV ad cA g_41 2 ((2 * u9 + 1 : Nat) : Int) := WV.same hv_28 ((fun (k : Nat) (hk : k = 2 * 2 ∨ k = 2 * 2 + 1) => (fr_42 k (by omega)).trans (rfl)) _ (Or.inl rfl)) ((fun (k : Nat) (hk : k = 2 * 2 ∨ k = 2 * 2 + 1) => (fr_42 k (by omega)).trans (rfl)) _ (Or.inr rfl))
  refine va_calli (va_runV (As := []) (rest := []) ⟨hx, hb, hml, hown, hts⟩ (c_V8_bitLength l dC dI A ad cA g_41 2 ((2 * u9 + 1 : Nat) : Int) hAW_38 (by decide) hv_45) (cwV 0 hts (goodIn_app (goodIn_r [Cond.methodLink RX0 87 yX8_bitLength, Cond.instanceMethod yX8_bitLength, Cond.selects RX8 yX8_bitLength yX8_bitLength, Cond.initialized RX8] [14, 15, 16, 5] rfl rfl) (goodIn_sub (fun w9 h9 => bk5 w9 h9) gw_V8_bitLength)) rfl rfl rfl (by decide +kernel) ⟨Nat.le_of_ble_eq_true rfl, Nat.le_of_ble_eq_true rfl⟩) ⟨fun a U g mk q => ⟨q.1, q.2.1, q.2.2.1, LY.moved (u := U) (U := U.calling g mk a) (Vm.Alike.refl U.vm) q.2.2.2⟩, va_recv hK hP (ci := 11) (q0 := (2 * 2)) rfl (wo_at (ns_w (by omega)) aw_44), fun U hU hW => ⟨rfl, by rw [hU]; exact fun q h => hA q (Nat.le_trans hS.1 h), by rw [hU]; exact hP, LY.moved hW.alike hL⟩⟩ rfl rfl hl.1 rfl (lv_room (Nat.le_of_ble_eq_true rfl)) dX0_oddDivisor_67 ⟨(Nat.le_of_ble_eq_true rfl), (Nat.le_of_ble_eq_true rfl)⟩) hS (fun q _ h => h) (fun q h => h) (fun r_46 u8 t8 H1 locs ht8 hvm8 hw_47 hB hz1 hk1 hS => ?_)
  obtain ⟨⟩ := u8
  try dsimp only at hw_47 hB
  rw [ht8] at hB
  have hP := hB
  generalize H1 = H at hP hS ⊢
  obtain rfl := hw_47
  rw [Int.natAbs_natCast]
  obtain ⟨bu, hbu⟩ : ∃ z, z = bl (2 * u9 + 1) := ⟨_, rfl⟩
  rw [← hbu]
  refine lv_aload_n hx hb dX0_oddDivisor_70 rfl (lv_at hl 2 rfl) ?_
  refine m_get (D := (dC, dI)) (v := .ref (ad (2 * 3))) (C := RX0) (T := TX0) (N := 4) hx hb hts bk0 hown hK hP 2077 (by decide) f_43 rfl 3 (by decide) (hts (.fieldLink RX0 26 "GradientDesk$Arithmetic" "other" "LGradientDesk$Whole;") (List.mem_of_getElem? (i := 6) rfl)) (fun _ h9 => h9) rfl dX0_oddDivisor_71 ?_
  obtain ⟨mw_48, sw_48, nw_48, fw_48, aw_48, bw_48, cw_48, dw_48, ew_48⟩ := hAW_38 3 (by omega)
  have qw_48 : mw_48 ≤ 4096 := by rw [dw_48]; exact rmc_le _
  refine va_calli (va_runV (As := []) (rest := [.int (nI bu)]) ⟨hx, hb, hml, hown, hts⟩ (c_V8_bitLength l dC dI A ad cA g_41 3 ((2 * x9 + 1 : Nat) : Int) hAW_38 (by decide) hv_39) (cwV 0 hts (goodIn_app (goodIn_r [Cond.methodLink RX0 87 yX8_bitLength, Cond.instanceMethod yX8_bitLength, Cond.selects RX8 yX8_bitLength yX8_bitLength, Cond.initialized RX8] [14, 15, 16, 5] rfl rfl) (goodIn_sub (fun w9 h9 => bk5 w9 h9) gw_V8_bitLength)) rfl rfl rfl (by decide +kernel) ⟨Nat.le_of_ble_eq_true rfl, Nat.le_of_ble_eq_true rfl⟩) ⟨fun a U g mk q => ⟨q.1, q.2.1, q.2.2.1, LY.moved (u := U) (U := U.calling g mk a) (Vm.Alike.refl U.vm) q.2.2.2⟩, va_recv hK hP (ci := 11) (q0 := (2 * 3)) rfl (wo_at (ns_w (by omega)) aw_48), fun U hU hW => ⟨rfl, by rw [hU]; exact fun q h => hA q (Nat.le_trans hS.1 h), by rw [hU]; exact hP, LY.moved hW.alike hL⟩⟩ rfl rfl hl.1 rfl (lv_room (Nat.le_of_ble_eq_true rfl)) dX0_oddDivisor_74 ⟨(Nat.le_of_ble_eq_true rfl), (Nat.le_of_ble_eq_true rfl)⟩) hS (fun q _ h => h) (fun q h => h) (fun r_49 u8 t8 H1 locs ht8 hvm8 hw_50 hB hz1 hk1 hS => ?_)
  obtain ⟨⟩ := u8
  try dsimp only at hw_50 hB
  rw [ht8] at hB
  have hP := hB
  generalize H1 = H at hP hS ⊢
  obtain rfl := hw_50
  rw [Int.natAbs_natCast]
  obtain ⟨bx, hbx⟩ : ∃ z, z = bl (2 * x9 + 1) := ⟨_, rfl⟩
  rw [← hbx]
  refine lv_iadd hx hb dX0_oddDivisor_77 ?_
  refine lv_topi (fun x_51 e_52 => ?_)
  obtain rfl : x_51 = nI (bu + bx) := e_52.trans (nI_add bu bx)
  refine lv_istore (lv' := [(5, .int (nI (bu + bx))), (4, .ref (ad (2 * 3))), (3, .ref (ad (2 * 2))), (0, .ref (ad 2077)), (1, .ref (ad (2 * 4))), (2, .ref (ad (2 * 5)))]) hx hb dX0_oddDivisor_78 hl (by decide) rfl (fun ls hl => ?_)
  clear cw_1 dw_1 ew_1 qw_1
  clear cw_8 dw_8 ew_8 qw_8
  clear cw_33 dw_33 ew_33 qw_33
  clear cw_44 dw_44 ew_44 qw_44
  clear cw_48 dw_48 ew_48 qw_48
  obtain ⟨rd, hrd⟩ : ∃ z, z = bu + bx := ⟨_, rfl⟩
  rw [← hrd] at hl
  have hrb : rd ≤ 100000 := od_rb hrd hbu hbx hp9 hq9 f4 f5
  refine lv_iconst (v := nI 0) hx hb dX0_oddDivisor_80 (by decide +kernel) ?_
  refine lv_istore (lv' := [(6, .int (nI 0)), (5, .int (nI rd)), (4, .ref (ad (2 * 3))), (3, .ref (ad (2 * 2))), (0, .ref (ad 2077)), (1, .ref (ad (2 * 4))), (2, .ref (ad (2 * 5)))]) hx hb dX0_oddDivisor_81 hl (by decide) rfl (fun ls hl => ?_)
  have loop_53 : ∀ (k9 : Nat) (i : Nat) (gr : Nat) (le : Nat) (gv : Nat) (lw : Nat) (g_55 : Nat → va_E) (fr_56 : ∀ k, (8 ≤ k) → g_55 k = g_41 k), 200000 - i < k9 → (i ≤ rd) → ((gr = 2 ∧ le = 3) ∨ (gr = 3 ∧ le = 2)) → ((gv) % 2 = 1 ∧ (lw) % 2 = 1) → (Nat.gcd gv lw = Nat.gcd (2 * u9 + 1) (2 * x9 + 1)) → (bl gv + bl lw + i ≤ rd) → (AW ad cA g_55) → (WV ad cA g_55 gr ((gv : Nat) : Int)) → (WV ad cA g_55 le ((lw : Nat) : Int)) → ∀ (H : Heap) (locs : List Loc) (ls : Array Slot), va_P (dC, dI) vwCl (wo ad NSc g_55) H → va_S A s.heap H locs → lv_has ls 9 [(0, .ref (ad 2077)), (3, .ref (ad (2 * gr))), (4, .ref (ad (2 * le))), (5, .int (nI rd)), (6, .int (nI i))] → W p l e (headSpec wd_V0_oddDivisor ({ frames := 30, cells := 0, slots := 0, locals := 600 })).room s m ([.ref (ad 2077), .ref (ad (2 * 4)), .ref (ad (2 * 5))] : List Value).toArray below meth c H locs (0) (0) (MQ below (va_Qr (fun (u : (Nat → va_E) × Nat) => match u with | (g2, qr) => (∀ k, 8 ≤ k → g2 k = g k) ∧ AW ad cA g2 ∧ (qr = 2 ∨ qr = 3) ∧ WV ad cA g2 qr ((Nat.gcd (2 * u9 + 1) (2 * x9 + 1) : Nat) : Int)) (fun (u : (Nat → va_E) × Nat) (ra : Nat) (t : State) => (match u with | (g2, qr) => ra = ad (2 * qr)) ∧ va_P (dC, dI) vwCl (wo ad NSc u.1) t.heap) A) ([.ref (ad 2077), .ref (ad (2 * 4)), .ref (ad (2 * 5))] : List Value).toArray s (0) (0) A) (F0 m 83 ls []) := by
    intro k9
    induction k9 with
    | zero => intro i gr le gv lw g_55 fr_56 h9; exact absurd h9 (Nat.not_lt_zero _)
    | succ k9 ih_54 =>
      intro i gr le gv lw g_55 fr_56 h9 hi hgl hgo hgg hbb hAL hGL hLL H locs ls hP hS hl
      have hb1 : 0 < bl gv := bl_pos.mpr (by omega)
      have hb2 : 0 < bl lw := bl_pos.mpr (by omega)
      clear hp9 hq9 f4 f5 hpp hqq
      refine lv_iload hx hb dX0_oddDivisor_83 (lv_at hl 4 rfl) ?_
      refine lv_iload hx hb dX0_oddDivisor_85 (lv_at hl 3 rfl) ?_
      refine lv_icmp_ge (tgt := 150) hx hb dX0_oddDivisor_87 (by decide) (fun c_57 => absurd ((nI_leI (a := rd) (b := i) (by omega) (by omega)).mp c_57) (by omega)) (fun c_57 => ?_)
      refine lv_aload_n hx hb dX0_oddDivisor_90 rfl (lv_at hl 1 rfl) ?_
      refine lv_aload hx hb dX0_oddDivisor_91 (lv_at hl 2 rfl) ?_
      obtain ⟨mw_58, sw_58, nw_58, fw_58, aw_58, bw_58, cw_58, dw_58, ew_58⟩ := hAL gr (by omega)
      have qw_58 : mw_58 ≤ 4096 := by rw [dw_58]; exact rmc_le _
      refine va_calli (va_runV (As := [.ref (ad (2 * le))]) (rest := []) ⟨hx, hb, hml, hown, hts⟩ (c_V8_order l dC dI A ad cA g_55 gr le ((gv : Nat) : Int) ((lw : Nat) : Int) hAL (by omega) (by omega) hGL hLL) (cwV 1 hts (goodIn_app (goodIn_r [Cond.methodLink RX0 90 yX8_orderOfSizes, Cond.instanceMethod yX8_orderOfSizes, Cond.selects RX8 yX8_orderOfSizes yX8_orderOfSizes, Cond.initialized RX8] [17, 18, 19, 5] rfl rfl) (goodIn_sub (fun w9 h9 => bk6 w9 h9) gw_V8_order)) rfl rfl rfl (by decide +kernel) ⟨Nat.le_of_ble_eq_true rfl, Nat.le_of_ble_eq_true rfl⟩) ⟨fun a U g mk q => ⟨q.1, q.2.1, q.2.2.1, LY.moved (u := U) (U := U.calling g mk a) (Vm.Alike.refl U.vm) q.2.2.2⟩, va_recv hK hP (ci := 11) (q0 := (2 * gr)) rfl (wo_at (ns_w (by omega)) aw_58), fun U hU hW => ⟨rfl, by rw [hU]; exact fun q h => hA q (Nat.le_trans hS.1 h), by rw [hU]; exact hP, LY.moved hW.alike hL⟩⟩ rfl rfl hl.1 rfl (lv_room (Nat.le_of_ble_eq_true rfl)) dX0_oddDivisor_93 ⟨(Nat.le_of_ble_eq_true rfl), (Nat.le_of_ble_eq_true rfl)⟩) hS (fun q _ h => h) (fun q h => h) (fun r_59 u8 t8 H1 locs ht8 hvm8 hw_60 hB hz1 hk1 hS => ?_)
      obtain ⟨⟩ := u8
      try dsimp only at hw_60 hB
      rw [ht8] at hB
      have hP := hB
      generalize H1 = H at hP hS ⊢
      rw [Int.natAbs_natCast, Int.natAbs_natCast] at hw_60
      rcases hw_60 with ⟨rfl, ho⟩ | ⟨rfl, ho⟩ | ⟨rfl, ho⟩
      · skip
        refine lv_istore (lv' := [(7, .int (-1)), (0, .ref (ad 2077)), (3, .ref (ad (2 * gr))), (4, .ref (ad (2 * le))), (5, .int (nI rd)), (6, .int (nI i))]) hx hb dX0_oddDivisor_96 hl (by decide) rfl (fun ls hl => ?_)
        refine lv_iload hx hb dX0_oddDivisor_98 (lv_at hl 0 rfl) ?_
        refine lv_if_eq (tgt := 111) hx hb dX0_oddDivisor_100 (by decide) (fun c_61 => absurd c_61 (by decide)) (fun c_61 => ?_)
        refine lv_aload hx hb dX0_oddDivisor_103 (lv_at hl 3 rfl) ?_
        obtain ⟨mw_62, sw_62, nw_62, fw_62, aw_62, bw_62, cw_62, dw_62, ew_62⟩ := hAL le (by omega)
        have qw_62 : mw_62 ≤ 4096 := by rw [dw_62]; exact rmc_le _
        refine va_calli (va_runV (As := []) (rest := []) ⟨hx, hb, hml, hown, hts⟩ (c_V8_isOne l dC dI A ad cA g_55 le ((lw : Nat) : Int) hAL (by omega) hLL) (cwV 0 hts (goodIn_app (goodIn_r [Cond.methodLink RX0 93 yX8_isOne, Cond.instanceMethod yX8_isOne, Cond.selects RX8 yX8_isOne yX8_isOne, Cond.initialized RX8] [20, 21, 22, 5] rfl rfl) (goodIn_sub (fun w9 h9 => bk7 w9 h9) gw_V8_isOne)) rfl rfl rfl (by decide +kernel) ⟨Nat.le_of_ble_eq_true rfl, Nat.le_of_ble_eq_true rfl⟩) ⟨fun a U g mk q => ⟨q.1, q.2.1, q.2.2.1, LY.moved (u := U) (U := U.calling g mk a) (Vm.Alike.refl U.vm) q.2.2.2⟩, va_recv hK hP (ci := 11) (q0 := (2 * le)) rfl (wo_at (ns_w (by omega)) aw_62), fun U hU hW => ⟨rfl, by rw [hU]; exact fun q h => hA q (Nat.le_trans hS.1 h), by rw [hU]; exact hP, LY.moved hW.alike hL⟩⟩ rfl rfl hl.1 rfl (lv_room (Nat.le_of_ble_eq_true rfl)) dX0_oddDivisor_105 ⟨(Nat.le_of_ble_eq_true rfl), (Nat.le_of_ble_eq_true rfl)⟩) hS (fun q _ h => h) (fun q h => h) (fun r_63 u8 t8 H1 locs ht8 hvm8 hw_64 hB hz1 hk1 hS => ?_)
        obtain ⟨⟩ := u8
        try dsimp only at hw_64 hB
        rw [ht8] at hB
        have hP := hB
        generalize H1 = H at hP hS ⊢
        rcases hw_64 with ⟨rfl, h1⟩ | ⟨rfl, h1⟩
        · skip
          refine lv_if_eq (tgt := 114) hx hb dX0_oddDivisor_108 (by decide) (fun c_65 => absurd c_65 (by decide)) (fun c_65 => ?_)
          refine lv_aload hx hb dX0_oddDivisor_111 (lv_at hl 3 rfl) ?_
          have hlg : lw = Nat.gcd (2 * u9 + 1) (2 * x9 + 1) := by rw [← hgg, show lw = 1 by omega, Nat.gcd_one_right]
          have hvf := hLL
          rw [hlg] at hvf
          refine W.widen (k := 0) (n := 0) (by omega) (by omega) ?_
          exact W.aret (v := .ref (ad (2 * le))) hx hb hr (Or.inl ⟨_, rfl⟩) (Or.inr ⟨_, rfl⟩) (fun t9 ht9 hW9 => ⟨⟨(g_55, le), ad (2 * le), rfl, ⟨(fun (k : Nat) (hk : 8 ≤ k) => (fr_56 k (by omega)).trans ((fr_42 k (by omega)).trans ((fr_31 k (by omega)).trans ((fr_19 k (by omega)).trans ((fr_14 k (by omega)).trans ((fr_6 k (by omega)).trans (rfl))))))), hAL, by omega, hvf⟩, ⟨rfl, by show va_P (dC, dI) vwCl _ t9.heap; rw [ht9]; exact hP⟩⟩, hS.F ht9⟩) hS.2.2 dX0_oddDivisor_113
        · skip
          refine lv_if_eq (tgt := 114) hx hb dX0_oddDivisor_108 (by decide) (fun c_66 => ?_) (fun c_66 => absurd c_66 (by decide))
          refine lv_iload hx hb dX0_oddDivisor_114 (lv_at hl 0 rfl) ?_
          refine lv_if_ge (tgt := 129) hx hb dX0_oddDivisor_116 (by decide) (fun c_67 => absurd c_67 (by decide)) (fun c_67 => ?_)
          refine lv_aload_n hx hb dX0_oddDivisor_119 rfl (lv_at hl 2 rfl) ?_
          refine lv_astore (lv' := [(8, .ref (ad (2 * gr))), (7, .int (-1)), (0, .ref (ad 2077)), (3, .ref (ad (2 * gr))), (4, .ref (ad (2 * le))), (5, .int (nI rd)), (6, .int (nI i))]) hx hb dX0_oddDivisor_120 hl (by decide) rfl (fun ls hl => ?_)
          refine lv_aload hx hb dX0_oddDivisor_122 (lv_at hl 4 rfl) ?_
          refine lv_astore_n (lv' := [(3, .ref (ad (2 * le))), (8, .ref (ad (2 * gr))), (7, .int (-1)), (0, .ref (ad 2077)), (4, .ref (ad (2 * le))), (5, .int (nI rd)), (6, .int (nI i))]) hx hb dX0_oddDivisor_124 rfl hl (by decide) rfl (fun ls hl => ?_)
          refine lv_aload hx hb dX0_oddDivisor_125 (lv_at hl 1 rfl) ?_
          refine lv_astore (lv' := [(4, .ref (ad (2 * gr))), (3, .ref (ad (2 * le))), (8, .ref (ad (2 * gr))), (7, .int (-1)), (0, .ref (ad 2077)), (5, .int (nI rd)), (6, .int (nI i))]) hx hb dX0_oddDivisor_127 hl (by decide) rfl (fun ls hl => ?_)
          refine lv_aload_n hx hb dX0_oddDivisor_129 rfl (lv_at hl 1 rfl) ?_
          refine lv_aload_n hx hb dX0_oddDivisor_130 rfl (lv_at hl 1 rfl) ?_
          refine lv_aload hx hb dX0_oddDivisor_131 (lv_at hl 0 rfl) ?_
          have hta := hLL
          have htb := hGL
          obtain ⟨sm9, nm9, fm9, ⟨am9, bm9, um9, cm9, em9⟩, rm9, gm9⟩ := hta
          have qm9 := rmc_le le
          rw [Int.natAbs_natCast] at rm9
          refine va_callv (va_runV (As := [.ref (ad (2 * le)), .ref (ad (2 * gr))]) (rest := []) ⟨hx, hb, hml, hown, hts⟩ (c_V8_take2 l dC dI A ad cA g_55 le gr ((lw : Nat) : Int) ((gv : Nat) : Int) sm9 nm9 fm9 (by omega) (by omega) (⟨am9, bm9, um9, cm9, em9⟩) (by rw [Int.natAbs_natCast]; exact rm9) htb (by omega) (by rw [Int.natAbs_natCast, Int.natAbs_natCast]; omega)) (cwV 2 hts (goodIn_app (goodIn_r [Cond.methodLink RX0 96 yX8_takeSizes, Cond.instanceMethod yX8_takeSizes, Cond.selects RX8 yX8_takeSizes yX8_takeSizes, Cond.initialized RX8] [23, 24, 25, 5] rfl rfl) (goodIn_sub (fun w9 h9 => bk8 w9 h9) gw_V8_take2)) rfl rfl rfl (by decide +kernel) ⟨Nat.le_of_ble_eq_true rfl, Nat.le_of_ble_eq_true rfl⟩) ⟨fun a U g mk q => ⟨q.1, q.2.1, q.2.2.1, LY.moved (u := U) (U := U.calling g mk a) (Vm.Alike.refl U.vm) q.2.2.2⟩, va_recv hK hP (ci := 11) (q0 := (2 * le)) rfl (wo_at (ns_w (by omega)) am9), fun U hU hW => ⟨rfl, by rw [hU]; exact fun q h => hA q (Nat.le_trans hS.1 h), by rw [hU]; exact hP, LY.moved hW.alike hL⟩⟩ rfl rfl hl.1 rfl (lv_room (Nat.le_of_ble_eq_true rfl)) dX0_oddDivisor_133 ⟨(Nat.le_of_ble_eq_true rfl), (Nat.le_of_ble_eq_true rfl)⟩) hS (fun q _ h => h) (fun q h => h) (fun u8 t8 H1 locs ht8 hvm8 hw_68 hB hz1 hk1 hS => ?_)
          obtain ⟨g_69, s2_70, f2_71⟩ := u8
          try dsimp only at hw_68 hB
          rw [ht8] at hB
          have hP := hB
          generalize H1 = H at hP hS ⊢
          obtain ⟨fr_72, hw7, rp7⟩ := hw_68
          rw [Int.natAbs_natCast, Int.natAbs_natCast] at rp7
          have hd0 : 0 < lw - gv := by omega
          obtain ⟨k2, u2, hk2⟩ := od_ex (lw - gv) hd0
          have hbs := bl_step (x := lw) (y := gv) (by omega) (by omega) (by omega) hk2
          have hgs := gcd_step (x := lw) (y := gv) (by omega) (by omega) hk2
          obtain ⟨dv, hdv⟩ : ∃ z, z = lw - gv := ⟨_, rfl⟩
          rw [← hdv] at rp7 hk2 hd0
          clear hdv
          have hAW_73 : AW ad cA g_69 := hw7.aw hAL (fun (k : Nat) (hk : k ≠ 2 * le ∧ k ≠ 2 * le + 1) => (fr_72 k (by omega)).trans (rfl))
          have hv_74 : WV ad cA g_69 le ((dv : Nat) : Int) := ⟨_, _, _, hw7, by rw [Int.natAbs_natCast]; exact rp7, by omega⟩
          refine lv_aload_n hx hb dX0_oddDivisor_136 rfl (lv_at hl 1 rfl) ?_
          refine lv_aload_n hx hb dX0_oddDivisor_137 rfl (lv_at hl 1 rfl) ?_
          obtain ⟨mw_75, sw_75, nw_75, fw_75, aw_75, bw_75, cw_75, dw_75, ew_75⟩ := hAW_73 le (by omega)
          have qw_75 : mw_75 ≤ 4096 := by rw [dw_75]; exact rmc_le _
          refine va_calli (va_runV (As := []) (rest := [.ref (ad (2 * le))]) ⟨hx, hb, hml, hown, hts⟩ (c_V8_lowZeros l dC dI A ad cA g_69 le ((dv : Nat) : Int) hAW_73 (by omega) hv_74) (cwV 0 hts (goodIn_app (goodIn_r [Cond.methodLink RX0 59 yX8_lowZeros, Cond.instanceMethod yX8_lowZeros, Cond.selects RX8 yX8_lowZeros yX8_lowZeros, Cond.initialized RX8] [8, 9, 10, 5] rfl rfl) (goodIn_sub (fun w9 h9 => bk3 w9 h9) gw_V8_lowZeros)) rfl rfl rfl (by decide +kernel) ⟨Nat.le_of_ble_eq_true rfl, Nat.le_of_ble_eq_true rfl⟩) ⟨fun a U g mk q => ⟨q.1, q.2.1, q.2.2.1, LY.moved (u := U) (U := U.calling g mk a) (Vm.Alike.refl U.vm) q.2.2.2⟩, va_recv hK hP (ci := 11) (q0 := (2 * le)) rfl (wo_at (ns_w (by omega)) aw_75), fun U hU hW => ⟨rfl, by rw [hU]; exact fun q h => hA q (Nat.le_trans hS.1 h), by rw [hU]; exact hP, LY.moved hW.alike hL⟩⟩ rfl rfl hl.1 rfl (lv_room (Nat.le_of_ble_eq_true rfl)) dX0_oddDivisor_138 ⟨(Nat.le_of_ble_eq_true rfl), (Nat.le_of_ble_eq_true rfl)⟩) hS (fun q _ h => h) (fun q h => h) (fun r_76 u8 t8 H1 locs ht8 hvm8 hw_77 hB hz1 hk1 hS => ?_)
          obtain ⟨⟩ := u8
          try dsimp only at hw_77 hB
          rw [ht8] at hB
          have hP := hB
          generalize H1 = H at hP hS ⊢
          obtain ⟨z_78, rfl, hbz_78, htzz_78⟩ := (hw_77.resolve_left (fun h9 => absurd h9.1 (by omega))).2
          clear hw_77
          have hzez_78 : k2 = z_78 := (tz_uq htzz_78 ⟨u2, by rw [Int.natAbs_natCast]; exact hk2⟩).symm
          subst hzez_78
          refine va_callv (va_runV (As := [.int (nI k2)]) (rest := []) ⟨hx, hb, hml, hown, hts⟩ (c_V8_shiftDown l dC dI A ad cA g_69 le ((dv : Nat) : Int) k2 ((2 * u2 + 1 : Nat) : Int) hAW_73 (by omega) hv_74 hbz_78 (by rw [Int.natAbs_natCast, Int.natAbs_natCast, hk2, Nat.mul_div_cancel_left _ (Nat.pow_pos (by decide))]) (by omega)) (cwV 1 hts (goodIn_app (goodIn_r [Cond.methodLink RX0 69 yX8_shiftDown, Cond.instanceMethod yX8_shiftDown, Cond.selects RX8 yX8_shiftDown yX8_shiftDown, Cond.initialized RX8] [11, 12, 13, 5] rfl rfl) (goodIn_sub (fun w9 h9 => bk4 w9 h9) gw_V8_shiftDown)) rfl rfl rfl (by decide +kernel) ⟨Nat.le_of_ble_eq_true rfl, Nat.le_of_ble_eq_true rfl⟩) ⟨fun a U g mk q => ⟨q.1, q.2.1, q.2.2.1, LY.moved (u := U) (U := U.calling g mk a) (Vm.Alike.refl U.vm) q.2.2.2⟩, va_recv hK hP (ci := 11) (q0 := (2 * le)) rfl (wo_at (ns_w (by omega)) aw_75), fun U hU hW => ⟨rfl, by rw [hU]; exact fun q h => hA q (Nat.le_trans hS.1 h), by rw [hU]; exact hP, LY.moved hW.alike hL⟩⟩ rfl rfl hl.1 rfl (lv_room (Nat.le_of_ble_eq_true rfl)) dX0_oddDivisor_141 ⟨(Nat.le_of_ble_eq_true rfl), (Nat.le_of_ble_eq_true rfl)⟩) hS (fun q _ h => h) (fun q h => h) (fun u8 t8 H1 locs ht8 hvm8 hw_81 hB hz1 hk1 hS => ?_)
          obtain ⟨g_82, rfl⟩ : ∃ z, z = u8 := ⟨_, rfl⟩
          try dsimp only at hw_81 hB
          rw [ht8] at hB
          have hP := hB
          generalize H1 = H at hP hS ⊢
          obtain ⟨fr_83, hAW_79, hv_80⟩ := hw_81
          refine lv_iinc (v := nI (i + 1)) (lv' := [(6, .int (nI (i + 1))), (4, .ref (ad (2 * gr))), (3, .ref (ad (2 * le))), (8, .ref (ad (2 * gr))), (7, .int (-1)), (0, .ref (ad 2077)), (5, .int (nI rd))]) hx hb dX0_oddDivisor_144 hl (k := 6) rfl (nI_add i 1) (by decide) rfl (fun ls hl => ?_)
          refine lv_goto (tgt := 83) hx hb dX0_oddDivisor_147 (by decide) ?_
          have hv_86 : WV ad cA g_82 gr ((gv : Nat) : Int) := WV.same hGL ((fun (k : Nat) (hk : k = 2 * gr ∨ k = 2 * gr + 1) => (fr_83 k (by omega)).trans ((fr_72 k (by omega)).trans (rfl))) _ (Or.inl rfl)) ((fun (k : Nat) (hk : k = 2 * gr ∨ k = 2 * gr + 1) => (fr_83 k (by omega)).trans ((fr_72 k (by omega)).trans (rfl))) _ (Or.inr rfl))
          exact ih_54 (i + 1) le gr (2 * u2 + 1) gv g_82 (fun (k : Nat) (hk : 8 ≤ k) => (fr_83 k (by omega)).trans ((fr_72 k (by omega)).trans ((fr_56 k (by omega)).trans (rfl)))) (by omega) (by omega) (by omega) (⟨by omega, by omega⟩) (by rw [hgs, Nat.gcd_comm]; exact hgg) (by omega) hAW_79 hv_80 hv_86 _ _ _ hP hS (lv_sub (l' := [(0, .ref (ad 2077)), (3, .ref (ad (2 * le))), (4, .ref (ad (2 * gr))), (5, .int (nI rd)), (6, .int (nI (i + 1)))]) hl [5, 2, 1, 6, 0] rfl)
      · skip
        refine lv_istore (lv' := [(7, .int (nI 0)), (0, .ref (ad 2077)), (3, .ref (ad (2 * gr))), (4, .ref (ad (2 * le))), (5, .int (nI rd)), (6, .int (nI i))]) hx hb dX0_oddDivisor_96 hl (by decide) rfl (fun ls hl => ?_)
        refine lv_iload hx hb dX0_oddDivisor_98 (lv_at hl 0 rfl) ?_
        refine lv_if_eq (tgt := 111) hx hb dX0_oddDivisor_100 (by decide) (fun c_87 => ?_) (fun c_87 => absurd c_87 (by decide))
        refine lv_aload hx hb dX0_oddDivisor_111 (lv_at hl 3 rfl) ?_
        have hlg : lw = Nat.gcd (2 * u9 + 1) (2 * x9 + 1) := by rw [← hgg, ho, Nat.gcd_self]
        have hvf := hLL
        rw [hlg] at hvf
        refine W.widen (k := 0) (n := 0) (by omega) (by omega) ?_
        exact W.aret (v := .ref (ad (2 * le))) hx hb hr (Or.inl ⟨_, rfl⟩) (Or.inr ⟨_, rfl⟩) (fun t9 ht9 hW9 => ⟨⟨(g_55, le), ad (2 * le), rfl, ⟨(fun (k : Nat) (hk : 8 ≤ k) => (fr_56 k (by omega)).trans ((fr_42 k (by omega)).trans ((fr_31 k (by omega)).trans ((fr_19 k (by omega)).trans ((fr_14 k (by omega)).trans ((fr_6 k (by omega)).trans (rfl))))))), hAL, by omega, hvf⟩, ⟨rfl, by show va_P (dC, dI) vwCl _ t9.heap; rw [ht9]; exact hP⟩⟩, hS.F ht9⟩) hS.2.2 dX0_oddDivisor_113
      · skip
        refine lv_istore (lv' := [(7, .int (nI 1)), (0, .ref (ad 2077)), (3, .ref (ad (2 * gr))), (4, .ref (ad (2 * le))), (5, .int (nI rd)), (6, .int (nI i))]) hx hb dX0_oddDivisor_96 hl (by decide) rfl (fun ls hl => ?_)
        refine lv_iload hx hb dX0_oddDivisor_98 (lv_at hl 0 rfl) ?_
        refine lv_if_eq (tgt := 111) hx hb dX0_oddDivisor_100 (by decide) (fun c_88 => absurd c_88 (by decide)) (fun c_88 => ?_)
        refine lv_aload hx hb dX0_oddDivisor_103 (lv_at hl 3 rfl) ?_
        obtain ⟨mw_89, sw_89, nw_89, fw_89, aw_89, bw_89, cw_89, dw_89, ew_89⟩ := hAL le (by omega)
        have qw_89 : mw_89 ≤ 4096 := by rw [dw_89]; exact rmc_le _
        refine va_calli (va_runV (As := []) (rest := []) ⟨hx, hb, hml, hown, hts⟩ (c_V8_isOne l dC dI A ad cA g_55 le ((lw : Nat) : Int) hAL (by omega) hLL) (cwV 0 hts (goodIn_app (goodIn_r [Cond.methodLink RX0 93 yX8_isOne, Cond.instanceMethod yX8_isOne, Cond.selects RX8 yX8_isOne yX8_isOne, Cond.initialized RX8] [20, 21, 22, 5] rfl rfl) (goodIn_sub (fun w9 h9 => bk7 w9 h9) gw_V8_isOne)) rfl rfl rfl (by decide +kernel) ⟨Nat.le_of_ble_eq_true rfl, Nat.le_of_ble_eq_true rfl⟩) ⟨fun a U g mk q => ⟨q.1, q.2.1, q.2.2.1, LY.moved (u := U) (U := U.calling g mk a) (Vm.Alike.refl U.vm) q.2.2.2⟩, va_recv hK hP (ci := 11) (q0 := (2 * le)) rfl (wo_at (ns_w (by omega)) aw_89), fun U hU hW => ⟨rfl, by rw [hU]; exact fun q h => hA q (Nat.le_trans hS.1 h), by rw [hU]; exact hP, LY.moved hW.alike hL⟩⟩ rfl rfl hl.1 rfl (lv_room (Nat.le_of_ble_eq_true rfl)) dX0_oddDivisor_105 ⟨(Nat.le_of_ble_eq_true rfl), (Nat.le_of_ble_eq_true rfl)⟩) hS (fun q _ h => h) (fun q h => h) (fun r_90 u8 t8 H1 locs ht8 hvm8 hw_91 hB hz1 hk1 hS => ?_)
        obtain ⟨⟩ := u8
        try dsimp only at hw_91 hB
        rw [ht8] at hB
        have hP := hB
        generalize H1 = H at hP hS ⊢
        rcases hw_91 with ⟨rfl, h1⟩ | ⟨rfl, h1⟩
        · skip
          refine lv_if_eq (tgt := 114) hx hb dX0_oddDivisor_108 (by decide) (fun c_92 => absurd c_92 (by decide)) (fun c_92 => ?_)
          refine lv_aload hx hb dX0_oddDivisor_111 (lv_at hl 3 rfl) ?_
          have hlg : lw = Nat.gcd (2 * u9 + 1) (2 * x9 + 1) := by rw [← hgg, show lw = 1 by omega, Nat.gcd_one_right]
          have hvf := hLL
          rw [hlg] at hvf
          refine W.widen (k := 0) (n := 0) (by omega) (by omega) ?_
          exact W.aret (v := .ref (ad (2 * le))) hx hb hr (Or.inl ⟨_, rfl⟩) (Or.inr ⟨_, rfl⟩) (fun t9 ht9 hW9 => ⟨⟨(g_55, le), ad (2 * le), rfl, ⟨(fun (k : Nat) (hk : 8 ≤ k) => (fr_56 k (by omega)).trans ((fr_42 k (by omega)).trans ((fr_31 k (by omega)).trans ((fr_19 k (by omega)).trans ((fr_14 k (by omega)).trans ((fr_6 k (by omega)).trans (rfl))))))), hAL, by omega, hvf⟩, ⟨rfl, by show va_P (dC, dI) vwCl _ t9.heap; rw [ht9]; exact hP⟩⟩, hS.F ht9⟩) hS.2.2 dX0_oddDivisor_113
        · skip
          refine lv_if_eq (tgt := 114) hx hb dX0_oddDivisor_108 (by decide) (fun c_93 => ?_) (fun c_93 => absurd c_93 (by decide))
          refine lv_iload hx hb dX0_oddDivisor_114 (lv_at hl 0 rfl) ?_
          refine lv_if_ge (tgt := 129) hx hb dX0_oddDivisor_116 (by decide) (fun c_94 => ?_) (fun c_94 => absurd c_94 (by decide))
          refine lv_aload_n hx hb dX0_oddDivisor_129 rfl (lv_at hl 2 rfl) ?_
          refine lv_aload_n hx hb dX0_oddDivisor_130 rfl (lv_at hl 2 rfl) ?_
          refine lv_aload hx hb dX0_oddDivisor_131 (lv_at hl 3 rfl) ?_
          have hta := hGL
          have htb := hLL
          obtain ⟨sm9, nm9, fm9, ⟨am9, bm9, um9, cm9, em9⟩, rm9, gm9⟩ := hta
          have qm9 := rmc_le gr
          rw [Int.natAbs_natCast] at rm9
          refine va_callv (va_runV (As := [.ref (ad (2 * gr)), .ref (ad (2 * le))]) (rest := []) ⟨hx, hb, hml, hown, hts⟩ (c_V8_take2 l dC dI A ad cA g_55 gr le ((gv : Nat) : Int) ((lw : Nat) : Int) sm9 nm9 fm9 (by omega) (by omega) (⟨am9, bm9, um9, cm9, em9⟩) (by rw [Int.natAbs_natCast]; exact rm9) htb (by omega) (by rw [Int.natAbs_natCast, Int.natAbs_natCast]; omega)) (cwV 2 hts (goodIn_app (goodIn_r [Cond.methodLink RX0 96 yX8_takeSizes, Cond.instanceMethod yX8_takeSizes, Cond.selects RX8 yX8_takeSizes yX8_takeSizes, Cond.initialized RX8] [23, 24, 25, 5] rfl rfl) (goodIn_sub (fun w9 h9 => bk8 w9 h9) gw_V8_take2)) rfl rfl rfl (by decide +kernel) ⟨Nat.le_of_ble_eq_true rfl, Nat.le_of_ble_eq_true rfl⟩) ⟨fun a U g mk q => ⟨q.1, q.2.1, q.2.2.1, LY.moved (u := U) (U := U.calling g mk a) (Vm.Alike.refl U.vm) q.2.2.2⟩, va_recv hK hP (ci := 11) (q0 := (2 * gr)) rfl (wo_at (ns_w (by omega)) am9), fun U hU hW => ⟨rfl, by rw [hU]; exact fun q h => hA q (Nat.le_trans hS.1 h), by rw [hU]; exact hP, LY.moved hW.alike hL⟩⟩ rfl rfl hl.1 rfl (lv_room (Nat.le_of_ble_eq_true rfl)) dX0_oddDivisor_133 ⟨(Nat.le_of_ble_eq_true rfl), (Nat.le_of_ble_eq_true rfl)⟩) hS (fun q _ h => h) (fun q h => h) (fun u8 t8 H1 locs ht8 hvm8 hw_95 hB hz1 hk1 hS => ?_)
          obtain ⟨g_96, s2_97, f2_98⟩ := u8
          try dsimp only at hw_95 hB
          rw [ht8] at hB
          have hP := hB
          generalize H1 = H at hP hS ⊢
          obtain ⟨fr_99, hw7, rp7⟩ := hw_95
          rw [Int.natAbs_natCast, Int.natAbs_natCast] at rp7
          have hd0 : 0 < gv - lw := by omega
          obtain ⟨k2, u2, hk2⟩ := od_ex (gv - lw) hd0
          have hbs := bl_step (x := gv) (y := lw) (by omega) (by omega) (by omega) hk2
          have hgs := gcd_step (x := gv) (y := lw) (by omega) (by omega) hk2
          obtain ⟨dv, hdv⟩ : ∃ z, z = gv - lw := ⟨_, rfl⟩
          rw [← hdv] at rp7 hk2 hd0
          clear hdv
          have hAW_100 : AW ad cA g_96 := hw7.aw hAL (fun (k : Nat) (hk : k ≠ 2 * gr ∧ k ≠ 2 * gr + 1) => (fr_99 k (by omega)).trans (rfl))
          have hv_101 : WV ad cA g_96 gr ((dv : Nat) : Int) := ⟨_, _, _, hw7, by rw [Int.natAbs_natCast]; exact rp7, by omega⟩
          refine lv_aload_n hx hb dX0_oddDivisor_136 rfl (lv_at hl 2 rfl) ?_
          refine lv_aload_n hx hb dX0_oddDivisor_137 rfl (lv_at hl 2 rfl) ?_
          obtain ⟨mw_102, sw_102, nw_102, fw_102, aw_102, bw_102, cw_102, dw_102, ew_102⟩ := hAW_100 gr (by omega)
          have qw_102 : mw_102 ≤ 4096 := by rw [dw_102]; exact rmc_le _
          refine va_calli (va_runV (As := []) (rest := [.ref (ad (2 * gr))]) ⟨hx, hb, hml, hown, hts⟩ (c_V8_lowZeros l dC dI A ad cA g_96 gr ((dv : Nat) : Int) hAW_100 (by omega) hv_101) (cwV 0 hts (goodIn_app (goodIn_r [Cond.methodLink RX0 59 yX8_lowZeros, Cond.instanceMethod yX8_lowZeros, Cond.selects RX8 yX8_lowZeros yX8_lowZeros, Cond.initialized RX8] [8, 9, 10, 5] rfl rfl) (goodIn_sub (fun w9 h9 => bk3 w9 h9) gw_V8_lowZeros)) rfl rfl rfl (by decide +kernel) ⟨Nat.le_of_ble_eq_true rfl, Nat.le_of_ble_eq_true rfl⟩) ⟨fun a U g mk q => ⟨q.1, q.2.1, q.2.2.1, LY.moved (u := U) (U := U.calling g mk a) (Vm.Alike.refl U.vm) q.2.2.2⟩, va_recv hK hP (ci := 11) (q0 := (2 * gr)) rfl (wo_at (ns_w (by omega)) aw_102), fun U hU hW => ⟨rfl, by rw [hU]; exact fun q h => hA q (Nat.le_trans hS.1 h), by rw [hU]; exact hP, LY.moved hW.alike hL⟩⟩ rfl rfl hl.1 rfl (lv_room (Nat.le_of_ble_eq_true rfl)) dX0_oddDivisor_138 ⟨(Nat.le_of_ble_eq_true rfl), (Nat.le_of_ble_eq_true rfl)⟩) hS (fun q _ h => h) (fun q h => h) (fun r_103 u8 t8 H1 locs ht8 hvm8 hw_104 hB hz1 hk1 hS => ?_)
          obtain ⟨⟩ := u8
          try dsimp only at hw_104 hB
          rw [ht8] at hB
          have hP := hB
          generalize H1 = H at hP hS ⊢
          obtain ⟨z_105, rfl, hbz_105, htzz_105⟩ := (hw_104.resolve_left (fun h9 => absurd h9.1 (by omega))).2
          clear hw_104
          have hzez_105 : k2 = z_105 := (tz_uq htzz_105 ⟨u2, by rw [Int.natAbs_natCast]; exact hk2⟩).symm
          subst hzez_105
          refine va_callv (va_runV (As := [.int (nI k2)]) (rest := []) ⟨hx, hb, hml, hown, hts⟩ (c_V8_shiftDown l dC dI A ad cA g_96 gr ((dv : Nat) : Int) k2 ((2 * u2 + 1 : Nat) : Int) hAW_100 (by omega) hv_101 hbz_105 (by rw [Int.natAbs_natCast, Int.natAbs_natCast, hk2, Nat.mul_div_cancel_left _ (Nat.pow_pos (by decide))]) (by omega)) (cwV 1 hts (goodIn_app (goodIn_r [Cond.methodLink RX0 69 yX8_shiftDown, Cond.instanceMethod yX8_shiftDown, Cond.selects RX8 yX8_shiftDown yX8_shiftDown, Cond.initialized RX8] [11, 12, 13, 5] rfl rfl) (goodIn_sub (fun w9 h9 => bk4 w9 h9) gw_V8_shiftDown)) rfl rfl rfl (by decide +kernel) ⟨Nat.le_of_ble_eq_true rfl, Nat.le_of_ble_eq_true rfl⟩) ⟨fun a U g mk q => ⟨q.1, q.2.1, q.2.2.1, LY.moved (u := U) (U := U.calling g mk a) (Vm.Alike.refl U.vm) q.2.2.2⟩, va_recv hK hP (ci := 11) (q0 := (2 * gr)) rfl (wo_at (ns_w (by omega)) aw_102), fun U hU hW => ⟨rfl, by rw [hU]; exact fun q h => hA q (Nat.le_trans hS.1 h), by rw [hU]; exact hP, LY.moved hW.alike hL⟩⟩ rfl rfl hl.1 rfl (lv_room (Nat.le_of_ble_eq_true rfl)) dX0_oddDivisor_141 ⟨(Nat.le_of_ble_eq_true rfl), (Nat.le_of_ble_eq_true rfl)⟩) hS (fun q _ h => h) (fun q h => h) (fun u8 t8 H1 locs ht8 hvm8 hw_108 hB hz1 hk1 hS => ?_)
          obtain ⟨g_109, rfl⟩ : ∃ z, z = u8 := ⟨_, rfl⟩
          try dsimp only at hw_108 hB
          rw [ht8] at hB
          have hP := hB
          generalize H1 = H at hP hS ⊢
          obtain ⟨fr_110, hAW_106, hv_107⟩ := hw_108
          refine lv_iinc (v := nI (i + 1)) (lv' := [(6, .int (nI (i + 1))), (7, .int (nI 1)), (0, .ref (ad 2077)), (3, .ref (ad (2 * gr))), (4, .ref (ad (2 * le))), (5, .int (nI rd))]) hx hb dX0_oddDivisor_144 hl (k := 5) rfl (nI_add i 1) (by decide) rfl (fun ls hl => ?_)
          refine lv_goto (tgt := 83) hx hb dX0_oddDivisor_147 (by decide) ?_
          have hv_113 : WV ad cA g_109 le ((lw : Nat) : Int) := WV.same hLL ((fun (k : Nat) (hk : k = 2 * le ∨ k = 2 * le + 1) => (fr_110 k (by omega)).trans ((fr_99 k (by omega)).trans (rfl))) _ (Or.inl rfl)) ((fun (k : Nat) (hk : k = 2 * le ∨ k = 2 * le + 1) => (fr_110 k (by omega)).trans ((fr_99 k (by omega)).trans (rfl))) _ (Or.inr rfl))
          exact ih_54 (i + 1) gr le (2 * u2 + 1) lw g_109 (fun (k : Nat) (hk : 8 ≤ k) => (fr_110 k (by omega)).trans ((fr_99 k (by omega)).trans ((fr_56 k (by omega)).trans (rfl)))) (by omega) (by omega) (by omega) (⟨by omega, by omega⟩) (by rw [hgs]; exact hgg) (by omega) hAW_106 hv_107 hv_113 _ _ _ hP hS (lv_sub (l' := [(0, .ref (ad 2077)), (3, .ref (ad (2 * gr))), (4, .ref (ad (2 * le))), (5, .int (nI rd)), (6, .int (nI (i + 1)))]) hl [2, 3, 4, 5, 0] rfl)
  exact loop_53 _ 0 2 3 (2 * u9 + 1) (2 * x9 + 1) g_41 (fun (k : Nat) (hk : 8 ≤ k) => rfl) (Nat.lt_succ_self _) (by omega) (Or.inl ⟨rfl, rfl⟩) (⟨by omega, by omega⟩) rfl (by omega) hAW_38 hv_45 hv_39 _ _ _ hP hS (lv_sub (l' := [(0, .ref (ad 2077)), (3, .ref (ad (2 * 2))), (4, .ref (ad (2 * 3))), (5, .int (nI rd)), (6, .int (nI 0))]) hl [4, 3, 2, 1, 0] rfl)
