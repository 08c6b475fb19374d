def wd_V0_reduce : List Cond := .code yX0_reduce cX0_reduce 4 none :: (([.methodLink RX0 51 yX2_isZero, .instanceMethod yX2_isZero, .selects RX2 yX2_isZero yX2_isZero, .initialized RX2, .fieldLink RX0 34 "GradientDesk$Fraction" "bottom" "LGradientDesk$Whole;", .methodLink RX0 55 yX8_put, .instanceMethod yX8_put, .selects RX8 yX8_put yX8_put, .initialized RX8, .fieldLink RX0 29 "GradientDesk$Fraction" "top" "LGradientDesk$Whole;", .methodLink RX0 59 yX8_lowZeros, .instanceMethod yX8_lowZeros, .selects RX8 yX8_lowZeros yX8_lowZeros, .methodLink RX0 63 Lib.Math.min.name, .static Lib.Math.min.name, .initialized "java/lang/Math", .code Lib.Math.min.name Lib.Math.min.code 2 (some .int), .methodLink RX0 69 yX8_shiftDown, .instanceMethod yX8_shiftDown, .selects RX8 yX8_shiftDown yX8_shiftDown, .methodLink RX0 72 yX0_oddDivisor, .instanceMethod yX0_oddDivisor, .selects RX0 yX0_oddDivisor yX0_oddDivisor, .initialized RX0, .methodLink RX0 76 yX8_divideEvenly, .instanceMethod yX8_divideEvenly, .selects RX8 yX8_divideEvenly yX8_divideEvenly] : List Cond) ++ (wd_V2_isZero ++ (u_ws RX2 TX2 2 ++ (wd_V8_put ++ (wd_V8_lowZeros ++ (wd_V8_shiftDown ++ (wd_V0_oddDivisor ++ (wd_V8_divideEvenly ++ ([])))))))))
theorem gw_V0_reduce : wd_V0_reduce.all goodWord = true := k_allc rfl (k_all (by decide +kernel) (k_all (gw_V2_isZero) (k_all (gu_X2) (k_all (gw_V8_put) (k_all (gw_V8_lowZeros) (k_all (gw_V8_shiftDown) (k_all (gw_V0_oddDivisor) (k_all (gw_V8_divideEvenly) (rfl)))))))))
set_option maxHeartbeats 4000000 in
set_option maxRecDepth 100000 in
theorem c_V0_reduce (l : Launch) (dC : Nat → ClassId) (dI : Nat → Nat → Nat) (A : Nat → Prop) (ad : Nat → Nat) (cA : Nat → ClassId) (g : Nat → va_E) (p9 : Int) (q9 : Nat) (hAW : AW ad cA g) (hAr : g 2077 = .inr (3, [.ref (ad (2 * 0)), .ref (ad (2 * 1)), .ref (ad (2 * 2)), .ref (ad (2 * 3))])) (hWk : g 2107 = .inr (5, [.ref (ad (2 * 4)), .ref (ad (2 * 5))])) (w4 : WV ad cA g 4 p9) (w5 : WV ad cA g 5 ((q9 : Nat) : Int)) (hq0 : 0 < q9) : Met l yX0_reduce wd_V0_reduce ({ frames := 40, cells := 0, slots := 0, locals := 800 }) (va_Pc [.ref (ad 2077), .ref (ad 2107)] (PR NSc tyc dC dI A ad cA g)) (va_Qv (fun (u : Nat → va_E) => match u with | g2 => (∀ k, 12 ≤ k → g2 k = g k) ∧ AW ad cA g2 ∧ WV ad cA g2 4 (rdp p9 q9) ∧ WV ad cA g2 5 ((rdq p9 q9 : Nat) : Int)) (fun (u : Nat → va_E) (t : State) => va_P (dC, dI) vwCl (wo ad NSc u) t.heap) A) (0) (0) A := by
  refine Met.ofW (cc := cX0_reduce) (maxL := 4) (ret := none) (by decide) rfl ?_
  intro p e s m args below meth c s₁ B hml hv
  obtain ⟨rfl, hA, hP, hL⟩ := hv
  have hx := B.exec
  have hb := B.bytes
  have hr := B.returns
  have hts := atoms_spec (ws := wd_V0_reduce) B.pre
  have hown : s.vm.findClass RX0 = some m.cls := findClass_of_methodNamed B.named
  have hlocks := B.notSynchronized
  have hK := hL.1
  have hD : ∀ g, va_D A (wo ad NSc g) := fun g => wo_D hL.2.1 hL.2.2 g
  have hS : va_S A s.heap s.heap [] := va_S.rf
  have bk0 : ∀ w ∈ wd_V2_isZero, w ∈ wd_V0_reduce := fun _ h => List.mem_cons_of_mem _ (List.mem_append_right _ (List.mem_append_left _ h))
  have bk1 : ∀ w ∈ u_ws RX2 TX2 2, w ∈ wd_V0_reduce := fun _ h => List.mem_cons_of_mem _ (List.mem_append_right _ (List.mem_append_right _ (List.mem_append_left _ h)))
  have bk2 : ∀ w ∈ wd_V8_put, w ∈ wd_V0_reduce := fun _ h => List.mem_cons_of_mem _ (List.mem_append_right _ (List.mem_append_right _ (List.mem_append_right _ (List.mem_append_left _ h))))
  have bk3 : ∀ w ∈ wd_V8_lowZeros, w ∈ wd_V0_reduce := fun _ h => List.mem_cons_of_mem _ (List.mem_append_right _ (List.mem_append_right _ (List.mem_append_right _ (List.mem_append_right _ (List.mem_append_left _ h)))))
  have bk4 : ∀ w ∈ wd_V8_shiftDown, w ∈ wd_V0_reduce := fun _ h => List.mem_cons_of_mem _ (List.mem_append_right _ (List.mem_append_right _ (List.mem_append_right _ (List.mem_append_right _ (List.mem_append_right _ (List.mem_append_left _ h))))))
  have bk5 : ∀ w ∈ wd_V0_oddDivisor, w ∈ wd_V0_reduce := fun _ h => List.mem_cons_of_mem _ (List.mem_append_right _ (List.mem_append_right _ (List.mem_append_right _ (List.mem_append_right _ (List.mem_append_right _ (List.mem_append_right _ (List.mem_append_left _ h)))))))
  have bk6 : ∀ w ∈ wd_V8_divideEvenly, w ∈ wd_V0_reduce := fun _ h => List.mem_cons_of_mem _ (List.mem_append_right _ (List.mem_append_right _ (List.mem_append_right _ (List.mem_append_right _ (List.mem_append_right _ (List.mem_append_right _ (List.mem_append_right _ (List.mem_append_left _ h))))))))
  have hl := lv_entry ([.ref (ad 2077), .ref (ad 2107)]) (n := 4) (Nat.le_of_ble_eq_true rfl)
  rw [lg_entry_eq]
  generalize (lg_sl ([.ref (ad 2077), .ref (ad 2107)]) ++ List.replicate (4 - (lg_sl ([.ref (ad 2077), .ref (ad 2107)])).length) Slot.unset).toArray = ls at hl ⊢
  have hl : lv_has ls 4 [(0, .ref (ad 2077)), (1, .ref (ad 2107))] := hl
  refine lv_aload_n hx hb dX0_reduce_0 rfl (lv_at hl 1 rfl) ?_
  refine va_calli (va_runV (As := []) (rest := []) ⟨hx, hb, hml, hown, hts⟩ (c_V2_isZero l dC dI A ad cA g 2107 4 5 p9 ((q9 : Nat) : Int) hAW hWk (by decide) (by decide) w4 w5) (cwV 0 hts (goodIn_app (goodIn_r [Cond.methodLink RX0 51 yX2_isZero, Cond.instanceMethod yX2_isZero, Cond.selects RX2 yX2_isZero yX2_isZero, Cond.initialized RX2] [1, 2, 3, 4] rfl rfl) (goodIn_sub (fun w9 h9 => bk0 w9 h9) gw_V2_isZero)) rfl rfl rfl (by decide +kernel) ⟨Nat.le_of_ble_eq_true rfl, Nat.le_of_ble_eq_true rfl⟩) ⟨fun a U g mk q => ⟨q.1, q.2.1, q.2.2.1, LY.moved (u := U) (U := U.calling g mk a) (Vm.Alike.refl U.vm) q.2.2.2⟩, va_recv hK hP (ci := 5) (q0 := 2107) rfl (wo_at (by decide) hWk), fun U hU hW => ⟨rfl, by rw [hU]; exact fun q h => hA q (Nat.le_trans hS.1 h), by rw [hU]; exact hP, LY.moved hW.alike hL⟩⟩ rfl rfl hl.1 rfl (lv_room (Nat.le_of_ble_eq_true rfl)) dX0_reduce_1 ⟨(Nat.le_of_ble_eq_true rfl), (Nat.le_of_ble_eq_true rfl)⟩) hS (fun q _ h => h) (fun q h => h) (fun r_1 u8 t8 H1 locs ht8 hvm8 hw_2 hB hz1 hk1 hS => ?_)
  obtain ⟨⟩ := u8
  try dsimp only at hw_2 hB
  rw [ht8] at hB
  have hP := hB
  generalize H1 = H at hP hS ⊢
  rcases hw_2 with ⟨rfl, hp0⟩ | ⟨rfl, hp0⟩
  · skip
    refine lv_if_eq (tgt := 16) hx hb dX0_reduce_4 (by decide) (fun c_3 => absurd c_3 (by decide)) (fun c_3 => ?_)
    refine lv_aload_n hx hb dX0_reduce_7 rfl (lv_at hl 1 rfl) ?_
    refine m_get (D := (dC, dI)) (v := .ref (ad (2 * 5))) (C := RX2) (T := TX2) (N := 2) hx hb hts bk1 hown hK hP 2107 (by decide) hWk rfl 1 (by decide) (hts (.fieldLink RX0 34 "GradientDesk$Fraction" "bottom" "LGradientDesk$Whole;") (List.mem_of_getElem? (i := 5) rfl)) (fun _ h9 => h9) rfl dX0_reduce_8 ?_
    refine lv_lconst (v := lN 1) hx hb dX0_reduce_11 (by decide +kernel) ?_
    obtain ⟨mw_4, sw_4, nw_4, fw_4, aw_4, bw_4, cw_4, dw_4, ew_4⟩ := hAW 5 (by omega)
    have qw_4 : mw_4 ≤ 4096 := by rw [dw_4]; exact rmc_le _
    have hz9 := rd_zero hq0
    refine va_callv (va_runV (As := [.long (lN 1)]) (rest := []) ⟨hx, hb, hml, hown, hts⟩ (c_V8_put l dC dI A ad cA g 5 (lN 1) 1 hAW (by decide) (by decide) (by decide) (by decide)) (cwV 1 hts (goodIn_app (goodIn_r [Cond.methodLink RX0 55 yX8_put, Cond.instanceMethod yX8_put, Cond.selects RX8 yX8_put yX8_put, Cond.initialized RX8] [6, 7, 8, 9] rfl rfl) (goodIn_sub (fun w9 h9 => bk2 w9 h9) gw_V8_put)) rfl rfl rfl (by decide +kernel) ⟨Nat.le_of_ble_eq_true rfl, Nat.le_of_ble_eq_true rfl⟩) ⟨fun a U g mk q => ⟨q.1, q.2.1, q.2.2.1, LY.moved (u := U) (U := U.calling g mk a) (Vm.Alike.refl U.vm) q.2.2.2⟩, va_recv hK hP (ci := 11) (q0 := (2 * 5)) rfl (wo_at (ns_w (by omega)) aw_4), fun U hU hW => ⟨rfl, by rw [hU]; exact fun q h => hA q (Nat.le_trans hS.1 h), by rw [hU]; exact hP, LY.moved hW.alike hL⟩⟩ rfl rfl hl.1 rfl (lv_room (Nat.le_of_ble_eq_true rfl)) dX0_reduce_12 ⟨(Nat.le_of_ble_eq_true rfl), (Nat.le_of_ble_eq_true rfl)⟩) hS (fun q _ h => h) (fun q h => h) (fun u8 t8 H1 locs ht8 hvm8 hw_7 hB hz1 hk1 hS => ?_)
    obtain ⟨g_8, rfl⟩ : ∃ z, z = u8 := ⟨_, rfl⟩
    try dsimp only at hw_7 hB
    rw [ht8] at hB
    have hP := hB
    generalize H1 = H at hP hS ⊢
    obtain ⟨fr_9, hAW_5, hv_6⟩ := hw_7
    have e1 : rdp p9 q9 = p9 := by rw [hp0]; exact hz9.1
    have e2 : ((rdq p9 q9 : Nat) : Int) = 1 := by rw [hp0, hz9.2]; rfl
    rw [e1, e2]
    have hv_10 : WV ad cA g_8 4 p9 := WV.same w4 ((fun (k : Nat) (hk : k = 2 * 4 ∨ k = 2 * 4 + 1) => (fr_9 k (by omega)).trans (rfl)) _ (Or.inl rfl)) ((fun (k : Nat) (hk : k = 2 * 4 ∨ k = 2 * 4 + 1) => (fr_9 k (by omega)).trans (rfl)) _ (Or.inr rfl))
    refine W.widen (k := 0) (n := 0) (by omega) (by omega) ?_
    exact W.vret hx hb hr (fun t9 ht9 hW9 => ⟨⟨g_8, rfl, ⟨(fun (k : Nat) (hk : 12 ≤ k) => (fr_9 k (by omega)).trans (rfl)), hAW_5, hv_10, hv_6⟩, by show va_P (dC, dI) vwCl _ t9.heap; rw [ht9]; exact hP⟩, hS.F ht9⟩) hS.2.2 dX0_reduce_15
  · skip
    refine lv_if_eq (tgt := 16) hx hb dX0_reduce_4 (by decide) (fun c_11 => ?_) (fun c_11 => absurd c_11 (by decide))
    obtain ⟨a9, u9, hp9⟩ := od_ex p9.natAbs (by omega)
    obtain ⟨b9, x9, hq9⟩ := od_ex q9 hq0
    refine lv_aload_n hx hb dX0_reduce_16 rfl (lv_at hl 1 rfl) ?_
    refine m_get (D := (dC, dI)) (v := .ref (ad (2 * 4))) (C := RX2) (T := TX2) (N := 2) hx hb hts bk1 hown hK hP 2107 (by decide) hWk rfl 0 (by decide) (hts (.fieldLink RX0 29 "GradientDesk$Fraction" "top" "LGradientDesk$Whole;") (List.mem_of_getElem? (i := 10) rfl)) (fun _ h9 => h9) rfl dX0_reduce_17 ?_
    obtain ⟨mw_12, sw_12, nw_12, fw_12, aw_12, bw_12, cw_12, dw_12, ew_12⟩ := hAW 4 (by omega)
    have qw_12 : mw_12 ≤ 4096 := by rw [dw_12]; exact rmc_le _
    refine va_calli (va_runV (As := []) (rest := []) ⟨hx, hb, hml, hown, hts⟩ (c_V8_lowZeros l dC dI A ad cA g 4 p9 hAW (by omega) w4) (cwV 0 hts (goodIn_app (goodIn_r [Cond.methodLink RX0 59 yX8_lowZeros, Cond.instanceMethod yX8_lowZeros, Cond.selects RX8 yX8_lowZeros yX8_lowZeros, Cond.initialized RX8] [11, 12, 13, 9] rfl rfl) (goodIn_sub (fun w9 h9 => bk3 w9 h9) gw_V8_lowZeros)) rfl rfl rfl (by decide +kernel) ⟨Nat.le_of_ble_eq_true rfl, Nat.le_of_ble_eq_true rfl⟩) ⟨fun a U g mk q => ⟨q.1, q.2.1, q.2.2.1, LY.moved (u := U) (U := U.calling g mk a) (Vm.Alike.refl U.vm) q.2.2.2⟩, va_recv hK hP (ci := 11) (q0 := (2 * 4)) rfl (wo_at (ns_w (by omega)) aw_12), fun U hU hW => ⟨rfl, by rw [hU]; exact fun q h => hA q (Nat.le_trans hS.1 h), by rw [hU]; exact hP, LY.moved hW.alike hL⟩⟩ rfl rfl hl.1 rfl (lv_room (Nat.le_of_ble_eq_true rfl)) dX0_reduce_20 ⟨(Nat.le_of_ble_eq_true rfl), (Nat.le_of_ble_eq_true rfl)⟩) hS (fun q _ h => h) (fun q h => h) (fun r_13 u8 t8 H1 locs ht8 hvm8 hw_14 hB hz1 hk1 hS => ?_)
    obtain ⟨⟩ := u8
    try dsimp only at hw_14 hB
    rw [ht8] at hB
    have hP := hB
    generalize H1 = H at hP hS ⊢
    obtain ⟨z_15, rfl, hbz_15, htzz_15⟩ := (hw_14.resolve_left (fun h9 => absurd h9.1 (by omega))).2
    clear hw_14
    have hzez_15 : a9 = z_15 := (tz_uq htzz_15 ⟨u9, hp9⟩).symm
    subst hzez_15
    refine lv_aload_n hx hb dX0_reduce_23 rfl (lv_at hl 1 rfl) ?_
    refine m_get (D := (dC, dI)) (v := .ref (ad (2 * 5))) (C := RX2) (T := TX2) (N := 2) hx hb hts bk1 hown hK hP 2107 (by decide) hWk rfl 1 (by decide) (hts (.fieldLink RX0 34 "GradientDesk$Fraction" "bottom" "LGradientDesk$Whole;") (List.mem_of_getElem? (i := 5) rfl)) (fun _ h9 => h9) rfl dX0_reduce_24 ?_
    obtain ⟨mw_16, sw_16, nw_16, fw_16, aw_16, bw_16, cw_16, dw_16, ew_16⟩ := hAW 5 (by omega)
    have qw_16 : mw_16 ≤ 4096 := by rw [dw_16]; exact rmc_le _
    refine va_calli (va_runV (As := []) (rest := [.int (nI a9)]) ⟨hx, hb, hml, hown, hts⟩ (c_V8_lowZeros l dC dI A ad cA g 5 ((q9 : Nat) : Int) hAW (by omega) w5) (cwV 0 hts (goodIn_app (goodIn_r [Cond.methodLink RX0 59 yX8_lowZeros, Cond.instanceMethod yX8_lowZeros, Cond.selects RX8 yX8_lowZeros yX8_lowZeros, Cond.initialized RX8] [11, 12, 13, 9] rfl rfl) (goodIn_sub (fun w9 h9 => bk3 w9 h9) gw_V8_lowZeros)) rfl rfl rfl (by decide +kernel) ⟨Nat.le_of_ble_eq_true rfl, Nat.le_of_ble_eq_true rfl⟩) ⟨fun a U g mk q => ⟨q.1, q.2.1, q.2.2.1, LY.moved (u := U) (U := U.calling g mk a) (Vm.Alike.refl U.vm) q.2.2.2⟩, va_recv hK hP (ci := 11) (q0 := (2 * 5)) rfl (wo_at (ns_w (by omega)) aw_16), fun U hU hW => ⟨rfl, by rw [hU]; exact fun q h => hA q (Nat.le_trans hS.1 h), by rw [hU]; exact hP, LY.moved hW.alike hL⟩⟩ rfl rfl hl.1 rfl (lv_room (Nat.le_of_ble_eq_true rfl)) dX0_reduce_27 ⟨(Nat.le_of_ble_eq_true rfl), (Nat.le_of_ble_eq_true rfl)⟩) hS (fun q _ h => h) (fun q h => h) (fun r_17 u8 t8 H1 locs ht8 hvm8 hw_18 hB hz1 hk1 hS => ?_)
    obtain ⟨⟩ := u8
    try dsimp only at hw_18 hB
    rw [ht8] at hB
    have hP := hB
    generalize H1 = H at hP hS ⊢
    obtain ⟨z_19, rfl, hbz_19, htzz_19⟩ := (hw_18.resolve_left (fun h9 => absurd h9.1 (by omega))).2
    clear hw_18
    have hzez_19 : b9 = z_19 := (tz_uq htzz_19 ⟨x9, by rw [Int.natAbs_natCast]; exact hq9⟩).symm
    subst hzez_19
    refine va_mmin hx hb (by rw [hml]; exact hl.1.symm) hown (hts (.methodLink RX0 63 Lib.Math.min.name) (List.mem_of_getElem? (i := 14) rfl)) (hts (.static Lib.Math.min.name) (List.mem_of_getElem? (i := 15) rfl)) (hts (.initialized "java/lang/Math") (List.mem_of_getElem? (i := 16) rfl)) (hts (.code Lib.Math.min.name Lib.Math.min.code 2 (some .int)) (List.mem_of_getElem? (i := 17) rfl)) (Nat.le_of_ble_eq_true rfl) (Nat.le_of_ble_eq_true rfl) (Nat.le_of_ble_eq_true rfl) (Nat.le_of_ble_eq_true rfl) dX0_reduce_30 ?_
    refine lv_topi (fun x_21 e_22 => ?_)
    obtain ⟨q_20, hq_20, eq_20⟩ : ∃ z : Nat, z = min a9 b9 ∧ x_21 = nI z := ⟨_, rfl, by rw [e_22]; exact k_min (by omega) (by omega)⟩
    subst eq_20
    have hqb : q_20 ≤ 200000 := by omega
    obtain ⟨w9, y9, hm1, hm2, hm3, hm4, hm5, hm6, hm7, hm8, hm9, hm10⟩ := rd_mid hq0 hp0 hp9 hq9 hq_20
    refine lv_istore_n (lv' := [(2, .int (nI q_20)), (0, .ref (ad 2077)), (1, .ref (ad 2107))]) hx hb dX0_reduce_33 rfl hl (by decide) rfl (fun ls hl => ?_)
    refine lv_aload_n hx hb dX0_reduce_34 rfl (lv_at hl 2 rfl) ?_
    refine m_get (D := (dC, dI)) (v := .ref (ad (2 * 4))) (C := RX2) (T := TX2) (N := 2) hx hb hts bk1 hown hK hP 2107 (by decide) hWk rfl 0 (by decide) (hts (.fieldLink RX0 29 "GradientDesk$Fraction" "top" "LGradientDesk$Whole;") (List.mem_of_getElem? (i := 10) rfl)) (fun _ h9 => h9) rfl dX0_reduce_35 ?_
    refine lv_iload_n hx hb dX0_reduce_38 rfl (lv_at hl 0 rfl) ?_
    refine va_callv (va_runV (As := [.int (nI q_20)]) (rest := []) ⟨hx, hb, hml, hown, hts⟩ (c_V8_shiftDown l dC dI A ad cA g 4 p9 q_20 w9 hAW (by omega) w4 hqb hm1 hm2) (cwV 1 hts (goodIn_app (goodIn_r [Cond.methodLink RX0 69 yX8_shiftDown, Cond.instanceMethod yX8_shiftDown, Cond.selects RX8 yX8_shiftDown yX8_shiftDown, Cond.initialized RX8] [18, 19, 20, 9] rfl rfl) (goodIn_sub (fun w9 h9 => bk4 w9 h9) gw_V8_shiftDown)) rfl rfl rfl (by decide +kernel) ⟨Nat.le_of_ble_eq_true rfl, Nat.le_of_ble_eq_true rfl⟩) ⟨fun a U g mk q => ⟨q.1, q.2.1, q.2.2.1, LY.moved (u := U) (U := U.calling g mk a) (Vm.Alike.refl U.vm) q.2.2.2⟩, va_recv hK hP (ci := 11) (q0 := (2 * 4)) rfl (wo_at (ns_w (by omega)) aw_12), fun U hU hW => ⟨rfl, by rw [hU]; exact fun q h => hA q (Nat.le_trans hS.1 h), by rw [hU]; exact hP, LY.moved hW.alike hL⟩⟩ rfl rfl hl.1 rfl (lv_room (Nat.le_of_ble_eq_true rfl)) dX0_reduce_39 ⟨(Nat.le_of_ble_eq_true rfl), (Nat.le_of_ble_eq_true rfl)⟩) hS (fun q _ h => h) (fun q h => h) (fun u8 t8 H1 locs ht8 hvm8 hw_25 hB hz1 hk1 hS => ?_)
    obtain ⟨g_26, rfl⟩ : ∃ z, z = u8 := ⟨_, rfl⟩
    try dsimp only at hw_25 hB
    rw [ht8] at hB
    have hP := hB
    generalize H1 = H at hP hS ⊢
    obtain ⟨fr_27, hAW_23, hv_24⟩ := hw_25
    refine lv_aload_n hx hb dX0_reduce_42 rfl (lv_at hl 2 rfl) ?_
    have f_28 : g_26 2107 = .inr (5, [.ref (ad (2 * 4)), .ref (ad (2 * 5))]) := (fr_27 2107 (by omega)).trans hWk
    refine m_get (D := (dC, dI)) (v := .ref (ad (2 * 5))) (C := RX2) (T := TX2) (N := 2) hx hb hts bk1 hown hK hP 2107 (by decide) f_28 rfl 1 (by decide) (hts (.fieldLink RX0 34 "GradientDesk$Fraction" "bottom" "LGradientDesk$Whole;") (List.mem_of_getElem? (i := 5) rfl)) (fun _ h9 => h9) rfl dX0_reduce_43 ?_
    refine lv_iload_n hx hb dX0_reduce_46 rfl (lv_at hl 0 rfl) ?_
    obtain ⟨mw_29, sw_29, nw_29, fw_29, aw_29, bw_29, cw_29, dw_29, ew_29⟩ := hAW_23 5 (by omega)
    have qw_29 : mw_29 ≤ 4096 := by rw [dw_29]; exact rmc_le _
    have hv_30 : WV ad cA g_26 5 ((q9 : Nat) : Int) := WV.same w5 ((fun (k : Nat) (hk : k = 2 * 5 ∨ k = 2 * 5 + 1) => (fr_27 k (by omega)).trans (rfl)) _ (Or.inl rfl)) ((fun (k : Nat) (hk : k = 2 * 5 ∨ k = 2 * 5 + 1) => (fr_27 k (by omega)).trans (rfl)) _ (Or.inr rfl))
    refine va_callv (va_runV (As := [.int (nI q_20)]) (rest := []) ⟨hx, hb, hml, hown, hts⟩ (c_V8_shiftDown l dC dI A ad cA g_26 5 ((q9 : Nat) : Int) q_20 ((y9 : Nat) : Int) hAW_23 (by omega) hv_30 hqb (by rw [Int.natAbs_natCast, Int.natAbs_natCast]; exact hm3) (by omega)) (cwV 1 hts (goodIn_app (goodIn_r [Cond.methodLink RX0 69 yX8_shiftDown, Cond.instanceMethod yX8_shiftDown, Cond.selects RX8 yX8_shiftDown yX8_shiftDown, Cond.initialized RX8] [18, 19, 20, 9] rfl rfl) (goodIn_sub (fun w9 h9 => bk4 w9 h9) gw_V8_shiftDown)) rfl rfl rfl (by decide +kernel) ⟨Nat.le_of_ble_eq_true rfl, Nat.le_of_ble_eq_true rfl⟩) ⟨fun a U g mk q => ⟨q.1, q.2.1, q.2.2.1, LY.moved (u := U) (U := U.calling g mk a) (Vm.Alike.refl U.vm) q.2.2.2⟩, va_recv hK hP (ci := 11) (q0 := (2 * 5)) rfl (wo_at (ns_w (by omega)) aw_29), fun U hU hW => ⟨rfl, by rw [hU]; exact fun q h => hA q (Nat.le_trans hS.1 h), by rw [hU]; exact hP, LY.moved hW.alike hL⟩⟩ rfl rfl hl.1 rfl (lv_room (Nat.le_of_ble_eq_true rfl)) dX0_reduce_47 ⟨(Nat.le_of_ble_eq_true rfl), (Nat.le_of_ble_eq_true rfl)⟩) hS (fun q _ h => h) (fun q h => h) (fun u8 t8 H1 locs ht8 hvm8 hw_33 hB hz1 hk1 hS => ?_)
    obtain ⟨g_34, rfl⟩ : ∃ z, z = u8 := ⟨_, rfl⟩
    try dsimp only at hw_33 hB
    rw [ht8] at hB
    have hP := hB
    generalize H1 = H at hP hS ⊢
    obtain ⟨fr_35, hAW_31, hv_32⟩ := hw_33
    refine lv_aload_n hx hb dX0_reduce_50 rfl (lv_at hl 1 rfl) ?_
    refine lv_aload_n hx hb dX0_reduce_51 rfl (lv_at hl 2 rfl) ?_
    have f_36 : g_34 2107 = .inr (5, [.ref (ad (2 * 4)), .ref (ad (2 * 5))]) := (fr_35 2107 (by omega)).trans f_28
    refine m_get (D := (dC, dI)) (v := .ref (ad (2 * 4))) (C := RX2) (T := TX2) (N := 2) hx hb hts bk1 hown hK hP 2107 (by decide) f_36 rfl 0 (by decide) (hts (.fieldLink RX0 29 "GradientDesk$Fraction" "top" "LGradientDesk$Whole;") (List.mem_of_getElem? (i := 10) rfl)) (fun _ h9 => h9) rfl dX0_reduce_52 ?_
    refine lv_aload_n hx hb dX0_reduce_55 rfl (lv_at hl 2 rfl) ?_
    refine m_get (D := (dC, dI)) (v := .ref (ad (2 * 5))) (C := RX2) (T := TX2) (N := 2) hx hb hts bk1 hown hK hP 2107 (by decide) f_36 rfl 1 (by decide) (hts (.fieldLink RX0 34 "GradientDesk$Fraction" "bottom" "LGradientDesk$Whole;") (List.mem_of_getElem? (i := 5) rfl)) (fun _ h9 => h9) rfl dX0_reduce_56 ?_
    have hv_38 : WV ad cA g_34 4 w9 := WV.same hv_24 ((fun (k : Nat) (hk : k = 2 * 4 ∨ k = 2 * 4 + 1) => (fr_35 k (by omega)).trans (rfl)) _ (Or.inl rfl)) ((fun (k : Nat) (hk : k = 2 * 4 ∨ k = 2 * 4 + 1) => (fr_35 k (by omega)).trans (rfl)) _ (Or.inr rfl))
    have f_39 : g_34 2077 = .inr (3, [.ref (ad (2 * 0)), .ref (ad (2 * 1)), .ref (ad (2 * 2)), .ref (ad (2 * 3))]) := (fr_35 2077 (by omega)).trans ((fr_27 2077 (by omega)).trans hAr)
    refine va_callr (va_runV (As := [.ref (ad (2 * 4)), .ref (ad (2 * 5))]) (rest := []) ⟨hx, hb, hml, hown, hts⟩ (c_V0_oddDivisor l dC dI A ad cA g_34 w9 ((y9 : Nat) : Int) _ u9 _ x9 hAW_31 f_39 hv_38 hv_32 hm6 (by rw [Int.natAbs_natCast]; exact hm7) (by omega)) (cwV 2 hts (goodIn_app (goodIn_r [Cond.methodLink RX0 72 yX0_oddDivisor, Cond.instanceMethod yX0_oddDivisor, Cond.selects RX0 yX0_oddDivisor yX0_oddDivisor, Cond.initialized RX0] [21, 22, 23, 24] rfl rfl) (goodIn_sub (fun w9 h9 => bk5 w9 h9) gw_V0_oddDivisor)) rfl rfl rfl (by decide +kernel) ⟨Nat.le_of_ble_eq_true rfl, Nat.le_of_ble_eq_true rfl⟩) ⟨fun a U g mk q => ⟨q.1, q.2.1, q.2.2.1, LY.moved (u := U) (U := U.calling g mk a) (Vm.Alike.refl U.vm) q.2.2.2⟩, va_recv hK hP (ci := 3) (q0 := 2077) rfl (wo_at (by decide) f_39), fun U hU hW => ⟨rfl, by rw [hU]; exact fun q h => hA q (Nat.le_trans hS.1 h), by rw [hU]; exact hP, LY.moved hW.alike hL⟩⟩ rfl rfl hl.1 rfl (lv_room (Nat.le_of_ble_eq_true rfl)) dX0_reduce_59 ⟨(Nat.le_of_ble_eq_true rfl), (Nat.le_of_ble_eq_true rfl)⟩) hS (fun q _ h => h) (fun q h => h) (fun u8 r_40 t8 H1 locs ht8 hvm8 hw_41 hB hz1 hk1 hS => ?_)
    obtain ⟨g_42, qr_43⟩ := u8
    obtain ⟨hra, hB⟩ := hB
    try dsimp only at hw_41 hB hra
    rw [ht8] at hB
    have hP := hB
    subst hra
    generalize H1 = H at hP hS ⊢
    obtain ⟨fr_44, hAW_37, hqr, hvG⟩ := hw_41
    refine lv_astore_n (lv' := [(3, .ref (ad (2 * qr_43))), (2, .int (nI q_20)), (0, .ref (ad 2077)), (1, .ref (ad 2107))]) hx hb dX0_reduce_62 rfl hl (by decide) rfl (fun ls hl => ?_)
    refine lv_aload_n hx hb dX0_reduce_63 rfl (lv_at hl 3 rfl) ?_
    have f_45 : g_42 2107 = .inr (5, [.ref (ad (2 * 4)), .ref (ad (2 * 5))]) := (fr_44 2107 (by omega)).trans f_36
    refine m_get (D := (dC, dI)) (v := .ref (ad (2 * 4))) (C := RX2) (T := TX2) (N := 2) hx hb hts bk1 hown hK hP 2107 (by decide) f_45 rfl 0 (by decide) (hts (.fieldLink RX0 29 "GradientDesk$Fraction" "top" "LGradientDesk$Whole;") (List.mem_of_getElem? (i := 10) rfl)) (fun _ h9 => h9) rfl dX0_reduce_64 ?_
    refine lv_aload_n hx hb dX0_reduce_67 rfl (lv_at hl 0 rfl) ?_
    obtain ⟨mw_46, sw_46, nw_46, fw_46, aw_46, bw_46, cw_46, dw_46, ew_46⟩ := hAW_37 4 (by omega)
    have qw_46 : mw_46 ≤ 4096 := by rw [dw_46]; exact rmc_le _
    have hv_47 : WV ad cA g_42 4 w9 := WV.same hv_38 ((fun (k : Nat) (hk : k = 2 * 4 ∨ k = 2 * 4 + 1) => (fr_44 k (by omega)).trans (rfl)) _ (Or.inl rfl)) ((fun (k : Nat) (hk : k = 2 * 4 ∨ k = 2 * 4 + 1) => (fr_44 k (by omega)).trans (rfl)) _ (Or.inr rfl))
    refine va_callv (va_runV (As := [.ref (ad (2 * qr_43))]) (rest := []) ⟨hx, hb, hml, hown, hts⟩ (c_V8_divideEvenly l dC dI A ad cA g_42 4 qr_43 w9 ((Nat.gcd (2 * u9 + 1) (2 * x9 + 1) : Nat) : Int) (rdp p9 q9) hAW_37 (by decide) (by omega) hv_47 hvG (by omega) (by rw [Int.natAbs_natCast]; exact gcd_odd _ _) hm5 (by rw [Int.natAbs_natCast]; exact hm8) hm10) (cwV 1 hts (goodIn_app (goodIn_r [Cond.methodLink RX0 76 yX8_divideEvenly, Cond.instanceMethod yX8_divideEvenly, Cond.selects RX8 yX8_divideEvenly yX8_divideEvenly, Cond.initialized RX8] [25, 26, 27, 9] rfl rfl) (goodIn_sub (fun w9 h9 => bk6 w9 h9) gw_V8_divideEvenly)) rfl rfl rfl (by decide +kernel) ⟨Nat.le_of_ble_eq_true rfl, Nat.le_of_ble_eq_true rfl⟩) ⟨fun a U g mk q => ⟨q.1, q.2.1, q.2.2.1, LY.moved (u := U) (U := U.calling g mk a) (Vm.Alike.refl U.vm) q.2.2.2⟩, va_recv hK hP (ci := 11) (q0 := (2 * 4)) rfl (wo_at (ns_w (by omega)) aw_46), fun U hU hW => ⟨rfl, by rw [hU]; exact fun q h => hA q (Nat.le_trans hS.1 h), by rw [hU]; exact hP, LY.moved hW.alike hL⟩⟩ rfl rfl hl.1 rfl (lv_room (Nat.le_of_ble_eq_true rfl)) dX0_reduce_68 ⟨(Nat.le_of_ble_eq_true rfl), (Nat.le_of_ble_eq_true rfl)⟩) hS (fun q _ h => h) (fun q h => h) (fun u8 t8 H1 locs ht8 hvm8 hw_50 hB hz1 hk1 hS => ?_)
    obtain ⟨g_51, rfl⟩ : ∃ z, z = u8 := ⟨_, rfl⟩
    try dsimp only at hw_50 hB
    rw [ht8] at hB
    have hP := hB
    generalize H1 = H at hP hS ⊢
    obtain ⟨fr_52, hAW_48, hv_49⟩ := hw_50
    refine lv_aload_n hx hb dX0_reduce_71 rfl (lv_at hl 3 rfl) ?_
    have f_53 : g_51 2107 = .inr (5, [.ref (ad (2 * 4)), .ref (ad (2 * 5))]) := (fr_52 2107 (by omega)).trans f_45
    refine m_get (D := (dC, dI)) (v := .ref (ad (2 * 5))) (C := RX2) (T := TX2) (N := 2) hx hb hts bk1 hown hK hP 2107 (by decide) f_53 rfl 1 (by decide) (hts (.fieldLink RX0 34 "GradientDesk$Fraction" "bottom" "LGradientDesk$Whole;") (List.mem_of_getElem? (i := 5) rfl)) (fun _ h9 => h9) rfl dX0_reduce_72 ?_
    refine lv_aload_n hx hb dX0_reduce_75 rfl (lv_at hl 0 rfl) ?_
    obtain ⟨mw_54, sw_54, nw_54, fw_54, aw_54, bw_54, cw_54, dw_54, ew_54⟩ := hAW_48 5 (by omega)
    have qw_54 : mw_54 ≤ 4096 := by rw [dw_54]; exact rmc_le _
    have hv_55 : WV ad cA g_51 5 ((y9 : Nat) : Int) := WV.same hv_32 ((fun (k : Nat) (hk : k = 2 * 5 ∨ k = 2 * 5 + 1) => (fr_52 k (by omega)).trans ((fr_44 k (by omega)).trans (rfl))) _ (Or.inl rfl)) ((fun (k : Nat) (hk : k = 2 * 5 ∨ k = 2 * 5 + 1) => (fr_52 k (by omega)).trans ((fr_44 k (by omega)).trans (rfl))) _ (Or.inr rfl))
    have hv_56 : WV ad cA g_51 qr_43 ((Nat.gcd (2 * u9 + 1) (2 * x9 + 1) : Nat) : Int) := WV.same hvG ((fun (k : Nat) (hk : k = 2 * qr_43 ∨ k = 2 * qr_43 + 1) => (fr_52 k (by omega)).trans (rfl)) _ (Or.inl rfl)) ((fun (k : Nat) (hk : k = 2 * qr_43 ∨ k = 2 * qr_43 + 1) => (fr_52 k (by omega)).trans (rfl)) _ (Or.inr rfl))
    refine va_callv (va_runV (As := [.ref (ad (2 * qr_43))]) (rest := []) ⟨hx, hb, hml, hown, hts⟩ (c_V8_divideEvenly l dC dI A ad cA g_51 5 qr_43 ((y9 : Nat) : Int) ((Nat.gcd (2 * u9 + 1) (2 * x9 + 1) : Nat) : Int) ((rdq p9 q9 : Nat) : Int) hAW_48 (by decide) (by omega) hv_55 hv_56 (by omega) (by rw [Int.natAbs_natCast]; exact gcd_odd _ _) (by omega) (by rw [Int.natAbs_natCast, Int.natAbs_natCast, Int.natAbs_natCast]; exact hm9) (by omega)) (cwV 1 hts (goodIn_app (goodIn_r [Cond.methodLink RX0 76 yX8_divideEvenly, Cond.instanceMethod yX8_divideEvenly, Cond.selects RX8 yX8_divideEvenly yX8_divideEvenly, Cond.initialized RX8] [25, 26, 27, 9] rfl rfl) (goodIn_sub (fun w9 h9 => bk6 w9 h9) gw_V8_divideEvenly)) rfl rfl rfl (by decide +kernel) ⟨Nat.le_of_ble_eq_true rfl, Nat.le_of_ble_eq_true rfl⟩) ⟨fun a U g mk q => ⟨q.1, q.2.1, q.2.2.1, LY.moved (u := U) (U := U.calling g mk a) (Vm.Alike.refl U.vm) q.2.2.2⟩, va_recv hK hP (ci := 11) (q0 := (2 * 5)) rfl (wo_at (ns_w (by omega)) aw_54), fun U hU hW => ⟨rfl, by rw [hU]; exact fun q h => hA q (Nat.le_trans hS.1 h), by rw [hU]; exact hP, LY.moved hW.alike hL⟩⟩ rfl rfl hl.1 rfl (lv_room (Nat.le_of_ble_eq_true rfl)) dX0_reduce_76 ⟨(Nat.le_of_ble_eq_true rfl), (Nat.le_of_ble_eq_true rfl)⟩) hS (fun q _ h => h) (fun q h => h) (fun u8 t8 H1 locs ht8 hvm8 hw_59 hB hz1 hk1 hS => ?_)
    obtain ⟨g_60, rfl⟩ : ∃ z, z = u8 := ⟨_, rfl⟩
    try dsimp only at hw_59 hB
    rw [ht8] at hB
    have hP := hB
    generalize H1 = H at hP hS ⊢
    obtain ⟨fr_61, hAW_57, hv_58⟩ := hw_59
    have hv_62 : WV ad cA g_60 4 (rdp p9 q9) := WV.same hv_49 ((fun (k : Nat) (hk : k = 2 * 4 ∨ k = 2 * 4 + 1) => (fr_61 k (by omega)).trans (rfl)) _ (Or.inl rfl)) ((fun (k : Nat) (hk : k = 2 * 4 ∨ k = 2 * 4 + 1) => (fr_61 k (by omega)).trans (rfl)) _ (Or.inr rfl))
    refine W.widen (k := 0) (n := 0) (by omega) (by omega) ?_
    exact W.vret hx hb hr (fun t9 ht9 hW9 => ⟨⟨g_60, rfl, ⟨(fun (k : Nat) (hk : 12 ≤ k) => (fr_61 k (by omega)).trans ((fr_52 k (by omega)).trans ((fr_44 k (by omega)).trans ((fr_35 k (by omega)).trans ((fr_27 k (by omega)).trans (rfl)))))), hAW_57, hv_62, hv_58⟩, by show va_P (dC, dI) vwCl _ t9.heap; rw [ht9]; exact hP⟩, hS.F ht9⟩) hS.2.2 dX0_reduce_79
