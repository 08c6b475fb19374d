section
def wd_V0_reduce : List Cond := .code yX0_reduce cX0_reduce 4 none :: (([.methodLink RX0 51 yX2_isZero, .instanceMethod yX2_isZero, .selects RX2 yX2_isZero yX2_isZero, .initialized RX2, .fieldLink RX0 34 "GradientDesk$Fraction" "bottom" "LGradientDesk$Whole;", .methodLink RX0 55 yX8_put, .instanceMethod yX8_put, .selects RX8 yX8_put yX8_put, .initialized RX8, .fieldLink RX0 29 "GradientDesk$Fraction" "top" "LGradientDesk$Whole;", .methodLink RX0 59 yX8_lowZeros, .instanceMethod yX8_lowZeros, .selects RX8 yX8_lowZeros yX8_lowZeros, .methodLink RX0 63 Lib.Math.min.name, .static Lib.Math.min.name, .initialized "java/lang/Math", .code Lib.Math.min.name Lib.Math.min.code 2 (some .int), .methodLink RX0 69 yX8_shiftDown, .instanceMethod yX8_shiftDown, .selects RX8 yX8_shiftDown yX8_shiftDown, .methodLink RX0 72 yX0_oddDivisor, .instanceMethod yX0_oddDivisor, .selects RX0 yX0_oddDivisor yX0_oddDivisor, .initialized RX0, .methodLink RX0 76 yX8_divideEvenly, .instanceMethod yX8_divideEvenly, .selects RX8 yX8_divideEvenly yX8_divideEvenly] : List Cond) ++ (wd_V2_isZero ++ (u_ws RX2 TX2 2 ++ (wd_V8_put ++ (wd_V8_lowZeros ++ (wd_V8_shiftDown ++ (wd_V0_oddDivisor ++ (wd_V8_divideEvenly ++ ([])))))))))
theorem gw_V0_reduce : wd_V0_reduce.all goodWord = true := k_allc rfl (k_all (by decide +kernel) (k_all (gw_V2_isZero) (k_all (gu_X2) (k_all (gw_V8_put) (k_all (gw_V8_lowZeros) (k_all (gw_V8_shiftDown) (k_all (gw_V0_oddDivisor) (k_all (gw_V8_divideEvenly) (rfl)))))))))
set_option maxHeartbeats 4000000 in
set_option maxRecDepth 100000 in
theorem c_V0_reduce (l : Launch) (dC : Nat → ClassId) (dI : Nat → Nat → Nat) (A : Nat → Prop) (ad : Nat → Nat) (cA : Nat → ClassId) (g : Nat → va_E) (p9 : Int) (q9 : Nat) (hAW : AW ad cA g) (hAr : g 2077 = .inr (3, [.ref (ad (2 * 0)), .ref (ad (2 * 1)), .ref (ad (2 * 2)), .ref (ad (2 * 3))])) (hWk : g 2107 = .inr (5, [.ref (ad (2 * 4)), .ref (ad (2 * 5))])) (w4 : WV ad cA g 4 p9) (w5 : WV ad cA g 5 ((q9 : Nat) : Int)) (hq0 : 0 < q9) : Met l yX0_reduce wd_V0_reduce ({ frames := 40, cells := 0, slots := 0, locals := 800 }) (va_Pc [.ref (ad 2077), .ref (ad 2107)] (PR NSc tyc dC dI A ad cA g)) (va_Qv (fun (u : Nat → va_E) => match u with | g2 => (∀ k, 12 ≤ k → g2 k = g k) ∧ AW ad cA g2 ∧ WV ad cA g2 4 (rdp p9 q9) ∧ WV ad cA g2 5 ((rdq p9 q9 : Nat) : Int)) (fun (u : Nat → va_E) (t : State) => va_P (dC, dI) vwCl (wo ad NSc u) t.heap) A) (0) (0) A := by
  refine Met.ofW (cc := cX0_reduce) (maxL := 4) (ret := none) (by decide) rfl ?_
  intro p e s m args below meth c s₁ B hml hv
  obtain ⟨rfl, hA, hP, hL⟩ := hv
  have hx := B.exec
  have hb := B.bytes
  have hr := B.returns
  have hts := atoms_spec (ws := wd_V0_reduce) B.pre
  have hown : s.vm.findClass RX0 = some m.cls := findClass_of_methodNamed B.named
  have hlocks := B.notSynchronized
  have hK := hL.1
  have hD : ∀ g, va_D A (wo ad NSc g) := fun g => wo_D hL.2.1 hL.2.2 g
  have hS : va_S A s.heap s.heap [] := va_S.rf
  have bk0 : ∀ w ∈ wd_V2_isZero, w ∈ wd_V0_reduce := fun _ h => List.mem_cons_of_mem _ (List.mem_append_right _ (List.mem_append_left _ h))
  have bk1 : ∀ w ∈ u_ws RX2 TX2 2, w ∈ wd_V0_reduce := fun _ h => List.mem_cons_of_mem _ (List.mem_append_right _ (List.mem_append_right _ (List.mem_append_left _ h)))
  have bk2 : ∀ w ∈ wd_V8_put, w ∈ wd_V0_reduce := fun _ h => List.mem_cons_of_mem _ (List.mem_append_right _ (List.mem_append_right _ (List.mem_append_right _ (List.mem_append_left _ h))))
  have bk3 : ∀ w ∈ wd_V8_lowZeros, w ∈ wd_V0_reduce := fun _ h => List.mem_cons_of_mem _ (List.mem_append_right _ (List.mem_append_right _ (List.mem_append_right _ (List.mem_append_right _ (List.mem_append_left _ h)))))
  have bk4 : ∀ w ∈ wd_V8_shiftDown, w ∈ wd_V0_reduce := fun _ h => List.mem_cons_of_mem _ (List.mem_append_right _ (List.mem_append_right _ (List.mem_append_right _ (List.mem_append_right _ (List.mem_append_right _ (List.mem_append_left _ h))))))
  have bk5 : ∀ w ∈ wd_V0_oddDivisor, w ∈ wd_V0_reduce := fun _ h => List.mem_cons_of_mem _ (List.mem_append_right _ (List.mem_append_right _ (List.mem_append_right _ (List.mem_append_right _ (List.mem_append_right _ (List.mem_append_right _ (List.mem_append_left _ h)))))))
  have bk6 : ∀ w ∈ wd_V8_divideEvenly, w ∈ wd_V0_reduce := fun _ h => List.mem_cons_of_mem _ (List.mem_append_right _ (List.mem_append_right _ (List.mem_append_right _ (List.mem_append_right _ (List.mem_append_right _ (List.mem_append_right _ (List.mem_append_right _ (List.mem_append_left _ h))))))))
  have hl := lv_entry ([.ref (ad 2077), .ref (ad 2107)]) (n := 4) (Nat.le_of_ble_eq_true rfl)
  rw [lg_entry_eq]
  generalize (lg_sl ([.ref (ad 2077), .ref (ad 2107)]) ++ List.replicate (4 - (lg_sl ([.ref (ad 2077), .ref (ad 2107)])).length) Slot.unset).toArray = ls at hl ⊢
  have hl : lv_has ls 4 [(0, .ref (ad 2077)), (1, .ref (ad 2107))] := hl
  refine lv_aload_n hx hb dX0_reduce_0 rfl (lv_at hl 1 rfl) ?_
  refine va_calli (va_runV (As := []) (rest := []) ⟨hx, hb, hml, hown, hts⟩ (c_V2_isZero l dC dI A ad cA g 2107 4 5 p9 ((q9 : Nat) : Int) hAW hWk (by decide) (by decide) w4 w5) (cwV 0 hts (goodIn_app (goodIn_r [Cond.methodLink RX0 51 yX2_isZero, Cond.instanceMethod yX2_isZero, Cond.selects RX2 yX2_isZero yX2_isZero, Cond.initialized RX2] [1, 2, 3, 4] rfl rfl) (goodIn_sub (fun w9 h9 => bk0 w9 h9) gw_V2_isZero)) rfl rfl rfl (by decide +kernel) ⟨Nat.le_of_ble_eq_true rfl, Nat.le_of_ble_eq_true rfl⟩) ⟨fun a U g mk q => ⟨q.1, q.2.1, q.2.2.1, LY.moved (u := U) (U := U.calling g mk a) (Vm.Alike.refl U.vm) q.2.2.2⟩, va_recv hK hP (ci := 5) (q0 := 2107) rfl (wo_at (by decide) hWk), fun U hU hW => ⟨rfl, by rw [hU]; exact fun q h => hA q (Nat.le_trans hS.1 h), by rw [hU]; exact hP, LY.moved hW.alike hL⟩⟩ rfl rfl hl.1 rfl (lv_room (Nat.le_of_ble_eq_true rfl)) dX0_reduce_1 ⟨(Nat.le_of_ble_eq_true rfl), (Nat.le_of_ble_eq_true rfl)⟩) hS (fun q _ h => h) (fun q h => h) (fun r_1 u8 t8 H1 locs ht8 hvm8 hw_2 hB hz1 hk1 hS => ?_)
  obtain ⟨⟩ := u8
  try dsimp only at hw_2 hB
  rw [ht8] at hB
  have hP := hB
  generalize H1 = H at hP hS ⊢
  rcases hw_2 with ⟨rfl, hp0⟩ | ⟨rfl, hp0⟩
  · skip
    refine lv_if_eq (tgt := 16) hx hb dX0_reduce_4 (by decide) (fun c_3 => absurd c_3 (by decide)) (fun c_3 => ?_)
    refine lv_aload_n hx hb dX0_reduce_7 rfl (lv_at hl 1 rfl) ?_
    refine m_get (D := (dC, dI)) (v := .ref (ad (2 * 5))) (C := RX2) (T := TX2) (N := 2) hx hb hts bk1 hown hK hP 2107 (by decide) hWk rfl 1 (by decide) (hts (.fieldLink RX0 34 "GradientDesk$Fraction" "bottom" "LGradientDesk$Whole;") (List.mem_of_getElem? (i := 5) rfl)) (fun _ h9 => h9) rfl dX0_reduce_8 ?_
    refine lv_lconst (v := lN 1) hx hb dX0_reduce_11 (by decide +kernel) ?_
    obtain ⟨mw_4, sw_4, nw_4, fw_4, aw_4, bw_4, cw_4, dw_4, ew_4⟩ := hAW 5 (by omega)
    have qw_4 : mw_4 ≤ 4096 := by rw [dw_4]; exact rmc_le _
    have hz9 := rd_zero hq0
    refine va_callv (va_runV (As := [.long (lN 1)]) (rest := []) ⟨hx, hb, hml, hown, hts⟩ (c_V8_put l dC dI A ad cA g 5 (lN 1) 1 hAW (by decide) (by decide) (by decide) (by decide)) (cwV 1 hts (goodIn_app (goodIn_r [Cond.methodLink RX0 55 yX8_put, Cond.instanceMethod yX8_put, Cond.selects RX8 yX8_put yX8_put, Cond.initialized RX8] [6, 7, 8, 9] rfl rfl) (goodIn_sub (fun w9 h9 => bk2 w9 h9) gw_V8_put)) rfl rfl rfl (by decide +kernel) ⟨Nat.le_of_ble_eq_true rfl, Nat.le_of_ble_eq_true rfl⟩) ⟨fun a U g mk q => ⟨q.1, q.2.1, q.2.2.1, LY.moved (u := U) (U := U.calling g mk a) (Vm.Alike.refl U.vm) q.2.2.2⟩, va_recv hK hP (ci := 11) (q0 := (2 * 5)) rfl (wo_at (ns_w (by omega)) aw_4), fun U hU hW => ⟨rfl, by rw [hU]; exact fun q h => hA q (Nat.le_trans hS.1 h), by rw [hU]; exact hP, LY.moved hW.alike hL⟩⟩ rfl rfl hl.1 rfl (lv_room (Nat.le_of_ble_eq_true rfl)) dX0_reduce_12 ⟨(Nat.le_of_ble_eq_true rfl), (Nat.le_of_ble_eq_true rfl)⟩) hS (fun q _ h => h) (fun q h => h) (fun u8 t8 H1 locs ht8 hvm8 hw_7 hB hz1 hk1 hS => ?_)
    obtain ⟨g_8, rfl⟩ : ∃ z, z = u8 := ⟨_, rfl⟩
    try dsimp only at hw_7 hB
    rw [ht8] at hB
    have hP := hB
    generalize H1 = H at hP hS ⊢
    obtain ⟨fr_9, hAW_5, hv_6⟩ := hw_7
    have e1 : rdp p9 q9 = p9 := by rw [hp0]; exact hz9.1
    have e2 : ((rdq p9 q9 : Nat) : Int) = 1 := by rw [hp0, hz9.2]; rfl
    rw [e1, e2]
    have hv_10 : WV ad cA g_8 4 p9 := WV.same w4 ((fun (k : Nat) (hk : k = 2 * 4 ∨ k = 2 * 4 + 1) => (fr_9 k (by omega)).trans (rfl)) _ (Or.inl rfl)) ((fun (k : Nat) (hk : k = 2 * 4 ∨ k = 2 * 4 + 1) => (fr_9 k (by omega)).trans (rfl)) _ (Or.inr rfl))
    refine W.widen (k := 0) (n := 0) (by omega) (by omega) ?_
    exact W.vret hx hb hr (fun t9 ht9 hW9 => ⟨⟨g_8, rfl, ⟨(fun (k : Nat) (hk : 12 ≤ k) => (fr_9 k (by omega)).trans (rfl)), hAW_5, hv_10, hv_6⟩, by show va_P (dC, dI) vwCl _ t9.heap; rw [ht9]; exact hP⟩, hS.F ht9⟩) hS.2.2 dX0_reduce_15
  · skip
    refine lv_if_eq (tgt := 16) hx hb dX0_reduce_4 (by decide) (fun c_11 => ?_) (fun c_11 => absurd c_11 (by decide))
    obtain ⟨a9, u9, hp9⟩ := od_ex p9.natAbs (by omega)
    obtain ⟨b9, x9, hq9⟩ := od_ex q9 hq0
    refine lv_aload_n hx hb dX0_reduce_16 rfl (lv_at hl 1 rfl) ?_
    refine m_get (D := (dC, dI)) (v := .ref (ad (2 * 4))) (C := RX2) (T := TX2) (N := 2) hx hb hts bk1 hown hK hP 2107 (by decide) hWk rfl 0 (by decide) (hts (.fieldLink RX0 29 "GradientDesk$Fraction" "top" "LGradientDesk$Whole;") (List.mem_of_getElem? (i := 10) rfl)) (fun _ h9 => h9) rfl dX0_reduce_17 ?_
    obtain ⟨mw_12, sw_12, nw_12, fw_12, aw_12, bw_12, cw_12, dw_12, ew_12⟩ := hAW 4 (by omega)
    have qw_12 : mw_12 ≤ 4096 := by rw [dw_12]; exact rmc_le _
    refine va_calli (va_runV (As := []) (rest := []) ⟨hx, hb, hml, hown, hts⟩ (c_V8_lowZeros l dC dI A ad cA g 4 p9 hAW (by omega) w4) (cwV 0 hts (goodIn_app (goodIn_r [Cond.methodLink RX0 59 yX8_lowZeros, Cond.instanceMethod yX8_lowZeros, Cond.selects RX8 yX8_lowZeros yX8_lowZeros, Cond.initialized RX8] [11, 12, 13, 9] rfl rfl) (goodIn_sub (fun w9 h9 => bk3 w9 h9) gw_V8_lowZeros)) rfl rfl rfl (by decide +kernel) ⟨Nat.le_of_ble_eq_true rfl, Nat.le_of_ble_eq_true rfl⟩) ⟨fun a U g mk q => ⟨q.1, q.2.1, q.2.2.1, LY.moved (u := U) (U := U.calling g mk a) (Vm.Alike.refl U.vm) q.2.2.2⟩, va_recv hK hP (ci := 11) (q0 := (2 * 4)) rfl (wo_at (ns_w (by omega)) aw_12), fun U hU hW => ⟨rfl, by rw [hU]; exact fun q h => hA q (Nat.le_trans hS.1 h), by rw [hU]; exact hP, LY.moved hW.alike hL⟩⟩ rfl rfl hl.1 rfl (lv_room (Nat.le_of_ble_eq_true rfl)) dX0_reduce_20 ⟨(Nat.le_of_ble_eq_true rfl), (Nat.le_of_ble_eq_true rfl)⟩) hS (fun q _ h => h) (fun q h => h) (fun r_13 u8 t8 H1 locs ht8 hvm8 hw_14 hB hz1 hk1 hS => ?_)
    obtain ⟨⟩ := u8
    try dsimp only at hw_14 hB
    rw [ht8] at hB
    have hP := hB
    generalize H1 = H at hP hS ⊢
    obtain ⟨z_15, rfl, hbz_15, htzz_15⟩ := (hw_14.resolve_left (fun h9 => absurd h9.1 (by omega))).2
    clear hw_14
    have hzez_15 : a9 = z_15 := (tz_uq htzz_15 ⟨u9, hp9⟩).symm
    subst hzez_15
    refine lv_aload_n hx hb dX0_reduce_23 rfl (lv_at hl 1 rfl) ?_
    refine m_get (D := (dC, dI)) (v := .ref (ad (2 * 5))) (C := RX2) (T := TX2) (N := 2) hx hb hts bk1 hown hK hP 2107 (by decide) hWk rfl 1 (by decide) (hts (.fieldLink RX0 34 "GradientDesk$Fraction" "bottom" "LGradientDesk$Whole;") (List.mem_of_getElem? (i := 5) rfl)) (fun _ h9 => h9) rfl dX0_reduce_24 ?_
    obtain ⟨mw_16, sw_16, nw_16, fw_16, aw_16, bw_16, cw_16, dw_16, ew_16⟩ := hAW 5 (by omega)
    have qw_16 : mw_16 ≤ 4096 := by rw [dw_16]; exact rmc_le _
    refine va_calli (va_runV (As := []) (rest := [.int (nI a9)]) ⟨hx, hb, hml, hown, hts⟩ (c_V8_lowZeros l dC dI A ad cA g 5 ((q9 : Nat) : Int) hAW (by omega) w5) (cwV 0 hts (goodIn_app (goodIn_r [Cond.methodLink RX0 59 yX8_lowZeros, Cond.instanceMethod yX8_lowZeros, Cond.selects RX8 yX8_lowZeros yX8_lowZeros, Cond.initialized RX8] [11, 12, 13, 9] rfl rfl) (goodIn_sub (fun w9 h9 => bk3 w9 h9) gw_V8_lowZeros)) rfl rfl rfl (by decide +kernel) ⟨Nat.le_of_ble_eq_true rfl, Nat.le_of_ble_eq_true rfl⟩) ⟨fun a U g mk q => ⟨q.1, q.2.1, q.2.2.1, LY.moved (u := U) (U := U.calling g mk a) (Vm.Alike.refl U.vm) q.2.2.2⟩, va_recv hK hP (ci := 11) (q0 := (2 * 5)) rfl (wo_at (ns_w (by omega)) aw_16), fun U hU hW => ⟨rfl, by rw [hU]; exact fun q h => hA q (Nat.le_trans hS.1 h), by rw [hU]; exact hP, LY.moved hW.alike hL⟩⟩ rfl rfl hl.1 rfl (lv_room (Nat.le_of_ble_eq_true rfl)) dX0_reduce_27 ⟨(Nat.le_of_ble_eq_true rfl), (Nat.le_of_ble_eq_true rfl)⟩) hS (fun q _ h => h) (fun q h => h) (fun r_17 u8 t8 H1 locs ht8 hvm8 hw_18 hB hz1 hk1 hS => ?_)
    obtain ⟨⟩ := u8
    try dsimp only at hw_18 hB
    rw [ht8] at hB
    have hP := hB
    generalize H1 = H at hP hS ⊢
    obtain ⟨z_19, rfl, hbz_19, htzz_19⟩ := (hw_18.resolve_left (fun h9 => absurd h9.1 (by omega))).2
    clear hw_18
    have hzez_19 : b9 = z_19 := (tz_uq htzz_19 ⟨x9, by rw [Int.natAbs_natCast]; exact hq9⟩).symm
    subst hzez_19
    refine va_mmin hx hb (by rw [hml]; exact hl.1.symm) hown (hts (.methodLink RX0 63 Lib.Math.min.name) (List.mem_of_getElem? (i := 14) rfl)) (hts (.static Lib.Math.min.name) (List.mem_of_getElem? (i := 15) rfl)) (hts (.initialized "java/lang/Math") (List.mem_of_getElem? (i := 16) rfl)) (hts (.code Lib.Math.min.name Lib.Math.min.code 2 (some .int)) (List.mem_of_getElem? (i := 17) rfl)) (Nat.le_of_ble_eq_true rfl) (Nat.le_of_ble_eq_true rfl) (Nat.le_of_ble_eq_true rfl) (Nat.le_of_ble_eq_true rfl) dX0_reduce_30 ?_
    refine lv_topi (fun x_21 e_22 => ?_)
    obtain ⟨q_20, hq_20, eq_20⟩ : ∃ z : Nat, z = min a9 b9 ∧ x_21 = nI z := ⟨_, rfl, by rw [e_22]; exact k_min (by omega) (by omega)⟩
    subst eq_20
    have hqb : q_20 ≤ 200000 := by omega
    obtain ⟨w9, y9, hm1, hm2, hm3, hm4, hm5, hm6, hm7, hm8, hm9, hm10⟩ := rd_mid hq0 hp0 hp9 hq9 hq_20
    refine lv_istore_n (lv' := [(2, .int (nI q_20)), (0, .ref (ad 2077)), (1, .ref (ad 2107))]) hx hb dX0_reduce_33 rfl hl (by decide) rfl (fun ls hl => ?_)
    refine lv_aload_n hx hb dX0_reduce_34 rfl (lv_at hl 2 rfl) ?_
    refine m_get (D := (dC, dI)) (v := .ref (ad (2 * 4))) (C := RX2) (T := TX2) (N := 2) hx hb hts bk1 hown hK hP 2107 (by decide) hWk rfl 0 (by decide) (hts (.fieldLink RX0 29 "GradientDesk$Fraction" "top" "LGradientDesk$Whole;") (List.mem_of_getElem? (i := 10) rfl)) (fun _ h9 => h9) rfl dX0_reduce_35 ?_
    refine lv_iload_n hx hb dX0_reduce_38 rfl (lv_at hl 0 rfl) ?_
    refine va_callv (va_runV (As := [.int (nI q_20)]) (rest := []) ⟨hx, hb, hml, hown, hts⟩ (c_V8_shiftDown l dC dI A ad cA g 4 p9 q_20 w9 hAW (by omega) w4 hqb hm1 hm2) (cwV 1 hts (goodIn_app (goodIn_r [Cond.methodLink RX0 69 yX8_shiftDown, Cond.instanceMethod yX8_shiftDown, Cond.selects RX8 yX8_shiftDown yX8_shiftDown, Cond.initialized RX8] [18, 19, 20, 9] rfl rfl) (goodIn_sub (fun w9 h9 => bk4 w9 h9) gw_V8_shiftDown)) rfl rfl rfl (by decide +kernel) ⟨Nat.le_of_ble_eq_true rfl, Nat.le_of_ble_eq_true rfl⟩) ⟨fun a U g mk q => ⟨q.1, q.2.1, q.2.2.1, LY.moved (u := U) (U := U.calling g mk a) (Vm.Alike.refl U.vm) q.2.2.2⟩, va_recv hK hP (ci := 11) (q0 := (2 * 4)) rfl (wo_at (ns_w (by omega)) aw_12), fun U hU hW => ⟨rfl, by rw [hU]; exact fun q h => hA q (Nat.le_trans hS.1 h), by rw [hU]; exact hP, LY.moved hW.alike hL⟩⟩ rfl rfl hl.1 rfl (lv_room (Nat.le_of_ble_eq_true rfl)) dX0_reduce_39 ⟨(Nat.le_of_ble_eq_true rfl), (Nat.le_of_ble_eq_true rfl)⟩) hS (fun q _ h => h) (fun q h => h) (fun u8 t8 H1 locs ht8 hvm8 hw_25 hB hz1 hk1 hS => ?_)
    obtain ⟨g_26, rfl⟩ : ∃ z, z = u8 := ⟨_, rfl⟩
    try dsimp only at hw_25 hB
    rw [ht8] at hB
    have hP := hB
    generalize H1 = H at hP hS ⊢
    obtain ⟨fr_27, hAW_23, hv_24⟩ := hw_25
    refine lv_aload_n hx hb dX0_reduce_42 rfl (lv_at hl 2 rfl) ?_
    have f_28 : g_26 2107 = .inr (5, [.ref (ad (2 * 4)), .ref (ad (2 * 5))]) := (fr_27 2107 (by omega)).trans hWk
    refine m_get (D := (dC, dI)) (v := .ref (ad (2 * 5))) (C := RX2) (T := TX2) (N := 2) hx hb hts bk1 hown hK hP 2107 (by decide) f_28 rfl 1 (by decide) (hts (.fieldLink RX0 34 "GradientDesk$Fraction" "bottom" "LGradientDesk$Whole;") (List.mem_of_getElem? (i := 5) rfl)) (fun _ h9 => h9) rfl dX0_reduce_43 ?_
    refine lv_iload_n hx hb dX0_reduce_46 rfl (lv_at hl 0 rfl) ?_
    obtain ⟨mw_29, sw_29, nw_29, fw_29, aw_29, bw_29, cw_29, dw_29, ew_29⟩ := hAW_23 5 (by omega)
    have qw_29 : mw_29 ≤ 4096 := by rw [dw_29]; exact rmc_le _
    have hv_30 : WV ad cA g_26 5 ((q9 : Nat) : Int) := WV.same w5 ((fun (k : Nat) (hk : k = 2 * 5 ∨ k = 2 * 5 + 1) => (fr_27 k (by omega)).trans (rfl)) _ (Or.inl rfl)) ((fun (k : Nat) (hk : k = 2 * 5 ∨ k = 2 * 5 + 1) => (fr_27 k (by omega)).trans (rfl)) _ (Or.inr rfl))
    refine va_callv (va_runV (As := [.int (nI q_20)]) (rest := []) ⟨hx, hb, hml, hown, hts⟩ (c_V8_shiftDown l dC dI A ad cA g_26 5 ((q9 : Nat) : Int) q_20 ((y9 : Nat) : Int) hAW_23 (by omega) hv_30 hqb (by rw [Int.natAbs_natCast, Int.natAbs_natCast]; exact hm3) (by omega)) (cwV 1 hts (goodIn_app (goodIn_r [Cond.methodLink RX0 69 yX8_shiftDown, Cond.instanceMethod yX8_shiftDown, Cond.selects RX8 yX8_shiftDown yX8_shiftDown, Cond.initialized RX8] [18, 19, 20, 9] rfl rfl) (goodIn_sub (fun w9 h9 => bk4 w9 h9) gw_V8_shiftDown)) rfl rfl rfl (by decide +kernel) ⟨Nat.le_of_ble_eq_true rfl, Nat.le_of_ble_eq_true rfl⟩) ⟨fun a U g mk q => ⟨q.1, q.2.1, q.2.2.1, LY.moved (u := U) (U := U.calling g mk a) (Vm.Alike.refl U.vm) q.2.2.2⟩, va_recv hK hP (ci := 11) (q0 := (2 * 5)) rfl (wo_at (ns_w (by omega)) aw_29), fun U hU hW => ⟨rfl, by rw [hU]; exact fun q h => hA q (Nat.le_trans hS.1 h), by rw [hU]; exact hP, LY.moved hW.alike hL⟩⟩ rfl rfl hl.1 rfl (lv_room (Nat.le_of_ble_eq_true rfl)) dX0_reduce_47 ⟨(Nat.le_of_ble_eq_true rfl), (Nat.le_of_ble_eq_true rfl)⟩) hS (fun q _ h => h) (fun q h => h) (fun u8 t8 H1 locs ht8 hvm8 hw_33 hB hz1 hk1 hS => ?_)
    obtain ⟨g_34, rfl⟩ : ∃ z, z = u8 := ⟨_, rfl⟩
    try dsimp only at hw_33 hB
    rw [ht8] at hB
    have hP := hB
    generalize H1 = H at hP hS ⊢
    obtain ⟨fr_35, hAW_31, hv_32⟩ := hw_33
    refine lv_aload_n hx hb dX0_reduce_50 rfl (lv_at hl 1 rfl) ?_
    refine lv_aload_n hx hb dX0_reduce_51 rfl (lv_at hl 2 rfl) ?_
    have f_36 : g_34 2107 = .inr (5, [.ref (ad (2 * 4)), .ref (ad (2 * 5))]) := (fr_35 2107 (by omega)).trans f_28
    refine m_get (D := (dC, dI)) (v := .ref (ad (2 * 4))) (C := RX2) (T := TX2) (N := 2) hx hb hts bk1 hown hK hP 2107 (by decide) f_36 rfl 0 (by decide) (hts (.fieldLink RX0 29 "GradientDesk$Fraction" "top" "LGradientDesk$Whole;") (List.mem_of_getElem? (i := 10) rfl)) (fun _ h9 => h9) rfl dX0_reduce_52 ?_
    refine lv_aload_n hx hb dX0_reduce_55 rfl (lv_at hl 2 rfl) ?_
    refine m_get (D := (dC, dI)) (v := .ref (ad (2 * 5))) (C := RX2) (T := TX2) (N := 2) hx hb hts bk1 hown hK hP 2107 (by decide) f_36 rfl 1 (by decide) (hts (.fieldLink RX0 34 "GradientDesk$Fraction" "bottom" "LGradientDesk$Whole;") (List.mem_of_getElem? (i := 5) rfl)) (fun _ h9 => h9) rfl dX0_reduce_56 ?_
    have hv_38 : WV ad cA g_34 4 w9 := WV.same hv_24 ((fun (k : Nat) (hk : k = 2 * 4 ∨ k = 2 * 4 + 1) => (fr_35 k (by omega)).trans (rfl)) _ (Or.inl rfl)) ((fun (k : Nat) (hk : k = 2 * 4 ∨ k = 2 * 4 + 1) => (fr_35 k (by omega)).trans (rfl)) _ (Or.inr rfl))
    have f_39 : g_34 2077 = .inr (3, [.ref (ad (2 * 0)), .ref (ad (2 * 1)), .ref (ad (2 * 2)), .ref (ad (2 * 3))]) := (fr_35 2077 (by omega)).trans ((fr_27 2077 (by omega)).trans hAr)
    refine va_callr (va_runV (As := [.ref (ad (2 * 4)), .ref (ad (2 * 5))]) (rest := []) ⟨hx, hb, hml, hown, hts⟩ (c_V0_oddDivisor l dC dI A ad cA g_34 w9 ((y9 : Nat) : Int) _ u9 _ x9 hAW_31 f_39 hv_38 hv_32 hm6 (by rw [Int.natAbs_natCast]; exact hm7) (by omega)) (cwV 2 hts (goodIn_app (goodIn_r [Cond.methodLink RX0 72 yX0_oddDivisor, Cond.instanceMethod yX0_oddDivisor, Cond.selects RX0 yX0_oddDivisor yX0_oddDivisor, Cond.initialized RX0] [21, 22, 23, 24] rfl rfl) (goodIn_sub (fun w9 h9 => bk5 w9 h9) gw_V0_oddDivisor)) rfl rfl rfl (by decide +kernel) ⟨Nat.le_of_ble_eq_true rfl, Nat.le_of_ble_eq_true rfl⟩) ⟨fun a U g mk q => ⟨q.1, q.2.1, q.2.2.1, LY.moved (u := U) (U := U.calling g mk a) (Vm.Alike.refl U.vm) q.2.2.2⟩, va_recv hK hP (ci := 3) (q0 := 2077) rfl (wo_at (by decide) f_39), fun U hU hW => ⟨rfl, by rw [hU]; exact fun q h => hA q (Nat.le_trans hS.1 h), by rw [hU]; exact hP, LY.moved hW.alike hL⟩⟩ rfl rfl hl.1 rfl (lv_room (Nat.le_of_ble_eq_true rfl)) dX0_reduce_59 ⟨(Nat.le_of_ble_eq_true rfl), (Nat.le_of_ble_eq_true rfl)⟩) hS (fun q _ h => h) (fun q h => h) (fun u8 r_40 t8 H1 locs ht8 hvm8 hw_41 hB hz1 hk1 hS => ?_)
    obtain ⟨g_42, qr_43⟩ := u8
    obtain ⟨hra, hB⟩ := hB
    try dsimp only at hw_41 hB hra
    rw [ht8] at hB
    have hP := hB
    subst hra
    generalize H1 = H at hP hS ⊢
    obtain ⟨fr_44, hAW_37, hqr, hvG⟩ := hw_41
    refine lv_astore_n (lv' := [(3, .ref (ad (2 * qr_43))), (2, .int (nI q_20)), (0, .ref (ad 2077)), (1, .ref (ad 2107))]) hx hb dX0_reduce_62 rfl hl (by decide) rfl (fun ls hl => ?_)
    refine lv_aload_n hx hb dX0_reduce_63 rfl (lv_at hl 3 rfl) ?_
    have f_45 : g_42 2107 = .inr (5, [.ref (ad (2 * 4)), .ref (ad (2 * 5))]) := (fr_44 2107 (by omega)).trans f_36
    refine m_get (D := (dC, dI)) (v := .ref (ad (2 * 4))) (C := RX2) (T := TX2) (N := 2) hx hb hts bk1 hown hK hP 2107 (by decide) f_45 rfl 0 (by decide) (hts (.fieldLink RX0 29 "GradientDesk$Fraction" "top" "LGradientDesk$Whole;") (List.mem_of_getElem? (i := 10) rfl)) (fun _ h9 => h9) rfl dX0_reduce_64 ?_
    refine lv_aload_n hx hb dX0_reduce_67 rfl (lv_at hl 0 rfl) ?_
    obtain ⟨mw_46, sw_46, nw_46, fw_46, aw_46, bw_46, cw_46, dw_46, ew_46⟩ := hAW_37 4 (by omega)
    have qw_46 : mw_46 ≤ 4096 := by rw [dw_46]; exact rmc_le _
    have hv_47 : WV ad cA g_42 4 w9 := WV.same hv_38 ((fun (k : Nat) (hk : k = 2 * 4 ∨ k = 2 * 4 + 1) => (fr_44 k (by omega)).trans (rfl)) _ (Or.inl rfl)) ((fun (k : Nat) (hk : k = 2 * 4 ∨ k = 2 * 4 + 1) => (fr_44 k (by omega)).trans (rfl)) _ (Or.inr rfl))
    refine va_callv (va_runV (As := [.ref (ad (2 * qr_43))]) (rest := []) ⟨hx, hb, hml, hown, hts⟩ (c_V8_divideEvenly l dC dI A ad cA g_42 4 qr_43 w9 ((Nat.gcd (2 * u9 + 1) (2 * x9 + 1) : Nat) : Int) (rdp p9 q9) hAW_37 (by decide) (by omega) hv_47 hvG (by omega) (by rw [Int.natAbs_natCast]; exact gcd_odd _ _) hm5 (by rw [Int.natAbs_natCast]; exact hm8) hm10) (cwV 1 hts (goodIn_app (goodIn_r [Cond.methodLink RX0 76 yX8_divideEvenly, Cond.instanceMethod yX8_divideEvenly, Cond.selects RX8 yX8_divideEvenly yX8_divideEvenly, Cond.initialized RX8] [25, 26, 27, 9] rfl rfl) (goodIn_sub (fun w9 h9 => bk6 w9 h9) gw_V8_divideEvenly)) rfl rfl rfl (by decide +kernel) ⟨Nat.le_of_ble_eq_true rfl, Nat.le_of_ble_eq_true rfl⟩) ⟨fun a U g mk q => ⟨q.1, q.2.1, q.2.2.1, LY.moved (u := U) (U := U.calling g mk a) (Vm.Alike.refl U.vm) q.2.2.2⟩, va_recv hK hP (ci := 11) (q0 := (2 * 4)) rfl (wo_at (ns_w (by omega)) aw_46), fun U hU hW => ⟨rfl, by rw [hU]; exact fun q h => hA q (Nat.le_trans hS.1 h), by rw [hU]; exact hP, LY.moved hW.alike hL⟩⟩ rfl rfl hl.1 rfl (lv_room (Nat.le_of_ble_eq_true rfl)) dX0_reduce_68 ⟨(Nat.le_of_ble_eq_true rfl), (Nat.le_of_ble_eq_true rfl)⟩) hS (fun q _ h => h) (fun q h => h) (fun u8 t8 H1 locs ht8 hvm8 hw_50 hB hz1 hk1 hS => ?_)
    obtain ⟨g_51, rfl⟩ : ∃ z, z = u8 := ⟨_, rfl⟩
    try dsimp only at hw_50 hB
    rw [ht8] at hB
    have hP := hB
    generalize H1 = H at hP hS ⊢
    obtain ⟨fr_52, hAW_48, hv_49⟩ := hw_50
    refine lv_aload_n hx hb dX0_reduce_71 rfl (lv_at hl 3 rfl) ?_
    have f_53 : g_51 2107 = .inr (5, [.ref (ad (2 * 4)), .ref (ad (2 * 5))]) := (fr_52 2107 (by omega)).trans f_45
    refine m_get (D := (dC, dI)) (v := .ref (ad (2 * 5))) (C := RX2) (T := TX2) (N := 2) hx hb hts bk1 hown hK hP 2107 (by decide) f_53 rfl 1 (by decide) (hts (.fieldLink RX0 34 "GradientDesk$Fraction" "bottom" "LGradientDesk$Whole;") (List.mem_of_getElem? (i := 5) rfl)) (fun _ h9 => h9) rfl dX0_reduce_72 ?_
    refine lv_aload_n hx hb dX0_reduce_75 rfl (lv_at hl 0 rfl) ?_
    obtain ⟨mw_54, sw_54, nw_54, fw_54, aw_54, bw_54, cw_54, dw_54, ew_54⟩ := hAW_48 5 (by omega)
    have qw_54 : mw_54 ≤ 4096 := by rw [dw_54]; exact rmc_le _
    have hv_55 : WV ad cA g_51 5 ((y9 : Nat) : Int) := WV.same hv_32 ((fun (k : Nat) (hk : k = 2 * 5 ∨ k = 2 * 5 + 1) => (fr_52 k (by omega)).trans ((fr_44 k (by omega)).trans (rfl))) _ (Or.inl rfl)) ((fun (k : Nat) (hk : k = 2 * 5 ∨ k = 2 * 5 + 1) => (fr_52 k (by omega)).trans ((fr_44 k (by omega)).trans (rfl))) _ (Or.inr rfl))
    have hv_56 : WV ad cA g_51 qr_43 ((Nat.gcd (2 * u9 + 1) (2 * x9 + 1) : Nat) : Int) := WV.same hvG ((fun (k : Nat) (hk : k = 2 * qr_43 ∨ k = 2 * qr_43 + 1) => (fr_52 k (by omega)).trans (rfl)) _ (Or.inl rfl)) ((fun (k : Nat) (hk : k = 2 * qr_43 ∨ k = 2 * qr_43 + 1) => (fr_52 k (by omega)).trans (rfl)) _ (Or.inr rfl))
    refine va_callv (va_runV (As := [.ref (ad (2 * qr_43))]) (rest := []) ⟨hx, hb, hml, hown, hts⟩ (c_V8_divideEvenly l dC dI A ad cA g_51 5 qr_43 ((y9 : Nat) : Int) ((Nat.gcd (2 * u9 + 1) (2 * x9 + 1) : Nat) : Int) ((rdq p9 q9 : Nat) : Int) hAW_48 (by decide) (by omega) hv_55 hv_56 (by omega) (by rw [Int.natAbs_natCast]; exact gcd_odd _ _) (by omega) (by rw [Int.natAbs_natCast, Int.natAbs_natCast, Int.natAbs_natCast]; exact hm9) (by omega)) (cwV 1 hts (goodIn_app (goodIn_r [Cond.methodLink RX0 76 yX8_divideEvenly, Cond.instanceMethod yX8_divideEvenly, Cond.selects RX8 yX8_divideEvenly yX8_divideEvenly, Cond.initialized RX8] [25, 26, 27, 9] rfl rfl) (goodIn_sub (fun w9 h9 => bk6 w9 h9) gw_V8_divideEvenly)) rfl rfl rfl (by decide +kernel) ⟨Nat.le_of_ble_eq_true rfl, Nat.le_of_ble_eq_true rfl⟩) ⟨fun a U g mk q => ⟨q.1, q.2.1, q.2.2.1, LY.moved (u := U) (U := U.calling g mk a) (Vm.Alike.refl U.vm) q.2.2.2⟩, va_recv hK hP (ci := 11) (q0 := (2 * 5)) rfl (wo_at (ns_w (by omega)) aw_54), fun U hU hW => ⟨rfl, by rw [hU]; exact fun q h => hA q (Nat.le_trans hS.1 h), by rw [hU]; exact hP, LY.moved hW.alike hL⟩⟩ rfl rfl hl.1 rfl (lv_room (Nat.le_of_ble_eq_true rfl)) dX0_reduce_76 ⟨(Nat.le_of_ble_eq_true rfl), (Nat.le_of_ble_eq_true rfl)⟩) hS (fun q _ h => h) (fun q h => h) (fun u8 t8 H1 locs ht8 hvm8 hw_59 hB hz1 hk1 hS => ?_)
    obtain ⟨g_60, rfl⟩ : ∃ z, z = u8 := ⟨_, rfl⟩
    try dsimp only at hw_59 hB
    rw [ht8] at hB
    have hP := hB
    generalize H1 = H at hP hS ⊢
    obtain ⟨fr_61, hAW_57, hv_58⟩ := hw_59
    have hv_62 : WV ad cA g_60 4 (rdp p9 q9) := WV.same hv_49 ((fun (k : Nat) (hk : k = 2 * 4 ∨ k = 2 * 4 + 1) => (fr_61 k (by omega)).trans (rfl)) _ (Or.inl rfl)) ((fun (k : Nat) (hk : k = 2 * 4 ∨ k = 2 * 4 + 1) => (fr_61 k (by omega)).trans (rfl)) _ (Or.inr rfl))
    refine W.widen (k := 0) (n := 0) (by omega) (by omega) ?_
    exact W.vret hx hb hr (fun t9 ht9 hW9 => ⟨⟨g_60, rfl, ⟨(fun (k : Nat) (hk : 12 ≤ k) => (fr_61 k (by omega)).trans ((fr_52 k (by omega)).trans ((fr_44 k (by omega)).trans ((fr_35 k (by omega)).trans ((fr_27 k (by omega)).trans (rfl)))))), hAW_57, hv_62, hv_58⟩, by show va_P (dC, dI) vwCl _ t9.heap; rw [ht9]; exact hP⟩, hS.F ht9⟩) hS.2.2 dX0_reduce_79
end
section
/-! the shelf of the class: it holds the parts L -/
theorem ns_p {i : Nat} (h : i < 200) : 2117 + 2 * i < NSc := by unfold NSc; omega
theorem ns_q {i : Nat} (h : i < 200) : 2118 + 2 * i < NSc := by unfold NSc; omega
def CPT (ad : Nat → Nat) (g : Nat → va_E) (pt : Nat → Nat → Int) : Prop := (∀ i, i < 200 → g (2117 + 2 * i) = .inr (6, [.ref (ad (2118 + 2 * i)), .int (iI (pt 0 i)), .int (iI (pt 1 i)), .int (iI (pt 2 i)), .int (iI (pt 3 i)), .int (iI (pt 4 i)), .int (iI (pt 5 i))])) ∧ ∀ k i, -1 ≤ pt k i ∧ pt k i ≤ 20000
def CFX (ad : Nat → Nat) (cA : Nat → ClassId) (g : Nat → va_E) : Prop := g 2077 = .inr (3, [.ref (ad (2 * 0)), .ref (ad (2 * 1)), .ref (ad (2 * 2)), .ref (ad (2 * 3))]) ∧ g 2107 = .inr (5, [.ref (ad (2 * 4)), .ref (ad (2 * 5))]) ∧ g 2081 = .inl (cA 2081, 200, .inr (.inr (.inr (.inr (fun j => some (ad (2117 + 2 * j))))))) ∧ ∀ i, i < 200 → g (2118 + 2 * i) = .inr (5, [.ref (ad (2 * (38 + 2 * i))), .ref (ad (2 * (39 + 2 * i)))])
/-- a number's part -/
def CMN (ad : Nat → Nat) (cA : Nat → ClassId) (g : Nat → va_E) (d : PD) (i : Nat) : Prop := WV ad cA g (38 + 2 * i) d.2.2.2.2.2.2.1 ∧ WV ad cA g (39 + 2 * i) ((d.2.2.2.2.2.2.2 : Nat) : Int) ∧ d.2.1 = -1 ∧ d.2.2.1 = -1
theorem CMN.same {ad : Nat → Nat} {cA : Nat → ClassId} {g g2 : Nat → va_E} {d : PD} {i : Nat} (h : CMN ad cA g d i) (hf : ∀ k, (76 + 4 * i ≤ k ∧ k < 80 + 4 * i) → g2 k = g k) : CMN ad cA g2 d i :=
  ⟨h.1.same (hf _ (by omega)) (hf _ (by omega)), h.2.1.same (hf _ (by omega)) (hf _ (by omega)), h.2.2⟩
def CM (ad : Nat → Nat) (cA : Nat → ClassId) (g : Nat → va_E) (L : List PD) (pt : Nat → Nat → Int) : Prop := ∀ i, i < L.length → pt 0 i = ((gd L i).1 : Nat) ∧ pt 1 i = (gd L i).2.1 ∧ pt 2 i = (gd L i).2.2.1 ∧ pt 3 i = ((gd L i).2.2.2.1 : Nat) ∧ pt 4 i = ((gd L i).2.2.2.2.1 : Nat) ∧ pt 5 i = ((gd L i).2.2.2.2.2.1 : Nat) ∧ ((gd L i).1 = 0 → CMN ad cA g (gd L i) i)
def CSO (ad : Nat → Nat) (g : Nat → va_E) (n : Nat) : Prop := g 2080 = .inr (9, [.ref (ad 2081), .ref (ad 2082), .int (nI n), .ref (ad 2083), .ref (ad 2077), .ref (ad 2107), .ref (ad (2 * 6))])
def CS (ad : Nat → Nat) (cA : Nat → ClassId) (g : Nat → va_E) (L : List PD) : Prop := L.length ≤ 200 ∧ AW ad cA g ∧ CFX ad cA g ∧ CSO ad g L.length ∧ ∃ pt, CPT ad g pt ∧ CM ad cA g L pt
/-- behind a making -/
def CMK (ad : Nat → Nat) (cA : Nat → ClassId) (g2 : Nat → va_E) (K : Int × List PD) (r : Int32) : Prop := r = iI K.1 ∧ CS ad cA g2 K.2 ∧ -4 ≤ K.1 ∧ K.1 < K.2.length
section CSS
variable {ad : Nat → Nat} {cA : Nat → ClassId} {g g2 : Nat → va_E} {L : List PD} {pt : Nat → Nat → Int} {d : PD} {K : Int × List PD}
theorem CFX.same (h : CFX ad cA g) (hf : ∀ k, (k = 2077 ∨ k = 2107 ∨ k = 2081 ∨ ∃ i, i < 200 ∧ k = 2118 + 2 * i) → g2 k = g k) : CFX ad cA g2 :=
  ⟨(hf _ (Or.inl rfl)).trans h.1, (hf _ (Or.inr (Or.inl rfl))).trans h.2.1, (hf _ (Or.inr (Or.inr (Or.inl rfl)))).trans h.2.2.1, fun i hi => (hf _ (Or.inr (Or.inr (Or.inr ⟨i, hi, rfl⟩)))).trans (h.2.2.2 i hi)⟩
theorem CM.same (h : CM ad cA g L pt) (hf : ∀ k, (76 ≤ k ∧ k < 76 + 4 * L.length) → g2 k = g k) : CM ad cA g2 L pt := by
  intro i hi
  obtain ⟨m0, m1, m2, m3, m4, m5, m6⟩ := h i hi
  exact ⟨m0, m1, m2, m3, m4, m5, fun h9 => (m6 h9).same (fun k hk => hf k (by clear m6; omega))⟩
/-- only numbers beside the parts' changed -/
theorem CS.same (h : CS ad cA g L) (hW : AW ad cA g2) (hf : ∀ k, ((76 ≤ k ∧ k < 876) ∨ k = 2077 ∨ k = 2107 ∨ k = 2080 ∨ k = 2081 ∨ (2117 ≤ k ∧ k < 2517)) → g2 k = g k) : CS ad cA g2 L := by
  obtain ⟨hl, -, hX, hO, pt, hP, hM⟩ := h
  exact ⟨hl, hW, hX.same (fun k hk => hf k (by rcases hk with h | h | h | ⟨i, hi, rfl⟩ <;> omega)), (hf 2080 (by omega)).trans hO, pt, ⟨fun i hi => (hf _ (by omega)).trans (hP.1 i hi), hP.2⟩, hM.same (fun k hk => hf k (by omega))⟩
theorem fld_in (hb : d.1 ≤ 20000 ∧ -1 ≤ d.2.1 ∧ d.2.1 ≤ 20000 ∧ -1 ≤ d.2.2.1 ∧ d.2.2.1 ≤ 20000 ∧ d.2.2.2.1 ≤ 20000 ∧ d.2.2.2.2.1 ≤ 20000 ∧ d.2.2.2.2.2.1 ≤ 20000) (k : Nat) : -1 ≤ fld d k ∧ fld d k ≤ 20000 := by
  unfold fld
  by_cases h0 : k = 0
  · rw [if_pos h0]; omega
  · rw [if_neg h0]
    by_cases h1 : k = 1
    · rw [if_pos h1]; omega
    · rw [if_neg h1]
      by_cases h2 : k = 2
      · rw [if_pos h2]; omega
      · rw [if_neg h2]
        by_cases h3 : k = 3
        · rw [if_pos h3]; omega
        · rw [if_neg h3]
          by_cases h4 : k = 4
          · rw [if_pos h4]; omega
          · rw [if_neg h4]; omega
/-- a part was laid -/
theorem CS.lay (h : CS ad cA g L) (hl : L.length < 200) (hW : AW ad cA g2) (hO : CSO ad g2 (L.length + 1)) {v1 v2 v3 v4 v5 v6 : Int32} (hc : g2 (2117 + 2 * L.length) = .inr (6, [.ref (ad (2118 + 2 * L.length)), .int v1, .int v2, .int v3, .int v4, .int v5, .int v6]))
    (h1 : v1 = iI ((d.1 : Nat) : Int)) (h2 : v2 = iI d.2.1) (h3 : v3 = iI d.2.2.1) (h4 : v4 = iI ((d.2.2.2.1 : Nat) : Int)) (h5 : v5 = iI ((d.2.2.2.2.1 : Nat) : Int)) (h6 : v6 = iI ((d.2.2.2.2.2.1 : Nat) : Int))
    (hb : d.1 ≤ 20000 ∧ -1 ≤ d.2.1 ∧ d.2.1 ≤ 20000 ∧ -1 ≤ d.2.2.1 ∧ d.2.2.1 ≤ 20000 ∧ d.2.2.2.1 ≤ 20000 ∧ d.2.2.2.2.1 ≤ 20000 ∧ d.2.2.2.2.2.1 ≤ 20000)
    (hf : ∀ k, ((76 ≤ k ∧ k < 76 + 4 * L.length) ∨ k = 2077 ∨ k = 2107 ∨ k = 2081 ∨ (2117 ≤ k ∧ k < 2517 ∧ k ≠ 2117 + 2 * L.length)) → g2 k = g k)
    (hn : d.1 = 0 → CMN ad cA g2 d L.length) : CS ad cA g2 (L ++ [d]) := by
  obtain ⟨-, -, hX, -, pt, hP, hM⟩ := h
  have hlen : (L ++ [d]).length = L.length + 1 := by rw [List.length_append]; rfl
  refine ⟨by omega, hW, hX.same (fun k hk => hf k (by rcases hk with h | h | h | ⟨i, hi, rfl⟩ <;> omega)), by rw [hlen]; exact hO, fun k i => if i = L.length then fld d k else pt k i, ⟨fun i hi => ?_, fun k i => ?_⟩, fun i hi => ?_⟩
  · by_cases h9 : i = L.length
    · subst h9
      rw [hc]
      simp only [if_pos]
      rw [h1, h2, h3, h4, h5, h6]; rfl
    · rw [hf _ (by omega), hP.1 i hi]
      simp only [if_neg h9]
  · by_cases h9 : i = L.length
    · show -1 ≤ (if i = L.length then fld d k else pt k i) ∧ (if i = L.length then fld d k else pt k i) ≤ 20000
      rw [if_pos h9]; exact fld_in hb k
    · show -1 ≤ (if i = L.length then fld d k else pt k i) ∧ (if i = L.length then fld d k else pt k i) ≤ 20000
      rw [if_neg h9]; exact hP.2 k i
  · by_cases h9 : i = L.length
    · subst h9
      rw [gd_new]
      simp only [if_pos]
      exact ⟨rfl, rfl, rfl, rfl, rfl, rfl, hn⟩
    · rw [gd_app (by omega)]
      obtain ⟨m0, m1, m2, m3, m4, m5, m6⟩ := hM i (by omega)
      simp only [if_neg h9]
      exact ⟨m0, m1, m2, m3, m4, m5, fun h8 => (m6 h8).same (fun k hk => hf k (by clear m6; omega))⟩
theorem CMK.bad {n : Int} {r : Int32} (hr : r = iI n) (hK : K = (n, L)) (hn : n = -3 ∨ n = -4) (h : CS ad cA g2 L) : CMK ad cA g2 K r := by
  subst hK
  exact ⟨hr, h, by show -4 ≤ n; omega, by show n < _; omega⟩
theorem CMK.old {i : Nat} (hK : K = (((i : Nat) : Int), L)) (hi : i < L.length) (h : CS ad cA g2 L) : CMK ad cA g2 K (nI i) := by
  subst hK
  exact ⟨nI_iI i, h, by show -4 ≤ (i : Int); omega, by show (i : Int) < ((L.length : Nat) : Int); omega⟩
theorem CMK.new (hK : K = (((L.length : Nat) : Int), L ++ [d])) (h : CS ad cA g2 (L ++ [d])) : CMK ad cA g2 K (nI L.length) := by
  subst hK
  have hlen : (L ++ [d]).length = L.length + 1 := by rw [List.length_append]; rfl
  exact ⟨nI_iI _, h, by show -4 ≤ ((L.length : Nat) : Int); omega, by show ((L.length : Nat) : Int) < ((L ++ [d]).length : Nat); omega⟩
end CSS
theorem eq01 {r : Int32} {v w : Int} (h : (r = nI 1 ∧ v = w) ∨ (r = nI 0 ∧ v ≠ w)) : ∃ b : Nat, b ≤ 1 ∧ r = nI b ∧ (b = 1 ↔ v = w) := by
  rcases h with ⟨rfl, h⟩ | ⟨rfl, h⟩
  · exact ⟨1, by decide, rfl, by simp [h]⟩
  · exact ⟨0, by decide, rfl, by simp [h]⟩
theorem kn_sn {b q : Nat} (h : q = max b 1) : ((q : Nat) : Int) = (((if b = 0 then 1 else b : Nat)) : Int) := by
  by_cases h0 : b = 0
  · rw [if_pos h0]; omega
  · rw [if_neg h0]; omega
theorem bl_is1 {q : Nat} (h : 0 < q) : bl q = 1 ↔ q = 1 := by
  have h1 : bl q ≤ 1 ↔ q < 2 ^ 1 := bl_le
  have h2 : 0 < bl q := bl_pos.mpr h
  omega
theorem fit13 {n : Nat} (h : bl n ≤ 400) : n < 4294967296 ^ 13 := by
  have h1 := bl_le.mp h
  have h2 : 4294967296 ^ 13 = 2 ^ 416 := pw_two 13
  have h3 : (2 : Nat) ^ 400 ≤ 2 ^ 416 := Nat.pow_le_pow_right (by decide) (by decide)
  omega
theorem rmc_part {j : Nat} (h : 29 ≤ j) (h2 : j < 438) : rmc j = 13 := by
  unfold rmc
  rw [if_neg (by omega), if_neg (by omega), if_neg (by omega), if_neg (by omega), if_neg (by omega), if_pos h2]
theorem bl_fit {ad : Nat → Nat} {cA : Nat → ClassId} {g : Nat → va_E} {i : Nat} {v : Int} (h : WV ad cA g i v) (hi : rmc i ≤ 64) : bl v.natAbs ≤ 2048 := by
  apply bl_le.mpr
  have h1 := h.fit64 hi
  have h2 : 4294967296 ^ 64 = 2 ^ 2048 := pw_two 64
  omega
end
section
def wd_V3_says : List Cond := .code yX3_says cX3_says 4 (some .boolean) :: (([.fieldLink RX3 20 "GradientDesk$Part" "sort" "I", .fieldLink RX3 24 "GradientDesk$Part" "first" "I", .fieldLink RX3 27 "GradientDesk$Part" "second" "I"] : List Cond) ++ (u_ws RX3 TX3 7 ++ ([])))
theorem gw_V3_says : wd_V3_says.all goodWord = true := k_allc rfl (k_all (by decide +kernel) (k_all (gu_X3) (rfl)))
set_option maxHeartbeats 4000000 in
set_option maxRecDepth 100000 in
theorem c_V3_says (l : Launch) (dC : Nat → ClassId) (dI : Nat → Nat → Nat) (A : Nat → Prop) (ad : Nat → Nat) (cA : Nat → ClassId) (g : Nat → va_E) (i : Nat) (z0 : Int) (z1 : Int) (z2 : Int) (z3 : Int) (z4 : Int) (z5 : Int) (w1 : Int32) (w2 : Int32) (w3 : Int32) (y1 : Int) (y2 : Int) (y3 : Int) (hi : i < 200) (hp : g (2117 + 2 * i) = .inr (6, [.ref (ad (2118 + 2 * i)), .int (iI z0), .int (iI z1), .int (iI z2), .int (iI z3), .int (iI z4), .int (iI z5)])) (h1 : w1 = iI y1) (h2 : w2 = iI y2) (h3 : w3 = iI y3) (hz : -1 ≤ z0 ∧ z0 ≤ 20000 ∧ -1 ≤ z1 ∧ z1 ≤ 20000 ∧ -1 ≤ z2 ∧ z2 ≤ 20000) (hy : -1 ≤ y1 ∧ y1 ≤ 20000 ∧ -1 ≤ y2 ∧ y2 ≤ 20000 ∧ -1 ≤ y3 ∧ y3 ≤ 20000) : Met l yX3_says wd_V3_says ({ frames := 10, cells := 0, slots := 0, locals := 200 }) (va_Pc [.ref (ad (2117 + 2 * i)), .int w1, .int w2, .int w3] (PR NSc tyc dC dI A ad cA g)) (va_Qi (fun (r : Int32) => fun (u : Unit) => match u with | () => (r = nI 1 ∧ z0 = y1 ∧ z1 = y2 ∧ z2 = y3) ∨ (r = nI 0 ∧ ¬ (z0 = y1 ∧ z1 = y2 ∧ z2 = y3))) (fun (u : Unit) (t : State) => va_P (dC, dI) vwCl (wo ad NSc g) t.heap) A) (0) (0) A := by
  refine Met.ofW (cc := cX3_says) (maxL := 4) (ret := (some .boolean)) (by decide) rfl ?_
  intro p e s m args below meth c s₁ B hml hv
  obtain ⟨rfl, hA, hP, hL⟩ := hv
  have hx := B.exec
  have hb := B.bytes
  have hr := B.returns
  have hts := atoms_spec (ws := wd_V3_says) B.pre
  have hown : s.vm.findClass RX3 = some m.cls := findClass_of_methodNamed B.named
  have hlocks := B.notSynchronized
  have hK := hL.1
  have hD : ∀ g, va_D A (wo ad NSc g) := fun g => wo_D hL.2.1 hL.2.2 g
  have hS : va_S A s.heap s.heap [] := va_S.rf
  have bk0 : ∀ w ∈ u_ws RX3 TX3 7, w ∈ wd_V3_says := fun _ h => List.mem_cons_of_mem _ (List.mem_append_right _ (List.mem_append_left _ h))
  have hl := lv_entry ([.ref (ad (2117 + 2 * i)), .int w1, .int w2, .int w3]) (n := 4) (Nat.le_of_ble_eq_true rfl)
  rw [lg_entry_eq]
  generalize (lg_sl ([.ref (ad (2117 + 2 * i)), .int w1, .int w2, .int w3]) ++ List.replicate (4 - (lg_sl ([.ref (ad (2117 + 2 * i)), .int w1, .int w2, .int w3])).length) Slot.unset).toArray = ls at hl ⊢
  have hl : lv_has ls 4 [(0, .ref (ad (2117 + 2 * i))), (1, .int w1), (2, .int w2), (3, .int w3)] := hl
  refine lv_aload_n hx hb dX3_says_0 rfl (lv_at hl 0 rfl) ?_
  refine m_get (D := (dC, dI)) (v := .int (iI z0)) (C := RX3) (T := TX3) (N := 7) hx hb hts bk0 hown hK hP (2117 + 2 * i) (ns_p hi) hp rfl 1 (by decide) (hts (.fieldLink RX3 20 "GradientDesk$Part" "sort" "I") (List.mem_of_getElem? (i := 1) rfl)) (fun _ h9 => h9) rfl dX3_says_1 ?_
  refine lv_iload_n hx hb dX3_says_4 rfl (lv_at hl 1 rfl) ?_
  refine lv_icmp_ne (tgt := 28) hx hb dX3_says_5 (by decide) (fun c_1 => ?_) (fun c_1 => ?_)
  · have c_1 := mt (k_iEQ (a := z0) (b := y1) rfl h1 (by omega) (by omega)).mpr c_1
    refine lv_iconst (v := nI 0) hx hb dX3_says_28 (by decide +kernel) ?_
    refine W.widen (k := 0) (n := 0) (by omega) (by omega) ?_
    exact W.zret (v := nI 0) hx hb hr (by decide +kernel) (fun t9 ht9 hW9 => ⟨⟨nI 0, (), rfl, Or.inr ⟨rfl, by omega⟩, by show va_P (dC, dI) vwCl _ t9.heap; rw [ht9]; exact hP⟩, hS.F ht9⟩) hS.2.2 dX3_says_29
  · have c_1 := (k_iEQ (a := z0) (b := y1) rfl h1 (by omega) (by omega)).mp c_1
    refine lv_aload_n hx hb dX3_says_8 rfl (lv_at hl 0 rfl) ?_
    refine m_get (D := (dC, dI)) (v := .int (iI z1)) (C := RX3) (T := TX3) (N := 7) hx hb hts bk0 hown hK hP (2117 + 2 * i) (ns_p hi) hp rfl 2 (by decide) (hts (.fieldLink RX3 24 "GradientDesk$Part" "first" "I") (List.mem_of_getElem? (i := 2) rfl)) (fun _ h9 => h9) rfl dX3_says_9 ?_
    refine lv_iload_n hx hb dX3_says_12 rfl (lv_at hl 2 rfl) ?_
    refine lv_icmp_ne (tgt := 28) hx hb dX3_says_13 (by decide) (fun c_2 => ?_) (fun c_2 => ?_)
    · have c_2 := mt (k_iEQ (a := z1) (b := y2) rfl h2 (by omega) (by omega)).mpr c_2
      refine lv_iconst (v := nI 0) hx hb dX3_says_28 (by decide +kernel) ?_
      refine W.widen (k := 0) (n := 0) (by omega) (by omega) ?_
      exact W.zret (v := nI 0) hx hb hr (by decide +kernel) (fun t9 ht9 hW9 => ⟨⟨nI 0, (), rfl, Or.inr ⟨rfl, by omega⟩, by show va_P (dC, dI) vwCl _ t9.heap; rw [ht9]; exact hP⟩, hS.F ht9⟩) hS.2.2 dX3_says_29
    · have c_2 := (k_iEQ (a := z1) (b := y2) rfl h2 (by omega) (by omega)).mp c_2
      refine lv_aload_n hx hb dX3_says_16 rfl (lv_at hl 0 rfl) ?_
      refine m_get (D := (dC, dI)) (v := .int (iI z2)) (C := RX3) (T := TX3) (N := 7) hx hb hts bk0 hown hK hP (2117 + 2 * i) (ns_p hi) hp rfl 3 (by decide) (hts (.fieldLink RX3 27 "GradientDesk$Part" "second" "I") (List.mem_of_getElem? (i := 3) rfl)) (fun _ h9 => h9) rfl dX3_says_17 ?_
      refine lv_iload_n hx hb dX3_says_20 rfl (lv_at hl 3 rfl) ?_
      refine lv_icmp_ne (tgt := 28) hx hb dX3_says_21 (by decide) (fun c_3 => ?_) (fun c_3 => ?_)
      · have c_3 := mt (k_iEQ (a := z2) (b := y3) rfl h3 (by omega) (by omega)).mpr c_3
        refine lv_iconst (v := nI 0) hx hb dX3_says_28 (by decide +kernel) ?_
        refine W.widen (k := 0) (n := 0) (by omega) (by omega) ?_
        exact W.zret (v := nI 0) hx hb hr (by decide +kernel) (fun t9 ht9 hW9 => ⟨⟨nI 0, (), rfl, Or.inr ⟨rfl, by omega⟩, by show va_P (dC, dI) vwCl _ t9.heap; rw [ht9]; exact hP⟩, hS.F ht9⟩) hS.2.2 dX3_says_29
      · have c_3 := (k_iEQ (a := z2) (b := y3) rfl h3 (by omega) (by omega)).mp c_3
        refine lv_iconst (v := nI 1) hx hb dX3_says_24 (by decide +kernel) ?_
        refine lv_goto (tgt := 29) hx hb dX3_says_25 (by decide) ?_
        refine W.widen (k := 0) (n := 0) (by omega) (by omega) ?_
        exact W.zret (v := nI 1) hx hb hr (by decide +kernel) (fun t9 ht9 hW9 => ⟨⟨nI 1, (), rfl, Or.inl ⟨rfl, by omega⟩, by show va_P (dC, dI) vwCl _ t9.heap; rw [ht9]; exact hP⟩, hS.F ht9⟩) hS.2.2 dX3_says_29
def wd_V6_lay : List Cond := .code yX6_lay cX6_lay 8 (some .int) :: (([.fieldLink RX6 135 "GradientDesk$Shelf" "count" "I", .fieldLink RX6 11 "GradientDesk$Shelf" "parts" "[LGradientDesk$Part;", .fieldLink RX6 64 "GradientDesk$Part" "sort" "I", .fieldLink RX6 149 "GradientDesk$Part" "first" "I", .fieldLink RX6 152 "GradientDesk$Part" "second" "I", .fieldLink RX6 91 "GradientDesk$Part" "degree" "I", .fieldLink RX6 79 "GradientDesk$Part" "sizeN" "I", .fieldLink RX6 82 "GradientDesk$Part" "sizeD" "I"] : List Cond) ++ (u_ws RX6 TX6 7 ++ (u_ws RX3 TX3 7 ++ ([]))))
theorem gw_V6_lay : wd_V6_lay.all goodWord = true := k_allc rfl (k_all (by decide +kernel) (k_all (gu_X6) (k_all (gu_X3) (rfl))))
set_option maxHeartbeats 4000000 in
set_option maxRecDepth 100000 in
theorem c_V6_lay (l : Launch) (dC : Nat → ClassId) (dI : Nat → Nat → Nat) (A : Nat → Prop) (ad : Nat → Nat) (cA : Nat → ClassId) (g : Nat → va_E) (L : List PD) (v1 : Int32) (v2 : Int32) (v3 : Int32) (v4 : Int32) (v5 : Int32) (v6 : Int32) (hC : CS ad cA g L) : Met l yX6_lay wd_V6_lay ({ frames := 10, cells := 0, slots := 0, locals := 200 }) (va_Pc [.ref (ad 2080), .int v1, .int v2, .int v3, .int v4, .int v5, .int v6] (PR NSc tyc dC dI A ad cA g)) (va_Qi (fun (r : Int32) => fun (u : Nat → va_E) => match u with | g2 => (∀ k, k ≠ 2080 ∧ k ≠ 2117 + 2 * L.length → g2 k = g k) ∧ ((L.length = 200 ∧ r = iI (-4) ∧ g2 = g) ∨ (L.length < 200 ∧ r = nI L.length ∧ CSO ad g2 (L.length + 1) ∧ g2 (2117 + 2 * L.length) = .inr (6, [.ref (ad (2118 + 2 * L.length)), .int v1, .int v2, .int v3, .int v4, .int v5, .int v6])))) (fun (u : Nat → va_E) (t : State) => va_P (dC, dI) vwCl (wo ad NSc u) t.heap) A) (0) (0) A := by
  refine Met.ofW (cc := cX6_lay) (maxL := 8) (ret := (some .int)) (by decide) rfl ?_
  intro p e s m args below meth c s₁ B hml hv
  obtain ⟨rfl, hA, hP, hL⟩ := hv
  have hx := B.exec
  have hb := B.bytes
  have hr := B.returns
  have hts := atoms_spec (ws := wd_V6_lay) B.pre
  have hown : s.vm.findClass RX6 = some m.cls := findClass_of_methodNamed B.named
  have hlocks := B.notSynchronized
  have hK := hL.1
  have hD : ∀ g, va_D A (wo ad NSc g) := fun g => wo_D hL.2.1 hL.2.2 g
  have hS : va_S A s.heap s.heap [] := va_S.rf
  have bk0 : ∀ w ∈ u_ws RX6 TX6 7, w ∈ wd_V6_lay := fun _ h => List.mem_cons_of_mem _ (List.mem_append_right _ (List.mem_append_left _ h))
  have bk1 : ∀ w ∈ u_ws RX3 TX3 7, w ∈ wd_V6_lay := fun _ h => List.mem_cons_of_mem _ (List.mem_append_right _ (List.mem_append_right _ (List.mem_append_left _ h)))
  have hl := lv_entry ([.ref (ad 2080), .int v1, .int v2, .int v3, .int v4, .int v5, .int v6]) (n := 8) (Nat.le_of_ble_eq_true rfl)
  rw [lg_entry_eq]
  generalize (lg_sl ([.ref (ad 2080), .int v1, .int v2, .int v3, .int v4, .int v5, .int v6]) ++ List.replicate (8 - (lg_sl ([.ref (ad 2080), .int v1, .int v2, .int v3, .int v4, .int v5, .int v6])).length) Slot.unset).toArray = ls at hl ⊢
  have hl : lv_has ls 8 [(0, .ref (ad 2080)), (1, .int v1), (2, .int v2), (3, .int v3), (4, .int v4), (5, .int v5), (6, .int v6)] := hl
  have hC0 := hC
  obtain ⟨hLn, hW, ⟨hAr, hWk, hPa, hFr⟩, hO, pt, hPt, hM⟩ := hC0
  unfold CSO at hO
  have hpb := hPt.2
  refine lv_aload_n hx hb dX6_lay_0 rfl (lv_at hl 0 rfl) ?_
  refine m_get (D := (dC, dI)) (v := .int (nI L.length)) (C := RX6) (T := TX6) (N := 7) hx hb hts bk0 hown hK hP 2080 (by decide) hO rfl 2 (by decide) (hts (.fieldLink RX6 135 "GradientDesk$Shelf" "count" "I") (List.mem_of_getElem? (i := 1) rfl)) (fun _ h9 => h9) rfl dX6_lay_1 ?_
  refine lv_sipush (v := nI 200) hx hb dX6_lay_4 (by decide +kernel) ?_
  refine lv_icmp_lt (tgt := 13) hx hb dX6_lay_7 (by decide) (fun c_1 => ?_) (fun c_1 => ?_)
  · have c_1 := (nI_ltI (a := L.length) (b := 200) (by omega) (by decide)).mp c_1
    refine lv_aload_n hx hb dX6_lay_13 rfl (lv_at hl 0 rfl) ?_
    refine m_get (D := (dC, dI)) (v := .ref (ad 2081)) (C := RX6) (T := TX6) (N := 7) hx hb hts bk0 hown hK hP 2080 (by decide) hO rfl 0 (by decide) (hts (.fieldLink RX6 11 "GradientDesk$Shelf" "parts" "[LGradientDesk$Part;") (List.mem_of_getElem? (i := 2) rfl)) (fun _ h9 => h9) rfl dX6_lay_14 ?_
    refine lv_aload_n hx hb dX6_lay_17 rfl (lv_at hl 0 rfl) ?_
    refine m_get (D := (dC, dI)) (v := .int (nI L.length)) (C := RX6) (T := TX6) (N := 7) hx hb hts bk0 hown hK hP 2080 (by decide) hO rfl 2 (by decide) (hts (.fieldLink RX6 135 "GradientDesk$Shelf" "count" "I") (List.mem_of_getElem? (i := 1) rfl)) (fun _ h9 => h9) rfl dX6_lay_18 ?_
    refine m_aald hx hb hK hP 2081 (by decide) rfl hPa (i := L.length) (v := ad (2117 + 2 * L.length)) (by omega) (by decide) rfl dX6_lay_21 ?_
    refine lv_astore (lv' := [(7, .ref (ad (2117 + 2 * L.length))), (0, .ref (ad 2080)), (1, .int v1), (2, .int v2), (3, .int v3), (4, .int v4), (5, .int v5), (6, .int v6)]) hx hb dX6_lay_22 hl (by decide) rfl (fun ls hl => ?_)
    refine lv_aload hx hb dX6_lay_24 (lv_at hl 0 rfl) ?_
    refine lv_iload_n hx hb dX6_lay_26 rfl (lv_at hl 2 rfl) ?_
    have hp_2 := hPt.1 L.length (by omega)
    refine m_put (D := (dC, dI)) (v := .int v1) (tv := .int) (C := RX3) (T := TX3) (N := 7) hx hb hts bk1 tyX3 tyX3_ok nmX3 hown hK hP hD hS (2117 + 2 * L.length) (ns_p (by omega)) hp_2 rfl 1 (by decide) (hts (.fieldLink RX6 64 "GradientDesk$Part" "sort" "I") (List.mem_of_getElem? (i := 3) rfl)) (fun _ h9 => h9) rfl (by decide +kernel) rfl rfl (Nat.le_of_ble_eq_true rfl) dX6_lay_27 (fun H locs g_3 f_4 fr_5 hP hS => ?_)
    have f_4 : g_3 (2117 + 2 * L.length) = .inr (6, [.ref (ad (2118 + 2 * L.length)), .int v1, .int (iI (pt 1 L.length)), .int (iI (pt 2 L.length)), .int (iI (pt 3 L.length)), .int (iI (pt 4 L.length)), .int (iI (pt 5 L.length))]) := f_4
    refine lv_aload hx hb dX6_lay_30 (lv_at hl 0 rfl) ?_
    refine lv_iload_n hx hb dX6_lay_32 rfl (lv_at hl 3 rfl) ?_
    refine m_put (D := (dC, dI)) (v := .int v2) (tv := .int) (C := RX3) (T := TX3) (N := 7) hx hb hts bk1 tyX3 tyX3_ok nmX3 hown hK hP hD hS (2117 + 2 * L.length) (ns_p (by omega)) f_4 rfl 2 (by decide) (hts (.fieldLink RX6 149 "GradientDesk$Part" "first" "I") (List.mem_of_getElem? (i := 4) rfl)) (fun _ h9 => h9) rfl (by decide +kernel) rfl rfl (Nat.le_of_ble_eq_true rfl) dX6_lay_33 (fun H locs g_6 f_7 fr_8 hP hS => ?_)
    have f_7 : g_6 (2117 + 2 * L.length) = .inr (6, [.ref (ad (2118 + 2 * L.length)), .int v1, .int v2, .int (iI (pt 2 L.length)), .int (iI (pt 3 L.length)), .int (iI (pt 4 L.length)), .int (iI (pt 5 L.length))]) := f_7
    refine lv_aload hx hb dX6_lay_36 (lv_at hl 0 rfl) ?_
    refine lv_iload_n hx hb dX6_lay_38 rfl (lv_at hl 4 rfl) ?_
    refine m_put (D := (dC, dI)) (v := .int v3) (tv := .int) (C := RX3) (T := TX3) (N := 7) hx hb hts bk1 tyX3 tyX3_ok nmX3 hown hK hP hD hS (2117 + 2 * L.length) (ns_p (by omega)) f_7 rfl 3 (by decide) (hts (.fieldLink RX6 152 "GradientDesk$Part" "second" "I") (List.mem_of_getElem? (i := 5) rfl)) (fun _ h9 => h9) rfl (by decide +kernel) rfl rfl (Nat.le_of_ble_eq_true rfl) dX6_lay_39 (fun H locs g_9 f_10 fr_11 hP hS => ?_)
    have f_10 : g_9 (2117 + 2 * L.length) = .inr (6, [.ref (ad (2118 + 2 * L.length)), .int v1, .int v2, .int v3, .int (iI (pt 3 L.length)), .int (iI (pt 4 L.length)), .int (iI (pt 5 L.length))]) := f_10
    refine lv_aload hx hb dX6_lay_42 (lv_at hl 0 rfl) ?_
    refine lv_iload hx hb dX6_lay_44 (lv_at hl 5 rfl) ?_
    refine m_put (D := (dC, dI)) (v := .int v4) (tv := .int) (C := RX3) (T := TX3) (N := 7) hx hb hts bk1 tyX3 tyX3_ok nmX3 hown hK hP hD hS (2117 + 2 * L.length) (ns_p (by omega)) f_10 rfl 4 (by decide) (hts (.fieldLink RX6 91 "GradientDesk$Part" "degree" "I") (List.mem_of_getElem? (i := 6) rfl)) (fun _ h9 => h9) rfl (by decide +kernel) rfl rfl (Nat.le_of_ble_eq_true rfl) dX6_lay_46 (fun H locs g_12 f_13 fr_14 hP hS => ?_)
    have f_13 : g_12 (2117 + 2 * L.length) = .inr (6, [.ref (ad (2118 + 2 * L.length)), .int v1, .int v2, .int v3, .int v4, .int (iI (pt 4 L.length)), .int (iI (pt 5 L.length))]) := f_13
    refine lv_aload hx hb dX6_lay_49 (lv_at hl 0 rfl) ?_
    refine lv_iload hx hb dX6_lay_51 (lv_at hl 6 rfl) ?_
    refine m_put (D := (dC, dI)) (v := .int v5) (tv := .int) (C := RX3) (T := TX3) (N := 7) hx hb hts bk1 tyX3 tyX3_ok nmX3 hown hK hP hD hS (2117 + 2 * L.length) (ns_p (by omega)) f_13 rfl 5 (by decide) (hts (.fieldLink RX6 79 "GradientDesk$Part" "sizeN" "I") (List.mem_of_getElem? (i := 7) rfl)) (fun _ h9 => h9) rfl (by decide +kernel) rfl rfl (Nat.le_of_ble_eq_true rfl) dX6_lay_53 (fun H locs g_15 f_16 fr_17 hP hS => ?_)
    have f_16 : g_15 (2117 + 2 * L.length) = .inr (6, [.ref (ad (2118 + 2 * L.length)), .int v1, .int v2, .int v3, .int v4, .int v5, .int (iI (pt 5 L.length))]) := f_16
    refine lv_aload hx hb dX6_lay_56 (lv_at hl 0 rfl) ?_
    refine lv_iload hx hb dX6_lay_58 (lv_at hl 7 rfl) ?_
    refine m_put (D := (dC, dI)) (v := .int v6) (tv := .int) (C := RX3) (T := TX3) (N := 7) hx hb hts bk1 tyX3 tyX3_ok nmX3 hown hK hP hD hS (2117 + 2 * L.length) (ns_p (by omega)) f_16 rfl 6 (by decide) (hts (.fieldLink RX6 82 "GradientDesk$Part" "sizeD" "I") (List.mem_of_getElem? (i := 8) rfl)) (fun _ h9 => h9) rfl (by decide +kernel) rfl rfl (Nat.le_of_ble_eq_true rfl) dX6_lay_60 (fun H locs g_18 f_19 fr_20 hP hS => ?_)
    have f_19 : g_18 (2117 + 2 * L.length) = .inr (6, [.ref (ad (2118 + 2 * L.length)), .int v1, .int v2, .int v3, .int v4, .int v5, .int v6]) := f_19
    refine lv_aload_n hx hb dX6_lay_63 rfl (lv_at hl 1 rfl) ?_
    refine lv_dup hx hb dX6_lay_64 rfl ?_
    have f_21 : g_18 2080 = .inr (9, [.ref (ad 2081), .ref (ad 2082), .int (nI L.length), .ref (ad 2083), .ref (ad 2077), .ref (ad 2107), .ref (ad (2 * 6))]) := (fr_20 2080 (by omega)).trans ((fr_17 2080 (by omega)).trans ((fr_14 2080 (by omega)).trans ((fr_11 2080 (by omega)).trans ((fr_8 2080 (by omega)).trans ((fr_5 2080 (by omega)).trans hO)))))
    refine m_get (D := (dC, dI)) (v := .int (nI L.length)) (C := RX6) (T := TX6) (N := 7) hx hb hts bk0 hown hK hP 2080 (by decide) f_21 rfl 2 (by decide) (hts (.fieldLink RX6 135 "GradientDesk$Shelf" "count" "I") (List.mem_of_getElem? (i := 1) rfl)) (fun _ h9 => h9) rfl dX6_lay_65 ?_
    refine lv_iconst (v := nI 1) hx hb dX6_lay_68 (by decide +kernel) ?_
    refine lv_iadd hx hb dX6_lay_69 ?_
    refine lv_topi (fun x_22 e_23 => ?_)
    obtain rfl : x_22 = nI (L.length + 1) := e_23.trans (nI_add L.length 1)
    refine m_put (D := (dC, dI)) (v := .int (nI (L.length + 1))) (tv := .int) (C := RX6) (T := TX6) (N := 7) hx hb hts bk0 tyX6 tyX6_ok nmX6 hown hK hP hD hS 2080 (by decide) f_21 rfl 2 (by decide) (hts (.fieldLink RX6 135 "GradientDesk$Shelf" "count" "I") (List.mem_of_getElem? (i := 1) rfl)) (fun _ h9 => h9) rfl (by decide +kernel) rfl rfl (Nat.le_of_ble_eq_true rfl) dX6_lay_70 (fun H locs g_24 f_25 fr_26 hP hS => ?_)
    have f_25 : g_24 2080 = .inr (9, [.ref (ad 2081), .ref (ad 2082), .int (nI (L.length + 1)), .ref (ad 2083), .ref (ad 2077), .ref (ad 2107), .ref (ad (2 * 6))]) := f_25
    refine lv_aload_n hx hb dX6_lay_73 rfl (lv_at hl 1 rfl) ?_
    refine m_get (D := (dC, dI)) (v := .int (nI (L.length + 1))) (C := RX6) (T := TX6) (N := 7) hx hb hts bk0 hown hK hP 2080 (by decide) f_25 rfl 2 (by decide) (hts (.fieldLink RX6 135 "GradientDesk$Shelf" "count" "I") (List.mem_of_getElem? (i := 1) rfl)) (fun _ h9 => h9) rfl dX6_lay_74 ?_
    refine lv_iconst (v := nI 1) hx hb dX6_lay_77 (by decide +kernel) ?_
    refine lv_isub hx hb dX6_lay_78 ?_
    refine lv_topi (fun x_27 e_28 => ?_)
    obtain rfl : x_27 = nI ((L.length + 1) - 1) := e_28.trans (pk_sub (show 1 ≤ L.length + 1 by omega))
    have f_29 : g_24 (2117 + 2 * L.length) = .inr (6, [.ref (ad (2118 + 2 * L.length)), .int v1, .int v2, .int v3, .int v4, .int v5, .int v6]) := (fr_26 (2117 + 2 * L.length) (by omega)).trans f_19
    refine W.widen (k := 0) (n := 0) (by omega) (by omega) ?_
    exact W.iret (v := nI ((L.length + 1) - 1)) hx hb hr (fun t9 ht9 hW9 => ⟨⟨nI ((L.length + 1) - 1), g_24, rfl, ⟨(fun (k : Nat) (hk : k ≠ 2080 ∧ k ≠ 2117 + 2 * L.length) => (fr_26 k (by omega)).trans ((fr_20 k (by omega)).trans ((fr_17 k (by omega)).trans ((fr_14 k (by omega)).trans ((fr_11 k (by omega)).trans ((fr_8 k (by omega)).trans ((fr_5 k (by omega)).trans (rfl)))))))), Or.inr ⟨by omega, rfl, f_25, f_29⟩⟩, by show va_P (dC, dI) vwCl _ t9.heap; rw [ht9]; exact hP⟩, hS.F ht9⟩) hS.2.2 dX6_lay_79
  · have c_1 := mt (nI_ltI (a := L.length) (b := 200) (by omega) (by decide)).mpr c_1
    refine lv_bipush (v := -4) hx hb dX6_lay_10 (by decide +kernel) ?_
    refine W.widen (k := 0) (n := 0) (by omega) (by omega) ?_
    exact W.iret (v := -4) hx hb hr (fun t9 ht9 hW9 => ⟨⟨-4, g, rfl, ⟨(fun (k : Nat) (hk : k ≠ 2080 ∧ k ≠ 2117 + 2 * L.length) => rfl), Or.inl ⟨by omega, by decide, rfl⟩⟩, by show va_P (dC, dI) vwCl _ t9.heap; rw [ht9]; exact hP⟩, hS.F ht9⟩) hS.2.2 dX6_lay_12
end
section
def wd_V6_keep : List Cond := .code yX6_keep cX6_keep 8 (some .int) :: (([.fieldLink RX6 135 "GradientDesk$Shelf" "count" "I", .methodLink RX6 142 yX6_lay, .instanceMethod yX6_lay, .selects RX6 yX6_lay yX6_lay, .initialized RX6, .fieldLink RX6 11 "GradientDesk$Shelf" "parts" "[LGradientDesk$Part;", .methodLink RX6 145 yX3_says, .instanceMethod yX3_says, .selects RX3 yX3_says yX3_says, .initialized RX3] : List Cond) ++ (u_ws RX6 TX6 7 ++ (wd_V6_lay ++ (wd_V3_says ++ ([])))))
theorem gw_V6_keep : wd_V6_keep.all goodWord = true := k_allc rfl (k_all (by decide +kernel) (k_all (gu_X6) (k_all (gw_V6_lay) (k_all (gw_V3_says) (rfl)))))
set_option maxHeartbeats 4000000 in
set_option maxRecDepth 100000 in
theorem c_V6_keep (l : Launch) (dC : Nat → ClassId) (dI : Nat → Nat → Nat) (A : Nat → Prop) (ad : Nat → Nat) (cA : Nat → ClassId) (g : Nat → va_E) (L : List PD) (ds : PD) (v1 : Int32) (v2 : Int32) (v3 : Int32) (v4 : Int32) (v5 : Int32) (v6 : Int32) (hC : CS ad cA g L) (hv1 : v1 = iI (((ds.1 : Nat) : Int))) (hv2 : v2 = iI (ds.2.1)) (hv3 : v3 = iI (ds.2.2.1)) (hv4 : v4 = iI (((ds.2.2.2.1 : Nat) : Int))) (hv5 : v5 = iI (((ds.2.2.2.2.1 : Nat) : Int))) (hv6 : v6 = iI (((ds.2.2.2.2.2.1 : Nat) : Int))) (hbd : ds.1 ≤ 20000 ∧ -1 ≤ ds.2.1 ∧ ds.2.1 ≤ 20000 ∧ -1 ≤ ds.2.2.1 ∧ ds.2.2.1 ≤ 20000 ∧ ds.2.2.2.1 ≤ 20000 ∧ ds.2.2.2.2.1 ≤ 20000 ∧ ds.2.2.2.2.2.1 ≤ 20000) (hd0 : ds.1 ≠ 0) : Met l yX6_keep wd_V6_keep ({ frames := 20, cells := 0, slots := 0, locals := 400 }) (va_Pc [.ref (ad 2080), .int v1, .int v2, .int v3, .int v4, .int v5, .int v6] (PR NSc tyc dC dI A ad cA g)) (va_Qi (fun (r : Int32) => fun (u : Nat → va_E) => match u with | g2 => (∀ k, (14 ≤ k ∧ k < 76) ∨ (876 ≤ k ∧ k < 2080) ∨ (2081 ≤ k ∧ k < 2117) → g2 k = g k) ∧ CMK ad cA g2 (keepL L ds) r) (fun (u : Nat → va_E) (t : State) => va_P (dC, dI) vwCl (wo ad NSc u) t.heap) A) (0) (0) A := by
  refine Met.ofW (cc := cX6_keep) (maxL := 8) (ret := (some .int)) (by decide) rfl ?_
  intro p e s m args below meth c s₁ B hml hv
  obtain ⟨rfl, hA, hP, hL⟩ := hv
  have hx := B.exec
  have hb := B.bytes
  have hr := B.returns
  have hts := atoms_spec (ws := wd_V6_keep) B.pre
  have hown : s.vm.findClass RX6 = some m.cls := findClass_of_methodNamed B.named
  have hlocks := B.notSynchronized
  have hK := hL.1
  have hD : ∀ g, va_D A (wo ad NSc g) := fun g => wo_D hL.2.1 hL.2.2 g
  have hS : va_S A s.heap s.heap [] := va_S.rf
  have bk0 : ∀ w ∈ u_ws RX6 TX6 7, w ∈ wd_V6_keep := fun _ h => List.mem_cons_of_mem _ (List.mem_append_right _ (List.mem_append_left _ h))
  have bk1 : ∀ w ∈ wd_V6_lay, w ∈ wd_V6_keep := fun _ h => List.mem_cons_of_mem _ (List.mem_append_right _ (List.mem_append_right _ (List.mem_append_left _ h)))
  have bk2 : ∀ w ∈ wd_V3_says, w ∈ wd_V6_keep := fun _ h => List.mem_cons_of_mem _ (List.mem_append_right _ (List.mem_append_right _ (List.mem_append_right _ (List.mem_append_left _ h))))
  have hl := lv_entry ([.ref (ad 2080), .int v1, .int v2, .int v3, .int v4, .int v5, .int v6]) (n := 8) (Nat.le_of_ble_eq_true rfl)
  rw [lg_entry_eq]
  generalize (lg_sl ([.ref (ad 2080), .int v1, .int v2, .int v3, .int v4, .int v5, .int v6]) ++ List.replicate (8 - (lg_sl ([.ref (ad 2080), .int v1, .int v2, .int v3, .int v4, .int v5, .int v6])).length) Slot.unset).toArray = ls at hl ⊢
  have hl : lv_has ls 8 [(0, .ref (ad 2080)), (1, .int v1), (2, .int v2), (3, .int v3), (4, .int v4), (5, .int v5), (6, .int v6)] := hl
  have hC0 := hC
  obtain ⟨hLn, hW, ⟨hAr, hWk, hPa, hFr⟩, hO, pt, hPt, hM⟩ := hC0
  unfold CSO at hO
  have hpb := hPt.2
  refine lv_iload hx hb dX6_keep_0 (lv_at hl 4 rfl) ?_
  refine lv_bipush (v := nI 8) hx hb dX6_keep_2 (by decide +kernel) ?_
  refine lv_icmp_gt (tgt := 23) hx hb dX6_keep_4 (by decide) (fun c_1 => ?_) (fun c_1 => ?_)
  · have c_1 := (k_iLT (a := 8) (b := ((ds.2.2.2.1 : Nat) : Int)) (show nI 8 = iI 8 from by decide) hv4 (by omega) (by omega)).mp c_1
    refine lv_bipush (v := -3) hx hb dX6_keep_23 (by decide +kernel) ?_
    refine W.widen (k := 0) (n := 0) (by omega) (by omega) ?_
    exact W.iret (v := -3) hx hb hr (fun t9 ht9 hW9 => ⟨⟨-3, g, rfl, ⟨(fun (k : Nat) (hk : (14 ≤ k ∧ k < 76) ∨ (876 ≤ k ∧ k < 2080) ∨ (2081 ≤ k ∧ k < 2117)) => rfl), CMK.bad (n := -3) (by decide) (keepL_big (by omega)) (Or.inl rfl) hC⟩, by show va_P (dC, dI) vwCl _ t9.heap; rw [ht9]; exact hP⟩, hS.F ht9⟩) hS.2.2 dX6_keep_25
  · have c_1 := mt (k_iLT (a := 8) (b := ((ds.2.2.2.1 : Nat) : Int)) (show nI 8 = iI 8 from by decide) hv4 (by omega) (by omega)).mpr c_1
    refine lv_iload hx hb dX6_keep_7 (lv_at hl 5 rfl) ?_
    refine lv_sipush (v := nI 400) hx hb dX6_keep_9 (by decide +kernel) ?_
    refine lv_icmp_gt (tgt := 23) hx hb dX6_keep_12 (by decide) (fun c_2 => ?_) (fun c_2 => ?_)
    · have c_2 := (k_iLT (a := 400) (b := ((ds.2.2.2.2.1 : Nat) : Int)) (show nI 400 = iI 400 from by decide) hv5 (by omega) (by omega)).mp c_2
      refine lv_bipush (v := -3) hx hb dX6_keep_23 (by decide +kernel) ?_
      refine W.widen (k := 0) (n := 0) (by omega) (by omega) ?_
      exact W.iret (v := -3) hx hb hr (fun t9 ht9 hW9 => ⟨⟨-3, g, rfl, ⟨(fun (k : Nat) (hk : (14 ≤ k ∧ k < 76) ∨ (876 ≤ k ∧ k < 2080) ∨ (2081 ≤ k ∧ k < 2117)) => rfl), CMK.bad (n := -3) (by decide) (keepL_big (by omega)) (Or.inl rfl) hC⟩, by show va_P (dC, dI) vwCl _ t9.heap; rw [ht9]; exact hP⟩, hS.F ht9⟩) hS.2.2 dX6_keep_25
    · have c_2 := mt (k_iLT (a := 400) (b := ((ds.2.2.2.2.1 : Nat) : Int)) (show nI 400 = iI 400 from by decide) hv5 (by omega) (by omega)).mpr c_2
      refine lv_iload hx hb dX6_keep_15 (lv_at hl 6 rfl) ?_
      refine lv_sipush (v := nI 400) hx hb dX6_keep_17 (by decide +kernel) ?_
      refine lv_icmp_le (tgt := 26) hx hb dX6_keep_20 (by decide) (fun c_3 => ?_) (fun c_3 => ?_)
      · have c_3 := (k_iLE (a := ((ds.2.2.2.2.2.1 : Nat) : Int)) (b := 400) hv6 (show nI 400 = iI 400 from by decide) (by omega) (by omega)).mp c_3
        refine lv_iconst (v := nI 0) hx hb dX6_keep_26 (by decide +kernel) ?_
        refine lv_istore (lv' := [(7, .int (nI 0)), (0, .ref (ad 2080)), (1, .int v1), (2, .int v2), (3, .int v3), (4, .int v4), (5, .int v5), (6, .int v6)]) hx hb dX6_keep_27 hl (by decide) rfl (fun ls hl => ?_)
        have loop_4 : ∀ (k9 : Nat) (i : Nat), 300 - i < k9 → (i ≤ L.length) → (∀ j, j < i → pky (gd L j) ds = false) → ∀ (H : Heap) (locs : List Loc) (ls : Array Slot), va_P (dC, dI) vwCl (wo ad NSc g) H → va_S A s.heap H locs → lv_has ls 8 [(0, .ref (ad 2080)), (1, .int v1), (2, .int v2), (3, .int v3), (4, .int v4), (5, .int v5), (6, .int v6), (7, .int (nI i))] → W p l e (headSpec wd_V6_keep ({ frames := 20, cells := 0, slots := 0, locals := 400 })).room s m ([.ref (ad 2080), .int v1, .int v2, .int v3, .int v4, .int v5, .int v6] : List Value).toArray below meth c H locs (0) (0) (MQ below (va_Qi (fun (r : Int32) => fun (u : Nat → va_E) => match u with | g2 => (∀ k, (14 ≤ k ∧ k < 76) ∨ (876 ≤ k ∧ k < 2080) ∨ (2081 ≤ k ∧ k < 2117) → g2 k = g k) ∧ CMK ad cA g2 (keepL L ds) r) (fun (u : Nat → va_E) (t : State) => va_P (dC, dI) vwCl (wo ad NSc u) t.heap) A) ([.ref (ad 2080), .int v1, .int v2, .int v3, .int v4, .int v5, .int v6] : List Value).toArray s (0) (0) A) (F0 m 29 ls []) := by
          intro k9
          induction k9 with
          | zero => intro i h9; exact absurd h9 (Nat.not_lt_zero _)
          | succ k9 ih_5 =>
            intro i h9 hi hno H locs ls hP hS hl
            refine lv_iload hx hb dX6_keep_29 (lv_at hl 7 rfl) ?_
            refine lv_aload_n hx hb dX6_keep_31 rfl (lv_at hl 0 rfl) ?_
            refine m_get (D := (dC, dI)) (v := .int (nI L.length)) (C := RX6) (T := TX6) (N := 7) hx hb hts bk0 hown hK hP 2080 (by decide) hO rfl 2 (by decide) (hts (.fieldLink RX6 135 "GradientDesk$Shelf" "count" "I") (List.mem_of_getElem? (i := 1) rfl)) (fun _ h9 => h9) rfl dX6_keep_32 ?_
            refine lv_icmp_ge (tgt := 63) hx hb dX6_keep_35 (by decide) (fun c_8 => ?_) (fun c_8 => ?_)
            · have c_8 := (nI_leI (a := L.length) (b := i) (by omega) (by omega)).mp c_8
              refine lv_aload_n hx hb dX6_keep_63 rfl (lv_at hl 0 rfl) ?_
              refine lv_iload_n hx hb dX6_keep_64 rfl (lv_at hl 1 rfl) ?_
              refine lv_iload_n hx hb dX6_keep_65 rfl (lv_at hl 2 rfl) ?_
              refine lv_iload_n hx hb dX6_keep_66 rfl (lv_at hl 3 rfl) ?_
              refine lv_iload hx hb dX6_keep_67 (lv_at hl 4 rfl) ?_
              refine lv_iload hx hb dX6_keep_69 (lv_at hl 5 rfl) ?_
              refine lv_iload hx hb dX6_keep_71 (lv_at hl 6 rfl) ?_
              refine va_calli (va_runV (As := [.int v1, .int v2, .int v3, .int v4, .int v5, .int v6]) (rest := []) ⟨hx, hb, hml, hown, hts⟩ (c_V6_lay l dC dI A ad cA g L v1 v2 v3 v4 v5 v6 hC) (cwV 6 hts (goodIn_app (goodIn_r [Cond.methodLink RX6 142 yX6_lay, Cond.instanceMethod yX6_lay, Cond.selects RX6 yX6_lay yX6_lay, Cond.initialized RX6] [2, 3, 4, 5] rfl rfl) (goodIn_sub (fun w9 h9 => bk1 w9 h9) gw_V6_lay)) rfl rfl rfl (by decide +kernel) ⟨Nat.le_of_ble_eq_true rfl, Nat.le_of_ble_eq_true rfl⟩) ⟨fun a U g mk q => ⟨q.1, q.2.1, q.2.2.1, LY.moved (u := U) (U := U.calling g mk a) (Vm.Alike.refl U.vm) q.2.2.2⟩, va_recv hK hP (ci := 9) (q0 := 2080) rfl (wo_at (by decide) hO), fun U hU hW => ⟨rfl, by rw [hU]; exact fun q h => hA q (Nat.le_trans hS.1 h), by rw [hU]; exact hP, LY.moved hW.alike hL⟩⟩ rfl rfl hl.1 rfl (lv_room (Nat.le_of_ble_eq_true rfl)) dX6_keep_73 ⟨(Nat.le_of_ble_eq_true rfl), (Nat.le_of_ble_eq_true rfl)⟩) hS (fun q _ h => h) (fun q h => h) (fun r_9 u8 t8 H1 locs ht8 hvm8 hw_10 hB hz1 hk1 hS => ?_)
              obtain ⟨g_11, rfl⟩ : ∃ z, z = u8 := ⟨_, rfl⟩
              try dsimp only at hw_10 hB
              rw [ht8] at hB
              have hP := hB
              generalize H1 = H at hP hS ⊢
              obtain ⟨fr_12, hly⟩ := hw_10
              have hb_13 : CMK ad cA g_11 (keepL L ds) r_9 := by
                rcases hly with ⟨hl9, rfl, hg9⟩ | ⟨hl9, rfl, hO9, hc9⟩
                · rw [hg9]; exact CMK.bad rfl (keepL_full (by omega) hl9 (fun j hj => hno j (by omega))) (Or.inr rfl) hC
                · exact CMK.new (keepL_new (by omega) (by omega) (fun j hj => hno j (by omega))) (CS.lay hC hl9 (AW.keep hW (fun (k : Nat) (hk : k < 2076) => (fr_12 k (by omega)).trans (rfl))) hO9 hc9 hv1 hv2 hv3 hv4 hv5 hv6 hbd (fun (k : Nat) (hk : (76 ≤ k ∧ k < 76 + 4 * L.length) ∨ k = 2077 ∨ k = 2107 ∨ k = 2081 ∨ (2117 ≤ k ∧ k < 2517 ∧ k ≠ 2117 + 2 * L.length)) => (fr_12 k (by omega)).trans (rfl)) (fun h9 => absurd h9 hd0))
              refine W.widen (k := 0) (n := 0) (by omega) (by omega) ?_
              exact W.iret (v := r_9) hx hb hr (fun t9 ht9 hW9 => ⟨⟨r_9, g_11, rfl, ⟨(fun (k : Nat) (hk : (14 ≤ k ∧ k < 76) ∨ (876 ≤ k ∧ k < 2080) ∨ (2081 ≤ k ∧ k < 2117)) => (fr_12 k (by omega)).trans (rfl)), hb_13⟩, by show va_P (dC, dI) vwCl _ t9.heap; rw [ht9]; exact hP⟩, hS.F ht9⟩) hS.2.2 dX6_keep_76
            · have c_8 := mt (nI_leI (a := L.length) (b := i) (by omega) (by omega)).mpr c_8
              refine lv_aload_n hx hb dX6_keep_38 rfl (lv_at hl 0 rfl) ?_
              refine m_get (D := (dC, dI)) (v := .ref (ad 2081)) (C := RX6) (T := TX6) (N := 7) hx hb hts bk0 hown hK hP 2080 (by decide) hO rfl 0 (by decide) (hts (.fieldLink RX6 11 "GradientDesk$Shelf" "parts" "[LGradientDesk$Part;") (List.mem_of_getElem? (i := 6) rfl)) (fun _ h9 => h9) rfl dX6_keep_39 ?_
              refine lv_iload hx hb dX6_keep_42 (lv_at hl 7 rfl) ?_
              refine m_aald hx hb hK hP 2081 (by decide) rfl hPa (i := i) (v := ad (2117 + 2 * i)) (by omega) (by decide) rfl dX6_keep_44 ?_
              refine lv_iload_n hx hb dX6_keep_45 rfl (lv_at hl 1 rfl) ?_
              refine lv_iload_n hx hb dX6_keep_46 rfl (lv_at hl 2 rfl) ?_
              refine lv_iload_n hx hb dX6_keep_47 rfl (lv_at hl 3 rfl) ?_
              obtain ⟨m0, m1, m2, m3, m4, m5, -⟩ := hM i (by omega)
              have b0 := hpb 0 i
              have b1 := hpb 1 i
              have b2 := hpb 2 i
              have hp_14 := hPt.1 i (by omega)
              refine va_calli (va_runV (As := [.int v1, .int v2, .int v3]) (rest := []) ⟨hx, hb, hml, hown, hts⟩ (c_V3_says l dC dI A ad cA g i (pt 0 i) (pt 1 i) (pt 2 i) (pt 3 i) (pt 4 i) (pt 5 i) v1 v2 v3 ((ds.1 : Nat) : Int) ds.2.1 ds.2.2.1 (by omega) hp_14 hv1 hv2 hv3 (⟨b0.1, b0.2, b1.1, b1.2, b2.1, b2.2⟩) (by omega)) (cwV 3 hts (goodIn_app (goodIn_r [Cond.methodLink RX6 145 yX3_says, Cond.instanceMethod yX3_says, Cond.selects RX3 yX3_says yX3_says, Cond.initialized RX3] [7, 8, 9, 10] rfl rfl) (goodIn_sub (fun w9 h9 => bk2 w9 h9) gw_V3_says)) rfl rfl rfl (by decide +kernel) ⟨Nat.le_of_ble_eq_true rfl, Nat.le_of_ble_eq_true rfl⟩) ⟨fun a U g mk q => ⟨q.1, q.2.1, q.2.2.1, LY.moved (u := U) (U := U.calling g mk a) (Vm.Alike.refl U.vm) q.2.2.2⟩, va_recv hK hP (ci := 6) (q0 := (2117 + 2 * i)) rfl (wo_at (ns_p (by omega)) hp_14), fun U hU hW => ⟨rfl, by rw [hU]; exact fun q h => hA q (Nat.le_trans hS.1 h), by rw [hU]; exact hP, LY.moved hW.alike hL⟩⟩ rfl rfl hl.1 rfl (lv_room (Nat.le_of_ble_eq_true rfl)) dX6_keep_48 ⟨(Nat.le_of_ble_eq_true rfl), (Nat.le_of_ble_eq_true rfl)⟩) hS (fun q _ h => h) (fun q h => h) (fun r_15 u8 t8 H1 locs ht8 hvm8 hw_16 hB hz1 hk1 hS => ?_)
              obtain ⟨⟩ := u8
              try dsimp only at hw_16 hB
              rw [ht8] at hB
              have hP := hB
              generalize H1 = H at hP hS ⊢
              rcases hw_16 with ⟨rfl, hs⟩ | ⟨rfl, hs⟩
              · skip
                refine lv_if_eq (tgt := 57) hx hb dX6_keep_51 (by decide) (fun c_17 => absurd c_17 (by decide)) (fun c_17 => ?_)
                refine lv_iload hx hb dX6_keep_54 (lv_at hl 7 rfl) ?_
                refine W.widen (k := 0) (n := 0) (by omega) (by omega) ?_
                exact W.iret (v := nI i) hx hb hr (fun t9 ht9 hW9 => ⟨⟨nI i, g, rfl, ⟨(fun (k : Nat) (hk : (14 ≤ k ∧ k < 76) ∨ (876 ≤ k ∧ k < 2080) ∨ (2081 ≤ k ∧ k < 2117)) => rfl), CMK.old (keepL_old (by omega) (by omega) (k_ky m0 m1 m2 rfl rfl rfl hs.1 hs.2.1 hs.2.2 (fun h9 => absurd h9 hd0)) hno) (by omega) hC⟩, by show va_P (dC, dI) vwCl _ t9.heap; rw [ht9]; exact hP⟩, hS.F ht9⟩) hS.2.2 dX6_keep_56
              · skip
                refine lv_if_eq (tgt := 57) hx hb dX6_keep_51 (by decide) (fun c_18 => ?_) (fun c_18 => absurd c_18 (by decide))
                refine lv_iinc (v := nI (i + 1)) (lv' := [(7, .int (nI (i + 1))), (0, .ref (ad 2080)), (1, .int v1), (2, .int v2), (3, .int v3), (4, .int v4), (5, .int v5), (6, .int v6)]) hx hb dX6_keep_57 hl (k := 7) rfl (nI_add i 1) (by decide) rfl (fun ls hl => ?_)
                refine lv_goto (tgt := 29) hx hb dX6_keep_60 (by decide) ?_
                exact ih_5 (i + 1) (by omega) (by omega) (fun j hj => by by_cases h9 : j = i; subst h9; exact (k_nky m0 m1 m2 rfl rfl rfl (fun h0 h1 h2 => absurd ⟨h0, h1, h2⟩ hs)); exact hno j (by omega)) _ _ _ hP hS (lv_sub (l' := [(0, .ref (ad 2080)), (1, .int v1), (2, .int v2), (3, .int v3), (4, .int v4), (5, .int v5), (6, .int v6), (7, .int (nI (i + 1)))]) hl [1, 2, 3, 4, 5, 6, 7, 0] rfl)
        exact loop_4 _ 0 (Nat.lt_succ_self _) (Nat.zero_le _) (fun j h => absurd h (by omega)) _ _ _ hP hS (lv_sub (l' := [(0, .ref (ad 2080)), (1, .int v1), (2, .int v2), (3, .int v3), (4, .int v4), (5, .int v5), (6, .int v6), (7, .int (nI 0))]) hl [1, 2, 3, 4, 5, 6, 7, 0] rfl)
      · have c_3 := mt (k_iLE (a := ((ds.2.2.2.2.2.1 : Nat) : Int)) (b := 400) hv6 (show nI 400 = iI 400 from by decide) (by omega) (by omega)).mpr c_3
        refine lv_bipush (v := -3) hx hb dX6_keep_23 (by decide +kernel) ?_
        refine W.widen (k := 0) (n := 0) (by omega) (by omega) ?_
        exact W.iret (v := -3) hx hb hr (fun t9 ht9 hW9 => ⟨⟨-3, g, rfl, ⟨(fun (k : Nat) (hk : (14 ≤ k ∧ k < 76) ∨ (876 ≤ k ∧ k < 2080) ∨ (2081 ≤ k ∧ k < 2117)) => rfl), CMK.bad (n := -3) (by decide) (keepL_big (by omega)) (Or.inl rfl) hC⟩, by show va_P (dC, dI) vwCl _ t9.heap; rw [ht9]; exact hP⟩, hS.F ht9⟩) hS.2.2 dX6_keep_25
end
section
def wd_V6_keepNumber : List Cond := .code yX6_keepNumber cX6_keepNumber 6 (some .int) :: (([.fieldLink RX6 30 "GradientDesk$Shelf" "work" "LGradientDesk$Fraction;", .fieldLink RX6 112 "GradientDesk$Fraction" "top" "LGradientDesk$Whole;", .methodLink RX6 125 yX8_bitLength, .instanceMethod yX8_bitLength, .selects RX8 yX8_bitLength yX8_bitLength, .initialized RX8, .methodLink RX6 85 Lib.Math.max.name, .static Lib.Math.max.name, .initialized "java/lang/Math", .code Lib.Math.max.name Lib.Math.max.code 2 (some .int), .fieldLink RX6 122 "GradientDesk$Fraction" "bottom" "LGradientDesk$Whole;", .methodLink RX6 134 yX8_isOne, .instanceMethod yX8_isOne, .selects RX8 yX8_isOne yX8_isOne, .fieldLink RX6 135 "GradientDesk$Shelf" "count" "I", .methodLink RX6 142 yX6_lay, .instanceMethod yX6_lay, .selects RX6 yX6_lay yX6_lay, .initialized RX6, .fieldLink RX6 11 "GradientDesk$Shelf" "parts" "[LGradientDesk$Part;", .fieldLink RX6 68 "GradientDesk$Part" "number" "LGradientDesk$Fraction;", .methodLink RX6 118 yX8_become, .instanceMethod yX8_become, .selects RX8 yX8_become yX8_become, .methodLink RX6 138 yX8_equalTo, .instanceMethod yX8_equalTo, .selects RX8 yX8_equalTo yX8_equalTo, .fieldLink RX6 64 "GradientDesk$Part" "sort" "I"] : List Cond) ++ (u_ws RX6 TX6 7 ++ (u_ws RX2 TX2 2 ++ (wd_V8_bitLength ++ (wd_V8_isOne ++ (wd_V6_lay ++ (u_ws RX3 TX3 7 ++ (wd_V8_become ++ (wd_V8_equalTo ++ (wd_X8_equalTo ++ ([])))))))))))
theorem gw_V6_keepNumber : wd_V6_keepNumber.all goodWord = true := k_allc rfl (k_all (by decide +kernel) (k_all (gu_X6) (k_all (gu_X2) (k_all (gw_V8_bitLength) (k_all (gw_V8_isOne) (k_all (gw_V6_lay) (k_all (gu_X3) (k_all (gw_V8_become) (k_all (gw_V8_equalTo) (k_all (gw_X8_equalTo) (rfl)))))))))))
set_option maxHeartbeats 4000000 in
set_option maxRecDepth 100000 in
theorem c_V6_keepNumber (l : Launch) (dC : Nat → ClassId) (dI : Nat → Nat → Nat) (A : Nat → Prop) (ad : Nat → Nat) (cA : Nat → ClassId) (g : Nat → va_E) (L : List PD) (p9 : Int) (q9 : Nat) (hC : CS ad cA g L) (w4 : WV ad cA g 4 p9) (w5 : WV ad cA g 5 ((q9 : Nat) : Int)) (hq0 : 0 < q9) : Met l yX6_keepNumber wd_V6_keepNumber ({ frames := 30, cells := 0, slots := 0, locals := 600 }) (va_Pc [.ref (ad 2080)] (PR NSc tyc dC dI A ad cA g)) (va_Qi (fun (r : Int32) => fun (u : Nat → va_E) => match u with | g2 => (∀ k, (14 ≤ k ∧ k < 76) ∨ (876 ≤ k ∧ k < 2080) ∨ (2081 ≤ k ∧ k < 2117) → g2 k = g k) ∧ CMK ad cA g2 (numL L p9 q9) r) (fun (u : Nat → va_E) (t : State) => va_P (dC, dI) vwCl (wo ad NSc u) t.heap) A) (0) (0) A := by
  refine Met.ofW (cc := cX6_keepNumber) (maxL := 6) (ret := (some .int)) (by decide) rfl ?_
  intro p e s m args below meth c s₁ B hml hv
  obtain ⟨rfl, hA, hP, hL⟩ := hv
  have hx := B.exec
  have hb := B.bytes
  have hr := B.returns
  have hts := atoms_spec (ws := wd_V6_keepNumber) B.pre
  have hown : s.vm.findClass RX6 = some m.cls := findClass_of_methodNamed B.named
  have hlocks := B.notSynchronized
  have hK := hL.1
  have hD : ∀ g, va_D A (wo ad NSc g) := fun g => wo_D hL.2.1 hL.2.2 g
  have hS : va_S A s.heap s.heap [] := va_S.rf
  have bk0 : ∀ w ∈ u_ws RX6 TX6 7, w ∈ wd_V6_keepNumber := fun _ h => List.mem_cons_of_mem _ (List.mem_append_right _ (List.mem_append_left _ h))
  have bk1 : ∀ w ∈ u_ws RX2 TX2 2, w ∈ wd_V6_keepNumber := fun _ h => List.mem_cons_of_mem _ (List.mem_append_right _ (List.mem_append_right _ (List.mem_append_left _ h)))
  have bk2 : ∀ w ∈ wd_V8_bitLength, w ∈ wd_V6_keepNumber := fun _ h => List.mem_cons_of_mem _ (List.mem_append_right _ (List.mem_append_right _ (List.mem_append_right _ (List.mem_append_left _ h))))
  have bk3 : ∀ w ∈ wd_V8_isOne, w ∈ wd_V6_keepNumber := fun _ h => List.mem_cons_of_mem _ (List.mem_append_right _ (List.mem_append_right _ (List.mem_append_right _ (List.mem_append_right _ (List.mem_append_left _ h)))))
  have bk4 : ∀ w ∈ wd_V6_lay, w ∈ wd_V6_keepNumber := fun _ h => List.mem_cons_of_mem _ (List.mem_append_right _ (List.mem_append_right _ (List.mem_append_right _ (List.mem_append_right _ (List.mem_append_right _ (List.mem_append_left _ h))))))
  have bk5 : ∀ w ∈ u_ws RX3 TX3 7, w ∈ wd_V6_keepNumber := fun _ h => List.mem_cons_of_mem _ (List.mem_append_right _ (List.mem_append_right _ (List.mem_append_right _ (List.mem_append_right _ (List.mem_append_right _ (List.mem_append_right _ (List.mem_append_left _ h)))))))
  have bk6 : ∀ w ∈ wd_V8_become, w ∈ wd_V6_keepNumber := fun _ h => List.mem_cons_of_mem _ (List.mem_append_right _ (List.mem_append_right _ (List.mem_append_right _ (List.mem_append_right _ (List.mem_append_right _ (List.mem_append_right _ (List.mem_append_right _ (List.mem_append_left _ h))))))))
  have bk7 : ∀ w ∈ wd_V8_equalTo, w ∈ wd_V6_keepNumber := fun _ h => List.mem_cons_of_mem _ (List.mem_append_right _ (List.mem_append_right _ (List.mem_append_right _ (List.mem_append_right _ (List.mem_append_right _ (List.mem_append_right _ (List.mem_append_right _ (List.mem_append_right _ (List.mem_append_left _ h)))))))))
  have bk8 : ∀ w ∈ wd_X8_equalTo, w ∈ wd_V6_keepNumber := fun _ h => List.mem_cons_of_mem _ (List.mem_append_right _ (List.mem_append_right _ (List.mem_append_right _ (List.mem_append_right _ (List.mem_append_right _ (List.mem_append_right _ (List.mem_append_right _ (List.mem_append_right _ (List.mem_append_right _ (List.mem_append_left _ h))))))))))
  have hl := lv_entry ([.ref (ad 2080)]) (n := 6) (Nat.le_of_ble_eq_true rfl)
  rw [lg_entry_eq]
  generalize (lg_sl ([.ref (ad 2080)]) ++ List.replicate (6 - (lg_sl ([.ref (ad 2080)])).length) Slot.unset).toArray = ls at hl ⊢
  have hl : lv_has ls 6 [(0, .ref (ad 2080))] := hl
  have hC0 := hC
  obtain ⟨hLn, hW, ⟨hAr, hWk, hPa, hFr⟩, hO, pt, hPt, hM⟩ := hC0
  unfold CSO at hO
  have hpb := hPt.2
  have f4 := bl_fit w4 (by decide)
  have f5 := bl_fit w5 (by decide)
  rw [Int.natAbs_natCast] at f5
  refine lv_aload_n hx hb dX6_keepNumber_0 rfl (lv_at hl 0 rfl) ?_
  refine m_get (D := (dC, dI)) (v := .ref (ad 2107)) (C := RX6) (T := TX6) (N := 7) hx hb hts bk0 hown hK hP 2080 (by decide) hO rfl 5 (by decide) (hts (.fieldLink RX6 30 "GradientDesk$Shelf" "work" "LGradientDesk$Fraction;") (List.mem_of_getElem? (i := 1) rfl)) (fun _ h9 => h9) rfl dX6_keepNumber_1 ?_
  refine m_get (D := (dC, dI)) (v := .ref (ad (2 * 4))) (C := RX2) (T := TX2) (N := 2) hx hb hts bk1 hown hK hP 2107 (by decide) hWk rfl 0 (by decide) (hts (.fieldLink RX6 112 "GradientDesk$Fraction" "top" "LGradientDesk$Whole;") (List.mem_of_getElem? (i := 2) rfl)) (fun _ h9 => h9) rfl dX6_keepNumber_4 ?_
  obtain ⟨mw_1, sw_1, nw_1, fw_1, aw_1, bw_1, cw_1, dw_1, ew_1⟩ := hW 4 (by omega)
  have qw_1 : mw_1 ≤ 4096 := by rw [dw_1]; exact rmc_le _
  refine va_calli (va_runV (As := []) (rest := []) ⟨hx, hb, hml, hown, hts⟩ (c_V8_bitLength l dC dI A ad cA g 4 p9 hW (by decide) w4) (cwV 0 hts (goodIn_app (goodIn_r [Cond.methodLink RX6 125 yX8_bitLength, Cond.instanceMethod yX8_bitLength, Cond.selects RX8 yX8_bitLength yX8_bitLength, Cond.initialized RX8] [3, 4, 5, 6] rfl rfl) (goodIn_sub (fun w9 h9 => bk2 w9 h9) gw_V8_bitLength)) rfl rfl rfl (by decide +kernel) ⟨Nat.le_of_ble_eq_true rfl, Nat.le_of_ble_eq_true rfl⟩) ⟨fun a U g mk q => ⟨q.1, q.2.1, q.2.2.1, LY.moved (u := U) (U := U.calling g mk a) (Vm.Alike.refl U.vm) q.2.2.2⟩, va_recv hK hP (ci := 11) (q0 := (2 * 4)) rfl (wo_at (ns_w (by omega)) aw_1), fun U hU hW => ⟨rfl, by rw [hU]; exact fun q h => hA q (Nat.le_trans hS.1 h), by rw [hU]; exact hP, LY.moved hW.alike hL⟩⟩ rfl rfl hl.1 rfl (lv_room (Nat.le_of_ble_eq_true rfl)) dX6_keepNumber_7 ⟨(Nat.le_of_ble_eq_true rfl), (Nat.le_of_ble_eq_true rfl)⟩) hS (fun q _ h => h) (fun q h => h) (fun r_2 u8 t8 H1 locs ht8 hvm8 hw_3 hB hz1 hk1 hS => ?_)
  obtain ⟨⟩ := u8
  try dsimp only at hw_3 hB
  rw [ht8] at hB
  have hP := hB
  generalize H1 = H at hP hS ⊢
  obtain rfl := hw_3
  obtain ⟨bp, hbp⟩ : ∃ z, z = bl p9.natAbs := ⟨_, rfl⟩
  rw [← hbp]
  rw [← hbp] at f4
  refine lv_iconst (v := nI 1) hx hb dX6_keepNumber_10 (by decide +kernel) ?_
  refine va_mmax hx hb (by rw [hml]; exact hl.1.symm) hown (hts (.methodLink RX6 85 Lib.Math.max.name) (List.mem_of_getElem? (i := 7) rfl)) (hts (.static Lib.Math.max.name) (List.mem_of_getElem? (i := 8) rfl)) (hts (.initialized "java/lang/Math") (List.mem_of_getElem? (i := 9) rfl)) (hts (.code Lib.Math.max.name Lib.Math.max.code 2 (some .int)) (List.mem_of_getElem? (i := 10) rfl)) (Nat.le_of_ble_eq_true rfl) (Nat.le_of_ble_eq_true rfl) (Nat.le_of_ble_eq_true rfl) (Nat.le_of_ble_eq_true rfl) dX6_keepNumber_11 ?_
  refine lv_topi (fun x_5 e_6 => ?_)
  obtain ⟨q_4, hq_4, eq_4⟩ : ∃ z : Nat, z = max bp 1 ∧ x_5 = nI z := ⟨_, rfl, by rw [e_6]; exact k_max (by omega) (by omega)⟩
  subst eq_4
  obtain ⟨sn, hsn⟩ : ∃ z : Nat, z = q_4 := ⟨_, rfl⟩
  refine lv_topi (fun x_7 e_8 => ?_)
  obtain rfl : x_7 = nI sn := e_8.trans (congrArg nI hsn.symm)
  have hs4 : ((sn : Nat) : Int) = (((if bl p9.natAbs = 0 then 1 else bl p9.natAbs : Nat)) : Int) := by rw [hsn, ← hbp]; exact kn_sn hq_4
  have hs4b : bp ≤ sn := by omega
  refine lv_istore_n (lv' := [(1, .int (nI sn)), (0, .ref (ad 2080))]) hx hb dX6_keepNumber_14 rfl hl (by decide) rfl (fun ls hl => ?_)
  refine lv_aload_n hx hb dX6_keepNumber_15 rfl (lv_at hl 1 rfl) ?_
  refine m_get (D := (dC, dI)) (v := .ref (ad 2107)) (C := RX6) (T := TX6) (N := 7) hx hb hts bk0 hown hK hP 2080 (by decide) hO rfl 5 (by decide) (hts (.fieldLink RX6 30 "GradientDesk$Shelf" "work" "LGradientDesk$Fraction;") (List.mem_of_getElem? (i := 1) rfl)) (fun _ h9 => h9) rfl dX6_keepNumber_16 ?_
  refine m_get (D := (dC, dI)) (v := .ref (ad (2 * 5))) (C := RX2) (T := TX2) (N := 2) hx hb hts bk1 hown hK hP 2107 (by decide) hWk rfl 1 (by decide) (hts (.fieldLink RX6 122 "GradientDesk$Fraction" "bottom" "LGradientDesk$Whole;") (List.mem_of_getElem? (i := 11) rfl)) (fun _ h9 => h9) rfl dX6_keepNumber_19 ?_
  obtain ⟨mw_9, sw_9, nw_9, fw_9, aw_9, bw_9, cw_9, dw_9, ew_9⟩ := hW 5 (by omega)
  have qw_9 : mw_9 ≤ 4096 := by rw [dw_9]; exact rmc_le _
  refine va_calli (va_runV (As := []) (rest := []) ⟨hx, hb, hml, hown, hts⟩ (c_V8_isOne l dC dI A ad cA g 5 ((q9 : Nat) : Int) hW (by decide) w5) (cwV 0 hts (goodIn_app (goodIn_r [Cond.methodLink RX6 134 yX8_isOne, Cond.instanceMethod yX8_isOne, Cond.selects RX8 yX8_isOne yX8_isOne, Cond.initialized RX8] [12, 13, 14, 6] rfl rfl) (goodIn_sub (fun w9 h9 => bk3 w9 h9) gw_V8_isOne)) rfl rfl rfl (by decide +kernel) ⟨Nat.le_of_ble_eq_true rfl, Nat.le_of_ble_eq_true rfl⟩) ⟨fun a U g mk q => ⟨q.1, q.2.1, q.2.2.1, LY.moved (u := U) (U := U.calling g mk a) (Vm.Alike.refl U.vm) q.2.2.2⟩, va_recv hK hP (ci := 11) (q0 := (2 * 5)) rfl (wo_at (ns_w (by omega)) aw_9), fun U hU hW => ⟨rfl, by rw [hU]; exact fun q h => hA q (Nat.le_trans hS.1 h), by rw [hU]; exact hP, LY.moved hW.alike hL⟩⟩ rfl rfl hl.1 rfl (lv_room (Nat.le_of_ble_eq_true rfl)) dX6_keepNumber_22 ⟨(Nat.le_of_ble_eq_true rfl), (Nat.le_of_ble_eq_true rfl)⟩) hS (fun q _ h => h) (fun q h => h) (fun r_10 u8 t8 H1 locs ht8 hvm8 hw_11 hB hz1 hk1 hS => ?_)
  obtain ⟨⟩ := u8
  try dsimp only at hw_11 hB
  rw [ht8] at hB
  have hP := hB
  generalize H1 = H at hP hS ⊢
  rcases hw_11 with ⟨rfl, hq1⟩ | ⟨rfl, hq1⟩
  · skip
    refine lv_if_eq (tgt := 32) hx hb dX6_keepNumber_25 (by decide) (fun c_12 => absurd c_12 (by decide)) (fun c_12 => ?_)
    refine lv_iconst (v := nI 0) hx hb dX6_keepNumber_28 (by decide +kernel) ?_
    refine lv_goto (tgt := 42) hx hb dX6_keepNumber_29 (by decide) ?_
    have hb1 := bl_is1 hq0
    obtain ⟨sd, hsd⟩ : ∃ z : Nat, z = 0 := ⟨_, rfl⟩
    refine lv_topi (fun x_13 e_14 => ?_)
    obtain rfl : x_13 = nI sd := e_14.trans (congrArg nI hsd.symm)
    have hs5 : (if bl q9 = 1 then 0 else bl q9) = sd := by rw [if_pos (hb1.mpr (by omega))]; omega
    have hs5b : bl q9 ≤ sd + 1 := by have h9 := hb1.mpr (by omega); omega
    obtain ⟨dn, hdn⟩ : ∃ z : PD, z = (0, -1, -1, 0, if bl p9.natAbs = 0 then 1 else bl p9.natAbs, if bl q9 = 1 then 0 else bl q9, p9, q9) := ⟨_, rfl⟩
    have hnl : numL L p9 q9 = keepL L dn := by rw [hdn]; rfl
    have e0 : dn.1 = 0 := by rw [hdn]
    have e1 : dn.2.1 = -1 := by rw [hdn]
    have e2 : dn.2.2.1 = -1 := by rw [hdn]
    have e3 : dn.2.2.2.1 = 0 := by rw [hdn]
    have e4 : dn.2.2.2.2.1 = sn := by rw [hdn]; show (if bl p9.natAbs = 0 then 1 else bl p9.natAbs) = sn; omega
    have e5 : dn.2.2.2.2.2.1 = sd := by rw [hdn]; exact hs5
    have e6 : dn.2.2.2.2.2.2.1 = p9 := by rw [hdn]
    have e7 : dn.2.2.2.2.2.2.2 = q9 := by rw [hdn]
    refine lv_istore_n (lv' := [(2, .int (nI sd)), (1, .int (nI sn)), (0, .ref (ad 2080))]) hx hb dX6_keepNumber_42 rfl hl (by decide) rfl (fun ls hl => ?_)
    refine lv_iload_n hx hb dX6_keepNumber_43 rfl (lv_at hl 1 rfl) ?_
    refine lv_sipush (v := nI 400) hx hb dX6_keepNumber_44 (by decide +kernel) ?_
    refine lv_icmp_gt (tgt := 57) hx hb dX6_keepNumber_47 (by decide) (fun c_15 => ?_) (fun c_15 => ?_)
    · have c_15 := (nI_ltI (a := 400) (b := sn) (by decide) (by omega)).mp c_15
      refine lv_bipush (v := -3) hx hb dX6_keepNumber_57 (by decide +kernel) ?_
      refine W.widen (k := 0) (n := 0) (by omega) (by omega) ?_
      exact W.iret (v := -3) hx hb hr (fun t9 ht9 hW9 => ⟨⟨-3, g, rfl, ⟨(fun (k : Nat) (hk : (14 ≤ k ∧ k < 76) ∨ (876 ≤ k ∧ k < 2080) ∨ (2081 ≤ k ∧ k < 2117)) => rfl), by rw [hnl]; exact CMK.bad (n := -3) (by decide) (keepL_big (by omega)) (Or.inl rfl) hC⟩, by show va_P (dC, dI) vwCl _ t9.heap; rw [ht9]; exact hP⟩, hS.F ht9⟩) hS.2.2 dX6_keepNumber_59
    · have c_15 := mt (nI_ltI (a := 400) (b := sn) (by decide) (by omega)).mpr c_15
      refine lv_iload_n hx hb dX6_keepNumber_50 rfl (lv_at hl 0 rfl) ?_
      refine lv_sipush (v := nI 400) hx hb dX6_keepNumber_51 (by decide +kernel) ?_
      refine lv_icmp_le (tgt := 60) hx hb dX6_keepNumber_54 (by decide) (fun c_16 => ?_) (fun c_16 => ?_)
      · have c_16 := (nI_leI (a := sd) (b := 400) (by omega) (by decide)).mp c_16
        refine lv_iconst (v := nI 0) hx hb dX6_keepNumber_60 (by decide +kernel) ?_
        refine lv_istore_n (lv' := [(3, .int (nI 0)), (2, .int (nI sd)), (1, .int (nI sn)), (0, .ref (ad 2080))]) hx hb dX6_keepNumber_61 rfl hl (by decide) rfl (fun ls hl => ?_)
        have loop_17 : ∀ (k9 : Nat) (i : Nat), 300 - i < k9 → (i ≤ L.length) → (∀ j, j < i → pky (gd L j) dn = false) → ∀ (H : Heap) (locs : List Loc) (ls : Array Slot), va_P (dC, dI) vwCl (wo ad NSc g) H → va_S A s.heap H locs → lv_has ls 6 [(0, .ref (ad 2080)), (1, .int (nI sn)), (2, .int (nI sd)), (3, .int (nI i))] → W p l e (headSpec wd_V6_keepNumber ({ frames := 30, cells := 0, slots := 0, locals := 600 })).room s m ([.ref (ad 2080)] : List Value).toArray below meth c H locs (0) (0) (MQ below (va_Qi (fun (r : Int32) => fun (u : Nat → va_E) => match u with | g2 => (∀ k, (14 ≤ k ∧ k < 76) ∨ (876 ≤ k ∧ k < 2080) ∨ (2081 ≤ k ∧ k < 2117) → g2 k = g k) ∧ CMK ad cA g2 (numL L p9 q9) r) (fun (u : Nat → va_E) (t : State) => va_P (dC, dI) vwCl (wo ad NSc u) t.heap) A) ([.ref (ad 2080)] : List Value).toArray s (0) (0) A) (F0 m 62 ls []) := by
          intro k9
          induction k9 with
          | zero => intro i h9; exact absurd h9 (Nat.not_lt_zero _)
          | succ k9 ih_18 =>
            intro i h9 hi hno H locs ls hP hS hl
            refine lv_iload_n hx hb dX6_keepNumber_62 rfl (lv_at hl 3 rfl) ?_
            refine lv_aload_n hx hb dX6_keepNumber_63 rfl (lv_at hl 0 rfl) ?_
            refine m_get (D := (dC, dI)) (v := .int (nI L.length)) (C := RX6) (T := TX6) (N := 7) hx hb hts bk0 hown hK hP 2080 (by decide) hO rfl 2 (by decide) (hts (.fieldLink RX6 135 "GradientDesk$Shelf" "count" "I") (List.mem_of_getElem? (i := 15) rfl)) (fun _ h9 => h9) rfl dX6_keepNumber_64 ?_
            refine lv_icmp_ge (tgt := 149) hx hb dX6_keepNumber_67 (by decide) (fun c_21 => ?_) (fun c_21 => ?_)
            · have c_21 := (nI_leI (a := L.length) (b := i) (by omega) (by omega)).mp c_21
              refine lv_aload_n hx hb dX6_keepNumber_149 rfl (lv_at hl 0 rfl) ?_
              refine lv_iconst (v := nI 0) hx hb dX6_keepNumber_150 (by decide +kernel) ?_
              refine lv_iconst (v := -1) hx hb dX6_keepNumber_151 (by decide +kernel) ?_
              refine lv_iconst (v := -1) hx hb dX6_keepNumber_152 (by decide +kernel) ?_
              refine lv_iconst (v := nI 0) hx hb dX6_keepNumber_153 (by decide +kernel) ?_
              refine lv_iload_n hx hb dX6_keepNumber_154 rfl (lv_at hl 1 rfl) ?_
              refine lv_iload_n hx hb dX6_keepNumber_155 rfl (lv_at hl 2 rfl) ?_
              refine va_calli (va_runV (As := [.int (nI 0), .int (-1), .int (-1), .int (nI 0), .int (nI sn), .int (nI sd)]) (rest := []) ⟨hx, hb, hml, hown, hts⟩ (c_V6_lay l dC dI A ad cA g L (nI 0) (-1) (-1) (nI 0) (nI sn) (nI sd) hC) (cwV 6 hts (goodIn_app (goodIn_r [Cond.methodLink RX6 142 yX6_lay, Cond.instanceMethod yX6_lay, Cond.selects RX6 yX6_lay yX6_lay, Cond.initialized RX6] [16, 17, 18, 19] rfl rfl) (goodIn_sub (fun w9 h9 => bk4 w9 h9) gw_V6_lay)) rfl rfl rfl (by decide +kernel) ⟨Nat.le_of_ble_eq_true rfl, Nat.le_of_ble_eq_true rfl⟩) ⟨fun a U g mk q => ⟨q.1, q.2.1, q.2.2.1, LY.moved (u := U) (U := U.calling g mk a) (Vm.Alike.refl U.vm) q.2.2.2⟩, va_recv hK hP (ci := 9) (q0 := 2080) rfl (wo_at (by decide) hO), fun U hU hW => ⟨rfl, by rw [hU]; exact fun q h => hA q (Nat.le_trans hS.1 h), by rw [hU]; exact hP, LY.moved hW.alike hL⟩⟩ rfl rfl hl.1 rfl (lv_room (Nat.le_of_ble_eq_true rfl)) dX6_keepNumber_156 ⟨(Nat.le_of_ble_eq_true rfl), (Nat.le_of_ble_eq_true rfl)⟩) hS (fun q _ h => h) (fun q h => h) (fun r_22 u8 t8 H1 locs ht8 hvm8 hw_23 hB hz1 hk1 hS => ?_)
              obtain ⟨g_24, rfl⟩ : ∃ z, z = u8 := ⟨_, rfl⟩
              try dsimp only at hw_23 hB
              rw [ht8] at hB
              have hP := hB
              generalize H1 = H at hP hS ⊢
              obtain ⟨fr_25, hly⟩ := hw_23
              rcases hly with ⟨hl9, rfl, hg9⟩ | ⟨hl9, rfl, hO9, hc9⟩
              · skip
                refine lv_istore_n (lv' := [(3, .int (iI (-4))), (0, .ref (ad 2080)), (1, .int (nI sn)), (2, .int (nI sd))]) hx hb dX6_keepNumber_159 rfl hl (by decide) rfl (fun ls hl => ?_)
                refine lv_iload_n hx hb dX6_keepNumber_160 rfl (lv_at hl 0 rfl) ?_
                refine lv_if_lt (tgt := 208) hx hb dX6_keepNumber_161 (by decide) (fun c_26 => ?_) (fun c_26 => absurd (mt (k_iLT (a := -4) (b := 0) rfl (show nI 0 = iI 0 from by decide) (by omega) (by omega)).mpr c_26) (by omega))
                refine lv_iload_n hx hb dX6_keepNumber_208 rfl (lv_at hl 0 rfl) ?_
                refine W.widen (k := 0) (n := 0) (by omega) (by omega) ?_
                exact W.iret (v := iI (-4)) hx hb hr (fun t9 ht9 hW9 => ⟨⟨iI (-4), g_24, rfl, ⟨(fun (k : Nat) (hk : (14 ≤ k ∧ k < 76) ∨ (876 ≤ k ∧ k < 2080) ∨ (2081 ≤ k ∧ k < 2117)) => (fr_25 k (by omega)).trans (rfl)), by rw [hnl, hg9]; exact CMK.bad rfl (keepL_full (by omega) hl9 (fun j hj => hno j (by omega))) (Or.inr rfl) hC⟩, by show va_P (dC, dI) vwCl _ t9.heap; rw [ht9]; exact hP⟩, hS.F ht9⟩) hS.2.2 dX6_keepNumber_209
              · skip
                have hO8 := hO9
                unfold CSO at hO8
                refine lv_istore_n (lv' := [(3, .int (nI L.length)), (0, .ref (ad 2080)), (1, .int (nI sn)), (2, .int (nI sd))]) hx hb dX6_keepNumber_159 rfl hl (by decide) rfl (fun ls hl => ?_)
                refine lv_iload_n hx hb dX6_keepNumber_160 rfl (lv_at hl 0 rfl) ?_
                refine lv_if_lt (tgt := 208) hx hb dX6_keepNumber_161 (by decide) (fun c_27 => absurd ((nI_ltI (a := L.length) (b := 0) (by omega) (by decide)).mp c_27) (by omega)) (fun c_27 => ?_)
                refine lv_aload_n hx hb dX6_keepNumber_164 rfl (lv_at hl 1 rfl) ?_
                refine m_get (D := (dC, dI)) (v := .ref (ad 2081)) (C := RX6) (T := TX6) (N := 7) hx hb hts bk0 hown hK hP 2080 (by decide) hO8 rfl 0 (by decide) (hts (.fieldLink RX6 11 "GradientDesk$Shelf" "parts" "[LGradientDesk$Part;") (List.mem_of_getElem? (i := 20) rfl)) (fun _ h9 => h9) rfl dX6_keepNumber_165 ?_
                refine lv_iload_n hx hb dX6_keepNumber_168 rfl (lv_at hl 0 rfl) ?_
                have f_28 : g_24 2081 = .inl (cA 2081, 200, .inr (.inr (.inr (.inr (fun j => some (ad (2117 + 2 * j))))))) := (fr_25 2081 (by omega)).trans hPa
                refine m_aald hx hb hK hP 2081 (by decide) rfl f_28 (i := L.length) (v := ad (2117 + 2 * L.length)) (by omega) (by decide) rfl dX6_keepNumber_169 ?_
                refine m_get (D := (dC, dI)) (v := .ref (ad (2118 + 2 * L.length))) (C := RX3) (T := TX3) (N := 7) hx hb hts bk5 hown hK hP (2117 + 2 * L.length) (ns_p (by omega)) hc9 rfl 0 (by decide) (hts (.fieldLink RX6 68 "GradientDesk$Part" "number" "LGradientDesk$Fraction;") (List.mem_of_getElem? (i := 21) rfl)) (fun _ h9 => h9) rfl dX6_keepNumber_170 ?_
                have hq_29 := hFr L.length (by omega)
                have f_30 : g_24 (2118 + 2 * L.length) = .inr (5, [.ref (ad (2 * (38 + 2 * L.length))), .ref (ad (2 * (39 + 2 * L.length)))]) := (fr_25 (2118 + 2 * L.length) (by omega)).trans hq_29
                refine m_get (D := (dC, dI)) (v := .ref (ad (2 * (38 + 2 * L.length)))) (C := RX2) (T := TX2) (N := 2) hx hb hts bk1 hown hK hP (2118 + 2 * L.length) (ns_q (by omega)) f_30 rfl 0 (by decide) (hts (.fieldLink RX6 112 "GradientDesk$Fraction" "top" "LGradientDesk$Whole;") (List.mem_of_getElem? (i := 2) rfl)) (fun _ h9 => h9) rfl dX6_keepNumber_173 ?_
                refine lv_aload_n hx hb dX6_keepNumber_176 rfl (lv_at hl 1 rfl) ?_
                refine m_get (D := (dC, dI)) (v := .ref (ad 2107)) (C := RX6) (T := TX6) (N := 7) hx hb hts bk0 hown hK hP 2080 (by decide) hO8 rfl 5 (by decide) (hts (.fieldLink RX6 30 "GradientDesk$Shelf" "work" "LGradientDesk$Fraction;") (List.mem_of_getElem? (i := 1) rfl)) (fun _ h9 => h9) rfl dX6_keepNumber_177 ?_
                have f_31 : g_24 2107 = .inr (5, [.ref (ad (2 * 4)), .ref (ad (2 * 5))]) := (fr_25 2107 (by omega)).trans hWk
                refine m_get (D := (dC, dI)) (v := .ref (ad (2 * 4))) (C := RX2) (T := TX2) (N := 2) hx hb hts bk1 hown hK hP 2107 (by decide) f_31 rfl 0 (by decide) (hts (.fieldLink RX6 112 "GradientDesk$Fraction" "top" "LGradientDesk$Whole;") (List.mem_of_getElem? (i := 2) rfl)) (fun _ h9 => h9) rfl dX6_keepNumber_180 ?_
                have hAW_33 : AW ad cA g_24 := AW.keep hW (fun (k : Nat) (hk : k < 2076) => (fr_25 k (by omega)).trans (rfl))
                obtain ⟨mw_32, sw_32, nw_32, fw_32, aw_32, bw_32, cw_32, dw_32, ew_32⟩ := hAW_33 (38 + 2 * L.length) (by omega)
                have qw_32 : mw_32 ≤ 4096 := by rw [dw_32]; exact rmc_le _
                have hv_34 : WV ad cA g_24 4 p9 := WV.same w4 ((fun (k : Nat) (hk : k = 2 * 4 ∨ k = 2 * 4 + 1) => (fr_25 k (by omega)).trans (rfl)) _ (Or.inl rfl)) ((fun (k : Nat) (hk : k = 2 * 4 ∨ k = 2 * 4 + 1) => (fr_25 k (by omega)).trans (rfl)) _ (Or.inr rfl))
                refine va_callv (va_runV (As := [.ref (ad (2 * 4))]) (rest := []) ⟨hx, hb, hml, hown, hts⟩ (c_V8_become l dC dI A ad cA g_24 (38 + 2 * L.length) 4 p9 hAW_33 (by omega) (by decide) hv_34 (by omega) (by rw [rmc_part (by omega) (by omega)]; exact fit13 (by omega))) (cwV 1 hts (goodIn_app (goodIn_r [Cond.methodLink RX6 118 yX8_become, Cond.instanceMethod yX8_become, Cond.selects RX8 yX8_become yX8_become, Cond.initialized RX8] [22, 23, 24, 6] rfl rfl) (goodIn_sub (fun w9 h9 => bk6 w9 h9) gw_V8_become)) rfl rfl rfl (by decide +kernel) ⟨Nat.le_of_ble_eq_true rfl, Nat.le_of_ble_eq_true rfl⟩) ⟨fun a U g mk q => ⟨q.1, q.2.1, q.2.2.1, LY.moved (u := U) (U := U.calling g mk a) (Vm.Alike.refl U.vm) q.2.2.2⟩, va_recv hK hP (ci := 11) (q0 := (2 * (38 + 2 * L.length))) rfl (wo_at (ns_w (by omega)) aw_32), fun U hU hW => ⟨rfl, by rw [hU]; exact fun q h => hA q (Nat.le_trans hS.1 h), by rw [hU]; exact hP, LY.moved hW.alike hL⟩⟩ rfl rfl hl.1 rfl (lv_room (Nat.le_of_ble_eq_true rfl)) dX6_keepNumber_183 ⟨(Nat.le_of_ble_eq_true rfl), (Nat.le_of_ble_eq_true rfl)⟩) hS (fun q _ h => h) (fun q h => h) (fun u8 t8 H1 locs ht8 hvm8 hw_37 hB hz1 hk1 hS => ?_)
                obtain ⟨g_38, rfl⟩ : ∃ z, z = u8 := ⟨_, rfl⟩
                try dsimp only at hw_37 hB
                rw [ht8] at hB
                have hP := hB
                generalize H1 = H at hP hS ⊢
                obtain ⟨fr_39, hAW_35, hv_36⟩ := hw_37
                refine lv_aload_n hx hb dX6_keepNumber_186 rfl (lv_at hl 1 rfl) ?_
                have f_40 : g_38 2080 = .inr (9, [.ref (ad 2081), .ref (ad 2082), .int (nI (L.length + 1)), .ref (ad 2083), .ref (ad 2077), .ref (ad 2107), .ref (ad (2 * 6))]) := (fr_39 2080 (by omega)).trans hO8
                refine m_get (D := (dC, dI)) (v := .ref (ad 2081)) (C := RX6) (T := TX6) (N := 7) hx hb hts bk0 hown hK hP 2080 (by decide) f_40 rfl 0 (by decide) (hts (.fieldLink RX6 11 "GradientDesk$Shelf" "parts" "[LGradientDesk$Part;") (List.mem_of_getElem? (i := 20) rfl)) (fun _ h9 => h9) rfl dX6_keepNumber_187 ?_
                refine lv_iload_n hx hb dX6_keepNumber_190 rfl (lv_at hl 0 rfl) ?_
                have f_41 : g_38 2081 = .inl (cA 2081, 200, .inr (.inr (.inr (.inr (fun j => some (ad (2117 + 2 * j))))))) := (fr_39 2081 (by omega)).trans f_28
                refine m_aald hx hb hK hP 2081 (by decide) rfl f_41 (i := L.length) (v := ad (2117 + 2 * L.length)) (by omega) (by decide) rfl dX6_keepNumber_191 ?_
                have f_42 : g_38 (2117 + 2 * L.length) = .inr (6, [.ref (ad (2118 + 2 * L.length)), .int (nI 0), .int (-1), .int (-1), .int (nI 0), .int (nI sn), .int (nI sd)]) := (fr_39 (2117 + 2 * L.length) (by omega)).trans hc9
                refine m_get (D := (dC, dI)) (v := .ref (ad (2118 + 2 * L.length))) (C := RX3) (T := TX3) (N := 7) hx hb hts bk5 hown hK hP (2117 + 2 * L.length) (ns_p (by omega)) f_42 rfl 0 (by decide) (hts (.fieldLink RX6 68 "GradientDesk$Part" "number" "LGradientDesk$Fraction;") (List.mem_of_getElem? (i := 21) rfl)) (fun _ h9 => h9) rfl dX6_keepNumber_192 ?_
                have f_43 : g_38 (2118 + 2 * L.length) = .inr (5, [.ref (ad (2 * (38 + 2 * L.length))), .ref (ad (2 * (39 + 2 * L.length)))]) := (fr_39 (2118 + 2 * L.length) (by omega)).trans f_30
                refine m_get (D := (dC, dI)) (v := .ref (ad (2 * (39 + 2 * L.length)))) (C := RX2) (T := TX2) (N := 2) hx hb hts bk1 hown hK hP (2118 + 2 * L.length) (ns_q (by omega)) f_43 rfl 1 (by decide) (hts (.fieldLink RX6 122 "GradientDesk$Fraction" "bottom" "LGradientDesk$Whole;") (List.mem_of_getElem? (i := 11) rfl)) (fun _ h9 => h9) rfl dX6_keepNumber_195 ?_
                refine lv_aload_n hx hb dX6_keepNumber_198 rfl (lv_at hl 1 rfl) ?_
                refine m_get (D := (dC, dI)) (v := .ref (ad 2107)) (C := RX6) (T := TX6) (N := 7) hx hb hts bk0 hown hK hP 2080 (by decide) f_40 rfl 5 (by decide) (hts (.fieldLink RX6 30 "GradientDesk$Shelf" "work" "LGradientDesk$Fraction;") (List.mem_of_getElem? (i := 1) rfl)) (fun _ h9 => h9) rfl dX6_keepNumber_199 ?_
                have f_44 : g_38 2107 = .inr (5, [.ref (ad (2 * 4)), .ref (ad (2 * 5))]) := (fr_39 2107 (by omega)).trans f_31
                refine m_get (D := (dC, dI)) (v := .ref (ad (2 * 5))) (C := RX2) (T := TX2) (N := 2) hx hb hts bk1 hown hK hP 2107 (by decide) f_44 rfl 1 (by decide) (hts (.fieldLink RX6 122 "GradientDesk$Fraction" "bottom" "LGradientDesk$Whole;") (List.mem_of_getElem? (i := 11) rfl)) (fun _ h9 => h9) rfl dX6_keepNumber_202 ?_
                obtain ⟨mw_45, sw_45, nw_45, fw_45, aw_45, bw_45, cw_45, dw_45, ew_45⟩ := hAW_35 (39 + 2 * L.length) (by omega)
                have qw_45 : mw_45 ≤ 4096 := by rw [dw_45]; exact rmc_le _
                have hv_46 : WV ad cA g_38 5 ((q9 : Nat) : Int) := WV.same w5 ((fun (k : Nat) (hk : k = 2 * 5 ∨ k = 2 * 5 + 1) => (fr_39 k (by omega)).trans ((fr_25 k (by omega)).trans (rfl))) _ (Or.inl rfl)) ((fun (k : Nat) (hk : k = 2 * 5 ∨ k = 2 * 5 + 1) => (fr_39 k (by omega)).trans ((fr_25 k (by omega)).trans (rfl))) _ (Or.inr rfl))
                refine va_callv (va_runV (As := [.ref (ad (2 * 5))]) (rest := []) ⟨hx, hb, hml, hown, hts⟩ (c_V8_become l dC dI A ad cA g_38 (39 + 2 * L.length) 5 ((q9 : Nat) : Int) hAW_35 (by omega) (by decide) hv_46 (by omega) (by rw [rmc_part (by omega) (by omega), Int.natAbs_natCast]; exact fit13 (by omega))) (cwV 1 hts (goodIn_app (goodIn_r [Cond.methodLink RX6 118 yX8_become, Cond.instanceMethod yX8_become, Cond.selects RX8 yX8_become yX8_become, Cond.initialized RX8] [22, 23, 24, 6] rfl rfl) (goodIn_sub (fun w9 h9 => bk6 w9 h9) gw_V8_become)) rfl rfl rfl (by decide +kernel) ⟨Nat.le_of_ble_eq_true rfl, Nat.le_of_ble_eq_true rfl⟩) ⟨fun a U g mk q => ⟨q.1, q.2.1, q.2.2.1, LY.moved (u := U) (U := U.calling g mk a) (Vm.Alike.refl U.vm) q.2.2.2⟩, va_recv hK hP (ci := 11) (q0 := (2 * (39 + 2 * L.length))) rfl (wo_at (ns_w (by omega)) aw_45), fun U hU hW => ⟨rfl, by rw [hU]; exact fun q h => hA q (Nat.le_trans hS.1 h), by rw [hU]; exact hP, LY.moved hW.alike hL⟩⟩ rfl rfl hl.1 rfl (lv_room (Nat.le_of_ble_eq_true rfl)) dX6_keepNumber_205 ⟨(Nat.le_of_ble_eq_true rfl), (Nat.le_of_ble_eq_true rfl)⟩) hS (fun q _ h => h) (fun q h => h) (fun u8 t8 H1 locs ht8 hvm8 hw_49 hB hz1 hk1 hS => ?_)
                obtain ⟨g_50, rfl⟩ : ∃ z, z = u8 := ⟨_, rfl⟩
                try dsimp only at hw_49 hB
                rw [ht8] at hB
                have hP := hB
                generalize H1 = H at hP hS ⊢
                obtain ⟨fr_51, hAW_47, hv_48⟩ := hw_49
                refine lv_iload_n hx hb dX6_keepNumber_208 rfl (lv_at hl 0 rfl) ?_
                have hv_52 : WV ad cA g_50 (38 + 2 * L.length) p9 := WV.same hv_36 ((fun (k : Nat) (hk : k = 2 * (38 + 2 * L.length) ∨ k = 2 * (38 + 2 * L.length) + 1) => (fr_51 k (by omega)).trans (rfl)) _ (Or.inl rfl)) ((fun (k : Nat) (hk : k = 2 * (38 + 2 * L.length) ∨ k = 2 * (38 + 2 * L.length) + 1) => (fr_51 k (by omega)).trans (rfl)) _ (Or.inr rfl))
                have f_53 : g_50 2080 = .inr (9, [.ref (ad 2081), .ref (ad 2082), .int (nI (L.length + 1)), .ref (ad 2083), .ref (ad 2077), .ref (ad 2107), .ref (ad (2 * 6))]) := (fr_51 2080 (by omega)).trans f_40
                have f_54 : g_50 (2117 + 2 * L.length) = .inr (6, [.ref (ad (2118 + 2 * L.length)), .int (nI 0), .int (-1), .int (-1), .int (nI 0), .int (nI sn), .int (nI sd)]) := (fr_51 (2117 + 2 * L.length) (by omega)).trans f_42
                have hcs : CS ad cA g_50 (L ++ [dn]) := CS.lay hC hl9 hAW_47 f_53 f_54 (by rw [e0]; exact nI_iI 0) (by rw [e1]; decide) (by rw [e2]; decide) (by rw [e3]; exact nI_iI 0) (by rw [e4]; exact nI_iI _) (by rw [e5]; exact nI_iI _) (by omega) (fun (k : Nat) (hk : (76 ≤ k ∧ k < 76 + 4 * L.length) ∨ k = 2077 ∨ k = 2107 ∨ k = 2081 ∨ (2117 ≤ k ∧ k < 2517 ∧ k ≠ 2117 + 2 * L.length)) => (fr_51 k (by omega)).trans ((fr_39 k (by omega)).trans ((fr_25 k (by omega)).trans (rfl)))) (fun _ => ⟨by rw [e6]; exact hv_52, by rw [e7]; exact hv_48, e1, e2⟩)
                refine W.widen (k := 0) (n := 0) (by omega) (by omega) ?_
                exact W.iret (v := nI L.length) hx hb hr (fun t9 ht9 hW9 => ⟨⟨nI L.length, g_50, rfl, ⟨(fun (k : Nat) (hk : (14 ≤ k ∧ k < 76) ∨ (876 ≤ k ∧ k < 2080) ∨ (2081 ≤ k ∧ k < 2117)) => (fr_51 k (by omega)).trans ((fr_39 k (by omega)).trans ((fr_25 k (by omega)).trans (rfl)))), by rw [hnl]; exact CMK.new (keepL_new (by omega) (by omega) (fun j hj => hno j (by omega))) hcs⟩, by show va_P (dC, dI) vwCl _ t9.heap; rw [ht9]; exact hP⟩, hS.F ht9⟩) hS.2.2 dX6_keepNumber_209
            · have c_21 := mt (nI_leI (a := L.length) (b := i) (by omega) (by omega)).mpr c_21
              have hp0 := hpb 0 i
              refine lv_aload_n hx hb dX6_keepNumber_70 rfl (lv_at hl 0 rfl) ?_
              refine m_get (D := (dC, dI)) (v := .ref (ad 2081)) (C := RX6) (T := TX6) (N := 7) hx hb hts bk0 hown hK hP 2080 (by decide) hO rfl 0 (by decide) (hts (.fieldLink RX6 11 "GradientDesk$Shelf" "parts" "[LGradientDesk$Part;") (List.mem_of_getElem? (i := 20) rfl)) (fun _ h9 => h9) rfl dX6_keepNumber_71 ?_
              refine lv_iload_n hx hb dX6_keepNumber_74 rfl (lv_at hl 3 rfl) ?_
              refine m_aald hx hb hK hP 2081 (by decide) rfl hPa (i := i) (v := ad (2117 + 2 * i)) (by omega) (by decide) rfl dX6_keepNumber_75 ?_
              have hp_55 := hPt.1 i (by omega)
              refine m_get (D := (dC, dI)) (v := .ref (ad (2118 + 2 * i))) (C := RX3) (T := TX3) (N := 7) hx hb hts bk5 hown hK hP (2117 + 2 * i) (ns_p (by omega)) hp_55 rfl 0 (by decide) (hts (.fieldLink RX6 68 "GradientDesk$Part" "number" "LGradientDesk$Fraction;") (List.mem_of_getElem? (i := 21) rfl)) (fun _ h9 => h9) rfl dX6_keepNumber_76 ?_
              refine lv_astore (lv' := [(4, .ref (ad (2118 + 2 * i))), (0, .ref (ad 2080)), (1, .int (nI sn)), (2, .int (nI sd)), (3, .int (nI i))]) hx hb dX6_keepNumber_79 hl (by decide) rfl (fun ls hl => ?_)
              refine lv_aload hx hb dX6_keepNumber_81 (lv_at hl 0 rfl) ?_
              have hq_56 := hFr i (by omega)
              refine m_get (D := (dC, dI)) (v := .ref (ad (2 * (38 + 2 * i)))) (C := RX2) (T := TX2) (N := 2) hx hb hts bk1 hown hK hP (2118 + 2 * i) (ns_q (by omega)) hq_56 rfl 0 (by decide) (hts (.fieldLink RX6 112 "GradientDesk$Fraction" "top" "LGradientDesk$Whole;") (List.mem_of_getElem? (i := 2) rfl)) (fun _ h9 => h9) rfl dX6_keepNumber_83 ?_
              refine lv_aload_n hx hb dX6_keepNumber_86 rfl (lv_at hl 1 rfl) ?_
              refine m_get (D := (dC, dI)) (v := .ref (ad 2107)) (C := RX6) (T := TX6) (N := 7) hx hb hts bk0 hown hK hP 2080 (by decide) hO rfl 5 (by decide) (hts (.fieldLink RX6 30 "GradientDesk$Shelf" "work" "LGradientDesk$Fraction;") (List.mem_of_getElem? (i := 1) rfl)) (fun _ h9 => h9) rfl dX6_keepNumber_87 ?_
              refine m_get (D := (dC, dI)) (v := .ref (ad (2 * 4))) (C := RX2) (T := TX2) (N := 2) hx hb hts bk1 hown hK hP 2107 (by decide) hWk rfl 0 (by decide) (hts (.fieldLink RX6 112 "GradientDesk$Fraction" "top" "LGradientDesk$Whole;") (List.mem_of_getElem? (i := 2) rfl)) (fun _ h9 => h9) rfl dX6_keepNumber_90 ?_
              obtain ⟨m0, m1, m2, m3, m4, m5, m6⟩ := hM i (by omega)
              rcases Nat.eq_zero_or_pos (gd L i).1 with hnum | hnum
              · skip
                obtain ⟨n1, n2, n3, n4⟩ := m6 hnum
                clear m6
                obtain ⟨mw_57, sw_57, nw_57, fw_57, aw_57, bw_57, cw_57, dw_57, ew_57⟩ := hW (38 + 2 * i) (by omega)
                have qw_57 : mw_57 ≤ 4096 := by rw [dw_57]; exact rmc_le _
                refine va_calli (va_runV (As := [.ref (ad (2 * 4))]) (rest := []) ⟨hx, hb, hml, hown, hts⟩ (c_V8_equalTo l dC dI A ad cA g (38 + 2 * i) 4 ((gd L i).2.2.2.2.2.2.1) p9 hW (by omega) (by decide) n1 w4) (cwV 1 hts (goodIn_app (goodIn_r [Cond.methodLink RX6 138 yX8_equalTo, Cond.instanceMethod yX8_equalTo, Cond.selects RX8 yX8_equalTo yX8_equalTo, Cond.initialized RX8] [25, 26, 27, 6] rfl rfl) (goodIn_sub (fun w9 h9 => bk7 w9 h9) gw_V8_equalTo)) rfl rfl rfl (by decide +kernel) ⟨Nat.le_of_ble_eq_true rfl, Nat.le_of_ble_eq_true rfl⟩) ⟨fun a U g mk q => ⟨q.1, q.2.1, q.2.2.1, LY.moved (u := U) (U := U.calling g mk a) (Vm.Alike.refl U.vm) q.2.2.2⟩, va_recv hK hP (ci := 11) (q0 := (2 * (38 + 2 * i))) rfl (wo_at (ns_w (by omega)) aw_57), fun U hU hW => ⟨rfl, by rw [hU]; exact fun q h => hA q (Nat.le_trans hS.1 h), by rw [hU]; exact hP, LY.moved hW.alike hL⟩⟩ rfl rfl hl.1 rfl (lv_room (Nat.le_of_ble_eq_true rfl)) dX6_keepNumber_93 ⟨(Nat.le_of_ble_eq_true rfl), (Nat.le_of_ble_eq_true rfl)⟩) hS (fun q _ h => h) (fun q h => h) (fun r_58 u8 t8 H1 locs ht8 hvm8 hw_59 hB hz1 hk1 hS => ?_)
                obtain ⟨⟩ := u8
                try dsimp only at hw_59 hB
                rw [ht8] at hB
                have hP := hB
                generalize H1 = H at hP hS ⊢
                obtain ⟨b1, hb8, rfl, he1⟩ := eq01 hw_59
                refine lv_if_eq (tgt := 121) hx hb dX6_keepNumber_96 (by decide) (fun c_60 => ?_) (fun c_60 => ?_)
                · have c_60 := (nI_eq (a := b1) (b := 0) (by omega) (by decide)).mp c_60
                  refine lv_iconst (v := nI 0) hx hb dX6_keepNumber_121 (by decide +kernel) ?_
                  refine lv_istore (lv' := [(5, .int (nI 0)), (4, .ref (ad (2118 + 2 * i))), (0, .ref (ad 2080)), (1, .int (nI sn)), (2, .int (nI sd)), (3, .int (nI i))]) hx hb dX6_keepNumber_122 hl (by decide) rfl (fun ls hl => ?_)
                  refine lv_iload hx hb dX6_keepNumber_124 (lv_at hl 0 rfl) ?_
                  refine lv_if_eq (tgt := 143) hx hb dX6_keepNumber_126 (by decide) (fun c_61 => ?_) (fun c_61 => absurd c_61 (by decide))
                  refine lv_iinc (v := nI (i + 1)) (lv' := [(3, .int (nI (i + 1))), (5, .int (nI 0)), (4, .ref (ad (2118 + 2 * i))), (0, .ref (ad 2080)), (1, .int (nI sn)), (2, .int (nI sd))]) hx hb dX6_keepNumber_143 hl (k := 5) rfl (nI_add i 1) (by decide) rfl (fun ls hl => ?_)
                  refine lv_goto (tgt := 62) hx hb dX6_keepNumber_146 (by decide) ?_
                  exact ih_18 (i + 1) (by omega) (by omega) (fun j hj => by by_cases h9 : j = i; subst h9; exact (k_nky m0 m1 m2 rfl rfl rfl (fun _ _ _ => ⟨hnum, fun hp9 hq9 => by have x1 := he1.mpr (hp9.trans e6); omega⟩)); exact hno j (by omega)) _ _ _ hP hS (lv_sub (l' := [(0, .ref (ad 2080)), (1, .int (nI sn)), (2, .int (nI sd)), (3, .int (nI (i + 1)))]) hl [3, 4, 5, 0] rfl)
                · have c_60 := mt (nI_eq (a := b1) (b := 0) (by omega) (by decide)).mpr c_60
                  refine lv_aload hx hb dX6_keepNumber_99 (lv_at hl 0 rfl) ?_
                  refine m_get (D := (dC, dI)) (v := .ref (ad (2 * (39 + 2 * i)))) (C := RX2) (T := TX2) (N := 2) hx hb hts bk1 hown hK hP (2118 + 2 * i) (ns_q (by omega)) hq_56 rfl 1 (by decide) (hts (.fieldLink RX6 122 "GradientDesk$Fraction" "bottom" "LGradientDesk$Whole;") (List.mem_of_getElem? (i := 11) rfl)) (fun _ h9 => h9) rfl dX6_keepNumber_101 ?_
                  refine lv_aload_n hx hb dX6_keepNumber_104 rfl (lv_at hl 1 rfl) ?_
                  refine m_get (D := (dC, dI)) (v := .ref (ad 2107)) (C := RX6) (T := TX6) (N := 7) hx hb hts bk0 hown hK hP 2080 (by decide) hO rfl 5 (by decide) (hts (.fieldLink RX6 30 "GradientDesk$Shelf" "work" "LGradientDesk$Fraction;") (List.mem_of_getElem? (i := 1) rfl)) (fun _ h9 => h9) rfl dX6_keepNumber_105 ?_
                  refine m_get (D := (dC, dI)) (v := .ref (ad (2 * 5))) (C := RX2) (T := TX2) (N := 2) hx hb hts bk1 hown hK hP 2107 (by decide) hWk rfl 1 (by decide) (hts (.fieldLink RX6 122 "GradientDesk$Fraction" "bottom" "LGradientDesk$Whole;") (List.mem_of_getElem? (i := 11) rfl)) (fun _ h9 => h9) rfl dX6_keepNumber_108 ?_
                  obtain ⟨mw_64, sw_64, nw_64, fw_64, aw_64, bw_64, cw_64, dw_64, ew_64⟩ := hW (39 + 2 * i) (by omega)
                  have qw_64 : mw_64 ≤ 4096 := by rw [dw_64]; exact rmc_le _
                  refine va_calli (va_runV (As := [.ref (ad (2 * 5))]) (rest := []) ⟨hx, hb, hml, hown, hts⟩ (c_V8_equalTo l dC dI A ad cA g (39 + 2 * i) 5 (((gd L i).2.2.2.2.2.2.2 : Nat) : Int) ((q9 : Nat) : Int) hW (by omega) (by decide) n2 w5) (cwV 1 hts (goodIn_app (goodIn_r [Cond.methodLink RX6 138 yX8_equalTo, Cond.instanceMethod yX8_equalTo, Cond.selects RX8 yX8_equalTo yX8_equalTo, Cond.initialized RX8] [25, 26, 27, 6] rfl rfl) (goodIn_sub (fun w9 h9 => bk7 w9 h9) gw_V8_equalTo)) rfl rfl rfl (by decide +kernel) ⟨Nat.le_of_ble_eq_true rfl, Nat.le_of_ble_eq_true rfl⟩) ⟨fun a U g mk q => ⟨q.1, q.2.1, q.2.2.1, LY.moved (u := U) (U := U.calling g mk a) (Vm.Alike.refl U.vm) q.2.2.2⟩, va_recv hK hP (ci := 11) (q0 := (2 * (39 + 2 * i))) rfl (wo_at (ns_w (by omega)) aw_64), fun U hU hW => ⟨rfl, by rw [hU]; exact fun q h => hA q (Nat.le_trans hS.1 h), by rw [hU]; exact hP, LY.moved hW.alike hL⟩⟩ rfl rfl hl.1 rfl (lv_room (Nat.le_of_ble_eq_true rfl)) dX6_keepNumber_111 ⟨(Nat.le_of_ble_eq_true rfl), (Nat.le_of_ble_eq_true rfl)⟩) hS (fun q _ h => h) (fun q h => h) (fun r_65 u8 t8 H1 locs ht8 hvm8 hw_66 hB hz1 hk1 hS => ?_)
                  obtain ⟨⟩ := u8
                  try dsimp only at hw_66 hB
                  rw [ht8] at hB
                  have hP := hB
                  generalize H1 = H at hP hS ⊢
                  obtain ⟨b2, hb9, rfl, he2⟩ := eq01 hw_66
                  refine lv_if_eq (tgt := 121) hx hb dX6_keepNumber_114 (by decide) (fun c_67 => ?_) (fun c_67 => ?_)
                  · have c_67 := (nI_eq (a := b2) (b := 0) (by omega) (by decide)).mp c_67
                    refine lv_iconst (v := nI 0) hx hb dX6_keepNumber_121 (by decide +kernel) ?_
                    refine lv_istore (lv' := [(5, .int (nI 0)), (4, .ref (ad (2118 + 2 * i))), (0, .ref (ad 2080)), (1, .int (nI sn)), (2, .int (nI sd)), (3, .int (nI i))]) hx hb dX6_keepNumber_122 hl (by decide) rfl (fun ls hl => ?_)
                    refine lv_iload hx hb dX6_keepNumber_124 (lv_at hl 0 rfl) ?_
                    refine lv_if_eq (tgt := 143) hx hb dX6_keepNumber_126 (by decide) (fun c_68 => ?_) (fun c_68 => absurd c_68 (by decide))
                    refine lv_iinc (v := nI (i + 1)) (lv' := [(3, .int (nI (i + 1))), (5, .int (nI 0)), (4, .ref (ad (2118 + 2 * i))), (0, .ref (ad 2080)), (1, .int (nI sn)), (2, .int (nI sd))]) hx hb dX6_keepNumber_143 hl (k := 5) rfl (nI_add i 1) (by decide) rfl (fun ls hl => ?_)
                    refine lv_goto (tgt := 62) hx hb dX6_keepNumber_146 (by decide) ?_
                    exact ih_18 (i + 1) (by omega) (by omega) (fun j hj => by by_cases h9 : j = i; subst h9; exact (k_nky m0 m1 m2 rfl rfl rfl (fun _ _ _ => ⟨hnum, fun hp9 hq9 => by have x1 := he1.mpr (hp9.trans e6); have x2 := he2.mpr (by rw [hq9, e7]); omega⟩)); exact hno j (by omega)) _ _ _ hP hS (lv_sub (l' := [(0, .ref (ad 2080)), (1, .int (nI sn)), (2, .int (nI sd)), (3, .int (nI (i + 1)))]) hl [3, 4, 5, 0] rfl)
                  · have c_67 := mt (nI_eq (a := b2) (b := 0) (by omega) (by decide)).mpr c_67
                    refine lv_iconst (v := nI 1) hx hb dX6_keepNumber_117 (by decide +kernel) ?_
                    refine lv_goto (tgt := 122) hx hb dX6_keepNumber_118 (by decide) ?_
                    refine lv_istore (lv' := [(5, .int (nI 1)), (4, .ref (ad (2118 + 2 * i))), (0, .ref (ad 2080)), (1, .int (nI sn)), (2, .int (nI sd)), (3, .int (nI i))]) hx hb dX6_keepNumber_122 hl (by decide) rfl (fun ls hl => ?_)
                    refine lv_iload hx hb dX6_keepNumber_124 (lv_at hl 0 rfl) ?_
                    refine lv_if_eq (tgt := 143) hx hb dX6_keepNumber_126 (by decide) (fun c_71 => absurd c_71 (by decide)) (fun c_71 => ?_)
                    refine lv_aload_n hx hb dX6_keepNumber_129 rfl (lv_at hl 2 rfl) ?_
                    refine m_get (D := (dC, dI)) (v := .ref (ad 2081)) (C := RX6) (T := TX6) (N := 7) hx hb hts bk0 hown hK hP 2080 (by decide) hO rfl 0 (by decide) (hts (.fieldLink RX6 11 "GradientDesk$Shelf" "parts" "[LGradientDesk$Part;") (List.mem_of_getElem? (i := 20) rfl)) (fun _ h9 => h9) rfl dX6_keepNumber_130 ?_
                    refine lv_iload_n hx hb dX6_keepNumber_133 rfl (lv_at hl 5 rfl) ?_
                    refine m_aald hx hb hK hP 2081 (by decide) rfl hPa (i := i) (v := ad (2117 + 2 * i)) (by omega) (by decide) rfl dX6_keepNumber_134 ?_
                    refine m_get (D := (dC, dI)) (v := .int (iI (pt 0 i))) (C := RX3) (T := TX3) (N := 7) hx hb hts bk5 hown hK hP (2117 + 2 * i) (ns_p (by omega)) hp_55 rfl 1 (by decide) (hts (.fieldLink RX6 64 "GradientDesk$Part" "sort" "I") (List.mem_of_getElem? (i := 28) rfl)) (fun _ h9 => h9) rfl dX6_keepNumber_135 ?_
                    refine lv_if_ne (tgt := 143) hx hb dX6_keepNumber_138 (by decide) (fun c_72 => ?_) (fun c_72 => ?_)
                    · have c_72 := mt (k_iEQ (a := pt 0 i) (b := 0) rfl (show nI 0 = iI 0 from by decide) (by omega) (by omega)).mpr c_72
                      refine lv_iinc (v := nI (i + 1)) (lv' := [(3, .int (nI (i + 1))), (5, .int (nI 1)), (4, .ref (ad (2118 + 2 * i))), (0, .ref (ad 2080)), (1, .int (nI sn)), (2, .int (nI sd))]) hx hb dX6_keepNumber_143 hl (k := 5) rfl (nI_add i 1) (by decide) rfl (fun ls hl => ?_)
                      refine lv_goto (tgt := 62) hx hb dX6_keepNumber_146 (by decide) ?_
                      exact ih_18 (i + 1) (by omega) (by omega) (fun j hj => by by_cases h9 : j = i; subst h9; exact (k_nky m0 m1 m2 rfl rfl rfl (fun _ _ _ => ⟨hnum, fun hp9 hq9 => by have x1 := he1.mpr (hp9.trans e6); have x2 := he2.mpr (by rw [hq9, e7]); omega⟩)); exact hno j (by omega)) _ _ _ hP hS (lv_sub (l' := [(0, .ref (ad 2080)), (1, .int (nI sn)), (2, .int (nI sd)), (3, .int (nI (i + 1)))]) hl [3, 4, 5, 0] rfl)
                    · have c_72 := (k_iEQ (a := pt 0 i) (b := 0) rfl (show nI 0 = iI 0 from by decide) (by omega) (by omega)).mp c_72
                      refine lv_iload_n hx hb dX6_keepNumber_141 rfl (lv_at hl 5 rfl) ?_
                      refine W.widen (k := 0) (n := 0) (by omega) (by omega) ?_
                      exact W.iret (v := nI i) hx hb hr (fun t9 ht9 hW9 => ⟨⟨nI i, g, rfl, ⟨(fun (k : Nat) (hk : (14 ≤ k ∧ k < 76) ∨ (876 ≤ k ∧ k < 2080) ∨ (2081 ≤ k ∧ k < 2117)) => rfl), by rw [hnl]; exact CMK.old (keepL_old (by omega) (by omega) (k_ky m0 m1 m2 rfl rfl rfl (by omega) (by rw [m1, e1]; exact n3) (by rw [m2, e2]; exact n4) (fun _ => ⟨(he1.mp (by omega)).trans e6.symm, by have x2 := he2.mp (by omega); omega⟩)) hno) (by omega) hC⟩, by show va_P (dC, dI) vwCl _ t9.heap; rw [ht9]; exact hP⟩, hS.F ht9⟩) hS.2.2 dX6_keepNumber_142
              · skip
                clear m6
                obtain ⟨mw_75, sw_75, nw_75, fw_75, aw_75, bw_75, cw_75, dw_75, ew_75⟩ := hW (38 + 2 * i) (by omega)
                have qw_75 : mw_75 ≤ 4096 := by rw [dw_75]; exact rmc_le _
                refine va_calli (va_runV (As := [.ref (ad (2 * 4))]) (rest := []) ⟨hx, hb, hml, hown, hts⟩ (c_X8_equalTo l dC dI A ad cA g (38 + 2 * i) 4 hW (by omega) (by decide)) (cwV 1 hts (goodIn_app (goodIn_r [Cond.methodLink RX6 138 yX8_equalTo, Cond.instanceMethod yX8_equalTo, Cond.selects RX8 yX8_equalTo yX8_equalTo, Cond.initialized RX8] [25, 26, 27, 6] rfl rfl) (goodIn_sub (fun w9 h9 => bk8 w9 h9) gw_X8_equalTo)) rfl rfl rfl (by decide +kernel) ⟨Nat.le_of_ble_eq_true rfl, Nat.le_of_ble_eq_true rfl⟩) ⟨fun a U g mk q => ⟨q.1, q.2.1, q.2.2.1, LY.moved (u := U) (U := U.calling g mk a) (Vm.Alike.refl U.vm) q.2.2.2⟩, va_recv hK hP (ci := 11) (q0 := (2 * (38 + 2 * i))) rfl (wo_at (ns_w (by omega)) aw_75), fun U hU hW => ⟨rfl, by rw [hU]; exact fun q h => hA q (Nat.le_trans hS.1 h), by rw [hU]; exact hP, LY.moved hW.alike hL⟩⟩ rfl rfl hl.1 rfl (lv_room (Nat.le_of_ble_eq_true rfl)) dX6_keepNumber_93 ⟨(Nat.le_of_ble_eq_true rfl), (Nat.le_of_ble_eq_true rfl)⟩) hS (fun q _ h => h) (fun q h => h) (fun r_76 u8 t8 H1 locs ht8 hvm8 hw_77 hB hz1 hk1 hS => ?_)
                obtain ⟨⟩ := u8
                try dsimp only at hw_77 hB
                rw [ht8] at hB
                have hP := hB
                generalize H1 = H at hP hS ⊢
                obtain ⟨b1, hb8, rfl⟩ := hw_77
                refine lv_if_eq (tgt := 121) hx hb dX6_keepNumber_96 (by decide) (fun c_78 => ?_) (fun c_78 => ?_)
                · have c_78 := (nI_eq (a := b1) (b := 0) (by omega) (by decide)).mp c_78
                  refine lv_iconst (v := nI 0) hx hb dX6_keepNumber_121 (by decide +kernel) ?_
                  refine lv_istore (lv' := [(5, .int (nI 0)), (4, .ref (ad (2118 + 2 * i))), (0, .ref (ad 2080)), (1, .int (nI sn)), (2, .int (nI sd)), (3, .int (nI i))]) hx hb dX6_keepNumber_122 hl (by decide) rfl (fun ls hl => ?_)
                  refine lv_iload hx hb dX6_keepNumber_124 (lv_at hl 0 rfl) ?_
                  refine lv_if_eq (tgt := 143) hx hb dX6_keepNumber_126 (by decide) (fun c_79 => ?_) (fun c_79 => absurd c_79 (by decide))
                  refine lv_iinc (v := nI (i + 1)) (lv' := [(3, .int (nI (i + 1))), (5, .int (nI 0)), (4, .ref (ad (2118 + 2 * i))), (0, .ref (ad 2080)), (1, .int (nI sn)), (2, .int (nI sd))]) hx hb dX6_keepNumber_143 hl (k := 5) rfl (nI_add i 1) (by decide) rfl (fun ls hl => ?_)
                  refine lv_goto (tgt := 62) hx hb dX6_keepNumber_146 (by decide) ?_
                  exact ih_18 (i + 1) (by omega) (by omega) (fun j hj => by by_cases h9 : j = i; subst h9; exact (k_nky m0 m1 m2 rfl rfl rfl (fun h0 _ _ => (by omega : False).elim)); exact hno j (by omega)) _ _ _ hP hS (lv_sub (l' := [(0, .ref (ad 2080)), (1, .int (nI sn)), (2, .int (nI sd)), (3, .int (nI (i + 1)))]) hl [3, 4, 5, 0] rfl)
                · have c_78 := mt (nI_eq (a := b1) (b := 0) (by omega) (by decide)).mpr c_78
                  refine lv_aload hx hb dX6_keepNumber_99 (lv_at hl 0 rfl) ?_
                  refine m_get (D := (dC, dI)) (v := .ref (ad (2 * (39 + 2 * i)))) (C := RX2) (T := TX2) (N := 2) hx hb hts bk1 hown hK hP (2118 + 2 * i) (ns_q (by omega)) hq_56 rfl 1 (by decide) (hts (.fieldLink RX6 122 "GradientDesk$Fraction" "bottom" "LGradientDesk$Whole;") (List.mem_of_getElem? (i := 11) rfl)) (fun _ h9 => h9) rfl dX6_keepNumber_101 ?_
                  refine lv_aload_n hx hb dX6_keepNumber_104 rfl (lv_at hl 1 rfl) ?_
                  refine m_get (D := (dC, dI)) (v := .ref (ad 2107)) (C := RX6) (T := TX6) (N := 7) hx hb hts bk0 hown hK hP 2080 (by decide) hO rfl 5 (by decide) (hts (.fieldLink RX6 30 "GradientDesk$Shelf" "work" "LGradientDesk$Fraction;") (List.mem_of_getElem? (i := 1) rfl)) (fun _ h9 => h9) rfl dX6_keepNumber_105 ?_
                  refine m_get (D := (dC, dI)) (v := .ref (ad (2 * 5))) (C := RX2) (T := TX2) (N := 2) hx hb hts bk1 hown hK hP 2107 (by decide) hWk rfl 1 (by decide) (hts (.fieldLink RX6 122 "GradientDesk$Fraction" "bottom" "LGradientDesk$Whole;") (List.mem_of_getElem? (i := 11) rfl)) (fun _ h9 => h9) rfl dX6_keepNumber_108 ?_
                  obtain ⟨mw_82, sw_82, nw_82, fw_82, aw_82, bw_82, cw_82, dw_82, ew_82⟩ := hW (39 + 2 * i) (by omega)
                  have qw_82 : mw_82 ≤ 4096 := by rw [dw_82]; exact rmc_le _
                  refine va_calli (va_runV (As := [.ref (ad (2 * 5))]) (rest := []) ⟨hx, hb, hml, hown, hts⟩ (c_X8_equalTo l dC dI A ad cA g (39 + 2 * i) 5 hW (by omega) (by decide)) (cwV 1 hts (goodIn_app (goodIn_r [Cond.methodLink RX6 138 yX8_equalTo, Cond.instanceMethod yX8_equalTo, Cond.selects RX8 yX8_equalTo yX8_equalTo, Cond.initialized RX8] [25, 26, 27, 6] rfl rfl) (goodIn_sub (fun w9 h9 => bk8 w9 h9) gw_X8_equalTo)) rfl rfl rfl (by decide +kernel) ⟨Nat.le_of_ble_eq_true rfl, Nat.le_of_ble_eq_true rfl⟩) ⟨fun a U g mk q => ⟨q.1, q.2.1, q.2.2.1, LY.moved (u := U) (U := U.calling g mk a) (Vm.Alike.refl U.vm) q.2.2.2⟩, va_recv hK hP (ci := 11) (q0 := (2 * (39 + 2 * i))) rfl (wo_at (ns_w (by omega)) aw_82), fun U hU hW => ⟨rfl, by rw [hU]; exact fun q h => hA q (Nat.le_trans hS.1 h), by rw [hU]; exact hP, LY.moved hW.alike hL⟩⟩ rfl rfl hl.1 rfl (lv_room (Nat.le_of_ble_eq_true rfl)) dX6_keepNumber_111 ⟨(Nat.le_of_ble_eq_true rfl), (Nat.le_of_ble_eq_true rfl)⟩) hS (fun q _ h => h) (fun q h => h) (fun r_83 u8 t8 H1 locs ht8 hvm8 hw_84 hB hz1 hk1 hS => ?_)
                  obtain ⟨⟩ := u8
                  try dsimp only at hw_84 hB
                  rw [ht8] at hB
                  have hP := hB
                  generalize H1 = H at hP hS ⊢
                  obtain ⟨b2, hb9, rfl⟩ := hw_84
                  refine lv_if_eq (tgt := 121) hx hb dX6_keepNumber_114 (by decide) (fun c_85 => ?_) (fun c_85 => ?_)
                  · have c_85 := (nI_eq (a := b2) (b := 0) (by omega) (by decide)).mp c_85
                    refine lv_iconst (v := nI 0) hx hb dX6_keepNumber_121 (by decide +kernel) ?_
                    refine lv_istore (lv' := [(5, .int (nI 0)), (4, .ref (ad (2118 + 2 * i))), (0, .ref (ad 2080)), (1, .int (nI sn)), (2, .int (nI sd)), (3, .int (nI i))]) hx hb dX6_keepNumber_122 hl (by decide) rfl (fun ls hl => ?_)
                    refine lv_iload hx hb dX6_keepNumber_124 (lv_at hl 0 rfl) ?_
                    refine lv_if_eq (tgt := 143) hx hb dX6_keepNumber_126 (by decide) (fun c_86 => ?_) (fun c_86 => absurd c_86 (by decide))
                    refine lv_iinc (v := nI (i + 1)) (lv' := [(3, .int (nI (i + 1))), (5, .int (nI 0)), (4, .ref (ad (2118 + 2 * i))), (0, .ref (ad 2080)), (1, .int (nI sn)), (2, .int (nI sd))]) hx hb dX6_keepNumber_143 hl (k := 5) rfl (nI_add i 1) (by decide) rfl (fun ls hl => ?_)
                    refine lv_goto (tgt := 62) hx hb dX6_keepNumber_146 (by decide) ?_
                    exact ih_18 (i + 1) (by omega) (by omega) (fun j hj => by by_cases h9 : j = i; subst h9; exact (k_nky m0 m1 m2 rfl rfl rfl (fun h0 _ _ => (by omega : False).elim)); exact hno j (by omega)) _ _ _ hP hS (lv_sub (l' := [(0, .ref (ad 2080)), (1, .int (nI sn)), (2, .int (nI sd)), (3, .int (nI (i + 1)))]) hl [3, 4, 5, 0] rfl)
                  · have c_85 := mt (nI_eq (a := b2) (b := 0) (by omega) (by decide)).mpr c_85
                    refine lv_iconst (v := nI 1) hx hb dX6_keepNumber_117 (by decide +kernel) ?_
                    refine lv_goto (tgt := 122) hx hb dX6_keepNumber_118 (by decide) ?_
                    refine lv_istore (lv' := [(5, .int (nI 1)), (4, .ref (ad (2118 + 2 * i))), (0, .ref (ad 2080)), (1, .int (nI sn)), (2, .int (nI sd)), (3, .int (nI i))]) hx hb dX6_keepNumber_122 hl (by decide) rfl (fun ls hl => ?_)
                    refine lv_iload hx hb dX6_keepNumber_124 (lv_at hl 0 rfl) ?_
                    refine lv_if_eq (tgt := 143) hx hb dX6_keepNumber_126 (by decide) (fun c_89 => absurd c_89 (by decide)) (fun c_89 => ?_)
                    refine lv_aload_n hx hb dX6_keepNumber_129 rfl (lv_at hl 2 rfl) ?_
                    refine m_get (D := (dC, dI)) (v := .ref (ad 2081)) (C := RX6) (T := TX6) (N := 7) hx hb hts bk0 hown hK hP 2080 (by decide) hO rfl 0 (by decide) (hts (.fieldLink RX6 11 "GradientDesk$Shelf" "parts" "[LGradientDesk$Part;") (List.mem_of_getElem? (i := 20) rfl)) (fun _ h9 => h9) rfl dX6_keepNumber_130 ?_
                    refine lv_iload_n hx hb dX6_keepNumber_133 rfl (lv_at hl 5 rfl) ?_
                    refine m_aald hx hb hK hP 2081 (by decide) rfl hPa (i := i) (v := ad (2117 + 2 * i)) (by omega) (by decide) rfl dX6_keepNumber_134 ?_
                    refine m_get (D := (dC, dI)) (v := .int (iI (pt 0 i))) (C := RX3) (T := TX3) (N := 7) hx hb hts bk5 hown hK hP (2117 + 2 * i) (ns_p (by omega)) hp_55 rfl 1 (by decide) (hts (.fieldLink RX6 64 "GradientDesk$Part" "sort" "I") (List.mem_of_getElem? (i := 28) rfl)) (fun _ h9 => h9) rfl dX6_keepNumber_135 ?_
                    refine lv_if_ne (tgt := 143) hx hb dX6_keepNumber_138 (by decide) (fun c_90 => ?_) (fun c_90 => ?_)
                    · have c_90 := mt (k_iEQ (a := pt 0 i) (b := 0) rfl (show nI 0 = iI 0 from by decide) (by omega) (by omega)).mpr c_90
                      refine lv_iinc (v := nI (i + 1)) (lv' := [(3, .int (nI (i + 1))), (5, .int (nI 1)), (4, .ref (ad (2118 + 2 * i))), (0, .ref (ad 2080)), (1, .int (nI sn)), (2, .int (nI sd))]) hx hb dX6_keepNumber_143 hl (k := 5) rfl (nI_add i 1) (by decide) rfl (fun ls hl => ?_)
                      refine lv_goto (tgt := 62) hx hb dX6_keepNumber_146 (by decide) ?_
                      exact ih_18 (i + 1) (by omega) (by omega) (fun j hj => by by_cases h9 : j = i; subst h9; exact (k_nky m0 m1 m2 rfl rfl rfl (fun h0 _ _ => (by omega : False).elim)); exact hno j (by omega)) _ _ _ hP hS (lv_sub (l' := [(0, .ref (ad 2080)), (1, .int (nI sn)), (2, .int (nI sd)), (3, .int (nI (i + 1)))]) hl [3, 4, 5, 0] rfl)
                    · have c_90 := (k_iEQ (a := pt 0 i) (b := 0) rfl (show nI 0 = iI 0 from by decide) (by omega) (by omega)).mp c_90
                      refine lv_iload_n hx hb dX6_keepNumber_141 rfl (lv_at hl 5 rfl) ?_
                      refine W.widen (k := 0) (n := 0) (by omega) (by omega) ?_
                      exact W.iret (v := nI i) hx hb hr (fun t9 ht9 hW9 => ⟨⟨nI i, g, rfl, ⟨(fun (k : Nat) (hk : (14 ≤ k ∧ k < 76) ∨ (876 ≤ k ∧ k < 2080) ∨ (2081 ≤ k ∧ k < 2117)) => rfl), by rw [hnl]; exact (by omega : False).elim⟩, by show va_P (dC, dI) vwCl _ t9.heap; rw [ht9]; exact hP⟩, hS.F ht9⟩) hS.2.2 dX6_keepNumber_142
        exact loop_17 _ 0 (Nat.lt_succ_self _) (Nat.zero_le _) (fun j h => absurd h (by omega)) _ _ _ hP hS (lv_sub (l' := [(0, .ref (ad 2080)), (1, .int (nI sn)), (2, .int (nI sd)), (3, .int (nI 0))]) hl [3, 2, 1, 0] rfl)
      · have c_16 := mt (nI_leI (a := sd) (b := 400) (by omega) (by decide)).mpr c_16
        refine lv_bipush (v := -3) hx hb dX6_keepNumber_57 (by decide +kernel) ?_
        refine W.widen (k := 0) (n := 0) (by omega) (by omega) ?_
        exact W.iret (v := -3) hx hb hr (fun t9 ht9 hW9 => ⟨⟨-3, g, rfl, ⟨(fun (k : Nat) (hk : (14 ≤ k ∧ k < 76) ∨ (876 ≤ k ∧ k < 2080) ∨ (2081 ≤ k ∧ k < 2117)) => rfl), by rw [hnl]; exact CMK.bad (n := -3) (by decide) (keepL_big (by omega)) (Or.inl rfl) hC⟩, by show va_P (dC, dI) vwCl _ t9.heap; rw [ht9]; exact hP⟩, hS.F ht9⟩) hS.2.2 dX6_keepNumber_59
  · skip
    refine lv_if_eq (tgt := 32) hx hb dX6_keepNumber_25 (by decide) (fun c_93 => ?_) (fun c_93 => absurd c_93 (by decide))
    refine lv_aload_n hx hb dX6_keepNumber_32 rfl (lv_at hl 1 rfl) ?_
    refine m_get (D := (dC, dI)) (v := .ref (ad 2107)) (C := RX6) (T := TX6) (N := 7) hx hb hts bk0 hown hK hP 2080 (by decide) hO rfl 5 (by decide) (hts (.fieldLink RX6 30 "GradientDesk$Shelf" "work" "LGradientDesk$Fraction;") (List.mem_of_getElem? (i := 1) rfl)) (fun _ h9 => h9) rfl dX6_keepNumber_33 ?_
    refine m_get (D := (dC, dI)) (v := .ref (ad (2 * 5))) (C := RX2) (T := TX2) (N := 2) hx hb hts bk1 hown hK hP 2107 (by decide) hWk rfl 1 (by decide) (hts (.fieldLink RX6 122 "GradientDesk$Fraction" "bottom" "LGradientDesk$Whole;") (List.mem_of_getElem? (i := 11) rfl)) (fun _ h9 => h9) rfl dX6_keepNumber_36 ?_
    refine va_calli (va_runV (As := []) (rest := []) ⟨hx, hb, hml, hown, hts⟩ (c_V8_bitLength l dC dI A ad cA g 5 ((q9 : Nat) : Int) hW (by decide) w5) (cwV 0 hts (goodIn_app (goodIn_r [Cond.methodLink RX6 125 yX8_bitLength, Cond.instanceMethod yX8_bitLength, Cond.selects RX8 yX8_bitLength yX8_bitLength, Cond.initialized RX8] [3, 4, 5, 6] rfl rfl) (goodIn_sub (fun w9 h9 => bk2 w9 h9) gw_V8_bitLength)) rfl rfl rfl (by decide +kernel) ⟨Nat.le_of_ble_eq_true rfl, Nat.le_of_ble_eq_true rfl⟩) ⟨fun a U g mk q => ⟨q.1, q.2.1, q.2.2.1, LY.moved (u := U) (U := U.calling g mk a) (Vm.Alike.refl U.vm) q.2.2.2⟩, va_recv hK hP (ci := 11) (q0 := (2 * 5)) rfl (wo_at (ns_w (by omega)) aw_9), fun U hU hW => ⟨rfl, by rw [hU]; exact fun q h => hA q (Nat.le_trans hS.1 h), by rw [hU]; exact hP, LY.moved hW.alike hL⟩⟩ rfl rfl hl.1 rfl (lv_room (Nat.le_of_ble_eq_true rfl)) dX6_keepNumber_39 ⟨(Nat.le_of_ble_eq_true rfl), (Nat.le_of_ble_eq_true rfl)⟩) hS (fun q _ h => h) (fun q h => h) (fun r_94 u8 t8 H1 locs ht8 hvm8 hw_95 hB hz1 hk1 hS => ?_)
    obtain ⟨⟩ := u8
    try dsimp only at hw_95 hB
    rw [ht8] at hB
    have hP := hB
    generalize H1 = H at hP hS ⊢
    obtain rfl := hw_95
    rw [Int.natAbs_natCast]
    obtain ⟨bq, hbq⟩ : ∃ z, z = bl q9 := ⟨_, rfl⟩
    rw [← hbq]
    rw [← hbq] at f5
    have hb1 := bl_is1 hq0
    obtain ⟨sd, hsd⟩ : ∃ z : Nat, z = bq := ⟨_, rfl⟩
    refine lv_topi (fun x_96 e_97 => ?_)
    obtain rfl : x_96 = nI sd := e_97.trans (congrArg nI hsd.symm)
    have hs5 : (if bl q9 = 1 then 0 else bl q9) = sd := by rw [if_neg (fun h9 => absurd (hb1.mp h9) (by omega))]; omega
    have hs5b : bl q9 ≤ sd + 1 := by omega
    obtain ⟨dn, hdn⟩ : ∃ z : PD, z = (0, -1, -1, 0, if bl p9.natAbs = 0 then 1 else bl p9.natAbs, if bl q9 = 1 then 0 else bl q9, p9, q9) := ⟨_, rfl⟩
    have hnl : numL L p9 q9 = keepL L dn := by rw [hdn]; rfl
    have e0 : dn.1 = 0 := by rw [hdn]
    have e1 : dn.2.1 = -1 := by rw [hdn]
    have e2 : dn.2.2.1 = -1 := by rw [hdn]
    have e3 : dn.2.2.2.1 = 0 := by rw [hdn]
    have e4 : dn.2.2.2.2.1 = sn := by rw [hdn]; show (if bl p9.natAbs = 0 then 1 else bl p9.natAbs) = sn; omega
    have e5 : dn.2.2.2.2.2.1 = sd := by rw [hdn]; exact hs5
    have e6 : dn.2.2.2.2.2.2.1 = p9 := by rw [hdn]
    have e7 : dn.2.2.2.2.2.2.2 = q9 := by rw [hdn]
    refine lv_istore_n (lv' := [(2, .int (nI sd)), (1, .int (nI sn)), (0, .ref (ad 2080))]) hx hb dX6_keepNumber_42 rfl hl (by decide) rfl (fun ls hl => ?_)
    refine lv_iload_n hx hb dX6_keepNumber_43 rfl (lv_at hl 1 rfl) ?_
    refine lv_sipush (v := nI 400) hx hb dX6_keepNumber_44 (by decide +kernel) ?_
    refine lv_icmp_gt (tgt := 57) hx hb dX6_keepNumber_47 (by decide) (fun c_98 => ?_) (fun c_98 => ?_)
    · have c_98 := (nI_ltI (a := 400) (b := sn) (by decide) (by omega)).mp c_98
      refine lv_bipush (v := -3) hx hb dX6_keepNumber_57 (by decide +kernel) ?_
      refine W.widen (k := 0) (n := 0) (by omega) (by omega) ?_
      exact W.iret (v := -3) hx hb hr (fun t9 ht9 hW9 => ⟨⟨-3, g, rfl, ⟨(fun (k : Nat) (hk : (14 ≤ k ∧ k < 76) ∨ (876 ≤ k ∧ k < 2080) ∨ (2081 ≤ k ∧ k < 2117)) => rfl), by rw [hnl]; exact CMK.bad (n := -3) (by decide) (keepL_big (by omega)) (Or.inl rfl) hC⟩, by show va_P (dC, dI) vwCl _ t9.heap; rw [ht9]; exact hP⟩, hS.F ht9⟩) hS.2.2 dX6_keepNumber_59
    · have c_98 := mt (nI_ltI (a := 400) (b := sn) (by decide) (by omega)).mpr c_98
      refine lv_iload_n hx hb dX6_keepNumber_50 rfl (lv_at hl 0 rfl) ?_
      refine lv_sipush (v := nI 400) hx hb dX6_keepNumber_51 (by decide +kernel) ?_
      refine lv_icmp_le (tgt := 60) hx hb dX6_keepNumber_54 (by decide) (fun c_99 => ?_) (fun c_99 => ?_)
      · have c_99 := (nI_leI (a := sd) (b := 400) (by omega) (by decide)).mp c_99
        refine lv_iconst (v := nI 0) hx hb dX6_keepNumber_60 (by decide +kernel) ?_
        refine lv_istore_n (lv' := [(3, .int (nI 0)), (2, .int (nI sd)), (1, .int (nI sn)), (0, .ref (ad 2080))]) hx hb dX6_keepNumber_61 rfl hl (by decide) rfl (fun ls hl => ?_)
        have loop_100 : ∀ (k9 : Nat) (i : Nat), 300 - i < k9 → (i ≤ L.length) → (∀ j, j < i → pky (gd L j) dn = false) → ∀ (H : Heap) (locs : List Loc) (ls : Array Slot), va_P (dC, dI) vwCl (wo ad NSc g) H → va_S A s.heap H locs → lv_has ls 6 [(0, .ref (ad 2080)), (1, .int (nI sn)), (2, .int (nI sd)), (3, .int (nI i))] → W p l e (headSpec wd_V6_keepNumber ({ frames := 30, cells := 0, slots := 0, locals := 600 })).room s m ([.ref (ad 2080)] : List Value).toArray below meth c H locs (0) (0) (MQ below (va_Qi (fun (r : Int32) => fun (u : Nat → va_E) => match u with | g2 => (∀ k, (14 ≤ k ∧ k < 76) ∨ (876 ≤ k ∧ k < 2080) ∨ (2081 ≤ k ∧ k < 2117) → g2 k = g k) ∧ CMK ad cA g2 (numL L p9 q9) r) (fun (u : Nat → va_E) (t : State) => va_P (dC, dI) vwCl (wo ad NSc u) t.heap) A) ([.ref (ad 2080)] : List Value).toArray s (0) (0) A) (F0 m 62 ls []) := by
          intro k9
          induction k9 with
          | zero => intro i h9; exact absurd h9 (Nat.not_lt_zero _)
          | succ k9 ih_101 =>
            intro i h9 hi hno H locs ls hP hS hl
            refine lv_iload_n hx hb dX6_keepNumber_62 rfl (lv_at hl 3 rfl) ?_
            refine lv_aload_n hx hb dX6_keepNumber_63 rfl (lv_at hl 0 rfl) ?_
            refine m_get (D := (dC, dI)) (v := .int (nI L.length)) (C := RX6) (T := TX6) (N := 7) hx hb hts bk0 hown hK hP 2080 (by decide) hO rfl 2 (by decide) (hts (.fieldLink RX6 135 "GradientDesk$Shelf" "count" "I") (List.mem_of_getElem? (i := 15) rfl)) (fun _ h9 => h9) rfl dX6_keepNumber_64 ?_
            refine lv_icmp_ge (tgt := 149) hx hb dX6_keepNumber_67 (by decide) (fun c_104 => ?_) (fun c_104 => ?_)
            · have c_104 := (nI_leI (a := L.length) (b := i) (by omega) (by omega)).mp c_104
              refine lv_aload_n hx hb dX6_keepNumber_149 rfl (lv_at hl 0 rfl) ?_
              refine lv_iconst (v := nI 0) hx hb dX6_keepNumber_150 (by decide +kernel) ?_
              refine lv_iconst (v := -1) hx hb dX6_keepNumber_151 (by decide +kernel) ?_
              refine lv_iconst (v := -1) hx hb dX6_keepNumber_152 (by decide +kernel) ?_
              refine lv_iconst (v := nI 0) hx hb dX6_keepNumber_153 (by decide +kernel) ?_
              refine lv_iload_n hx hb dX6_keepNumber_154 rfl (lv_at hl 1 rfl) ?_
              refine lv_iload_n hx hb dX6_keepNumber_155 rfl (lv_at hl 2 rfl) ?_
              refine va_calli (va_runV (As := [.int (nI 0), .int (-1), .int (-1), .int (nI 0), .int (nI sn), .int (nI sd)]) (rest := []) ⟨hx, hb, hml, hown, hts⟩ (c_V6_lay l dC dI A ad cA g L (nI 0) (-1) (-1) (nI 0) (nI sn) (nI sd) hC) (cwV 6 hts (goodIn_app (goodIn_r [Cond.methodLink RX6 142 yX6_lay, Cond.instanceMethod yX6_lay, Cond.selects RX6 yX6_lay yX6_lay, Cond.initialized RX6] [16, 17, 18, 19] rfl rfl) (goodIn_sub (fun w9 h9 => bk4 w9 h9) gw_V6_lay)) rfl rfl rfl (by decide +kernel) ⟨Nat.le_of_ble_eq_true rfl, Nat.le_of_ble_eq_true rfl⟩) ⟨fun a U g mk q => ⟨q.1, q.2.1, q.2.2.1, LY.moved (u := U) (U := U.calling g mk a) (Vm.Alike.refl U.vm) q.2.2.2⟩, va_recv hK hP (ci := 9) (q0 := 2080) rfl (wo_at (by decide) hO), fun U hU hW => ⟨rfl, by rw [hU]; exact fun q h => hA q (Nat.le_trans hS.1 h), by rw [hU]; exact hP, LY.moved hW.alike hL⟩⟩ rfl rfl hl.1 rfl (lv_room (Nat.le_of_ble_eq_true rfl)) dX6_keepNumber_156 ⟨(Nat.le_of_ble_eq_true rfl), (Nat.le_of_ble_eq_true rfl)⟩) hS (fun q _ h => h) (fun q h => h) (fun r_105 u8 t8 H1 locs ht8 hvm8 hw_106 hB hz1 hk1 hS => ?_)
              obtain ⟨g_107, rfl⟩ : ∃ z, z = u8 := ⟨_, rfl⟩
              try dsimp only at hw_106 hB
              rw [ht8] at hB
              have hP := hB
              generalize H1 = H at hP hS ⊢
              obtain ⟨fr_108, hly⟩ := hw_106
              rcases hly with ⟨hl9, rfl, hg9⟩ | ⟨hl9, rfl, hO9, hc9⟩
              · skip
                refine lv_istore_n (lv' := [(3, .int (iI (-4))), (0, .ref (ad 2080)), (1, .int (nI sn)), (2, .int (nI sd))]) hx hb dX6_keepNumber_159 rfl hl (by decide) rfl (fun ls hl => ?_)
                refine lv_iload_n hx hb dX6_keepNumber_160 rfl (lv_at hl 0 rfl) ?_
                refine lv_if_lt (tgt := 208) hx hb dX6_keepNumber_161 (by decide) (fun c_109 => ?_) (fun c_109 => absurd (mt (k_iLT (a := -4) (b := 0) rfl (show nI 0 = iI 0 from by decide) (by omega) (by omega)).mpr c_109) (by omega))
                refine lv_iload_n hx hb dX6_keepNumber_208 rfl (lv_at hl 0 rfl) ?_
                refine W.widen (k := 0) (n := 0) (by omega) (by omega) ?_
                exact W.iret (v := iI (-4)) hx hb hr (fun t9 ht9 hW9 => ⟨⟨iI (-4), g_107, rfl, ⟨(fun (k : Nat) (hk : (14 ≤ k ∧ k < 76) ∨ (876 ≤ k ∧ k < 2080) ∨ (2081 ≤ k ∧ k < 2117)) => (fr_108 k (by omega)).trans (rfl)), by rw [hnl, hg9]; exact CMK.bad rfl (keepL_full (by omega) hl9 (fun j hj => hno j (by omega))) (Or.inr rfl) hC⟩, by show va_P (dC, dI) vwCl _ t9.heap; rw [ht9]; exact hP⟩, hS.F ht9⟩) hS.2.2 dX6_keepNumber_209
              · skip
                have hO8 := hO9
                unfold CSO at hO8
                refine lv_istore_n (lv' := [(3, .int (nI L.length)), (0, .ref (ad 2080)), (1, .int (nI sn)), (2, .int (nI sd))]) hx hb dX6_keepNumber_159 rfl hl (by decide) rfl (fun ls hl => ?_)
                refine lv_iload_n hx hb dX6_keepNumber_160 rfl (lv_at hl 0 rfl) ?_
                refine lv_if_lt (tgt := 208) hx hb dX6_keepNumber_161 (by decide) (fun c_110 => absurd ((nI_ltI (a := L.length) (b := 0) (by omega) (by decide)).mp c_110) (by omega)) (fun c_110 => ?_)
                refine lv_aload_n hx hb dX6_keepNumber_164 rfl (lv_at hl 1 rfl) ?_
                refine m_get (D := (dC, dI)) (v := .ref (ad 2081)) (C := RX6) (T := TX6) (N := 7) hx hb hts bk0 hown hK hP 2080 (by decide) hO8 rfl 0 (by decide) (hts (.fieldLink RX6 11 "GradientDesk$Shelf" "parts" "[LGradientDesk$Part;") (List.mem_of_getElem? (i := 20) rfl)) (fun _ h9 => h9) rfl dX6_keepNumber_165 ?_
                refine lv_iload_n hx hb dX6_keepNumber_168 rfl (lv_at hl 0 rfl) ?_
                have f_111 : g_107 2081 = .inl (cA 2081, 200, .inr (.inr (.inr (.inr (fun j => some (ad (2117 + 2 * j))))))) := (fr_108 2081 (by omega)).trans hPa
                refine m_aald hx hb hK hP 2081 (by decide) rfl f_111 (i := L.length) (v := ad (2117 + 2 * L.length)) (by omega) (by decide) rfl dX6_keepNumber_169 ?_
                refine m_get (D := (dC, dI)) (v := .ref (ad (2118 + 2 * L.length))) (C := RX3) (T := TX3) (N := 7) hx hb hts bk5 hown hK hP (2117 + 2 * L.length) (ns_p (by omega)) hc9 rfl 0 (by decide) (hts (.fieldLink RX6 68 "GradientDesk$Part" "number" "LGradientDesk$Fraction;") (List.mem_of_getElem? (i := 21) rfl)) (fun _ h9 => h9) rfl dX6_keepNumber_170 ?_
                have hq_112 := hFr L.length (by omega)
                have f_113 : g_107 (2118 + 2 * L.length) = .inr (5, [.ref (ad (2 * (38 + 2 * L.length))), .ref (ad (2 * (39 + 2 * L.length)))]) := (fr_108 (2118 + 2 * L.length) (by omega)).trans hq_112
                refine m_get (D := (dC, dI)) (v := .ref (ad (2 * (38 + 2 * L.length)))) (C := RX2) (T := TX2) (N := 2) hx hb hts bk1 hown hK hP (2118 + 2 * L.length) (ns_q (by omega)) f_113 rfl 0 (by decide) (hts (.fieldLink RX6 112 "GradientDesk$Fraction" "top" "LGradientDesk$Whole;") (List.mem_of_getElem? (i := 2) rfl)) (fun _ h9 => h9) rfl dX6_keepNumber_173 ?_
                refine lv_aload_n hx hb dX6_keepNumber_176 rfl (lv_at hl 1 rfl) ?_
                refine m_get (D := (dC, dI)) (v := .ref (ad 2107)) (C := RX6) (T := TX6) (N := 7) hx hb hts bk0 hown hK hP 2080 (by decide) hO8 rfl 5 (by decide) (hts (.fieldLink RX6 30 "GradientDesk$Shelf" "work" "LGradientDesk$Fraction;") (List.mem_of_getElem? (i := 1) rfl)) (fun _ h9 => h9) rfl dX6_keepNumber_177 ?_
                have f_114 : g_107 2107 = .inr (5, [.ref (ad (2 * 4)), .ref (ad (2 * 5))]) := (fr_108 2107 (by omega)).trans hWk
                refine m_get (D := (dC, dI)) (v := .ref (ad (2 * 4))) (C := RX2) (T := TX2) (N := 2) hx hb hts bk1 hown hK hP 2107 (by decide) f_114 rfl 0 (by decide) (hts (.fieldLink RX6 112 "GradientDesk$Fraction" "top" "LGradientDesk$Whole;") (List.mem_of_getElem? (i := 2) rfl)) (fun _ h9 => h9) rfl dX6_keepNumber_180 ?_
                have hAW_116 : AW ad cA g_107 := AW.keep hW (fun (k : Nat) (hk : k < 2076) => (fr_108 k (by omega)).trans (rfl))
                obtain ⟨mw_115, sw_115, nw_115, fw_115, aw_115, bw_115, cw_115, dw_115, ew_115⟩ := hAW_116 (38 + 2 * L.length) (by omega)
                have qw_115 : mw_115 ≤ 4096 := by rw [dw_115]; exact rmc_le _
                have hv_117 : WV ad cA g_107 4 p9 := WV.same w4 ((fun (k : Nat) (hk : k = 2 * 4 ∨ k = 2 * 4 + 1) => (fr_108 k (by omega)).trans (rfl)) _ (Or.inl rfl)) ((fun (k : Nat) (hk : k = 2 * 4 ∨ k = 2 * 4 + 1) => (fr_108 k (by omega)).trans (rfl)) _ (Or.inr rfl))
                refine va_callv (va_runV (As := [.ref (ad (2 * 4))]) (rest := []) ⟨hx, hb, hml, hown, hts⟩ (c_V8_become l dC dI A ad cA g_107 (38 + 2 * L.length) 4 p9 hAW_116 (by omega) (by decide) hv_117 (by omega) (by rw [rmc_part (by omega) (by omega)]; exact fit13 (by omega))) (cwV 1 hts (goodIn_app (goodIn_r [Cond.methodLink RX6 118 yX8_become, Cond.instanceMethod yX8_become, Cond.selects RX8 yX8_become yX8_become, Cond.initialized RX8] [22, 23, 24, 6] rfl rfl) (goodIn_sub (fun w9 h9 => bk6 w9 h9) gw_V8_become)) rfl rfl rfl (by decide +kernel) ⟨Nat.le_of_ble_eq_true rfl, Nat.le_of_ble_eq_true rfl⟩) ⟨fun a U g mk q => ⟨q.1, q.2.1, q.2.2.1, LY.moved (u := U) (U := U.calling g mk a) (Vm.Alike.refl U.vm) q.2.2.2⟩, va_recv hK hP (ci := 11) (q0 := (2 * (38 + 2 * L.length))) rfl (wo_at (ns_w (by omega)) aw_115), fun U hU hW => ⟨rfl, by rw [hU]; exact fun q h => hA q (Nat.le_trans hS.1 h), by rw [hU]; exact hP, LY.moved hW.alike hL⟩⟩ rfl rfl hl.1 rfl (lv_room (Nat.le_of_ble_eq_true rfl)) dX6_keepNumber_183 ⟨(Nat.le_of_ble_eq_true rfl), (Nat.le_of_ble_eq_true rfl)⟩) hS (fun q _ h => h) (fun q h => h) (fun u8 t8 H1 locs ht8 hvm8 hw_120 hB hz1 hk1 hS => ?_)
                obtain ⟨g_121, rfl⟩ : ∃ z, z = u8 := ⟨_, rfl⟩
                try dsimp only at hw_120 hB
                rw [ht8] at hB
                have hP := hB
                generalize H1 = H at hP hS ⊢
                obtain ⟨fr_122, hAW_118, hv_119⟩ := hw_120
                refine lv_aload_n hx hb dX6_keepNumber_186 rfl (lv_at hl 1 rfl) ?_
                have f_123 : g_121 2080 = .inr (9, [.ref (ad 2081), .ref (ad 2082), .int (nI (L.length + 1)), .ref (ad 2083), .ref (ad 2077), .ref (ad 2107), .ref (ad (2 * 6))]) := (fr_122 2080 (by omega)).trans hO8
                refine m_get (D := (dC, dI)) (v := .ref (ad 2081)) (C := RX6) (T := TX6) (N := 7) hx hb hts bk0 hown hK hP 2080 (by decide) f_123 rfl 0 (by decide) (hts (.fieldLink RX6 11 "GradientDesk$Shelf" "parts" "[LGradientDesk$Part;") (List.mem_of_getElem? (i := 20) rfl)) (fun _ h9 => h9) rfl dX6_keepNumber_187 ?_
                refine lv_iload_n hx hb dX6_keepNumber_190 rfl (lv_at hl 0 rfl) ?_
                have f_124 : g_121 2081 = .inl (cA 2081, 200, .inr (.inr (.inr (.inr (fun j => some (ad (2117 + 2 * j))))))) := (fr_122 2081 (by omega)).trans f_111
                refine m_aald hx hb hK hP 2081 (by decide) rfl f_124 (i := L.length) (v := ad (2117 + 2 * L.length)) (by omega) (by decide) rfl dX6_keepNumber_191 ?_
                have f_125 : g_121 (2117 + 2 * L.length) = .inr (6, [.ref (ad (2118 + 2 * L.length)), .int (nI 0), .int (-1), .int (-1), .int (nI 0), .int (nI sn), .int (nI sd)]) := (fr_122 (2117 + 2 * L.length) (by omega)).trans hc9
                refine m_get (D := (dC, dI)) (v := .ref (ad (2118 + 2 * L.length))) (C := RX3) (T := TX3) (N := 7) hx hb hts bk5 hown hK hP (2117 + 2 * L.length) (ns_p (by omega)) f_125 rfl 0 (by decide) (hts (.fieldLink RX6 68 "GradientDesk$Part" "number" "LGradientDesk$Fraction;") (List.mem_of_getElem? (i := 21) rfl)) (fun _ h9 => h9) rfl dX6_keepNumber_192 ?_
                have f_126 : g_121 (2118 + 2 * L.length) = .inr (5, [.ref (ad (2 * (38 + 2 * L.length))), .ref (ad (2 * (39 + 2 * L.length)))]) := (fr_122 (2118 + 2 * L.length) (by omega)).trans f_113
                refine m_get (D := (dC, dI)) (v := .ref (ad (2 * (39 + 2 * L.length)))) (C := RX2) (T := TX2) (N := 2) hx hb hts bk1 hown hK hP (2118 + 2 * L.length) (ns_q (by omega)) f_126 rfl 1 (by decide) (hts (.fieldLink RX6 122 "GradientDesk$Fraction" "bottom" "LGradientDesk$Whole;") (List.mem_of_getElem? (i := 11) rfl)) (fun _ h9 => h9) rfl dX6_keepNumber_195 ?_
                refine lv_aload_n hx hb dX6_keepNumber_198 rfl (lv_at hl 1 rfl) ?_
                refine m_get (D := (dC, dI)) (v := .ref (ad 2107)) (C := RX6) (T := TX6) (N := 7) hx hb hts bk0 hown hK hP 2080 (by decide) f_123 rfl 5 (by decide) (hts (.fieldLink RX6 30 "GradientDesk$Shelf" "work" "LGradientDesk$Fraction;") (List.mem_of_getElem? (i := 1) rfl)) (fun _ h9 => h9) rfl dX6_keepNumber_199 ?_
                have f_127 : g_121 2107 = .inr (5, [.ref (ad (2 * 4)), .ref (ad (2 * 5))]) := (fr_122 2107 (by omega)).trans f_114
                refine m_get (D := (dC, dI)) (v := .ref (ad (2 * 5))) (C := RX2) (T := TX2) (N := 2) hx hb hts bk1 hown hK hP 2107 (by decide) f_127 rfl 1 (by decide) (hts (.fieldLink RX6 122 "GradientDesk$Fraction" "bottom" "LGradientDesk$Whole;") (List.mem_of_getElem? (i := 11) rfl)) (fun _ h9 => h9) rfl dX6_keepNumber_202 ?_
                obtain ⟨mw_128, sw_128, nw_128, fw_128, aw_128, bw_128, cw_128, dw_128, ew_128⟩ := hAW_118 (39 + 2 * L.length) (by omega)
                have qw_128 : mw_128 ≤ 4096 := by rw [dw_128]; exact rmc_le _
                have hv_129 : WV ad cA g_121 5 ((q9 : Nat) : Int) := WV.same w5 ((fun (k : Nat) (hk : k = 2 * 5 ∨ k = 2 * 5 + 1) => (fr_122 k (by omega)).trans ((fr_108 k (by omega)).trans (rfl))) _ (Or.inl rfl)) ((fun (k : Nat) (hk : k = 2 * 5 ∨ k = 2 * 5 + 1) => (fr_122 k (by omega)).trans ((fr_108 k (by omega)).trans (rfl))) _ (Or.inr rfl))
                refine va_callv (va_runV (As := [.ref (ad (2 * 5))]) (rest := []) ⟨hx, hb, hml, hown, hts⟩ (c_V8_become l dC dI A ad cA g_121 (39 + 2 * L.length) 5 ((q9 : Nat) : Int) hAW_118 (by omega) (by decide) hv_129 (by omega) (by rw [rmc_part (by omega) (by omega), Int.natAbs_natCast]; exact fit13 (by omega))) (cwV 1 hts (goodIn_app (goodIn_r [Cond.methodLink RX6 118 yX8_become, Cond.instanceMethod yX8_become, Cond.selects RX8 yX8_become yX8_become, Cond.initialized RX8] [22, 23, 24, 6] rfl rfl) (goodIn_sub (fun w9 h9 => bk6 w9 h9) gw_V8_become)) rfl rfl rfl (by decide +kernel) ⟨Nat.le_of_ble_eq_true rfl, Nat.le_of_ble_eq_true rfl⟩) ⟨fun a U g mk q => ⟨q.1, q.2.1, q.2.2.1, LY.moved (u := U) (U := U.calling g mk a) (Vm.Alike.refl U.vm) q.2.2.2⟩, va_recv hK hP (ci := 11) (q0 := (2 * (39 + 2 * L.length))) rfl (wo_at (ns_w (by omega)) aw_128), fun U hU hW => ⟨rfl, by rw [hU]; exact fun q h => hA q (Nat.le_trans hS.1 h), by rw [hU]; exact hP, LY.moved hW.alike hL⟩⟩ rfl rfl hl.1 rfl (lv_room (Nat.le_of_ble_eq_true rfl)) dX6_keepNumber_205 ⟨(Nat.le_of_ble_eq_true rfl), (Nat.le_of_ble_eq_true rfl)⟩) hS (fun q _ h => h) (fun q h => h) (fun u8 t8 H1 locs ht8 hvm8 hw_132 hB hz1 hk1 hS => ?_)
                obtain ⟨g_133, rfl⟩ : ∃ z, z = u8 := ⟨_, rfl⟩
                try dsimp only at hw_132 hB
                rw [ht8] at hB
                have hP := hB
                generalize H1 = H at hP hS ⊢
                obtain ⟨fr_134, hAW_130, hv_131⟩ := hw_132
                refine lv_iload_n hx hb dX6_keepNumber_208 rfl (lv_at hl 0 rfl) ?_
                have hv_135 : WV ad cA g_133 (38 + 2 * L.length) p9 := WV.same hv_119 ((fun (k : Nat) (hk : k = 2 * (38 + 2 * L.length) ∨ k = 2 * (38 + 2 * L.length) + 1) => (fr_134 k (by omega)).trans (rfl)) _ (Or.inl rfl)) ((fun (k : Nat) (hk : k = 2 * (38 + 2 * L.length) ∨ k = 2 * (38 + 2 * L.length) + 1) => (fr_134 k (by omega)).trans (rfl)) _ (Or.inr rfl))
                have f_136 : g_133 2080 = .inr (9, [.ref (ad 2081), .ref (ad 2082), .int (nI (L.length + 1)), .ref (ad 2083), .ref (ad 2077), .ref (ad 2107), .ref (ad (2 * 6))]) := (fr_134 2080 (by omega)).trans f_123
                have f_137 : g_133 (2117 + 2 * L.length) = .inr (6, [.ref (ad (2118 + 2 * L.length)), .int (nI 0), .int (-1), .int (-1), .int (nI 0), .int (nI sn), .int (nI sd)]) := (fr_134 (2117 + 2 * L.length) (by omega)).trans f_125
                have hcs : CS ad cA g_133 (L ++ [dn]) := CS.lay hC hl9 hAW_130 f_136 f_137 (by rw [e0]; exact nI_iI 0) (by rw [e1]; decide) (by rw [e2]; decide) (by rw [e3]; exact nI_iI 0) (by rw [e4]; exact nI_iI _) (by rw [e5]; exact nI_iI _) (by omega) (fun (k : Nat) (hk : (76 ≤ k ∧ k < 76 + 4 * L.length) ∨ k = 2077 ∨ k = 2107 ∨ k = 2081 ∨ (2117 ≤ k ∧ k < 2517 ∧ k ≠ 2117 + 2 * L.length)) => (fr_134 k (by omega)).trans ((fr_122 k (by omega)).trans ((fr_108 k (by omega)).trans (rfl)))) (fun _ => ⟨by rw [e6]; exact hv_135, by rw [e7]; exact hv_131, e1, e2⟩)
                refine W.widen (k := 0) (n := 0) (by omega) (by omega) ?_
                exact W.iret (v := nI L.length) hx hb hr (fun t9 ht9 hW9 => ⟨⟨nI L.length, g_133, rfl, ⟨(fun (k : Nat) (hk : (14 ≤ k ∧ k < 76) ∨ (876 ≤ k ∧ k < 2080) ∨ (2081 ≤ k ∧ k < 2117)) => (fr_134 k (by omega)).trans ((fr_122 k (by omega)).trans ((fr_108 k (by omega)).trans (rfl)))), by rw [hnl]; exact CMK.new (keepL_new (by omega) (by omega) (fun j hj => hno j (by omega))) hcs⟩, by show va_P (dC, dI) vwCl _ t9.heap; rw [ht9]; exact hP⟩, hS.F ht9⟩) hS.2.2 dX6_keepNumber_209
            · have c_104 := mt (nI_leI (a := L.length) (b := i) (by omega) (by omega)).mpr c_104
              have hp0 := hpb 0 i
              refine lv_aload_n hx hb dX6_keepNumber_70 rfl (lv_at hl 0 rfl) ?_
              refine m_get (D := (dC, dI)) (v := .ref (ad 2081)) (C := RX6) (T := TX6) (N := 7) hx hb hts bk0 hown hK hP 2080 (by decide) hO rfl 0 (by decide) (hts (.fieldLink RX6 11 "GradientDesk$Shelf" "parts" "[LGradientDesk$Part;") (List.mem_of_getElem? (i := 20) rfl)) (fun _ h9 => h9) rfl dX6_keepNumber_71 ?_
              refine lv_iload_n hx hb dX6_keepNumber_74 rfl (lv_at hl 3 rfl) ?_
              refine m_aald hx hb hK hP 2081 (by decide) rfl hPa (i := i) (v := ad (2117 + 2 * i)) (by omega) (by decide) rfl dX6_keepNumber_75 ?_
              have hp_138 := hPt.1 i (by omega)
              refine m_get (D := (dC, dI)) (v := .ref (ad (2118 + 2 * i))) (C := RX3) (T := TX3) (N := 7) hx hb hts bk5 hown hK hP (2117 + 2 * i) (ns_p (by omega)) hp_138 rfl 0 (by decide) (hts (.fieldLink RX6 68 "GradientDesk$Part" "number" "LGradientDesk$Fraction;") (List.mem_of_getElem? (i := 21) rfl)) (fun _ h9 => h9) rfl dX6_keepNumber_76 ?_
              refine lv_astore (lv' := [(4, .ref (ad (2118 + 2 * i))), (0, .ref (ad 2080)), (1, .int (nI sn)), (2, .int (nI sd)), (3, .int (nI i))]) hx hb dX6_keepNumber_79 hl (by decide) rfl (fun ls hl => ?_)
              refine lv_aload hx hb dX6_keepNumber_81 (lv_at hl 0 rfl) ?_
              have hq_139 := hFr i (by omega)
              refine m_get (D := (dC, dI)) (v := .ref (ad (2 * (38 + 2 * i)))) (C := RX2) (T := TX2) (N := 2) hx hb hts bk1 hown hK hP (2118 + 2 * i) (ns_q (by omega)) hq_139 rfl 0 (by decide) (hts (.fieldLink RX6 112 "GradientDesk$Fraction" "top" "LGradientDesk$Whole;") (List.mem_of_getElem? (i := 2) rfl)) (fun _ h9 => h9) rfl dX6_keepNumber_83 ?_
              refine lv_aload_n hx hb dX6_keepNumber_86 rfl (lv_at hl 1 rfl) ?_
              refine m_get (D := (dC, dI)) (v := .ref (ad 2107)) (C := RX6) (T := TX6) (N := 7) hx hb hts bk0 hown hK hP 2080 (by decide) hO rfl 5 (by decide) (hts (.fieldLink RX6 30 "GradientDesk$Shelf" "work" "LGradientDesk$Fraction;") (List.mem_of_getElem? (i := 1) rfl)) (fun _ h9 => h9) rfl dX6_keepNumber_87 ?_
              refine m_get (D := (dC, dI)) (v := .ref (ad (2 * 4))) (C := RX2) (T := TX2) (N := 2) hx hb hts bk1 hown hK hP 2107 (by decide) hWk rfl 0 (by decide) (hts (.fieldLink RX6 112 "GradientDesk$Fraction" "top" "LGradientDesk$Whole;") (List.mem_of_getElem? (i := 2) rfl)) (fun _ h9 => h9) rfl dX6_keepNumber_90 ?_
              obtain ⟨m0, m1, m2, m3, m4, m5, m6⟩ := hM i (by omega)
              rcases Nat.eq_zero_or_pos (gd L i).1 with hnum | hnum
              · skip
                obtain ⟨n1, n2, n3, n4⟩ := m6 hnum
                clear m6
                obtain ⟨mw_140, sw_140, nw_140, fw_140, aw_140, bw_140, cw_140, dw_140, ew_140⟩ := hW (38 + 2 * i) (by omega)
                have qw_140 : mw_140 ≤ 4096 := by rw [dw_140]; exact rmc_le _
                refine va_calli (va_runV (As := [.ref (ad (2 * 4))]) (rest := []) ⟨hx, hb, hml, hown, hts⟩ (c_V8_equalTo l dC dI A ad cA g (38 + 2 * i) 4 ((gd L i).2.2.2.2.2.2.1) p9 hW (by omega) (by decide) n1 w4) (cwV 1 hts (goodIn_app (goodIn_r [Cond.methodLink RX6 138 yX8_equalTo, Cond.instanceMethod yX8_equalTo, Cond.selects RX8 yX8_equalTo yX8_equalTo, Cond.initialized RX8] [25, 26, 27, 6] rfl rfl) (goodIn_sub (fun w9 h9 => bk7 w9 h9) gw_V8_equalTo)) rfl rfl rfl (by decide +kernel) ⟨Nat.le_of_ble_eq_true rfl, Nat.le_of_ble_eq_true rfl⟩) ⟨fun a U g mk q => ⟨q.1, q.2.1, q.2.2.1, LY.moved (u := U) (U := U.calling g mk a) (Vm.Alike.refl U.vm) q.2.2.2⟩, va_recv hK hP (ci := 11) (q0 := (2 * (38 + 2 * i))) rfl (wo_at (ns_w (by omega)) aw_140), fun U hU hW => ⟨rfl, by rw [hU]; exact fun q h => hA q (Nat.le_trans hS.1 h), by rw [hU]; exact hP, LY.moved hW.alike hL⟩⟩ rfl rfl hl.1 rfl (lv_room (Nat.le_of_ble_eq_true rfl)) dX6_keepNumber_93 ⟨(Nat.le_of_ble_eq_true rfl), (Nat.le_of_ble_eq_true rfl)⟩) hS (fun q _ h => h) (fun q h => h) (fun r_141 u8 t8 H1 locs ht8 hvm8 hw_142 hB hz1 hk1 hS => ?_)
                obtain ⟨⟩ := u8
                try dsimp only at hw_142 hB
                rw [ht8] at hB
                have hP := hB
                generalize H1 = H at hP hS ⊢
                obtain ⟨b1, hb8, rfl, he1⟩ := eq01 hw_142
                refine lv_if_eq (tgt := 121) hx hb dX6_keepNumber_96 (by decide) (fun c_143 => ?_) (fun c_143 => ?_)
                · have c_143 := (nI_eq (a := b1) (b := 0) (by omega) (by decide)).mp c_143
                  refine lv_iconst (v := nI 0) hx hb dX6_keepNumber_121 (by decide +kernel) ?_
                  refine lv_istore (lv' := [(5, .int (nI 0)), (4, .ref (ad (2118 + 2 * i))), (0, .ref (ad 2080)), (1, .int (nI sn)), (2, .int (nI sd)), (3, .int (nI i))]) hx hb dX6_keepNumber_122 hl (by decide) rfl (fun ls hl => ?_)
                  refine lv_iload hx hb dX6_keepNumber_124 (lv_at hl 0 rfl) ?_
                  refine lv_if_eq (tgt := 143) hx hb dX6_keepNumber_126 (by decide) (fun c_144 => ?_) (fun c_144 => absurd c_144 (by decide))
                  refine lv_iinc (v := nI (i + 1)) (lv' := [(3, .int (nI (i + 1))), (5, .int (nI 0)), (4, .ref (ad (2118 + 2 * i))), (0, .ref (ad 2080)), (1, .int (nI sn)), (2, .int (nI sd))]) hx hb dX6_keepNumber_143 hl (k := 5) rfl (nI_add i 1) (by decide) rfl (fun ls hl => ?_)
                  refine lv_goto (tgt := 62) hx hb dX6_keepNumber_146 (by decide) ?_
                  exact ih_101 (i + 1) (by omega) (by omega) (fun j hj => by by_cases h9 : j = i; subst h9; exact (k_nky m0 m1 m2 rfl rfl rfl (fun _ _ _ => ⟨hnum, fun hp9 hq9 => by have x1 := he1.mpr (hp9.trans e6); omega⟩)); exact hno j (by omega)) _ _ _ hP hS (lv_sub (l' := [(0, .ref (ad 2080)), (1, .int (nI sn)), (2, .int (nI sd)), (3, .int (nI (i + 1)))]) hl [3, 4, 5, 0] rfl)
                · have c_143 := mt (nI_eq (a := b1) (b := 0) (by omega) (by decide)).mpr c_143
                  refine lv_aload hx hb dX6_keepNumber_99 (lv_at hl 0 rfl) ?_
                  refine m_get (D := (dC, dI)) (v := .ref (ad (2 * (39 + 2 * i)))) (C := RX2) (T := TX2) (N := 2) hx hb hts bk1 hown hK hP (2118 + 2 * i) (ns_q (by omega)) hq_139 rfl 1 (by decide) (hts (.fieldLink RX6 122 "GradientDesk$Fraction" "bottom" "LGradientDesk$Whole;") (List.mem_of_getElem? (i := 11) rfl)) (fun _ h9 => h9) rfl dX6_keepNumber_101 ?_
                  refine lv_aload_n hx hb dX6_keepNumber_104 rfl (lv_at hl 1 rfl) ?_
                  refine m_get (D := (dC, dI)) (v := .ref (ad 2107)) (C := RX6) (T := TX6) (N := 7) hx hb hts bk0 hown hK hP 2080 (by decide) hO rfl 5 (by decide) (hts (.fieldLink RX6 30 "GradientDesk$Shelf" "work" "LGradientDesk$Fraction;") (List.mem_of_getElem? (i := 1) rfl)) (fun _ h9 => h9) rfl dX6_keepNumber_105 ?_
                  refine m_get (D := (dC, dI)) (v := .ref (ad (2 * 5))) (C := RX2) (T := TX2) (N := 2) hx hb hts bk1 hown hK hP 2107 (by decide) hWk rfl 1 (by decide) (hts (.fieldLink RX6 122 "GradientDesk$Fraction" "bottom" "LGradientDesk$Whole;") (List.mem_of_getElem? (i := 11) rfl)) (fun _ h9 => h9) rfl dX6_keepNumber_108 ?_
                  obtain ⟨mw_147, sw_147, nw_147, fw_147, aw_147, bw_147, cw_147, dw_147, ew_147⟩ := hW (39 + 2 * i) (by omega)
                  have qw_147 : mw_147 ≤ 4096 := by rw [dw_147]; exact rmc_le _
                  refine va_calli (va_runV (As := [.ref (ad (2 * 5))]) (rest := []) ⟨hx, hb, hml, hown, hts⟩ (c_V8_equalTo l dC dI A ad cA g (39 + 2 * i) 5 (((gd L i).2.2.2.2.2.2.2 : Nat) : Int) ((q9 : Nat) : Int) hW (by omega) (by decide) n2 w5) (cwV 1 hts (goodIn_app (goodIn_r [Cond.methodLink RX6 138 yX8_equalTo, Cond.instanceMethod yX8_equalTo, Cond.selects RX8 yX8_equalTo yX8_equalTo, Cond.initialized RX8] [25, 26, 27, 6] rfl rfl) (goodIn_sub (fun w9 h9 => bk7 w9 h9) gw_V8_equalTo)) rfl rfl rfl (by decide +kernel) ⟨Nat.le_of_ble_eq_true rfl, Nat.le_of_ble_eq_true rfl⟩) ⟨fun a U g mk q => ⟨q.1, q.2.1, q.2.2.1, LY.moved (u := U) (U := U.calling g mk a) (Vm.Alike.refl U.vm) q.2.2.2⟩, va_recv hK hP (ci := 11) (q0 := (2 * (39 + 2 * i))) rfl (wo_at (ns_w (by omega)) aw_147), fun U hU hW => ⟨rfl, by rw [hU]; exact fun q h => hA q (Nat.le_trans hS.1 h), by rw [hU]; exact hP, LY.moved hW.alike hL⟩⟩ rfl rfl hl.1 rfl (lv_room (Nat.le_of_ble_eq_true rfl)) dX6_keepNumber_111 ⟨(Nat.le_of_ble_eq_true rfl), (Nat.le_of_ble_eq_true rfl)⟩) hS (fun q _ h => h) (fun q h => h) (fun r_148 u8 t8 H1 locs ht8 hvm8 hw_149 hB hz1 hk1 hS => ?_)
                  obtain ⟨⟩ := u8
                  try dsimp only at hw_149 hB
                  rw [ht8] at hB
                  have hP := hB
                  generalize H1 = H at hP hS ⊢
                  obtain ⟨b2, hb9, rfl, he2⟩ := eq01 hw_149
                  refine lv_if_eq (tgt := 121) hx hb dX6_keepNumber_114 (by decide) (fun c_150 => ?_) (fun c_150 => ?_)
                  · have c_150 := (nI_eq (a := b2) (b := 0) (by omega) (by decide)).mp c_150
                    refine lv_iconst (v := nI 0) hx hb dX6_keepNumber_121 (by decide +kernel) ?_
                    refine lv_istore (lv' := [(5, .int (nI 0)), (4, .ref (ad (2118 + 2 * i))), (0, .ref (ad 2080)), (1, .int (nI sn)), (2, .int (nI sd)), (3, .int (nI i))]) hx hb dX6_keepNumber_122 hl (by decide) rfl (fun ls hl => ?_)
                    refine lv_iload hx hb dX6_keepNumber_124 (lv_at hl 0 rfl) ?_
                    refine lv_if_eq (tgt := 143) hx hb dX6_keepNumber_126 (by decide) (fun c_151 => ?_) (fun c_151 => absurd c_151 (by decide))
                    refine lv_iinc (v := nI (i + 1)) (lv' := [(3, .int (nI (i + 1))), (5, .int (nI 0)), (4, .ref (ad (2118 + 2 * i))), (0, .ref (ad 2080)), (1, .int (nI sn)), (2, .int (nI sd))]) hx hb dX6_keepNumber_143 hl (k := 5) rfl (nI_add i 1) (by decide) rfl (fun ls hl => ?_)
                    refine lv_goto (tgt := 62) hx hb dX6_keepNumber_146 (by decide) ?_
                    exact ih_101 (i + 1) (by omega) (by omega) (fun j hj => by by_cases h9 : j = i; subst h9; exact (k_nky m0 m1 m2 rfl rfl rfl (fun _ _ _ => ⟨hnum, fun hp9 hq9 => by have x1 := he1.mpr (hp9.trans e6); have x2 := he2.mpr (by rw [hq9, e7]); omega⟩)); exact hno j (by omega)) _ _ _ hP hS (lv_sub (l' := [(0, .ref (ad 2080)), (1, .int (nI sn)), (2, .int (nI sd)), (3, .int (nI (i + 1)))]) hl [3, 4, 5, 0] rfl)
                  · have c_150 := mt (nI_eq (a := b2) (b := 0) (by omega) (by decide)).mpr c_150
                    refine lv_iconst (v := nI 1) hx hb dX6_keepNumber_117 (by decide +kernel) ?_
                    refine lv_goto (tgt := 122) hx hb dX6_keepNumber_118 (by decide) ?_
                    refine lv_istore (lv' := [(5, .int (nI 1)), (4, .ref (ad (2118 + 2 * i))), (0, .ref (ad 2080)), (1, .int (nI sn)), (2, .int (nI sd)), (3, .int (nI i))]) hx hb dX6_keepNumber_122 hl (by decide) rfl (fun ls hl => ?_)
                    refine lv_iload hx hb dX6_keepNumber_124 (lv_at hl 0 rfl) ?_
                    refine lv_if_eq (tgt := 143) hx hb dX6_keepNumber_126 (by decide) (fun c_154 => absurd c_154 (by decide)) (fun c_154 => ?_)
                    refine lv_aload_n hx hb dX6_keepNumber_129 rfl (lv_at hl 2 rfl) ?_
                    refine m_get (D := (dC, dI)) (v := .ref (ad 2081)) (C := RX6) (T := TX6) (N := 7) hx hb hts bk0 hown hK hP 2080 (by decide) hO rfl 0 (by decide) (hts (.fieldLink RX6 11 "GradientDesk$Shelf" "parts" "[LGradientDesk$Part;") (List.mem_of_getElem? (i := 20) rfl)) (fun _ h9 => h9) rfl dX6_keepNumber_130 ?_
                    refine lv_iload_n hx hb dX6_keepNumber_133 rfl (lv_at hl 5 rfl) ?_
                    refine m_aald hx hb hK hP 2081 (by decide) rfl hPa (i := i) (v := ad (2117 + 2 * i)) (by omega) (by decide) rfl dX6_keepNumber_134 ?_
                    refine m_get (D := (dC, dI)) (v := .int (iI (pt 0 i))) (C := RX3) (T := TX3) (N := 7) hx hb hts bk5 hown hK hP (2117 + 2 * i) (ns_p (by omega)) hp_138 rfl 1 (by decide) (hts (.fieldLink RX6 64 "GradientDesk$Part" "sort" "I") (List.mem_of_getElem? (i := 28) rfl)) (fun _ h9 => h9) rfl dX6_keepNumber_135 ?_
                    refine lv_if_ne (tgt := 143) hx hb dX6_keepNumber_138 (by decide) (fun c_155 => ?_) (fun c_155 => ?_)
                    · have c_155 := mt (k_iEQ (a := pt 0 i) (b := 0) rfl (show nI 0 = iI 0 from by decide) (by omega) (by omega)).mpr c_155
                      refine lv_iinc (v := nI (i + 1)) (lv' := [(3, .int (nI (i + 1))), (5, .int (nI 1)), (4, .ref (ad (2118 + 2 * i))), (0, .ref (ad 2080)), (1, .int (nI sn)), (2, .int (nI sd))]) hx hb dX6_keepNumber_143 hl (k := 5) rfl (nI_add i 1) (by decide) rfl (fun ls hl => ?_)
                      refine lv_goto (tgt := 62) hx hb dX6_keepNumber_146 (by decide) ?_
                      exact ih_101 (i + 1) (by omega) (by omega) (fun j hj => by by_cases h9 : j = i; subst h9; exact (k_nky m0 m1 m2 rfl rfl rfl (fun _ _ _ => ⟨hnum, fun hp9 hq9 => by have x1 := he1.mpr (hp9.trans e6); have x2 := he2.mpr (by rw [hq9, e7]); omega⟩)); exact hno j (by omega)) _ _ _ hP hS (lv_sub (l' := [(0, .ref (ad 2080)), (1, .int (nI sn)), (2, .int (nI sd)), (3, .int (nI (i + 1)))]) hl [3, 4, 5, 0] rfl)
                    · have c_155 := (k_iEQ (a := pt 0 i) (b := 0) rfl (show nI 0 = iI 0 from by decide) (by omega) (by omega)).mp c_155
                      refine lv_iload_n hx hb dX6_keepNumber_141 rfl (lv_at hl 5 rfl) ?_
                      refine W.widen (k := 0) (n := 0) (by omega) (by omega) ?_
                      exact W.iret (v := nI i) hx hb hr (fun t9 ht9 hW9 => ⟨⟨nI i, g, rfl, ⟨(fun (k : Nat) (hk : (14 ≤ k ∧ k < 76) ∨ (876 ≤ k ∧ k < 2080) ∨ (2081 ≤ k ∧ k < 2117)) => rfl), by rw [hnl]; exact CMK.old (keepL_old (by omega) (by omega) (k_ky m0 m1 m2 rfl rfl rfl (by omega) (by rw [m1, e1]; exact n3) (by rw [m2, e2]; exact n4) (fun _ => ⟨(he1.mp (by omega)).trans e6.symm, by have x2 := he2.mp (by omega); omega⟩)) hno) (by omega) hC⟩, by show va_P (dC, dI) vwCl _ t9.heap; rw [ht9]; exact hP⟩, hS.F ht9⟩) hS.2.2 dX6_keepNumber_142
              · skip
                clear m6
                obtain ⟨mw_158, sw_158, nw_158, fw_158, aw_158, bw_158, cw_158, dw_158, ew_158⟩ := hW (38 + 2 * i) (by omega)
                have qw_158 : mw_158 ≤ 4096 := by rw [dw_158]; exact rmc_le _
                refine va_calli (va_runV (As := [.ref (ad (2 * 4))]) (rest := []) ⟨hx, hb, hml, hown, hts⟩ (c_X8_equalTo l dC dI A ad cA g (38 + 2 * i) 4 hW (by omega) (by decide)) (cwV 1 hts (goodIn_app (goodIn_r [Cond.methodLink RX6 138 yX8_equalTo, Cond.instanceMethod yX8_equalTo, Cond.selects RX8 yX8_equalTo yX8_equalTo, Cond.initialized RX8] [25, 26, 27, 6] rfl rfl) (goodIn_sub (fun w9 h9 => bk8 w9 h9) gw_X8_equalTo)) rfl rfl rfl (by decide +kernel) ⟨Nat.le_of_ble_eq_true rfl, Nat.le_of_ble_eq_true rfl⟩) ⟨fun a U g mk q => ⟨q.1, q.2.1, q.2.2.1, LY.moved (u := U) (U := U.calling g mk a) (Vm.Alike.refl U.vm) q.2.2.2⟩, va_recv hK hP (ci := 11) (q0 := (2 * (38 + 2 * i))) rfl (wo_at (ns_w (by omega)) aw_158), fun U hU hW => ⟨rfl, by rw [hU]; exact fun q h => hA q (Nat.le_trans hS.1 h), by rw [hU]; exact hP, LY.moved hW.alike hL⟩⟩ rfl rfl hl.1 rfl (lv_room (Nat.le_of_ble_eq_true rfl)) dX6_keepNumber_93 ⟨(Nat.le_of_ble_eq_true rfl), (Nat.le_of_ble_eq_true rfl)⟩) hS (fun q _ h => h) (fun q h => h) (fun r_159 u8 t8 H1 locs ht8 hvm8 hw_160 hB hz1 hk1 hS => ?_)
                obtain ⟨⟩ := u8
                try dsimp only at hw_160 hB
                rw [ht8] at hB
                have hP := hB
                generalize H1 = H at hP hS ⊢
                obtain ⟨b1, hb8, rfl⟩ := hw_160
                refine lv_if_eq (tgt := 121) hx hb dX6_keepNumber_96 (by decide) (fun c_161 => ?_) (fun c_161 => ?_)
                · have c_161 := (nI_eq (a := b1) (b := 0) (by omega) (by decide)).mp c_161
                  refine lv_iconst (v := nI 0) hx hb dX6_keepNumber_121 (by decide +kernel) ?_
                  refine lv_istore (lv' := [(5, .int (nI 0)), (4, .ref (ad (2118 + 2 * i))), (0, .ref (ad 2080)), (1, .int (nI sn)), (2, .int (nI sd)), (3, .int (nI i))]) hx hb dX6_keepNumber_122 hl (by decide) rfl (fun ls hl => ?_)
                  refine lv_iload hx hb dX6_keepNumber_124 (lv_at hl 0 rfl) ?_
                  refine lv_if_eq (tgt := 143) hx hb dX6_keepNumber_126 (by decide) (fun c_162 => ?_) (fun c_162 => absurd c_162 (by decide))
                  refine lv_iinc (v := nI (i + 1)) (lv' := [(3, .int (nI (i + 1))), (5, .int (nI 0)), (4, .ref (ad (2118 + 2 * i))), (0, .ref (ad 2080)), (1, .int (nI sn)), (2, .int (nI sd))]) hx hb dX6_keepNumber_143 hl (k := 5) rfl (nI_add i 1) (by decide) rfl (fun ls hl => ?_)
                  refine lv_goto (tgt := 62) hx hb dX6_keepNumber_146 (by decide) ?_
                  exact ih_101 (i + 1) (by omega) (by omega) (fun j hj => by by_cases h9 : j = i; subst h9; exact (k_nky m0 m1 m2 rfl rfl rfl (fun h0 _ _ => (by omega : False).elim)); exact hno j (by omega)) _ _ _ hP hS (lv_sub (l' := [(0, .ref (ad 2080)), (1, .int (nI sn)), (2, .int (nI sd)), (3, .int (nI (i + 1)))]) hl [3, 4, 5, 0] rfl)
                · have c_161 := mt (nI_eq (a := b1) (b := 0) (by omega) (by decide)).mpr c_161
                  refine lv_aload hx hb dX6_keepNumber_99 (lv_at hl 0 rfl) ?_
                  refine m_get (D := (dC, dI)) (v := .ref (ad (2 * (39 + 2 * i)))) (C := RX2) (T := TX2) (N := 2) hx hb hts bk1 hown hK hP (2118 + 2 * i) (ns_q (by omega)) hq_139 rfl 1 (by decide) (hts (.fieldLink RX6 122 "GradientDesk$Fraction" "bottom" "LGradientDesk$Whole;") (List.mem_of_getElem? (i := 11) rfl)) (fun _ h9 => h9) rfl dX6_keepNumber_101 ?_
                  refine lv_aload_n hx hb dX6_keepNumber_104 rfl (lv_at hl 1 rfl) ?_
                  refine m_get (D := (dC, dI)) (v := .ref (ad 2107)) (C := RX6) (T := TX6) (N := 7) hx hb hts bk0 hown hK hP 2080 (by decide) hO rfl 5 (by decide) (hts (.fieldLink RX6 30 "GradientDesk$Shelf" "work" "LGradientDesk$Fraction;") (List.mem_of_getElem? (i := 1) rfl)) (fun _ h9 => h9) rfl dX6_keepNumber_105 ?_
                  refine m_get (D := (dC, dI)) (v := .ref (ad (2 * 5))) (C := RX2) (T := TX2) (N := 2) hx hb hts bk1 hown hK hP 2107 (by decide) hWk rfl 1 (by decide) (hts (.fieldLink RX6 122 "GradientDesk$Fraction" "bottom" "LGradientDesk$Whole;") (List.mem_of_getElem? (i := 11) rfl)) (fun _ h9 => h9) rfl dX6_keepNumber_108 ?_
                  obtain ⟨mw_165, sw_165, nw_165, fw_165, aw_165, bw_165, cw_165, dw_165, ew_165⟩ := hW (39 + 2 * i) (by omega)
                  have qw_165 : mw_165 ≤ 4096 := by rw [dw_165]; exact rmc_le _
                  refine va_calli (va_runV (As := [.ref (ad (2 * 5))]) (rest := []) ⟨hx, hb, hml, hown, hts⟩ (c_X8_equalTo l dC dI A ad cA g (39 + 2 * i) 5 hW (by omega) (by decide)) (cwV 1 hts (goodIn_app (goodIn_r [Cond.methodLink RX6 138 yX8_equalTo, Cond.instanceMethod yX8_equalTo, Cond.selects RX8 yX8_equalTo yX8_equalTo, Cond.initialized RX8] [25, 26, 27, 6] rfl rfl) (goodIn_sub (fun w9 h9 => bk8 w9 h9) gw_X8_equalTo)) rfl rfl rfl (by decide +kernel) ⟨Nat.le_of_ble_eq_true rfl, Nat.le_of_ble_eq_true rfl⟩) ⟨fun a U g mk q => ⟨q.1, q.2.1, q.2.2.1, LY.moved (u := U) (U := U.calling g mk a) (Vm.Alike.refl U.vm) q.2.2.2⟩, va_recv hK hP (ci := 11) (q0 := (2 * (39 + 2 * i))) rfl (wo_at (ns_w (by omega)) aw_165), fun U hU hW => ⟨rfl, by rw [hU]; exact fun q h => hA q (Nat.le_trans hS.1 h), by rw [hU]; exact hP, LY.moved hW.alike hL⟩⟩ rfl rfl hl.1 rfl (lv_room (Nat.le_of_ble_eq_true rfl)) dX6_keepNumber_111 ⟨(Nat.le_of_ble_eq_true rfl), (Nat.le_of_ble_eq_true rfl)⟩) hS (fun q _ h => h) (fun q h => h) (fun r_166 u8 t8 H1 locs ht8 hvm8 hw_167 hB hz1 hk1 hS => ?_)
                  obtain ⟨⟩ := u8
                  try dsimp only at hw_167 hB
                  rw [ht8] at hB
                  have hP := hB
                  generalize H1 = H at hP hS ⊢
                  obtain ⟨b2, hb9, rfl⟩ := hw_167
                  refine lv_if_eq (tgt := 121) hx hb dX6_keepNumber_114 (by decide) (fun c_168 => ?_) (fun c_168 => ?_)
                  · have c_168 := (nI_eq (a := b2) (b := 0) (by omega) (by decide)).mp c_168
                    refine lv_iconst (v := nI 0) hx hb dX6_keepNumber_121 (by decide +kernel) ?_
                    refine lv_istore (lv' := [(5, .int (nI 0)), (4, .ref (ad (2118 + 2 * i))), (0, .ref (ad 2080)), (1, .int (nI sn)), (2, .int (nI sd)), (3, .int (nI i))]) hx hb dX6_keepNumber_122 hl (by decide) rfl (fun ls hl => ?_)
                    refine lv_iload hx hb dX6_keepNumber_124 (lv_at hl 0 rfl) ?_
                    refine lv_if_eq (tgt := 143) hx hb dX6_keepNumber_126 (by decide) (fun c_169 => ?_) (fun c_169 => absurd c_169 (by decide))
                    refine lv_iinc (v := nI (i + 1)) (lv' := [(3, .int (nI (i + 1))), (5, .int (nI 0)), (4, .ref (ad (2118 + 2 * i))), (0, .ref (ad 2080)), (1, .int (nI sn)), (2, .int (nI sd))]) hx hb dX6_keepNumber_143 hl (k := 5) rfl (nI_add i 1) (by decide) rfl (fun ls hl => ?_)
                    refine lv_goto (tgt := 62) hx hb dX6_keepNumber_146 (by decide) ?_
                    exact ih_101 (i + 1) (by omega) (by omega) (fun j hj => by by_cases h9 : j = i; subst h9; exact (k_nky m0 m1 m2 rfl rfl rfl (fun h0 _ _ => (by omega : False).elim)); exact hno j (by omega)) _ _ _ hP hS (lv_sub (l' := [(0, .ref (ad 2080)), (1, .int (nI sn)), (2, .int (nI sd)), (3, .int (nI (i + 1)))]) hl [3, 4, 5, 0] rfl)
                  · have c_168 := mt (nI_eq (a := b2) (b := 0) (by omega) (by decide)).mpr c_168
                    refine lv_iconst (v := nI 1) hx hb dX6_keepNumber_117 (by decide +kernel) ?_
                    refine lv_goto (tgt := 122) hx hb dX6_keepNumber_118 (by decide) ?_
                    refine lv_istore (lv' := [(5, .int (nI 1)), (4, .ref (ad (2118 + 2 * i))), (0, .ref (ad 2080)), (1, .int (nI sn)), (2, .int (nI sd)), (3, .int (nI i))]) hx hb dX6_keepNumber_122 hl (by decide) rfl (fun ls hl => ?_)
                    refine lv_iload hx hb dX6_keepNumber_124 (lv_at hl 0 rfl) ?_
                    refine lv_if_eq (tgt := 143) hx hb dX6_keepNumber_126 (by decide) (fun c_172 => absurd c_172 (by decide)) (fun c_172 => ?_)
                    refine lv_aload_n hx hb dX6_keepNumber_129 rfl (lv_at hl 2 rfl) ?_
                    refine m_get (D := (dC, dI)) (v := .ref (ad 2081)) (C := RX6) (T := TX6) (N := 7) hx hb hts bk0 hown hK hP 2080 (by decide) hO rfl 0 (by decide) (hts (.fieldLink RX6 11 "GradientDesk$Shelf" "parts" "[LGradientDesk$Part;") (List.mem_of_getElem? (i := 20) rfl)) (fun _ h9 => h9) rfl dX6_keepNumber_130 ?_
                    refine lv_iload_n hx hb dX6_keepNumber_133 rfl (lv_at hl 5 rfl) ?_
                    refine m_aald hx hb hK hP 2081 (by decide) rfl hPa (i := i) (v := ad (2117 + 2 * i)) (by omega) (by decide) rfl dX6_keepNumber_134 ?_
                    refine m_get (D := (dC, dI)) (v := .int (iI (pt 0 i))) (C := RX3) (T := TX3) (N := 7) hx hb hts bk5 hown hK hP (2117 + 2 * i) (ns_p (by omega)) hp_138 rfl 1 (by decide) (hts (.fieldLink RX6 64 "GradientDesk$Part" "sort" "I") (List.mem_of_getElem? (i := 28) rfl)) (fun _ h9 => h9) rfl dX6_keepNumber_135 ?_
                    refine lv_if_ne (tgt := 143) hx hb dX6_keepNumber_138 (by decide) (fun c_173 => ?_) (fun c_173 => ?_)
                    · have c_173 := mt (k_iEQ (a := pt 0 i) (b := 0) rfl (show nI 0 = iI 0 from by decide) (by omega) (by omega)).mpr c_173
                      refine lv_iinc (v := nI (i + 1)) (lv' := [(3, .int (nI (i + 1))), (5, .int (nI 1)), (4, .ref (ad (2118 + 2 * i))), (0, .ref (ad 2080)), (1, .int (nI sn)), (2, .int (nI sd))]) hx hb dX6_keepNumber_143 hl (k := 5) rfl (nI_add i 1) (by decide) rfl (fun ls hl => ?_)
                      refine lv_goto (tgt := 62) hx hb dX6_keepNumber_146 (by decide) ?_
                      exact ih_101 (i + 1) (by omega) (by omega) (fun j hj => by by_cases h9 : j = i; subst h9; exact (k_nky m0 m1 m2 rfl rfl rfl (fun h0 _ _ => (by omega : False).elim)); exact hno j (by omega)) _ _ _ hP hS (lv_sub (l' := [(0, .ref (ad 2080)), (1, .int (nI sn)), (2, .int (nI sd)), (3, .int (nI (i + 1)))]) hl [3, 4, 5, 0] rfl)
                    · have c_173 := (k_iEQ (a := pt 0 i) (b := 0) rfl (show nI 0 = iI 0 from by decide) (by omega) (by omega)).mp c_173
                      refine lv_iload_n hx hb dX6_keepNumber_141 rfl (lv_at hl 5 rfl) ?_
                      refine W.widen (k := 0) (n := 0) (by omega) (by omega) ?_
                      exact W.iret (v := nI i) hx hb hr (fun t9 ht9 hW9 => ⟨⟨nI i, g, rfl, ⟨(fun (k : Nat) (hk : (14 ≤ k ∧ k < 76) ∨ (876 ≤ k ∧ k < 2080) ∨ (2081 ≤ k ∧ k < 2117)) => rfl), by rw [hnl]; exact (by omega : False).elim⟩, by show va_P (dC, dI) vwCl _ t9.heap; rw [ht9]; exact hP⟩, hS.F ht9⟩) hS.2.2 dX6_keepNumber_142
        exact loop_100 _ 0 (Nat.lt_succ_self _) (Nat.zero_le _) (fun j h => absurd h (by omega)) _ _ _ hP hS (lv_sub (l' := [(0, .ref (ad 2080)), (1, .int (nI sn)), (2, .int (nI sd)), (3, .int (nI 0))]) hl [3, 2, 1, 0] rfl)
      · have c_99 := mt (nI_leI (a := sd) (b := 400) (by omega) (by decide)).mpr c_99
        refine lv_bipush (v := -3) hx hb dX6_keepNumber_57 (by decide +kernel) ?_
        refine W.widen (k := 0) (n := 0) (by omega) (by omega) ?_
        exact W.iret (v := -3) hx hb hr (fun t9 ht9 hW9 => ⟨⟨-3, g, rfl, ⟨(fun (k : Nat) (hk : (14 ≤ k ∧ k < 76) ∨ (876 ≤ k ∧ k < 2080) ∨ (2081 ≤ k ∧ k < 2117)) => rfl), by rw [hnl]; exact CMK.bad (n := -3) (by decide) (keepL_big (by omega)) (Or.inl rfl) hC⟩, by show va_P (dC, dI) vwCl _ t9.heap; rw [ht9]; exact hP⟩, hS.F ht9⟩) hS.2.2 dX6_keepNumber_59
end
section
theorem isN_t {d : PD} {v : Int} (h0 : d.1 = 0) (hp : d.2.2.2.2.2.2.1 = v) (hq : d.2.2.2.2.2.2.2 = 1) : isN d v = true := by unfold isN; simp [h0, hp, hq]
theorem isN_f {d : PD} {v : Int} (h : ¬ (d.1 = 0 ∧ d.2.2.2.2.2.2.1 = v ∧ d.2.2.2.2.2.2.2 = 1)) : isN d v = false := by
  unfold isN
  by_cases h0 : d.1 = 0
  · by_cases hp : d.2.2.2.2.2.2.1 = v
    · have hq : ¬ d.2.2.2.2.2.2.2 = 1 := fun hq => h ⟨h0, hp, hq⟩
      simp [hq]
    · simp [hp]
  · simp [h0]
theorem num13 {L : List PD} {i : Nat} (hw : WFL L) (hi : i < L.length) (h0 : (gd L i).1 = 0) : (gd L i).2.2.2.2.2.2.1.natAbs < 4294967296 ^ 13 ∧ (gd L i).2.2.2.2.2.2.2 < 4294967296 ^ 13 ∧ 0 < (gd L i).2.2.2.2.2.2.2 ∧ ((gd L i).2.2.2.2.2.2.1 = 0 → (gd L i).2.2.2.2.2.2.2 = 1) := by
  obtain ⟨-, -, -, h4, h5, -, h7, -⟩ := hw i hi
  obtain ⟨-, b1, b2, b3⟩ := h7 h0
  refine ⟨fit13 (by omega), ?_, b3.1, fun hz => ?_⟩
  · rcases b2 with b2 | b2
    · rw [b2]; exact Nat.one_lt_pow (by decide) (by decide)
    · exact fit13 (by omega)
  · have := b3.2
    rw [hz] at this
    unfold Nat.Coprime at this
    rwa [show (0 : Int).natAbs = 0 from rfl, Nat.gcd_zero_left] at this
theorem isN_n {d : PD} {v : Int} (h : isN d v = true) : d.1 = 0 := by
  rcases Nat.eq_zero_or_pos d.1 with h0 | h0
  · exact h0
  · rw [isN_f (fun h9 => absurd h9.1 (by omega))] at h; exact absurd h (by decide)
theorem isN_p {d : PD} {v : Int} (h : isN d v = true) : d.2.2.2.2.2.2.1 = v := by
  by_cases h0 : d.2.2.2.2.2.2.1 = v
  · exact h0
  · rw [isN_f (fun h9 => h0 h9.2.1)] at h; exact absurd h (by decide)
theorem isN_01 {d : PD} (h : isN d 1 = true) : isN d 0 = false := isN_f (fun h9 => by have h8 := isN_p h; omega)
theorem isN_nn {d : PD} {v : Int} (h : d.1 ≠ 0) : isN d v = false := isN_f (fun h9 => h h9.1)
end
section
def wd_V6_makeWhole : List Cond := .code yX6_makeWhole cX6_makeWhole 2 (some .int) :: (([.fieldLink RX6 30 "GradientDesk$Shelf" "work" "LGradientDesk$Fraction;", .methodLink RX6 46 yX2_becomeRatio, .instanceMethod yX2_becomeRatio, .selects RX2 yX2_becomeRatio yX2_becomeRatio, .initialized RX2, .methodLink RX6 50 yX6_keepNumber, .instanceMethod yX6_keepNumber, .selects RX6 yX6_keepNumber yX6_keepNumber, .initialized RX6] : List Cond) ++ (u_ws RX6 TX6 7 ++ (wd_V2_becomeRatio ++ (wd_V6_keepNumber ++ ([])))))
theorem gw_V6_makeWhole : wd_V6_makeWhole.all goodWord = true := k_allc rfl (k_all (by decide +kernel) (k_all (gu_X6) (k_all (gw_V2_becomeRatio) (k_all (gw_V6_keepNumber) (rfl)))))
set_option maxHeartbeats 4000000 in
set_option maxRecDepth 100000 in
theorem c_V6_makeWhole (l : Launch) (dC : Nat → ClassId) (dI : Nat → Nat → Nat) (A : Nat → Prop) (ad : Nat → Nat) (cA : Nat → ClassId) (g : Nat → va_E) (L : List PD) (v1 : Int32) (z1 : Int) (hC : CS ad cA g L) (hz1 : v1.toInt = z1) : Met l yX6_makeWhole wd_V6_makeWhole ({ frames := 40, cells := 0, slots := 0, locals := 800 }) (va_Pc [.ref (ad 2080), .int v1] (PR NSc tyc dC dI A ad cA g)) (va_Qi (fun (r : Int32) => fun (u : Nat → va_E) => match u with | g2 => (∀ k, (14 ≤ k ∧ k < 76) ∨ (876 ≤ k ∧ k < 2080) ∨ (2081 ≤ k ∧ k < 2117) → g2 k = g k) ∧ CMK ad cA g2 (numL L z1 1) r) (fun (u : Nat → va_E) (t : State) => va_P (dC, dI) vwCl (wo ad NSc u) t.heap) A) (0) (0) A := by
  refine Met.ofW (cc := cX6_makeWhole) (maxL := 2) (ret := (some .int)) (by decide) rfl ?_
  intro p e s m args below meth c s₁ B hml hv
  obtain ⟨rfl, hA, hP, hL⟩ := hv
  have hx := B.exec
  have hb := B.bytes
  have hr := B.returns
  have hts := atoms_spec (ws := wd_V6_makeWhole) B.pre
  have hown : s.vm.findClass RX6 = some m.cls := findClass_of_methodNamed B.named
  have hlocks := B.notSynchronized
  have hK := hL.1
  have hD : ∀ g, va_D A (wo ad NSc g) := fun g => wo_D hL.2.1 hL.2.2 g
  have hS : va_S A s.heap s.heap [] := va_S.rf
  have bk0 : ∀ w ∈ u_ws RX6 TX6 7, w ∈ wd_V6_makeWhole := fun _ h => List.mem_cons_of_mem _ (List.mem_append_right _ (List.mem_append_left _ h))
  have bk1 : ∀ w ∈ wd_V2_becomeRatio, w ∈ wd_V6_makeWhole := fun _ h => List.mem_cons_of_mem _ (List.mem_append_right _ (List.mem_append_right _ (List.mem_append_left _ h)))
  have bk2 : ∀ w ∈ wd_V6_keepNumber, w ∈ wd_V6_makeWhole := fun _ h => List.mem_cons_of_mem _ (List.mem_append_right _ (List.mem_append_right _ (List.mem_append_right _ (List.mem_append_left _ h))))
  have hl := lv_entry ([.ref (ad 2080), .int v1]) (n := 2) (Nat.le_of_ble_eq_true rfl)
  rw [lg_entry_eq]
  generalize (lg_sl ([.ref (ad 2080), .int v1]) ++ List.replicate (2 - (lg_sl ([.ref (ad 2080), .int v1])).length) Slot.unset).toArray = ls at hl ⊢
  have hl : lv_has ls 2 [(0, .ref (ad 2080)), (1, .int v1)] := hl
  have hC0 := hC
  obtain ⟨hLn, hW, ⟨hAr, hWk, hPa, hFr⟩, hO, pt, hPt, hM⟩ := hC0
  unfold CSO at hO
  have hpb := hPt.2
  refine lv_aload_n hx hb dX6_makeWhole_0 rfl (lv_at hl 0 rfl) ?_
  refine m_get (D := (dC, dI)) (v := .ref (ad 2107)) (C := RX6) (T := TX6) (N := 7) hx hb hts bk0 hown hK hP 2080 (by decide) hO rfl 5 (by decide) (hts (.fieldLink RX6 30 "GradientDesk$Shelf" "work" "LGradientDesk$Fraction;") (List.mem_of_getElem? (i := 1) rfl)) (fun _ h9 => h9) rfl dX6_makeWhole_1 ?_
  refine lv_iload_n hx hb dX6_makeWhole_4 rfl (lv_at hl 1 rfl) ?_
  refine lv_iconst (v := nI 1) hx hb dX6_makeWhole_5 (by decide +kernel) ?_
  refine va_callv (va_runV (As := [.int v1, .int (nI 1)]) (rest := []) ⟨hx, hb, hml, hown, hts⟩ (c_V2_becomeRatio l dC dI A ad cA g 2107 4 5 v1 (nI 1) z1 ((1 : Nat) : Int) hW hWk (by decide) (by decide) hz1 (by decide)) (cwV 2 hts (goodIn_app (goodIn_r [Cond.methodLink RX6 46 yX2_becomeRatio, Cond.instanceMethod yX2_becomeRatio, Cond.selects RX2 yX2_becomeRatio yX2_becomeRatio, Cond.initialized RX2] [2, 3, 4, 5] rfl rfl) (goodIn_sub (fun w9 h9 => bk1 w9 h9) gw_V2_becomeRatio)) rfl rfl rfl (by decide +kernel) ⟨Nat.le_of_ble_eq_true rfl, Nat.le_of_ble_eq_true rfl⟩) ⟨fun a U g mk q => ⟨q.1, q.2.1, q.2.2.1, LY.moved (u := U) (U := U.calling g mk a) (Vm.Alike.refl U.vm) q.2.2.2⟩, va_recv hK hP (ci := 5) (q0 := 2107) rfl (wo_at (by decide) hWk), fun U hU hW => ⟨rfl, by rw [hU]; exact fun q h => hA q (Nat.le_trans hS.1 h), by rw [hU]; exact hP, LY.moved hW.alike hL⟩⟩ rfl rfl hl.1 rfl (lv_room (Nat.le_of_ble_eq_true rfl)) dX6_makeWhole_6 ⟨(Nat.le_of_ble_eq_true rfl), (Nat.le_of_ble_eq_true rfl)⟩) hS (fun q _ h => h) (fun q h => h) (fun u8 t8 H1 locs ht8 hvm8 hw_4 hB hz1 hk1 hS => ?_)
  obtain ⟨g_5, rfl⟩ : ∃ z, z = u8 := ⟨_, rfl⟩
  try dsimp only at hw_4 hB
  rw [ht8] at hB
  have hP := hB
  generalize H1 = H at hP hS ⊢
  obtain ⟨fr_6, hAW_1, hv_2, hv_3⟩ := hw_4
  refine lv_aload_n hx hb dX6_makeWhole_9 rfl (lv_at hl 0 rfl) ?_
  have hC_7 : CS ad cA g_5 L := CS.same hC hAW_1 (fun (k : Nat) (hk : (76 ≤ k ∧ k < 876) ∨ k = 2077 ∨ k = 2107 ∨ k = 2080 ∨ k = 2081 ∨ (2117 ≤ k ∧ k < 2517)) => (fr_6 k (by omega)).trans (rfl))
  have f_8 : g_5 2080 = .inr (9, [.ref (ad 2081), .ref (ad 2082), .int (nI L.length), .ref (ad 2083), .ref (ad 2077), .ref (ad 2107), .ref (ad (2 * 6))]) := (fr_6 2080 (by omega)).trans hO
  refine va_calli (va_runV (As := []) (rest := []) ⟨hx, hb, hml, hown, hts⟩ (c_V6_keepNumber l dC dI A ad cA g_5 L z1 1 hC_7 hv_2 hv_3 (by decide)) (cwV 0 hts (goodIn_app (goodIn_r [Cond.methodLink RX6 50 yX6_keepNumber, Cond.instanceMethod yX6_keepNumber, Cond.selects RX6 yX6_keepNumber yX6_keepNumber, Cond.initialized RX6] [6, 7, 8, 9] rfl rfl) (goodIn_sub (fun w9 h9 => bk2 w9 h9) gw_V6_keepNumber)) rfl rfl rfl (by decide +kernel) ⟨Nat.le_of_ble_eq_true rfl, Nat.le_of_ble_eq_true rfl⟩) ⟨fun a U g mk q => ⟨q.1, q.2.1, q.2.2.1, LY.moved (u := U) (U := U.calling g mk a) (Vm.Alike.refl U.vm) q.2.2.2⟩, va_recv hK hP (ci := 9) (q0 := 2080) rfl (wo_at (by decide) f_8), fun U hU hW => ⟨rfl, by rw [hU]; exact fun q h => hA q (Nat.le_trans hS.1 h), by rw [hU]; exact hP, LY.moved hW.alike hL⟩⟩ rfl rfl hl.1 rfl (lv_room (Nat.le_of_ble_eq_true rfl)) dX6_makeWhole_10 ⟨(Nat.le_of_ble_eq_true rfl), (Nat.le_of_ble_eq_true rfl)⟩) hS (fun q _ h => h) (fun q h => h) (fun r_9 u8 t8 H1 locs ht8 hvm8 hw_10 hB hz1 hk1 hS => ?_)
  obtain ⟨g_11, rfl⟩ : ∃ z, z = u8 := ⟨_, rfl⟩
  try dsimp only at hw_10 hB
  rw [ht8] at hB
  have hP := hB
  generalize H1 = H at hP hS ⊢
  obtain ⟨fr_12, hK⟩ := hw_10
  refine W.widen (k := 0) (n := 0) (by omega) (by omega) ?_
  exact W.iret (v := r_9) hx hb hr (fun t9 ht9 hW9 => ⟨⟨r_9, g_11, rfl, ⟨(fun (k : Nat) (hk : (14 ≤ k ∧ k < 76) ∨ (876 ≤ k ∧ k < 2080) ∨ (2081 ≤ k ∧ k < 2117)) => (fr_12 k (by omega)).trans ((fr_6 k (by omega)).trans (rfl))), hK⟩, by show va_P (dC, dI) vwCl _ t9.heap; rw [ht9]; exact hP⟩, hS.F ht9⟩) hS.2.2 dX6_makeWhole_13
def wd_V6_makeRatio : List Cond := .code yX6_makeRatio cX6_makeRatio 3 (some .int) :: (([.fieldLink RX6 30 "GradientDesk$Shelf" "work" "LGradientDesk$Fraction;", .methodLink RX6 46 yX2_becomeRatio, .instanceMethod yX2_becomeRatio, .selects RX2 yX2_becomeRatio yX2_becomeRatio, .initialized RX2, .fieldLink RX6 41 "GradientDesk$Shelf" "arithmetic" "LGradientDesk$Arithmetic;", .methodLink RX6 54 yX0_reduce, .instanceMethod yX0_reduce, .selects RX0 yX0_reduce yX0_reduce, .initialized RX0, .methodLink RX6 50 yX6_keepNumber, .instanceMethod yX6_keepNumber, .selects RX6 yX6_keepNumber yX6_keepNumber, .initialized RX6] : List Cond) ++ (u_ws RX6 TX6 7 ++ (wd_V2_becomeRatio ++ (wd_V0_reduce ++ (wd_V6_keepNumber ++ ([]))))))
theorem gw_V6_makeRatio : wd_V6_makeRatio.all goodWord = true := k_allc rfl (k_all (by decide +kernel) (k_all (gu_X6) (k_all (gw_V2_becomeRatio) (k_all (gw_V0_reduce) (k_all (gw_V6_keepNumber) (rfl))))))
set_option maxHeartbeats 4000000 in
set_option maxRecDepth 100000 in
theorem c_V6_makeRatio (l : Launch) (dC : Nat → ClassId) (dI : Nat → Nat → Nat) (A : Nat → Prop) (ad : Nat → Nat) (cA : Nat → ClassId) (g : Nat → va_E) (L : List PD) (v1 : Int32) (v2 : Int32) (z1 : Int) (z2 : Nat) (hC : CS ad cA g L) (hz1 : v1.toInt = z1) (hz2 : v2.toInt = ((z2 : Nat) : Int)) (hz3 : 0 < z2) : Met l yX6_makeRatio wd_V6_makeRatio ({ frames := 50, cells := 0, slots := 0, locals := 1000 }) (va_Pc [.ref (ad 2080), .int v1, .int v2] (PR NSc tyc dC dI A ad cA g)) (va_Qi (fun (r : Int32) => fun (u : Nat → va_E) => match u with | g2 => (∀ k, (14 ≤ k ∧ k < 76) ∨ (876 ≤ k ∧ k < 2080) ∨ (2081 ≤ k ∧ k < 2117) → g2 k = g k) ∧ CMK ad cA g2 (numL L (rdp z1 z2) (rdq z1 z2)) r) (fun (u : Nat → va_E) (t : State) => va_P (dC, dI) vwCl (wo ad NSc u) t.heap) A) (0) (0) A := by
  refine Met.ofW (cc := cX6_makeRatio) (maxL := 3) (ret := (some .int)) (by decide) rfl ?_
  intro p e s m args below meth c s₁ B hml hv
  obtain ⟨rfl, hA, hP, hL⟩ := hv
  have hx := B.exec
  have hb := B.bytes
  have hr := B.returns
  have hts := atoms_spec (ws := wd_V6_makeRatio) B.pre
  have hown : s.vm.findClass RX6 = some m.cls := findClass_of_methodNamed B.named
  have hlocks := B.notSynchronized
  have hK := hL.1
  have hD : ∀ g, va_D A (wo ad NSc g) := fun g => wo_D hL.2.1 hL.2.2 g
  have hS : va_S A s.heap s.heap [] := va_S.rf
  have bk0 : ∀ w ∈ u_ws RX6 TX6 7, w ∈ wd_V6_makeRatio := fun _ h => List.mem_cons_of_mem _ (List.mem_append_right _ (List.mem_append_left _ h))
  have bk1 : ∀ w ∈ wd_V2_becomeRatio, w ∈ wd_V6_makeRatio := fun _ h => List.mem_cons_of_mem _ (List.mem_append_right _ (List.mem_append_right _ (List.mem_append_left _ h)))
  have bk2 : ∀ w ∈ wd_V0_reduce, w ∈ wd_V6_makeRatio := fun _ h => List.mem_cons_of_mem _ (List.mem_append_right _ (List.mem_append_right _ (List.mem_append_right _ (List.mem_append_left _ h))))
  have bk3 : ∀ w ∈ wd_V6_keepNumber, w ∈ wd_V6_makeRatio := fun _ h => List.mem_cons_of_mem _ (List.mem_append_right _ (List.mem_append_right _ (List.mem_append_right _ (List.mem_append_right _ (List.mem_append_left _ h)))))
  have hl := lv_entry ([.ref (ad 2080), .int v1, .int v2]) (n := 3) (Nat.le_of_ble_eq_true rfl)
  rw [lg_entry_eq]
  generalize (lg_sl ([.ref (ad 2080), .int v1, .int v2]) ++ List.replicate (3 - (lg_sl ([.ref (ad 2080), .int v1, .int v2])).length) Slot.unset).toArray = ls at hl ⊢
  have hl : lv_has ls 3 [(0, .ref (ad 2080)), (1, .int v1), (2, .int v2)] := hl
  have hC0 := hC
  obtain ⟨hLn, hW, ⟨hAr, hWk, hPa, hFr⟩, hO, pt, hPt, hM⟩ := hC0
  unfold CSO at hO
  have hpb := hPt.2
  refine lv_aload_n hx hb dX6_makeRatio_0 rfl (lv_at hl 0 rfl) ?_
  refine m_get (D := (dC, dI)) (v := .ref (ad 2107)) (C := RX6) (T := TX6) (N := 7) hx hb hts bk0 hown hK hP 2080 (by decide) hO rfl 5 (by decide) (hts (.fieldLink RX6 30 "GradientDesk$Shelf" "work" "LGradientDesk$Fraction;") (List.mem_of_getElem? (i := 1) rfl)) (fun _ h9 => h9) rfl dX6_makeRatio_1 ?_
  refine lv_iload_n hx hb dX6_makeRatio_4 rfl (lv_at hl 1 rfl) ?_
  refine lv_iload_n hx hb dX6_makeRatio_5 rfl (lv_at hl 2 rfl) ?_
  refine va_callv (va_runV (As := [.int v1, .int v2]) (rest := []) ⟨hx, hb, hml, hown, hts⟩ (c_V2_becomeRatio l dC dI A ad cA g 2107 4 5 v1 v2 z1 ((z2 : Nat) : Int) hW hWk (by decide) (by decide) hz1 hz2) (cwV 2 hts (goodIn_app (goodIn_r [Cond.methodLink RX6 46 yX2_becomeRatio, Cond.instanceMethod yX2_becomeRatio, Cond.selects RX2 yX2_becomeRatio yX2_becomeRatio, Cond.initialized RX2] [2, 3, 4, 5] rfl rfl) (goodIn_sub (fun w9 h9 => bk1 w9 h9) gw_V2_becomeRatio)) rfl rfl rfl (by decide +kernel) ⟨Nat.le_of_ble_eq_true rfl, Nat.le_of_ble_eq_true rfl⟩) ⟨fun a U g mk q => ⟨q.1, q.2.1, q.2.2.1, LY.moved (u := U) (U := U.calling g mk a) (Vm.Alike.refl U.vm) q.2.2.2⟩, va_recv hK hP (ci := 5) (q0 := 2107) rfl (wo_at (by decide) hWk), fun U hU hW => ⟨rfl, by rw [hU]; exact fun q h => hA q (Nat.le_trans hS.1 h), by rw [hU]; exact hP, LY.moved hW.alike hL⟩⟩ rfl rfl hl.1 rfl (lv_room (Nat.le_of_ble_eq_true rfl)) dX6_makeRatio_6 ⟨(Nat.le_of_ble_eq_true rfl), (Nat.le_of_ble_eq_true rfl)⟩) hS (fun q _ h => h) (fun q h => h) (fun u8 t8 H1 locs ht8 hvm8 hw_4 hB hz1 hk1 hS => ?_)
  obtain ⟨g_5, rfl⟩ : ∃ z, z = u8 := ⟨_, rfl⟩
  try dsimp only at hw_4 hB
  rw [ht8] at hB
  have hP := hB
  generalize H1 = H at hP hS ⊢
  obtain ⟨fr_6, hAW_1, hv_2, hv_3⟩ := hw_4
  refine lv_aload_n hx hb dX6_makeRatio_9 rfl (lv_at hl 0 rfl) ?_
  have f_7 : g_5 2080 = .inr (9, [.ref (ad 2081), .ref (ad 2082), .int (nI L.length), .ref (ad 2083), .ref (ad 2077), .ref (ad 2107), .ref (ad (2 * 6))]) := (fr_6 2080 (by omega)).trans hO
  refine m_get (D := (dC, dI)) (v := .ref (ad 2077)) (C := RX6) (T := TX6) (N := 7) hx hb hts bk0 hown hK hP 2080 (by decide) f_7 rfl 4 (by decide) (hts (.fieldLink RX6 41 "GradientDesk$Shelf" "arithmetic" "LGradientDesk$Arithmetic;") (List.mem_of_getElem? (i := 6) rfl)) (fun _ h9 => h9) rfl dX6_makeRatio_10 ?_
  refine lv_aload_n hx hb dX6_makeRatio_13 rfl (lv_at hl 0 rfl) ?_
  refine m_get (D := (dC, dI)) (v := .ref (ad 2107)) (C := RX6) (T := TX6) (N := 7) hx hb hts bk0 hown hK hP 2080 (by decide) f_7 rfl 5 (by decide) (hts (.fieldLink RX6 30 "GradientDesk$Shelf" "work" "LGradientDesk$Fraction;") (List.mem_of_getElem? (i := 1) rfl)) (fun _ h9 => h9) rfl dX6_makeRatio_14 ?_
  have f_11 : g_5 2077 = .inr (3, [.ref (ad (2 * 0)), .ref (ad (2 * 1)), .ref (ad (2 * 2)), .ref (ad (2 * 3))]) := (fr_6 2077 (by omega)).trans hAr
  have f_12 : g_5 2107 = .inr (5, [.ref (ad (2 * 4)), .ref (ad (2 * 5))]) := (fr_6 2107 (by omega)).trans hWk
  refine va_callv (va_runV (As := [.ref (ad 2107)]) (rest := []) ⟨hx, hb, hml, hown, hts⟩ (c_V0_reduce l dC dI A ad cA g_5 z1 z2 hAW_1 f_11 f_12 hv_2 hv_3 hz3) (cwV 1 hts (goodIn_app (goodIn_r [Cond.methodLink RX6 54 yX0_reduce, Cond.instanceMethod yX0_reduce, Cond.selects RX0 yX0_reduce yX0_reduce, Cond.initialized RX0] [7, 8, 9, 10] rfl rfl) (goodIn_sub (fun w9 h9 => bk2 w9 h9) gw_V0_reduce)) rfl rfl rfl (by decide +kernel) ⟨Nat.le_of_ble_eq_true rfl, Nat.le_of_ble_eq_true rfl⟩) ⟨fun a U g mk q => ⟨q.1, q.2.1, q.2.2.1, LY.moved (u := U) (U := U.calling g mk a) (Vm.Alike.refl U.vm) q.2.2.2⟩, va_recv hK hP (ci := 3) (q0 := 2077) rfl (wo_at (by decide) f_11), fun U hU hW => ⟨rfl, by rw [hU]; exact fun q h => hA q (Nat.le_trans hS.1 h), by rw [hU]; exact hP, LY.moved hW.alike hL⟩⟩ rfl rfl hl.1 rfl (lv_room (Nat.le_of_ble_eq_true rfl)) dX6_makeRatio_17 ⟨(Nat.le_of_ble_eq_true rfl), (Nat.le_of_ble_eq_true rfl)⟩) hS (fun q _ h => h) (fun q h => h) (fun u8 t8 H1 locs ht8 hvm8 hw_13 hB hz1 hk1 hS => ?_)
  obtain ⟨g_14, rfl⟩ : ∃ z, z = u8 := ⟨_, rfl⟩
  try dsimp only at hw_13 hB
  rw [ht8] at hB
  have hP := hB
  generalize H1 = H at hP hS ⊢
  obtain ⟨fr_15, hAW_8, hv_9, hv_10⟩ := hw_13
  refine lv_aload_n hx hb dX6_makeRatio_20 rfl (lv_at hl 0 rfl) ?_
  have hC_16 : CS ad cA g_14 L := CS.same hC hAW_8 (fun (k : Nat) (hk : (76 ≤ k ∧ k < 876) ∨ k = 2077 ∨ k = 2107 ∨ k = 2080 ∨ k = 2081 ∨ (2117 ≤ k ∧ k < 2517)) => (fr_15 k (by omega)).trans ((fr_6 k (by omega)).trans (rfl)))
  have f_17 : g_14 2080 = .inr (9, [.ref (ad 2081), .ref (ad 2082), .int (nI L.length), .ref (ad 2083), .ref (ad 2077), .ref (ad 2107), .ref (ad (2 * 6))]) := (fr_15 2080 (by omega)).trans f_7
  refine va_calli (va_runV (As := []) (rest := []) ⟨hx, hb, hml, hown, hts⟩ (c_V6_keepNumber l dC dI A ad cA g_14 L (rdp z1 z2) (rdq z1 z2) hC_16 hv_9 hv_10 ((rd_red z1 hz3).1)) (cwV 0 hts (goodIn_app (goodIn_r [Cond.methodLink RX6 50 yX6_keepNumber, Cond.instanceMethod yX6_keepNumber, Cond.selects RX6 yX6_keepNumber yX6_keepNumber, Cond.initialized RX6] [11, 12, 13, 14] rfl rfl) (goodIn_sub (fun w9 h9 => bk3 w9 h9) gw_V6_keepNumber)) rfl rfl rfl (by decide +kernel) ⟨Nat.le_of_ble_eq_true rfl, Nat.le_of_ble_eq_true rfl⟩) ⟨fun a U g mk q => ⟨q.1, q.2.1, q.2.2.1, LY.moved (u := U) (U := U.calling g mk a) (Vm.Alike.refl U.vm) q.2.2.2⟩, va_recv hK hP (ci := 9) (q0 := 2080) rfl (wo_at (by decide) f_17), fun U hU hW => ⟨rfl, by rw [hU]; exact fun q h => hA q (Nat.le_trans hS.1 h), by rw [hU]; exact hP, LY.moved hW.alike hL⟩⟩ rfl rfl hl.1 rfl (lv_room (Nat.le_of_ble_eq_true rfl)) dX6_makeRatio_21 ⟨(Nat.le_of_ble_eq_true rfl), (Nat.le_of_ble_eq_true rfl)⟩) hS (fun q _ h => h) (fun q h => h) (fun r_18 u8 t8 H1 locs ht8 hvm8 hw_19 hB hz1 hk1 hS => ?_)
  obtain ⟨g_20, rfl⟩ : ∃ z, z = u8 := ⟨_, rfl⟩
  try dsimp only at hw_19 hB
  rw [ht8] at hB
  have hP := hB
  generalize H1 = H at hP hS ⊢
  obtain ⟨fr_21, hK⟩ := hw_19
  refine W.widen (k := 0) (n := 0) (by omega) (by omega) ?_
  exact W.iret (v := r_18) hx hb hr (fun t9 ht9 hW9 => ⟨⟨r_18, g_20, rfl, ⟨(fun (k : Nat) (hk : (14 ≤ k ∧ k < 76) ∨ (876 ≤ k ∧ k < 2080) ∨ (2081 ≤ k ∧ k < 2117)) => (fr_21 k (by omega)).trans ((fr_15 k (by omega)).trans ((fr_6 k (by omega)).trans (rfl)))), hK⟩, by show va_P (dC, dI) vwCl _ t9.heap; rw [ht9]; exact hP⟩, hS.F ht9⟩) hS.2.2 dX6_makeRatio_24
def wd_V6_makeVariable : List Cond := .code yX6_makeVariable cX6_makeVariable 2 (some .int) :: (([.methodLink RX6 60 yX6_keep, .instanceMethod yX6_keep, .selects RX6 yX6_keep yX6_keep, .initialized RX6] : List Cond) ++ (wd_V6_keep ++ ([])))
theorem gw_V6_makeVariable : wd_V6_makeVariable.all goodWord = true := k_allc rfl (k_all (by decide +kernel) (k_all (gw_V6_keep) (rfl)))
set_option maxHeartbeats 4000000 in
set_option maxRecDepth 100000 in
theorem c_V6_makeVariable (l : Launch) (dC : Nat → ClassId) (dI : Nat → Nat → Nat) (A : Nat → Prop) (ad : Nat → Nat) (cA : Nat → ClassId) (g : Nat → va_E) (L : List PD) (w1 : Nat) (hC : CS ad cA g L) (hw1 : w1 ≤ 2) : Met l yX6_makeVariable wd_V6_makeVariable ({ frames := 30, cells := 0, slots := 0, locals := 600 }) (va_Pc [.ref (ad 2080), .int (nI w1)] (PR NSc tyc dC dI A ad cA g)) (va_Qi (fun (r : Int32) => fun (u : Nat → va_E) => match u with | g2 => (∀ k, (14 ≤ k ∧ k < 76) ∨ (876 ≤ k ∧ k < 2080) ∨ (2081 ≤ k ∧ k < 2117) → g2 k = g k) ∧ CMK ad cA g2 (varL L w1) r) (fun (u : Nat → va_E) (t : State) => va_P (dC, dI) vwCl (wo ad NSc u) t.heap) A) (0) (0) A := by
  refine Met.ofW (cc := cX6_makeVariable) (maxL := 2) (ret := (some .int)) (by decide) rfl ?_
  intro p e s m args below meth c s₁ B hml hv
  obtain ⟨rfl, hA, hP, hL⟩ := hv
  have hx := B.exec
  have hb := B.bytes
  have hr := B.returns
  have hts := atoms_spec (ws := wd_V6_makeVariable) B.pre
  have hown : s.vm.findClass RX6 = some m.cls := findClass_of_methodNamed B.named
  have hlocks := B.notSynchronized
  have hK := hL.1
  have hD : ∀ g, va_D A (wo ad NSc g) := fun g => wo_D hL.2.1 hL.2.2 g
  have hS : va_S A s.heap s.heap [] := va_S.rf
  have bk0 : ∀ w ∈ wd_V6_keep, w ∈ wd_V6_makeVariable := fun _ h => List.mem_cons_of_mem _ (List.mem_append_right _ (List.mem_append_left _ h))
  have hl := lv_entry ([.ref (ad 2080), .int (nI w1)]) (n := 2) (Nat.le_of_ble_eq_true rfl)
  rw [lg_entry_eq]
  generalize (lg_sl ([.ref (ad 2080), .int (nI w1)]) ++ List.replicate (2 - (lg_sl ([.ref (ad 2080), .int (nI w1)])).length) Slot.unset).toArray = ls at hl ⊢
  have hl : lv_has ls 2 [(0, .ref (ad 2080)), (1, .int (nI w1))] := hl
  have hC0 := hC
  obtain ⟨hLn, hW, ⟨hAr, hWk, hPa, hFr⟩, hO, pt, hPt, hM⟩ := hC0
  unfold CSO at hO
  have hpb := hPt.2
  refine lv_aload_n hx hb dX6_makeVariable_0 rfl (lv_at hl 0 rfl) ?_
  refine lv_iconst (v := nI 1) hx hb dX6_makeVariable_1 (by decide +kernel) ?_
  refine lv_iload_n hx hb dX6_makeVariable_2 rfl (lv_at hl 1 rfl) ?_
  refine lv_iconst (v := -1) hx hb dX6_makeVariable_3 (by decide +kernel) ?_
  refine lv_iconst (v := nI 1) hx hb dX6_makeVariable_4 (by decide +kernel) ?_
  refine lv_iconst (v := nI 1) hx hb dX6_makeVariable_5 (by decide +kernel) ?_
  refine lv_iconst (v := nI 0) hx hb dX6_makeVariable_6 (by decide +kernel) ?_
  refine va_calli (va_runV (As := [.int (nI 1), .int (nI w1), .int (-1), .int (nI 1), .int (nI 1), .int (nI 0)]) (rest := []) ⟨hx, hb, hml, hown, hts⟩ (c_V6_keep l dC dI A ad cA g L (1, ((w1 : Nat) : Int), -1, 1, 1, 0, 0, 1) (nI 1) (nI w1) (-1) (nI 1) (nI 1) (nI 0) hC ((show nI 1 = iI 1 from by decide).trans (congrArg iI (by rfl))) ((nI_iI w1).trans (congrArg iI (by rfl))) ((show (-1 : Int32) = iI (-1) from by decide).trans (congrArg iI (by rfl))) ((show nI 1 = iI 1 from by decide).trans (congrArg iI (by rfl))) ((show nI 1 = iI 1 from by decide).trans (congrArg iI (by rfl))) ((show nI 0 = iI 0 from by decide).trans (congrArg iI (by rfl))) (by show 1 ≤ 20000 ∧ -1 ≤ ((w1 : Nat) : Int) ∧ ((w1 : Nat) : Int) ≤ 20000 ∧ (-1 : Int) ≤ -1 ∧ (-1 : Int) ≤ 20000 ∧ 1 ≤ 20000 ∧ 1 ≤ 20000 ∧ 0 ≤ 20000; omega) (show (1 : Nat) ≠ 0 from by decide)) (cwV 6 hts (goodIn_app (goodIn_r [Cond.methodLink RX6 60 yX6_keep, Cond.instanceMethod yX6_keep, Cond.selects RX6 yX6_keep yX6_keep, Cond.initialized RX6] [1, 2, 3, 4] rfl rfl) (goodIn_sub (fun w9 h9 => bk0 w9 h9) gw_V6_keep)) rfl rfl rfl (by decide +kernel) ⟨Nat.le_of_ble_eq_true rfl, Nat.le_of_ble_eq_true rfl⟩) ⟨fun a U g mk q => ⟨q.1, q.2.1, q.2.2.1, LY.moved (u := U) (U := U.calling g mk a) (Vm.Alike.refl U.vm) q.2.2.2⟩, va_recv hK hP (ci := 9) (q0 := 2080) rfl (wo_at (by decide) hO), fun U hU hW => ⟨rfl, by rw [hU]; exact fun q h => hA q (Nat.le_trans hS.1 h), by rw [hU]; exact hP, LY.moved hW.alike hL⟩⟩ rfl rfl hl.1 rfl (lv_room (Nat.le_of_ble_eq_true rfl)) dX6_makeVariable_7 ⟨(Nat.le_of_ble_eq_true rfl), (Nat.le_of_ble_eq_true rfl)⟩) hS (fun q _ h => h) (fun q h => h) (fun r_1 u8 t8 H1 locs ht8 hvm8 hw_2 hB hz1 hk1 hS => ?_)
  obtain ⟨g_3, rfl⟩ : ∃ z, z = u8 := ⟨_, rfl⟩
  try dsimp only at hw_2 hB
  rw [ht8] at hB
  have hP := hB
  generalize H1 = H at hP hS ⊢
  obtain ⟨fr_4, hK⟩ := hw_2
  refine W.widen (k := 0) (n := 0) (by omega) (by omega) ?_
  exact W.iret (v := r_1) hx hb hr (fun t9 ht9 hW9 => ⟨⟨r_1, g_3, rfl, ⟨(fun (k : Nat) (hk : (14 ≤ k ∧ k < 76) ∨ (876 ≤ k ∧ k < 2080) ∨ (2081 ≤ k ∧ k < 2117)) => (fr_4 k (by omega)).trans (rfl)), hK⟩, by show va_P (dC, dI) vwCl _ t9.heap; rw [ht9]; exact hP⟩, hS.F ht9⟩) hS.2.2 dX6_makeVariable_10
end
