def wd_W9_isLong : List Cond := .code yX9_isLong cX9_isLong 1 (some .boolean) :: (([.fieldLink RX9 222 "GradientDesk$Fraction" "top" "LGradientDesk$Whole;", .methodLink RX9 238 yX8_bitLength, .instanceMethod yX8_bitLength, .selects RX8 yX8_bitLength yX8_bitLength, .initialized RX8, .fieldLink RX9 262 "GradientDesk$Fraction" "bottom" "LGradientDesk$Whole;"] : List Cond) ++ (u_ws RX2 TX2 2 ++ (wd_X8_bitLength ++ ([]))))
theorem gw_W9_isLong : wd_W9_isLong.all goodWord = true := k_allc rfl (k_all (by decide +kernel) (k_all (gu_X2) (k_all (gw_X8_bitLength) (rfl))))
set_option maxHeartbeats 4000000 in
set_option maxRecDepth 100000 in
theorem c_W9_isLong (l : Launch) (dC : Nat → ClassId) (dI : Nat → Nat → Nat) (A : Nat → Prop) (ad : Nat → Nat) (cA : Nat → ClassId) (g : Nat → va_E) (F : Nat) (Fa : Nat) (Fb : Nat) (hAW : AW ad cA g) (hF : g F = .inr (5, [.ref (ad (2 * Fa)), .ref (ad (2 * Fb))])) (lF : F < NSc ∧ 2076 ≤ F) (jF : 4 ≤ Fa ∧ Fa < 1038 ∧ 4 ≤ Fb ∧ Fb < 1038 ∧ Fa ≠ Fb) : Met l yX9_isLong wd_W9_isLong ({ frames := 30, cells := 0, slots := 0, locals := 600 }) (va_Pc [.ref (ad F)] (PR NSc tyc dC dI A ad cA g)) (va_Qi (fun (r : Int32) => fun (u : Unit) => match u with | () => ∃ b, b < 2 ∧ r = nI b) (fun (u : Unit) (t : State) => va_P (dC, dI) vwCl (wo ad NSc g) t.heap) A) (0) (0) A := by
  refine Met.ofW (cc := cX9_isLong) (maxL := 1) (ret := (some .boolean)) (by decide) rfl ?_
  intro p e s m args below meth c s₁ B hml hv
  obtain ⟨rfl, hA, hP, hL⟩ := hv
  have hx := B.exec
  have hb := B.bytes
  have hr := B.returns
  have hts := atoms_spec (ws := wd_W9_isLong) B.pre
  have hown : s.vm.findClass RX9 = some m.cls := findClass_of_methodNamed B.named
  have hlocks := B.notSynchronized
  have hK := hL.1
  have hD : ∀ g, va_D A (wo ad NSc g) := fun g => wo_D hL.2.1 hL.2.2 g
  have hS : va_S A s.heap s.heap [] := va_S.rf
  have bk0 : ∀ w ∈ u_ws RX2 TX2 2, w ∈ wd_W9_isLong := fun _ h => List.mem_cons_of_mem _ (List.mem_append_right _ (List.mem_append_left _ h))
  have bk1 : ∀ w ∈ wd_X8_bitLength, w ∈ wd_W9_isLong := fun _ h => List.mem_cons_of_mem _ (List.mem_append_right _ (List.mem_append_right _ (List.mem_append_left _ h)))
  have hl := lv_entry ([.ref (ad F)]) (n := 1) (Nat.le_of_ble_eq_true rfl)
  rw [lg_entry_eq]
  generalize (lg_sl ([.ref (ad F)]) ++ List.replicate (1 - (lg_sl ([.ref (ad F)])).length) Slot.unset).toArray = ls at hl ⊢
  have hl : lv_has ls 1 [(0, .ref (ad F))] := hl
  refine lv_aload_n hx hb dX9_isLong_0 rfl (lv_at hl 0 rfl) ?_
  refine m_get (D := (dC, dI)) (v := .ref (ad (2 * Fa))) (C := RX2) (T := TX2) (N := 2) hx hb hts bk0 hown hK hP F lF.1 hF rfl 0 (by decide) (hts (.fieldLink RX9 222 "GradientDesk$Fraction" "top" "LGradientDesk$Whole;") (List.mem_of_getElem? (i := 1) rfl)) (fun _ h9 => h9) rfl dX9_isLong_1 ?_
  obtain ⟨mw_1, sw_1, nw_1, fw_1, aw_1, bw_1, cw_1, dw_1, ew_1⟩ := hAW Fa (by omega)
  have qw_1 : mw_1 ≤ 4096 := by rw [dw_1]; exact rmc_le _
  refine va_calli (va_runV (As := []) (rest := []) ⟨hx, hb, hml, hown, hts⟩ (c_X8_bitLength l dC dI A ad cA g Fa hAW (by omega)) (cwV 0 hts (goodIn_app (goodIn_r [Cond.methodLink RX9 238 yX8_bitLength, Cond.instanceMethod yX8_bitLength, Cond.selects RX8 yX8_bitLength yX8_bitLength, Cond.initialized RX8] [2, 3, 4, 5] rfl rfl) (goodIn_sub (fun w9 h9 => bk1 w9 h9) gw_X8_bitLength)) rfl rfl rfl (by decide +kernel) ⟨Nat.le_of_ble_eq_true rfl, Nat.le_of_ble_eq_true rfl⟩) ⟨fun a U g mk q => ⟨q.1, q.2.1, q.2.2.1, LY.moved (u := U) (U := U.calling g mk a) (Vm.Alike.refl U.vm) q.2.2.2⟩, va_recv hK hP (ci := 11) (q0 := (2 * Fa)) rfl (wo_at (ns_w (by omega)) aw_1), fun U hU hW => ⟨rfl, by rw [hU]; exact fun q h => hA q (Nat.le_trans hS.1 h), by rw [hU]; exact hP, LY.moved hW.alike hL⟩⟩ rfl rfl hl.1 rfl (lv_room (Nat.le_of_ble_eq_true rfl)) dX9_isLong_4 ⟨(Nat.le_of_ble_eq_true rfl), (Nat.le_of_ble_eq_true rfl)⟩) hS (fun q _ h => h) (fun q h => h) (fun r_2 u8 t8 H1 locs ht8 hvm8 hw_3 hB hz1 hk1 hS => ?_)
  obtain ⟨⟩ := u8
  try dsimp only at hw_3 hB
  rw [ht8] at hB
  have hP := hB
  generalize H1 = H at hP hS ⊢
  refine lv_sipush (v := nI 1000) hx hb dX9_isLong_7 (by decide +kernel) ?_
  refine lv_icmp_gt (tgt := 26) hx hb dX9_isLong_10 (by decide) (fun c_4 => ?_) (fun c_4 => ?_)
  · clear c_4
    refine lv_iconst (v := nI 1) hx hb dX9_isLong_26 (by decide +kernel) ?_
    refine lv_goto (tgt := 31) hx hb dX9_isLong_27 (by decide) ?_
    refine W.widen (k := 0) (n := 0) (by omega) (by omega) ?_
    exact W.zret (v := nI 1) hx hb hr (by decide +kernel) (fun t9 ht9 hW9 => ⟨⟨nI 1, (), rfl, ⟨1, by decide, rfl⟩, by show va_P (dC, dI) vwCl _ t9.heap; rw [ht9]; exact hP⟩, hS.F ht9⟩) hS.2.2 dX9_isLong_31
  · clear c_4
    refine lv_aload_n hx hb dX9_isLong_13 rfl (lv_at hl 0 rfl) ?_
    refine m_get (D := (dC, dI)) (v := .ref (ad (2 * Fb))) (C := RX2) (T := TX2) (N := 2) hx hb hts bk0 hown hK hP F lF.1 hF rfl 1 (by decide) (hts (.fieldLink RX9 262 "GradientDesk$Fraction" "bottom" "LGradientDesk$Whole;") (List.mem_of_getElem? (i := 6) rfl)) (fun _ h9 => h9) rfl dX9_isLong_14 ?_
    obtain ⟨mw_5, sw_5, nw_5, fw_5, aw_5, bw_5, cw_5, dw_5, ew_5⟩ := hAW Fb (by omega)
    have qw_5 : mw_5 ≤ 4096 := by rw [dw_5]; exact rmc_le _
    refine va_calli (va_runV (As := []) (rest := []) ⟨hx, hb, hml, hown, hts⟩ (c_X8_bitLength l dC dI A ad cA g Fb hAW (by omega)) (cwV 0 hts (goodIn_app (goodIn_r [Cond.methodLink RX9 238 yX8_bitLength, Cond.instanceMethod yX8_bitLength, Cond.selects RX8 yX8_bitLength yX8_bitLength, Cond.initialized RX8] [2, 3, 4, 5] rfl rfl) (goodIn_sub (fun w9 h9 => bk1 w9 h9) gw_X8_bitLength)) rfl rfl rfl (by decide +kernel) ⟨Nat.le_of_ble_eq_true rfl, Nat.le_of_ble_eq_true rfl⟩) ⟨fun a U g mk q => ⟨q.1, q.2.1, q.2.2.1, LY.moved (u := U) (U := U.calling g mk a) (Vm.Alike.refl U.vm) q.2.2.2⟩, va_recv hK hP (ci := 11) (q0 := (2 * Fb)) rfl (wo_at (ns_w (by omega)) aw_5), fun U hU hW => ⟨rfl, by rw [hU]; exact fun q h => hA q (Nat.le_trans hS.1 h), by rw [hU]; exact hP, LY.moved hW.alike hL⟩⟩ rfl rfl hl.1 rfl (lv_room (Nat.le_of_ble_eq_true rfl)) dX9_isLong_17 ⟨(Nat.le_of_ble_eq_true rfl), (Nat.le_of_ble_eq_true rfl)⟩) hS (fun q _ h => h) (fun q h => h) (fun r_6 u8 t8 H1 locs ht8 hvm8 hw_7 hB hz1 hk1 hS => ?_)
    obtain ⟨⟩ := u8
    try dsimp only at hw_7 hB
    rw [ht8] at hB
    have hP := hB
    generalize H1 = H at hP hS ⊢
    refine lv_sipush (v := nI 1000) hx hb dX9_isLong_20 (by decide +kernel) ?_
    refine lv_icmp_le (tgt := 30) hx hb dX9_isLong_23 (by decide) (fun c_8 => ?_) (fun c_8 => ?_)
    · clear c_8
      refine lv_iconst (v := nI 0) hx hb dX9_isLong_30 (by decide +kernel) ?_
      refine W.widen (k := 0) (n := 0) (by omega) (by omega) ?_
      exact W.zret (v := nI 0) hx hb hr (by decide +kernel) (fun t9 ht9 hW9 => ⟨⟨nI 0, (), rfl, ⟨0, by decide, rfl⟩, by show va_P (dC, dI) vwCl _ t9.heap; rw [ht9]; exact hP⟩, hS.F ht9⟩) hS.2.2 dX9_isLong_31
    · clear c_8
      refine lv_iconst (v := nI 1) hx hb dX9_isLong_26 (by decide +kernel) ?_
      refine lv_goto (tgt := 31) hx hb dX9_isLong_27 (by decide) ?_
      refine W.widen (k := 0) (n := 0) (by omega) (by omega) ?_
      exact W.zret (v := nI 1) hx hb hr (by decide +kernel) (fun t9 ht9 hW9 => ⟨⟨nI 1, (), rfl, ⟨1, by decide, rfl⟩, by show va_P (dC, dI) vwCl _ t9.heap; rw [ht9]; exact hP⟩, hS.F ht9⟩) hS.2.2 dX9_isLong_31
def wd_W9_reckon : List Cond := .code yX9_reckon cX9_reckon 5 (some .boolean) :: (([.methodLink RX9 175 yX9_checkResult, .static yX9_checkResult, .initialized RX9, .classLink RX9 90 "java/lang/IllegalArgumentException", .initialized "java/lang/IllegalArgumentException", .fieldLink RX9 59 "GradientDesk" "results" "[LGradientDesk$Fraction;", .methodLink RX9 203 yX9_isLong, .static yX9_isLong, .fieldLink RX9 10 "GradientDesk" "arithmetic" "LGradientDesk$Arithmetic;", .fieldLink RX9 66 "GradientDesk" "spare" "LGradientDesk$Fraction;", .methodLink RX9 211 yX0_add, .instanceMethod yX0_add, .selects RX0 yX0_add yX0_add, .initialized RX0, .methodLink RX9 215 yX0_reduce, .instanceMethod yX0_reduce, .selects RX0 yX0_reduce yX0_reduce, .methodLink RX9 181 yX2_become, .instanceMethod yX2_become, .selects RX2 yX2_become yX2_become, .initialized RX2, .methodLink RX9 207 yX0_multiply, .instanceMethod yX0_multiply, .selects RX0 yX0_multiply yX0_multiply] : List Cond) ++ (wd_W9_ckRes ++ ((vx_atS RX9 94 "java/lang/IllegalArgumentException" ["java/lang/RuntimeException", "java/lang/Exception"]).filter goodWord ++ (u_ws RX9 TX9 12 ++ (wd_W9_isLong ++ (wd_X0_add ++ (wd_X0_reduce ++ (wd_X2_become ++ (wd_X0_multiply ++ ([]))))))))))
theorem gw_W9_reckon : wd_W9_reckon.all goodWord = true := k_allc rfl (k_all (by decide +kernel) (k_all (gw_W9_ckRes) (k_all (k_allf _ _) (k_all (gu_X9) (k_all (gw_W9_isLong) (k_all (gw_X0_add) (k_all (gw_X0_reduce) (k_all (gw_X2_become) (k_all (gw_X0_multiply) (rfl))))))))))
set_option maxHeartbeats 4000000 in
set_option maxRecDepth 100000 in
theorem c_W9_reckon (l : Launch) (hlt : l.stackTraces = false) (dC : Nat → ClassId) (dI : Nat → Nat → Nat) (A : Nat → Prop) (ad : Nat → Nat) (cA : Nat → ClassId) (g : Nat → va_E) (L : List PD) (nm : Nat → Int) (tx : Nat → Nat) (ty : Nat) (wp : Int32) (wr : List Int) (v : Int32) (w1 : Int32) (w2 : Int32) (w3 : Int32) (hI : CIS ad cA g L nm tx ty wp wr) : vx_Met l yX9_reckon wd_W9_reckon ({ frames := 60, cells := 10, slots := 60, locals := 1200 }) (va_Pc [.ref (ad 2076), .int v, .int w1, .int w2, .int w3] (fun U => PR NSc tyc dC dI A ad cA g U ∧ exF A U U.heap)) (va_Qi (fun (r : Int32) => fun (u : Nat → va_E) => match u with | g2 => CIS ad cA g2 L nm tx ty wp wr) (fun (u : Nat → va_E) (t : State) => va_P (dC, dI) vwCl (wo ad NSc u) t.heap) A) (vx_X (fun _ : Unit => True) (fun E _ t => (E = "java/lang/IndexOutOfBoundsException" ∨ E = "java/lang/IllegalArgumentException") ∧ va_P (dC, dI) vwCl (wo ad NSc g) t.heap) A) (10) (60) A := by
  refine vx_ofW (cc := cX9_reckon) (maxL := 5) (ret := (some .boolean)) (by decide) rfl ?_
  intro p e s m args below meth c s₁ B hml htb hv
  obtain ⟨rfl, ⟨hA, hP, hL⟩, hE⟩ := hv
  have hx := B.exec
  have hb := B.bytes
  have hr := B.returns
  have hts := atoms_spec (ws := wd_W9_reckon) B.pre
  have hown : s.vm.findClass RX9 = some m.cls := findClass_of_methodNamed B.named
  have hlocks := B.notSynchronized
  have hK := hL.1
  have hD : ∀ g, va_D A (wo ad NSc g) := fun g => wo_D hL.2.1 hL.2.2 g
  have hS : va_S A s.heap s.heap [] := va_S.rf
  have bk0 : ∀ w ∈ wd_W9_ckRes, w ∈ wd_W9_reckon := fun _ h => List.mem_cons_of_mem _ (List.mem_append_right _ (List.mem_append_left _ h))
  have bk1 : ∀ w ∈ (vx_atS RX9 94 "java/lang/IllegalArgumentException" ["java/lang/RuntimeException", "java/lang/Exception"]).filter goodWord, w ∈ wd_W9_reckon := fun _ h => List.mem_cons_of_mem _ (List.mem_append_right _ (List.mem_append_right _ (List.mem_append_left _ h)))
  have bk2 : ∀ w ∈ u_ws RX9 TX9 12, w ∈ wd_W9_reckon := fun _ h => List.mem_cons_of_mem _ (List.mem_append_right _ (List.mem_append_right _ (List.mem_append_right _ (List.mem_append_left _ h))))
  have bk3 : ∀ w ∈ wd_W9_isLong, w ∈ wd_W9_reckon := fun _ h => List.mem_cons_of_mem _ (List.mem_append_right _ (List.mem_append_right _ (List.mem_append_right _ (List.mem_append_right _ (List.mem_append_left _ h)))))
  have bk4 : ∀ w ∈ wd_X0_add, w ∈ wd_W9_reckon := fun _ h => List.mem_cons_of_mem _ (List.mem_append_right _ (List.mem_append_right _ (List.mem_append_right _ (List.mem_append_right _ (List.mem_append_right _ (List.mem_append_left _ h))))))
  have bk5 : ∀ w ∈ wd_X0_reduce, w ∈ wd_W9_reckon := fun _ h => List.mem_cons_of_mem _ (List.mem_append_right _ (List.mem_append_right _ (List.mem_append_right _ (List.mem_append_right _ (List.mem_append_right _ (List.mem_append_right _ (List.mem_append_left _ h)))))))
  have bk6 : ∀ w ∈ wd_X2_become, w ∈ wd_W9_reckon := fun _ h => List.mem_cons_of_mem _ (List.mem_append_right _ (List.mem_append_right _ (List.mem_append_right _ (List.mem_append_right _ (List.mem_append_right _ (List.mem_append_right _ (List.mem_append_right _ (List.mem_append_left _ h))))))))
  have bk7 : ∀ w ∈ wd_X0_multiply, w ∈ wd_W9_reckon := fun _ h => List.mem_cons_of_mem _ (List.mem_append_right _ (List.mem_append_right _ (List.mem_append_right _ (List.mem_append_right _ (List.mem_append_right _ (List.mem_append_right _ (List.mem_append_right _ (List.mem_append_right _ (List.mem_append_left _ h)))))))))
  have hl := lv_entry ([.ref (ad 2076), .int v, .int w1, .int w2, .int w3]) (n := 5) (Nat.le_of_ble_eq_true rfl)
  rw [lg_entry_eq]
  generalize (lg_sl ([.ref (ad 2076), .int v, .int w1, .int w2, .int w3]) ++ List.replicate (5 - (lg_sl ([.ref (ad 2076), .int v, .int w1, .int w2, .int w3])).length) Slot.unset).toArray = ls at hl ⊢
  have hl : lv_has ls 5 [(0, .ref (ad 2076)), (1, .int v), (2, .int w1), (3, .int w2), (4, .int w3)] := hl
  have hi9 := hI
  obtain ⟨d0, hC, hWf, d3, d4, d5, d6, d7, d8, d9, da, db, dc⟩ := hi9
  unfold CDO at d0
  have hCo := hC
  obtain ⟨hLno, hWo, ⟨hAro, hWko, hPao, hFro⟩, hOo, pto, hPto, hMo⟩ := hCo
  unfold CSO at hOo
  have hpbo := hPto.2
  have hnl := hC.1
  obtain ⟨nA, nB, nC⟩ := id da
  obtain ⟨fa, fb, pA, pB⟩ := id db
  have hcr9c := d6
  obtain ⟨y0c, y1c, y2c, y3c, y4c, ⟨ftc, y5c⟩, fhc, y6c⟩ := hcr9c
  obtain ⟨wcx, flx, fwx, fqx, fzx, fdx, hSm, hwl9, hwr9⟩ := id d8
  have hsc9z := hSm
  obtain ⟨s1z, s2z, s3z, s4z, s5z, s6z, s7z, s8z, s9z⟩ := hsc9z
  refine lv_iload_n hx hb dX9_reckon_0 rfl (lv_at hl 2 rfl) ?_
  refine vx_callv (vx_runS (As := [.int w1]) (rest := []) ⟨hx, hb, hml, hown, hts⟩ (c_W9_ckRes l hlt dC dI A ad cA g w1 ) (va_cwS 1 hts (goodIn_app (goodIn_r [Cond.methodLink RX9 175 yX9_checkResult, Cond.static yX9_checkResult, Cond.initialized RX9] [1, 2, 3] rfl rfl) (goodIn_sub (fun w9 h9 => bk0 w9 h9) gw_W9_ckRes)) rfl rfl rfl (by decide +kernel) ⟨Nat.le_of_ble_eq_true rfl, Nat.le_of_ble_eq_true rfl⟩) ⟨fun a U g mk q => ⟨q.1, ⟨q.2.1.1, q.2.1.2.1, LY.moved (u := U) (U := U.calling g mk a) (Vm.Alike.refl U.vm) q.2.1.2.2⟩, exF.same rfl rfl q.2.2⟩, fun U hU hW => ⟨rfl, ⟨by rw [hU]; exact fun q h => hA q (Nat.le_trans hS.1 h), by rw [hU]; exact hP, LY.moved hW.alike hL⟩, by rw [hU]; exact exF.warm hW (exF.kept hE hS.2.1)⟩⟩ rfl rfl hl.1 rfl (lv_room (Nat.le_of_ble_eq_true rfl)) dX9_reckon_1 ⟨(Nat.le_of_ble_eq_true rfl), (Nat.le_of_ble_eq_true rfl)⟩) hS (fun q _ h => h) (fun q h => h) (fun q _ h => h) (fun E ce q9 u t H1 locs1 ht hvm hpx hbx hz1 hk1 hS hce hcv hcl => vx_out (fun x9 hx9 => (htb x9 hx9).elim) hlocks hce hcv hcl (fun t2 ht2 hvm2 => ⟨(), trivial, ⟨Or.inl hbx.1.1, by rw [ht2, ← ht]; exact hbx.2⟩, hS.F ht2⟩) hS.2.2 (Nat.le_of_ble_eq_true rfl) (Nat.le_of_ble_eq_true rfl)) (fun u8 t8 H1 locs ht8 hvm8 hw_1 hB hz1 hk1 hS => ?_)
  obtain ⟨⟩ := u8
  try dsimp only at hw_1 hB
  rw [ht8] at hB
  have hP := hB
  generalize H1 = H at hP hS ⊢
  refine W.cs (cells' := 1) (slots' := 6) (by omega) (by omega) ?_
  obtain ⟨r0, hr0, er0, -⟩ := k_nat (x := w1) (by omega)
  subst hr0
  refine lv_iload_n hx hb dX9_reckon_4 rfl (lv_at hl 3 rfl) ?_
  refine vx_callv (vx_runS (As := [.int w2]) (rest := []) ⟨hx, hb, hml, hown, hts⟩ (c_W9_ckRes l hlt dC dI A ad cA g w2 ) (va_cwS 1 hts (goodIn_app (goodIn_r [Cond.methodLink RX9 175 yX9_checkResult, Cond.static yX9_checkResult, Cond.initialized RX9] [1, 2, 3] rfl rfl) (goodIn_sub (fun w9 h9 => bk0 w9 h9) gw_W9_ckRes)) rfl rfl rfl (by decide +kernel) ⟨Nat.le_of_ble_eq_true rfl, Nat.le_of_ble_eq_true rfl⟩) ⟨fun a U g mk q => ⟨q.1, ⟨q.2.1.1, q.2.1.2.1, LY.moved (u := U) (U := U.calling g mk a) (Vm.Alike.refl U.vm) q.2.1.2.2⟩, exF.same rfl rfl q.2.2⟩, fun U hU hW => ⟨rfl, ⟨by rw [hU]; exact fun q h => hA q (Nat.le_trans hS.1 h), by rw [hU]; exact hP, LY.moved hW.alike hL⟩, by rw [hU]; exact exF.warm hW (exF.kept hE hS.2.1)⟩⟩ rfl rfl hl.1 rfl (lv_room (Nat.le_of_ble_eq_true rfl)) dX9_reckon_5 ⟨(Nat.le_of_ble_eq_true rfl), (Nat.le_of_ble_eq_true rfl)⟩) hS (fun q _ h => h) (fun q h => h) (fun q _ h => h) (fun E ce q9 u t H1 locs1 ht hvm hpx hbx hz1 hk1 hS hce hcv hcl => vx_out (fun x9 hx9 => (htb x9 hx9).elim) hlocks hce hcv hcl (fun t2 ht2 hvm2 => ⟨(), trivial, ⟨Or.inl hbx.1.1, by rw [ht2, ← ht]; exact hbx.2⟩, hS.F ht2⟩) hS.2.2 (Nat.le_of_ble_eq_true rfl) (Nat.le_of_ble_eq_true rfl)) (fun u8 t8 H1 locs ht8 hvm8 hw_2 hB hz1 hk1 hS => ?_)
  obtain ⟨⟩ := u8
  try dsimp only at hw_2 hB
  rw [ht8] at hB
  have hP := hB
  generalize H1 = H at hP hS ⊢
  refine W.cs (cells' := 2) (slots' := 12) (by omega) (by omega) ?_
  obtain ⟨r1, hr1, er1, -⟩ := k_nat (x := w2) (by omega)
  subst hr1
  refine lv_iload hx hb dX9_reckon_8 (lv_at hl 4 rfl) ?_
  refine vx_callv (vx_runS (As := [.int w3]) (rest := []) ⟨hx, hb, hml, hown, hts⟩ (c_W9_ckRes l hlt dC dI A ad cA g w3 ) (va_cwS 1 hts (goodIn_app (goodIn_r [Cond.methodLink RX9 175 yX9_checkResult, Cond.static yX9_checkResult, Cond.initialized RX9] [1, 2, 3] rfl rfl) (goodIn_sub (fun w9 h9 => bk0 w9 h9) gw_W9_ckRes)) rfl rfl rfl (by decide +kernel) ⟨Nat.le_of_ble_eq_true rfl, Nat.le_of_ble_eq_true rfl⟩) ⟨fun a U g mk q => ⟨q.1, ⟨q.2.1.1, q.2.1.2.1, LY.moved (u := U) (U := U.calling g mk a) (Vm.Alike.refl U.vm) q.2.1.2.2⟩, exF.same rfl rfl q.2.2⟩, fun U hU hW => ⟨rfl, ⟨by rw [hU]; exact fun q h => hA q (Nat.le_trans hS.1 h), by rw [hU]; exact hP, LY.moved hW.alike hL⟩, by rw [hU]; exact exF.warm hW (exF.kept hE hS.2.1)⟩⟩ rfl rfl hl.1 rfl (lv_room (Nat.le_of_ble_eq_true rfl)) dX9_reckon_10 ⟨(Nat.le_of_ble_eq_true rfl), (Nat.le_of_ble_eq_true rfl)⟩) hS (fun q _ h => h) (fun q h => h) (fun q _ h => h) (fun E ce q9 u t H1 locs1 ht hvm hpx hbx hz1 hk1 hS hce hcv hcl => vx_out (fun x9 hx9 => (htb x9 hx9).elim) hlocks hce hcv hcl (fun t2 ht2 hvm2 => ⟨(), trivial, ⟨Or.inl hbx.1.1, by rw [ht2, ← ht]; exact hbx.2⟩, hS.F ht2⟩) hS.2.2 (Nat.le_of_ble_eq_true rfl) (Nat.le_of_ble_eq_true rfl)) (fun u8 t8 H1 locs ht8 hvm8 hw_3 hB hz1 hk1 hS => ?_)
  obtain ⟨⟩ := u8
  try dsimp only at hw_3 hB
  rw [ht8] at hB
  have hP := hB
  generalize H1 = H at hP hS ⊢
  refine W.cs (cells' := 3) (slots' := 18) (by omega) (by omega) ?_
  obtain ⟨r2, hr2, er2, -⟩ := k_nat (x := w3) (by omega)
  subst hr2
  refine lv_iload_n hx hb dX9_reckon_13 rfl (lv_at hl 1 rfl) ?_
  refine lv_if_lt (tgt := 22) hx hb dX9_reckon_14 (by decide) (fun c_4 => ?_) (fun c_4 => ?_)
  · have c_4 := (k_lt v (nI 0)).mp c_4
    rw [show (nI 0).toInt = 0 from by decide] at c_4
    obtain ⟨sa_5, hstr_6⟩ := hE.2.2.1 (201, "what is not 0 .. 2") (by decide +kernel)
    exact vx_throwS (own := RX9) (cls := "java/lang/IllegalArgumentException") (text := "what is not 0 .. 2") (names := ["java/lang/RuntimeException", "java/lang/Exception"]) (ik := 90) (is := 201) (ic := 94) (sa := sa_5) (A := A) hx hb hlt hown (by decide +kernel) (by decide +kernel) (hts (.classLink RX9 90 "java/lang/IllegalArgumentException") (List.mem_of_getElem? (i := 4) rfl)) (hts (.initialized "java/lang/IllegalArgumentException") (List.mem_of_getElem? (i := 5) rfl)) hstr_6 (vx_hat (B := [.declares (Bundle.initS "java/lang/RuntimeException"), .declares (Bundle.initS "java/lang/Exception"), .declares (Bundle.initS Bundle.tN), .castable "java/lang/IllegalArgumentException" "java/lang/IllegalArgumentException"]) (fun w hw => hts w (bk1 w hw)) (by decide +kernel) (vx_c (va_Nw.use rfl hE.2.2.2.1) (vx_c (va_Nw.use rfl hE.2.2.2.2.1) (vx_c (va_Nw.use rfl hE.2.2.2.2.2.1) (vx_c (va_Nw.use rfl hE.2.2.2.2.2.2.1) vx_n))))) (by decide +kernel) hE.1 hE.2.1 hS (by rw [hml]; exact hl.1) dX9_reckon_22 dX9_reckon_25 dX9_reckon_26 dX9_reckon_28 dX9_reckon_31 (fun x9 hx9 => (htb x9 hx9).elim) (Nat.le_of_ble_eq_true rfl) (Nat.le_of_ble_eq_true rfl) (Nat.le_of_ble_eq_true rfl) (Nat.le_of_ble_eq_true rfl) hlocks (fun t9 hvm9 h1 h2 => ⟨(), trivial, ⟨Or.inr rfl, wP_grow hP h2⟩, k_F hS h1 h2⟩) hS.2.2 (Nat.le_of_ble_eq_true rfl) (Nat.le_of_ble_eq_true rfl)
  · have c_4 := mt (k_lt v (nI 0)).mpr c_4
    rw [show (nI 0).toInt = 0 from by decide] at c_4
    refine lv_iload_n hx hb dX9_reckon_17 rfl (lv_at hl 1 rfl) ?_
    refine lv_iconst (v := nI 2) hx hb dX9_reckon_18 (by decide +kernel) ?_
    refine lv_icmp_le (tgt := 32) hx hb dX9_reckon_19 (by decide) (fun c_7 => ?_) (fun c_7 => ?_)
    · have c_7 := (k_le v (nI 2)).mp c_7
      rw [show (nI 2).toInt = 2 from by decide] at c_7
      refine lv_aload_n hx hb dX9_reckon_32 rfl (lv_at hl 0 rfl) ?_
      refine m_get (D := (dC, dI)) (v := .ref (ad 2103)) (C := RX9) (T := TX9) (N := 12) hx hb hts bk2 hown hK hP 2076 (by decide) d0 rfl 6 (by decide) (hts (.fieldLink RX9 59 "GradientDesk" "results" "[LGradientDesk$Fraction;") (List.mem_of_getElem? (i := 6) rfl)) (fun _ h9 => h9) rfl dX9_reckon_33 ?_
      refine lv_iload_n hx hb dX9_reckon_36 rfl (lv_at hl 3 rfl) ?_
      refine m_aald hx hb hK hP 2103 (by decide) rfl dc.1 (i := r1) (v := ad (2109 + r1)) (by omega) (by decide) rfl dX9_reckon_37 ?_
      have hr_9 := dc.2.2 r1 (by omega)
      refine va_calli (va_runS (As := [.ref (ad (2109 + r1))]) (rest := []) ⟨hx, hb, hml, hown, hts⟩ (c_W9_isLong l dC dI A ad cA g (2109 + r1) (13 + 2 * r1) (14 + 2 * r1) hWo hr_9 (⟨fr_r (by omega), by omega⟩) (by omega)) (va_cwS 1 hts (goodIn_app (goodIn_r [Cond.methodLink RX9 203 yX9_isLong, Cond.static yX9_isLong, Cond.initialized RX9] [7, 8, 3] rfl rfl) (goodIn_sub (fun w9 h9 => bk3 w9 h9) gw_W9_isLong)) rfl rfl rfl (by decide +kernel) ⟨Nat.le_of_ble_eq_true rfl, Nat.le_of_ble_eq_true rfl⟩) ⟨fun a U g mk q => ⟨q.1, q.2.1, q.2.2.1, LY.moved (u := U) (U := U.calling g mk a) (Vm.Alike.refl U.vm) q.2.2.2⟩, fun U hU hW => ⟨rfl, by rw [hU]; exact fun q h => hA q (Nat.le_trans hS.1 h), by rw [hU]; exact hP, LY.moved hW.alike hL⟩⟩ rfl rfl hl.1 rfl (lv_room (Nat.le_of_ble_eq_true rfl)) dX9_reckon_38 ⟨(Nat.le_of_ble_eq_true rfl), (Nat.le_of_ble_eq_true rfl)⟩) hS (fun q _ h => h) (fun q h => h) (fun r_10 u8 t8 H1 locs ht8 hvm8 hw_11 hB hz1 hk1 hS => ?_)
      obtain ⟨⟩ := u8
      try dsimp only at hw_11 hB
      rw [ht8] at hB
      have hP := hB
      generalize H1 = H at hP hS ⊢
      obtain ⟨b_8, hb_8, rfl⟩ := hw_11
      refine lv_if_ne (tgt := 57) hx hb dX9_reckon_41 (by decide) (fun c_12 => ?_) (fun c_12 => ?_)
      · have c_12 := mt (nI_eq (a := b_8) (b := 0) (by omega) (by decide)).mpr c_12
        refine lv_iconst (v := nI 0) hx hb dX9_reckon_57 (by decide +kernel) ?_
        refine vx_ret ?_
        refine W.widen (k := 10) (n := 60) (by omega) (by omega) ?_
        exact W.zret (v := nI 0) hx hb hr (by decide +kernel) (fun t9 ht9 hW9 => ⟨⟨nI 0, g, rfl, ⟨d0, hC, hWf, d3, d4, d5, d6, d7, d8, d9, da, db, dc⟩, by show va_P (dC, dI) vwCl _ t9.heap; rw [ht9]; exact hP⟩, hS.F ht9⟩) hS.2.2 dX9_reckon_58
      · have c_12 := (nI_eq (a := b_8) (b := 0) (by omega) (by decide)).mp c_12
        refine lv_aload_n hx hb dX9_reckon_44 rfl (lv_at hl 0 rfl) ?_
        refine m_get (D := (dC, dI)) (v := .ref (ad 2103)) (C := RX9) (T := TX9) (N := 12) hx hb hts bk2 hown hK hP 2076 (by decide) d0 rfl 6 (by decide) (hts (.fieldLink RX9 59 "GradientDesk" "results" "[LGradientDesk$Fraction;") (List.mem_of_getElem? (i := 6) rfl)) (fun _ h9 => h9) rfl dX9_reckon_45 ?_
        refine lv_iload hx hb dX9_reckon_48 (lv_at hl 4 rfl) ?_
        refine m_aald hx hb hK hP 2103 (by decide) rfl dc.1 (i := r2) (v := ad (2109 + r2)) (by omega) (by decide) rfl dX9_reckon_50 ?_
        have hr_14 := dc.2.2 r2 (by omega)
        refine va_calli (va_runS (As := [.ref (ad (2109 + r2))]) (rest := []) ⟨hx, hb, hml, hown, hts⟩ (c_W9_isLong l dC dI A ad cA g (2109 + r2) (13 + 2 * r2) (14 + 2 * r2) hWo hr_14 (⟨fr_r (by omega), by omega⟩) (by omega)) (va_cwS 1 hts (goodIn_app (goodIn_r [Cond.methodLink RX9 203 yX9_isLong, Cond.static yX9_isLong, Cond.initialized RX9] [7, 8, 3] rfl rfl) (goodIn_sub (fun w9 h9 => bk3 w9 h9) gw_W9_isLong)) rfl rfl rfl (by decide +kernel) ⟨Nat.le_of_ble_eq_true rfl, Nat.le_of_ble_eq_true rfl⟩) ⟨fun a U g mk q => ⟨q.1, q.2.1, q.2.2.1, LY.moved (u := U) (U := U.calling g mk a) (Vm.Alike.refl U.vm) q.2.2.2⟩, fun U hU hW => ⟨rfl, by rw [hU]; exact fun q h => hA q (Nat.le_trans hS.1 h), by rw [hU]; exact hP, LY.moved hW.alike hL⟩⟩ rfl rfl hl.1 rfl (lv_room (Nat.le_of_ble_eq_true rfl)) dX9_reckon_51 ⟨(Nat.le_of_ble_eq_true rfl), (Nat.le_of_ble_eq_true rfl)⟩) hS (fun q _ h => h) (fun q h => h) (fun r_15 u8 t8 H1 locs ht8 hvm8 hw_16 hB hz1 hk1 hS => ?_)
        obtain ⟨⟩ := u8
        try dsimp only at hw_16 hB
        rw [ht8] at hB
        have hP := hB
        generalize H1 = H at hP hS ⊢
        obtain ⟨b_13, hb_13, rfl⟩ := hw_16
        refine lv_if_eq (tgt := 59) hx hb dX9_reckon_54 (by decide) (fun c_17 => ?_) (fun c_17 => ?_)
        · have c_17 := (nI_eq (a := b_13) (b := 0) (by omega) (by decide)).mp c_17
          refine lv_iload_n hx hb dX9_reckon_59 rfl (lv_at hl 1 rfl) ?_
          refine lv_iconst (v := nI 2) hx hb dX9_reckon_60 (by decide +kernel) ?_
          refine lv_icmp_ne (tgt := 91) hx hb dX9_reckon_61 (by decide) (fun c_18 => ?_) (fun c_18 => ?_)
          · have c_18 := mt Int32.toInt_inj.mp c_18
            rw [show (nI 2).toInt = 2 from by decide] at c_18
            refine lv_aload_n hx hb dX9_reckon_91 rfl (lv_at hl 0 rfl) ?_
            refine m_get (D := (dC, dI)) (v := .ref (ad 2077)) (C := RX9) (T := TX9) (N := 12) hx hb hts bk2 hown hK hP 2076 (by decide) d0 rfl 0 (by decide) (hts (.fieldLink RX9 10 "GradientDesk" "arithmetic" "LGradientDesk$Arithmetic;") (List.mem_of_getElem? (i := 9) rfl)) (fun _ h9 => h9) rfl dX9_reckon_92 ?_
            refine lv_aload_n hx hb dX9_reckon_95 rfl (lv_at hl 0 rfl) ?_
            refine m_get (D := (dC, dI)) (v := .ref (ad 2103)) (C := RX9) (T := TX9) (N := 12) hx hb hts bk2 hown hK hP 2076 (by decide) d0 rfl 6 (by decide) (hts (.fieldLink RX9 59 "GradientDesk" "results" "[LGradientDesk$Fraction;") (List.mem_of_getElem? (i := 6) rfl)) (fun _ h9 => h9) rfl dX9_reckon_96 ?_
            refine lv_iload_n hx hb dX9_reckon_99 rfl (lv_at hl 3 rfl) ?_
            refine m_aald hx hb hK hP 2103 (by decide) rfl dc.1 (i := r1) (v := ad (2109 + r1)) (by omega) (by decide) rfl dX9_reckon_100 ?_
            refine lv_aload_n hx hb dX9_reckon_101 rfl (lv_at hl 0 rfl) ?_
            refine m_get (D := (dC, dI)) (v := .ref (ad 2103)) (C := RX9) (T := TX9) (N := 12) hx hb hts bk2 hown hK hP 2076 (by decide) d0 rfl 6 (by decide) (hts (.fieldLink RX9 59 "GradientDesk" "results" "[LGradientDesk$Fraction;") (List.mem_of_getElem? (i := 6) rfl)) (fun _ h9 => h9) rfl dX9_reckon_102 ?_
            refine lv_iload hx hb dX9_reckon_105 (lv_at hl 4 rfl) ?_
            refine m_aald hx hb hK hP 2103 (by decide) rfl dc.1 (i := r2) (v := ad (2109 + r2)) (by omega) (by decide) rfl dX9_reckon_107 ?_
            refine lv_iload_n hx hb dX9_reckon_108 rfl (lv_at hl 1 rfl) ?_
            refine lv_iconst (v := nI 1) hx hb dX9_reckon_109 (by decide +kernel) ?_
            refine lv_icmp_ne (tgt := 117) hx hb dX9_reckon_110 (by decide) (fun c_19 => ?_) (fun c_19 => ?_)
            · have c_19 := mt Int32.toInt_inj.mp c_19
              rw [show (nI 1).toInt = 1 from by decide] at c_19
              refine lv_iconst (v := nI 0) hx hb dX9_reckon_117 (by decide +kernel) ?_
              refine lv_aload_n hx hb dX9_reckon_118 rfl (lv_at hl 0 rfl) ?_
              refine m_get (D := (dC, dI)) (v := .ref (ad 2108)) (C := RX9) (T := TX9) (N := 12) hx hb hts bk2 hown hK hP 2076 (by decide) d0 rfl 7 (by decide) (hts (.fieldLink RX9 66 "GradientDesk" "spare" "LGradientDesk$Fraction;") (List.mem_of_getElem? (i := 10) rfl)) (fun _ h9 => h9) rfl dX9_reckon_119 ?_
              refine va_callv (va_runV (As := [.ref (ad (2109 + r1)), .ref (ad (2109 + r2)), .int (nI 0), .ref (ad 2108)]) (rest := []) ⟨hx, hb, hml, hown, hts⟩ (c_X0_add l dC dI A ad cA g (2109 + r1) (13 + 2 * r1) (14 + 2 * r1) (2109 + r2) (13 + 2 * r2) (14 + 2 * r2) 2108 7 8 (nI 0) hWo hAro hr_9 (⟨fr_r (by omega), by omega⟩) (by omega) hr_14 (⟨fr_r (by omega), by omega⟩) (by omega) dc.2.1 (⟨by decide, by decide⟩) (by omega) (by omega)) (cwV 4 hts (goodIn_app (goodIn_r [Cond.methodLink RX9 211 yX0_add, Cond.instanceMethod yX0_add, Cond.selects RX0 yX0_add yX0_add, Cond.initialized RX0] [11, 12, 13, 14] rfl rfl) (goodIn_sub (fun w9 h9 => bk4 w9 h9) gw_X0_add)) rfl rfl rfl (by decide +kernel) ⟨Nat.le_of_ble_eq_true rfl, Nat.le_of_ble_eq_true rfl⟩) ⟨fun a U g mk q => ⟨q.1, q.2.1, q.2.2.1, LY.moved (u := U) (U := U.calling g mk a) (Vm.Alike.refl U.vm) q.2.2.2⟩, va_recv hK hP (ci := 3) (q0 := 2077) rfl (wo_at (by decide) hAro), fun U hU hW => ⟨rfl, by rw [hU]; exact fun q h => hA q (Nat.le_trans hS.1 h), by rw [hU]; exact hP, LY.moved hW.alike hL⟩⟩ rfl rfl hl.1 rfl (lv_room (Nat.le_of_ble_eq_true rfl)) dX9_reckon_122 ⟨(Nat.le_of_ble_eq_true rfl), (Nat.le_of_ble_eq_true rfl)⟩) hS (fun q _ h => h) (fun q h => h) (fun u8 t8 H1 locs ht8 hvm8 hw_21 hB hz1 hk1 hS => ?_)
              obtain ⟨g_22, rfl⟩ : ∃ z, z = u8 := ⟨_, rfl⟩
              try dsimp only at hw_21 hB
              rw [ht8] at hB
              have hP := hB
              generalize H1 = H at hP hS ⊢
              obtain ⟨fr_23, hAW_20⟩ := hw_21
              refine lv_aload_n hx hb dX9_reckon_125 rfl (lv_at hl 0 rfl) ?_
              have f_24 : g_22 2076 = .inr (12, [.ref (ad 2077), .ref (ad 2078), .ref (ad 2080), .ref (ad 2084), .ref (ad 2090), .ref (ad 2097), .ref (ad 2103), .ref (ad 2108), .ref (ad 2104), .ref (ad 2105), .ref (ad 2106), .int wp]) := (fr_23 2076 (by omega)).trans d0
              refine m_get (D := (dC, dI)) (v := .ref (ad 2077)) (C := RX9) (T := TX9) (N := 12) hx hb hts bk2 hown hK hP 2076 (by decide) f_24 rfl 0 (by decide) (hts (.fieldLink RX9 10 "GradientDesk" "arithmetic" "LGradientDesk$Arithmetic;") (List.mem_of_getElem? (i := 9) rfl)) (fun _ h9 => h9) rfl dX9_reckon_126 ?_
              refine lv_aload_n hx hb dX9_reckon_129 rfl (lv_at hl 0 rfl) ?_
              refine m_get (D := (dC, dI)) (v := .ref (ad 2108)) (C := RX9) (T := TX9) (N := 12) hx hb hts bk2 hown hK hP 2076 (by decide) f_24 rfl 7 (by decide) (hts (.fieldLink RX9 66 "GradientDesk" "spare" "LGradientDesk$Fraction;") (List.mem_of_getElem? (i := 10) rfl)) (fun _ h9 => h9) rfl dX9_reckon_130 ?_
              have f_26 : g_22 2077 = .inr (3, [.ref (ad (2 * 0)), .ref (ad (2 * 1)), .ref (ad (2 * 2)), .ref (ad (2 * 3))]) := (fr_23 2077 (by omega)).trans hAro
              have f_27 : g_22 2108 = .inr (5, [.ref (ad (2 * 7)), .ref (ad (2 * 8))]) := (fr_23 2108 (by omega)).trans dc.2.1
              refine va_callv (va_runV (As := [.ref (ad 2108)]) (rest := []) ⟨hx, hb, hml, hown, hts⟩ (c_X0_reduce l dC dI A ad cA g_22 2108 7 8 hAW_20 f_26 f_27 (⟨by decide, by decide⟩) (by omega)) (cwV 1 hts (goodIn_app (goodIn_r [Cond.methodLink RX9 215 yX0_reduce, Cond.instanceMethod yX0_reduce, Cond.selects RX0 yX0_reduce yX0_reduce, Cond.initialized RX0] [15, 16, 17, 14] rfl rfl) (goodIn_sub (fun w9 h9 => bk5 w9 h9) gw_X0_reduce)) rfl rfl rfl (by decide +kernel) ⟨Nat.le_of_ble_eq_true rfl, Nat.le_of_ble_eq_true rfl⟩) ⟨fun a U g mk q => ⟨q.1, q.2.1, q.2.2.1, LY.moved (u := U) (U := U.calling g mk a) (Vm.Alike.refl U.vm) q.2.2.2⟩, va_recv hK hP (ci := 3) (q0 := 2077) rfl (wo_at (by decide) f_26), fun U hU hW => ⟨rfl, by rw [hU]; exact fun q h => hA q (Nat.le_trans hS.1 h), by rw [hU]; exact hP, LY.moved hW.alike hL⟩⟩ rfl rfl hl.1 rfl (lv_room (Nat.le_of_ble_eq_true rfl)) dX9_reckon_133 ⟨(Nat.le_of_ble_eq_true rfl), (Nat.le_of_ble_eq_true rfl)⟩) hS (fun q _ h => h) (fun q h => h) (fun u8 t8 H1 locs ht8 hvm8 hw_28 hB hz1 hk1 hS => ?_)
              obtain ⟨g_29, rfl⟩ : ∃ z, z = u8 := ⟨_, rfl⟩
              try dsimp only at hw_28 hB
              rw [ht8] at hB
              have hP := hB
              generalize H1 = H at hP hS ⊢
              obtain ⟨fr_30, hAW_25⟩ := hw_28
              refine lv_aload_n hx hb dX9_reckon_136 rfl (lv_at hl 0 rfl) ?_
              have f_31 : g_29 2076 = .inr (12, [.ref (ad 2077), .ref (ad 2078), .ref (ad 2080), .ref (ad 2084), .ref (ad 2090), .ref (ad 2097), .ref (ad 2103), .ref (ad 2108), .ref (ad 2104), .ref (ad 2105), .ref (ad 2106), .int wp]) := (fr_30 2076 (by omega)).trans f_24
              refine m_get (D := (dC, dI)) (v := .ref (ad 2103)) (C := RX9) (T := TX9) (N := 12) hx hb hts bk2 hown hK hP 2076 (by decide) f_31 rfl 6 (by decide) (hts (.fieldLink RX9 59 "GradientDesk" "results" "[LGradientDesk$Fraction;") (List.mem_of_getElem? (i := 6) rfl)) (fun _ h9 => h9) rfl dX9_reckon_137 ?_
              refine lv_iload_n hx hb dX9_reckon_140 rfl (lv_at hl 2 rfl) ?_
              have f_32 : g_29 2103 = .inl (cA 2103, 8, .inr (.inr (.inr (.inr (fun j => some (ad (2109 + j))))))) := (fr_30 2103 (by omega)).trans ((fr_23 2103 (by omega)).trans dc.1)
              refine m_aald hx hb hK hP 2103 (by decide) rfl f_32 (i := r0) (v := ad (2109 + r0)) (by omega) (by decide) rfl dX9_reckon_141 ?_
              refine lv_aload_n hx hb dX9_reckon_142 rfl (lv_at hl 0 rfl) ?_
              refine m_get (D := (dC, dI)) (v := .ref (ad 2108)) (C := RX9) (T := TX9) (N := 12) hx hb hts bk2 hown hK hP 2076 (by decide) f_31 rfl 7 (by decide) (hts (.fieldLink RX9 66 "GradientDesk" "spare" "LGradientDesk$Fraction;") (List.mem_of_getElem? (i := 10) rfl)) (fun _ h9 => h9) rfl dX9_reckon_143 ?_
              have hr_34 := dc.2.2 r0 (by omega)
              have f_35 : g_29 (2109 + r0) = .inr (5, [.ref (ad (2 * (13 + 2 * r0))), .ref (ad (2 * (14 + 2 * r0)))]) := (fr_30 (2109 + r0) (by omega)).trans ((fr_23 (2109 + r0) (by omega)).trans hr_34)
              have f_36 : g_29 2108 = .inr (5, [.ref (ad (2 * 7)), .ref (ad (2 * 8))]) := (fr_30 2108 (by omega)).trans f_27
              refine va_callv (va_runV (As := [.ref (ad 2108)]) (rest := []) ⟨hx, hb, hml, hown, hts⟩ (c_X2_become l dC dI A ad cA g_29 (2109 + r0) (13 + 2 * r0) (14 + 2 * r0) 2108 7 8 hAW_25 f_35 (⟨fr_r (by omega), by omega⟩) (by omega) f_36 (⟨by decide, by decide⟩) (by omega) (by omega)) (cwV 1 hts (goodIn_app (goodIn_r [Cond.methodLink RX9 181 yX2_become, Cond.instanceMethod yX2_become, Cond.selects RX2 yX2_become yX2_become, Cond.initialized RX2] [18, 19, 20, 21] rfl rfl) (goodIn_sub (fun w9 h9 => bk6 w9 h9) gw_X2_become)) rfl rfl rfl (by decide +kernel) ⟨Nat.le_of_ble_eq_true rfl, Nat.le_of_ble_eq_true rfl⟩) ⟨fun a U g mk q => ⟨q.1, q.2.1, q.2.2.1, LY.moved (u := U) (U := U.calling g mk a) (Vm.Alike.refl U.vm) q.2.2.2⟩, va_recv hK hP (ci := 5) (q0 := (2109 + r0)) rfl (wo_at (fr_r (by omega)) f_35), fun U hU hW => ⟨rfl, by rw [hU]; exact fun q h => hA q (Nat.le_trans hS.1 h), by rw [hU]; exact hP, LY.moved hW.alike hL⟩⟩ rfl rfl hl.1 rfl (lv_room (Nat.le_of_ble_eq_true rfl)) dX9_reckon_146 ⟨(Nat.le_of_ble_eq_true rfl), (Nat.le_of_ble_eq_true rfl)⟩) hS (fun q _ h => h) (fun q h => h) (fun u8 t8 H1 locs ht8 hvm8 hw_37 hB hz1 hk1 hS => ?_)
              obtain ⟨g_38, rfl⟩ : ∃ z, z = u8 := ⟨_, rfl⟩
              try dsimp only at hw_37 hB
              rw [ht8] at hB
              have hP := hB
              generalize H1 = H at hP hS ⊢
              obtain ⟨fr_39, hAW_33⟩ := hw_37
              refine lv_iconst (v := nI 1) hx hb dX9_reckon_149 (by decide +kernel) ?_
              have f_40 : g_38 2076 = .inr (12, [.ref (ad 2077), .ref (ad 2078), .ref (ad 2080), .ref (ad 2084), .ref (ad 2090), .ref (ad 2097), .ref (ad 2103), .ref (ad 2108), .ref (ad 2104), .ref (ad 2105), .ref (ad 2106), .int wp]) := (fr_39 2076 (by omega)).trans f_31
              have hC_41 : CS ad cA g_38 L := CS.same hC hAW_33 (fun (k : Nat) (hk : (76 ≤ k ∧ k < 876) ∨ k = 2077 ∨ k = 2107 ∨ k = 2080 ∨ k = 2081 ∨ (2117 ≤ k ∧ k < 2517)) => (fr_39 k (by omega)).trans ((fr_30 k (by omega)).trans ((fr_23 k (by omega)).trans (rfl))))
              refine vx_ret ?_
              refine W.widen (k := 10) (n := 60) (by omega) (by omega) ?_
              exact W.zret (v := nI 1) hx hb hr (by decide +kernel) (fun t9 ht9 hW9 => ⟨⟨nI 1, g_38, rfl, ⟨f_40, hC_41, hWf, (d3.same (fun (k : Nat) (hk : k = 2078 ∨ k = 2079) => (fr_39 k (by omega)).trans ((fr_30 k (by omega)).trans ((fr_23 k (by omega)).trans (rfl))))), (d4.same (fun (k : Nat) (hk : 2084 ≤ k ∧ k ≤ 2088) => (fr_39 k (by omega)).trans ((fr_30 k (by omega)).trans ((fr_23 k (by omega)).trans (rfl))))), (d5.same (fun (k : Nat) (hk : k = 2089) => (fr_39 k (by omega)).trans ((fr_30 k (by omega)).trans ((fr_23 k (by omega)).trans (rfl))))), (d6.same (fun (k : Nat) (hk : 2090 ≤ k ∧ k ≤ 2096) => (fr_39 k (by omega)).trans ((fr_30 k (by omega)).trans ((fr_23 k (by omega)).trans (rfl))))), (d7.same (fun (k : Nat) (hk : k = 2082) => (fr_39 k (by omega)).trans ((fr_30 k (by omega)).trans ((fr_23 k (by omega)).trans (rfl))))), (d8.same (fun (k : Nat) (hk : 2097 ≤ k ∧ k ≤ 2102) => (fr_39 k (by omega)).trans ((fr_30 k (by omega)).trans ((fr_23 k (by omega)).trans (rfl))))), (d9.same (fun (k : Nat) (hk : k = 2083) => (fr_39 k (by omega)).trans ((fr_30 k (by omega)).trans ((fr_23 k (by omega)).trans (rfl))))), (da.same (fun (k : Nat) (hk : k = 2104) => (fr_39 k (by omega)).trans ((fr_30 k (by omega)).trans ((fr_23 k (by omega)).trans (rfl))))), (db.same (fun (k : Nat) (hk : k = 2105 ∨ k = 2106) => (fr_39 k (by omega)).trans ((fr_30 k (by omega)).trans ((fr_23 k (by omega)).trans (rfl))))), (dc.same (fun (k : Nat) (hk : k = 2103 ∨ (2108 ≤ k ∧ k < 2117)) => (fr_39 k (by omega)).trans ((fr_30 k (by omega)).trans ((fr_23 k (by omega)).trans (rfl)))))⟩, by show va_P (dC, dI) vwCl _ t9.heap; rw [ht9]; exact hP⟩, hS.F ht9⟩) hS.2.2 dX9_reckon_150
            · have c_19 := congrArg Int32.toInt c_19
              rw [show (nI 1).toInt = 1 from by decide] at c_19
              refine lv_iconst (v := nI 1) hx hb dX9_reckon_113 (by decide +kernel) ?_
              refine lv_goto (tgt := 118) hx hb dX9_reckon_114 (by decide) ?_
              refine lv_aload_n hx hb dX9_reckon_118 rfl (lv_at hl 0 rfl) ?_
              refine m_get (D := (dC, dI)) (v := .ref (ad 2108)) (C := RX9) (T := TX9) (N := 12) hx hb hts bk2 hown hK hP 2076 (by decide) d0 rfl 7 (by decide) (hts (.fieldLink RX9 66 "GradientDesk" "spare" "LGradientDesk$Fraction;") (List.mem_of_getElem? (i := 10) rfl)) (fun _ h9 => h9) rfl dX9_reckon_119 ?_
              refine va_callv (va_runV (As := [.ref (ad (2109 + r1)), .ref (ad (2109 + r2)), .int (nI 1), .ref (ad 2108)]) (rest := []) ⟨hx, hb, hml, hown, hts⟩ (c_X0_add l dC dI A ad cA g (2109 + r1) (13 + 2 * r1) (14 + 2 * r1) (2109 + r2) (13 + 2 * r2) (14 + 2 * r2) 2108 7 8 (nI 1) hWo hAro hr_9 (⟨fr_r (by omega), by omega⟩) (by omega) hr_14 (⟨fr_r (by omega), by omega⟩) (by omega) dc.2.1 (⟨by decide, by decide⟩) (by omega) (by omega)) (cwV 4 hts (goodIn_app (goodIn_r [Cond.methodLink RX9 211 yX0_add, Cond.instanceMethod yX0_add, Cond.selects RX0 yX0_add yX0_add, Cond.initialized RX0] [11, 12, 13, 14] rfl rfl) (goodIn_sub (fun w9 h9 => bk4 w9 h9) gw_X0_add)) rfl rfl rfl (by decide +kernel) ⟨Nat.le_of_ble_eq_true rfl, Nat.le_of_ble_eq_true rfl⟩) ⟨fun a U g mk q => ⟨q.1, q.2.1, q.2.2.1, LY.moved (u := U) (U := U.calling g mk a) (Vm.Alike.refl U.vm) q.2.2.2⟩, va_recv hK hP (ci := 3) (q0 := 2077) rfl (wo_at (by decide) hAro), fun U hU hW => ⟨rfl, by rw [hU]; exact fun q h => hA q (Nat.le_trans hS.1 h), by rw [hU]; exact hP, LY.moved hW.alike hL⟩⟩ rfl rfl hl.1 rfl (lv_room (Nat.le_of_ble_eq_true rfl)) dX9_reckon_122 ⟨(Nat.le_of_ble_eq_true rfl), (Nat.le_of_ble_eq_true rfl)⟩) hS (fun q _ h => h) (fun q h => h) (fun u8 t8 H1 locs ht8 hvm8 hw_43 hB hz1 hk1 hS => ?_)
              obtain ⟨g_44, rfl⟩ : ∃ z, z = u8 := ⟨_, rfl⟩
              try dsimp only at hw_43 hB
              rw [ht8] at hB
              have hP := hB
              generalize H1 = H at hP hS ⊢
              obtain ⟨fr_45, hAW_42⟩ := hw_43
              refine lv_aload_n hx hb dX9_reckon_125 rfl (lv_at hl 0 rfl) ?_
              have f_46 : g_44 2076 = .inr (12, [.ref (ad 2077), .ref (ad 2078), .ref (ad 2080), .ref (ad 2084), .ref (ad 2090), .ref (ad 2097), .ref (ad 2103), .ref (ad 2108), .ref (ad 2104), .ref (ad 2105), .ref (ad 2106), .int wp]) := (fr_45 2076 (by omega)).trans d0
              refine m_get (D := (dC, dI)) (v := .ref (ad 2077)) (C := RX9) (T := TX9) (N := 12) hx hb hts bk2 hown hK hP 2076 (by decide) f_46 rfl 0 (by decide) (hts (.fieldLink RX9 10 "GradientDesk" "arithmetic" "LGradientDesk$Arithmetic;") (List.mem_of_getElem? (i := 9) rfl)) (fun _ h9 => h9) rfl dX9_reckon_126 ?_
              refine lv_aload_n hx hb dX9_reckon_129 rfl (lv_at hl 0 rfl) ?_
              refine m_get (D := (dC, dI)) (v := .ref (ad 2108)) (C := RX9) (T := TX9) (N := 12) hx hb hts bk2 hown hK hP 2076 (by decide) f_46 rfl 7 (by decide) (hts (.fieldLink RX9 66 "GradientDesk" "spare" "LGradientDesk$Fraction;") (List.mem_of_getElem? (i := 10) rfl)) (fun _ h9 => h9) rfl dX9_reckon_130 ?_
              have f_48 : g_44 2077 = .inr (3, [.ref (ad (2 * 0)), .ref (ad (2 * 1)), .ref (ad (2 * 2)), .ref (ad (2 * 3))]) := (fr_45 2077 (by omega)).trans hAro
              have f_49 : g_44 2108 = .inr (5, [.ref (ad (2 * 7)), .ref (ad (2 * 8))]) := (fr_45 2108 (by omega)).trans dc.2.1
              refine va_callv (va_runV (As := [.ref (ad 2108)]) (rest := []) ⟨hx, hb, hml, hown, hts⟩ (c_X0_reduce l dC dI A ad cA g_44 2108 7 8 hAW_42 f_48 f_49 (⟨by decide, by decide⟩) (by omega)) (cwV 1 hts (goodIn_app (goodIn_r [Cond.methodLink RX9 215 yX0_reduce, Cond.instanceMethod yX0_reduce, Cond.selects RX0 yX0_reduce yX0_reduce, Cond.initialized RX0] [15, 16, 17, 14] rfl rfl) (goodIn_sub (fun w9 h9 => bk5 w9 h9) gw_X0_reduce)) rfl rfl rfl (by decide +kernel) ⟨Nat.le_of_ble_eq_true rfl, Nat.le_of_ble_eq_true rfl⟩) ⟨fun a U g mk q => ⟨q.1, q.2.1, q.2.2.1, LY.moved (u := U) (U := U.calling g mk a) (Vm.Alike.refl U.vm) q.2.2.2⟩, va_recv hK hP (ci := 3) (q0 := 2077) rfl (wo_at (by decide) f_48), fun U hU hW => ⟨rfl, by rw [hU]; exact fun q h => hA q (Nat.le_trans hS.1 h), by rw [hU]; exact hP, LY.moved hW.alike hL⟩⟩ rfl rfl hl.1 rfl (lv_room (Nat.le_of_ble_eq_true rfl)) dX9_reckon_133 ⟨(Nat.le_of_ble_eq_true rfl), (Nat.le_of_ble_eq_true rfl)⟩) hS (fun q _ h => h) (fun q h => h) (fun u8 t8 H1 locs ht8 hvm8 hw_50 hB hz1 hk1 hS => ?_)
              obtain ⟨g_51, rfl⟩ : ∃ z, z = u8 := ⟨_, rfl⟩
              try dsimp only at hw_50 hB
              rw [ht8] at hB
              have hP := hB
              generalize H1 = H at hP hS ⊢
              obtain ⟨fr_52, hAW_47⟩ := hw_50
              refine lv_aload_n hx hb dX9_reckon_136 rfl (lv_at hl 0 rfl) ?_
              have f_53 : g_51 2076 = .inr (12, [.ref (ad 2077), .ref (ad 2078), .ref (ad 2080), .ref (ad 2084), .ref (ad 2090), .ref (ad 2097), .ref (ad 2103), .ref (ad 2108), .ref (ad 2104), .ref (ad 2105), .ref (ad 2106), .int wp]) := (fr_52 2076 (by omega)).trans f_46
              refine m_get (D := (dC, dI)) (v := .ref (ad 2103)) (C := RX9) (T := TX9) (N := 12) hx hb hts bk2 hown hK hP 2076 (by decide) f_53 rfl 6 (by decide) (hts (.fieldLink RX9 59 "GradientDesk" "results" "[LGradientDesk$Fraction;") (List.mem_of_getElem? (i := 6) rfl)) (fun _ h9 => h9) rfl dX9_reckon_137 ?_
              refine lv_iload_n hx hb dX9_reckon_140 rfl (lv_at hl 2 rfl) ?_
              have f_54 : g_51 2103 = .inl (cA 2103, 8, .inr (.inr (.inr (.inr (fun j => some (ad (2109 + j))))))) := (fr_52 2103 (by omega)).trans ((fr_45 2103 (by omega)).trans dc.1)
              refine m_aald hx hb hK hP 2103 (by decide) rfl f_54 (i := r0) (v := ad (2109 + r0)) (by omega) (by decide) rfl dX9_reckon_141 ?_
              refine lv_aload_n hx hb dX9_reckon_142 rfl (lv_at hl 0 rfl) ?_
              refine m_get (D := (dC, dI)) (v := .ref (ad 2108)) (C := RX9) (T := TX9) (N := 12) hx hb hts bk2 hown hK hP 2076 (by decide) f_53 rfl 7 (by decide) (hts (.fieldLink RX9 66 "GradientDesk" "spare" "LGradientDesk$Fraction;") (List.mem_of_getElem? (i := 10) rfl)) (fun _ h9 => h9) rfl dX9_reckon_143 ?_
              have hr_56 := dc.2.2 r0 (by omega)
              have f_57 : g_51 (2109 + r0) = .inr (5, [.ref (ad (2 * (13 + 2 * r0))), .ref (ad (2 * (14 + 2 * r0)))]) := (fr_52 (2109 + r0) (by omega)).trans ((fr_45 (2109 + r0) (by omega)).trans hr_56)
              have f_58 : g_51 2108 = .inr (5, [.ref (ad (2 * 7)), .ref (ad (2 * 8))]) := (fr_52 2108 (by omega)).trans f_49
              refine va_callv (va_runV (As := [.ref (ad 2108)]) (rest := []) ⟨hx, hb, hml, hown, hts⟩ (c_X2_become l dC dI A ad cA g_51 (2109 + r0) (13 + 2 * r0) (14 + 2 * r0) 2108 7 8 hAW_47 f_57 (⟨fr_r (by omega), by omega⟩) (by omega) f_58 (⟨by decide, by decide⟩) (by omega) (by omega)) (cwV 1 hts (goodIn_app (goodIn_r [Cond.methodLink RX9 181 yX2_become, Cond.instanceMethod yX2_become, Cond.selects RX2 yX2_become yX2_become, Cond.initialized RX2] [18, 19, 20, 21] rfl rfl) (goodIn_sub (fun w9 h9 => bk6 w9 h9) gw_X2_become)) rfl rfl rfl (by decide +kernel) ⟨Nat.le_of_ble_eq_true rfl, Nat.le_of_ble_eq_true rfl⟩) ⟨fun a U g mk q => ⟨q.1, q.2.1, q.2.2.1, LY.moved (u := U) (U := U.calling g mk a) (Vm.Alike.refl U.vm) q.2.2.2⟩, va_recv hK hP (ci := 5) (q0 := (2109 + r0)) rfl (wo_at (fr_r (by omega)) f_57), fun U hU hW => ⟨rfl, by rw [hU]; exact fun q h => hA q (Nat.le_trans hS.1 h), by rw [hU]; exact hP, LY.moved hW.alike hL⟩⟩ rfl rfl hl.1 rfl (lv_room (Nat.le_of_ble_eq_true rfl)) dX9_reckon_146 ⟨(Nat.le_of_ble_eq_true rfl), (Nat.le_of_ble_eq_true rfl)⟩) hS (fun q _ h => h) (fun q h => h) (fun u8 t8 H1 locs ht8 hvm8 hw_59 hB hz1 hk1 hS => ?_)
              obtain ⟨g_60, rfl⟩ : ∃ z, z = u8 := ⟨_, rfl⟩
              try dsimp only at hw_59 hB
              rw [ht8] at hB
              have hP := hB
              generalize H1 = H at hP hS ⊢
              obtain ⟨fr_61, hAW_55⟩ := hw_59
              refine lv_iconst (v := nI 1) hx hb dX9_reckon_149 (by decide +kernel) ?_
              have f_62 : g_60 2076 = .inr (12, [.ref (ad 2077), .ref (ad 2078), .ref (ad 2080), .ref (ad 2084), .ref (ad 2090), .ref (ad 2097), .ref (ad 2103), .ref (ad 2108), .ref (ad 2104), .ref (ad 2105), .ref (ad 2106), .int wp]) := (fr_61 2076 (by omega)).trans f_53
              have hC_63 : CS ad cA g_60 L := CS.same hC hAW_55 (fun (k : Nat) (hk : (76 ≤ k ∧ k < 876) ∨ k = 2077 ∨ k = 2107 ∨ k = 2080 ∨ k = 2081 ∨ (2117 ≤ k ∧ k < 2517)) => (fr_61 k (by omega)).trans ((fr_52 k (by omega)).trans ((fr_45 k (by omega)).trans (rfl))))
              refine vx_ret ?_
              refine W.widen (k := 10) (n := 60) (by omega) (by omega) ?_
              exact W.zret (v := nI 1) hx hb hr (by decide +kernel) (fun t9 ht9 hW9 => ⟨⟨nI 1, g_60, rfl, ⟨f_62, hC_63, hWf, (d3.same (fun (k : Nat) (hk : k = 2078 ∨ k = 2079) => (fr_61 k (by omega)).trans ((fr_52 k (by omega)).trans ((fr_45 k (by omega)).trans (rfl))))), (d4.same (fun (k : Nat) (hk : 2084 ≤ k ∧ k ≤ 2088) => (fr_61 k (by omega)).trans ((fr_52 k (by omega)).trans ((fr_45 k (by omega)).trans (rfl))))), (d5.same (fun (k : Nat) (hk : k = 2089) => (fr_61 k (by omega)).trans ((fr_52 k (by omega)).trans ((fr_45 k (by omega)).trans (rfl))))), (d6.same (fun (k : Nat) (hk : 2090 ≤ k ∧ k ≤ 2096) => (fr_61 k (by omega)).trans ((fr_52 k (by omega)).trans ((fr_45 k (by omega)).trans (rfl))))), (d7.same (fun (k : Nat) (hk : k = 2082) => (fr_61 k (by omega)).trans ((fr_52 k (by omega)).trans ((fr_45 k (by omega)).trans (rfl))))), (d8.same (fun (k : Nat) (hk : 2097 ≤ k ∧ k ≤ 2102) => (fr_61 k (by omega)).trans ((fr_52 k (by omega)).trans ((fr_45 k (by omega)).trans (rfl))))), (d9.same (fun (k : Nat) (hk : k = 2083) => (fr_61 k (by omega)).trans ((fr_52 k (by omega)).trans ((fr_45 k (by omega)).trans (rfl))))), (da.same (fun (k : Nat) (hk : k = 2104) => (fr_61 k (by omega)).trans ((fr_52 k (by omega)).trans ((fr_45 k (by omega)).trans (rfl))))), (db.same (fun (k : Nat) (hk : k = 2105 ∨ k = 2106) => (fr_61 k (by omega)).trans ((fr_52 k (by omega)).trans ((fr_45 k (by omega)).trans (rfl))))), (dc.same (fun (k : Nat) (hk : k = 2103 ∨ (2108 ≤ k ∧ k < 2117)) => (fr_61 k (by omega)).trans ((fr_52 k (by omega)).trans ((fr_45 k (by omega)).trans (rfl)))))⟩, by show va_P (dC, dI) vwCl _ t9.heap; rw [ht9]; exact hP⟩, hS.F ht9⟩) hS.2.2 dX9_reckon_150
          · have c_18 := congrArg Int32.toInt c_18
            rw [show (nI 2).toInt = 2 from by decide] at c_18
            refine lv_aload_n hx hb dX9_reckon_64 rfl (lv_at hl 0 rfl) ?_
            refine m_get (D := (dC, dI)) (v := .ref (ad 2077)) (C := RX9) (T := TX9) (N := 12) hx hb hts bk2 hown hK hP 2076 (by decide) d0 rfl 0 (by decide) (hts (.fieldLink RX9 10 "GradientDesk" "arithmetic" "LGradientDesk$Arithmetic;") (List.mem_of_getElem? (i := 9) rfl)) (fun _ h9 => h9) rfl dX9_reckon_65 ?_
            refine lv_aload_n hx hb dX9_reckon_68 rfl (lv_at hl 0 rfl) ?_
            refine m_get (D := (dC, dI)) (v := .ref (ad 2103)) (C := RX9) (T := TX9) (N := 12) hx hb hts bk2 hown hK hP 2076 (by decide) d0 rfl 6 (by decide) (hts (.fieldLink RX9 59 "GradientDesk" "results" "[LGradientDesk$Fraction;") (List.mem_of_getElem? (i := 6) rfl)) (fun _ h9 => h9) rfl dX9_reckon_69 ?_
            refine lv_iload_n hx hb dX9_reckon_72 rfl (lv_at hl 3 rfl) ?_
            refine m_aald hx hb hK hP 2103 (by decide) rfl dc.1 (i := r1) (v := ad (2109 + r1)) (by omega) (by decide) rfl dX9_reckon_73 ?_
            refine lv_aload_n hx hb dX9_reckon_74 rfl (lv_at hl 0 rfl) ?_
            refine m_get (D := (dC, dI)) (v := .ref (ad 2103)) (C := RX9) (T := TX9) (N := 12) hx hb hts bk2 hown hK hP 2076 (by decide) d0 rfl 6 (by decide) (hts (.fieldLink RX9 59 "GradientDesk" "results" "[LGradientDesk$Fraction;") (List.mem_of_getElem? (i := 6) rfl)) (fun _ h9 => h9) rfl dX9_reckon_75 ?_
            refine lv_iload hx hb dX9_reckon_78 (lv_at hl 4 rfl) ?_
            refine m_aald hx hb hK hP 2103 (by decide) rfl dc.1 (i := r2) (v := ad (2109 + r2)) (by omega) (by decide) rfl dX9_reckon_80 ?_
            refine lv_aload_n hx hb dX9_reckon_81 rfl (lv_at hl 0 rfl) ?_
            refine m_get (D := (dC, dI)) (v := .ref (ad 2108)) (C := RX9) (T := TX9) (N := 12) hx hb hts bk2 hown hK hP 2076 (by decide) d0 rfl 7 (by decide) (hts (.fieldLink RX9 66 "GradientDesk" "spare" "LGradientDesk$Fraction;") (List.mem_of_getElem? (i := 10) rfl)) (fun _ h9 => h9) rfl dX9_reckon_82 ?_
            refine va_callv (va_runV (As := [.ref (ad (2109 + r1)), .ref (ad (2109 + r2)), .ref (ad 2108)]) (rest := []) ⟨hx, hb, hml, hown, hts⟩ (c_X0_multiply l dC dI A ad cA g (2109 + r1) (13 + 2 * r1) (14 + 2 * r1) (2109 + r2) (13 + 2 * r2) (14 + 2 * r2) 2108 7 8 hWo hAro hr_9 (⟨fr_r (by omega), by omega⟩) (by omega) hr_14 (⟨fr_r (by omega), by omega⟩) (by omega) dc.2.1 (⟨by decide, by decide⟩) (by omega) (by omega)) (cwV 3 hts (goodIn_app (goodIn_r [Cond.methodLink RX9 207 yX0_multiply, Cond.instanceMethod yX0_multiply, Cond.selects RX0 yX0_multiply yX0_multiply, Cond.initialized RX0] [22, 23, 24, 14] rfl rfl) (goodIn_sub (fun w9 h9 => bk7 w9 h9) gw_X0_multiply)) rfl rfl rfl (by decide +kernel) ⟨Nat.le_of_ble_eq_true rfl, Nat.le_of_ble_eq_true rfl⟩) ⟨fun a U g mk q => ⟨q.1, q.2.1, q.2.2.1, LY.moved (u := U) (U := U.calling g mk a) (Vm.Alike.refl U.vm) q.2.2.2⟩, va_recv hK hP (ci := 3) (q0 := 2077) rfl (wo_at (by decide) hAro), fun U hU hW => ⟨rfl, by rw [hU]; exact fun q h => hA q (Nat.le_trans hS.1 h), by rw [hU]; exact hP, LY.moved hW.alike hL⟩⟩ rfl rfl hl.1 rfl (lv_room (Nat.le_of_ble_eq_true rfl)) dX9_reckon_85 ⟨(Nat.le_of_ble_eq_true rfl), (Nat.le_of_ble_eq_true rfl)⟩) hS (fun q _ h => h) (fun q h => h) (fun u8 t8 H1 locs ht8 hvm8 hw_65 hB hz1 hk1 hS => ?_)
            obtain ⟨g_66, rfl⟩ : ∃ z, z = u8 := ⟨_, rfl⟩
            try dsimp only at hw_65 hB
            rw [ht8] at hB
            have hP := hB
            generalize H1 = H at hP hS ⊢
            obtain ⟨fr_67, hAW_64⟩ := hw_65
            refine lv_goto (tgt := 125) hx hb dX9_reckon_88 (by decide) ?_
            refine lv_aload_n hx hb dX9_reckon_125 rfl (lv_at hl 0 rfl) ?_
            have f_68 : g_66 2076 = .inr (12, [.ref (ad 2077), .ref (ad 2078), .ref (ad 2080), .ref (ad 2084), .ref (ad 2090), .ref (ad 2097), .ref (ad 2103), .ref (ad 2108), .ref (ad 2104), .ref (ad 2105), .ref (ad 2106), .int wp]) := (fr_67 2076 (by omega)).trans d0
            refine m_get (D := (dC, dI)) (v := .ref (ad 2077)) (C := RX9) (T := TX9) (N := 12) hx hb hts bk2 hown hK hP 2076 (by decide) f_68 rfl 0 (by decide) (hts (.fieldLink RX9 10 "GradientDesk" "arithmetic" "LGradientDesk$Arithmetic;") (List.mem_of_getElem? (i := 9) rfl)) (fun _ h9 => h9) rfl dX9_reckon_126 ?_
            refine lv_aload_n hx hb dX9_reckon_129 rfl (lv_at hl 0 rfl) ?_
            refine m_get (D := (dC, dI)) (v := .ref (ad 2108)) (C := RX9) (T := TX9) (N := 12) hx hb hts bk2 hown hK hP 2076 (by decide) f_68 rfl 7 (by decide) (hts (.fieldLink RX9 66 "GradientDesk" "spare" "LGradientDesk$Fraction;") (List.mem_of_getElem? (i := 10) rfl)) (fun _ h9 => h9) rfl dX9_reckon_130 ?_
            have f_70 : g_66 2077 = .inr (3, [.ref (ad (2 * 0)), .ref (ad (2 * 1)), .ref (ad (2 * 2)), .ref (ad (2 * 3))]) := (fr_67 2077 (by omega)).trans hAro
            have f_71 : g_66 2108 = .inr (5, [.ref (ad (2 * 7)), .ref (ad (2 * 8))]) := (fr_67 2108 (by omega)).trans dc.2.1
            refine va_callv (va_runV (As := [.ref (ad 2108)]) (rest := []) ⟨hx, hb, hml, hown, hts⟩ (c_X0_reduce l dC dI A ad cA g_66 2108 7 8 hAW_64 f_70 f_71 (⟨by decide, by decide⟩) (by omega)) (cwV 1 hts (goodIn_app (goodIn_r [Cond.methodLink RX9 215 yX0_reduce, Cond.instanceMethod yX0_reduce, Cond.selects RX0 yX0_reduce yX0_reduce, Cond.initialized RX0] [15, 16, 17, 14] rfl rfl) (goodIn_sub (fun w9 h9 => bk5 w9 h9) gw_X0_reduce)) rfl rfl rfl (by decide +kernel) ⟨Nat.le_of_ble_eq_true rfl, Nat.le_of_ble_eq_true rfl⟩) ⟨fun a U g mk q => ⟨q.1, q.2.1, q.2.2.1, LY.moved (u := U) (U := U.calling g mk a) (Vm.Alike.refl U.vm) q.2.2.2⟩, va_recv hK hP (ci := 3) (q0 := 2077) rfl (wo_at (by decide) f_70), fun U hU hW => ⟨rfl, by rw [hU]; exact fun q h => hA q (Nat.le_trans hS.1 h), by rw [hU]; exact hP, LY.moved hW.alike hL⟩⟩ rfl rfl hl.1 rfl (lv_room (Nat.le_of_ble_eq_true rfl)) dX9_reckon_133 ⟨(Nat.le_of_ble_eq_true rfl), (Nat.le_of_ble_eq_true rfl)⟩) hS (fun q _ h => h) (fun q h => h) (fun u8 t8 H1 locs ht8 hvm8 hw_72 hB hz1 hk1 hS => ?_)
            obtain ⟨g_73, rfl⟩ : ∃ z, z = u8 := ⟨_, rfl⟩
            try dsimp only at hw_72 hB
            rw [ht8] at hB
            have hP := hB
            generalize H1 = H at hP hS ⊢
            obtain ⟨fr_74, hAW_69⟩ := hw_72
            refine lv_aload_n hx hb dX9_reckon_136 rfl (lv_at hl 0 rfl) ?_
            have f_75 : g_73 2076 = .inr (12, [.ref (ad 2077), .ref (ad 2078), .ref (ad 2080), .ref (ad 2084), .ref (ad 2090), .ref (ad 2097), .ref (ad 2103), .ref (ad 2108), .ref (ad 2104), .ref (ad 2105), .ref (ad 2106), .int wp]) := (fr_74 2076 (by omega)).trans f_68
            refine m_get (D := (dC, dI)) (v := .ref (ad 2103)) (C := RX9) (T := TX9) (N := 12) hx hb hts bk2 hown hK hP 2076 (by decide) f_75 rfl 6 (by decide) (hts (.fieldLink RX9 59 "GradientDesk" "results" "[LGradientDesk$Fraction;") (List.mem_of_getElem? (i := 6) rfl)) (fun _ h9 => h9) rfl dX9_reckon_137 ?_
            refine lv_iload_n hx hb dX9_reckon_140 rfl (lv_at hl 2 rfl) ?_
            have f_76 : g_73 2103 = .inl (cA 2103, 8, .inr (.inr (.inr (.inr (fun j => some (ad (2109 + j))))))) := (fr_74 2103 (by omega)).trans ((fr_67 2103 (by omega)).trans dc.1)
            refine m_aald hx hb hK hP 2103 (by decide) rfl f_76 (i := r0) (v := ad (2109 + r0)) (by omega) (by decide) rfl dX9_reckon_141 ?_
            refine lv_aload_n hx hb dX9_reckon_142 rfl (lv_at hl 0 rfl) ?_
            refine m_get (D := (dC, dI)) (v := .ref (ad 2108)) (C := RX9) (T := TX9) (N := 12) hx hb hts bk2 hown hK hP 2076 (by decide) f_75 rfl 7 (by decide) (hts (.fieldLink RX9 66 "GradientDesk" "spare" "LGradientDesk$Fraction;") (List.mem_of_getElem? (i := 10) rfl)) (fun _ h9 => h9) rfl dX9_reckon_143 ?_
            have hr_78 := dc.2.2 r0 (by omega)
            have f_79 : g_73 (2109 + r0) = .inr (5, [.ref (ad (2 * (13 + 2 * r0))), .ref (ad (2 * (14 + 2 * r0)))]) := (fr_74 (2109 + r0) (by omega)).trans ((fr_67 (2109 + r0) (by omega)).trans hr_78)
            have f_80 : g_73 2108 = .inr (5, [.ref (ad (2 * 7)), .ref (ad (2 * 8))]) := (fr_74 2108 (by omega)).trans f_71
            refine va_callv (va_runV (As := [.ref (ad 2108)]) (rest := []) ⟨hx, hb, hml, hown, hts⟩ (c_X2_become l dC dI A ad cA g_73 (2109 + r0) (13 + 2 * r0) (14 + 2 * r0) 2108 7 8 hAW_69 f_79 (⟨fr_r (by omega), by omega⟩) (by omega) f_80 (⟨by decide, by decide⟩) (by omega) (by omega)) (cwV 1 hts (goodIn_app (goodIn_r [Cond.methodLink RX9 181 yX2_become, Cond.instanceMethod yX2_become, Cond.selects RX2 yX2_become yX2_become, Cond.initialized RX2] [18, 19, 20, 21] rfl rfl) (goodIn_sub (fun w9 h9 => bk6 w9 h9) gw_X2_become)) rfl rfl rfl (by decide +kernel) ⟨Nat.le_of_ble_eq_true rfl, Nat.le_of_ble_eq_true rfl⟩) ⟨fun a U g mk q => ⟨q.1, q.2.1, q.2.2.1, LY.moved (u := U) (U := U.calling g mk a) (Vm.Alike.refl U.vm) q.2.2.2⟩, va_recv hK hP (ci := 5) (q0 := (2109 + r0)) rfl (wo_at (fr_r (by omega)) f_79), fun U hU hW => ⟨rfl, by rw [hU]; exact fun q h => hA q (Nat.le_trans hS.1 h), by rw [hU]; exact hP, LY.moved hW.alike hL⟩⟩ rfl rfl hl.1 rfl (lv_room (Nat.le_of_ble_eq_true rfl)) dX9_reckon_146 ⟨(Nat.le_of_ble_eq_true rfl), (Nat.le_of_ble_eq_true rfl)⟩) hS (fun q _ h => h) (fun q h => h) (fun u8 t8 H1 locs ht8 hvm8 hw_81 hB hz1 hk1 hS => ?_)
            obtain ⟨g_82, rfl⟩ : ∃ z, z = u8 := ⟨_, rfl⟩
            try dsimp only at hw_81 hB
            rw [ht8] at hB
            have hP := hB
            generalize H1 = H at hP hS ⊢
            obtain ⟨fr_83, hAW_77⟩ := hw_81
            refine lv_iconst (v := nI 1) hx hb dX9_reckon_149 (by decide +kernel) ?_
            have f_84 : g_82 2076 = .inr (12, [.ref (ad 2077), .ref (ad 2078), .ref (ad 2080), .ref (ad 2084), .ref (ad 2090), .ref (ad 2097), .ref (ad 2103), .ref (ad 2108), .ref (ad 2104), .ref (ad 2105), .ref (ad 2106), .int wp]) := (fr_83 2076 (by omega)).trans f_75
            have hC_85 : CS ad cA g_82 L := CS.same hC hAW_77 (fun (k : Nat) (hk : (76 ≤ k ∧ k < 876) ∨ k = 2077 ∨ k = 2107 ∨ k = 2080 ∨ k = 2081 ∨ (2117 ≤ k ∧ k < 2517)) => (fr_83 k (by omega)).trans ((fr_74 k (by omega)).trans ((fr_67 k (by omega)).trans (rfl))))
            refine vx_ret ?_
            refine W.widen (k := 10) (n := 60) (by omega) (by omega) ?_
            exact W.zret (v := nI 1) hx hb hr (by decide +kernel) (fun t9 ht9 hW9 => ⟨⟨nI 1, g_82, rfl, ⟨f_84, hC_85, hWf, (d3.same (fun (k : Nat) (hk : k = 2078 ∨ k = 2079) => (fr_83 k (by omega)).trans ((fr_74 k (by omega)).trans ((fr_67 k (by omega)).trans (rfl))))), (d4.same (fun (k : Nat) (hk : 2084 ≤ k ∧ k ≤ 2088) => (fr_83 k (by omega)).trans ((fr_74 k (by omega)).trans ((fr_67 k (by omega)).trans (rfl))))), (d5.same (fun (k : Nat) (hk : k = 2089) => (fr_83 k (by omega)).trans ((fr_74 k (by omega)).trans ((fr_67 k (by omega)).trans (rfl))))), (d6.same (fun (k : Nat) (hk : 2090 ≤ k ∧ k ≤ 2096) => (fr_83 k (by omega)).trans ((fr_74 k (by omega)).trans ((fr_67 k (by omega)).trans (rfl))))), (d7.same (fun (k : Nat) (hk : k = 2082) => (fr_83 k (by omega)).trans ((fr_74 k (by omega)).trans ((fr_67 k (by omega)).trans (rfl))))), (d8.same (fun (k : Nat) (hk : 2097 ≤ k ∧ k ≤ 2102) => (fr_83 k (by omega)).trans ((fr_74 k (by omega)).trans ((fr_67 k (by omega)).trans (rfl))))), (d9.same (fun (k : Nat) (hk : k = 2083) => (fr_83 k (by omega)).trans ((fr_74 k (by omega)).trans ((fr_67 k (by omega)).trans (rfl))))), (da.same (fun (k : Nat) (hk : k = 2104) => (fr_83 k (by omega)).trans ((fr_74 k (by omega)).trans ((fr_67 k (by omega)).trans (rfl))))), (db.same (fun (k : Nat) (hk : k = 2105 ∨ k = 2106) => (fr_83 k (by omega)).trans ((fr_74 k (by omega)).trans ((fr_67 k (by omega)).trans (rfl))))), (dc.same (fun (k : Nat) (hk : k = 2103 ∨ (2108 ≤ k ∧ k < 2117)) => (fr_83 k (by omega)).trans ((fr_74 k (by omega)).trans ((fr_67 k (by omega)).trans (rfl)))))⟩, by show va_P (dC, dI) vwCl _ t9.heap; rw [ht9]; exact hP⟩, hS.F ht9⟩) hS.2.2 dX9_reckon_150
        · have c_17 := mt (nI_eq (a := b_13) (b := 0) (by omega) (by decide)).mpr c_17
          refine lv_iconst (v := nI 0) hx hb dX9_reckon_57 (by decide +kernel) ?_
          refine vx_ret ?_
          refine W.widen (k := 10) (n := 60) (by omega) (by omega) ?_
          exact W.zret (v := nI 0) hx hb hr (by decide +kernel) (fun t9 ht9 hW9 => ⟨⟨nI 0, g, rfl, ⟨d0, hC, hWf, d3, d4, d5, d6, d7, d8, d9, da, db, dc⟩, by show va_P (dC, dI) vwCl _ t9.heap; rw [ht9]; exact hP⟩, hS.F ht9⟩) hS.2.2 dX9_reckon_58
    · have c_7 := mt (k_le v (nI 2)).mpr c_7
      rw [show (nI 2).toInt = 2 from by decide] at c_7
      obtain ⟨sa_86, hstr_87⟩ := hE.2.2.1 (201, "what is not 0 .. 2") (by decide +kernel)
      exact vx_throwS (own := RX9) (cls := "java/lang/IllegalArgumentException") (text := "what is not 0 .. 2") (names := ["java/lang/RuntimeException", "java/lang/Exception"]) (ik := 90) (is := 201) (ic := 94) (sa := sa_86) (A := A) hx hb hlt hown (by decide +kernel) (by decide +kernel) (hts (.classLink RX9 90 "java/lang/IllegalArgumentException") (List.mem_of_getElem? (i := 4) rfl)) (hts (.initialized "java/lang/IllegalArgumentException") (List.mem_of_getElem? (i := 5) rfl)) hstr_87 (vx_hat (B := [.declares (Bundle.initS "java/lang/RuntimeException"), .declares (Bundle.initS "java/lang/Exception"), .declares (Bundle.initS Bundle.tN), .castable "java/lang/IllegalArgumentException" "java/lang/IllegalArgumentException"]) (fun w hw => hts w (bk1 w hw)) (by decide +kernel) (vx_c (va_Nw.use rfl hE.2.2.2.1) (vx_c (va_Nw.use rfl hE.2.2.2.2.1) (vx_c (va_Nw.use rfl hE.2.2.2.2.2.1) (vx_c (va_Nw.use rfl hE.2.2.2.2.2.2.1) vx_n))))) (by decide +kernel) hE.1 hE.2.1 hS (by rw [hml]; exact hl.1) dX9_reckon_22 dX9_reckon_25 dX9_reckon_26 dX9_reckon_28 dX9_reckon_31 (fun x9 hx9 => (htb x9 hx9).elim) (Nat.le_of_ble_eq_true rfl) (Nat.le_of_ble_eq_true rfl) (Nat.le_of_ble_eq_true rfl) (Nat.le_of_ble_eq_true rfl) hlocks (fun t9 hvm9 h1 h2 => ⟨(), trivial, ⟨Or.inr rfl, wP_grow hP h2⟩, k_F hS h1 h2⟩) hS.2.2 (Nat.le_of_ble_eq_true rfl) (Nat.le_of_ble_eq_true rfl)
def wd_W9_compare : List Cond := .code yX9_compare cX9_compare 3 (some .int) :: (([.methodLink RX9 175 yX9_checkResult, .static yX9_checkResult, .initialized RX9, .fieldLink RX9 10 "GradientDesk" "arithmetic" "LGradientDesk$Arithmetic;", .fieldLink RX9 59 "GradientDesk" "results" "[LGradientDesk$Fraction;", .methodLink RX9 218 yX0_order, .instanceMethod yX0_order, .selects RX0 yX0_order yX0_order, .initialized RX0] : List Cond) ++ (wd_W9_ckRes ++ (u_ws RX9 TX9 12 ++ (wd_X0_order ++ ([])))))
theorem gw_W9_compare : wd_W9_compare.all goodWord = true := k_allc rfl (k_all (by decide +kernel) (k_all (gw_W9_ckRes) (k_all (gu_X9) (k_all (gw_X0_order) (rfl)))))
set_option maxHeartbeats 4000000 in
set_option maxRecDepth 100000 in
theorem c_W9_compare (l : Launch) (hlt : l.stackTraces = false) (dC : Nat → ClassId) (dI : Nat → Nat → Nat) (A : Nat → Prop) (ad : Nat → Nat) (cA : Nat → ClassId) (g : Nat → va_E) (L : List PD) (nm : Nat → Int) (tx : Nat → Nat) (ty : Nat) (wp : Int32) (wr : List Int) (v : Int32) (w1 : Int32) (hI : CIS ad cA g L nm tx ty wp wr) : vx_Met l yX9_compare wd_W9_compare ({ frames := 60, cells := 10, slots := 60, locals := 1200 }) (va_Pc [.ref (ad 2076), .int v, .int w1] (fun U => PR NSc tyc dC dI A ad cA g U ∧ exF A U U.heap)) (va_Qi (fun (r : Int32) => fun (u : Nat → va_E) => match u with | g2 => CIS ad cA g2 L nm tx ty wp wr) (fun (u : Nat → va_E) (t : State) => va_P (dC, dI) vwCl (wo ad NSc u) t.heap) A) (vx_X (fun _ : Unit => True) (fun E _ t => (E = "java/lang/IndexOutOfBoundsException") ∧ va_P (dC, dI) vwCl (wo ad NSc g) t.heap) A) (10) (60) A := by
  refine vx_ofW (cc := cX9_compare) (maxL := 3) (ret := (some .int)) (by decide) rfl ?_
  intro p e s m args below meth c s₁ B hml htb hv
  obtain ⟨rfl, ⟨hA, hP, hL⟩, hE⟩ := hv
  have hx := B.exec
  have hb := B.bytes
  have hr := B.returns
  have hts := atoms_spec (ws := wd_W9_compare) B.pre
  have hown : s.vm.findClass RX9 = some m.cls := findClass_of_methodNamed B.named
  have hlocks := B.notSynchronized
  have hK := hL.1
  have hD : ∀ g, va_D A (wo ad NSc g) := fun g => wo_D hL.2.1 hL.2.2 g
  have hS : va_S A s.heap s.heap [] := va_S.rf
  have bk0 : ∀ w ∈ wd_W9_ckRes, w ∈ wd_W9_compare := fun _ h => List.mem_cons_of_mem _ (List.mem_append_right _ (List.mem_append_left _ h))
  have bk1 : ∀ w ∈ u_ws RX9 TX9 12, w ∈ wd_W9_compare := fun _ h => List.mem_cons_of_mem _ (List.mem_append_right _ (List.mem_append_right _ (List.mem_append_left _ h)))
  have bk2 : ∀ w ∈ wd_X0_order, w ∈ wd_W9_compare := fun _ h => List.mem_cons_of_mem _ (List.mem_append_right _ (List.mem_append_right _ (List.mem_append_right _ (List.mem_append_left _ h))))
  have hl := lv_entry ([.ref (ad 2076), .int v, .int w1]) (n := 3) (Nat.le_of_ble_eq_true rfl)
  rw [lg_entry_eq]
  generalize (lg_sl ([.ref (ad 2076), .int v, .int w1]) ++ List.replicate (3 - (lg_sl ([.ref (ad 2076), .int v, .int w1])).length) Slot.unset).toArray = ls at hl ⊢
  have hl : lv_has ls 3 [(0, .ref (ad 2076)), (1, .int v), (2, .int w1)] := hl
  have hi9 := hI
  obtain ⟨d0, hC, hWf, d3, d4, d5, d6, d7, d8, d9, da, db, dc⟩ := hi9
  unfold CDO at d0
  have hCo := hC
  obtain ⟨hLno, hWo, ⟨hAro, hWko, hPao, hFro⟩, hOo, pto, hPto, hMo⟩ := hCo
  unfold CSO at hOo
  have hpbo := hPto.2
  have hnl := hC.1
  obtain ⟨nA, nB, nC⟩ := id da
  obtain ⟨fa, fb, pA, pB⟩ := id db
  have hcr9c := d6
  obtain ⟨y0c, y1c, y2c, y3c, y4c, ⟨ftc, y5c⟩, fhc, y6c⟩ := hcr9c
  obtain ⟨wcx, flx, fwx, fqx, fzx, fdx, hSm, hwl9, hwr9⟩ := id d8
  have hsc9z := hSm
  obtain ⟨s1z, s2z, s3z, s4z, s5z, s6z, s7z, s8z, s9z⟩ := hsc9z
  refine lv_iload_n hx hb dX9_compare_0 rfl (lv_at hl 1 rfl) ?_
  refine vx_callv (vx_runS (As := [.int v]) (rest := []) ⟨hx, hb, hml, hown, hts⟩ (c_W9_ckRes l hlt dC dI A ad cA g v ) (va_cwS 1 hts (goodIn_app (goodIn_r [Cond.methodLink RX9 175 yX9_checkResult, Cond.static yX9_checkResult, Cond.initialized RX9] [1, 2, 3] rfl rfl) (goodIn_sub (fun w9 h9 => bk0 w9 h9) gw_W9_ckRes)) rfl rfl rfl (by decide +kernel) ⟨Nat.le_of_ble_eq_true rfl, Nat.le_of_ble_eq_true rfl⟩) ⟨fun a U g mk q => ⟨q.1, ⟨q.2.1.1, q.2.1.2.1, LY.moved (u := U) (U := U.calling g mk a) (Vm.Alike.refl U.vm) q.2.1.2.2⟩, exF.same rfl rfl q.2.2⟩, fun U hU hW => ⟨rfl, ⟨by rw [hU]; exact fun q h => hA q (Nat.le_trans hS.1 h), by rw [hU]; exact hP, LY.moved hW.alike hL⟩, by rw [hU]; exact exF.warm hW (exF.kept hE hS.2.1)⟩⟩ rfl rfl hl.1 rfl (lv_room (Nat.le_of_ble_eq_true rfl)) dX9_compare_1 ⟨(Nat.le_of_ble_eq_true rfl), (Nat.le_of_ble_eq_true rfl)⟩) hS (fun q _ h => h) (fun q h => h) (fun q _ h => h) (fun E ce q9 u t H1 locs1 ht hvm hpx hbx hz1 hk1 hS hce hcv hcl => vx_out (fun x9 hx9 => (htb x9 hx9).elim) hlocks hce hcv hcl (fun t2 ht2 hvm2 => ⟨(), trivial, ⟨hbx.1.1, by rw [ht2, ← ht]; exact hbx.2⟩, hS.F ht2⟩) hS.2.2 (Nat.le_of_ble_eq_true rfl) (Nat.le_of_ble_eq_true rfl)) (fun u8 t8 H1 locs ht8 hvm8 hw_1 hB hz1 hk1 hS => ?_)
  obtain ⟨⟩ := u8
  try dsimp only at hw_1 hB
  rw [ht8] at hB
  have hP := hB
  generalize H1 = H at hP hS ⊢
  refine W.cs (cells' := 1) (slots' := 6) (by omega) (by omega) ?_
  obtain ⟨r1, hr1, er1, -⟩ := k_nat (x := v) (by omega)
  subst hr1
  refine lv_iload_n hx hb dX9_compare_4 rfl (lv_at hl 2 rfl) ?_
  refine vx_callv (vx_runS (As := [.int w1]) (rest := []) ⟨hx, hb, hml, hown, hts⟩ (c_W9_ckRes l hlt dC dI A ad cA g w1 ) (va_cwS 1 hts (goodIn_app (goodIn_r [Cond.methodLink RX9 175 yX9_checkResult, Cond.static yX9_checkResult, Cond.initialized RX9] [1, 2, 3] rfl rfl) (goodIn_sub (fun w9 h9 => bk0 w9 h9) gw_W9_ckRes)) rfl rfl rfl (by decide +kernel) ⟨Nat.le_of_ble_eq_true rfl, Nat.le_of_ble_eq_true rfl⟩) ⟨fun a U g mk q => ⟨q.1, ⟨q.2.1.1, q.2.1.2.1, LY.moved (u := U) (U := U.calling g mk a) (Vm.Alike.refl U.vm) q.2.1.2.2⟩, exF.same rfl rfl q.2.2⟩, fun U hU hW => ⟨rfl, ⟨by rw [hU]; exact fun q h => hA q (Nat.le_trans hS.1 h), by rw [hU]; exact hP, LY.moved hW.alike hL⟩, by rw [hU]; exact exF.warm hW (exF.kept hE hS.2.1)⟩⟩ rfl rfl hl.1 rfl (lv_room (Nat.le_of_ble_eq_true rfl)) dX9_compare_5 ⟨(Nat.le_of_ble_eq_true rfl), (Nat.le_of_ble_eq_true rfl)⟩) hS (fun q _ h => h) (fun q h => h) (fun q _ h => h) (fun E ce q9 u t H1 locs1 ht hvm hpx hbx hz1 hk1 hS hce hcv hcl => vx_out (fun x9 hx9 => (htb x9 hx9).elim) hlocks hce hcv hcl (fun t2 ht2 hvm2 => ⟨(), trivial, ⟨hbx.1.1, by rw [ht2, ← ht]; exact hbx.2⟩, hS.F ht2⟩) hS.2.2 (Nat.le_of_ble_eq_true rfl) (Nat.le_of_ble_eq_true rfl)) (fun u8 t8 H1 locs ht8 hvm8 hw_2 hB hz1 hk1 hS => ?_)
  obtain ⟨⟩ := u8
  try dsimp only at hw_2 hB
  rw [ht8] at hB
  have hP := hB
  generalize H1 = H at hP hS ⊢
  refine W.cs (cells' := 2) (slots' := 12) (by omega) (by omega) ?_
  obtain ⟨r2, hr2, er2, -⟩ := k_nat (x := w1) (by omega)
  subst hr2
  refine lv_aload_n hx hb dX9_compare_8 rfl (lv_at hl 0 rfl) ?_
  refine m_get (D := (dC, dI)) (v := .ref (ad 2077)) (C := RX9) (T := TX9) (N := 12) hx hb hts bk1 hown hK hP 2076 (by decide) d0 rfl 0 (by decide) (hts (.fieldLink RX9 10 "GradientDesk" "arithmetic" "LGradientDesk$Arithmetic;") (List.mem_of_getElem? (i := 4) rfl)) (fun _ h9 => h9) rfl dX9_compare_9 ?_
  refine lv_aload_n hx hb dX9_compare_12 rfl (lv_at hl 0 rfl) ?_
  refine m_get (D := (dC, dI)) (v := .ref (ad 2103)) (C := RX9) (T := TX9) (N := 12) hx hb hts bk1 hown hK hP 2076 (by decide) d0 rfl 6 (by decide) (hts (.fieldLink RX9 59 "GradientDesk" "results" "[LGradientDesk$Fraction;") (List.mem_of_getElem? (i := 5) rfl)) (fun _ h9 => h9) rfl dX9_compare_13 ?_
  refine lv_iload_n hx hb dX9_compare_16 rfl (lv_at hl 1 rfl) ?_
  refine m_aald hx hb hK hP 2103 (by decide) rfl dc.1 (i := r1) (v := ad (2109 + r1)) (by omega) (by decide) rfl dX9_compare_17 ?_
  refine lv_aload_n hx hb dX9_compare_18 rfl (lv_at hl 0 rfl) ?_
  refine m_get (D := (dC, dI)) (v := .ref (ad 2103)) (C := RX9) (T := TX9) (N := 12) hx hb hts bk1 hown hK hP 2076 (by decide) d0 rfl 6 (by decide) (hts (.fieldLink RX9 59 "GradientDesk" "results" "[LGradientDesk$Fraction;") (List.mem_of_getElem? (i := 5) rfl)) (fun _ h9 => h9) rfl dX9_compare_19 ?_
  refine lv_iload_n hx hb dX9_compare_22 rfl (lv_at hl 2 rfl) ?_
  refine m_aald hx hb hK hP 2103 (by decide) rfl dc.1 (i := r2) (v := ad (2109 + r2)) (by omega) (by decide) rfl dX9_compare_23 ?_
  have hr_4 := dc.2.2 r1 (by omega)
  have hr_5 := dc.2.2 r2 (by omega)
  refine va_calli (va_runV (As := [.ref (ad (2109 + r1)), .ref (ad (2109 + r2))]) (rest := []) ⟨hx, hb, hml, hown, hts⟩ (c_X0_order l dC dI A ad cA g (2109 + r1) (13 + 2 * r1) (14 + 2 * r1) (2109 + r2) (13 + 2 * r2) (14 + 2 * r2) hWo hAro hr_4 (⟨fr_r (by omega), by omega⟩) (by omega) hr_5 (⟨fr_r (by omega), by omega⟩) (by omega)) (cwV 2 hts (goodIn_app (goodIn_r [Cond.methodLink RX9 218 yX0_order, Cond.instanceMethod yX0_order, Cond.selects RX0 yX0_order yX0_order, Cond.initialized RX0] [6, 7, 8, 9] rfl rfl) (goodIn_sub (fun w9 h9 => bk2 w9 h9) gw_X0_order)) rfl rfl rfl (by decide +kernel) ⟨Nat.le_of_ble_eq_true rfl, Nat.le_of_ble_eq_true rfl⟩) ⟨fun a U g mk q => ⟨q.1, q.2.1, q.2.2.1, LY.moved (u := U) (U := U.calling g mk a) (Vm.Alike.refl U.vm) q.2.2.2⟩, va_recv hK hP (ci := 3) (q0 := 2077) rfl (wo_at (by decide) hAro), fun U hU hW => ⟨rfl, by rw [hU]; exact fun q h => hA q (Nat.le_trans hS.1 h), by rw [hU]; exact hP, LY.moved hW.alike hL⟩⟩ rfl rfl hl.1 rfl (lv_room (Nat.le_of_ble_eq_true rfl)) dX9_compare_24 ⟨(Nat.le_of_ble_eq_true rfl), (Nat.le_of_ble_eq_true rfl)⟩) hS (fun q _ h => h) (fun q h => h) (fun r_6 u8 t8 H1 locs ht8 hvm8 hw_7 hB hz1 hk1 hS => ?_)
  obtain ⟨g_8, rfl⟩ : ∃ z, z = u8 := ⟨_, rfl⟩
  try dsimp only at hw_7 hB
  rw [ht8] at hB
  have hP := hB
  generalize H1 = H at hP hS ⊢
  obtain ⟨fr_9, hAW_3⟩ := hw_7
  have f_10 : g_8 2076 = .inr (12, [.ref (ad 2077), .ref (ad 2078), .ref (ad 2080), .ref (ad 2084), .ref (ad 2090), .ref (ad 2097), .ref (ad 2103), .ref (ad 2108), .ref (ad 2104), .ref (ad 2105), .ref (ad 2106), .int wp]) := (fr_9 2076 (by omega)).trans d0
  have hC_11 : CS ad cA g_8 L := CS.same hC hAW_3 (fun (k : Nat) (hk : (76 ≤ k ∧ k < 876) ∨ k = 2077 ∨ k = 2107 ∨ k = 2080 ∨ k = 2081 ∨ (2117 ≤ k ∧ k < 2517)) => (fr_9 k (by omega)).trans (rfl))
  refine vx_ret ?_
  refine W.widen (k := 10) (n := 60) (by omega) (by omega) ?_
  exact W.iret (v := r_6) hx hb hr (fun t9 ht9 hW9 => ⟨⟨r_6, g_8, rfl, ⟨f_10, hC_11, hWf, (d3.same (fun (k : Nat) (hk : k = 2078 ∨ k = 2079) => (fr_9 k (by omega)).trans (rfl))), (d4.same (fun (k : Nat) (hk : 2084 ≤ k ∧ k ≤ 2088) => (fr_9 k (by omega)).trans (rfl))), (d5.same (fun (k : Nat) (hk : k = 2089) => (fr_9 k (by omega)).trans (rfl))), (d6.same (fun (k : Nat) (hk : 2090 ≤ k ∧ k ≤ 2096) => (fr_9 k (by omega)).trans (rfl))), (d7.same (fun (k : Nat) (hk : k = 2082) => (fr_9 k (by omega)).trans (rfl))), (d8.same (fun (k : Nat) (hk : 2097 ≤ k ∧ k ≤ 2102) => (fr_9 k (by omega)).trans (rfl))), (d9.same (fun (k : Nat) (hk : k = 2083) => (fr_9 k (by omega)).trans (rfl))), (da.same (fun (k : Nat) (hk : k = 2104) => (fr_9 k (by omega)).trans (rfl))), (db.same (fun (k : Nat) (hk : k = 2105 ∨ k = 2106) => (fr_9 k (by omega)).trans (rfl))), (dc.same (fun (k : Nat) (hk : k = 2103 ∨ (2108 ≤ k ∧ k < 2117)) => (fr_9 k (by omega)).trans (rfl)))⟩, by show va_P (dC, dI) vwCl _ t9.heap; rw [ht9]; exact hP⟩, hS.F ht9⟩) hS.2.2 dX9_compare_27
def wd_W9_sign : List Cond := .code yX9_sign cX9_sign 2 (some .int) :: (([.methodLink RX9 175 yX9_checkResult, .static yX9_checkResult, .initialized RX9, .fieldLink RX9 59 "GradientDesk" "results" "[LGradientDesk$Fraction;", .fieldLink RX9 222 "GradientDesk$Fraction" "top" "LGradientDesk$Whole;", .methodLink RX9 226 yX8_signum, .instanceMethod yX8_signum, .selects RX8 yX8_signum yX8_signum, .initialized RX8] : List Cond) ++ (wd_W9_ckRes ++ (u_ws RX9 TX9 12 ++ (u_ws RX2 TX2 2 ++ (wd_X8_signum ++ ([]))))))
theorem gw_W9_sign : wd_W9_sign.all goodWord = true := k_allc rfl (k_all (by decide +kernel) (k_all (gw_W9_ckRes) (k_all (gu_X9) (k_all (gu_X2) (k_all (gw_X8_signum) (rfl))))))
set_option maxHeartbeats 4000000 in
set_option maxRecDepth 100000 in
theorem c_W9_sign (l : Launch) (hlt : l.stackTraces = false) (dC : Nat → ClassId) (dI : Nat → Nat → Nat) (A : Nat → Prop) (ad : Nat → Nat) (cA : Nat → ClassId) (g : Nat → va_E) (L : List PD) (nm : Nat → Int) (tx : Nat → Nat) (ty : Nat) (wp : Int32) (wr : List Int) (v : Int32) (hI : CIS ad cA g L nm tx ty wp wr) : vx_Met l yX9_sign wd_W9_sign ({ frames := 30, cells := 10, slots := 60, locals := 600 }) (va_Pc [.ref (ad 2076), .int v] (fun U => PR NSc tyc dC dI A ad cA g U ∧ exF A U U.heap)) (va_Qi (fun (r : Int32) => fun (u : Unit) => match u with | () => True) (fun (u : Unit) (t : State) => va_P (dC, dI) vwCl (wo ad NSc g) t.heap) A) (vx_X (fun _ : Unit => True) (fun E _ t => (E = "java/lang/IndexOutOfBoundsException") ∧ va_P (dC, dI) vwCl (wo ad NSc g) t.heap) A) (10) (60) A := by
  refine vx_ofW (cc := cX9_sign) (maxL := 2) (ret := (some .int)) (by decide) rfl ?_
  intro p e s m args below meth c s₁ B hml htb hv
  obtain ⟨rfl, ⟨hA, hP, hL⟩, hE⟩ := hv
  have hx := B.exec
  have hb := B.bytes
  have hr := B.returns
  have hts := atoms_spec (ws := wd_W9_sign) B.pre
  have hown : s.vm.findClass RX9 = some m.cls := findClass_of_methodNamed B.named
  have hlocks := B.notSynchronized
  have hK := hL.1
  have hD : ∀ g, va_D A (wo ad NSc g) := fun g => wo_D hL.2.1 hL.2.2 g
  have hS : va_S A s.heap s.heap [] := va_S.rf
  have bk0 : ∀ w ∈ wd_W9_ckRes, w ∈ wd_W9_sign := fun _ h => List.mem_cons_of_mem _ (List.mem_append_right _ (List.mem_append_left _ h))
  have bk1 : ∀ w ∈ u_ws RX9 TX9 12, w ∈ wd_W9_sign := fun _ h => List.mem_cons_of_mem _ (List.mem_append_right _ (List.mem_append_right _ (List.mem_append_left _ h)))
  have bk2 : ∀ w ∈ u_ws RX2 TX2 2, w ∈ wd_W9_sign := fun _ h => List.mem_cons_of_mem _ (List.mem_append_right _ (List.mem_append_right _ (List.mem_append_right _ (List.mem_append_left _ h))))
  have bk3 : ∀ w ∈ wd_X8_signum, w ∈ wd_W9_sign := fun _ h => List.mem_cons_of_mem _ (List.mem_append_right _ (List.mem_append_right _ (List.mem_append_right _ (List.mem_append_right _ (List.mem_append_left _ h)))))
  have hl := lv_entry ([.ref (ad 2076), .int v]) (n := 2) (Nat.le_of_ble_eq_true rfl)
  rw [lg_entry_eq]
  generalize (lg_sl ([.ref (ad 2076), .int v]) ++ List.replicate (2 - (lg_sl ([.ref (ad 2076), .int v])).length) Slot.unset).toArray = ls at hl ⊢
  have hl : lv_has ls 2 [(0, .ref (ad 2076)), (1, .int v)] := hl
  have hi9 := hI
  obtain ⟨d0, hC, hWf, d3, d4, d5, d6, d7, d8, d9, da, db, dc⟩ := hi9
  unfold CDO at d0
  have hCo := hC
  obtain ⟨hLno, hWo, ⟨hAro, hWko, hPao, hFro⟩, hOo, pto, hPto, hMo⟩ := hCo
  unfold CSO at hOo
  have hpbo := hPto.2
  have hnl := hC.1
  obtain ⟨nA, nB, nC⟩ := id da
  obtain ⟨fa, fb, pA, pB⟩ := id db
  have hcr9c := d6
  obtain ⟨y0c, y1c, y2c, y3c, y4c, ⟨ftc, y5c⟩, fhc, y6c⟩ := hcr9c
  obtain ⟨wcx, flx, fwx, fqx, fzx, fdx, hSm, hwl9, hwr9⟩ := id d8
  have hsc9z := hSm
  obtain ⟨s1z, s2z, s3z, s4z, s5z, s6z, s7z, s8z, s9z⟩ := hsc9z
  refine lv_iload_n hx hb dX9_sign_0 rfl (lv_at hl 1 rfl) ?_
  refine vx_callv (vx_runS (As := [.int v]) (rest := []) ⟨hx, hb, hml, hown, hts⟩ (c_W9_ckRes l hlt dC dI A ad cA g v ) (va_cwS 1 hts (goodIn_app (goodIn_r [Cond.methodLink RX9 175 yX9_checkResult, Cond.static yX9_checkResult, Cond.initialized RX9] [1, 2, 3] rfl rfl) (goodIn_sub (fun w9 h9 => bk0 w9 h9) gw_W9_ckRes)) rfl rfl rfl (by decide +kernel) ⟨Nat.le_of_ble_eq_true rfl, Nat.le_of_ble_eq_true rfl⟩) ⟨fun a U g mk q => ⟨q.1, ⟨q.2.1.1, q.2.1.2.1, LY.moved (u := U) (U := U.calling g mk a) (Vm.Alike.refl U.vm) q.2.1.2.2⟩, exF.same rfl rfl q.2.2⟩, fun U hU hW => ⟨rfl, ⟨by rw [hU]; exact fun q h => hA q (Nat.le_trans hS.1 h), by rw [hU]; exact hP, LY.moved hW.alike hL⟩, by rw [hU]; exact exF.warm hW (exF.kept hE hS.2.1)⟩⟩ rfl rfl hl.1 rfl (lv_room (Nat.le_of_ble_eq_true rfl)) dX9_sign_1 ⟨(Nat.le_of_ble_eq_true rfl), (Nat.le_of_ble_eq_true rfl)⟩) hS (fun q _ h => h) (fun q h => h) (fun q _ h => h) (fun E ce q9 u t H1 locs1 ht hvm hpx hbx hz1 hk1 hS hce hcv hcl => vx_out (fun x9 hx9 => (htb x9 hx9).elim) hlocks hce hcv hcl (fun t2 ht2 hvm2 => ⟨(), trivial, ⟨hbx.1.1, by rw [ht2, ← ht]; exact hbx.2⟩, hS.F ht2⟩) hS.2.2 (Nat.le_of_ble_eq_true rfl) (Nat.le_of_ble_eq_true rfl)) (fun u8 t8 H1 locs ht8 hvm8 hw_1 hB hz1 hk1 hS => ?_)
  obtain ⟨⟩ := u8
  try dsimp only at hw_1 hB
  rw [ht8] at hB
  have hP := hB
  generalize H1 = H at hP hS ⊢
  refine W.cs (cells' := 1) (slots' := 6) (by omega) (by omega) ?_
  obtain ⟨r1, hr1, er1, -⟩ := k_nat (x := v) (by omega)
  subst hr1
  refine lv_aload_n hx hb dX9_sign_4 rfl (lv_at hl 0 rfl) ?_
  refine m_get (D := (dC, dI)) (v := .ref (ad 2103)) (C := RX9) (T := TX9) (N := 12) hx hb hts bk1 hown hK hP 2076 (by decide) d0 rfl 6 (by decide) (hts (.fieldLink RX9 59 "GradientDesk" "results" "[LGradientDesk$Fraction;") (List.mem_of_getElem? (i := 4) rfl)) (fun _ h9 => h9) rfl dX9_sign_5 ?_
  refine lv_iload_n hx hb dX9_sign_8 rfl (lv_at hl 1 rfl) ?_
  refine m_aald hx hb hK hP 2103 (by decide) rfl dc.1 (i := r1) (v := ad (2109 + r1)) (by omega) (by decide) rfl dX9_sign_9 ?_
  have hr_2 := dc.2.2 r1 (by omega)
  refine m_get (D := (dC, dI)) (v := .ref (ad (2 * (13 + 2 * r1)))) (C := RX2) (T := TX2) (N := 2) hx hb hts bk2 hown hK hP (2109 + r1) (fr_r (by omega)) hr_2 rfl 0 (by decide) (hts (.fieldLink RX9 222 "GradientDesk$Fraction" "top" "LGradientDesk$Whole;") (List.mem_of_getElem? (i := 5) rfl)) (fun _ h9 => h9) rfl dX9_sign_10 ?_
  obtain ⟨mw_3, sw_3, nw_3, fw_3, aw_3, bw_3, cw_3, dw_3, ew_3⟩ := hWo (13 + 2 * r1) (by omega)
  have qw_3 : mw_3 ≤ 4096 := by rw [dw_3]; exact rmc_le _
  refine va_calli (va_runV (As := []) (rest := []) ⟨hx, hb, hml, hown, hts⟩ (c_X8_signum l dC dI A ad cA g (13 + 2 * r1) hWo (by omega)) (cwV 0 hts (goodIn_app (goodIn_r [Cond.methodLink RX9 226 yX8_signum, Cond.instanceMethod yX8_signum, Cond.selects RX8 yX8_signum yX8_signum, Cond.initialized RX8] [6, 7, 8, 9] rfl rfl) (goodIn_sub (fun w9 h9 => bk3 w9 h9) gw_X8_signum)) rfl rfl rfl (by decide +kernel) ⟨Nat.le_of_ble_eq_true rfl, Nat.le_of_ble_eq_true rfl⟩) ⟨fun a U g mk q => ⟨q.1, q.2.1, q.2.2.1, LY.moved (u := U) (U := U.calling g mk a) (Vm.Alike.refl U.vm) q.2.2.2⟩, va_recv hK hP (ci := 11) (q0 := (2 * (13 + 2 * r1))) rfl (wo_at (ns_w (by omega)) aw_3), fun U hU hW => ⟨rfl, by rw [hU]; exact fun q h => hA q (Nat.le_trans hS.1 h), by rw [hU]; exact hP, LY.moved hW.alike hL⟩⟩ rfl rfl hl.1 rfl (lv_room (Nat.le_of_ble_eq_true rfl)) dX9_sign_13 ⟨(Nat.le_of_ble_eq_true rfl), (Nat.le_of_ble_eq_true rfl)⟩) hS (fun q _ h => h) (fun q h => h) (fun r_4 u8 t8 H1 locs ht8 hvm8 hw_5 hB hz1 hk1 hS => ?_)
  obtain ⟨⟩ := u8
  try dsimp only at hw_5 hB
  rw [ht8] at hB
  have hP := hB
  generalize H1 = H at hP hS ⊢
  refine vx_ret ?_
  refine W.widen (k := 10) (n := 60) (by omega) (by omega) ?_
  exact W.iret (v := r_4) hx hb hr (fun t9 ht9 hW9 => ⟨⟨r_4, (), rfl, trivial, by show va_P (dC, dI) vwCl _ t9.heap; rw [ht9]; exact hP⟩, hS.F ht9⟩) hS.2.2 dX9_sign_16
def wd_W9_side : List Cond := .code yX9_side cX9_side 3 (some (.object "GradientDesk$Whole")) :: (([.fieldLink RX9 59 "GradientDesk" "results" "[LGradientDesk$Fraction;", .fieldLink RX9 262 "GradientDesk$Fraction" "bottom" "LGradientDesk$Whole;", .fieldLink RX9 222 "GradientDesk$Fraction" "top" "LGradientDesk$Whole;"] : List Cond) ++ (u_ws RX9 TX9 12 ++ (u_ws RX2 TX2 2 ++ ([]))))
theorem gw_W9_side : wd_W9_side.all goodWord = true := k_allc rfl (k_all (by decide +kernel) (k_all (gu_X9) (k_all (gu_X2) (rfl))))
set_option maxHeartbeats 4000000 in
set_option maxRecDepth 100000 in
theorem c_W9_side (l : Launch) (dC : Nat → ClassId) (dI : Nat → Nat → Nat) (A : Nat → Prop) (ad : Nat → Nat) (cA : Nat → ClassId) (g : Nat → va_E) (L : List PD) (nm : Nat → Int) (tx : Nat → Nat) (ty : Nat) (wp : Int32) (wr : List Int) (rn : Nat) (sd : Int32) (hI : CIS ad cA g L nm tx ty wp wr) (hrn : rn ≤ 7) : Met l yX9_side wd_W9_side ({ frames := 10, cells := 0, slots := 0, locals := 200 }) (va_Pc [.ref (ad 2076), .int (nI rn), .int sd] (PR NSc tyc dC dI A ad cA g)) (va_Qr (fun (u : Nat) => match u with | q => q = 13 + 2 * rn ∨ q = 14 + 2 * rn) (fun (u : Nat) (ra : Nat) (t : State) => (match u with | q => ra = ad (2 * q)) ∧ va_P (dC, dI) vwCl (wo ad NSc g) t.heap) A) (0) (0) A := by
  refine Met.ofW (cc := cX9_side) (maxL := 3) (ret := (some (.object "GradientDesk$Whole"))) (by decide) rfl ?_
  intro p e s m args below meth c s₁ B hml hv
  obtain ⟨rfl, hA, hP, hL⟩ := hv
  have hx := B.exec
  have hb := B.bytes
  have hr := B.returns
  have hts := atoms_spec (ws := wd_W9_side) B.pre
  have hown : s.vm.findClass RX9 = some m.cls := findClass_of_methodNamed B.named
  have hlocks := B.notSynchronized
  have hK := hL.1
  have hD : ∀ g, va_D A (wo ad NSc g) := fun g => wo_D hL.2.1 hL.2.2 g
  have hS : va_S A s.heap s.heap [] := va_S.rf
  have bk0 : ∀ w ∈ u_ws RX9 TX9 12, w ∈ wd_W9_side := fun _ h => List.mem_cons_of_mem _ (List.mem_append_right _ (List.mem_append_left _ h))
  have bk1 : ∀ w ∈ u_ws RX2 TX2 2, w ∈ wd_W9_side := fun _ h => List.mem_cons_of_mem _ (List.mem_append_right _ (List.mem_append_right _ (List.mem_append_left _ h)))
  have hl := lv_entry ([.ref (ad 2076), .int (nI rn), .int sd]) (n := 3) (Nat.le_of_ble_eq_true rfl)
  rw [lg_entry_eq]
  generalize (lg_sl ([.ref (ad 2076), .int (nI rn), .int sd]) ++ List.replicate (3 - (lg_sl ([.ref (ad 2076), .int (nI rn), .int sd])).length) Slot.unset).toArray = ls at hl ⊢
  have hl : lv_has ls 3 [(0, .ref (ad 2076)), (1, .int (nI rn)), (2, .int sd)] := hl
  have hi9 := hI
  obtain ⟨d0, hC, hWf, d3, d4, d5, d6, d7, d8, d9, da, db, dc⟩ := hi9
  unfold CDO at d0
  have hCo := hC
  obtain ⟨hLno, hWo, ⟨hAro, hWko, hPao, hFro⟩, hOo, pto, hPto, hMo⟩ := hCo
  unfold CSO at hOo
  have hpbo := hPto.2
  have hnl := hC.1
  obtain ⟨nA, nB, nC⟩ := id da
  obtain ⟨fa, fb, pA, pB⟩ := id db
  have hcr9c := d6
  obtain ⟨y0c, y1c, y2c, y3c, y4c, ⟨ftc, y5c⟩, fhc, y6c⟩ := hcr9c
  obtain ⟨wcx, flx, fwx, fqx, fzx, fdx, hSm, hwl9, hwr9⟩ := id d8
  have hsc9z := hSm
  obtain ⟨s1z, s2z, s3z, s4z, s5z, s6z, s7z, s8z, s9z⟩ := hsc9z
  refine lv_iload_n hx hb dX9_side_0 rfl (lv_at hl 2 rfl) ?_
  refine lv_if_ne (tgt := 16) hx hb dX9_side_1 (by decide) (fun c_1 => ?_) (fun c_1 => ?_)
  · have c_1 := mt Int32.toInt_inj.mp c_1
    rw [show (0 : Int32).toInt = 0 from by decide] at c_1
    refine lv_aload_n hx hb dX9_side_16 rfl (lv_at hl 0 rfl) ?_
    refine m_get (D := (dC, dI)) (v := .ref (ad 2103)) (C := RX9) (T := TX9) (N := 12) hx hb hts bk0 hown hK hP 2076 (by decide) d0 rfl 6 (by decide) (hts (.fieldLink RX9 59 "GradientDesk" "results" "[LGradientDesk$Fraction;") (List.mem_of_getElem? (i := 1) rfl)) (fun _ h9 => h9) rfl dX9_side_17 ?_
    refine lv_iload_n hx hb dX9_side_20 rfl (lv_at hl 1 rfl) ?_
    refine m_aald hx hb hK hP 2103 (by decide) rfl dc.1 (i := rn) (v := ad (2109 + rn)) (by omega) (by decide) rfl dX9_side_21 ?_
    have hr_2 := dc.2.2 rn (by omega)
    refine m_get (D := (dC, dI)) (v := .ref (ad (2 * (14 + 2 * rn)))) (C := RX2) (T := TX2) (N := 2) hx hb hts bk1 hown hK hP (2109 + rn) (fr_r (by omega)) hr_2 rfl 1 (by decide) (hts (.fieldLink RX9 262 "GradientDesk$Fraction" "bottom" "LGradientDesk$Whole;") (List.mem_of_getElem? (i := 2) rfl)) (fun _ h9 => h9) rfl dX9_side_22 ?_
    refine W.widen (k := 0) (n := 0) (by omega) (by omega) ?_
    exact W.aret (v := .ref (ad (2 * (14 + 2 * rn)))) hx hb hr (Or.inl ⟨_, rfl⟩) (Or.inr ⟨_, rfl⟩) (fun t9 ht9 hW9 => ⟨⟨14 + 2 * rn, ad (2 * (14 + 2 * rn)), rfl, by omega, ⟨rfl, by show va_P (dC, dI) vwCl _ t9.heap; rw [ht9]; exact hP⟩⟩, hS.F ht9⟩) hS.2.2 dX9_side_25
  · have c_1 := congrArg Int32.toInt c_1
    rw [show (0 : Int32).toInt = 0 from by decide] at c_1
    refine lv_aload_n hx hb dX9_side_4 rfl (lv_at hl 0 rfl) ?_
    refine m_get (D := (dC, dI)) (v := .ref (ad 2103)) (C := RX9) (T := TX9) (N := 12) hx hb hts bk0 hown hK hP 2076 (by decide) d0 rfl 6 (by decide) (hts (.fieldLink RX9 59 "GradientDesk" "results" "[LGradientDesk$Fraction;") (List.mem_of_getElem? (i := 1) rfl)) (fun _ h9 => h9) rfl dX9_side_5 ?_
    refine lv_iload_n hx hb dX9_side_8 rfl (lv_at hl 1 rfl) ?_
    refine m_aald hx hb hK hP 2103 (by decide) rfl dc.1 (i := rn) (v := ad (2109 + rn)) (by omega) (by decide) rfl dX9_side_9 ?_
    have hr_3 := dc.2.2 rn (by omega)
    refine m_get (D := (dC, dI)) (v := .ref (ad (2 * (13 + 2 * rn)))) (C := RX2) (T := TX2) (N := 2) hx hb hts bk1 hown hK hP (2109 + rn) (fr_r (by omega)) hr_3 rfl 0 (by decide) (hts (.fieldLink RX9 222 "GradientDesk$Fraction" "top" "LGradientDesk$Whole;") (List.mem_of_getElem? (i := 3) rfl)) (fun _ h9 => h9) rfl dX9_side_10 ?_
    refine lv_goto (tgt := 25) hx hb dX9_side_13 (by decide) ?_
    refine W.widen (k := 0) (n := 0) (by omega) (by omega) ?_
    exact W.aret (v := .ref (ad (2 * (13 + 2 * rn)))) hx hb hr (Or.inl ⟨_, rfl⟩) (Or.inr ⟨_, rfl⟩) (fun t9 ht9 hW9 => ⟨⟨13 + 2 * rn, ad (2 * (13 + 2 * rn)), rfl, by omega, ⟨rfl, by show va_P (dC, dI) vwCl _ t9.heap; rw [ht9]; exact hP⟩⟩, hS.F ht9⟩) hS.2.2 dX9_side_25
def wd_W9_bits : List Cond := .code yX9_bits cX9_bits 3 (some .int) :: (([.methodLink RX9 175 yX9_checkResult, .static yX9_checkResult, .initialized RX9, .methodLink RX9 231 yX9_checkSide, .static yX9_checkSide, .methodLink RX9 234 yX9_side, .instanceMethod yX9_side, .selects RX9 yX9_side yX9_side, .methodLink RX9 238 yX8_bitLength, .instanceMethod yX8_bitLength, .selects RX8 yX8_bitLength yX8_bitLength, .initialized RX8] : List Cond) ++ (wd_W9_ckRes ++ (wd_W9_ckSide ++ (wd_W9_side ++ (wd_X8_bitLength ++ ([]))))))
theorem gw_W9_bits : wd_W9_bits.all goodWord = true := k_allc rfl (k_all (by decide +kernel) (k_all (gw_W9_ckRes) (k_all (gw_W9_ckSide) (k_all (gw_W9_side) (k_all (gw_X8_bitLength) (rfl))))))
set_option maxHeartbeats 4000000 in
set_option maxRecDepth 100000 in
theorem c_W9_bits (l : Launch) (hlt : l.stackTraces = false) (dC : Nat → ClassId) (dI : Nat → Nat → Nat) (A : Nat → Prop) (ad : Nat → Nat) (cA : Nat → ClassId) (g : Nat → va_E) (L : List PD) (nm : Nat → Int) (tx : Nat → Nat) (ty : Nat) (wp : Int32) (wr : List Int) (v : Int32) (w1 : Int32) (hI : CIS ad cA g L nm tx ty wp wr) : vx_Met l yX9_bits wd_W9_bits ({ frames := 40, cells := 10, slots := 60, locals := 800 }) (va_Pc [.ref (ad 2076), .int v, .int w1] (fun U => PR NSc tyc dC dI A ad cA g U ∧ exF A U U.heap)) (va_Qi (fun (r : Int32) => fun (u : Unit) => match u with | () => True) (fun (u : Unit) (t : State) => va_P (dC, dI) vwCl (wo ad NSc g) t.heap) A) (vx_X (fun _ : Unit => True) (fun E _ t => (E = "java/lang/IndexOutOfBoundsException" ∨ E = "java/lang/IllegalArgumentException") ∧ va_P (dC, dI) vwCl (wo ad NSc g) t.heap) A) (10) (60) A := by
  refine vx_ofW (cc := cX9_bits) (maxL := 3) (ret := (some .int)) (by decide) rfl ?_
  intro p e s m args below meth c s₁ B hml htb hv
  obtain ⟨rfl, ⟨hA, hP, hL⟩, hE⟩ := hv
  have hx := B.exec
  have hb := B.bytes
  have hr := B.returns
  have hts := atoms_spec (ws := wd_W9_bits) B.pre
  have hown : s.vm.findClass RX9 = some m.cls := findClass_of_methodNamed B.named
  have hlocks := B.notSynchronized
  have hK := hL.1
  have hD : ∀ g, va_D A (wo ad NSc g) := fun g => wo_D hL.2.1 hL.2.2 g
  have hS : va_S A s.heap s.heap [] := va_S.rf
  have bk0 : ∀ w ∈ wd_W9_ckRes, w ∈ wd_W9_bits := fun _ h => List.mem_cons_of_mem _ (List.mem_append_right _ (List.mem_append_left _ h))
  have bk1 : ∀ w ∈ wd_W9_ckSide, w ∈ wd_W9_bits := fun _ h => List.mem_cons_of_mem _ (List.mem_append_right _ (List.mem_append_right _ (List.mem_append_left _ h)))
  have bk2 : ∀ w ∈ wd_W9_side, w ∈ wd_W9_bits := fun _ h => List.mem_cons_of_mem _ (List.mem_append_right _ (List.mem_append_right _ (List.mem_append_right _ (List.mem_append_left _ h))))
  have bk3 : ∀ w ∈ wd_X8_bitLength, w ∈ wd_W9_bits := fun _ h => List.mem_cons_of_mem _ (List.mem_append_right _ (List.mem_append_right _ (List.mem_append_right _ (List.mem_append_right _ (List.mem_append_left _ h)))))
  have hl := lv_entry ([.ref (ad 2076), .int v, .int w1]) (n := 3) (Nat.le_of_ble_eq_true rfl)
  rw [lg_entry_eq]
  generalize (lg_sl ([.ref (ad 2076), .int v, .int w1]) ++ List.replicate (3 - (lg_sl ([.ref (ad 2076), .int v, .int w1])).length) Slot.unset).toArray = ls at hl ⊢
  have hl : lv_has ls 3 [(0, .ref (ad 2076)), (1, .int v), (2, .int w1)] := hl
  have hi9 := hI
  obtain ⟨d0, hC, hWf, d3, d4, d5, d6, d7, d8, d9, da, db, dc⟩ := hi9
  unfold CDO at d0
  have hCo := hC
  obtain ⟨hLno, hWo, ⟨hAro, hWko, hPao, hFro⟩, hOo, pto, hPto, hMo⟩ := hCo
  unfold CSO at hOo
  have hpbo := hPto.2
  have hnl := hC.1
  obtain ⟨nA, nB, nC⟩ := id da
  obtain ⟨fa, fb, pA, pB⟩ := id db
  have hcr9c := d6
  obtain ⟨y0c, y1c, y2c, y3c, y4c, ⟨ftc, y5c⟩, fhc, y6c⟩ := hcr9c
  obtain ⟨wcx, flx, fwx, fqx, fzx, fdx, hSm, hwl9, hwr9⟩ := id d8
  have hsc9z := hSm
  obtain ⟨s1z, s2z, s3z, s4z, s5z, s6z, s7z, s8z, s9z⟩ := hsc9z
  refine lv_iload_n hx hb dX9_bits_0 rfl (lv_at hl 1 rfl) ?_
  refine vx_callv (vx_runS (As := [.int v]) (rest := []) ⟨hx, hb, hml, hown, hts⟩ (c_W9_ckRes l hlt dC dI A ad cA g v ) (va_cwS 1 hts (goodIn_app (goodIn_r [Cond.methodLink RX9 175 yX9_checkResult, Cond.static yX9_checkResult, Cond.initialized RX9] [1, 2, 3] rfl rfl) (goodIn_sub (fun w9 h9 => bk0 w9 h9) gw_W9_ckRes)) rfl rfl rfl (by decide +kernel) ⟨Nat.le_of_ble_eq_true rfl, Nat.le_of_ble_eq_true rfl⟩) ⟨fun a U g mk q => ⟨q.1, ⟨q.2.1.1, q.2.1.2.1, LY.moved (u := U) (U := U.calling g mk a) (Vm.Alike.refl U.vm) q.2.1.2.2⟩, exF.same rfl rfl q.2.2⟩, fun U hU hW => ⟨rfl, ⟨by rw [hU]; exact fun q h => hA q (Nat.le_trans hS.1 h), by rw [hU]; exact hP, LY.moved hW.alike hL⟩, by rw [hU]; exact exF.warm hW (exF.kept hE hS.2.1)⟩⟩ rfl rfl hl.1 rfl (lv_room (Nat.le_of_ble_eq_true rfl)) dX9_bits_1 ⟨(Nat.le_of_ble_eq_true rfl), (Nat.le_of_ble_eq_true rfl)⟩) hS (fun q _ h => h) (fun q h => h) (fun q _ h => h) (fun E ce q9 u t H1 locs1 ht hvm hpx hbx hz1 hk1 hS hce hcv hcl => vx_out (fun x9 hx9 => (htb x9 hx9).elim) hlocks hce hcv hcl (fun t2 ht2 hvm2 => ⟨(), trivial, ⟨Or.inl hbx.1.1, by rw [ht2, ← ht]; exact hbx.2⟩, hS.F ht2⟩) hS.2.2 (Nat.le_of_ble_eq_true rfl) (Nat.le_of_ble_eq_true rfl)) (fun u8 t8 H1 locs ht8 hvm8 hw_1 hB hz1 hk1 hS => ?_)
  obtain ⟨⟩ := u8
  try dsimp only at hw_1 hB
  rw [ht8] at hB
  have hP := hB
  generalize H1 = H at hP hS ⊢
  refine W.cs (cells' := 1) (slots' := 6) (by omega) (by omega) ?_
  obtain ⟨r1, hr1, er1, -⟩ := k_nat (x := v) (by omega)
  subst hr1
  refine lv_iload_n hx hb dX9_bits_4 rfl (lv_at hl 2 rfl) ?_
  refine vx_callv (vx_runS (As := [.int w1]) (rest := []) ⟨hx, hb, hml, hown, hts⟩ (c_W9_ckSide l hlt dC dI A ad cA g w1 ) (va_cwS 1 hts (goodIn_app (goodIn_r [Cond.methodLink RX9 231 yX9_checkSide, Cond.static yX9_checkSide, Cond.initialized RX9] [4, 5, 3] rfl rfl) (goodIn_sub (fun w9 h9 => bk1 w9 h9) gw_W9_ckSide)) rfl rfl rfl (by decide +kernel) ⟨Nat.le_of_ble_eq_true rfl, Nat.le_of_ble_eq_true rfl⟩) ⟨fun a U g mk q => ⟨q.1, ⟨q.2.1.1, q.2.1.2.1, LY.moved (u := U) (U := U.calling g mk a) (Vm.Alike.refl U.vm) q.2.1.2.2⟩, exF.same rfl rfl q.2.2⟩, fun U hU hW => ⟨rfl, ⟨by rw [hU]; exact fun q h => hA q (Nat.le_trans hS.1 h), by rw [hU]; exact hP, LY.moved hW.alike hL⟩, by rw [hU]; exact exF.warm hW (exF.kept hE hS.2.1)⟩⟩ rfl rfl hl.1 rfl (lv_room (Nat.le_of_ble_eq_true rfl)) dX9_bits_5 ⟨(Nat.le_of_ble_eq_true rfl), (Nat.le_of_ble_eq_true rfl)⟩) hS (fun q _ h => h) (fun q h => h) (fun q _ h => h) (fun E ce q9 u t H1 locs1 ht hvm hpx hbx hz1 hk1 hS hce hcv hcl => vx_out (fun x9 hx9 => (htb x9 hx9).elim) hlocks hce hcv hcl (fun t2 ht2 hvm2 => ⟨(), trivial, ⟨Or.inr hbx.1.1, by rw [ht2, ← ht]; exact hbx.2⟩, hS.F ht2⟩) hS.2.2 (Nat.le_of_ble_eq_true rfl) (Nat.le_of_ble_eq_true rfl)) (fun u8 t8 H1 locs ht8 hvm8 hw_2 hB hz1 hk1 hS => ?_)
  obtain ⟨⟩ := u8
  try dsimp only at hw_2 hB
  rw [ht8] at hB
  have hP := hB
  generalize H1 = H at hP hS ⊢
  refine W.cs (cells' := 2) (slots' := 12) (by omega) (by omega) ?_
  refine lv_aload_n hx hb dX9_bits_8 rfl (lv_at hl 0 rfl) ?_
  refine lv_iload_n hx hb dX9_bits_9 rfl (lv_at hl 1 rfl) ?_
  refine lv_iload_n hx hb dX9_bits_10 rfl (lv_at hl 2 rfl) ?_
  refine va_callr (va_runV (As := [.int (nI r1), .int w1]) (rest := []) ⟨hx, hb, hml, hown, hts⟩ (c_W9_side l dC dI A ad cA g L nm tx ty wp wr r1 w1 hI (by omega)) (cwV 2 hts (goodIn_app (goodIn_r [Cond.methodLink RX9 234 yX9_side, Cond.instanceMethod yX9_side, Cond.selects RX9 yX9_side yX9_side, Cond.initialized RX9] [6, 7, 8, 3] rfl rfl) (goodIn_sub (fun w9 h9 => bk2 w9 h9) gw_W9_side)) rfl rfl rfl (by decide +kernel) ⟨Nat.le_of_ble_eq_true rfl, Nat.le_of_ble_eq_true rfl⟩) ⟨fun a U g mk q => ⟨q.1, q.2.1, q.2.2.1, LY.moved (u := U) (U := U.calling g mk a) (Vm.Alike.refl U.vm) q.2.2.2⟩, va_recv hK hP (ci := 12) (q0 := 2076) rfl (wo_at (by decide) d0), fun U hU hW => ⟨rfl, by rw [hU]; exact fun q h => hA q (Nat.le_trans hS.1 h), by rw [hU]; exact hP, LY.moved hW.alike hL⟩⟩ rfl rfl hl.1 rfl (lv_room (Nat.le_of_ble_eq_true rfl)) dX9_bits_11 ⟨(Nat.le_of_ble_eq_true rfl), (Nat.le_of_ble_eq_true rfl)⟩) hS (fun q _ h => h) (fun q h => h) (fun u8 r_3 t8 H1 locs ht8 hvm8 hw_4 hB hz1 hk1 hS => ?_)
  obtain ⟨q_5, rfl⟩ : ∃ z, z = u8 := ⟨_, rfl⟩
  obtain ⟨hra, hB⟩ := hB
  try dsimp only at hw_4 hB hra
  rw [ht8] at hB
  have hP := hB
  subst hra
  generalize H1 = H at hP hS ⊢
  obtain ⟨mw_6, sw_6, nw_6, fw_6, aw_6, bw_6, cw_6, dw_6, ew_6⟩ := hWo q_5 (by omega)
  have qw_6 : mw_6 ≤ 4096 := by rw [dw_6]; exact rmc_le _
  refine va_calli (va_runV (As := []) (rest := []) ⟨hx, hb, hml, hown, hts⟩ (c_X8_bitLength l dC dI A ad cA g q_5 hWo (by omega)) (cwV 0 hts (goodIn_app (goodIn_r [Cond.methodLink RX9 238 yX8_bitLength, Cond.instanceMethod yX8_bitLength, Cond.selects RX8 yX8_bitLength yX8_bitLength, Cond.initialized RX8] [9, 10, 11, 12] rfl rfl) (goodIn_sub (fun w9 h9 => bk3 w9 h9) gw_X8_bitLength)) rfl rfl rfl (by decide +kernel) ⟨Nat.le_of_ble_eq_true rfl, Nat.le_of_ble_eq_true rfl⟩) ⟨fun a U g mk q => ⟨q.1, q.2.1, q.2.2.1, LY.moved (u := U) (U := U.calling g mk a) (Vm.Alike.refl U.vm) q.2.2.2⟩, va_recv hK hP (ci := 11) (q0 := (2 * q_5)) rfl (wo_at (ns_w (by omega)) aw_6), fun U hU hW => ⟨rfl, by rw [hU]; exact fun q h => hA q (Nat.le_trans hS.1 h), by rw [hU]; exact hP, LY.moved hW.alike hL⟩⟩ rfl rfl hl.1 rfl (lv_room (Nat.le_of_ble_eq_true rfl)) dX9_bits_14 ⟨(Nat.le_of_ble_eq_true rfl), (Nat.le_of_ble_eq_true rfl)⟩) hS (fun q _ h => h) (fun q h => h) (fun r_7 u8 t8 H1 locs ht8 hvm8 hw_8 hB hz1 hk1 hS => ?_)
  obtain ⟨⟩ := u8
  try dsimp only at hw_8 hB
  rw [ht8] at hB
  have hP := hB
  generalize H1 = H at hP hS ⊢
  refine vx_ret ?_
  refine W.widen (k := 10) (n := 60) (by omega) (by omega) ?_
  exact W.iret (v := r_7) hx hb hr (fun t9 ht9 hW9 => ⟨⟨r_7, (), rfl, trivial, by show va_P (dC, dI) vwCl _ t9.heap; rw [ht9]; exact hP⟩, hS.F ht9⟩) hS.2.2 dX9_bits_17
def wd_W9_word : List Cond := .code yX9_word cX9_word 5 (some .int) :: (([.methodLink RX9 175 yX9_checkResult, .static yX9_checkResult, .initialized RX9, .classLink RX9 241 "java/lang/IndexOutOfBoundsException", .initialized "java/lang/IndexOutOfBoundsException", .methodLink RX9 231 yX9_checkSide, .static yX9_checkSide, .methodLink RX9 234 yX9_side, .instanceMethod yX9_side, .selects RX9 yX9_side yX9_side, .fieldLink RX9 246 "GradientDesk$Whole" "size" "I", .fieldLink RX9 249 "GradientDesk$Whole" "words" "[I"] : List Cond) ++ (wd_W9_ckRes ++ ((vx_atS RX9 245 "java/lang/IndexOutOfBoundsException" ["java/lang/RuntimeException", "java/lang/Exception"]).filter goodWord ++ (wd_W9_ckSide ++ (wd_W9_side ++ (u_ws RX8 TX8 3 ++ ([])))))))
theorem gw_W9_word : wd_W9_word.all goodWord = true := k_allc rfl (k_all (by decide +kernel) (k_all (gw_W9_ckRes) (k_all (k_allf _ _) (k_all (gw_W9_ckSide) (k_all (gw_W9_side) (k_all (gu_X8) (rfl)))))))
set_option maxHeartbeats 4000000 in
set_option maxRecDepth 100000 in
theorem c_W9_word (l : Launch) (hlt : l.stackTraces = false) (dC : Nat → ClassId) (dI : Nat → Nat → Nat) (A : Nat → Prop) (ad : Nat → Nat) (cA : Nat → ClassId) (g : Nat → va_E) (L : List PD) (nm : Nat → Int) (tx : Nat → Nat) (ty : Nat) (wp : Int32) (wr : List Int) (v : Int32) (w1 : Int32) (w2 : Int32) (hI : CIS ad cA g L nm tx ty wp wr) : vx_Met l yX9_word wd_W9_word ({ frames := 40, cells := 10, slots := 60, locals := 800 }) (va_Pc [.ref (ad 2076), .int v, .int w1, .int w2] (fun U => PR NSc tyc dC dI A ad cA g U ∧ exF A U U.heap)) (va_Qi (fun (r : Int32) => fun (u : Unit) => match u with | () => True) (fun (u : Unit) (t : State) => va_P (dC, dI) vwCl (wo ad NSc g) t.heap) A) (vx_X (fun _ : Unit => True) (fun E _ t => (E = "java/lang/IndexOutOfBoundsException" ∨ E = "java/lang/IllegalArgumentException") ∧ va_P (dC, dI) vwCl (wo ad NSc g) t.heap) A) (10) (60) A := by
  refine vx_ofW (cc := cX9_word) (maxL := 5) (ret := (some .int)) (by decide) rfl ?_
  intro p e s m args below meth c s₁ B hml htb hv
  obtain ⟨rfl, ⟨hA, hP, hL⟩, hE⟩ := hv
  have hx := B.exec
  have hb := B.bytes
  have hr := B.returns
  have hts := atoms_spec (ws := wd_W9_word) B.pre
  have hown : s.vm.findClass RX9 = some m.cls := findClass_of_methodNamed B.named
  have hlocks := B.notSynchronized
  have hK := hL.1
  have hD : ∀ g, va_D A (wo ad NSc g) := fun g => wo_D hL.2.1 hL.2.2 g
  have hS : va_S A s.heap s.heap [] := va_S.rf
  have bk0 : ∀ w ∈ wd_W9_ckRes, w ∈ wd_W9_word := fun _ h => List.mem_cons_of_mem _ (List.mem_append_right _ (List.mem_append_left _ h))
  have bk1 : ∀ w ∈ (vx_atS RX9 245 "java/lang/IndexOutOfBoundsException" ["java/lang/RuntimeException", "java/lang/Exception"]).filter goodWord, w ∈ wd_W9_word := fun _ h => List.mem_cons_of_mem _ (List.mem_append_right _ (List.mem_append_right _ (List.mem_append_left _ h)))
  have bk2 : ∀ w ∈ wd_W9_ckSide, w ∈ wd_W9_word := fun _ h => List.mem_cons_of_mem _ (List.mem_append_right _ (List.mem_append_right _ (List.mem_append_right _ (List.mem_append_left _ h))))
  have bk3 : ∀ w ∈ wd_W9_side, w ∈ wd_W9_word := fun _ h => List.mem_cons_of_mem _ (List.mem_append_right _ (List.mem_append_right _ (List.mem_append_right _ (List.mem_append_right _ (List.mem_append_left _ h)))))
  have bk4 : ∀ w ∈ u_ws RX8 TX8 3, w ∈ wd_W9_word := fun _ h => List.mem_cons_of_mem _ (List.mem_append_right _ (List.mem_append_right _ (List.mem_append_right _ (List.mem_append_right _ (List.mem_append_right _ (List.mem_append_left _ h))))))
  have hl := lv_entry ([.ref (ad 2076), .int v, .int w1, .int w2]) (n := 5) (Nat.le_of_ble_eq_true rfl)
  rw [lg_entry_eq]
  generalize (lg_sl ([.ref (ad 2076), .int v, .int w1, .int w2]) ++ List.replicate (5 - (lg_sl ([.ref (ad 2076), .int v, .int w1, .int w2])).length) Slot.unset).toArray = ls at hl ⊢
  have hl : lv_has ls 5 [(0, .ref (ad 2076)), (1, .int v), (2, .int w1), (3, .int w2)] := hl
  have hi9 := hI
  obtain ⟨d0, hC, hWf, d3, d4, d5, d6, d7, d8, d9, da, db, dc⟩ := hi9
  unfold CDO at d0
  have hCo := hC
  obtain ⟨hLno, hWo, ⟨hAro, hWko, hPao, hFro⟩, hOo, pto, hPto, hMo⟩ := hCo
  unfold CSO at hOo
  have hpbo := hPto.2
  have hnl := hC.1
  obtain ⟨nA, nB, nC⟩ := id da
  obtain ⟨fa, fb, pA, pB⟩ := id db
  have hcr9c := d6
  obtain ⟨y0c, y1c, y2c, y3c, y4c, ⟨ftc, y5c⟩, fhc, y6c⟩ := hcr9c
  obtain ⟨wcx, flx, fwx, fqx, fzx, fdx, hSm, hwl9, hwr9⟩ := id d8
  have hsc9z := hSm
  obtain ⟨s1z, s2z, s3z, s4z, s5z, s6z, s7z, s8z, s9z⟩ := hsc9z
  refine lv_iload_n hx hb dX9_word_0 rfl (lv_at hl 1 rfl) ?_
  refine vx_callv (vx_runS (As := [.int v]) (rest := []) ⟨hx, hb, hml, hown, hts⟩ (c_W9_ckRes l hlt dC dI A ad cA g v ) (va_cwS 1 hts (goodIn_app (goodIn_r [Cond.methodLink RX9 175 yX9_checkResult, Cond.static yX9_checkResult, Cond.initialized RX9] [1, 2, 3] rfl rfl) (goodIn_sub (fun w9 h9 => bk0 w9 h9) gw_W9_ckRes)) rfl rfl rfl (by decide +kernel) ⟨Nat.le_of_ble_eq_true rfl, Nat.le_of_ble_eq_true rfl⟩) ⟨fun a U g mk q => ⟨q.1, ⟨q.2.1.1, q.2.1.2.1, LY.moved (u := U) (U := U.calling g mk a) (Vm.Alike.refl U.vm) q.2.1.2.2⟩, exF.same rfl rfl q.2.2⟩, fun U hU hW => ⟨rfl, ⟨by rw [hU]; exact fun q h => hA q (Nat.le_trans hS.1 h), by rw [hU]; exact hP, LY.moved hW.alike hL⟩, by rw [hU]; exact exF.warm hW (exF.kept hE hS.2.1)⟩⟩ rfl rfl hl.1 rfl (lv_room (Nat.le_of_ble_eq_true rfl)) dX9_word_1 ⟨(Nat.le_of_ble_eq_true rfl), (Nat.le_of_ble_eq_true rfl)⟩) hS (fun q _ h => h) (fun q h => h) (fun q _ h => h) (fun E ce q9 u t H1 locs1 ht hvm hpx hbx hz1 hk1 hS hce hcv hcl => vx_out (fun x9 hx9 => (htb x9 hx9).elim) hlocks hce hcv hcl (fun t2 ht2 hvm2 => ⟨(), trivial, ⟨Or.inl hbx.1.1, by rw [ht2, ← ht]; exact hbx.2⟩, hS.F ht2⟩) hS.2.2 (Nat.le_of_ble_eq_true rfl) (Nat.le_of_ble_eq_true rfl)) (fun u8 t8 H1 locs ht8 hvm8 hw_1 hB hz1 hk1 hS => ?_)
  obtain ⟨⟩ := u8
  try dsimp only at hw_1 hB
  rw [ht8] at hB
  have hP := hB
  generalize H1 = H at hP hS ⊢
  refine W.cs (cells' := 1) (slots' := 6) (by omega) (by omega) ?_
  obtain ⟨r1, hr1, er1, -⟩ := k_nat (x := v) (by omega)
  subst hr1
  refine lv_iload_n hx hb dX9_word_4 rfl (lv_at hl 3 rfl) ?_
  refine lv_if_lt (tgt := 14) hx hb dX9_word_5 (by decide) (fun c_2 => ?_) (fun c_2 => ?_)
  · have c_2 := (k_lt w2 (nI 0)).mp c_2
    rw [show (nI 0).toInt = 0 from by decide] at c_2
    obtain ⟨sa_3, hstr_4⟩ := hE.2.2.1 (243, "there is no such word") (by decide +kernel)
    exact vx_throwS (own := RX9) (cls := "java/lang/IndexOutOfBoundsException") (text := "there is no such word") (names := ["java/lang/RuntimeException", "java/lang/Exception"]) (ik := 241) (is := 243) (ic := 245) (sa := sa_3) (A := A) hx hb hlt hown (by decide +kernel) (by decide +kernel) (hts (.classLink RX9 241 "java/lang/IndexOutOfBoundsException") (List.mem_of_getElem? (i := 4) rfl)) (hts (.initialized "java/lang/IndexOutOfBoundsException") (List.mem_of_getElem? (i := 5) rfl)) hstr_4 (vx_hat (B := [.declares (Bundle.initS "java/lang/RuntimeException"), .declares (Bundle.initS "java/lang/Exception"), .declares (Bundle.initS Bundle.tN), .castable "java/lang/IndexOutOfBoundsException" "java/lang/IndexOutOfBoundsException"]) (fun w hw => hts w (bk1 w hw)) (by decide +kernel) (vx_c (va_Nw.use rfl hE.2.2.2.1) (vx_c (va_Nw.use rfl hE.2.2.2.2.1) (vx_c (va_Nw.use rfl hE.2.2.2.2.2.1) (vx_c (va_Nw.use rfl hE.2.2.2.2.2.2.2.2.1) vx_n))))) (by decide +kernel) hE.1 hE.2.1 hS (by rw [hml]; exact hl.1) dX9_word_14 dX9_word_17 dX9_word_18 dX9_word_20 dX9_word_23 (fun x9 hx9 => (htb x9 hx9).elim) (Nat.le_of_ble_eq_true rfl) (Nat.le_of_ble_eq_true rfl) (Nat.le_of_ble_eq_true rfl) (Nat.le_of_ble_eq_true rfl) hlocks (fun t9 hvm9 h1 h2 => ⟨(), trivial, ⟨Or.inl rfl, wP_grow hP h2⟩, k_F hS h1 h2⟩) hS.2.2 (Nat.le_of_ble_eq_true rfl) (Nat.le_of_ble_eq_true rfl)
  · have c_2 := mt (k_lt w2 (nI 0)).mpr c_2
    rw [show (nI 0).toInt = 0 from by decide] at c_2
    refine lv_iload_n hx hb dX9_word_8 rfl (lv_at hl 3 rfl) ?_
    refine lv_bipush (v := nI 64) hx hb dX9_word_9 (by decide +kernel) ?_
    refine lv_icmp_lt (tgt := 24) hx hb dX9_word_11 (by decide) (fun c_5 => ?_) (fun c_5 => ?_)
    · have c_5 := (k_lt w2 (nI 64)).mp c_5
      rw [show (nI 64).toInt = 64 from by decide] at c_5
      obtain ⟨wn, hwn, ewn, -⟩ := k_nat (x := w2) (by omega)
      subst hwn
      refine lv_iload_n hx hb dX9_word_24 rfl (lv_at hl 2 rfl) ?_
      refine vx_callv (vx_runS (As := [.int w1]) (rest := []) ⟨hx, hb, hml, hown, hts⟩ (c_W9_ckSide l hlt dC dI A ad cA g w1 ) (va_cwS 1 hts (goodIn_app (goodIn_r [Cond.methodLink RX9 231 yX9_checkSide, Cond.static yX9_checkSide, Cond.initialized RX9] [6, 7, 3] rfl rfl) (goodIn_sub (fun w9 h9 => bk2 w9 h9) gw_W9_ckSide)) rfl rfl rfl (by decide +kernel) ⟨Nat.le_of_ble_eq_true rfl, Nat.le_of_ble_eq_true rfl⟩) ⟨fun a U g mk q => ⟨q.1, ⟨q.2.1.1, q.2.1.2.1, LY.moved (u := U) (U := U.calling g mk a) (Vm.Alike.refl U.vm) q.2.1.2.2⟩, exF.same rfl rfl q.2.2⟩, fun U hU hW => ⟨rfl, ⟨by rw [hU]; exact fun q h => hA q (Nat.le_trans hS.1 h), by rw [hU]; exact hP, LY.moved hW.alike hL⟩, by rw [hU]; exact exF.warm hW (exF.kept hE hS.2.1)⟩⟩ rfl rfl hl.1 rfl (lv_room (Nat.le_of_ble_eq_true rfl)) dX9_word_25 ⟨(Nat.le_of_ble_eq_true rfl), (Nat.le_of_ble_eq_true rfl)⟩) hS (fun q _ h => h) (fun q h => h) (fun q _ h => h) (fun E ce q9 u t H1 locs1 ht hvm hpx hbx hz1 hk1 hS hce hcv hcl => vx_out (fun x9 hx9 => (htb x9 hx9).elim) hlocks hce hcv hcl (fun t2 ht2 hvm2 => ⟨(), trivial, ⟨Or.inr hbx.1.1, by rw [ht2, ← ht]; exact hbx.2⟩, hS.F ht2⟩) hS.2.2 (Nat.le_of_ble_eq_true rfl) (Nat.le_of_ble_eq_true rfl)) (fun u8 t8 H1 locs ht8 hvm8 hw_6 hB hz1 hk1 hS => ?_)
      obtain ⟨⟩ := u8
      try dsimp only at hw_6 hB
      rw [ht8] at hB
      have hP := hB
      generalize H1 = H at hP hS ⊢
      refine W.cs (cells' := 2) (slots' := 12) (by omega) (by omega) ?_
      refine lv_aload_n hx hb dX9_word_28 rfl (lv_at hl 0 rfl) ?_
      refine lv_iload_n hx hb dX9_word_29 rfl (lv_at hl 1 rfl) ?_
      refine lv_iload_n hx hb dX9_word_30 rfl (lv_at hl 2 rfl) ?_
      refine va_callr (va_runV (As := [.int (nI r1), .int w1]) (rest := []) ⟨hx, hb, hml, hown, hts⟩ (c_W9_side l dC dI A ad cA g L nm tx ty wp wr r1 w1 hI (by omega)) (cwV 2 hts (goodIn_app (goodIn_r [Cond.methodLink RX9 234 yX9_side, Cond.instanceMethod yX9_side, Cond.selects RX9 yX9_side yX9_side, Cond.initialized RX9] [8, 9, 10, 3] rfl rfl) (goodIn_sub (fun w9 h9 => bk3 w9 h9) gw_W9_side)) rfl rfl rfl (by decide +kernel) ⟨Nat.le_of_ble_eq_true rfl, Nat.le_of_ble_eq_true rfl⟩) ⟨fun a U g mk q => ⟨q.1, q.2.1, q.2.2.1, LY.moved (u := U) (U := U.calling g mk a) (Vm.Alike.refl U.vm) q.2.2.2⟩, va_recv hK hP (ci := 12) (q0 := 2076) rfl (wo_at (by decide) d0), fun U hU hW => ⟨rfl, by rw [hU]; exact fun q h => hA q (Nat.le_trans hS.1 h), by rw [hU]; exact hP, LY.moved hW.alike hL⟩⟩ rfl rfl hl.1 rfl (lv_room (Nat.le_of_ble_eq_true rfl)) dX9_word_31 ⟨(Nat.le_of_ble_eq_true rfl), (Nat.le_of_ble_eq_true rfl)⟩) hS (fun q _ h => h) (fun q h => h) (fun u8 r_7 t8 H1 locs ht8 hvm8 hw_8 hB hz1 hk1 hS => ?_)
      obtain ⟨q_9, rfl⟩ : ∃ z, z = u8 := ⟨_, rfl⟩
      obtain ⟨hra, hB⟩ := hB
      try dsimp only at hw_8 hB hra
      rw [ht8] at hB
      have hP := hB
      subst hra
      generalize H1 = H at hP hS ⊢
      refine lv_astore (lv' := [(4, .ref (ad (2 * q_9))), (0, .ref (ad 2076)), (1, .int (nI r1)), (2, .int w1), (3, .int (nI wn))]) hx hb dX9_word_34 hl (by decide) rfl (fun ls hl => ?_)
      obtain ⟨mw_10, sw_10, nw_10, fw_10, aw_10, bw_10, cw_10, dw_10, ew_10⟩ := hWo q_9 (by omega)
      have qw_10 : mw_10 ≤ 4096 := by rw [dw_10]; exact rmc_le _
      refine lv_iload_n hx hb dX9_word_36 rfl (lv_at hl 4 rfl) ?_
      refine lv_aload hx hb dX9_word_37 (lv_at hl 0 rfl) ?_
      refine m_get (D := (dC, dI)) (v := .int (nI sw_10)) (C := RX8) (T := TX8) (N := 3) hx hb hts bk4 hown hK hP (2 * q_9) (ns_w (by omega)) aw_10 rfl 1 (by decide) (hts (.fieldLink RX9 246 "GradientDesk$Whole" "size" "I") (List.mem_of_getElem? (i := 11) rfl)) (fun _ h9 => h9) rfl dX9_word_39 ?_
      refine lv_icmp_ge (tgt := 55) hx hb dX9_word_42 (by decide) (fun c_11 => ?_) (fun c_11 => ?_)
      · have c_11 := (nI_leI (a := sw_10) (b := wn) (by omega) (by omega)).mp c_11
        refine lv_iconst (v := nI 0) hx hb dX9_word_55 (by decide +kernel) ?_
        refine vx_ret ?_
        refine W.widen (k := 10) (n := 60) (by omega) (by omega) ?_
        exact W.iret (v := nI 0) hx hb hr (fun t9 ht9 hW9 => ⟨⟨nI 0, (), rfl, trivial, by show va_P (dC, dI) vwCl _ t9.heap; rw [ht9]; exact hP⟩, hS.F ht9⟩) hS.2.2 dX9_word_56
      · have c_11 := mt (nI_leI (a := sw_10) (b := wn) (by omega) (by omega)).mpr c_11
        refine lv_aload hx hb dX9_word_45 (lv_at hl 0 rfl) ?_
        refine m_get (D := (dC, dI)) (v := .ref (ad (2 * q_9 + 1))) (C := RX8) (T := TX8) (N := 3) hx hb hts bk4 hown hK hP (2 * q_9) (ns_w (by omega)) aw_10 rfl 0 (by decide) (hts (.fieldLink RX9 249 "GradientDesk$Whole" "words" "[I") (List.mem_of_getElem? (i := 12) rfl)) (fun _ h9 => h9) rfl dX9_word_47 ?_
        refine lv_iload_n hx hb dX9_word_50 rfl (lv_at hl 4 rfl) ?_
        refine m_iald hx hb hK hP (2 * q_9 + 1) (ns_w (by omega)) (tyc_w (by omega)) bw_10 (i := wn) (by omega) (by omega) dX9_word_51 ?_
        refine lv_topi (fun x_12 e_13 => ?_)
        refine lv_goto (tgt := 56) hx hb dX9_word_52 (by decide) ?_
        refine vx_ret ?_
        refine W.widen (k := 10) (n := 60) (by omega) (by omega) ?_
        exact W.iret (v := x_12) hx hb hr (fun t9 ht9 hW9 => ⟨⟨x_12, (), rfl, trivial, by show va_P (dC, dI) vwCl _ t9.heap; rw [ht9]; exact hP⟩, hS.F ht9⟩) hS.2.2 dX9_word_56
    · have c_5 := mt (k_lt w2 (nI 64)).mpr c_5
      rw [show (nI 64).toInt = 64 from by decide] at c_5
      obtain ⟨sa_14, hstr_15⟩ := hE.2.2.1 (243, "there is no such word") (by decide +kernel)
      exact vx_throwS (own := RX9) (cls := "java/lang/IndexOutOfBoundsException") (text := "there is no such word") (names := ["java/lang/RuntimeException", "java/lang/Exception"]) (ik := 241) (is := 243) (ic := 245) (sa := sa_14) (A := A) hx hb hlt hown (by decide +kernel) (by decide +kernel) (hts (.classLink RX9 241 "java/lang/IndexOutOfBoundsException") (List.mem_of_getElem? (i := 4) rfl)) (hts (.initialized "java/lang/IndexOutOfBoundsException") (List.mem_of_getElem? (i := 5) rfl)) hstr_15 (vx_hat (B := [.declares (Bundle.initS "java/lang/RuntimeException"), .declares (Bundle.initS "java/lang/Exception"), .declares (Bundle.initS Bundle.tN), .castable "java/lang/IndexOutOfBoundsException" "java/lang/IndexOutOfBoundsException"]) (fun w hw => hts w (bk1 w hw)) (by decide +kernel) (vx_c (va_Nw.use rfl hE.2.2.2.1) (vx_c (va_Nw.use rfl hE.2.2.2.2.1) (vx_c (va_Nw.use rfl hE.2.2.2.2.2.1) (vx_c (va_Nw.use rfl hE.2.2.2.2.2.2.2.2.1) vx_n))))) (by decide +kernel) hE.1 hE.2.1 hS (by rw [hml]; exact hl.1) dX9_word_14 dX9_word_17 dX9_word_18 dX9_word_20 dX9_word_23 (fun x9 hx9 => (htb x9 hx9).elim) (Nat.le_of_ble_eq_true rfl) (Nat.le_of_ble_eq_true rfl) (Nat.le_of_ble_eq_true rfl) (Nat.le_of_ble_eq_true rfl) hlocks (fun t9 hvm9 h1 h2 => ⟨(), trivial, ⟨Or.inl rfl, wP_grow hP h2⟩, k_F hS h1 h2⟩) hS.2.2 (Nat.le_of_ble_eq_true rfl) (Nat.le_of_ble_eq_true rfl)
