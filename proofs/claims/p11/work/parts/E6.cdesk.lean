section
def wd_W9_isLong : List Cond := .code yX9_isLong cX9_isLong 1 (some .boolean) :: (([.fieldLink RX9 222 "GradientDesk$Fraction" "top" "LGradientDesk$Whole;", .methodLink RX9 238 yX8_bitLength, .instanceMethod yX8_bitLength, .selects RX8 yX8_bitLength yX8_bitLength, .initialized RX8, .fieldLink RX9 262 "GradientDesk$Fraction" "bottom" "LGradientDesk$Whole;"] : List Cond) ++ (u_ws RX2 TX2 2 ++ (wd_X8_bitLength ++ ([]))))
theorem gw_W9_isLong : wd_W9_isLong.all goodWord = true := k_allc rfl (k_all (by decide +kernel) (k_all (gu_X2) (k_all (gw_X8_bitLength) (rfl))))
set_option maxHeartbeats 4000000 in
set_option maxRecDepth 100000 in
theorem c_W9_isLong (l : Launch) (dC : Nat → ClassId) (dI : Nat → Nat → Nat) (A : Nat → Prop) (ad : Nat → Nat) (cA : Nat → ClassId) (g : Nat → va_E) (F : Nat) (Fa : Nat) (Fb : Nat) (hAW : AW ad cA g) (hF : g F = .inr (5, [.ref (ad (2 * Fa)), .ref (ad (2 * Fb))])) (lF : F < NSc ∧ 2076 ≤ F) (jF : 4 ≤ Fa ∧ Fa < 1038 ∧ 4 ≤ Fb ∧ Fb < 1038 ∧ Fa ≠ Fb) : Met l yX9_isLong wd_W9_isLong ({ frames := 30, cells := 0, slots := 0, locals := 600 }) (va_Pc [.ref (ad F)] (PR NSc tyc dC dI A ad cA g)) (va_Qi (fun (r : Int32) => fun (u : Unit) => match u with | () => ∃ b, b < 2 ∧ r = nI b) (fun (u : Unit) (t : State) => va_P (dC, dI) vwCl (wo ad NSc g) t.heap) A) (0) (0) A := by
  refine Met.ofW (cc := cX9_isLong) (maxL := 1) (ret := (some .boolean)) (by decide) rfl ?_
  intro p e s m args below meth c s₁ B hml hv
  obtain ⟨rfl, hA, hP, hL⟩ := hv
  have hx := B.exec
  have hb := B.bytes
  have hr := B.returns
  have hts := atoms_spec (ws := wd_W9_isLong) B.pre
  have hown : s.vm.findClass RX9 = some m.cls := findClass_of_methodNamed B.named
  have hlocks := B.notSynchronized
  have hK := hL.1
  have hD : ∀ g, va_D A (wo ad NSc g) := fun g => wo_D hL.2.1 hL.2.2 g
  have hS : va_S A s.heap s.heap [] := va_S.rf
  have bk0 : ∀ w ∈ u_ws RX2 TX2 2, w ∈ wd_W9_isLong := fun _ h => List.mem_cons_of_mem _ (List.mem_append_right _ (List.mem_append_left _ h))
  have bk1 : ∀ w ∈ wd_X8_bitLength, w ∈ wd_W9_isLong := fun _ h => List.mem_cons_of_mem _ (List.mem_append_right _ (List.mem_append_right _ (List.mem_append_left _ h)))
  have hl := lv_entry ([.ref (ad F)]) (n := 1) (Nat.le_of_ble_eq_true rfl)
  rw [lg_entry_eq]
  generalize (lg_sl ([.ref (ad F)]) ++ List.replicate (1 - (lg_sl ([.ref (ad F)])).length) Slot.unset).toArray = ls at hl ⊢
  have hl : lv_has ls 1 [(0, .ref (ad F))] := hl
  refine lv_aload_n hx hb dX9_isLong_0 rfl (lv_at hl 0 rfl) ?_
  refine m_get (D := (dC, dI)) (v := .ref (ad (2 * Fa))) (C := RX2) (T := TX2) (N := 2) hx hb hts bk0 hown hK hP F lF.1 hF rfl 0 (by decide) (hts (.fieldLink RX9 222 "GradientDesk$Fraction" "top" "LGradientDesk$Whole;") (List.mem_of_getElem? (i := 1) rfl)) (fun _ h9 => h9) rfl dX9_isLong_1 ?_
  obtain ⟨mw_1, sw_1, nw_1, fw_1, aw_1, bw_1, cw_1, dw_1, ew_1⟩ := hAW Fa (by omega)
  have qw_1 : mw_1 ≤ 4096 := by rw [dw_1]; exact rmc_le _
  refine va_calli (va_runV (As := []) (rest := []) ⟨hx, hb, hml, hown, hts⟩ (c_X8_bitLength l dC dI A ad cA g Fa hAW (by omega)) (cwV 0 hts (goodIn_app (goodIn_r [Cond.methodLink RX9 238 yX8_bitLength, Cond.instanceMethod yX8_bitLength, Cond.selects RX8 yX8_bitLength yX8_bitLength, Cond.initialized RX8] [2, 3, 4, 5] rfl rfl) (goodIn_sub (fun w9 h9 => bk1 w9 h9) gw_X8_bitLength)) rfl rfl rfl (by decide +kernel) ⟨Nat.le_of_ble_eq_true rfl, Nat.le_of_ble_eq_true rfl⟩) ⟨fun a U g mk q => ⟨q.1, q.2.1, q.2.2.1, LY.moved (u := U) (U := U.calling g mk a) (Vm.Alike.refl U.vm) q.2.2.2⟩, va_recv hK hP (ci := 11) (q0 := (2 * Fa)) rfl (wo_at (ns_w (by omega)) aw_1), fun U hU hW => ⟨rfl, by rw [hU]; exact fun q h => hA q (Nat.le_trans hS.1 h), by rw [hU]; exact hP, LY.moved hW.alike hL⟩⟩ rfl rfl hl.1 rfl (lv_room (Nat.le_of_ble_eq_true rfl)) dX9_isLong_4 ⟨(Nat.le_of_ble_eq_true rfl), (Nat.le_of_ble_eq_true rfl)⟩) hS (fun q _ h => h) (fun q h => h) (fun r_2 u8 t8 H1 locs ht8 hvm8 hw_3 hB hz1 hk1 hS => ?_)
  obtain ⟨⟩ := u8
  try dsimp only at hw_3 hB
  rw [ht8] at hB
  have hP := hB
  generalize H1 = H at hP hS ⊢
  refine lv_sipush (v := nI 1000) hx hb dX9_isLong_7 (by decide +kernel) ?_
  refine lv_icmp_gt (tgt := 26) hx hb dX9_isLong_10 (by decide) (fun c_4 => ?_) (fun c_4 => ?_)
  · clear c_4
    refine lv_iconst (v := nI 1) hx hb dX9_isLong_26 (by decide +kernel) ?_
    refine lv_goto (tgt := 31) hx hb dX9_isLong_27 (by decide) ?_
    refine W.widen (k := 0) (n := 0) (by omega) (by omega) ?_
    exact W.zret (v := nI 1) hx hb hr (by decide +kernel) (fun t9 ht9 hW9 => ⟨⟨nI 1, (), rfl, ⟨1, by decide, rfl⟩, by show va_P (dC, dI) vwCl _ t9.heap; rw [ht9]; exact hP⟩, hS.F ht9⟩) hS.2.2 dX9_isLong_31
  · clear c_4
    refine lv_aload_n hx hb dX9_isLong_13 rfl (lv_at hl 0 rfl) ?_
    refine m_get (D := (dC, dI)) (v := .ref (ad (2 * Fb))) (C := RX2) (T := TX2) (N := 2) hx hb hts bk0 hown hK hP F lF.1 hF rfl 1 (by decide) (hts (.fieldLink RX9 262 "GradientDesk$Fraction" "bottom" "LGradientDesk$Whole;") (List.mem_of_getElem? (i := 6) rfl)) (fun _ h9 => h9) rfl dX9_isLong_14 ?_
    obtain ⟨mw_5, sw_5, nw_5, fw_5, aw_5, bw_5, cw_5, dw_5, ew_5⟩ := hAW Fb (by omega)
    have qw_5 : mw_5 ≤ 4096 := by rw [dw_5]; exact rmc_le _
    refine va_calli (va_runV (As := []) (rest := []) ⟨hx, hb, hml, hown, hts⟩ (c_X8_bitLength l dC dI A ad cA g Fb hAW (by omega)) (cwV 0 hts (goodIn_app (goodIn_r [Cond.methodLink RX9 238 yX8_bitLength, Cond.instanceMethod yX8_bitLength, Cond.selects RX8 yX8_bitLength yX8_bitLength, Cond.initialized RX8] [2, 3, 4, 5] rfl rfl) (goodIn_sub (fun w9 h9 => bk1 w9 h9) gw_X8_bitLength)) rfl rfl rfl (by decide +kernel) ⟨Nat.le_of_ble_eq_true rfl, Nat.le_of_ble_eq_true rfl⟩) ⟨fun a U g mk q => ⟨q.1, q.2.1, q.2.2.1, LY.moved (u := U) (U := U.calling g mk a) (Vm.Alike.refl U.vm) q.2.2.2⟩, va_recv hK hP (ci := 11) (q0 := (2 * Fb)) rfl (wo_at (ns_w (by omega)) aw_5), fun U hU hW => ⟨rfl, by rw [hU]; exact fun q h => hA q (Nat.le_trans hS.1 h), by rw [hU]; exact hP, LY.moved hW.alike hL⟩⟩ rfl rfl hl.1 rfl (lv_room (Nat.le_of_ble_eq_true rfl)) dX9_isLong_17 ⟨(Nat.le_of_ble_eq_true rfl), (Nat.le_of_ble_eq_true rfl)⟩) hS (fun q _ h => h) (fun q h => h) (fun r_6 u8 t8 H1 locs ht8 hvm8 hw_7 hB hz1 hk1 hS => ?_)
    obtain ⟨⟩ := u8
    try dsimp only at hw_7 hB
    rw [ht8] at hB
    have hP := hB
    generalize H1 = H at hP hS ⊢
    refine lv_sipush (v := nI 1000) hx hb dX9_isLong_20 (by decide +kernel) ?_
    refine lv_icmp_le (tgt := 30) hx hb dX9_isLong_23 (by decide) (fun c_8 => ?_) (fun c_8 => ?_)
    · clear c_8
      refine lv_iconst (v := nI 0) hx hb dX9_isLong_30 (by decide +kernel) ?_
      refine W.widen (k := 0) (n := 0) (by omega) (by omega) ?_
      exact W.zret (v := nI 0) hx hb hr (by decide +kernel) (fun t9 ht9 hW9 => ⟨⟨nI 0, (), rfl, ⟨0, by decide, rfl⟩, by show va_P (dC, dI) vwCl _ t9.heap; rw [ht9]; exact hP⟩, hS.F ht9⟩) hS.2.2 dX9_isLong_31
    · clear c_8
      refine lv_iconst (v := nI 1) hx hb dX9_isLong_26 (by decide +kernel) ?_
      refine lv_goto (tgt := 31) hx hb dX9_isLong_27 (by decide) ?_
      refine W.widen (k := 0) (n := 0) (by omega) (by omega) ?_
      exact W.zret (v := nI 1) hx hb hr (by decide +kernel) (fun t9 ht9 hW9 => ⟨⟨nI 1, (), rfl, ⟨1, by decide, rfl⟩, by show va_P (dC, dI) vwCl _ t9.heap; rw [ht9]; exact hP⟩, hS.F ht9⟩) hS.2.2 dX9_isLong_31
def wd_W9_reckon : List Cond := .code yX9_reckon cX9_reckon 5 (some .boolean) :: (([.methodLink RX9 175 yX9_checkResult, .static yX9_checkResult, .initialized RX9, .classLink RX9 90 "java/lang/IllegalArgumentException", .initialized "java/lang/IllegalArgumentException", .fieldLink RX9 59 "GradientDesk" "results" "[LGradientDesk$Fraction;", .methodLink RX9 203 yX9_isLong, .static yX9_isLong, .fieldLink RX9 10 "GradientDesk" "arithmetic" "LGradientDesk$Arithmetic;", .fieldLink RX9 66 "GradientDesk" "spare" "LGradientDesk$Fraction;", .methodLink RX9 211 yX0_add, .instanceMethod yX0_add, .selects RX0 yX0_add yX0_add, .initialized RX0, .methodLink RX9 215 yX0_reduce, .instanceMethod yX0_reduce, .selects RX0 yX0_reduce yX0_reduce, .methodLink RX9 181 yX2_become, .instanceMethod yX2_become, .selects RX2 yX2_become yX2_become, .initialized RX2, .methodLink RX9 207 yX0_multiply, .instanceMethod yX0_multiply, .selects RX0 yX0_multiply yX0_multiply] : List Cond) ++ (wd_W9_ckRes ++ ((vx_atS RX9 94 "java/lang/IllegalArgumentException" ["java/lang/RuntimeException", "java/lang/Exception"]).filter goodWord ++ (u_ws RX9 TX9 12 ++ (wd_W9_isLong ++ (wd_X0_add ++ (wd_X0_reduce ++ (wd_X2_become ++ (wd_X0_multiply ++ ([]))))))))))
theorem gw_W9_reckon : wd_W9_reckon.all goodWord = true := k_allc rfl (k_all (by decide +kernel) (k_all (gw_W9_ckRes) (k_all (k_allf _ _) (k_all (gu_X9) (k_all (gw_W9_isLong) (k_all (gw_X0_add) (k_all (gw_X0_reduce) (k_all (gw_X2_become) (k_all (gw_X0_multiply) (rfl))))))))))
set_option maxHeartbeats 4000000 in
set_option maxRecDepth 100000 in
theorem c_W9_reckon (l : Launch) (hlt : l.stackTraces = false) (dC : Nat → ClassId) (dI : Nat → Nat → Nat) (A : Nat → Prop) (ad : Nat → Nat) (cA : Nat → ClassId) (g : Nat → va_E) (L : List PD) (nm : Nat → Int) (tx : Nat → Nat) (ty : Nat) (wp : Int32) (v : Int32) (w1 : Int32) (w2 : Int32) (w3 : Int32) (hI : CIS ad cA g L nm tx ty wp) : vx_Met l yX9_reckon wd_W9_reckon ({ frames := 60, cells := 10, slots := 60, locals := 1200 }) (va_Pc [.ref (ad 2076), .int v, .int w1, .int w2, .int w3] (fun U => PR NSc tyc dC dI A ad cA g U ∧ exF A U U.heap)) (va_Qi (fun (r : Int32) => fun (u : Nat → va_E) => match u with | g2 => CIS ad cA g2 L nm tx ty wp) (fun (u : Nat → va_E) (t : State) => va_P (dC, dI) vwCl (wo ad NSc u) t.heap) A) (vx_X (fun _ : Unit => True) (fun E _ t => (E = "java/lang/IndexOutOfBoundsException" ∨ E = "java/lang/IllegalArgumentException") ∧ va_P (dC, dI) vwCl (wo ad NSc g) t.heap) A) (10) (60) A := by
  refine vx_ofW (cc := cX9_reckon) (maxL := 5) (ret := (some .boolean)) (by decide) rfl ?_
  intro p e s m args below meth c s₁ B hml htb hv
  obtain ⟨rfl, ⟨hA, hP, hL⟩, hE⟩ := hv
  have hx := B.exec
  have hb := B.bytes
  have hr := B.returns
  have hts := atoms_spec (ws := wd_W9_reckon) B.pre
  have hown : s.vm.findClass RX9 = some m.cls := findClass_of_methodNamed B.named
  have hlocks := B.notSynchronized
  have hK := hL.1
  have hD : ∀ g, va_D A (wo ad NSc g) := fun g => wo_D hL.2.1 hL.2.2 g
  have hS : va_S A s.heap s.heap [] := va_S.rf
  have bk0 : ∀ w ∈ wd_W9_ckRes, w ∈ wd_W9_reckon := fun _ h => List.mem_cons_of_mem _ (List.mem_append_right _ (List.mem_append_left _ h))
  have bk1 : ∀ w ∈ (vx_atS RX9 94 "java/lang/IllegalArgumentException" ["java/lang/RuntimeException", "java/lang/Exception"]).filter goodWord, w ∈ wd_W9_reckon := fun _ h => List.mem_cons_of_mem _ (List.mem_append_right _ (List.mem_append_right _ (List.mem_append_left _ h)))
  have bk2 : ∀ w ∈ u_ws RX9 TX9 12, w ∈ wd_W9_reckon := fun _ h => List.mem_cons_of_mem _ (List.mem_append_right _ (List.mem_append_right _ (List.mem_append_right _ (List.mem_append_left _ h))))
  have bk3 : ∀ w ∈ wd_W9_isLong, w ∈ wd_W9_reckon := fun _ h => List.mem_cons_of_mem _ (List.mem_append_right _ (List.mem_append_right _ (List.mem_append_right _ (List.mem_append_right _ (List.mem_append_left _ h)))))
  have bk4 : ∀ w ∈ wd_X0_add, w ∈ wd_W9_reckon := fun _ h => List.mem_cons_of_mem _ (List.mem_append_right _ (List.mem_append_right _ (List.mem_append_right _ (List.mem_append_right _ (List.mem_append_right _ (List.mem_append_left _ h))))))
  have bk5 : ∀ w ∈ wd_X0_reduce, w ∈ wd_W9_reckon := fun _ h => List.mem_cons_of_mem _ (List.mem_append_right _ (List.mem_append_right _ (List.mem_append_right _ (List.mem_append_right _ (List.mem_append_right _ (List.mem_append_right _ (List.mem_append_left _ h)))))))
  have bk6 : ∀ w ∈ wd_X2_become, w ∈ wd_W9_reckon := fun _ h => List.mem_cons_of_mem _ (List.mem_append_right _ (List.mem_append_right _ (List.mem_append_right _ (List.mem_append_right _ (List.mem_append_right _ (List.mem_append_right _ (List.mem_append_right _ (List.mem_append_left _ h))))))))
  have bk7 : ∀ w ∈ wd_X0_multiply, w ∈ wd_W9_reckon := fun _ h => List.mem_cons_of_mem _ (List.mem_append_right _ (List.mem_append_right _ (List.mem_append_right _ (List.mem_append_right _ (List.mem_append_right _ (List.mem_append_right _ (List.mem_append_right _ (List.mem_append_right _ (List.mem_append_left _ h)))))))))
  have hl := lv_entry ([.ref (ad 2076), .int v, .int w1, .int w2, .int w3]) (n := 5) (Nat.le_of_ble_eq_true rfl)
  rw [lg_entry_eq]
  generalize (lg_sl ([.ref (ad 2076), .int v, .int w1, .int w2, .int w3]) ++ List.replicate (5 - (lg_sl ([.ref (ad 2076), .int v, .int w1, .int w2, .int w3])).length) Slot.unset).toArray = ls at hl ⊢
  have hl : lv_has ls 5 [(0, .ref (ad 2076)), (1, .int v), (2, .int w1), (3, .int w2), (4, .int w3)] := hl
  have hi9 := hI
  obtain ⟨d0, hC, hWf, d3, d4, d5, d6, d7, d8, d9, da, db, dc⟩ := hi9
  unfold CDO at d0
  have hCo := hC
  obtain ⟨hLno, hWo, ⟨hAro, hWko, hPao, hFro⟩, hOo, pto, hPto, hMo⟩ := hCo
  unfold CSO at hOo
  have hpbo := hPto.2
  have hnl := hC.1
  obtain ⟨nA, nB, nC⟩ := id da
  obtain ⟨fa, fb, pA, pB⟩ := id db
  have hcr9c := d6
  obtain ⟨y0c, y1c, y2c, y3c, y4c, ⟨ftc, y5c⟩, fhc, y6c⟩ := hcr9c
  obtain ⟨Mx, hSm⟩ := id d8
  have hsc9z := hSm
  obtain ⟨lnz, wcz, flz, fwz, fdz, fzz, fqz, s1z, s2z, s3z, s4z, s5z, s6z, s7z, s8z, s9z, saz, sbz⟩ := hsc9z
  unfold SCO at s1z
  refine lv_iload_n hx hb dX9_reckon_0 rfl (lv_at hl 2 rfl) ?_
  refine vx_callv (vx_runS (As := [.int w1]) (rest := []) ⟨hx, hb, hml, hown, hts⟩ (c_W9_ckRes l hlt dC dI A ad cA g w1 ) (va_cwS 1 hts (goodIn_app (goodIn_r [Cond.methodLink RX9 175 yX9_checkResult, Cond.static yX9_checkResult, Cond.initialized RX9] [1, 2, 3] rfl rfl) (goodIn_sub (fun w9 h9 => bk0 w9 h9) gw_W9_ckRes)) rfl rfl rfl (by decide +kernel) ⟨Nat.le_of_ble_eq_true rfl, Nat.le_of_ble_eq_true rfl⟩) ⟨fun a U g mk q => ⟨q.1, ⟨q.2.1.1, q.2.1.2.1, LY.moved (u := U) (U := U.calling g mk a) (Vm.Alike.refl U.vm) q.2.1.2.2⟩, exF.same rfl rfl q.2.2⟩, fun U hU hW => ⟨rfl, ⟨by rw [hU]; exact fun q h => hA q (Nat.le_trans hS.1 h), by rw [hU]; exact hP, LY.moved hW.alike hL⟩, by rw [hU]; exact exF.warm hW (exF.kept hE hS.2.1)⟩⟩ rfl rfl hl.1 rfl (lv_room (Nat.le_of_ble_eq_true rfl)) dX9_reckon_1 ⟨(Nat.le_of_ble_eq_true rfl), (Nat.le_of_ble_eq_true rfl)⟩) hS (fun q _ h => h) (fun q h => h) (fun q _ h => h) (fun E ce q9 u t H1 locs1 ht hvm hpx hbx hz1 hk1 hS hce hcv hcl => vx_out (fun x9 hx9 => (htb x9 hx9).elim) hlocks hce hcv hcl (fun t2 ht2 hvm2 => ⟨(), trivial, ⟨Or.inl hbx.1.1, by rw [ht2, ← ht]; exact hbx.2⟩, hS.F ht2⟩) hS.2.2 (Nat.le_of_ble_eq_true rfl) (Nat.le_of_ble_eq_true rfl)) (fun u8 t8 H1 locs ht8 hvm8 hw_1 hB hz1 hk1 hS => ?_)
  obtain ⟨⟩ := u8
  try dsimp only at hw_1 hB
  rw [ht8] at hB
  have hP := hB
  generalize H1 = H at hP hS ⊢
  refine W.cs (cells' := 1) (slots' := 6) (by omega) (by omega) ?_
  obtain ⟨r0, hr0, er0, -⟩ := k_nat (x := w1) (by omega)
  subst hr0
  refine lv_iload_n hx hb dX9_reckon_4 rfl (lv_at hl 3 rfl) ?_
  refine vx_callv (vx_runS (As := [.int w2]) (rest := []) ⟨hx, hb, hml, hown, hts⟩ (c_W9_ckRes l hlt dC dI A ad cA g w2 ) (va_cwS 1 hts (goodIn_app (goodIn_r [Cond.methodLink RX9 175 yX9_checkResult, Cond.static yX9_checkResult, Cond.initialized RX9] [1, 2, 3] rfl rfl) (goodIn_sub (fun w9 h9 => bk0 w9 h9) gw_W9_ckRes)) rfl rfl rfl (by decide +kernel) ⟨Nat.le_of_ble_eq_true rfl, Nat.le_of_ble_eq_true rfl⟩) ⟨fun a U g mk q => ⟨q.1, ⟨q.2.1.1, q.2.1.2.1, LY.moved (u := U) (U := U.calling g mk a) (Vm.Alike.refl U.vm) q.2.1.2.2⟩, exF.same rfl rfl q.2.2⟩, fun U hU hW => ⟨rfl, ⟨by rw [hU]; exact fun q h => hA q (Nat.le_trans hS.1 h), by rw [hU]; exact hP, LY.moved hW.alike hL⟩, by rw [hU]; exact exF.warm hW (exF.kept hE hS.2.1)⟩⟩ rfl rfl hl.1 rfl (lv_room (Nat.le_of_ble_eq_true rfl)) dX9_reckon_5 ⟨(Nat.le_of_ble_eq_true rfl), (Nat.le_of_ble_eq_true rfl)⟩) hS (fun q _ h => h) (fun q h => h) (fun q _ h => h) (fun E ce q9 u t H1 locs1 ht hvm hpx hbx hz1 hk1 hS hce hcv hcl => vx_out (fun x9 hx9 => (htb x9 hx9).elim) hlocks hce hcv hcl (fun t2 ht2 hvm2 => ⟨(), trivial, ⟨Or.inl hbx.1.1, by rw [ht2, ← ht]; exact hbx.2⟩, hS.F ht2⟩) hS.2.2 (Nat.le_of_ble_eq_true rfl) (Nat.le_of_ble_eq_true rfl)) (fun u8 t8 H1 locs ht8 hvm8 hw_2 hB hz1 hk1 hS => ?_)
  obtain ⟨⟩ := u8
  try dsimp only at hw_2 hB
  rw [ht8] at hB
  have hP := hB
  generalize H1 = H at hP hS ⊢
  refine W.cs (cells' := 2) (slots' := 12) (by omega) (by omega) ?_
  obtain ⟨r1, hr1, er1, -⟩ := k_nat (x := w2) (by omega)
  subst hr1
  refine lv_iload hx hb dX9_reckon_8 (lv_at hl 4 rfl) ?_
  refine vx_callv (vx_runS (As := [.int w3]) (rest := []) ⟨hx, hb, hml, hown, hts⟩ (c_W9_ckRes l hlt dC dI A ad cA g w3 ) (va_cwS 1 hts (goodIn_app (goodIn_r [Cond.methodLink RX9 175 yX9_checkResult, Cond.static yX9_checkResult, Cond.initialized RX9] [1, 2, 3] rfl rfl) (goodIn_sub (fun w9 h9 => bk0 w9 h9) gw_W9_ckRes)) rfl rfl rfl (by decide +kernel) ⟨Nat.le_of_ble_eq_true rfl, Nat.le_of_ble_eq_true rfl⟩) ⟨fun a U g mk q => ⟨q.1, ⟨q.2.1.1, q.2.1.2.1, LY.moved (u := U) (U := U.calling g mk a) (Vm.Alike.refl U.vm) q.2.1.2.2⟩, exF.same rfl rfl q.2.2⟩, fun U hU hW => ⟨rfl, ⟨by rw [hU]; exact fun q h => hA q (Nat.le_trans hS.1 h), by rw [hU]; exact hP, LY.moved hW.alike hL⟩, by rw [hU]; exact exF.warm hW (exF.kept hE hS.2.1)⟩⟩ rfl rfl hl.1 rfl (lv_room (Nat.le_of_ble_eq_true rfl)) dX9_reckon_10 ⟨(Nat.le_of_ble_eq_true rfl), (Nat.le_of_ble_eq_true rfl)⟩) hS (fun q _ h => h) (fun q h => h) (fun q _ h => h) (fun E ce q9 u t H1 locs1 ht hvm hpx hbx hz1 hk1 hS hce hcv hcl => vx_out (fun x9 hx9 => (htb x9 hx9).elim) hlocks hce hcv hcl (fun t2 ht2 hvm2 => ⟨(), trivial, ⟨Or.inl hbx.1.1, by rw [ht2, ← ht]; exact hbx.2⟩, hS.F ht2⟩) hS.2.2 (Nat.le_of_ble_eq_true rfl) (Nat.le_of_ble_eq_true rfl)) (fun u8 t8 H1 locs ht8 hvm8 hw_3 hB hz1 hk1 hS => ?_)
  obtain ⟨⟩ := u8
  try dsimp only at hw_3 hB
  rw [ht8] at hB
  have hP := hB
  generalize H1 = H at hP hS ⊢
  refine W.cs (cells' := 3) (slots' := 18) (by omega) (by omega) ?_
  obtain ⟨r2, hr2, er2, -⟩ := k_nat (x := w3) (by omega)
  subst hr2
  refine lv_iload_n hx hb dX9_reckon_13 rfl (lv_at hl 1 rfl) ?_
  refine lv_if_lt (tgt := 22) hx hb dX9_reckon_14 (by decide) (fun c_4 => ?_) (fun c_4 => ?_)
  · have c_4 := (k_lt v (nI 0)).mp c_4
    rw [show (nI 0).toInt = 0 from by decide] at c_4
    obtain ⟨sa_5, hstr_6⟩ := hE.2.2.1 (201, "what is not 0 .. 2") (by decide +kernel)
    exact vx_throwS (own := RX9) (cls := "java/lang/IllegalArgumentException") (text := "what is not 0 .. 2") (names := ["java/lang/RuntimeException", "java/lang/Exception"]) (ik := 90) (is := 201) (ic := 94) (sa := sa_5) (A := A) hx hb hlt hown (by decide +kernel) (by decide +kernel) (hts (.classLink RX9 90 "java/lang/IllegalArgumentException") (List.mem_of_getElem? (i := 4) rfl)) (hts (.initialized "java/lang/IllegalArgumentException") (List.mem_of_getElem? (i := 5) rfl)) hstr_6 (vx_hat (B := [.declares (Bundle.initS "java/lang/RuntimeException"), .declares (Bundle.initS "java/lang/Exception"), .declares (Bundle.initS Bundle.tN), .castable "java/lang/IllegalArgumentException" "java/lang/IllegalArgumentException"]) (fun w hw => hts w (bk1 w hw)) (by decide +kernel) (vx_c (va_Nw.use rfl hE.2.2.2.1) (vx_c (va_Nw.use rfl hE.2.2.2.2.1) (vx_c (va_Nw.use rfl hE.2.2.2.2.2.1) (vx_c (va_Nw.use rfl hE.2.2.2.2.2.2.1) vx_n))))) (by decide +kernel) hE.1 hE.2.1 hS (by rw [hml]; exact hl.1) dX9_reckon_22 dX9_reckon_25 dX9_reckon_26 dX9_reckon_28 dX9_reckon_31 (fun x9 hx9 => (htb x9 hx9).elim) (Nat.le_of_ble_eq_true rfl) (Nat.le_of_ble_eq_true rfl) (Nat.le_of_ble_eq_true rfl) (Nat.le_of_ble_eq_true rfl) hlocks (fun t9 hvm9 h1 h2 => ⟨(), trivial, ⟨Or.inr rfl, wP_grow hP h2⟩, k_F hS h1 h2⟩) hS.2.2 (Nat.le_of_ble_eq_true rfl) (Nat.le_of_ble_eq_true rfl)
  · have c_4 := mt (k_lt v (nI 0)).mpr c_4
    rw [show (nI 0).toInt = 0 from by decide] at c_4
    refine lv_iload_n hx hb dX9_reckon_17 rfl (lv_at hl 1 rfl) ?_
    refine lv_iconst (v := nI 2) hx hb dX9_reckon_18 (by decide +kernel) ?_
    refine lv_icmp_le (tgt := 32) hx hb dX9_reckon_19 (by decide) (fun c_7 => ?_) (fun c_7 => ?_)
    · have c_7 := (k_le v (nI 2)).mp c_7
      rw [show (nI 2).toInt = 2 from by decide] at c_7
      refine lv_aload_n hx hb dX9_reckon_32 rfl (lv_at hl 0 rfl) ?_
      refine m_get (D := (dC, dI)) (v := .ref (ad 2103)) (C := RX9) (T := TX9) (N := 12) hx hb hts bk2 hown hK hP 2076 (by decide) d0 rfl 6 (by decide) (hts (.fieldLink RX9 59 "GradientDesk" "results" "[LGradientDesk$Fraction;") (List.mem_of_getElem? (i := 6) rfl)) (fun _ h9 => h9) rfl dX9_reckon_33 ?_
      refine lv_iload_n hx hb dX9_reckon_36 rfl (lv_at hl 3 rfl) ?_
      refine m_aald hx hb hK hP 2103 (by decide) rfl dc.1 (i := r1) (v := ad (2109 + r1)) (by omega) (by decide) rfl dX9_reckon_37 ?_
      have hr_9 := dc.2.2 r1 (by omega)
      refine va_calli (va_runS (As := [.ref (ad (2109 + r1))]) (rest := []) ⟨hx, hb, hml, hown, hts⟩ (c_W9_isLong l dC dI A ad cA g (2109 + r1) (13 + 2 * r1) (14 + 2 * r1) hWo hr_9 (⟨fr_r (by omega), by omega⟩) (by omega)) (va_cwS 1 hts (goodIn_app (goodIn_r [Cond.methodLink RX9 203 yX9_isLong, Cond.static yX9_isLong, Cond.initialized RX9] [7, 8, 3] rfl rfl) (goodIn_sub (fun w9 h9 => bk3 w9 h9) gw_W9_isLong)) rfl rfl rfl (by decide +kernel) ⟨Nat.le_of_ble_eq_true rfl, Nat.le_of_ble_eq_true rfl⟩) ⟨fun a U g mk q => ⟨q.1, q.2.1, q.2.2.1, LY.moved (u := U) (U := U.calling g mk a) (Vm.Alike.refl U.vm) q.2.2.2⟩, fun U hU hW => ⟨rfl, by rw [hU]; exact fun q h => hA q (Nat.le_trans hS.1 h), by rw [hU]; exact hP, LY.moved hW.alike hL⟩⟩ rfl rfl hl.1 rfl (lv_room (Nat.le_of_ble_eq_true rfl)) dX9_reckon_38 ⟨(Nat.le_of_ble_eq_true rfl), (Nat.le_of_ble_eq_true rfl)⟩) hS (fun q _ h => h) (fun q h => h) (fun r_10 u8 t8 H1 locs ht8 hvm8 hw_11 hB hz1 hk1 hS => ?_)
      obtain ⟨⟩ := u8
      try dsimp only at hw_11 hB
      rw [ht8] at hB
      have hP := hB
      generalize H1 = H at hP hS ⊢
      obtain ⟨b_8, hb_8, rfl⟩ := hw_11
      refine lv_if_ne (tgt := 57) hx hb dX9_reckon_41 (by decide) (fun c_12 => ?_) (fun c_12 => ?_)
      · have c_12 := mt (nI_eq (a := b_8) (b := 0) (by omega) (by decide)).mpr c_12
        refine lv_iconst (v := nI 0) hx hb dX9_reckon_57 (by decide +kernel) ?_
        refine vx_ret ?_
        refine W.widen (k := 10) (n := 60) (by omega) (by omega) ?_
        exact W.zret (v := nI 0) hx hb hr (by decide +kernel) (fun t9 ht9 hW9 => ⟨⟨nI 0, g, rfl, ⟨d0, hC, hWf, d3, d4, d5, d6, d7, d8, d9, da, db, dc⟩, by show va_P (dC, dI) vwCl _ t9.heap; rw [ht9]; exact hP⟩, hS.F ht9⟩) hS.2.2 dX9_reckon_58
      · have c_12 := (nI_eq (a := b_8) (b := 0) (by omega) (by decide)).mp c_12
        refine lv_aload_n hx hb dX9_reckon_44 rfl (lv_at hl 0 rfl) ?_
        refine m_get (D := (dC, dI)) (v := .ref (ad 2103)) (C := RX9) (T := TX9) (N := 12) hx hb hts bk2 hown hK hP 2076 (by decide) d0 rfl 6 (by decide) (hts (.fieldLink RX9 59 "GradientDesk" "results" "[LGradientDesk$Fraction;") (List.mem_of_getElem? (i := 6) rfl)) (fun _ h9 => h9) rfl dX9_reckon_45 ?_
        refine lv_iload hx hb dX9_reckon_48 (lv_at hl 4 rfl) ?_
        refine m_aald hx hb hK hP 2103 (by decide) rfl dc.1 (i := r2) (v := ad (2109 + r2)) (by omega) (by decide) rfl dX9_reckon_50 ?_
        have hr_14 := dc.2.2 r2 (by omega)
        refine va_calli (va_runS (As := [.ref (ad (2109 + r2))]) (rest := []) ⟨hx, hb, hml, hown, hts⟩ (c_W9_isLong l dC dI A ad cA g (2109 + r2) (13 + 2 * r2) (14 + 2 * r2) hWo hr_14 (⟨fr_r (by omega), by omega⟩) (by omega)) (va_cwS 1 hts (goodIn_app (goodIn_r [Cond.methodLink RX9 203 yX9_isLong, Cond.static yX9_isLong, Cond.initialized RX9] [7, 8, 3] rfl rfl) (goodIn_sub (fun w9 h9 => bk3 w9 h9) gw_W9_isLong)) rfl rfl rfl (by decide +kernel) ⟨Nat.le_of_ble_eq_true rfl, Nat.le_of_ble_eq_true rfl⟩) ⟨fun a U g mk q => ⟨q.1, q.2.1, q.2.2.1, LY.moved (u := U) (U := U.calling g mk a) (Vm.Alike.refl U.vm) q.2.2.2⟩, fun U hU hW => ⟨rfl, by rw [hU]; exact fun q h => hA q (Nat.le_trans hS.1 h), by rw [hU]; exact hP, LY.moved hW.alike hL⟩⟩ rfl rfl hl.1 rfl (lv_room (Nat.le_of_ble_eq_true rfl)) dX9_reckon_51 ⟨(Nat.le_of_ble_eq_true rfl), (Nat.le_of_ble_eq_true rfl)⟩) hS (fun q _ h => h) (fun q h => h) (fun r_15 u8 t8 H1 locs ht8 hvm8 hw_16 hB hz1 hk1 hS => ?_)
        obtain ⟨⟩ := u8
        try dsimp only at hw_16 hB
        rw [ht8] at hB
        have hP := hB
        generalize H1 = H at hP hS ⊢
        obtain ⟨b_13, hb_13, rfl⟩ := hw_16
        refine lv_if_eq (tgt := 59) hx hb dX9_reckon_54 (by decide) (fun c_17 => ?_) (fun c_17 => ?_)
        · have c_17 := (nI_eq (a := b_13) (b := 0) (by omega) (by decide)).mp c_17
          refine lv_iload_n hx hb dX9_reckon_59 rfl (lv_at hl 1 rfl) ?_
          refine lv_iconst (v := nI 2) hx hb dX9_reckon_60 (by decide +kernel) ?_
          refine lv_icmp_ne (tgt := 91) hx hb dX9_reckon_61 (by decide) (fun c_18 => ?_) (fun c_18 => ?_)
          · have c_18 := mt Int32.toInt_inj.mp c_18
            rw [show (nI 2).toInt = 2 from by decide] at c_18
            refine lv_aload_n hx hb dX9_reckon_91 rfl (lv_at hl 0 rfl) ?_
            refine m_get (D := (dC, dI)) (v := .ref (ad 2077)) (C := RX9) (T := TX9) (N := 12) hx hb hts bk2 hown hK hP 2076 (by decide) d0 rfl 0 (by decide) (hts (.fieldLink RX9 10 "GradientDesk" "arithmetic" "LGradientDesk$Arithmetic;") (List.mem_of_getElem? (i := 9) rfl)) (fun _ h9 => h9) rfl dX9_reckon_92 ?_
            refine lv_aload_n hx hb dX9_reckon_95 rfl (lv_at hl 0 rfl) ?_
            refine m_get (D := (dC, dI)) (v := .ref (ad 2103)) (C := RX9) (T := TX9) (N := 12) hx hb hts bk2 hown hK hP 2076 (by decide) d0 rfl 6 (by decide) (hts (.fieldLink RX9 59 "GradientDesk" "results" "[LGradientDesk$Fraction;") (List.mem_of_getElem? (i := 6) rfl)) (fun _ h9 => h9) rfl dX9_reckon_96 ?_
            refine lv_iload_n hx hb dX9_reckon_99 rfl (lv_at hl 3 rfl) ?_
            refine m_aald hx hb hK hP 2103 (by decide) rfl dc.1 (i := r1) (v := ad (2109 + r1)) (by omega) (by decide) rfl dX9_reckon_100 ?_
            refine lv_aload_n hx hb dX9_reckon_101 rfl (lv_at hl 0 rfl) ?_
            refine m_get (D := (dC, dI)) (v := .ref (ad 2103)) (C := RX9) (T := TX9) (N := 12) hx hb hts bk2 hown hK hP 2076 (by decide) d0 rfl 6 (by decide) (hts (.fieldLink RX9 59 "GradientDesk" "results" "[LGradientDesk$Fraction;") (List.mem_of_getElem? (i := 6) rfl)) (fun _ h9 => h9) rfl dX9_reckon_102 ?_
            refine lv_iload hx hb dX9_reckon_105 (lv_at hl 4 rfl) ?_
            refine m_aald hx hb hK hP 2103 (by decide) rfl dc.1 (i := r2) (v := ad (2109 + r2)) (by omega) (by decide) rfl dX9_reckon_107 ?_
            refine lv_iload_n hx hb dX9_reckon_108 rfl (lv_at hl 1 rfl) ?_
            refine lv_iconst (v := nI 1) hx hb dX9_reckon_109 (by decide +kernel) ?_
            refine lv_icmp_ne (tgt := 117) hx hb dX9_reckon_110 (by decide) (fun c_19 => ?_) (fun c_19 => ?_)
            · have c_19 := mt Int32.toInt_inj.mp c_19
              rw [show (nI 1).toInt = 1 from by decide] at c_19
              refine lv_iconst (v := nI 0) hx hb dX9_reckon_117 (by decide +kernel) ?_
              refine lv_aload_n hx hb dX9_reckon_118 rfl (lv_at hl 0 rfl) ?_
              refine m_get (D := (dC, dI)) (v := .ref (ad 2108)) (C := RX9) (T := TX9) (N := 12) hx hb hts bk2 hown hK hP 2076 (by decide) d0 rfl 7 (by decide) (hts (.fieldLink RX9 66 "GradientDesk" "spare" "LGradientDesk$Fraction;") (List.mem_of_getElem? (i := 10) rfl)) (fun _ h9 => h9) rfl dX9_reckon_119 ?_
              refine va_callv (va_runV (As := [.ref (ad (2109 + r1)), .ref (ad (2109 + r2)), .int (nI 0), .ref (ad 2108)]) (rest := []) ⟨hx, hb, hml, hown, hts⟩ (c_X0_add l dC dI A ad cA g (2109 + r1) (13 + 2 * r1) (14 + 2 * r1) (2109 + r2) (13 + 2 * r2) (14 + 2 * r2) 2108 7 8 (nI 0) hWo hAro hr_9 (⟨fr_r (by omega), by omega⟩) (by omega) hr_14 (⟨fr_r (by omega), by omega⟩) (by omega) dc.2.1 (⟨by decide, by decide⟩) (by omega) (by omega)) (cwV 4 hts (goodIn_app (goodIn_r [Cond.methodLink RX9 211 yX0_add, Cond.instanceMethod yX0_add, Cond.selects RX0 yX0_add yX0_add, Cond.initialized RX0] [11, 12, 13, 14] rfl rfl) (goodIn_sub (fun w9 h9 => bk4 w9 h9) gw_X0_add)) rfl rfl rfl (by decide +kernel) ⟨Nat.le_of_ble_eq_true rfl, Nat.le_of_ble_eq_true rfl⟩) ⟨fun a U g mk q => ⟨q.1, q.2.1, q.2.2.1, LY.moved (u := U) (U := U.calling g mk a) (Vm.Alike.refl U.vm) q.2.2.2⟩, va_recv hK hP (ci := 3) (q0 := 2077) rfl (wo_at (by decide) hAro), fun U hU hW => ⟨rfl, by rw [hU]; exact fun q h => hA q (Nat.le_trans hS.1 h), by rw [hU]; exact hP, LY.moved hW.alike hL⟩⟩ rfl rfl hl.1 rfl (lv_room (Nat.le_of_ble_eq_true rfl)) dX9_reckon_122 ⟨(Nat.le_of_ble_eq_true rfl), (Nat.le_of_ble_eq_true rfl)⟩) hS (fun q _ h => h) (fun q h => h) (fun u8 t8 H1 locs ht8 hvm8 hw_21 hB hz1 hk1 hS => ?_)
              obtain ⟨g_22, rfl⟩ : ∃ z, z = u8 := ⟨_, rfl⟩
              try dsimp only at hw_21 hB
              rw [ht8] at hB
              have hP := hB
              generalize H1 = H at hP hS ⊢
              obtain ⟨fr_23, hAW_20⟩ := hw_21
              refine lv_aload_n hx hb dX9_reckon_125 rfl (lv_at hl 0 rfl) ?_
              have f_24 : g_22 2076 = .inr (12, [.ref (ad 2077), .ref (ad 2078), .ref (ad 2080), .ref (ad 2084), .ref (ad 2090), .ref (ad 2097), .ref (ad 2103), .ref (ad 2108), .ref (ad 2104), .ref (ad 2105), .ref (ad 2106), .int wp]) := (fr_23 2076 (by omega)).trans d0
              refine m_get (D := (dC, dI)) (v := .ref (ad 2077)) (C := RX9) (T := TX9) (N := 12) hx hb hts bk2 hown hK hP 2076 (by decide) f_24 rfl 0 (by decide) (hts (.fieldLink RX9 10 "GradientDesk" "arithmetic" "LGradientDesk$Arithmetic;") (List.mem_of_getElem? (i := 9) rfl)) (fun _ h9 => h9) rfl dX9_reckon_126 ?_
              refine lv_aload_n hx hb dX9_reckon_129 rfl (lv_at hl 0 rfl) ?_
              refine m_get (D := (dC, dI)) (v := .ref (ad 2108)) (C := RX9) (T := TX9) (N := 12) hx hb hts bk2 hown hK hP 2076 (by decide) f_24 rfl 7 (by decide) (hts (.fieldLink RX9 66 "GradientDesk" "spare" "LGradientDesk$Fraction;") (List.mem_of_getElem? (i := 10) rfl)) (fun _ h9 => h9) rfl dX9_reckon_130 ?_
              have f_26 : g_22 2077 = .inr (3, [.ref (ad (2 * 0)), .ref (ad (2 * 1)), .ref (ad (2 * 2)), .ref (ad (2 * 3))]) := (fr_23 2077 (by omega)).trans hAro
              have f_27 : g_22 2108 = .inr (5, [.ref (ad (2 * 7)), .ref (ad (2 * 8))]) := (fr_23 2108 (by omega)).trans dc.2.1
              refine va_callv (va_runV (As := [.ref (ad 2108)]) (rest := []) ⟨hx, hb, hml, hown, hts⟩ (c_X0_reduce l dC dI A ad cA g_22 2108 7 8 hAW_20 f_26 f_27 (⟨by decide, by decide⟩) (by omega)) (cwV 1 hts (goodIn_app (goodIn_r [Cond.methodLink RX9 215 yX0_reduce, Cond.instanceMethod yX0_reduce, Cond.selects RX0 yX0_reduce yX0_reduce, Cond.initialized RX0] [15, 16, 17, 14] rfl rfl) (goodIn_sub (fun w9 h9 => bk5 w9 h9) gw_X0_reduce)) rfl rfl rfl (by decide +kernel) ⟨Nat.le_of_ble_eq_true rfl, Nat.le_of_ble_eq_true rfl⟩) ⟨fun a U g mk q => ⟨q.1, q.2.1, q.2.2.1, LY.moved (u := U) (U := U.calling g mk a) (Vm.Alike.refl U.vm) q.2.2.2⟩, va_recv hK hP (ci := 3) (q0 := 2077) rfl (wo_at (by decide) f_26), fun U hU hW => ⟨rfl, by rw [hU]; exact fun q h => hA q (Nat.le_trans hS.1 h), by rw [hU]; exact hP, LY.moved hW.alike hL⟩⟩ rfl rfl hl.1 rfl (lv_room (Nat.le_of_ble_eq_true rfl)) dX9_reckon_133 ⟨(Nat.le_of_ble_eq_true rfl), (Nat.le_of_ble_eq_true rfl)⟩) hS (fun q _ h => h) (fun q h => h) (fun u8 t8 H1 locs ht8 hvm8 hw_28 hB hz1 hk1 hS => ?_)
              obtain ⟨g_29, rfl⟩ : ∃ z, z = u8 := ⟨_, rfl⟩
              try dsimp only at hw_28 hB
              rw [ht8] at hB
              have hP := hB
              generalize H1 = H at hP hS ⊢
              obtain ⟨fr_30, hAW_25⟩ := hw_28
              refine lv_aload_n hx hb dX9_reckon_136 rfl (lv_at hl 0 rfl) ?_
              have f_31 : g_29 2076 = .inr (12, [.ref (ad 2077), .ref (ad 2078), .ref (ad 2080), .ref (ad 2084), .ref (ad 2090), .ref (ad 2097), .ref (ad 2103), .ref (ad 2108), .ref (ad 2104), .ref (ad 2105), .ref (ad 2106), .int wp]) := (fr_30 2076 (by omega)).trans f_24
              refine m_get (D := (dC, dI)) (v := .ref (ad 2103)) (C := RX9) (T := TX9) (N := 12) hx hb hts bk2 hown hK hP 2076 (by decide) f_31 rfl 6 (by decide) (hts (.fieldLink RX9 59 "GradientDesk" "results" "[LGradientDesk$Fraction;") (List.mem_of_getElem? (i := 6) rfl)) (fun _ h9 => h9) rfl dX9_reckon_137 ?_
              refine lv_iload_n hx hb dX9_reckon_140 rfl (lv_at hl 2 rfl) ?_
              have f_32 : g_29 2103 = .inl (cA 2103, 8, .inr (.inr (.inr (.inr (fun j => some (ad (2109 + j))))))) := (fr_30 2103 (by omega)).trans ((fr_23 2103 (by omega)).trans dc.1)
              refine m_aald hx hb hK hP 2103 (by decide) rfl f_32 (i := r0) (v := ad (2109 + r0)) (by omega) (by decide) rfl dX9_reckon_141 ?_
              refine lv_aload_n hx hb dX9_reckon_142 rfl (lv_at hl 0 rfl) ?_
              refine m_get (D := (dC, dI)) (v := .ref (ad 2108)) (C := RX9) (T := TX9) (N := 12) hx hb hts bk2 hown hK hP 2076 (by decide) f_31 rfl 7 (by decide) (hts (.fieldLink RX9 66 "GradientDesk" "spare" "LGradientDesk$Fraction;") (List.mem_of_getElem? (i := 10) rfl)) (fun _ h9 => h9) rfl dX9_reckon_143 ?_
              have hr_34 := dc.2.2 r0 (by omega)
              have f_35 : g_29 (2109 + r0) = .inr (5, [.ref (ad (2 * (13 + 2 * r0))), .ref (ad (2 * (14 + 2 * r0)))]) := (fr_30 (2109 + r0) (by omega)).trans ((fr_23 (2109 + r0) (by omega)).trans hr_34)
              have f_36 : g_29 2108 = .inr (5, [.ref (ad (2 * 7)), .ref (ad (2 * 8))]) := (fr_30 2108 (by omega)).trans f_27
              refine va_callv (va_runV (As := [.ref (ad 2108)]) (rest := []) ⟨hx, hb, hml, hown, hts⟩ (c_X2_become l dC dI A ad cA g_29 (2109 + r0) (13 + 2 * r0) (14 + 2 * r0) 2108 7 8 hAW_25 f_35 (⟨fr_r (by omega), by omega⟩) (by omega) f_36 (⟨by decide, by decide⟩) (by omega) (by omega)) (cwV 1 hts (goodIn_app (goodIn_r [Cond.methodLink RX9 181 yX2_become, Cond.instanceMethod yX2_become, Cond.selects RX2 yX2_become yX2_become, Cond.initialized RX2] [18, 19, 20, 21] rfl rfl) (goodIn_sub (fun w9 h9 => bk6 w9 h9) gw_X2_become)) rfl rfl rfl (by decide +kernel) ⟨Nat.le_of_ble_eq_true rfl, Nat.le_of_ble_eq_true rfl⟩) ⟨fun a U g mk q => ⟨q.1, q.2.1, q.2.2.1, LY.moved (u := U) (U := U.calling g mk a) (Vm.Alike.refl U.vm) q.2.2.2⟩, va_recv hK hP (ci := 5) (q0 := (2109 + r0)) rfl (wo_at (fr_r (by omega)) f_35), fun U hU hW => ⟨rfl, by rw [hU]; exact fun q h => hA q (Nat.le_trans hS.1 h), by rw [hU]; exact hP, LY.moved hW.alike hL⟩⟩ rfl rfl hl.1 rfl (lv_room (Nat.le_of_ble_eq_true rfl)) dX9_reckon_146 ⟨(Nat.le_of_ble_eq_true rfl), (Nat.le_of_ble_eq_true rfl)⟩) hS (fun q _ h => h) (fun q h => h) (fun u8 t8 H1 locs ht8 hvm8 hw_37 hB hz1 hk1 hS => ?_)
              obtain ⟨g_38, rfl⟩ : ∃ z, z = u8 := ⟨_, rfl⟩
              try dsimp only at hw_37 hB
              rw [ht8] at hB
              have hP := hB
              generalize H1 = H at hP hS ⊢
              obtain ⟨fr_39, hAW_33⟩ := hw_37
              refine lv_iconst (v := nI 1) hx hb dX9_reckon_149 (by decide +kernel) ?_
              have f_40 : g_38 2076 = .inr (12, [.ref (ad 2077), .ref (ad 2078), .ref (ad 2080), .ref (ad 2084), .ref (ad 2090), .ref (ad 2097), .ref (ad 2103), .ref (ad 2108), .ref (ad 2104), .ref (ad 2105), .ref (ad 2106), .int wp]) := (fr_39 2076 (by omega)).trans f_31
              have hC_41 : CS ad cA g_38 L := CS.same hC hAW_33 (fun (k : Nat) (hk : (76 ≤ k ∧ k < 876) ∨ k = 2077 ∨ k = 2107 ∨ k = 2080 ∨ k = 2081 ∨ (2117 ≤ k ∧ k < 2517)) => (fr_39 k (by omega)).trans ((fr_30 k (by omega)).trans ((fr_23 k (by omega)).trans (rfl))))
              refine vx_ret ?_
              refine W.widen (k := 10) (n := 60) (by omega) (by omega) ?_
              exact W.zret (v := nI 1) hx hb hr (by decide +kernel) (fun t9 ht9 hW9 => ⟨⟨nI 1, g_38, rfl, ⟨f_40, hC_41, hWf, (d3.same (fun (k : Nat) (hk : k = 2078 ∨ k = 2079) => (fr_39 k (by omega)).trans ((fr_30 k (by omega)).trans ((fr_23 k (by omega)).trans (rfl))))), (d4.same (fun (k : Nat) (hk : 2084 ≤ k ∧ k ≤ 2088) => (fr_39 k (by omega)).trans ((fr_30 k (by omega)).trans ((fr_23 k (by omega)).trans (rfl))))), (d5.same (fun (k : Nat) (hk : k = 2089) => (fr_39 k (by omega)).trans ((fr_30 k (by omega)).trans ((fr_23 k (by omega)).trans (rfl))))), (d6.same (fun (k : Nat) (hk : 2090 ≤ k ∧ k ≤ 2096) => (fr_39 k (by omega)).trans ((fr_30 k (by omega)).trans ((fr_23 k (by omega)).trans (rfl))))), (d7.same (fun (k : Nat) (hk : k = 2082) => (fr_39 k (by omega)).trans ((fr_30 k (by omega)).trans ((fr_23 k (by omega)).trans (rfl))))), (d8.same (fun (k : Nat) (hk : 2097 ≤ k ∧ k ≤ 2102) => (fr_39 k (by omega)).trans ((fr_30 k (by omega)).trans ((fr_23 k (by omega)).trans (rfl))))), (d9.same (fun (k : Nat) (hk : k = 2083) => (fr_39 k (by omega)).trans ((fr_30 k (by omega)).trans ((fr_23 k (by omega)).trans (rfl))))), (da.same (fun (k : Nat) (hk : k = 2104) => (fr_39 k (by omega)).trans ((fr_30 k (by omega)).trans ((fr_23 k (by omega)).trans (rfl))))), (db.same (fun (k : Nat) (hk : k = 2105 ∨ k = 2106) => (fr_39 k (by omega)).trans ((fr_30 k (by omega)).trans ((fr_23 k (by omega)).trans (rfl))))), (dc.same (fun (k : Nat) (hk : k = 2103 ∨ (2108 ≤ k ∧ k < 2117)) => (fr_39 k (by omega)).trans ((fr_30 k (by omega)).trans ((fr_23 k (by omega)).trans (rfl)))))⟩, by show va_P (dC, dI) vwCl _ t9.heap; rw [ht9]; exact hP⟩, hS.F ht9⟩) hS.2.2 dX9_reckon_150
            · have c_19 := congrArg Int32.toInt c_19
              rw [show (nI 1).toInt = 1 from by decide] at c_19
              refine lv_iconst (v := nI 1) hx hb dX9_reckon_113 (by decide +kernel) ?_
              refine lv_goto (tgt := 118) hx hb dX9_reckon_114 (by decide) ?_
              refine lv_aload_n hx hb dX9_reckon_118 rfl (lv_at hl 0 rfl) ?_
              refine m_get (D := (dC, dI)) (v := .ref (ad 2108)) (C := RX9) (T := TX9) (N := 12) hx hb hts bk2 hown hK hP 2076 (by decide) d0 rfl 7 (by decide) (hts (.fieldLink RX9 66 "GradientDesk" "spare" "LGradientDesk$Fraction;") (List.mem_of_getElem? (i := 10) rfl)) (fun _ h9 => h9) rfl dX9_reckon_119 ?_
              refine va_callv (va_runV (As := [.ref (ad (2109 + r1)), .ref (ad (2109 + r2)), .int (nI 1), .ref (ad 2108)]) (rest := []) ⟨hx, hb, hml, hown, hts⟩ (c_X0_add l dC dI A ad cA g (2109 + r1) (13 + 2 * r1) (14 + 2 * r1) (2109 + r2) (13 + 2 * r2) (14 + 2 * r2) 2108 7 8 (nI 1) hWo hAro hr_9 (⟨fr_r (by omega), by omega⟩) (by omega) hr_14 (⟨fr_r (by omega), by omega⟩) (by omega) dc.2.1 (⟨by decide, by decide⟩) (by omega) (by omega)) (cwV 4 hts (goodIn_app (goodIn_r [Cond.methodLink RX9 211 yX0_add, Cond.instanceMethod yX0_add, Cond.selects RX0 yX0_add yX0_add, Cond.initialized RX0] [11, 12, 13, 14] rfl rfl) (goodIn_sub (fun w9 h9 => bk4 w9 h9) gw_X0_add)) rfl rfl rfl (by decide +kernel) ⟨Nat.le_of_ble_eq_true rfl, Nat.le_of_ble_eq_true rfl⟩) ⟨fun a U g mk q => ⟨q.1, q.2.1, q.2.2.1, LY.moved (u := U) (U := U.calling g mk a) (Vm.Alike.refl U.vm) q.2.2.2⟩, va_recv hK hP (ci := 3) (q0 := 2077) rfl (wo_at (by decide) hAro), fun U hU hW => ⟨rfl, by rw [hU]; exact fun q h => hA q (Nat.le_trans hS.1 h), by rw [hU]; exact hP, LY.moved hW.alike hL⟩⟩ rfl rfl hl.1 rfl (lv_room (Nat.le_of_ble_eq_true rfl)) dX9_reckon_122 ⟨(Nat.le_of_ble_eq_true rfl), (Nat.le_of_ble_eq_true rfl)⟩) hS (fun q _ h => h) (fun q h => h) (fun u8 t8 H1 locs ht8 hvm8 hw_43 hB hz1 hk1 hS => ?_)
              obtain ⟨g_44, rfl⟩ : ∃ z, z = u8 := ⟨_, rfl⟩
              try dsimp only at hw_43 hB
              rw [ht8] at hB
              have hP := hB
              generalize H1 = H at hP hS ⊢
              obtain ⟨fr_45, hAW_42⟩ := hw_43
              refine lv_aload_n hx hb dX9_reckon_125 rfl (lv_at hl 0 rfl) ?_
              have f_46 : g_44 2076 = .inr (12, [.ref (ad 2077), .ref (ad 2078), .ref (ad 2080), .ref (ad 2084), .ref (ad 2090), .ref (ad 2097), .ref (ad 2103), .ref (ad 2108), .ref (ad 2104), .ref (ad 2105), .ref (ad 2106), .int wp]) := (fr_45 2076 (by omega)).trans d0
              refine m_get (D := (dC, dI)) (v := .ref (ad 2077)) (C := RX9) (T := TX9) (N := 12) hx hb hts bk2 hown hK hP 2076 (by decide) f_46 rfl 0 (by decide) (hts (.fieldLink RX9 10 "GradientDesk" "arithmetic" "LGradientDesk$Arithmetic;") (List.mem_of_getElem? (i := 9) rfl)) (fun _ h9 => h9) rfl dX9_reckon_126 ?_
              refine lv_aload_n hx hb dX9_reckon_129 rfl (lv_at hl 0 rfl) ?_
              refine m_get (D := (dC, dI)) (v := .ref (ad 2108)) (C := RX9) (T := TX9) (N := 12) hx hb hts bk2 hown hK hP 2076 (by decide) f_46 rfl 7 (by decide) (hts (.fieldLink RX9 66 "GradientDesk" "spare" "LGradientDesk$Fraction;") (List.mem_of_getElem? (i := 10) rfl)) (fun _ h9 => h9) rfl dX9_reckon_130 ?_
              have f_48 : g_44 2077 = .inr (3, [.ref (ad (2 * 0)), .ref (ad (2 * 1)), .ref (ad (2 * 2)), .ref (ad (2 * 3))]) := (fr_45 2077 (by omega)).trans hAro
              have f_49 : g_44 2108 = .inr (5, [.ref (ad (2 * 7)), .ref (ad (2 * 8))]) := (fr_45 2108 (by omega)).trans dc.2.1
              refine va_callv (va_runV (As := [.ref (ad 2108)]) (rest := []) ⟨hx, hb, hml, hown, hts⟩ (c_X0_reduce l dC dI A ad cA g_44 2108 7 8 hAW_42 f_48 f_49 (⟨by decide, by decide⟩) (by omega)) (cwV 1 hts (goodIn_app (goodIn_r [Cond.methodLink RX9 215 yX0_reduce, Cond.instanceMethod yX0_reduce, Cond.selects RX0 yX0_reduce yX0_reduce, Cond.initialized RX0] [15, 16, 17, 14] rfl rfl) (goodIn_sub (fun w9 h9 => bk5 w9 h9) gw_X0_reduce)) rfl rfl rfl (by decide +kernel) ⟨Nat.le_of_ble_eq_true rfl, Nat.le_of_ble_eq_true rfl⟩) ⟨fun a U g mk q => ⟨q.1, q.2.1, q.2.2.1, LY.moved (u := U) (U := U.calling g mk a) (Vm.Alike.refl U.vm) q.2.2.2⟩, va_recv hK hP (ci := 3) (q0 := 2077) rfl (wo_at (by decide) f_48), fun U hU hW => ⟨rfl, by rw [hU]; exact fun q h => hA q (Nat.le_trans hS.1 h), by rw [hU]; exact hP, LY.moved hW.alike hL⟩⟩ rfl rfl hl.1 rfl (lv_room (Nat.le_of_ble_eq_true rfl)) dX9_reckon_133 ⟨(Nat.le_of_ble_eq_true rfl), (Nat.le_of_ble_eq_true rfl)⟩) hS (fun q _ h => h) (fun q h => h) (fun u8 t8 H1 locs ht8 hvm8 hw_50 hB hz1 hk1 hS => ?_)
              obtain ⟨g_51, rfl⟩ : ∃ z, z = u8 := ⟨_, rfl⟩
              try dsimp only at hw_50 hB
              rw [ht8] at hB
              have hP := hB
              generalize H1 = H at hP hS ⊢
              obtain ⟨fr_52, hAW_47⟩ := hw_50
              refine lv_aload_n hx hb dX9_reckon_136 rfl (lv_at hl 0 rfl) ?_
              have f_53 : g_51 2076 = .inr (12, [.ref (ad 2077), .ref (ad 2078), .ref (ad 2080), .ref (ad 2084), .ref (ad 2090), .ref (ad 2097), .ref (ad 2103), .ref (ad 2108), .ref (ad 2104), .ref (ad 2105), .ref (ad 2106), .int wp]) := (fr_52 2076 (by omega)).trans f_46
              refine m_get (D := (dC, dI)) (v := .ref (ad 2103)) (C := RX9) (T := TX9) (N := 12) hx hb hts bk2 hown hK hP 2076 (by decide) f_53 rfl 6 (by decide) (hts (.fieldLink RX9 59 "GradientDesk" "results" "[LGradientDesk$Fraction;") (List.mem_of_getElem? (i := 6) rfl)) (fun _ h9 => h9) rfl dX9_reckon_137 ?_
              refine lv_iload_n hx hb dX9_reckon_140 rfl (lv_at hl 2 rfl) ?_
              have f_54 : g_51 2103 = .inl (cA 2103, 8, .inr (.inr (.inr (.inr (fun j => some (ad (2109 + j))))))) := (fr_52 2103 (by omega)).trans ((fr_45 2103 (by omega)).trans dc.1)
              refine m_aald hx hb hK hP 2103 (by decide) rfl f_54 (i := r0) (v := ad (2109 + r0)) (by omega) (by decide) rfl dX9_reckon_141 ?_
              refine lv_aload_n hx hb dX9_reckon_142 rfl (lv_at hl 0 rfl) ?_
              refine m_get (D := (dC, dI)) (v := .ref (ad 2108)) (C := RX9) (T := TX9) (N := 12) hx hb hts bk2 hown hK hP 2076 (by decide) f_53 rfl 7 (by decide) (hts (.fieldLink RX9 66 "GradientDesk" "spare" "LGradientDesk$Fraction;") (List.mem_of_getElem? (i := 10) rfl)) (fun _ h9 => h9) rfl dX9_reckon_143 ?_
              have hr_56 := dc.2.2 r0 (by omega)
              have f_57 : g_51 (2109 + r0) = .inr (5, [.ref (ad (2 * (13 + 2 * r0))), .ref (ad (2 * (14 + 2 * r0)))]) := (fr_52 (2109 + r0) (by omega)).trans ((fr_45 (2109 + r0) (by omega)).trans hr_56)
              have f_58 : g_51 2108 = .inr (5, [.ref (ad (2 * 7)), .ref (ad (2 * 8))]) := (fr_52 2108 (by omega)).trans f_49
              refine va_callv (va_runV (As := [.ref (ad 2108)]) (rest := []) ⟨hx, hb, hml, hown, hts⟩ (c_X2_become l dC dI A ad cA g_51 (2109 + r0) (13 + 2 * r0) (14 + 2 * r0) 2108 7 8 hAW_47 f_57 (⟨fr_r (by omega), by omega⟩) (by omega) f_58 (⟨by decide, by decide⟩) (by omega) (by omega)) (cwV 1 hts (goodIn_app (goodIn_r [Cond.methodLink RX9 181 yX2_become, Cond.instanceMethod yX2_become, Cond.selects RX2 yX2_become yX2_become, Cond.initialized RX2] [18, 19, 20, 21] rfl rfl) (goodIn_sub (fun w9 h9 => bk6 w9 h9) gw_X2_become)) rfl rfl rfl (by decide +kernel) ⟨Nat.le_of_ble_eq_true rfl, Nat.le_of_ble_eq_true rfl⟩) ⟨fun a U g mk q => ⟨q.1, q.2.1, q.2.2.1, LY.moved (u := U) (U := U.calling g mk a) (Vm.Alike.refl U.vm) q.2.2.2⟩, va_recv hK hP (ci := 5) (q0 := (2109 + r0)) rfl (wo_at (fr_r (by omega)) f_57), fun U hU hW => ⟨rfl, by rw [hU]; exact fun q h => hA q (Nat.le_trans hS.1 h), by rw [hU]; exact hP, LY.moved hW.alike hL⟩⟩ rfl rfl hl.1 rfl (lv_room (Nat.le_of_ble_eq_true rfl)) dX9_reckon_146 ⟨(Nat.le_of_ble_eq_true rfl), (Nat.le_of_ble_eq_true rfl)⟩) hS (fun q _ h => h) (fun q h => h) (fun u8 t8 H1 locs ht8 hvm8 hw_59 hB hz1 hk1 hS => ?_)
              obtain ⟨g_60, rfl⟩ : ∃ z, z = u8 := ⟨_, rfl⟩
              try dsimp only at hw_59 hB
              rw [ht8] at hB
              have hP := hB
              generalize H1 = H at hP hS ⊢
              obtain ⟨fr_61, hAW_55⟩ := hw_59
              refine lv_iconst (v := nI 1) hx hb dX9_reckon_149 (by decide +kernel) ?_
              have f_62 : g_60 2076 = .inr (12, [.ref (ad 2077), .ref (ad 2078), .ref (ad 2080), .ref (ad 2084), .ref (ad 2090), .ref (ad 2097), .ref (ad 2103), .ref (ad 2108), .ref (ad 2104), .ref (ad 2105), .ref (ad 2106), .int wp]) := (fr_61 2076 (by omega)).trans f_53
              have hC_63 : CS ad cA g_60 L := CS.same hC hAW_55 (fun (k : Nat) (hk : (76 ≤ k ∧ k < 876) ∨ k = 2077 ∨ k = 2107 ∨ k = 2080 ∨ k = 2081 ∨ (2117 ≤ k ∧ k < 2517)) => (fr_61 k (by omega)).trans ((fr_52 k (by omega)).trans ((fr_45 k (by omega)).trans (rfl))))
              refine vx_ret ?_
              refine W.widen (k := 10) (n := 60) (by omega) (by omega) ?_
              exact W.zret (v := nI 1) hx hb hr (by decide +kernel) (fun t9 ht9 hW9 => ⟨⟨nI 1, g_60, rfl, ⟨f_62, hC_63, hWf, (d3.same (fun (k : Nat) (hk : k = 2078 ∨ k = 2079) => (fr_61 k (by omega)).trans ((fr_52 k (by omega)).trans ((fr_45 k (by omega)).trans (rfl))))), (d4.same (fun (k : Nat) (hk : 2084 ≤ k ∧ k ≤ 2088) => (fr_61 k (by omega)).trans ((fr_52 k (by omega)).trans ((fr_45 k (by omega)).trans (rfl))))), (d5.same (fun (k : Nat) (hk : k = 2089) => (fr_61 k (by omega)).trans ((fr_52 k (by omega)).trans ((fr_45 k (by omega)).trans (rfl))))), (d6.same (fun (k : Nat) (hk : 2090 ≤ k ∧ k ≤ 2096) => (fr_61 k (by omega)).trans ((fr_52 k (by omega)).trans ((fr_45 k (by omega)).trans (rfl))))), (d7.same (fun (k : Nat) (hk : k = 2082) => (fr_61 k (by omega)).trans ((fr_52 k (by omega)).trans ((fr_45 k (by omega)).trans (rfl))))), (d8.same (fun (k : Nat) (hk : 2097 ≤ k ∧ k ≤ 2102) => (fr_61 k (by omega)).trans ((fr_52 k (by omega)).trans ((fr_45 k (by omega)).trans (rfl))))), (d9.same (fun (k : Nat) (hk : k = 2083) => (fr_61 k (by omega)).trans ((fr_52 k (by omega)).trans ((fr_45 k (by omega)).trans (rfl))))), (da.same (fun (k : Nat) (hk : k = 2104) => (fr_61 k (by omega)).trans ((fr_52 k (by omega)).trans ((fr_45 k (by omega)).trans (rfl))))), (db.same (fun (k : Nat) (hk : k = 2105 ∨ k = 2106) => (fr_61 k (by omega)).trans ((fr_52 k (by omega)).trans ((fr_45 k (by omega)).trans (rfl))))), (dc.same (fun (k : Nat) (hk : k = 2103 ∨ (2108 ≤ k ∧ k < 2117)) => (fr_61 k (by omega)).trans ((fr_52 k (by omega)).trans ((fr_45 k (by omega)).trans (rfl)))))⟩, by show va_P (dC, dI) vwCl _ t9.heap; rw [ht9]; exact hP⟩, hS.F ht9⟩) hS.2.2 dX9_reckon_150
          · have c_18 := congrArg Int32.toInt c_18
            rw [show (nI 2).toInt = 2 from by decide] at c_18
            refine lv_aload_n hx hb dX9_reckon_64 rfl (lv_at hl 0 rfl) ?_
            refine m_get (D := (dC, dI)) (v := .ref (ad 2077)) (C := RX9) (T := TX9) (N := 12) hx hb hts bk2 hown hK hP 2076 (by decide) d0 rfl 0 (by decide) (hts (.fieldLink RX9 10 "GradientDesk" "arithmetic" "LGradientDesk$Arithmetic;") (List.mem_of_getElem? (i := 9) rfl)) (fun _ h9 => h9) rfl dX9_reckon_65 ?_
            refine lv_aload_n hx hb dX9_reckon_68 rfl (lv_at hl 0 rfl) ?_
            refine m_get (D := (dC, dI)) (v := .ref (ad 2103)) (C := RX9) (T := TX9) (N := 12) hx hb hts bk2 hown hK hP 2076 (by decide) d0 rfl 6 (by decide) (hts (.fieldLink RX9 59 "GradientDesk" "results" "[LGradientDesk$Fraction;") (List.mem_of_getElem? (i := 6) rfl)) (fun _ h9 => h9) rfl dX9_reckon_69 ?_
            refine lv_iload_n hx hb dX9_reckon_72 rfl (lv_at hl 3 rfl) ?_
            refine m_aald hx hb hK hP 2103 (by decide) rfl dc.1 (i := r1) (v := ad (2109 + r1)) (by omega) (by decide) rfl dX9_reckon_73 ?_
            refine lv_aload_n hx hb dX9_reckon_74 rfl (lv_at hl 0 rfl) ?_
            refine m_get (D := (dC, dI)) (v := .ref (ad 2103)) (C := RX9) (T := TX9) (N := 12) hx hb hts bk2 hown hK hP 2076 (by decide) d0 rfl 6 (by decide) (hts (.fieldLink RX9 59 "GradientDesk" "results" "[LGradientDesk$Fraction;") (List.mem_of_getElem? (i := 6) rfl)) (fun _ h9 => h9) rfl dX9_reckon_75 ?_
            refine lv_iload hx hb dX9_reckon_78 (lv_at hl 4 rfl) ?_
            refine m_aald hx hb hK hP 2103 (by decide) rfl dc.1 (i := r2) (v := ad (2109 + r2)) (by omega) (by decide) rfl dX9_reckon_80 ?_
            refine lv_aload_n hx hb dX9_reckon_81 rfl (lv_at hl 0 rfl) ?_
            refine m_get (D := (dC, dI)) (v := .ref (ad 2108)) (C := RX9) (T := TX9) (N := 12) hx hb hts bk2 hown hK hP 2076 (by decide) d0 rfl 7 (by decide) (hts (.fieldLink RX9 66 "GradientDesk" "spare" "LGradientDesk$Fraction;") (List.mem_of_getElem? (i := 10) rfl)) (fun _ h9 => h9) rfl dX9_reckon_82 ?_
            refine va_callv (va_runV (As := [.ref (ad (2109 + r1)), .ref (ad (2109 + r2)), .ref (ad 2108)]) (rest := []) ⟨hx, hb, hml, hown, hts⟩ (c_X0_multiply l dC dI A ad cA g (2109 + r1) (13 + 2 * r1) (14 + 2 * r1) (2109 + r2) (13 + 2 * r2) (14 + 2 * r2) 2108 7 8 hWo hAro hr_9 (⟨fr_r (by omega), by omega⟩) (by omega) hr_14 (⟨fr_r (by omega), by omega⟩) (by omega) dc.2.1 (⟨by decide, by decide⟩) (by omega) (by omega)) (cwV 3 hts (goodIn_app (goodIn_r [Cond.methodLink RX9 207 yX0_multiply, Cond.instanceMethod yX0_multiply, Cond.selects RX0 yX0_multiply yX0_multiply, Cond.initialized RX0] [22, 23, 24, 14] rfl rfl) (goodIn_sub (fun w9 h9 => bk7 w9 h9) gw_X0_multiply)) rfl rfl rfl (by decide +kernel) ⟨Nat.le_of_ble_eq_true rfl, Nat.le_of_ble_eq_true rfl⟩) ⟨fun a U g mk q => ⟨q.1, q.2.1, q.2.2.1, LY.moved (u := U) (U := U.calling g mk a) (Vm.Alike.refl U.vm) q.2.2.2⟩, va_recv hK hP (ci := 3) (q0 := 2077) rfl (wo_at (by decide) hAro), fun U hU hW => ⟨rfl, by rw [hU]; exact fun q h => hA q (Nat.le_trans hS.1 h), by rw [hU]; exact hP, LY.moved hW.alike hL⟩⟩ rfl rfl hl.1 rfl (lv_room (Nat.le_of_ble_eq_true rfl)) dX9_reckon_85 ⟨(Nat.le_of_ble_eq_true rfl), (Nat.le_of_ble_eq_true rfl)⟩) hS (fun q _ h => h) (fun q h => h) (fun u8 t8 H1 locs ht8 hvm8 hw_65 hB hz1 hk1 hS => ?_)
            obtain ⟨g_66, rfl⟩ : ∃ z, z = u8 := ⟨_, rfl⟩
            try dsimp only at hw_65 hB
            rw [ht8] at hB
            have hP := hB
            generalize H1 = H at hP hS ⊢
            obtain ⟨fr_67, hAW_64⟩ := hw_65
            refine lv_goto (tgt := 125) hx hb dX9_reckon_88 (by decide) ?_
            refine lv_aload_n hx hb dX9_reckon_125 rfl (lv_at hl 0 rfl) ?_
            have f_68 : g_66 2076 = .inr (12, [.ref (ad 2077), .ref (ad 2078), .ref (ad 2080), .ref (ad 2084), .ref (ad 2090), .ref (ad 2097), .ref (ad 2103), .ref (ad 2108), .ref (ad 2104), .ref (ad 2105), .ref (ad 2106), .int wp]) := (fr_67 2076 (by omega)).trans d0
            refine m_get (D := (dC, dI)) (v := .ref (ad 2077)) (C := RX9) (T := TX9) (N := 12) hx hb hts bk2 hown hK hP 2076 (by decide) f_68 rfl 0 (by decide) (hts (.fieldLink RX9 10 "GradientDesk" "arithmetic" "LGradientDesk$Arithmetic;") (List.mem_of_getElem? (i := 9) rfl)) (fun _ h9 => h9) rfl dX9_reckon_126 ?_
            refine lv_aload_n hx hb dX9_reckon_129 rfl (lv_at hl 0 rfl) ?_
            refine m_get (D := (dC, dI)) (v := .ref (ad 2108)) (C := RX9) (T := TX9) (N := 12) hx hb hts bk2 hown hK hP 2076 (by decide) f_68 rfl 7 (by decide) (hts (.fieldLink RX9 66 "GradientDesk" "spare" "LGradientDesk$Fraction;") (List.mem_of_getElem? (i := 10) rfl)) (fun _ h9 => h9) rfl dX9_reckon_130 ?_
            have f_70 : g_66 2077 = .inr (3, [.ref (ad (2 * 0)), .ref (ad (2 * 1)), .ref (ad (2 * 2)), .ref (ad (2 * 3))]) := (fr_67 2077 (by omega)).trans hAro
            have f_71 : g_66 2108 = .inr (5, [.ref (ad (2 * 7)), .ref (ad (2 * 8))]) := (fr_67 2108 (by omega)).trans dc.2.1
            refine va_callv (va_runV (As := [.ref (ad 2108)]) (rest := []) ⟨hx, hb, hml, hown, hts⟩ (c_X0_reduce l dC dI A ad cA g_66 2108 7 8 hAW_64 f_70 f_71 (⟨by decide, by decide⟩) (by omega)) (cwV 1 hts (goodIn_app (goodIn_r [Cond.methodLink RX9 215 yX0_reduce, Cond.instanceMethod yX0_reduce, Cond.selects RX0 yX0_reduce yX0_reduce, Cond.initialized RX0] [15, 16, 17, 14] rfl rfl) (goodIn_sub (fun w9 h9 => bk5 w9 h9) gw_X0_reduce)) rfl rfl rfl (by decide +kernel) ⟨Nat.le_of_ble_eq_true rfl, Nat.le_of_ble_eq_true rfl⟩) ⟨fun a U g mk q => ⟨q.1, q.2.1, q.2.2.1, LY.moved (u := U) (U := U.calling g mk a) (Vm.Alike.refl U.vm) q.2.2.2⟩, va_recv hK hP (ci := 3) (q0 := 2077) rfl (wo_at (by decide) f_70), fun U hU hW => ⟨rfl, by rw [hU]; exact fun q h => hA q (Nat.le_trans hS.1 h), by rw [hU]; exact hP, LY.moved hW.alike hL⟩⟩ rfl rfl hl.1 rfl (lv_room (Nat.le_of_ble_eq_true rfl)) dX9_reckon_133 ⟨(Nat.le_of_ble_eq_true rfl), (Nat.le_of_ble_eq_true rfl)⟩) hS (fun q _ h => h) (fun q h => h) (fun u8 t8 H1 locs ht8 hvm8 hw_72 hB hz1 hk1 hS => ?_)
            obtain ⟨g_73, rfl⟩ : ∃ z, z = u8 := ⟨_, rfl⟩
            try dsimp only at hw_72 hB
            rw [ht8] at hB
            have hP := hB
            generalize H1 = H at hP hS ⊢
            obtain ⟨fr_74, hAW_69⟩ := hw_72
            refine lv_aload_n hx hb dX9_reckon_136 rfl (lv_at hl 0 rfl) ?_
            have f_75 : g_73 2076 = .inr (12, [.ref (ad 2077), .ref (ad 2078), .ref (ad 2080), .ref (ad 2084), .ref (ad 2090), .ref (ad 2097), .ref (ad 2103), .ref (ad 2108), .ref (ad 2104), .ref (ad 2105), .ref (ad 2106), .int wp]) := (fr_74 2076 (by omega)).trans f_68
            refine m_get (D := (dC, dI)) (v := .ref (ad 2103)) (C := RX9) (T := TX9) (N := 12) hx hb hts bk2 hown hK hP 2076 (by decide) f_75 rfl 6 (by decide) (hts (.fieldLink RX9 59 "GradientDesk" "results" "[LGradientDesk$Fraction;") (List.mem_of_getElem? (i := 6) rfl)) (fun _ h9 => h9) rfl dX9_reckon_137 ?_
            refine lv_iload_n hx hb dX9_reckon_140 rfl (lv_at hl 2 rfl) ?_
            have f_76 : g_73 2103 = .inl (cA 2103, 8, .inr (.inr (.inr (.inr (fun j => some (ad (2109 + j))))))) := (fr_74 2103 (by omega)).trans ((fr_67 2103 (by omega)).trans dc.1)
            refine m_aald hx hb hK hP 2103 (by decide) rfl f_76 (i := r0) (v := ad (2109 + r0)) (by omega) (by decide) rfl dX9_reckon_141 ?_
            refine lv_aload_n hx hb dX9_reckon_142 rfl (lv_at hl 0 rfl) ?_
            refine m_get (D := (dC, dI)) (v := .ref (ad 2108)) (C := RX9) (T := TX9) (N := 12) hx hb hts bk2 hown hK hP 2076 (by decide) f_75 rfl 7 (by decide) (hts (.fieldLink RX9 66 "GradientDesk" "spare" "LGradientDesk$Fraction;") (List.mem_of_getElem? (i := 10) rfl)) (fun _ h9 => h9) rfl dX9_reckon_143 ?_
            have hr_78 := dc.2.2 r0 (by omega)
            have f_79 : g_73 (2109 + r0) = .inr (5, [.ref (ad (2 * (13 + 2 * r0))), .ref (ad (2 * (14 + 2 * r0)))]) := (fr_74 (2109 + r0) (by omega)).trans ((fr_67 (2109 + r0) (by omega)).trans hr_78)
            have f_80 : g_73 2108 = .inr (5, [.ref (ad (2 * 7)), .ref (ad (2 * 8))]) := (fr_74 2108 (by omega)).trans f_71
            refine va_callv (va_runV (As := [.ref (ad 2108)]) (rest := []) ⟨hx, hb, hml, hown, hts⟩ (c_X2_become l dC dI A ad cA g_73 (2109 + r0) (13 + 2 * r0) (14 + 2 * r0) 2108 7 8 hAW_69 f_79 (⟨fr_r (by omega), by omega⟩) (by omega) f_80 (⟨by decide, by decide⟩) (by omega) (by omega)) (cwV 1 hts (goodIn_app (goodIn_r [Cond.methodLink RX9 181 yX2_become, Cond.instanceMethod yX2_become, Cond.selects RX2 yX2_become yX2_become, Cond.initialized RX2] [18, 19, 20, 21] rfl rfl) (goodIn_sub (fun w9 h9 => bk6 w9 h9) gw_X2_become)) rfl rfl rfl (by decide +kernel) ⟨Nat.le_of_ble_eq_true rfl, Nat.le_of_ble_eq_true rfl⟩) ⟨fun a U g mk q => ⟨q.1, q.2.1, q.2.2.1, LY.moved (u := U) (U := U.calling g mk a) (Vm.Alike.refl U.vm) q.2.2.2⟩, va_recv hK hP (ci := 5) (q0 := (2109 + r0)) rfl (wo_at (fr_r (by omega)) f_79), fun U hU hW => ⟨rfl, by rw [hU]; exact fun q h => hA q (Nat.le_trans hS.1 h), by rw [hU]; exact hP, LY.moved hW.alike hL⟩⟩ rfl rfl hl.1 rfl (lv_room (Nat.le_of_ble_eq_true rfl)) dX9_reckon_146 ⟨(Nat.le_of_ble_eq_true rfl), (Nat.le_of_ble_eq_true rfl)⟩) hS (fun q _ h => h) (fun q h => h) (fun u8 t8 H1 locs ht8 hvm8 hw_81 hB hz1 hk1 hS => ?_)
            obtain ⟨g_82, rfl⟩ : ∃ z, z = u8 := ⟨_, rfl⟩
            try dsimp only at hw_81 hB
            rw [ht8] at hB
            have hP := hB
            generalize H1 = H at hP hS ⊢
            obtain ⟨fr_83, hAW_77⟩ := hw_81
            refine lv_iconst (v := nI 1) hx hb dX9_reckon_149 (by decide +kernel) ?_
            have f_84 : g_82 2076 = .inr (12, [.ref (ad 2077), .ref (ad 2078), .ref (ad 2080), .ref (ad 2084), .ref (ad 2090), .ref (ad 2097), .ref (ad 2103), .ref (ad 2108), .ref (ad 2104), .ref (ad 2105), .ref (ad 2106), .int wp]) := (fr_83 2076 (by omega)).trans f_75
            have hC_85 : CS ad cA g_82 L := CS.same hC hAW_77 (fun (k : Nat) (hk : (76 ≤ k ∧ k < 876) ∨ k = 2077 ∨ k = 2107 ∨ k = 2080 ∨ k = 2081 ∨ (2117 ≤ k ∧ k < 2517)) => (fr_83 k (by omega)).trans ((fr_74 k (by omega)).trans ((fr_67 k (by omega)).trans (rfl))))
            refine vx_ret ?_
            refine W.widen (k := 10) (n := 60) (by omega) (by omega) ?_
            exact W.zret (v := nI 1) hx hb hr (by decide +kernel) (fun t9 ht9 hW9 => ⟨⟨nI 1, g_82, rfl, ⟨f_84, hC_85, hWf, (d3.same (fun (k : Nat) (hk : k = 2078 ∨ k = 2079) => (fr_83 k (by omega)).trans ((fr_74 k (by omega)).trans ((fr_67 k (by omega)).trans (rfl))))), (d4.same (fun (k : Nat) (hk : 2084 ≤ k ∧ k ≤ 2088) => (fr_83 k (by omega)).trans ((fr_74 k (by omega)).trans ((fr_67 k (by omega)).trans (rfl))))), (d5.same (fun (k : Nat) (hk : k = 2089) => (fr_83 k (by omega)).trans ((fr_74 k (by omega)).trans ((fr_67 k (by omega)).trans (rfl))))), (d6.same (fun (k : Nat) (hk : 2090 ≤ k ∧ k ≤ 2096) => (fr_83 k (by omega)).trans ((fr_74 k (by omega)).trans ((fr_67 k (by omega)).trans (rfl))))), (d7.same (fun (k : Nat) (hk : k = 2082) => (fr_83 k (by omega)).trans ((fr_74 k (by omega)).trans ((fr_67 k (by omega)).trans (rfl))))), (d8.same (fun (k : Nat) (hk : 2097 ≤ k ∧ k ≤ 2102) => (fr_83 k (by omega)).trans ((fr_74 k (by omega)).trans ((fr_67 k (by omega)).trans (rfl))))), (d9.same (fun (k : Nat) (hk : k = 2083) => (fr_83 k (by omega)).trans ((fr_74 k (by omega)).trans ((fr_67 k (by omega)).trans (rfl))))), (da.same (fun (k : Nat) (hk : k = 2104) => (fr_83 k (by omega)).trans ((fr_74 k (by omega)).trans ((fr_67 k (by omega)).trans (rfl))))), (db.same (fun (k : Nat) (hk : k = 2105 ∨ k = 2106) => (fr_83 k (by omega)).trans ((fr_74 k (by omega)).trans ((fr_67 k (by omega)).trans (rfl))))), (dc.same (fun (k : Nat) (hk : k = 2103 ∨ (2108 ≤ k ∧ k < 2117)) => (fr_83 k (by omega)).trans ((fr_74 k (by omega)).trans ((fr_67 k (by omega)).trans (rfl)))))⟩, by show va_P (dC, dI) vwCl _ t9.heap; rw [ht9]; exact hP⟩, hS.F ht9⟩) hS.2.2 dX9_reckon_150
        · have c_17 := mt (nI_eq (a := b_13) (b := 0) (by omega) (by decide)).mpr c_17
          refine lv_iconst (v := nI 0) hx hb dX9_reckon_57 (by decide +kernel) ?_
          refine vx_ret ?_
          refine W.widen (k := 10) (n := 60) (by omega) (by omega) ?_
          exact W.zret (v := nI 0) hx hb hr (by decide +kernel) (fun t9 ht9 hW9 => ⟨⟨nI 0, g, rfl, ⟨d0, hC, hWf, d3, d4, d5, d6, d7, d8, d9, da, db, dc⟩, by show va_P (dC, dI) vwCl _ t9.heap; rw [ht9]; exact hP⟩, hS.F ht9⟩) hS.2.2 dX9_reckon_58
    · have c_7 := mt (k_le v (nI 2)).mpr c_7
      rw [show (nI 2).toInt = 2 from by decide] at c_7
      obtain ⟨sa_86, hstr_87⟩ := hE.2.2.1 (201, "what is not 0 .. 2") (by decide +kernel)
      exact vx_throwS (own := RX9) (cls := "java/lang/IllegalArgumentException") (text := "what is not 0 .. 2") (names := ["java/lang/RuntimeException", "java/lang/Exception"]) (ik := 90) (is := 201) (ic := 94) (sa := sa_86) (A := A) hx hb hlt hown (by decide +kernel) (by decide +kernel) (hts (.classLink RX9 90 "java/lang/IllegalArgumentException") (List.mem_of_getElem? (i := 4) rfl)) (hts (.initialized "java/lang/IllegalArgumentException") (List.mem_of_getElem? (i := 5) rfl)) hstr_87 (vx_hat (B := [.declares (Bundle.initS "java/lang/RuntimeException"), .declares (Bundle.initS "java/lang/Exception"), .declares (Bundle.initS Bundle.tN), .castable "java/lang/IllegalArgumentException" "java/lang/IllegalArgumentException"]) (fun w hw => hts w (bk1 w hw)) (by decide +kernel) (vx_c (va_Nw.use rfl hE.2.2.2.1) (vx_c (va_Nw.use rfl hE.2.2.2.2.1) (vx_c (va_Nw.use rfl hE.2.2.2.2.2.1) (vx_c (va_Nw.use rfl hE.2.2.2.2.2.2.1) vx_n))))) (by decide +kernel) hE.1 hE.2.1 hS (by rw [hml]; exact hl.1) dX9_reckon_22 dX9_reckon_25 dX9_reckon_26 dX9_reckon_28 dX9_reckon_31 (fun x9 hx9 => (htb x9 hx9).elim) (Nat.le_of_ble_eq_true rfl) (Nat.le_of_ble_eq_true rfl) (Nat.le_of_ble_eq_true rfl) (Nat.le_of_ble_eq_true rfl) hlocks (fun t9 hvm9 h1 h2 => ⟨(), trivial, ⟨Or.inr rfl, wP_grow hP h2⟩, k_F hS h1 h2⟩) hS.2.2 (Nat.le_of_ble_eq_true rfl) (Nat.le_of_ble_eq_true rfl)
def wd_W9_compare : List Cond := .code yX9_compare cX9_compare 3 (some .int) :: (([.methodLink RX9 175 yX9_checkResult, .static yX9_checkResult, .initialized RX9, .fieldLink RX9 10 "GradientDesk" "arithmetic" "LGradientDesk$Arithmetic;", .fieldLink RX9 59 "GradientDesk" "results" "[LGradientDesk$Fraction;", .methodLink RX9 218 yX0_order, .instanceMethod yX0_order, .selects RX0 yX0_order yX0_order, .initialized RX0] : List Cond) ++ (wd_W9_ckRes ++ (u_ws RX9 TX9 12 ++ (wd_X0_order ++ ([])))))
theorem gw_W9_compare : wd_W9_compare.all goodWord = true := k_allc rfl (k_all (by decide +kernel) (k_all (gw_W9_ckRes) (k_all (gu_X9) (k_all (gw_X0_order) (rfl)))))
set_option maxHeartbeats 4000000 in
set_option maxRecDepth 100000 in
theorem c_W9_compare (l : Launch) (hlt : l.stackTraces = false) (dC : Nat → ClassId) (dI : Nat → Nat → Nat) (A : Nat → Prop) (ad : Nat → Nat) (cA : Nat → ClassId) (g : Nat → va_E) (L : List PD) (nm : Nat → Int) (tx : Nat → Nat) (ty : Nat) (wp : Int32) (v : Int32) (w1 : Int32) (hI : CIS ad cA g L nm tx ty wp) : vx_Met l yX9_compare wd_W9_compare ({ frames := 60, cells := 10, slots := 60, locals := 1200 }) (va_Pc [.ref (ad 2076), .int v, .int w1] (fun U => PR NSc tyc dC dI A ad cA g U ∧ exF A U U.heap)) (va_Qi (fun (r : Int32) => fun (u : Nat → va_E) => match u with | g2 => CIS ad cA g2 L nm tx ty wp) (fun (u : Nat → va_E) (t : State) => va_P (dC, dI) vwCl (wo ad NSc u) t.heap) A) (vx_X (fun _ : Unit => True) (fun E _ t => (E = "java/lang/IndexOutOfBoundsException") ∧ va_P (dC, dI) vwCl (wo ad NSc g) t.heap) A) (10) (60) A := by
  refine vx_ofW (cc := cX9_compare) (maxL := 3) (ret := (some .int)) (by decide) rfl ?_
  intro p e s m args below meth c s₁ B hml htb hv
  obtain ⟨rfl, ⟨hA, hP, hL⟩, hE⟩ := hv
  have hx := B.exec
  have hb := B.bytes
  have hr := B.returns
  have hts := atoms_spec (ws := wd_W9_compare) B.pre
  have hown : s.vm.findClass RX9 = some m.cls := findClass_of_methodNamed B.named
  have hlocks := B.notSynchronized
  have hK := hL.1
  have hD : ∀ g, va_D A (wo ad NSc g) := fun g => wo_D hL.2.1 hL.2.2 g
  have hS : va_S A s.heap s.heap [] := va_S.rf
  have bk0 : ∀ w ∈ wd_W9_ckRes, w ∈ wd_W9_compare := fun _ h => List.mem_cons_of_mem _ (List.mem_append_right _ (List.mem_append_left _ h))
  have bk1 : ∀ w ∈ u_ws RX9 TX9 12, w ∈ wd_W9_compare := fun _ h => List.mem_cons_of_mem _ (List.mem_append_right _ (List.mem_append_right _ (List.mem_append_left _ h)))
  have bk2 : ∀ w ∈ wd_X0_order, w ∈ wd_W9_compare := fun _ h => List.mem_cons_of_mem _ (List.mem_append_right _ (List.mem_append_right _ (List.mem_append_right _ (List.mem_append_left _ h))))
  have hl := lv_entry ([.ref (ad 2076), .int v, .int w1]) (n := 3) (Nat.le_of_ble_eq_true rfl)
  rw [lg_entry_eq]
  generalize (lg_sl ([.ref (ad 2076), .int v, .int w1]) ++ List.replicate (3 - (lg_sl ([.ref (ad 2076), .int v, .int w1])).length) Slot.unset).toArray = ls at hl ⊢
  have hl : lv_has ls 3 [(0, .ref (ad 2076)), (1, .int v), (2, .int w1)] := hl
  have hi9 := hI
  obtain ⟨d0, hC, hWf, d3, d4, d5, d6, d7, d8, d9, da, db, dc⟩ := hi9
  unfold CDO at d0
  have hCo := hC
  obtain ⟨hLno, hWo, ⟨hAro, hWko, hPao, hFro⟩, hOo, pto, hPto, hMo⟩ := hCo
  unfold CSO at hOo
  have hpbo := hPto.2
  have hnl := hC.1
  obtain ⟨nA, nB, nC⟩ := id da
  obtain ⟨fa, fb, pA, pB⟩ := id db
  have hcr9c := d6
  obtain ⟨y0c, y1c, y2c, y3c, y4c, ⟨ftc, y5c⟩, fhc, y6c⟩ := hcr9c
  obtain ⟨Mx, hSm⟩ := id d8
  have hsc9z := hSm
  obtain ⟨lnz, wcz, flz, fwz, fdz, fzz, fqz, s1z, s2z, s3z, s4z, s5z, s6z, s7z, s8z, s9z, saz, sbz⟩ := hsc9z
  unfold SCO at s1z
  refine lv_iload_n hx hb dX9_compare_0 rfl (lv_at hl 1 rfl) ?_
  refine vx_callv (vx_runS (As := [.int v]) (rest := []) ⟨hx, hb, hml, hown, hts⟩ (c_W9_ckRes l hlt dC dI A ad cA g v ) (va_cwS 1 hts (goodIn_app (goodIn_r [Cond.methodLink RX9 175 yX9_checkResult, Cond.static yX9_checkResult, Cond.initialized RX9] [1, 2, 3] rfl rfl) (goodIn_sub (fun w9 h9 => bk0 w9 h9) gw_W9_ckRes)) rfl rfl rfl (by decide +kernel) ⟨Nat.le_of_ble_eq_true rfl, Nat.le_of_ble_eq_true rfl⟩) ⟨fun a U g mk q => ⟨q.1, ⟨q.2.1.1, q.2.1.2.1, LY.moved (u := U) (U := U.calling g mk a) (Vm.Alike.refl U.vm) q.2.1.2.2⟩, exF.same rfl rfl q.2.2⟩, fun U hU hW => ⟨rfl, ⟨by rw [hU]; exact fun q h => hA q (Nat.le_trans hS.1 h), by rw [hU]; exact hP, LY.moved hW.alike hL⟩, by rw [hU]; exact exF.warm hW (exF.kept hE hS.2.1)⟩⟩ rfl rfl hl.1 rfl (lv_room (Nat.le_of_ble_eq_true rfl)) dX9_compare_1 ⟨(Nat.le_of_ble_eq_true rfl), (Nat.le_of_ble_eq_true rfl)⟩) hS (fun q _ h => h) (fun q h => h) (fun q _ h => h) (fun E ce q9 u t H1 locs1 ht hvm hpx hbx hz1 hk1 hS hce hcv hcl => vx_out (fun x9 hx9 => (htb x9 hx9).elim) hlocks hce hcv hcl (fun t2 ht2 hvm2 => ⟨(), trivial, ⟨hbx.1.1, by rw [ht2, ← ht]; exact hbx.2⟩, hS.F ht2⟩) hS.2.2 (Nat.le_of_ble_eq_true rfl) (Nat.le_of_ble_eq_true rfl)) (fun u8 t8 H1 locs ht8 hvm8 hw_1 hB hz1 hk1 hS => ?_)
  obtain ⟨⟩ := u8
  try dsimp only at hw_1 hB
  rw [ht8] at hB
  have hP := hB
  generalize H1 = H at hP hS ⊢
  refine W.cs (cells' := 1) (slots' := 6) (by omega) (by omega) ?_
  obtain ⟨r1, hr1, er1, -⟩ := k_nat (x := v) (by omega)
  subst hr1
  refine lv_iload_n hx hb dX9_compare_4 rfl (lv_at hl 2 rfl) ?_
  refine vx_callv (vx_runS (As := [.int w1]) (rest := []) ⟨hx, hb, hml, hown, hts⟩ (c_W9_ckRes l hlt dC dI A ad cA g w1 ) (va_cwS 1 hts (goodIn_app (goodIn_r [Cond.methodLink RX9 175 yX9_checkResult, Cond.static yX9_checkResult, Cond.initialized RX9] [1, 2, 3] rfl rfl) (goodIn_sub (fun w9 h9 => bk0 w9 h9) gw_W9_ckRes)) rfl rfl rfl (by decide +kernel) ⟨Nat.le_of_ble_eq_true rfl, Nat.le_of_ble_eq_true rfl⟩) ⟨fun a U g mk q => ⟨q.1, ⟨q.2.1.1, q.2.1.2.1, LY.moved (u := U) (U := U.calling g mk a) (Vm.Alike.refl U.vm) q.2.1.2.2⟩, exF.same rfl rfl q.2.2⟩, fun U hU hW => ⟨rfl, ⟨by rw [hU]; exact fun q h => hA q (Nat.le_trans hS.1 h), by rw [hU]; exact hP, LY.moved hW.alike hL⟩, by rw [hU]; exact exF.warm hW (exF.kept hE hS.2.1)⟩⟩ rfl rfl hl.1 rfl (lv_room (Nat.le_of_ble_eq_true rfl)) dX9_compare_5 ⟨(Nat.le_of_ble_eq_true rfl), (Nat.le_of_ble_eq_true rfl)⟩) hS (fun q _ h => h) (fun q h => h) (fun q _ h => h) (fun E ce q9 u t H1 locs1 ht hvm hpx hbx hz1 hk1 hS hce hcv hcl => vx_out (fun x9 hx9 => (htb x9 hx9).elim) hlocks hce hcv hcl (fun t2 ht2 hvm2 => ⟨(), trivial, ⟨hbx.1.1, by rw [ht2, ← ht]; exact hbx.2⟩, hS.F ht2⟩) hS.2.2 (Nat.le_of_ble_eq_true rfl) (Nat.le_of_ble_eq_true rfl)) (fun u8 t8 H1 locs ht8 hvm8 hw_2 hB hz1 hk1 hS => ?_)
  obtain ⟨⟩ := u8
  try dsimp only at hw_2 hB
  rw [ht8] at hB
  have hP := hB
  generalize H1 = H at hP hS ⊢
  refine W.cs (cells' := 2) (slots' := 12) (by omega) (by omega) ?_
  obtain ⟨r2, hr2, er2, -⟩ := k_nat (x := w1) (by omega)
  subst hr2
  refine lv_aload_n hx hb dX9_compare_8 rfl (lv_at hl 0 rfl) ?_
  refine m_get (D := (dC, dI)) (v := .ref (ad 2077)) (C := RX9) (T := TX9) (N := 12) hx hb hts bk1 hown hK hP 2076 (by decide) d0 rfl 0 (by decide) (hts (.fieldLink RX9 10 "GradientDesk" "arithmetic" "LGradientDesk$Arithmetic;") (List.mem_of_getElem? (i := 4) rfl)) (fun _ h9 => h9) rfl dX9_compare_9 ?_
  refine lv_aload_n hx hb dX9_compare_12 rfl (lv_at hl 0 rfl) ?_
  refine m_get (D := (dC, dI)) (v := .ref (ad 2103)) (C := RX9) (T := TX9) (N := 12) hx hb hts bk1 hown hK hP 2076 (by decide) d0 rfl 6 (by decide) (hts (.fieldLink RX9 59 "GradientDesk" "results" "[LGradientDesk$Fraction;") (List.mem_of_getElem? (i := 5) rfl)) (fun _ h9 => h9) rfl dX9_compare_13 ?_
  refine lv_iload_n hx hb dX9_compare_16 rfl (lv_at hl 1 rfl) ?_
  refine m_aald hx hb hK hP 2103 (by decide) rfl dc.1 (i := r1) (v := ad (2109 + r1)) (by omega) (by decide) rfl dX9_compare_17 ?_
  refine lv_aload_n hx hb dX9_compare_18 rfl (lv_at hl 0 rfl) ?_
  refine m_get (D := (dC, dI)) (v := .ref (ad 2103)) (C := RX9) (T := TX9) (N := 12) hx hb hts bk1 hown hK hP 2076 (by decide) d0 rfl 6 (by decide) (hts (.fieldLink RX9 59 "GradientDesk" "results" "[LGradientDesk$Fraction;") (List.mem_of_getElem? (i := 5) rfl)) (fun _ h9 => h9) rfl dX9_compare_19 ?_
  refine lv_iload_n hx hb dX9_compare_22 rfl (lv_at hl 2 rfl) ?_
  refine m_aald hx hb hK hP 2103 (by decide) rfl dc.1 (i := r2) (v := ad (2109 + r2)) (by omega) (by decide) rfl dX9_compare_23 ?_
  have hr_4 := dc.2.2 r1 (by omega)
  have hr_5 := dc.2.2 r2 (by omega)
  refine va_calli (va_runV (As := [.ref (ad (2109 + r1)), .ref (ad (2109 + r2))]) (rest := []) ⟨hx, hb, hml, hown, hts⟩ (c_X0_order l dC dI A ad cA g (2109 + r1) (13 + 2 * r1) (14 + 2 * r1) (2109 + r2) (13 + 2 * r2) (14 + 2 * r2) hWo hAro hr_4 (⟨fr_r (by omega), by omega⟩) (by omega) hr_5 (⟨fr_r (by omega), by omega⟩) (by omega)) (cwV 2 hts (goodIn_app (goodIn_r [Cond.methodLink RX9 218 yX0_order, Cond.instanceMethod yX0_order, Cond.selects RX0 yX0_order yX0_order, Cond.initialized RX0] [6, 7, 8, 9] rfl rfl) (goodIn_sub (fun w9 h9 => bk2 w9 h9) gw_X0_order)) rfl rfl rfl (by decide +kernel) ⟨Nat.le_of_ble_eq_true rfl, Nat.le_of_ble_eq_true rfl⟩) ⟨fun a U g mk q => ⟨q.1, q.2.1, q.2.2.1, LY.moved (u := U) (U := U.calling g mk a) (Vm.Alike.refl U.vm) q.2.2.2⟩, va_recv hK hP (ci := 3) (q0 := 2077) rfl (wo_at (by decide) hAro), fun U hU hW => ⟨rfl, by rw [hU]; exact fun q h => hA q (Nat.le_trans hS.1 h), by rw [hU]; exact hP, LY.moved hW.alike hL⟩⟩ rfl rfl hl.1 rfl (lv_room (Nat.le_of_ble_eq_true rfl)) dX9_compare_24 ⟨(Nat.le_of_ble_eq_true rfl), (Nat.le_of_ble_eq_true rfl)⟩) hS (fun q _ h => h) (fun q h => h) (fun r_6 u8 t8 H1 locs ht8 hvm8 hw_7 hB hz1 hk1 hS => ?_)
  obtain ⟨g_8, rfl⟩ : ∃ z, z = u8 := ⟨_, rfl⟩
  try dsimp only at hw_7 hB
  rw [ht8] at hB
  have hP := hB
  generalize H1 = H at hP hS ⊢
  obtain ⟨fr_9, hAW_3⟩ := hw_7
  have f_10 : g_8 2076 = .inr (12, [.ref (ad 2077), .ref (ad 2078), .ref (ad 2080), .ref (ad 2084), .ref (ad 2090), .ref (ad 2097), .ref (ad 2103), .ref (ad 2108), .ref (ad 2104), .ref (ad 2105), .ref (ad 2106), .int wp]) := (fr_9 2076 (by omega)).trans d0
  have hC_11 : CS ad cA g_8 L := CS.same hC hAW_3 (fun (k : Nat) (hk : (76 ≤ k ∧ k < 876) ∨ k = 2077 ∨ k = 2107 ∨ k = 2080 ∨ k = 2081 ∨ (2117 ≤ k ∧ k < 2517)) => (fr_9 k (by omega)).trans (rfl))
  refine vx_ret ?_
  refine W.widen (k := 10) (n := 60) (by omega) (by omega) ?_
  exact W.iret (v := r_6) hx hb hr (fun t9 ht9 hW9 => ⟨⟨r_6, g_8, rfl, ⟨f_10, hC_11, hWf, (d3.same (fun (k : Nat) (hk : k = 2078 ∨ k = 2079) => (fr_9 k (by omega)).trans (rfl))), (d4.same (fun (k : Nat) (hk : 2084 ≤ k ∧ k ≤ 2088) => (fr_9 k (by omega)).trans (rfl))), (d5.same (fun (k : Nat) (hk : k = 2089) => (fr_9 k (by omega)).trans (rfl))), (d6.same (fun (k : Nat) (hk : 2090 ≤ k ∧ k ≤ 2096) => (fr_9 k (by omega)).trans (rfl))), (d7.same (fun (k : Nat) (hk : k = 2082) => (fr_9 k (by omega)).trans (rfl))), (d8.same (fun (k : Nat) (hk : 2097 ≤ k ∧ k ≤ 2102) => (fr_9 k (by omega)).trans (rfl))), (d9.same (fun (k : Nat) (hk : k = 2083) => (fr_9 k (by omega)).trans (rfl))), (da.same (fun (k : Nat) (hk : k = 2104) => (fr_9 k (by omega)).trans (rfl))), (db.same (fun (k : Nat) (hk : k = 2105 ∨ k = 2106) => (fr_9 k (by omega)).trans (rfl))), (dc.same (fun (k : Nat) (hk : k = 2103 ∨ (2108 ≤ k ∧ k < 2117)) => (fr_9 k (by omega)).trans (rfl)))⟩, by show va_P (dC, dI) vwCl _ t9.heap; rw [ht9]; exact hP⟩, hS.F ht9⟩) hS.2.2 dX9_compare_27
def wd_W9_sign : List Cond := .code yX9_sign cX9_sign 2 (some .int) :: (([.methodLink RX9 175 yX9_checkResult, .static yX9_checkResult, .initialized RX9, .fieldLink RX9 59 "GradientDesk" "results" "[LGradientDesk$Fraction;", .fieldLink RX9 222 "GradientDesk$Fraction" "top" "LGradientDesk$Whole;", .methodLink RX9 226 yX8_signum, .instanceMethod yX8_signum, .selects RX8 yX8_signum yX8_signum, .initialized RX8] : List Cond) ++ (wd_W9_ckRes ++ (u_ws RX9 TX9 12 ++ (u_ws RX2 TX2 2 ++ (wd_X8_signum ++ ([]))))))
theorem gw_W9_sign : wd_W9_sign.all goodWord = true := k_allc rfl (k_all (by decide +kernel) (k_all (gw_W9_ckRes) (k_all (gu_X9) (k_all (gu_X2) (k_all (gw_X8_signum) (rfl))))))
set_option maxHeartbeats 4000000 in
set_option maxRecDepth 100000 in
theorem c_W9_sign (l : Launch) (hlt : l.stackTraces = false) (dC : Nat → ClassId) (dI : Nat → Nat → Nat) (A : Nat → Prop) (ad : Nat → Nat) (cA : Nat → ClassId) (g : Nat → va_E) (L : List PD) (nm : Nat → Int) (tx : Nat → Nat) (ty : Nat) (wp : Int32) (v : Int32) (hI : CIS ad cA g L nm tx ty wp) : vx_Met l yX9_sign wd_W9_sign ({ frames := 30, cells := 10, slots := 60, locals := 600 }) (va_Pc [.ref (ad 2076), .int v] (fun U => PR NSc tyc dC dI A ad cA g U ∧ exF A U U.heap)) (va_Qi (fun (r : Int32) => fun (u : Unit) => match u with | () => True) (fun (u : Unit) (t : State) => va_P (dC, dI) vwCl (wo ad NSc g) t.heap) A) (vx_X (fun _ : Unit => True) (fun E _ t => (E = "java/lang/IndexOutOfBoundsException") ∧ va_P (dC, dI) vwCl (wo ad NSc g) t.heap) A) (10) (60) A := by
  refine vx_ofW (cc := cX9_sign) (maxL := 2) (ret := (some .int)) (by decide) rfl ?_
  intro p e s m args below meth c s₁ B hml htb hv
  obtain ⟨rfl, ⟨hA, hP, hL⟩, hE⟩ := hv
  have hx := B.exec
  have hb := B.bytes
  have hr := B.returns
  have hts := atoms_spec (ws := wd_W9_sign) B.pre
  have hown : s.vm.findClass RX9 = some m.cls := findClass_of_methodNamed B.named
  have hlocks := B.notSynchronized
  have hK := hL.1
  have hD : ∀ g, va_D A (wo ad NSc g) := fun g => wo_D hL.2.1 hL.2.2 g
  have hS : va_S A s.heap s.heap [] := va_S.rf
  have bk0 : ∀ w ∈ wd_W9_ckRes, w ∈ wd_W9_sign := fun _ h => List.mem_cons_of_mem _ (List.mem_append_right _ (List.mem_append_left _ h))
  have bk1 : ∀ w ∈ u_ws RX9 TX9 12, w ∈ wd_W9_sign := fun _ h => List.mem_cons_of_mem _ (List.mem_append_right _ (List.mem_append_right _ (List.mem_append_left _ h)))
  have bk2 : ∀ w ∈ u_ws RX2 TX2 2, w ∈ wd_W9_sign := fun _ h => List.mem_cons_of_mem _ (List.mem_append_right _ (List.mem_append_right _ (List.mem_append_right _ (List.mem_append_left _ h))))
  have bk3 : ∀ w ∈ wd_X8_signum, w ∈ wd_W9_sign := fun _ h => List.mem_cons_of_mem _ (List.mem_append_right _ (List.mem_append_right _ (List.mem_append_right _ (List.mem_append_right _ (List.mem_append_left _ h)))))
  have hl := lv_entry ([.ref (ad 2076), .int v]) (n := 2) (Nat.le_of_ble_eq_true rfl)
  rw [lg_entry_eq]
  generalize (lg_sl ([.ref (ad 2076), .int v]) ++ List.replicate (2 - (lg_sl ([.ref (ad 2076), .int v])).length) Slot.unset).toArray = ls at hl ⊢
  have hl : lv_has ls 2 [(0, .ref (ad 2076)), (1, .int v)] := hl
  have hi9 := hI
  obtain ⟨d0, hC, hWf, d3, d4, d5, d6, d7, d8, d9, da, db, dc⟩ := hi9
  unfold CDO at d0
  have hCo := hC
  obtain ⟨hLno, hWo, ⟨hAro, hWko, hPao, hFro⟩, hOo, pto, hPto, hMo⟩ := hCo
  unfold CSO at hOo
  have hpbo := hPto.2
  have hnl := hC.1
  obtain ⟨nA, nB, nC⟩ := id da
  obtain ⟨fa, fb, pA, pB⟩ := id db
  have hcr9c := d6
  obtain ⟨y0c, y1c, y2c, y3c, y4c, ⟨ftc, y5c⟩, fhc, y6c⟩ := hcr9c
  obtain ⟨Mx, hSm⟩ := id d8
  have hsc9z := hSm
  obtain ⟨lnz, wcz, flz, fwz, fdz, fzz, fqz, s1z, s2z, s3z, s4z, s5z, s6z, s7z, s8z, s9z, saz, sbz⟩ := hsc9z
  unfold SCO at s1z
  refine lv_iload_n hx hb dX9_sign_0 rfl (lv_at hl 1 rfl) ?_
  refine vx_callv (vx_runS (As := [.int v]) (rest := []) ⟨hx, hb, hml, hown, hts⟩ (c_W9_ckRes l hlt dC dI A ad cA g v ) (va_cwS 1 hts (goodIn_app (goodIn_r [Cond.methodLink RX9 175 yX9_checkResult, Cond.static yX9_checkResult, Cond.initialized RX9] [1, 2, 3] rfl rfl) (goodIn_sub (fun w9 h9 => bk0 w9 h9) gw_W9_ckRes)) rfl rfl rfl (by decide +kernel) ⟨Nat.le_of_ble_eq_true rfl, Nat.le_of_ble_eq_true rfl⟩) ⟨fun a U g mk q => ⟨q.1, ⟨q.2.1.1, q.2.1.2.1, LY.moved (u := U) (U := U.calling g mk a) (Vm.Alike.refl U.vm) q.2.1.2.2⟩, exF.same rfl rfl q.2.2⟩, fun U hU hW => ⟨rfl, ⟨by rw [hU]; exact fun q h => hA q (Nat.le_trans hS.1 h), by rw [hU]; exact hP, LY.moved hW.alike hL⟩, by rw [hU]; exact exF.warm hW (exF.kept hE hS.2.1)⟩⟩ rfl rfl hl.1 rfl (lv_room (Nat.le_of_ble_eq_true rfl)) dX9_sign_1 ⟨(Nat.le_of_ble_eq_true rfl), (Nat.le_of_ble_eq_true rfl)⟩) hS (fun q _ h => h) (fun q h => h) (fun q _ h => h) (fun E ce q9 u t H1 locs1 ht hvm hpx hbx hz1 hk1 hS hce hcv hcl => vx_out (fun x9 hx9 => (htb x9 hx9).elim) hlocks hce hcv hcl (fun t2 ht2 hvm2 => ⟨(), trivial, ⟨hbx.1.1, by rw [ht2, ← ht]; exact hbx.2⟩, hS.F ht2⟩) hS.2.2 (Nat.le_of_ble_eq_true rfl) (Nat.le_of_ble_eq_true rfl)) (fun u8 t8 H1 locs ht8 hvm8 hw_1 hB hz1 hk1 hS => ?_)
  obtain ⟨⟩ := u8
  try dsimp only at hw_1 hB
  rw [ht8] at hB
  have hP := hB
  generalize H1 = H at hP hS ⊢
  refine W.cs (cells' := 1) (slots' := 6) (by omega) (by omega) ?_
  obtain ⟨r1, hr1, er1, -⟩ := k_nat (x := v) (by omega)
  subst hr1
  refine lv_aload_n hx hb dX9_sign_4 rfl (lv_at hl 0 rfl) ?_
  refine m_get (D := (dC, dI)) (v := .ref (ad 2103)) (C := RX9) (T := TX9) (N := 12) hx hb hts bk1 hown hK hP 2076 (by decide) d0 rfl 6 (by decide) (hts (.fieldLink RX9 59 "GradientDesk" "results" "[LGradientDesk$Fraction;") (List.mem_of_getElem? (i := 4) rfl)) (fun _ h9 => h9) rfl dX9_sign_5 ?_
  refine lv_iload_n hx hb dX9_sign_8 rfl (lv_at hl 1 rfl) ?_
  refine m_aald hx hb hK hP 2103 (by decide) rfl dc.1 (i := r1) (v := ad (2109 + r1)) (by omega) (by decide) rfl dX9_sign_9 ?_
  have hr_2 := dc.2.2 r1 (by omega)
  refine m_get (D := (dC, dI)) (v := .ref (ad (2 * (13 + 2 * r1)))) (C := RX2) (T := TX2) (N := 2) hx hb hts bk2 hown hK hP (2109 + r1) (fr_r (by omega)) hr_2 rfl 0 (by decide) (hts (.fieldLink RX9 222 "GradientDesk$Fraction" "top" "LGradientDesk$Whole;") (List.mem_of_getElem? (i := 5) rfl)) (fun _ h9 => h9) rfl dX9_sign_10 ?_
  obtain ⟨mw_3, sw_3, nw_3, fw_3, aw_3, bw_3, cw_3, dw_3, ew_3⟩ := hWo (13 + 2 * r1) (by omega)
  have qw_3 : mw_3 ≤ 4096 := by rw [dw_3]; exact rmc_le _
  refine va_calli (va_runV (As := []) (rest := []) ⟨hx, hb, hml, hown, hts⟩ (c_X8_signum l dC dI A ad cA g (13 + 2 * r1) hWo (by omega)) (cwV 0 hts (goodIn_app (goodIn_r [Cond.methodLink RX9 226 yX8_signum, Cond.instanceMethod yX8_signum, Cond.selects RX8 yX8_signum yX8_signum, Cond.initialized RX8] [6, 7, 8, 9] rfl rfl) (goodIn_sub (fun w9 h9 => bk3 w9 h9) gw_X8_signum)) rfl rfl rfl (by decide +kernel) ⟨Nat.le_of_ble_eq_true rfl, Nat.le_of_ble_eq_true rfl⟩) ⟨fun a U g mk q => ⟨q.1, q.2.1, q.2.2.1, LY.moved (u := U) (U := U.calling g mk a) (Vm.Alike.refl U.vm) q.2.2.2⟩, va_recv hK hP (ci := 11) (q0 := (2 * (13 + 2 * r1))) rfl (wo_at (ns_w (by omega)) aw_3), fun U hU hW => ⟨rfl, by rw [hU]; exact fun q h => hA q (Nat.le_trans hS.1 h), by rw [hU]; exact hP, LY.moved hW.alike hL⟩⟩ rfl rfl hl.1 rfl (lv_room (Nat.le_of_ble_eq_true rfl)) dX9_sign_13 ⟨(Nat.le_of_ble_eq_true rfl), (Nat.le_of_ble_eq_true rfl)⟩) hS (fun q _ h => h) (fun q h => h) (fun r_4 u8 t8 H1 locs ht8 hvm8 hw_5 hB hz1 hk1 hS => ?_)
  obtain ⟨⟩ := u8
  try dsimp only at hw_5 hB
  rw [ht8] at hB
  have hP := hB
  generalize H1 = H at hP hS ⊢
  refine vx_ret ?_
  refine W.widen (k := 10) (n := 60) (by omega) (by omega) ?_
  exact W.iret (v := r_4) hx hb hr (fun t9 ht9 hW9 => ⟨⟨r_4, (), rfl, trivial, by show va_P (dC, dI) vwCl _ t9.heap; rw [ht9]; exact hP⟩, hS.F ht9⟩) hS.2.2 dX9_sign_16
def wd_W9_side : List Cond := .code yX9_side cX9_side 3 (some (.object "GradientDesk$Whole")) :: (([.fieldLink RX9 59 "GradientDesk" "results" "[LGradientDesk$Fraction;", .fieldLink RX9 262 "GradientDesk$Fraction" "bottom" "LGradientDesk$Whole;", .fieldLink RX9 222 "GradientDesk$Fraction" "top" "LGradientDesk$Whole;"] : List Cond) ++ (u_ws RX9 TX9 12 ++ (u_ws RX2 TX2 2 ++ ([]))))
theorem gw_W9_side : wd_W9_side.all goodWord = true := k_allc rfl (k_all (by decide +kernel) (k_all (gu_X9) (k_all (gu_X2) (rfl))))
set_option maxHeartbeats 4000000 in
set_option maxRecDepth 100000 in
theorem c_W9_side (l : Launch) (dC : Nat → ClassId) (dI : Nat → Nat → Nat) (A : Nat → Prop) (ad : Nat → Nat) (cA : Nat → ClassId) (g : Nat → va_E) (L : List PD) (nm : Nat → Int) (tx : Nat → Nat) (ty : Nat) (wp : Int32) (rn : Nat) (sd : Int32) (hI : CIS ad cA g L nm tx ty wp) (hrn : rn ≤ 7) : Met l yX9_side wd_W9_side ({ frames := 10, cells := 0, slots := 0, locals := 200 }) (va_Pc [.ref (ad 2076), .int (nI rn), .int sd] (PR NSc tyc dC dI A ad cA g)) (va_Qr (fun (u : Nat) => match u with | q => q = 13 + 2 * rn ∨ q = 14 + 2 * rn) (fun (u : Nat) (ra : Nat) (t : State) => (match u with | q => ra = ad (2 * q)) ∧ va_P (dC, dI) vwCl (wo ad NSc g) t.heap) A) (0) (0) A := by
  refine Met.ofW (cc := cX9_side) (maxL := 3) (ret := (some (.object "GradientDesk$Whole"))) (by decide) rfl ?_
  intro p e s m args below meth c s₁ B hml hv
  obtain ⟨rfl, hA, hP, hL⟩ := hv
  have hx := B.exec
  have hb := B.bytes
  have hr := B.returns
  have hts := atoms_spec (ws := wd_W9_side) B.pre
  have hown : s.vm.findClass RX9 = some m.cls := findClass_of_methodNamed B.named
  have hlocks := B.notSynchronized
  have hK := hL.1
  have hD : ∀ g, va_D A (wo ad NSc g) := fun g => wo_D hL.2.1 hL.2.2 g
  have hS : va_S A s.heap s.heap [] := va_S.rf
  have bk0 : ∀ w ∈ u_ws RX9 TX9 12, w ∈ wd_W9_side := fun _ h => List.mem_cons_of_mem _ (List.mem_append_right _ (List.mem_append_left _ h))
  have bk1 : ∀ w ∈ u_ws RX2 TX2 2, w ∈ wd_W9_side := fun _ h => List.mem_cons_of_mem _ (List.mem_append_right _ (List.mem_append_right _ (List.mem_append_left _ h)))
  have hl := lv_entry ([.ref (ad 2076), .int (nI rn), .int sd]) (n := 3) (Nat.le_of_ble_eq_true rfl)
  rw [lg_entry_eq]
  generalize (lg_sl ([.ref (ad 2076), .int (nI rn), .int sd]) ++ List.replicate (3 - (lg_sl ([.ref (ad 2076), .int (nI rn), .int sd])).length) Slot.unset).toArray = ls at hl ⊢
  have hl : lv_has ls 3 [(0, .ref (ad 2076)), (1, .int (nI rn)), (2, .int sd)] := hl
  have hi9 := hI
  obtain ⟨d0, hC, hWf, d3, d4, d5, d6, d7, d8, d9, da, db, dc⟩ := hi9
  unfold CDO at d0
  have hCo := hC
  obtain ⟨hLno, hWo, ⟨hAro, hWko, hPao, hFro⟩, hOo, pto, hPto, hMo⟩ := hCo
  unfold CSO at hOo
  have hpbo := hPto.2
  have hnl := hC.1
  obtain ⟨nA, nB, nC⟩ := id da
  obtain ⟨fa, fb, pA, pB⟩ := id db
  have hcr9c := d6
  obtain ⟨y0c, y1c, y2c, y3c, y4c, ⟨ftc, y5c⟩, fhc, y6c⟩ := hcr9c
  obtain ⟨Mx, hSm⟩ := id d8
  have hsc9z := hSm
  obtain ⟨lnz, wcz, flz, fwz, fdz, fzz, fqz, s1z, s2z, s3z, s4z, s5z, s6z, s7z, s8z, s9z, saz, sbz⟩ := hsc9z
  unfold SCO at s1z
  refine lv_iload_n hx hb dX9_side_0 rfl (lv_at hl 2 rfl) ?_
  refine lv_if_ne (tgt := 16) hx hb dX9_side_1 (by decide) (fun c_1 => ?_) (fun c_1 => ?_)
  · have c_1 := mt Int32.toInt_inj.mp c_1
    rw [show (0 : Int32).toInt = 0 from by decide] at c_1
    refine lv_aload_n hx hb dX9_side_16 rfl (lv_at hl 0 rfl) ?_
    refine m_get (D := (dC, dI)) (v := .ref (ad 2103)) (C := RX9) (T := TX9) (N := 12) hx hb hts bk0 hown hK hP 2076 (by decide) d0 rfl 6 (by decide) (hts (.fieldLink RX9 59 "GradientDesk" "results" "[LGradientDesk$Fraction;") (List.mem_of_getElem? (i := 1) rfl)) (fun _ h9 => h9) rfl dX9_side_17 ?_
    refine lv_iload_n hx hb dX9_side_20 rfl (lv_at hl 1 rfl) ?_
    refine m_aald hx hb hK hP 2103 (by decide) rfl dc.1 (i := rn) (v := ad (2109 + rn)) (by omega) (by decide) rfl dX9_side_21 ?_
    have hr_2 := dc.2.2 rn (by omega)
    refine m_get (D := (dC, dI)) (v := .ref (ad (2 * (14 + 2 * rn)))) (C := RX2) (T := TX2) (N := 2) hx hb hts bk1 hown hK hP (2109 + rn) (fr_r (by omega)) hr_2 rfl 1 (by decide) (hts (.fieldLink RX9 262 "GradientDesk$Fraction" "bottom" "LGradientDesk$Whole;") (List.mem_of_getElem? (i := 2) rfl)) (fun _ h9 => h9) rfl dX9_side_22 ?_
    refine W.widen (k := 0) (n := 0) (by omega) (by omega) ?_
    exact W.aret (v := .ref (ad (2 * (14 + 2 * rn)))) hx hb hr (Or.inl ⟨_, rfl⟩) (Or.inr ⟨_, rfl⟩) (fun t9 ht9 hW9 => ⟨⟨14 + 2 * rn, ad (2 * (14 + 2 * rn)), rfl, by omega, ⟨rfl, by show va_P (dC, dI) vwCl _ t9.heap; rw [ht9]; exact hP⟩⟩, hS.F ht9⟩) hS.2.2 dX9_side_25
  · have c_1 := congrArg Int32.toInt c_1
    rw [show (0 : Int32).toInt = 0 from by decide] at c_1
    refine lv_aload_n hx hb dX9_side_4 rfl (lv_at hl 0 rfl) ?_
    refine m_get (D := (dC, dI)) (v := .ref (ad 2103)) (C := RX9) (T := TX9) (N := 12) hx hb hts bk0 hown hK hP 2076 (by decide) d0 rfl 6 (by decide) (hts (.fieldLink RX9 59 "GradientDesk" "results" "[LGradientDesk$Fraction;") (List.mem_of_getElem? (i := 1) rfl)) (fun _ h9 => h9) rfl dX9_side_5 ?_
    refine lv_iload_n hx hb dX9_side_8 rfl (lv_at hl 1 rfl) ?_
    refine m_aald hx hb hK hP 2103 (by decide) rfl dc.1 (i := rn) (v := ad (2109 + rn)) (by omega) (by decide) rfl dX9_side_9 ?_
    have hr_3 := dc.2.2 rn (by omega)
    refine m_get (D := (dC, dI)) (v := .ref (ad (2 * (13 + 2 * rn)))) (C := RX2) (T := TX2) (N := 2) hx hb hts bk1 hown hK hP (2109 + rn) (fr_r (by omega)) hr_3 rfl 0 (by decide) (hts (.fieldLink RX9 222 "GradientDesk$Fraction" "top" "LGradientDesk$Whole;") (List.mem_of_getElem? (i := 3) rfl)) (fun _ h9 => h9) rfl dX9_side_10 ?_
    refine lv_goto (tgt := 25) hx hb dX9_side_13 (by decide) ?_
    refine W.widen (k := 0) (n := 0) (by omega) (by omega) ?_
    exact W.aret (v := .ref (ad (2 * (13 + 2 * rn)))) hx hb hr (Or.inl ⟨_, rfl⟩) (Or.inr ⟨_, rfl⟩) (fun t9 ht9 hW9 => ⟨⟨13 + 2 * rn, ad (2 * (13 + 2 * rn)), rfl, by omega, ⟨rfl, by show va_P (dC, dI) vwCl _ t9.heap; rw [ht9]; exact hP⟩⟩, hS.F ht9⟩) hS.2.2 dX9_side_25
def wd_W9_bits : List Cond := .code yX9_bits cX9_bits 3 (some .int) :: (([.methodLink RX9 175 yX9_checkResult, .static yX9_checkResult, .initialized RX9, .methodLink RX9 231 yX9_checkSide, .static yX9_checkSide, .methodLink RX9 234 yX9_side, .instanceMethod yX9_side, .selects RX9 yX9_side yX9_side, .methodLink RX9 238 yX8_bitLength, .instanceMethod yX8_bitLength, .selects RX8 yX8_bitLength yX8_bitLength, .initialized RX8] : List Cond) ++ (wd_W9_ckRes ++ (wd_W9_ckSide ++ (wd_W9_side ++ (wd_X8_bitLength ++ ([]))))))
theorem gw_W9_bits : wd_W9_bits.all goodWord = true := k_allc rfl (k_all (by decide +kernel) (k_all (gw_W9_ckRes) (k_all (gw_W9_ckSide) (k_all (gw_W9_side) (k_all (gw_X8_bitLength) (rfl))))))
set_option maxHeartbeats 4000000 in
set_option maxRecDepth 100000 in
theorem c_W9_bits (l : Launch) (hlt : l.stackTraces = false) (dC : Nat → ClassId) (dI : Nat → Nat → Nat) (A : Nat → Prop) (ad : Nat → Nat) (cA : Nat → ClassId) (g : Nat → va_E) (L : List PD) (nm : Nat → Int) (tx : Nat → Nat) (ty : Nat) (wp : Int32) (v : Int32) (w1 : Int32) (hI : CIS ad cA g L nm tx ty wp) : vx_Met l yX9_bits wd_W9_bits ({ frames := 40, cells := 10, slots := 60, locals := 800 }) (va_Pc [.ref (ad 2076), .int v, .int w1] (fun U => PR NSc tyc dC dI A ad cA g U ∧ exF A U U.heap)) (va_Qi (fun (r : Int32) => fun (u : Unit) => match u with | () => True) (fun (u : Unit) (t : State) => va_P (dC, dI) vwCl (wo ad NSc g) t.heap) A) (vx_X (fun _ : Unit => True) (fun E _ t => (E = "java/lang/IndexOutOfBoundsException" ∨ E = "java/lang/IllegalArgumentException") ∧ va_P (dC, dI) vwCl (wo ad NSc g) t.heap) A) (10) (60) A := by
  refine vx_ofW (cc := cX9_bits) (maxL := 3) (ret := (some .int)) (by decide) rfl ?_
  intro p e s m args below meth c s₁ B hml htb hv
  obtain ⟨rfl, ⟨hA, hP, hL⟩, hE⟩ := hv
  have hx := B.exec
  have hb := B.bytes
  have hr := B.returns
  have hts := atoms_spec (ws := wd_W9_bits) B.pre
  have hown : s.vm.findClass RX9 = some m.cls := findClass_of_methodNamed B.named
  have hlocks := B.notSynchronized
  have hK := hL.1
  have hD : ∀ g, va_D A (wo ad NSc g) := fun g => wo_D hL.2.1 hL.2.2 g
  have hS : va_S A s.heap s.heap [] := va_S.rf
  have bk0 : ∀ w ∈ wd_W9_ckRes, w ∈ wd_W9_bits := fun _ h => List.mem_cons_of_mem _ (List.mem_append_right _ (List.mem_append_left _ h))
  have bk1 : ∀ w ∈ wd_W9_ckSide, w ∈ wd_W9_bits := fun _ h => List.mem_cons_of_mem _ (List.mem_append_right _ (List.mem_append_right _ (List.mem_append_left _ h)))
  have bk2 : ∀ w ∈ wd_W9_side, w ∈ wd_W9_bits := fun _ h => List.mem_cons_of_mem _ (List.mem_append_right _ (List.mem_append_right _ (List.mem_append_right _ (List.mem_append_left _ h))))
  have bk3 : ∀ w ∈ wd_X8_bitLength, w ∈ wd_W9_bits := fun _ h => List.mem_cons_of_mem _ (List.mem_append_right _ (List.mem_append_right _ (List.mem_append_right _ (List.mem_append_right _ (List.mem_append_left _ h)))))
  have hl := lv_entry ([.ref (ad 2076), .int v, .int w1]) (n := 3) (Nat.le_of_ble_eq_true rfl)
  rw [lg_entry_eq]
  generalize (lg_sl ([.ref (ad 2076), .int v, .int w1]) ++ List.replicate (3 - (lg_sl ([.ref (ad 2076), .int v, .int w1])).length) Slot.unset).toArray = ls at hl ⊢
  have hl : lv_has ls 3 [(0, .ref (ad 2076)), (1, .int v), (2, .int w1)] := hl
  have hi9 := hI
  obtain ⟨d0, hC, hWf, d3, d4, d5, d6, d7, d8, d9, da, db, dc⟩ := hi9
  unfold CDO at d0
  have hCo := hC
  obtain ⟨hLno, hWo, ⟨hAro, hWko, hPao, hFro⟩, hOo, pto, hPto, hMo⟩ := hCo
  unfold CSO at hOo
  have hpbo := hPto.2
  have hnl := hC.1
  obtain ⟨nA, nB, nC⟩ := id da
  obtain ⟨fa, fb, pA, pB⟩ := id db
  have hcr9c := d6
  obtain ⟨y0c, y1c, y2c, y3c, y4c, ⟨ftc, y5c⟩, fhc, y6c⟩ := hcr9c
  obtain ⟨Mx, hSm⟩ := id d8
  have hsc9z := hSm
  obtain ⟨lnz, wcz, flz, fwz, fdz, fzz, fqz, s1z, s2z, s3z, s4z, s5z, s6z, s7z, s8z, s9z, saz, sbz⟩ := hsc9z
  unfold SCO at s1z
  refine lv_iload_n hx hb dX9_bits_0 rfl (lv_at hl 1 rfl) ?_
  refine vx_callv (vx_runS (As := [.int v]) (rest := []) ⟨hx, hb, hml, hown, hts⟩ (c_W9_ckRes l hlt dC dI A ad cA g v ) (va_cwS 1 hts (goodIn_app (goodIn_r [Cond.methodLink RX9 175 yX9_checkResult, Cond.static yX9_checkResult, Cond.initialized RX9] [1, 2, 3] rfl rfl) (goodIn_sub (fun w9 h9 => bk0 w9 h9) gw_W9_ckRes)) rfl rfl rfl (by decide +kernel) ⟨Nat.le_of_ble_eq_true rfl, Nat.le_of_ble_eq_true rfl⟩) ⟨fun a U g mk q => ⟨q.1, ⟨q.2.1.1, q.2.1.2.1, LY.moved (u := U) (U := U.calling g mk a) (Vm.Alike.refl U.vm) q.2.1.2.2⟩, exF.same rfl rfl q.2.2⟩, fun U hU hW => ⟨rfl, ⟨by rw [hU]; exact fun q h => hA q (Nat.le_trans hS.1 h), by rw [hU]; exact hP, LY.moved hW.alike hL⟩, by rw [hU]; exact exF.warm hW (exF.kept hE hS.2.1)⟩⟩ rfl rfl hl.1 rfl (lv_room (Nat.le_of_ble_eq_true rfl)) dX9_bits_1 ⟨(Nat.le_of_ble_eq_true rfl), (Nat.le_of_ble_eq_true rfl)⟩) hS (fun q _ h => h) (fun q h => h) (fun q _ h => h) (fun E ce q9 u t H1 locs1 ht hvm hpx hbx hz1 hk1 hS hce hcv hcl => vx_out (fun x9 hx9 => (htb x9 hx9).elim) hlocks hce hcv hcl (fun t2 ht2 hvm2 => ⟨(), trivial, ⟨Or.inl hbx.1.1, by rw [ht2, ← ht]; exact hbx.2⟩, hS.F ht2⟩) hS.2.2 (Nat.le_of_ble_eq_true rfl) (Nat.le_of_ble_eq_true rfl)) (fun u8 t8 H1 locs ht8 hvm8 hw_1 hB hz1 hk1 hS => ?_)
  obtain ⟨⟩ := u8
  try dsimp only at hw_1 hB
  rw [ht8] at hB
  have hP := hB
  generalize H1 = H at hP hS ⊢
  refine W.cs (cells' := 1) (slots' := 6) (by omega) (by omega) ?_
  obtain ⟨r1, hr1, er1, -⟩ := k_nat (x := v) (by omega)
  subst hr1
  refine lv_iload_n hx hb dX9_bits_4 rfl (lv_at hl 2 rfl) ?_
  refine vx_callv (vx_runS (As := [.int w1]) (rest := []) ⟨hx, hb, hml, hown, hts⟩ (c_W9_ckSide l hlt dC dI A ad cA g w1 ) (va_cwS 1 hts (goodIn_app (goodIn_r [Cond.methodLink RX9 231 yX9_checkSide, Cond.static yX9_checkSide, Cond.initialized RX9] [4, 5, 3] rfl rfl) (goodIn_sub (fun w9 h9 => bk1 w9 h9) gw_W9_ckSide)) rfl rfl rfl (by decide +kernel) ⟨Nat.le_of_ble_eq_true rfl, Nat.le_of_ble_eq_true rfl⟩) ⟨fun a U g mk q => ⟨q.1, ⟨q.2.1.1, q.2.1.2.1, LY.moved (u := U) (U := U.calling g mk a) (Vm.Alike.refl U.vm) q.2.1.2.2⟩, exF.same rfl rfl q.2.2⟩, fun U hU hW => ⟨rfl, ⟨by rw [hU]; exact fun q h => hA q (Nat.le_trans hS.1 h), by rw [hU]; exact hP, LY.moved hW.alike hL⟩, by rw [hU]; exact exF.warm hW (exF.kept hE hS.2.1)⟩⟩ rfl rfl hl.1 rfl (lv_room (Nat.le_of_ble_eq_true rfl)) dX9_bits_5 ⟨(Nat.le_of_ble_eq_true rfl), (Nat.le_of_ble_eq_true rfl)⟩) hS (fun q _ h => h) (fun q h => h) (fun q _ h => h) (fun E ce q9 u t H1 locs1 ht hvm hpx hbx hz1 hk1 hS hce hcv hcl => vx_out (fun x9 hx9 => (htb x9 hx9).elim) hlocks hce hcv hcl (fun t2 ht2 hvm2 => ⟨(), trivial, ⟨Or.inr hbx.1.1, by rw [ht2, ← ht]; exact hbx.2⟩, hS.F ht2⟩) hS.2.2 (Nat.le_of_ble_eq_true rfl) (Nat.le_of_ble_eq_true rfl)) (fun u8 t8 H1 locs ht8 hvm8 hw_2 hB hz1 hk1 hS => ?_)
  obtain ⟨⟩ := u8
  try dsimp only at hw_2 hB
  rw [ht8] at hB
  have hP := hB
  generalize H1 = H at hP hS ⊢
  refine W.cs (cells' := 2) (slots' := 12) (by omega) (by omega) ?_
  refine lv_aload_n hx hb dX9_bits_8 rfl (lv_at hl 0 rfl) ?_
  refine lv_iload_n hx hb dX9_bits_9 rfl (lv_at hl 1 rfl) ?_
  refine lv_iload_n hx hb dX9_bits_10 rfl (lv_at hl 2 rfl) ?_
  refine va_callr (va_runV (As := [.int (nI r1), .int w1]) (rest := []) ⟨hx, hb, hml, hown, hts⟩ (c_W9_side l dC dI A ad cA g L nm tx ty wp r1 w1 hI (by omega)) (cwV 2 hts (goodIn_app (goodIn_r [Cond.methodLink RX9 234 yX9_side, Cond.instanceMethod yX9_side, Cond.selects RX9 yX9_side yX9_side, Cond.initialized RX9] [6, 7, 8, 3] rfl rfl) (goodIn_sub (fun w9 h9 => bk2 w9 h9) gw_W9_side)) rfl rfl rfl (by decide +kernel) ⟨Nat.le_of_ble_eq_true rfl, Nat.le_of_ble_eq_true rfl⟩) ⟨fun a U g mk q => ⟨q.1, q.2.1, q.2.2.1, LY.moved (u := U) (U := U.calling g mk a) (Vm.Alike.refl U.vm) q.2.2.2⟩, va_recv hK hP (ci := 12) (q0 := 2076) rfl (wo_at (by decide) d0), fun U hU hW => ⟨rfl, by rw [hU]; exact fun q h => hA q (Nat.le_trans hS.1 h), by rw [hU]; exact hP, LY.moved hW.alike hL⟩⟩ rfl rfl hl.1 rfl (lv_room (Nat.le_of_ble_eq_true rfl)) dX9_bits_11 ⟨(Nat.le_of_ble_eq_true rfl), (Nat.le_of_ble_eq_true rfl)⟩) hS (fun q _ h => h) (fun q h => h) (fun u8 r_3 t8 H1 locs ht8 hvm8 hw_4 hB hz1 hk1 hS => ?_)
  obtain ⟨q_5, rfl⟩ : ∃ z, z = u8 := ⟨_, rfl⟩
  obtain ⟨hra, hB⟩ := hB
  try dsimp only at hw_4 hB hra
  rw [ht8] at hB
  have hP := hB
  subst hra
  generalize H1 = H at hP hS ⊢
  obtain ⟨mw_6, sw_6, nw_6, fw_6, aw_6, bw_6, cw_6, dw_6, ew_6⟩ := hWo q_5 (by omega)
  have qw_6 : mw_6 ≤ 4096 := by rw [dw_6]; exact rmc_le _
  refine va_calli (va_runV (As := []) (rest := []) ⟨hx, hb, hml, hown, hts⟩ (c_X8_bitLength l dC dI A ad cA g q_5 hWo (by omega)) (cwV 0 hts (goodIn_app (goodIn_r [Cond.methodLink RX9 238 yX8_bitLength, Cond.instanceMethod yX8_bitLength, Cond.selects RX8 yX8_bitLength yX8_bitLength, Cond.initialized RX8] [9, 10, 11, 12] rfl rfl) (goodIn_sub (fun w9 h9 => bk3 w9 h9) gw_X8_bitLength)) rfl rfl rfl (by decide +kernel) ⟨Nat.le_of_ble_eq_true rfl, Nat.le_of_ble_eq_true rfl⟩) ⟨fun a U g mk q => ⟨q.1, q.2.1, q.2.2.1, LY.moved (u := U) (U := U.calling g mk a) (Vm.Alike.refl U.vm) q.2.2.2⟩, va_recv hK hP (ci := 11) (q0 := (2 * q_5)) rfl (wo_at (ns_w (by omega)) aw_6), fun U hU hW => ⟨rfl, by rw [hU]; exact fun q h => hA q (Nat.le_trans hS.1 h), by rw [hU]; exact hP, LY.moved hW.alike hL⟩⟩ rfl rfl hl.1 rfl (lv_room (Nat.le_of_ble_eq_true rfl)) dX9_bits_14 ⟨(Nat.le_of_ble_eq_true rfl), (Nat.le_of_ble_eq_true rfl)⟩) hS (fun q _ h => h) (fun q h => h) (fun r_7 u8 t8 H1 locs ht8 hvm8 hw_8 hB hz1 hk1 hS => ?_)
  obtain ⟨⟩ := u8
  try dsimp only at hw_8 hB
  rw [ht8] at hB
  have hP := hB
  generalize H1 = H at hP hS ⊢
  refine vx_ret ?_
  refine W.widen (k := 10) (n := 60) (by omega) (by omega) ?_
  exact W.iret (v := r_7) hx hb hr (fun t9 ht9 hW9 => ⟨⟨r_7, (), rfl, trivial, by show va_P (dC, dI) vwCl _ t9.heap; rw [ht9]; exact hP⟩, hS.F ht9⟩) hS.2.2 dX9_bits_17
def wd_W9_word : List Cond := .code yX9_word cX9_word 5 (some .int) :: (([.methodLink RX9 175 yX9_checkResult, .static yX9_checkResult, .initialized RX9, .classLink RX9 241 "java/lang/IndexOutOfBoundsException", .initialized "java/lang/IndexOutOfBoundsException", .methodLink RX9 231 yX9_checkSide, .static yX9_checkSide, .methodLink RX9 234 yX9_side, .instanceMethod yX9_side, .selects RX9 yX9_side yX9_side, .fieldLink RX9 246 "GradientDesk$Whole" "size" "I", .fieldLink RX9 249 "GradientDesk$Whole" "words" "[I"] : List Cond) ++ (wd_W9_ckRes ++ ((vx_atS RX9 245 "java/lang/IndexOutOfBoundsException" ["java/lang/RuntimeException", "java/lang/Exception"]).filter goodWord ++ (wd_W9_ckSide ++ (wd_W9_side ++ (u_ws RX8 TX8 3 ++ ([])))))))
theorem gw_W9_word : wd_W9_word.all goodWord = true := k_allc rfl (k_all (by decide +kernel) (k_all (gw_W9_ckRes) (k_all (k_allf _ _) (k_all (gw_W9_ckSide) (k_all (gw_W9_side) (k_all (gu_X8) (rfl)))))))
set_option maxHeartbeats 4000000 in
set_option maxRecDepth 100000 in
theorem c_W9_word (l : Launch) (hlt : l.stackTraces = false) (dC : Nat → ClassId) (dI : Nat → Nat → Nat) (A : Nat → Prop) (ad : Nat → Nat) (cA : Nat → ClassId) (g : Nat → va_E) (L : List PD) (nm : Nat → Int) (tx : Nat → Nat) (ty : Nat) (wp : Int32) (v : Int32) (w1 : Int32) (w2 : Int32) (hI : CIS ad cA g L nm tx ty wp) : vx_Met l yX9_word wd_W9_word ({ frames := 40, cells := 10, slots := 60, locals := 800 }) (va_Pc [.ref (ad 2076), .int v, .int w1, .int w2] (fun U => PR NSc tyc dC dI A ad cA g U ∧ exF A U U.heap)) (va_Qi (fun (r : Int32) => fun (u : Unit) => match u with | () => True) (fun (u : Unit) (t : State) => va_P (dC, dI) vwCl (wo ad NSc g) t.heap) A) (vx_X (fun _ : Unit => True) (fun E _ t => (E = "java/lang/IndexOutOfBoundsException" ∨ E = "java/lang/IllegalArgumentException") ∧ va_P (dC, dI) vwCl (wo ad NSc g) t.heap) A) (10) (60) A := by
  refine vx_ofW (cc := cX9_word) (maxL := 5) (ret := (some .int)) (by decide) rfl ?_
  intro p e s m args below meth c s₁ B hml htb hv
  obtain ⟨rfl, ⟨hA, hP, hL⟩, hE⟩ := hv
  have hx := B.exec
  have hb := B.bytes
  have hr := B.returns
  have hts := atoms_spec (ws := wd_W9_word) B.pre
  have hown : s.vm.findClass RX9 = some m.cls := findClass_of_methodNamed B.named
  have hlocks := B.notSynchronized
  have hK := hL.1
  have hD : ∀ g, va_D A (wo ad NSc g) := fun g => wo_D hL.2.1 hL.2.2 g
  have hS : va_S A s.heap s.heap [] := va_S.rf
  have bk0 : ∀ w ∈ wd_W9_ckRes, w ∈ wd_W9_word := fun _ h => List.mem_cons_of_mem _ (List.mem_append_right _ (List.mem_append_left _ h))
  have bk1 : ∀ w ∈ (vx_atS RX9 245 "java/lang/IndexOutOfBoundsException" ["java/lang/RuntimeException", "java/lang/Exception"]).filter goodWord, w ∈ wd_W9_word := fun _ h => List.mem_cons_of_mem _ (List.mem_append_right _ (List.mem_append_right _ (List.mem_append_left _ h)))
  have bk2 : ∀ w ∈ wd_W9_ckSide, w ∈ wd_W9_word := fun _ h => List.mem_cons_of_mem _ (List.mem_append_right _ (List.mem_append_right _ (List.mem_append_right _ (List.mem_append_left _ h))))
  have bk3 : ∀ w ∈ wd_W9_side, w ∈ wd_W9_word := fun _ h => List.mem_cons_of_mem _ (List.mem_append_right _ (List.mem_append_right _ (List.mem_append_right _ (List.mem_append_right _ (List.mem_append_left _ h)))))
  have bk4 : ∀ w ∈ u_ws RX8 TX8 3, w ∈ wd_W9_word := fun _ h => List.mem_cons_of_mem _ (List.mem_append_right _ (List.mem_append_right _ (List.mem_append_right _ (List.mem_append_right _ (List.mem_append_right _ (List.mem_append_left _ h))))))
  have hl := lv_entry ([.ref (ad 2076), .int v, .int w1, .int w2]) (n := 5) (Nat.le_of_ble_eq_true rfl)
  rw [lg_entry_eq]
  generalize (lg_sl ([.ref (ad 2076), .int v, .int w1, .int w2]) ++ List.replicate (5 - (lg_sl ([.ref (ad 2076), .int v, .int w1, .int w2])).length) Slot.unset).toArray = ls at hl ⊢
  have hl : lv_has ls 5 [(0, .ref (ad 2076)), (1, .int v), (2, .int w1), (3, .int w2)] := hl
  have hi9 := hI
  obtain ⟨d0, hC, hWf, d3, d4, d5, d6, d7, d8, d9, da, db, dc⟩ := hi9
  unfold CDO at d0
  have hCo := hC
  obtain ⟨hLno, hWo, ⟨hAro, hWko, hPao, hFro⟩, hOo, pto, hPto, hMo⟩ := hCo
  unfold CSO at hOo
  have hpbo := hPto.2
  have hnl := hC.1
  obtain ⟨nA, nB, nC⟩ := id da
  obtain ⟨fa, fb, pA, pB⟩ := id db
  have hcr9c := d6
  obtain ⟨y0c, y1c, y2c, y3c, y4c, ⟨ftc, y5c⟩, fhc, y6c⟩ := hcr9c
  obtain ⟨Mx, hSm⟩ := id d8
  have hsc9z := hSm
  obtain ⟨lnz, wcz, flz, fwz, fdz, fzz, fqz, s1z, s2z, s3z, s4z, s5z, s6z, s7z, s8z, s9z, saz, sbz⟩ := hsc9z
  unfold SCO at s1z
  refine lv_iload_n hx hb dX9_word_0 rfl (lv_at hl 1 rfl) ?_
  refine vx_callv (vx_runS (As := [.int v]) (rest := []) ⟨hx, hb, hml, hown, hts⟩ (c_W9_ckRes l hlt dC dI A ad cA g v ) (va_cwS 1 hts (goodIn_app (goodIn_r [Cond.methodLink RX9 175 yX9_checkResult, Cond.static yX9_checkResult, Cond.initialized RX9] [1, 2, 3] rfl rfl) (goodIn_sub (fun w9 h9 => bk0 w9 h9) gw_W9_ckRes)) rfl rfl rfl (by decide +kernel) ⟨Nat.le_of_ble_eq_true rfl, Nat.le_of_ble_eq_true rfl⟩) ⟨fun a U g mk q => ⟨q.1, ⟨q.2.1.1, q.2.1.2.1, LY.moved (u := U) (U := U.calling g mk a) (Vm.Alike.refl U.vm) q.2.1.2.2⟩, exF.same rfl rfl q.2.2⟩, fun U hU hW => ⟨rfl, ⟨by rw [hU]; exact fun q h => hA q (Nat.le_trans hS.1 h), by rw [hU]; exact hP, LY.moved hW.alike hL⟩, by rw [hU]; exact exF.warm hW (exF.kept hE hS.2.1)⟩⟩ rfl rfl hl.1 rfl (lv_room (Nat.le_of_ble_eq_true rfl)) dX9_word_1 ⟨(Nat.le_of_ble_eq_true rfl), (Nat.le_of_ble_eq_true rfl)⟩) hS (fun q _ h => h) (fun q h => h) (fun q _ h => h) (fun E ce q9 u t H1 locs1 ht hvm hpx hbx hz1 hk1 hS hce hcv hcl => vx_out (fun x9 hx9 => (htb x9 hx9).elim) hlocks hce hcv hcl (fun t2 ht2 hvm2 => ⟨(), trivial, ⟨Or.inl hbx.1.1, by rw [ht2, ← ht]; exact hbx.2⟩, hS.F ht2⟩) hS.2.2 (Nat.le_of_ble_eq_true rfl) (Nat.le_of_ble_eq_true rfl)) (fun u8 t8 H1 locs ht8 hvm8 hw_1 hB hz1 hk1 hS => ?_)
  obtain ⟨⟩ := u8
  try dsimp only at hw_1 hB
  rw [ht8] at hB
  have hP := hB
  generalize H1 = H at hP hS ⊢
  refine W.cs (cells' := 1) (slots' := 6) (by omega) (by omega) ?_
  obtain ⟨r1, hr1, er1, -⟩ := k_nat (x := v) (by omega)
  subst hr1
  refine lv_iload_n hx hb dX9_word_4 rfl (lv_at hl 3 rfl) ?_
  refine lv_if_lt (tgt := 14) hx hb dX9_word_5 (by decide) (fun c_2 => ?_) (fun c_2 => ?_)
  · have c_2 := (k_lt w2 (nI 0)).mp c_2
    rw [show (nI 0).toInt = 0 from by decide] at c_2
    obtain ⟨sa_3, hstr_4⟩ := hE.2.2.1 (243, "there is no such word") (by decide +kernel)
    exact vx_throwS (own := RX9) (cls := "java/lang/IndexOutOfBoundsException") (text := "there is no such word") (names := ["java/lang/RuntimeException", "java/lang/Exception"]) (ik := 241) (is := 243) (ic := 245) (sa := sa_3) (A := A) hx hb hlt hown (by decide +kernel) (by decide +kernel) (hts (.classLink RX9 241 "java/lang/IndexOutOfBoundsException") (List.mem_of_getElem? (i := 4) rfl)) (hts (.initialized "java/lang/IndexOutOfBoundsException") (List.mem_of_getElem? (i := 5) rfl)) hstr_4 (vx_hat (B := [.declares (Bundle.initS "java/lang/RuntimeException"), .declares (Bundle.initS "java/lang/Exception"), .declares (Bundle.initS Bundle.tN), .castable "java/lang/IndexOutOfBoundsException" "java/lang/IndexOutOfBoundsException"]) (fun w hw => hts w (bk1 w hw)) (by decide +kernel) (vx_c (va_Nw.use rfl hE.2.2.2.1) (vx_c (va_Nw.use rfl hE.2.2.2.2.1) (vx_c (va_Nw.use rfl hE.2.2.2.2.2.1) (vx_c (va_Nw.use rfl hE.2.2.2.2.2.2.2.2.1) vx_n))))) (by decide +kernel) hE.1 hE.2.1 hS (by rw [hml]; exact hl.1) dX9_word_14 dX9_word_17 dX9_word_18 dX9_word_20 dX9_word_23 (fun x9 hx9 => (htb x9 hx9).elim) (Nat.le_of_ble_eq_true rfl) (Nat.le_of_ble_eq_true rfl) (Nat.le_of_ble_eq_true rfl) (Nat.le_of_ble_eq_true rfl) hlocks (fun t9 hvm9 h1 h2 => ⟨(), trivial, ⟨Or.inl rfl, wP_grow hP h2⟩, k_F hS h1 h2⟩) hS.2.2 (Nat.le_of_ble_eq_true rfl) (Nat.le_of_ble_eq_true rfl)
  · have c_2 := mt (k_lt w2 (nI 0)).mpr c_2
    rw [show (nI 0).toInt = 0 from by decide] at c_2
    refine lv_iload_n hx hb dX9_word_8 rfl (lv_at hl 3 rfl) ?_
    refine lv_bipush (v := nI 64) hx hb dX9_word_9 (by decide +kernel) ?_
    refine lv_icmp_lt (tgt := 24) hx hb dX9_word_11 (by decide) (fun c_5 => ?_) (fun c_5 => ?_)
    · have c_5 := (k_lt w2 (nI 64)).mp c_5
      rw [show (nI 64).toInt = 64 from by decide] at c_5
      obtain ⟨wn, hwn, ewn, -⟩ := k_nat (x := w2) (by omega)
      subst hwn
      refine lv_iload_n hx hb dX9_word_24 rfl (lv_at hl 2 rfl) ?_
      refine vx_callv (vx_runS (As := [.int w1]) (rest := []) ⟨hx, hb, hml, hown, hts⟩ (c_W9_ckSide l hlt dC dI A ad cA g w1 ) (va_cwS 1 hts (goodIn_app (goodIn_r [Cond.methodLink RX9 231 yX9_checkSide, Cond.static yX9_checkSide, Cond.initialized RX9] [6, 7, 3] rfl rfl) (goodIn_sub (fun w9 h9 => bk2 w9 h9) gw_W9_ckSide)) rfl rfl rfl (by decide +kernel) ⟨Nat.le_of_ble_eq_true rfl, Nat.le_of_ble_eq_true rfl⟩) ⟨fun a U g mk q => ⟨q.1, ⟨q.2.1.1, q.2.1.2.1, LY.moved (u := U) (U := U.calling g mk a) (Vm.Alike.refl U.vm) q.2.1.2.2⟩, exF.same rfl rfl q.2.2⟩, fun U hU hW => ⟨rfl, ⟨by rw [hU]; exact fun q h => hA q (Nat.le_trans hS.1 h), by rw [hU]; exact hP, LY.moved hW.alike hL⟩, by rw [hU]; exact exF.warm hW (exF.kept hE hS.2.1)⟩⟩ rfl rfl hl.1 rfl (lv_room (Nat.le_of_ble_eq_true rfl)) dX9_word_25 ⟨(Nat.le_of_ble_eq_true rfl), (Nat.le_of_ble_eq_true rfl)⟩) hS (fun q _ h => h) (fun q h => h) (fun q _ h => h) (fun E ce q9 u t H1 locs1 ht hvm hpx hbx hz1 hk1 hS hce hcv hcl => vx_out (fun x9 hx9 => (htb x9 hx9).elim) hlocks hce hcv hcl (fun t2 ht2 hvm2 => ⟨(), trivial, ⟨Or.inr hbx.1.1, by rw [ht2, ← ht]; exact hbx.2⟩, hS.F ht2⟩) hS.2.2 (Nat.le_of_ble_eq_true rfl) (Nat.le_of_ble_eq_true rfl)) (fun u8 t8 H1 locs ht8 hvm8 hw_6 hB hz1 hk1 hS => ?_)
      obtain ⟨⟩ := u8
      try dsimp only at hw_6 hB
      rw [ht8] at hB
      have hP := hB
      generalize H1 = H at hP hS ⊢
      refine W.cs (cells' := 2) (slots' := 12) (by omega) (by omega) ?_
      refine lv_aload_n hx hb dX9_word_28 rfl (lv_at hl 0 rfl) ?_
      refine lv_iload_n hx hb dX9_word_29 rfl (lv_at hl 1 rfl) ?_
      refine lv_iload_n hx hb dX9_word_30 rfl (lv_at hl 2 rfl) ?_
      refine va_callr (va_runV (As := [.int (nI r1), .int w1]) (rest := []) ⟨hx, hb, hml, hown, hts⟩ (c_W9_side l dC dI A ad cA g L nm tx ty wp r1 w1 hI (by omega)) (cwV 2 hts (goodIn_app (goodIn_r [Cond.methodLink RX9 234 yX9_side, Cond.instanceMethod yX9_side, Cond.selects RX9 yX9_side yX9_side, Cond.initialized RX9] [8, 9, 10, 3] rfl rfl) (goodIn_sub (fun w9 h9 => bk3 w9 h9) gw_W9_side)) rfl rfl rfl (by decide +kernel) ⟨Nat.le_of_ble_eq_true rfl, Nat.le_of_ble_eq_true rfl⟩) ⟨fun a U g mk q => ⟨q.1, q.2.1, q.2.2.1, LY.moved (u := U) (U := U.calling g mk a) (Vm.Alike.refl U.vm) q.2.2.2⟩, va_recv hK hP (ci := 12) (q0 := 2076) rfl (wo_at (by decide) d0), fun U hU hW => ⟨rfl, by rw [hU]; exact fun q h => hA q (Nat.le_trans hS.1 h), by rw [hU]; exact hP, LY.moved hW.alike hL⟩⟩ rfl rfl hl.1 rfl (lv_room (Nat.le_of_ble_eq_true rfl)) dX9_word_31 ⟨(Nat.le_of_ble_eq_true rfl), (Nat.le_of_ble_eq_true rfl)⟩) hS (fun q _ h => h) (fun q h => h) (fun u8 r_7 t8 H1 locs ht8 hvm8 hw_8 hB hz1 hk1 hS => ?_)
      obtain ⟨q_9, rfl⟩ : ∃ z, z = u8 := ⟨_, rfl⟩
      obtain ⟨hra, hB⟩ := hB
      try dsimp only at hw_8 hB hra
      rw [ht8] at hB
      have hP := hB
      subst hra
      generalize H1 = H at hP hS ⊢
      refine lv_astore (lv' := [(4, .ref (ad (2 * q_9))), (0, .ref (ad 2076)), (1, .int (nI r1)), (2, .int w1), (3, .int (nI wn))]) hx hb dX9_word_34 hl (by decide) rfl (fun ls hl => ?_)
      obtain ⟨mw_10, sw_10, nw_10, fw_10, aw_10, bw_10, cw_10, dw_10, ew_10⟩ := hWo q_9 (by omega)
      have qw_10 : mw_10 ≤ 4096 := by rw [dw_10]; exact rmc_le _
      refine lv_iload_n hx hb dX9_word_36 rfl (lv_at hl 4 rfl) ?_
      refine lv_aload hx hb dX9_word_37 (lv_at hl 0 rfl) ?_
      refine m_get (D := (dC, dI)) (v := .int (nI sw_10)) (C := RX8) (T := TX8) (N := 3) hx hb hts bk4 hown hK hP (2 * q_9) (ns_w (by omega)) aw_10 rfl 1 (by decide) (hts (.fieldLink RX9 246 "GradientDesk$Whole" "size" "I") (List.mem_of_getElem? (i := 11) rfl)) (fun _ h9 => h9) rfl dX9_word_39 ?_
      refine lv_icmp_ge (tgt := 55) hx hb dX9_word_42 (by decide) (fun c_11 => ?_) (fun c_11 => ?_)
      · have c_11 := (nI_leI (a := sw_10) (b := wn) (by omega) (by omega)).mp c_11
        refine lv_iconst (v := nI 0) hx hb dX9_word_55 (by decide +kernel) ?_
        refine vx_ret ?_
        refine W.widen (k := 10) (n := 60) (by omega) (by omega) ?_
        exact W.iret (v := nI 0) hx hb hr (fun t9 ht9 hW9 => ⟨⟨nI 0, (), rfl, trivial, by show va_P (dC, dI) vwCl _ t9.heap; rw [ht9]; exact hP⟩, hS.F ht9⟩) hS.2.2 dX9_word_56
      · have c_11 := mt (nI_leI (a := sw_10) (b := wn) (by omega) (by omega)).mpr c_11
        refine lv_aload hx hb dX9_word_45 (lv_at hl 0 rfl) ?_
        refine m_get (D := (dC, dI)) (v := .ref (ad (2 * q_9 + 1))) (C := RX8) (T := TX8) (N := 3) hx hb hts bk4 hown hK hP (2 * q_9) (ns_w (by omega)) aw_10 rfl 0 (by decide) (hts (.fieldLink RX9 249 "GradientDesk$Whole" "words" "[I") (List.mem_of_getElem? (i := 12) rfl)) (fun _ h9 => h9) rfl dX9_word_47 ?_
        refine lv_iload_n hx hb dX9_word_50 rfl (lv_at hl 4 rfl) ?_
        refine m_iald hx hb hK hP (2 * q_9 + 1) (ns_w (by omega)) (tyc_w (by omega)) bw_10 (i := wn) (by omega) (by omega) dX9_word_51 ?_
        refine lv_topi (fun x_12 e_13 => ?_)
        refine lv_goto (tgt := 56) hx hb dX9_word_52 (by decide) ?_
        refine vx_ret ?_
        refine W.widen (k := 10) (n := 60) (by omega) (by omega) ?_
        exact W.iret (v := x_12) hx hb hr (fun t9 ht9 hW9 => ⟨⟨x_12, (), rfl, trivial, by show va_P (dC, dI) vwCl _ t9.heap; rw [ht9]; exact hP⟩, hS.F ht9⟩) hS.2.2 dX9_word_56
    · have c_5 := mt (k_lt w2 (nI 64)).mpr c_5
      rw [show (nI 64).toInt = 64 from by decide] at c_5
      obtain ⟨sa_14, hstr_15⟩ := hE.2.2.1 (243, "there is no such word") (by decide +kernel)
      exact vx_throwS (own := RX9) (cls := "java/lang/IndexOutOfBoundsException") (text := "there is no such word") (names := ["java/lang/RuntimeException", "java/lang/Exception"]) (ik := 241) (is := 243) (ic := 245) (sa := sa_14) (A := A) hx hb hlt hown (by decide +kernel) (by decide +kernel) (hts (.classLink RX9 241 "java/lang/IndexOutOfBoundsException") (List.mem_of_getElem? (i := 4) rfl)) (hts (.initialized "java/lang/IndexOutOfBoundsException") (List.mem_of_getElem? (i := 5) rfl)) hstr_15 (vx_hat (B := [.declares (Bundle.initS "java/lang/RuntimeException"), .declares (Bundle.initS "java/lang/Exception"), .declares (Bundle.initS Bundle.tN), .castable "java/lang/IndexOutOfBoundsException" "java/lang/IndexOutOfBoundsException"]) (fun w hw => hts w (bk1 w hw)) (by decide +kernel) (vx_c (va_Nw.use rfl hE.2.2.2.1) (vx_c (va_Nw.use rfl hE.2.2.2.2.1) (vx_c (va_Nw.use rfl hE.2.2.2.2.2.1) (vx_c (va_Nw.use rfl hE.2.2.2.2.2.2.2.2.1) vx_n))))) (by decide +kernel) hE.1 hE.2.1 hS (by rw [hml]; exact hl.1) dX9_word_14 dX9_word_17 dX9_word_18 dX9_word_20 dX9_word_23 (fun x9 hx9 => (htb x9 hx9).elim) (Nat.le_of_ble_eq_true rfl) (Nat.le_of_ble_eq_true rfl) (Nat.le_of_ble_eq_true rfl) (Nat.le_of_ble_eq_true rfl) hlocks (fun t9 hvm9 h1 h2 => ⟨(), trivial, ⟨Or.inl rfl, wP_grow hP h2⟩, k_F hS h1 h2⟩) hS.2.2 (Nat.le_of_ble_eq_true rfl) (Nat.le_of_ble_eq_true rfl)
end
section
theorem drS_wf {L : List PD} {root v : Nat} (hW : WFL L) (hr : root < L.length) : ∀ n, n ≤ root + 1 → ((drS L (rchN L root (root + 1)) v n).1 = 0 ∨ (drS L (rchN L root (root + 1)) v n).1 < 0) ∧ WFL (drS L (rchN L root (root + 1)) v n).2.2 ∧ LE L (drS L (rchN L root (root + 1)) v n).2.2 ∧ ((drS L (rchN L root (root + 1)) v n).1 = 0 → ∀ j, j < n → rchN L root (root + 1) j = 1 → (drS L (rchN L root (root + 1)) v n).2.1 j < (drS L (rchN L root (root + 1)) v n).2.2.length) := by
  intro n
  induction n with
  | zero => intro _; exact ⟨Or.inl rfl, hW, LE.rf, fun _ j h => absurd h (Nat.not_lt_zero _)⟩
  | succ n ih =>
    intro hn
    obtain ⟨i1, i2, i3, i4⟩ := ih (by omega)
    obtain ⟨DD, hDD⟩ : ∃ z, z = drS L (rchN L root (root + 1)) v n := ⟨_, rfl⟩
    rw [← hDD] at i1 i2 i3 i4
    rcases i1 with h0 | h0
    · by_cases hR : rchN L root (root + 1) n = 1
      · have hop := der_ops (sf := fun j => ((DD.2.1 j : Nat) : Int)) (dv := DD.2.1) (i := n) hW hr (by omega) hR i3 (fun j hj h1 => ⟨rfl, i4 h0 j hj h1⟩)
        have hl := i3.1
        have hok := hop.okk (v := v) i2 (by omega)
        by_cases hk : (derL DD.2.2 n v DD.2.1).1 < 0
        · rw [drS_bad hDD.symm h0 hR hk]
          exact ⟨Or.inr hk, hok.1, i3.tr hok.2.1, fun h9 => absurd (show (derL DD.2.2 n v DD.2.1).1 = 0 from h9) (by omega)⟩
        · obtain ⟨x, hx⟩ : ∃ z : Nat, (derL DD.2.2 n v DD.2.1).1 = (z : Int) := ⟨(derL DD.2.2 n v DD.2.1).1.toNat, by omega⟩
          rw [drS_ok hDD.symm h0 hR hx]
          refine ⟨Or.inl rfl, hok.1, i3.tr hok.2.1, fun _ j hj h1 => ?_⟩
          have h5 := hok.2.1.1
          have h6 := hok.2.2 (by omega)
          show va_up DD.2.1 n x j < (derL DD.2.2 n v DD.2.1).2.length
          by_cases e : j = n
          · rw [e, va_up_self]; omega
          · rw [va_up_ne _ _ e]; have := i4 h0 j (by omega) h1; omega
      · rw [drS_no hDD.symm h0 hR]
        refine ⟨Or.inl h0, i2, i3, fun _ j hj h1 => ?_⟩
        by_cases e : j = n
        · rw [e] at h1; exact absurd h1 hR
        · exact i4 h0 j (by omega) h1
    · rw [show drS L (rchN L root (root + 1)) v (n + 1) = DD from drS_end hDD.symm h0 (by omega)]
      exact ⟨Or.inr h0, i2, i3, fun h9 => absurd h9 (by omega)⟩
section GTY
variable {tx : Nat → Nat} {ty : Nat}
theorem gst_ty {a d n k : Nat} (ha : a < ty) : (gst tx ty a d n k).2.1 ≤ ty := by
  unfold gst
  split
  · show a + 1 ≤ ty; omega
  · split
    · show a + 1 ≤ ty; omega
    · split
      · have h := patom_64 (tx := tx) (ty := ty) ha rfl
        split
        · exact h
        · exact h
      · split
        · split
          · rename_i h9
            have := nx_pos (tx := tx) (ty := ty) (a := a + 1) (by omega)
            show a + 2 ≤ ty; omega
          · show a + 1 ≤ ty; omega
        · split
          · show a + 1 ≤ ty; omega
          · split
            · show a + 1 ≤ ty; omega
            · show a ≤ ty; omega
theorem gram_ty : ∀ f a d n k, a ≤ ty → (gram tx ty f a d n k).2 ≤ ty := by
  intro f
  induction f with
  | zero => intro a d n k h; exact h
  | succ f ih =>
    intro a d n k h
    show (ite _ _ _ : Nat × Nat).2 ≤ ty
    split
    · rename_i ha
      split
      · exact gst_ty ha
      · exact ih _ _ _ _ (gst_ty ha)
    · exact h
end GTY
/-- what define does, where it answers -/
def DFC (tx : Nat → Nat) (ty : Nat) (nm : Nat → Int) (L : List PD) (vn : Nat) (pl r : Int32) (L2 : List PD) (nm2 : Nat → Int) : Prop :=
  ((gram tx ty 65 0 0 1 0).1 = 0 ∧ pl = nI (gram tx ty 65 0 0 1 0).2 ∧ r = -1 ∧ L2 = L ∧ nm2 = nm) ∨
  ((gram tx ty 65 0 0 1 0).1 = 1 ∧ pl = -1 ∧
    (((∃ k, k < ty ∧ 65 ≤ tx k ∧ tx k ≤ 72 ∧ nm (tx k - 65) < 0) ∧ r = -2 ∧ L2 = L ∧ nm2 = nm) ∨
     (KNN tx ty nm ∧
       (((exs (emR tx ty nm 65 0 1 []) (0, [], L)).1 < 0 ∧ r = iI (exs (emR tx ty nm 65 0 1 []) (0, [], L)).1 ∧ L2 = L ∧ nm2 = nm) ∨
        ((exs (emR tx ty nm 65 0 1 []) (0, [], L)).1 = 0 ∧ ∃ i, (exs (emR tx ty nm 65 0 1 []) (0, [], L)).2.1 = [i] ∧ r = nI i ∧ L2 = (exs (emR tx ty nm 65 0 1 []) (0, [], L)).2.2 ∧ nm2 = va_up nm vn ((i : Nat) : Int))))))
theorem NMS.set {cA : Nat → ClassId} {g g2 : Nat → va_E} {L L2 : List PD} {nm : Nat → Int} {vn i : Nat} (h : NMS cA g L nm) (hl : L.length ≤ L2.length) (h2 : L2.length ≤ 200) (hi : i < L2.length) (hc : g2 2104 = .inl (cA 2104, 8, .inl (fun j => iI (va_up nm vn ((i : Nat) : Int) j)))) : NMS cA g2 L2 (va_up nm vn ((i : Nat) : Int)) := by
  refine ⟨hc, fun j => ?_, fun j hj => ?_⟩
  · by_cases e : j = vn
    · rw [e, va_up_self]; omega
    · rw [va_up_ne _ _ e]; exact h.2.1 j
  · by_cases e : j = vn
    · rw [e, va_up_self]; omega
    · rw [va_up_ne _ _ e]; have := h.2.2 j hj; omega
end
section
def wd_W9_byte : List Cond := .code yX9_byteOf cX9_byteOf 3 (some .int) :: (([] : List Cond) ++ ([]))
theorem gw_W9_byte : wd_W9_byte.all goodWord = true := k_allc rfl (k_all (by decide +kernel) (rfl))
set_option maxHeartbeats 4000000 in
set_option maxRecDepth 100000 in
theorem c_W9_byte (l : Launch) (dC : Nat → ClassId) (dI : Nat → Nat → Nat) (A : Nat → Prop) (ad : Nat → Nat) (cA : Nat → ClassId) (g : Nat → va_E) (wl : Int64) (ib : Nat) (hib : ib < 8) : Met l yX9_byteOf wd_W9_byte ({ frames := 10, cells := 0, slots := 0, locals := 200 }) (va_Pc [.long wl, .int (nI ib)] (PR NSc tyc dC dI A ad cA g)) (va_Qi (fun (r : Int32) => fun (u : Unit) => match u with | () => r = nI (byt wl ib)) (fun (u : Unit) (t : State) => va_P (dC, dI) vwCl (wo ad NSc g) t.heap) A) (0) (0) A := by
  refine Met.ofW (cc := cX9_byteOf) (maxL := 3) (ret := (some .int)) (by decide) rfl ?_
  intro p e s m args below meth c s₁ B hml hv
  obtain ⟨rfl, hA, hP, hL⟩ := hv
  have hx := B.exec
  have hb := B.bytes
  have hr := B.returns
  have hts := atoms_spec (ws := wd_W9_byte) B.pre
  have hown : s.vm.findClass RX9 = some m.cls := findClass_of_methodNamed B.named
  have hlocks := B.notSynchronized
  have hK := hL.1
  have hD : ∀ g, va_D A (wo ad NSc g) := fun g => wo_D hL.2.1 hL.2.2 g
  have hS : va_S A s.heap s.heap [] := va_S.rf
  have hl := lv_entry ([.long wl, .int (nI ib)]) (n := 3) (Nat.le_of_ble_eq_true rfl)
  rw [lg_entry_eq]
  generalize (lg_sl ([.long wl, .int (nI ib)]) ++ List.replicate (3 - (lg_sl ([.long wl, .int (nI ib)])).length) Slot.unset).toArray = ls at hl ⊢
  have hl : lv_has ls 3 [(0, .long wl), (2, .int (nI ib))] := hl
  refine lv_lload_n hx hb dX9_byteOf_0 rfl (lv_at hl 0 rfl) ?_
  refine lv_bipush (v := nI 8) hx hb dX9_byteOf_1 (by decide +kernel) ?_
  refine lv_iload_n hx hb dX9_byteOf_3 rfl (lv_at hl 1 rfl) ?_
  refine lv_imul hx hb dX9_byteOf_4 ?_
  refine lv_topi (fun x_1 e_2 => ?_)
  obtain rfl : x_1 = nI (8 * ib) := e_2.trans (pk_mul 8 ib)
  refine lv_lushr hx hb dX9_byteOf_5 rfl ?_
  refine lv_topl (fun y_3 e_4 => ?_)
  refine lv_l2i hx hb dX9_byteOf_6 rfl ?_
  refine lv_topi (fun x_5 e_6 => ?_)
  refine lv_sipush (v := nI 255) hx hb dX9_byteOf_7 (by decide +kernel) ?_
  refine lv_iand hx hb dX9_byteOf_10 ?_
  refine lv_topi (fun x_7 e_8 => ?_)
  refine W.widen (k := 0) (n := 0) (by omega) (by omega) ?_
  exact W.iret (v := x_7) hx hb hr (fun t9 ht9 hW9 => ⟨⟨x_7, (), rfl, (by rw [e_8, e_6, e_4]; exact k_byteC wl hib), by show va_P (dC, dI) vwCl _ t9.heap; rw [ht9]; exact hP⟩, hS.F ht9⟩) hS.2.2 dX9_byteOf_11
def wd_W9_type : List Cond := .code yX9_type cX9_type 6 (some .int) :: (([.classLink RX9 90 "java/lang/IllegalArgumentException", .initialized "java/lang/IllegalArgumentException", .fieldLink RX9 19 "GradientDesk" "text" "LGradientDesk$Text;", .fieldLink RX9 103 "GradientDesk$Text" "length" "I", .methodLink RX9 97 yX9_byteOf, .static yX9_byteOf, .initialized RX9, .methodLink RX9 111 yX7_append, .instanceMethod yX7_append, .selects RX7 yX7_append yX7_append, .initialized RX7, .classLink RX9 106 "java/lang/IllegalStateException", .initialized "java/lang/IllegalStateException"] : List Cond) ++ ((vx_atS RX9 94 "java/lang/IllegalArgumentException" ["java/lang/RuntimeException", "java/lang/Exception"]).filter goodWord ++ (u_ws RX9 TX9 12 ++ (u_ws RX7 TX7 5 ++ (wd_W9_byte ++ (wd_W7_append ++ ((vx_atS RX9 110 "java/lang/IllegalStateException" ["java/lang/RuntimeException", "java/lang/Exception"]).filter goodWord ++ ([]))))))))
theorem gw_W9_type : wd_W9_type.all goodWord = true := k_allc rfl (k_all (by decide +kernel) (k_all (k_allf _ _) (k_all (gu_X9) (k_all (gu_X7) (k_all (gw_W9_byte) (k_all (gw_W7_append) (k_all (k_allf _ _) (rfl))))))))
set_option maxHeartbeats 4000000 in
set_option maxRecDepth 100000 in
theorem c_W9_type (l : Launch) (hlt : l.stackTraces = false) (dC : Nat → ClassId) (dI : Nat → Nat → Nat) (A : Nat → Prop) (ad : Nat → Nat) (cA : Nat → ClassId) (g : Nat → va_E) (L : List PD) (nm : Nat → Int) (tx : Nat → Nat) (ty : Nat) (wp : Int32) (wl : Int64) (n8 : Int32) (hI : CIS ad cA g L nm tx ty wp) : vx_Met l yX9_type wd_W9_type ({ frames := 20, cells := 10, slots := 60, locals := 400 }) (va_Pc [.ref (ad 2076), .long wl, .int n8] (fun U => PR NSc tyc dC dI A ad cA g U ∧ exF A U U.heap)) (va_Qi (fun (r : Int32) => fun (u : (Nat → va_E) × (Nat → Nat) × Nat) => match u with | (g2, tx2, kk) => CIS ad cA g2 L nm tx2 (ty + kk) wp ∧ goodT wl n8 ∧ n8 = nI kk ∧ kk ≤ 8 ∧ ty + kk ≤ 64 ∧ r = nI (ty + kk) ∧ (∀ j, j < ty → tx2 j = tx j) ∧ ∀ j, j < kk → tx2 (ty + j) = byt wl j) (fun (u : (Nat → va_E) × (Nat → Nat) × Nat) (t : State) => va_P (dC, dI) vwCl (wo ad NSc u.1) t.heap) A) (vx_X (fun _ : Unit => True) (fun E _ t => ((E = "java/lang/IllegalArgumentException" ∧ ¬ goodT wl n8) ∨ (E = "java/lang/IllegalStateException" ∧ goodT wl n8 ∧ ∃ k9 : Nat, n8 = nI k9 ∧ k9 ≤ 8 ∧ 64 < ty + k9)) ∧ va_P (dC, dI) vwCl (wo ad NSc g) t.heap) A) (10) (60) A := by
  refine vx_ofW (cc := cX9_type) (maxL := 6) (ret := (some .int)) (by decide) rfl ?_
  intro p e s m args below meth c s₁ B hml htb hv
  obtain ⟨rfl, ⟨hA, hP, hL⟩, hE⟩ := hv
  have hx := B.exec
  have hb := B.bytes
  have hr := B.returns
  have hts := atoms_spec (ws := wd_W9_type) B.pre
  have hown : s.vm.findClass RX9 = some m.cls := findClass_of_methodNamed B.named
  have hlocks := B.notSynchronized
  have hK := hL.1
  have hD : ∀ g, va_D A (wo ad NSc g) := fun g => wo_D hL.2.1 hL.2.2 g
  have hS : va_S A s.heap s.heap [] := va_S.rf
  have bk0 : ∀ w ∈ (vx_atS RX9 94 "java/lang/IllegalArgumentException" ["java/lang/RuntimeException", "java/lang/Exception"]).filter goodWord, w ∈ wd_W9_type := fun _ h => List.mem_cons_of_mem _ (List.mem_append_right _ (List.mem_append_left _ h))
  have bk1 : ∀ w ∈ u_ws RX9 TX9 12, w ∈ wd_W9_type := fun _ h => List.mem_cons_of_mem _ (List.mem_append_right _ (List.mem_append_right _ (List.mem_append_left _ h)))
  have bk2 : ∀ w ∈ u_ws RX7 TX7 5, w ∈ wd_W9_type := fun _ h => List.mem_cons_of_mem _ (List.mem_append_right _ (List.mem_append_right _ (List.mem_append_right _ (List.mem_append_left _ h))))
  have bk3 : ∀ w ∈ wd_W9_byte, w ∈ wd_W9_type := fun _ h => List.mem_cons_of_mem _ (List.mem_append_right _ (List.mem_append_right _ (List.mem_append_right _ (List.mem_append_right _ (List.mem_append_left _ h)))))
  have bk4 : ∀ w ∈ wd_W7_append, w ∈ wd_W9_type := fun _ h => List.mem_cons_of_mem _ (List.mem_append_right _ (List.mem_append_right _ (List.mem_append_right _ (List.mem_append_right _ (List.mem_append_right _ (List.mem_append_left _ h))))))
  have bk5 : ∀ w ∈ (vx_atS RX9 110 "java/lang/IllegalStateException" ["java/lang/RuntimeException", "java/lang/Exception"]).filter goodWord, w ∈ wd_W9_type := fun _ h => List.mem_cons_of_mem _ (List.mem_append_right _ (List.mem_append_right _ (List.mem_append_right _ (List.mem_append_right _ (List.mem_append_right _ (List.mem_append_right _ (List.mem_append_left _ h)))))))
  have hl := lv_entry ([.ref (ad 2076), .long wl, .int n8]) (n := 6) (Nat.le_of_ble_eq_true rfl)
  rw [lg_entry_eq]
  generalize (lg_sl ([.ref (ad 2076), .long wl, .int n8]) ++ List.replicate (6 - (lg_sl ([.ref (ad 2076), .long wl, .int n8])).length) Slot.unset).toArray = ls at hl ⊢
  have hl : lv_has ls 6 [(0, .ref (ad 2076)), (1, .long wl), (3, .int n8)] := hl
  have hi9 := hI
  obtain ⟨d0, hC, hWf, d3, d4, d5, d6, d7, d8, d9, da, db, dc⟩ := hi9
  unfold CDO at d0
  have hCo := hC
  obtain ⟨hLno, hWo, ⟨hAro, hWko, hPao, hFro⟩, hOo, pto, hPto, hMo⟩ := hCo
  unfold CSO at hOo
  have hpbo := hPto.2
  have hnl := hC.1
  obtain ⟨nA, nB, nC⟩ := id da
  obtain ⟨fa, fb, pA, pB⟩ := id db
  have hcr9c := d6
  obtain ⟨y0c, y1c, y2c, y3c, y4c, ⟨ftc, y5c⟩, fhc, y6c⟩ := hcr9c
  obtain ⟨Mx, hSm⟩ := id d8
  have hsc9z := hSm
  obtain ⟨lnz, wcz, flz, fwz, fdz, fzz, fqz, s1z, s2z, s3z, s4z, s5z, s6z, s7z, s8z, s9z, saz, sbz⟩ := hsc9z
  unfold SCO at s1z
  obtain ⟨sa, oz, dg, x1, x2, x3, x4, x5, x6, x7⟩ := id d3
  refine lv_iload_n hx hb dX9_type_0 rfl (lv_at hl 2 rfl) ?_
  refine lv_iconst (v := nI 1) hx hb dX9_type_1 (by decide +kernel) ?_
  refine lv_icmp_lt (tgt := 11) hx hb dX9_type_2 (by decide) (fun c_1 => ?_) (fun c_1 => ?_)
  · have c_1 := (k_lt n8 (nI 1)).mp c_1
    rw [show (nI 1).toInt = 1 from by decide] at c_1
    obtain ⟨sa_2, hstr_3⟩ := hE.2.2.1 (92, "n is not 1 .. 8") (by decide +kernel)
    exact vx_throwS (own := RX9) (cls := "java/lang/IllegalArgumentException") (text := "n is not 1 .. 8") (names := ["java/lang/RuntimeException", "java/lang/Exception"]) (ik := 90) (is := 92) (ic := 94) (sa := sa_2) (A := A) hx hb hlt hown (by decide +kernel) (by decide +kernel) (hts (.classLink RX9 90 "java/lang/IllegalArgumentException") (List.mem_of_getElem? (i := 1) rfl)) (hts (.initialized "java/lang/IllegalArgumentException") (List.mem_of_getElem? (i := 2) rfl)) hstr_3 (vx_hat (B := [.declares (Bundle.initS "java/lang/RuntimeException"), .declares (Bundle.initS "java/lang/Exception"), .declares (Bundle.initS Bundle.tN), .castable "java/lang/IllegalArgumentException" "java/lang/IllegalArgumentException"]) (fun w hw => hts w (bk0 w hw)) (by decide +kernel) (vx_c (va_Nw.use rfl hE.2.2.2.1) (vx_c (va_Nw.use rfl hE.2.2.2.2.1) (vx_c (va_Nw.use rfl hE.2.2.2.2.2.1) (vx_c (va_Nw.use rfl hE.2.2.2.2.2.2.1) vx_n))))) (by decide +kernel) hE.1 hE.2.1 hS (by rw [hml]; exact hl.1) dX9_type_11 dX9_type_14 dX9_type_15 dX9_type_17 dX9_type_20 (fun x9 hx9 => (htb x9 hx9).elim) (Nat.le_of_ble_eq_true rfl) (Nat.le_of_ble_eq_true rfl) (Nat.le_of_ble_eq_true rfl) (Nat.le_of_ble_eq_true rfl) hlocks (fun t9 hvm9 h1 h2 => ⟨(), trivial, ⟨Or.inl ⟨rfl, fun h8 => by have h7 := h8.1; have h6 := h8.2.1; omega⟩, wP_grow hP h2⟩, k_F hS h1 h2⟩) hS.2.2 (Nat.le_of_ble_eq_true rfl) (Nat.le_of_ble_eq_true rfl)
  · have c_1 := mt (k_lt n8 (nI 1)).mpr c_1
    rw [show (nI 1).toInt = 1 from by decide] at c_1
    refine lv_iload_n hx hb dX9_type_5 rfl (lv_at hl 2 rfl) ?_
    refine lv_bipush (v := nI 8) hx hb dX9_type_6 (by decide +kernel) ?_
    refine lv_icmp_le (tgt := 21) hx hb dX9_type_8 (by decide) (fun c_4 => ?_) (fun c_4 => ?_)
    · have c_4 := (k_le n8 (nI 8)).mp c_4
      rw [show (nI 8).toInt = 8 from by decide] at c_4
      obtain ⟨jn, hnj, hj1, hj2⟩ := k_nat (x := n8) (by omega)
      have hl : lv_has ls 6 [(0, .ref (ad 2076)), (1, .long wl), (3, .int (nI jn))] := by rw [← hnj]; exact hl
      have hj8 : 1 ≤ jn ∧ jn ≤ 8 := by omega
      refine lv_iconst (v := nI 0) hx hb dX9_type_21 (by decide +kernel) ?_
      refine lv_istore (lv' := [(4, .int (nI 0)), (0, .ref (ad 2076)), (1, .long wl), (3, .int (nI jn))]) hx hb dX9_type_22 hl (by decide) rfl (fun ls hl => ?_)
      have loop_5 : ∀ (k9 : Nat) (i : Nat), 300 - i < k9 → (i ≤ jn) → (∀ t : Nat, t < i → 32 ≤ byt wl t ∧ byt wl t ≤ 126) → ∀ (H : Heap) (locs : List Loc) (ls : Array Slot), va_P (dC, dI) vwCl (wo ad NSc g) H → va_S A s.heap H locs → lv_has ls 6 [(0, .ref (ad 2076)), (1, .long wl), (3, .int (nI jn)), (4, .int (nI i))] → W p l e (headSpec wd_W9_type ({ frames := 20, cells := 10, slots := 60, locals := 400 })).room s m ([.ref (ad 2076), .long wl, .int n8] : List Value).toArray below meth c H locs (0) (0) (vx_MQ below (va_Qi (fun (r : Int32) => fun (u : (Nat → va_E) × (Nat → Nat) × Nat) => match u with | (g2, tx2, kk) => CIS ad cA g2 L nm tx2 (ty + kk) wp ∧ goodT wl n8 ∧ n8 = nI kk ∧ kk ≤ 8 ∧ ty + kk ≤ 64 ∧ r = nI (ty + kk) ∧ (∀ j, j < ty → tx2 j = tx j) ∧ ∀ j, j < kk → tx2 (ty + j) = byt wl j) (fun (u : (Nat → va_E) × (Nat → Nat) × Nat) (t : State) => va_P (dC, dI) vwCl (wo ad NSc u.1) t.heap) A) (vx_X (fun _ : Unit => True) (fun E _ t => ((E = "java/lang/IllegalArgumentException" ∧ ¬ goodT wl n8) ∨ (E = "java/lang/IllegalStateException" ∧ goodT wl n8 ∧ ∃ k9 : Nat, n8 = nI k9 ∧ k9 ≤ 8 ∧ 64 < ty + k9)) ∧ va_P (dC, dI) vwCl (wo ad NSc g) t.heap) A) ([.ref (ad 2076), .long wl, .int n8] : List Value).toArray s (10) (60) A) (F0 m 24 ls []) := by
        intro k9
        induction k9 with
        | zero => intro i h9; exact absurd h9 (Nat.not_lt_zero _)
        | succ k9 ih_6 =>
          intro i h9 hi hg H locs ls hP hS hl
          refine lv_iload hx hb dX9_type_24 (lv_at hl 3 rfl) ?_
          refine lv_iload_n hx hb dX9_type_26 rfl (lv_at hl 2 rfl) ?_
          refine lv_icmp_ge (tgt := 68) hx hb dX9_type_27 (by decide) (fun c_9 => ?_) (fun c_9 => ?_)
          · have c_9 := (nI_leI (a := jn) (b := i) (by omega) (by omega)).mp c_9
            have hgood : goodT wl n8 := ⟨by omega, by omega, fun t h => hg t (by omega)⟩
            refine lv_aload_n hx hb dX9_type_68 rfl (lv_at hl 0 rfl) ?_
            refine m_get (D := (dC, dI)) (v := .ref (ad 2078)) (C := RX9) (T := TX9) (N := 12) hx hb hts bk1 hown hK hP 2076 (by decide) d0 rfl 1 (by decide) (hts (.fieldLink RX9 19 "GradientDesk" "text" "LGradientDesk$Text;") (List.mem_of_getElem? (i := 3) rfl)) (fun _ h9 => h9) rfl dX9_type_69 ?_
            refine m_get (D := (dC, dI)) (v := .int (nI ty)) (C := RX7) (T := TX7) (N := 5) hx hb hts bk2 hown hK hP 2078 (by decide) x1 rfl 1 (by decide) (hts (.fieldLink RX9 103 "GradientDesk$Text" "length" "I") (List.mem_of_getElem? (i := 4) rfl)) (fun _ h9 => h9) rfl dX9_type_72 ?_
            refine lv_iload_n hx hb dX9_type_75 rfl (lv_at hl 2 rfl) ?_
            refine lv_iadd hx hb dX9_type_76 ?_
            refine lv_topi (fun x_10 e_11 => ?_)
            obtain rfl : x_10 = nI (ty + jn) := e_11.trans (nI_add ty jn)
            refine lv_bipush (v := nI 64) hx hb dX9_type_77 (by decide +kernel) ?_
            refine lv_icmp_le (tgt := 92) hx hb dX9_type_79 (by decide) (fun c_12 => ?_) (fun c_12 => ?_)
            · have c_12 := (nI_leI (a := (ty + jn)) (b := 64) (by omega) (by decide)).mp c_12
              refine lv_iconst (v := nI 0) hx hb dX9_type_92 (by decide +kernel) ?_
              refine lv_istore (lv' := [(4, .int (nI 0)), (0, .ref (ad 2076)), (1, .long wl), (3, .int (nI jn))]) hx hb dX9_type_93 hl (by decide) rfl (fun ls hl => ?_)
              have loop_13 : ∀ (k9 : Nat) (i : Nat) (t1 : Nat → Nat) (g_15 : Nat → va_E) (fr_16 : ∀ k, (k ≠ 2078 ∧ k ≠ 2079) → g_15 k = g k), 300 - i < k9 → (i ≤ jn) → (∀ j, t1 j < 127) → (∀ j, j < ty → t1 j = tx j) → (∀ j, j < i → t1 (ty + j) = byt wl j) → (g_15 2078 = .inr (10, [.ref (ad 2079), .int (nI (ty + i)), .int (nI sa), .int (iI oz), .int (nI dg)])) → (g_15 2079 = .inl (cA 2079, 64, .inl (fun j => nI (t1 j)))) → ∀ (H : Heap) (locs : List Loc) (ls : Array Slot), va_P (dC, dI) vwCl (wo ad NSc g_15) H → va_S A s.heap H locs → lv_has ls 6 [(0, .ref (ad 2076)), (1, .long wl), (3, .int (nI jn)), (4, .int (nI i))] → W p l e (headSpec wd_W9_type ({ frames := 20, cells := 10, slots := 60, locals := 400 })).room s m ([.ref (ad 2076), .long wl, .int n8] : List Value).toArray below meth c H locs (0) (0) (vx_MQ below (va_Qi (fun (r : Int32) => fun (u : (Nat → va_E) × (Nat → Nat) × Nat) => match u with | (g2, tx2, kk) => CIS ad cA g2 L nm tx2 (ty + kk) wp ∧ goodT wl n8 ∧ n8 = nI kk ∧ kk ≤ 8 ∧ ty + kk ≤ 64 ∧ r = nI (ty + kk) ∧ (∀ j, j < ty → tx2 j = tx j) ∧ ∀ j, j < kk → tx2 (ty + j) = byt wl j) (fun (u : (Nat → va_E) × (Nat → Nat) × Nat) (t : State) => va_P (dC, dI) vwCl (wo ad NSc u.1) t.heap) A) (vx_X (fun _ : Unit => True) (fun E _ t => ((E = "java/lang/IllegalArgumentException" ∧ ¬ goodT wl n8) ∨ (E = "java/lang/IllegalStateException" ∧ goodT wl n8 ∧ ∃ k9 : Nat, n8 = nI k9 ∧ k9 ≤ 8 ∧ 64 < ty + k9)) ∧ va_P (dC, dI) vwCl (wo ad NSc g) t.heap) A) ([.ref (ad 2076), .long wl, .int n8] : List Value).toArray s (10) (60) A) (F0 m 95 ls []) := by
                intro k9
                induction k9 with
                | zero => intro i t1 g_15 fr_16 h9; exact absurd h9 (Nat.not_lt_zero _)
                | succ k9 ih_14 =>
                  intro i t1 g_15 fr_16 h9 hi2 ht1 ht2 ht3 f_17 f_18 H locs ls hP hS hl
                  refine lv_iload hx hb dX9_type_95 (lv_at hl 3 rfl) ?_
                  refine lv_iload_n hx hb dX9_type_97 rfl (lv_at hl 2 rfl) ?_
                  refine lv_icmp_ge (tgt := 121) hx hb dX9_type_98 (by decide) (fun c_19 => ?_) (fun c_19 => ?_)
                  · have c_19 := (nI_leI (a := jn) (b := i) (by omega) (by omega)).mp c_19
                    refine lv_aload_n hx hb dX9_type_121 rfl (lv_at hl 0 rfl) ?_
                    have f_20 : g_15 2076 = .inr (12, [.ref (ad 2077), .ref (ad 2078), .ref (ad 2080), .ref (ad 2084), .ref (ad 2090), .ref (ad 2097), .ref (ad 2103), .ref (ad 2108), .ref (ad 2104), .ref (ad 2105), .ref (ad 2106), .int wp]) := (fr_16 2076 (by omega)).trans d0
                    refine m_get (D := (dC, dI)) (v := .ref (ad 2078)) (C := RX9) (T := TX9) (N := 12) hx hb hts bk1 hown hK hP 2076 (by decide) f_20 rfl 1 (by decide) (hts (.fieldLink RX9 19 "GradientDesk" "text" "LGradientDesk$Text;") (List.mem_of_getElem? (i := 3) rfl)) (fun _ h9 => h9) rfl dX9_type_122 ?_
                    refine m_get (D := (dC, dI)) (v := .int (nI (ty + i))) (C := RX7) (T := TX7) (N := 5) hx hb hts bk2 hown hK hP 2078 (by decide) f_17 rfl 1 (by decide) (hts (.fieldLink RX9 103 "GradientDesk$Text" "length" "I") (List.mem_of_getElem? (i := 4) rfl)) (fun _ h9 => h9) rfl dX9_type_125 ?_
                    have hij : i = jn := by omega
                    have hTn : TXS ad cA g_15 t1 (ty + i) := ⟨sa, oz, dg, f_17, x2, x3, x4, f_18, ht1, by omega⟩
                    have hAW_22 : AW ad cA g_15 := AW.keep hWo (fun (k : Nat) (hk : k < 2076) => (fr_16 k (by omega)).trans (rfl))
                    have hC_21 : CS ad cA g_15 L := CS.same hC hAW_22 (fun (k : Nat) (hk : (76 ≤ k ∧ k < 876) ∨ k = 2077 ∨ k = 2107 ∨ k = 2080 ∨ k = 2081 ∨ (2117 ≤ k ∧ k < 2517)) => (fr_16 k (by omega)).trans (rfl))
                    refine vx_ret ?_
                    refine W.widen (k := 10) (n := 60) (by omega) (by omega) ?_
                    exact W.iret (v := nI (ty + i)) hx hb hr (fun t9 ht9 hW9 => ⟨⟨nI (ty + i), (g_15, t1, i), rfl, ⟨⟨f_20, hC_21, hWf, hTn, (d4.same (fun (k : Nat) (hk : 2084 ≤ k ∧ k ≤ 2088) => (fr_16 k (by omega)).trans (rfl))), (d5.same (fun (k : Nat) (hk : k = 2089) => (fr_16 k (by omega)).trans (rfl))), (d6.same (fun (k : Nat) (hk : 2090 ≤ k ∧ k ≤ 2096) => (fr_16 k (by omega)).trans (rfl))), (d7.same (fun (k : Nat) (hk : k = 2082) => (fr_16 k (by omega)).trans (rfl))), (d8.same (fun (k : Nat) (hk : 2097 ≤ k ∧ k ≤ 2102) => (fr_16 k (by omega)).trans (rfl))), (d9.same (fun (k : Nat) (hk : k = 2083) => (fr_16 k (by omega)).trans (rfl))), (da.same (fun (k : Nat) (hk : k = 2104) => (fr_16 k (by omega)).trans (rfl))), (db.same (fun (k : Nat) (hk : k = 2105 ∨ k = 2106) => (fr_16 k (by omega)).trans (rfl))), (dc.same (fun (k : Nat) (hk : k = 2103 ∨ (2108 ≤ k ∧ k < 2117)) => (fr_16 k (by omega)).trans (rfl)))⟩, hgood, by rw [hij]; exact hnj, by omega, by omega, rfl, ht2, ht3⟩, by show va_P (dC, dI) vwCl _ t9.heap; rw [ht9]; exact hP⟩, hS.F ht9⟩) hS.2.2 dX9_type_128
                  · have c_19 := mt (nI_leI (a := jn) (b := i) (by omega) (by omega)).mpr c_19
                    refine lv_aload_n hx hb dX9_type_101 rfl (lv_at hl 0 rfl) ?_
                    have f_23 : g_15 2076 = .inr (12, [.ref (ad 2077), .ref (ad 2078), .ref (ad 2080), .ref (ad 2084), .ref (ad 2090), .ref (ad 2097), .ref (ad 2103), .ref (ad 2108), .ref (ad 2104), .ref (ad 2105), .ref (ad 2106), .int wp]) := (fr_16 2076 (by omega)).trans d0
                    refine m_get (D := (dC, dI)) (v := .ref (ad 2078)) (C := RX9) (T := TX9) (N := 12) hx hb hts bk1 hown hK hP 2076 (by decide) f_23 rfl 1 (by decide) (hts (.fieldLink RX9 19 "GradientDesk" "text" "LGradientDesk$Text;") (List.mem_of_getElem? (i := 3) rfl)) (fun _ h9 => h9) rfl dX9_type_102 ?_
                    refine lv_lload_n hx hb dX9_type_105 rfl (lv_at hl 1 rfl) ?_
                    refine lv_iload hx hb dX9_type_106 (lv_at hl 3 rfl) ?_
                    refine va_calli (va_runS (As := [.long wl, .int (nI i)]) (rest := [.ref (ad 2078)]) ⟨hx, hb, hml, hown, hts⟩ (c_W9_byte l dC dI A ad cA g_15 wl i (by omega)) (va_cwS 2 hts (goodIn_app (goodIn_r [Cond.methodLink RX9 97 yX9_byteOf, Cond.static yX9_byteOf, Cond.initialized RX9] [5, 6, 7] rfl rfl) (goodIn_sub (fun w9 h9 => bk3 w9 h9) gw_W9_byte)) rfl rfl rfl (by decide +kernel) ⟨Nat.le_of_ble_eq_true rfl, Nat.le_of_ble_eq_true rfl⟩) ⟨fun a U g mk q => ⟨q.1, q.2.1, q.2.2.1, LY.moved (u := U) (U := U.calling g mk a) (Vm.Alike.refl U.vm) q.2.2.2⟩, fun U hU hW => ⟨rfl, by rw [hU]; exact fun q h => hA q (Nat.le_trans hS.1 h), by rw [hU]; exact hP, LY.moved hW.alike hL⟩⟩ rfl rfl hl.1 rfl (lv_room (Nat.le_of_ble_eq_true rfl)) dX9_type_108 ⟨(Nat.le_of_ble_eq_true rfl), (Nat.le_of_ble_eq_true rfl)⟩) hS (fun q _ h => h) (fun q h => h) (fun r_24 u8 t8 H1 locs ht8 hvm8 hw_25 hB hz1 hk1 hS => ?_)
                    obtain ⟨⟩ := u8
                    try dsimp only at hw_25 hB
                    rw [ht8] at hB
                    have hP := hB
                    generalize H1 = H at hP hS ⊢
                    subst hw_25
                    have hbl := byt_lt wl i
                    refine lv_i2c hx hb dX9_type_111 rfl ?_
                    refine lv_topi (fun x_26 e_27 => ?_)
                    obtain rfl : x_26 = nI (byt wl i) := e_27.trans (k_i2c (by omega))
                    have hgi := hg i (by omega)
                    refine va_callv (va_runV (As := [.int (nI (byt wl i))]) (rest := []) ⟨hx, hb, hml, hown, hts⟩ (c_W7_append l dC dI A ad cA g_15 (ty + i) sa oz dg t1 (byt wl i) f_17 x2 x3 x4 (by omega) f_18 ht1 (by omega)) (cwV 1 hts (goodIn_app (goodIn_r [Cond.methodLink RX9 111 yX7_append, Cond.instanceMethod yX7_append, Cond.selects RX7 yX7_append yX7_append, Cond.initialized RX7] [8, 9, 10, 11] rfl rfl) (goodIn_sub (fun w9 h9 => bk4 w9 h9) gw_W7_append)) rfl rfl rfl (by decide +kernel) ⟨Nat.le_of_ble_eq_true rfl, Nat.le_of_ble_eq_true rfl⟩) ⟨fun a U g mk q => ⟨q.1, q.2.1, q.2.2.1, LY.moved (u := U) (U := U.calling g mk a) (Vm.Alike.refl U.vm) q.2.2.2⟩, va_recv hK hP (ci := 10) (q0 := 2078) rfl (wo_at (by decide) f_17), fun U hU hW => ⟨rfl, by rw [hU]; exact fun q h => hA q (Nat.le_trans hS.1 h), by rw [hU]; exact hP, LY.moved hW.alike hL⟩⟩ rfl rfl hl.1 rfl (lv_room (Nat.le_of_ble_eq_true rfl)) dX9_type_112 ⟨(Nat.le_of_ble_eq_true rfl), (Nat.le_of_ble_eq_true rfl)⟩) hS (fun q _ h => h) (fun q h => h) (fun u8 t8 H1 locs ht8 hvm8 hw_28 hB hz1 hk1 hS => ?_)
                    obtain ⟨g_29, rfl⟩ : ∃ z, z = u8 := ⟨_, rfl⟩
                    try dsimp only at hw_28 hB
                    rw [ht8] at hB
                    have hP := hB
                    generalize H1 = H at hP hS ⊢
                    obtain ⟨fr_30, hT2, hT3⟩ := hw_28
                    refine lv_iinc (v := nI (i + 1)) (lv' := [(4, .int (nI (i + 1))), (0, .ref (ad 2076)), (1, .long wl), (3, .int (nI jn))]) hx hb dX9_type_115 hl (k := 3) rfl (nI_add i 1) (by decide) rfl (fun ls hl => ?_)
                    refine lv_goto (tgt := 95) hx hb dX9_type_118 (by decide) ?_
                    exact ih_14 (i + 1) (va_up t1 (ty + i) (byt wl i)) g_29 (fun (k : Nat) (hk : k ≠ 2078 ∧ k ≠ 2079) => (fr_30 k (by omega)).trans ((fr_16 k (by omega)).trans (rfl))) (by omega) (by omega) (k_up_lt ht1 (by omega)) (fun j hj => by rw [va_up_ne _ _ (by omega)]; exact ht2 j hj) (fun j hj => by by_cases h8 : j = i; rw [h8, va_up_self]; rw [va_up_ne _ _ (by omega)]; exact ht3 j (by omega)) hT2 hT3 _ _ _ hP hS (lv_sub (l' := [(0, .ref (ad 2076)), (1, .long wl), (3, .int (nI jn)), (4, .int (nI (i + 1)))]) hl [1, 2, 3, 0] rfl)
              exact loop_13 _ 0 tx g (fun (k : Nat) (hk : k ≠ 2078 ∧ k ≠ 2079) => rfl) (Nat.lt_succ_self _) (Nat.zero_le _) x6 (fun j h => rfl) (fun j h => absurd h (Nat.not_lt_zero _)) x1 x5 _ _ _ hP hS (lv_sub (l' := [(0, .ref (ad 2076)), (1, .long wl), (3, .int (nI jn)), (4, .int (nI 0))]) hl [1, 2, 3, 0] rfl)
            · have c_12 := mt (nI_leI (a := (ty + jn)) (b := 64) (by omega) (by decide)).mpr c_12
              obtain ⟨sa_33, hstr_34⟩ := hE.2.2.1 (108, "there is no room for the characters") (by decide +kernel)
              exact vx_throwS (own := RX9) (cls := "java/lang/IllegalStateException") (text := "there is no room for the characters") (names := ["java/lang/RuntimeException", "java/lang/Exception"]) (ik := 106) (is := 108) (ic := 110) (sa := sa_33) (A := A) hx hb hlt hown (by decide +kernel) (by decide +kernel) (hts (.classLink RX9 106 "java/lang/IllegalStateException") (List.mem_of_getElem? (i := 12) rfl)) (hts (.initialized "java/lang/IllegalStateException") (List.mem_of_getElem? (i := 13) rfl)) hstr_34 (vx_hat (B := [.declares (Bundle.initS "java/lang/RuntimeException"), .declares (Bundle.initS "java/lang/Exception"), .declares (Bundle.initS Bundle.tN), .castable "java/lang/IllegalStateException" "java/lang/IllegalStateException"]) (fun w hw => hts w (bk5 w hw)) (by decide +kernel) (vx_c (va_Nw.use rfl hE.2.2.2.1) (vx_c (va_Nw.use rfl hE.2.2.2.2.1) (vx_c (va_Nw.use rfl hE.2.2.2.2.2.1) (vx_c (va_Nw.use rfl hE.2.2.2.2.2.2.2.1) vx_n))))) (by decide +kernel) hE.1 hE.2.1 hS (by rw [hml]; exact hl.1) dX9_type_82 dX9_type_85 dX9_type_86 dX9_type_88 dX9_type_91 (fun x9 hx9 => (htb x9 hx9).elim) (Nat.le_of_ble_eq_true rfl) (Nat.le_of_ble_eq_true rfl) (Nat.le_of_ble_eq_true rfl) (Nat.le_of_ble_eq_true rfl) hlocks (fun t9 hvm9 h1 h2 => ⟨(), trivial, ⟨Or.inr ⟨rfl, hgood, jn, hnj, by omega, by omega⟩, wP_grow hP h2⟩, k_F hS h1 h2⟩) hS.2.2 (Nat.le_of_ble_eq_true rfl) (Nat.le_of_ble_eq_true rfl)
          · have c_9 := mt (nI_leI (a := jn) (b := i) (by omega) (by omega)).mpr c_9
            refine lv_lload_n hx hb dX9_type_30 rfl (lv_at hl 1 rfl) ?_
            refine lv_iload hx hb dX9_type_31 (lv_at hl 3 rfl) ?_
            refine va_calli (va_runS (As := [.long wl, .int (nI i)]) (rest := []) ⟨hx, hb, hml, hown, hts⟩ (c_W9_byte l dC dI A ad cA g wl i (by omega)) (va_cwS 2 hts (goodIn_app (goodIn_r [Cond.methodLink RX9 97 yX9_byteOf, Cond.static yX9_byteOf, Cond.initialized RX9] [5, 6, 7] rfl rfl) (goodIn_sub (fun w9 h9 => bk3 w9 h9) gw_W9_byte)) rfl rfl rfl (by decide +kernel) ⟨Nat.le_of_ble_eq_true rfl, Nat.le_of_ble_eq_true rfl⟩) ⟨fun a U g mk q => ⟨q.1, q.2.1, q.2.2.1, LY.moved (u := U) (U := U.calling g mk a) (Vm.Alike.refl U.vm) q.2.2.2⟩, fun U hU hW => ⟨rfl, by rw [hU]; exact fun q h => hA q (Nat.le_trans hS.1 h), by rw [hU]; exact hP, LY.moved hW.alike hL⟩⟩ rfl rfl hl.1 rfl (lv_room (Nat.le_of_ble_eq_true rfl)) dX9_type_33 ⟨(Nat.le_of_ble_eq_true rfl), (Nat.le_of_ble_eq_true rfl)⟩) hS (fun q _ h => h) (fun q h => h) (fun r_35 u8 t8 H1 locs ht8 hvm8 hw_36 hB hz1 hk1 hS => ?_)
            obtain ⟨⟩ := u8
            try dsimp only at hw_36 hB
            rw [ht8] at hB
            have hP := hB
            generalize H1 = H at hP hS ⊢
            subst hw_36
            have hbl := byt_lt wl i
            refine lv_istore (lv' := [(5, .int (nI (byt wl i))), (0, .ref (ad 2076)), (1, .long wl), (3, .int (nI jn)), (4, .int (nI i))]) hx hb dX9_type_36 hl (by decide) rfl (fun ls hl => ?_)
            refine lv_iload hx hb dX9_type_38 (lv_at hl 0 rfl) ?_
            refine lv_bipush (v := nI 32) hx hb dX9_type_40 (by decide +kernel) ?_
            refine lv_icmp_lt (tgt := 52) hx hb dX9_type_42 (by decide) (fun c_37 => ?_) (fun c_37 => ?_)
            · have c_37 := (nI_ltI (a := (byt wl i)) (b := 32) (by omega) (by decide)).mp c_37
              obtain ⟨sa_38, hstr_39⟩ := hE.2.2.1 (101, "a character is not 32 .. 126") (by decide +kernel)
              exact vx_throwS (own := RX9) (cls := "java/lang/IllegalArgumentException") (text := "a character is not 32 .. 126") (names := ["java/lang/RuntimeException", "java/lang/Exception"]) (ik := 90) (is := 101) (ic := 94) (sa := sa_38) (A := A) hx hb hlt hown (by decide +kernel) (by decide +kernel) (hts (.classLink RX9 90 "java/lang/IllegalArgumentException") (List.mem_of_getElem? (i := 1) rfl)) (hts (.initialized "java/lang/IllegalArgumentException") (List.mem_of_getElem? (i := 2) rfl)) hstr_39 (vx_hat (B := [.declares (Bundle.initS "java/lang/RuntimeException"), .declares (Bundle.initS "java/lang/Exception"), .declares (Bundle.initS Bundle.tN), .castable "java/lang/IllegalArgumentException" "java/lang/IllegalArgumentException"]) (fun w hw => hts w (bk0 w hw)) (by decide +kernel) (vx_c (va_Nw.use rfl hE.2.2.2.1) (vx_c (va_Nw.use rfl hE.2.2.2.2.1) (vx_c (va_Nw.use rfl hE.2.2.2.2.2.1) (vx_c (va_Nw.use rfl hE.2.2.2.2.2.2.1) vx_n))))) (by decide +kernel) hE.1 hE.2.1 hS (by rw [hml]; exact hl.1) dX9_type_52 dX9_type_55 dX9_type_56 dX9_type_58 dX9_type_61 (fun x9 hx9 => (htb x9 hx9).elim) (Nat.le_of_ble_eq_true rfl) (Nat.le_of_ble_eq_true rfl) (Nat.le_of_ble_eq_true rfl) (Nat.le_of_ble_eq_true rfl) hlocks (fun t9 hvm9 h1 h2 => ⟨(), trivial, ⟨Or.inl ⟨rfl, fun h8 => by have h7 := h8.2.2 i (by omega); omega⟩, wP_grow hP h2⟩, k_F hS h1 h2⟩) hS.2.2 (Nat.le_of_ble_eq_true rfl) (Nat.le_of_ble_eq_true rfl)
            · have c_37 := mt (nI_ltI (a := (byt wl i)) (b := 32) (by omega) (by decide)).mpr c_37
              refine lv_iload hx hb dX9_type_45 (lv_at hl 0 rfl) ?_
              refine lv_bipush (v := nI 126) hx hb dX9_type_47 (by decide +kernel) ?_
              refine lv_icmp_le (tgt := 62) hx hb dX9_type_49 (by decide) (fun c_40 => ?_) (fun c_40 => ?_)
              · have c_40 := (nI_leI (a := (byt wl i)) (b := 126) (by omega) (by decide)).mp c_40
                refine lv_iinc (v := nI (i + 1)) (lv' := [(4, .int (nI (i + 1))), (5, .int (nI (byt wl i))), (0, .ref (ad 2076)), (1, .long wl), (3, .int (nI jn))]) hx hb dX9_type_62 hl (k := 4) rfl (nI_add i 1) (by decide) rfl (fun ls hl => ?_)
                refine lv_goto (tgt := 24) hx hb dX9_type_65 (by decide) ?_
                exact ih_6 (i + 1) (by omega) (by omega) (fun t h => by by_cases h8 : t = i; rw [h8]; omega; exact hg t (by omega)) _ _ _ hP hS (lv_sub (l' := [(0, .ref (ad 2076)), (1, .long wl), (3, .int (nI jn)), (4, .int (nI (i + 1)))]) hl [2, 3, 4, 0] rfl)
              · have c_40 := mt (nI_leI (a := (byt wl i)) (b := 126) (by omega) (by decide)).mpr c_40
                obtain ⟨sa_43, hstr_44⟩ := hE.2.2.1 (101, "a character is not 32 .. 126") (by decide +kernel)
                exact vx_throwS (own := RX9) (cls := "java/lang/IllegalArgumentException") (text := "a character is not 32 .. 126") (names := ["java/lang/RuntimeException", "java/lang/Exception"]) (ik := 90) (is := 101) (ic := 94) (sa := sa_43) (A := A) hx hb hlt hown (by decide +kernel) (by decide +kernel) (hts (.classLink RX9 90 "java/lang/IllegalArgumentException") (List.mem_of_getElem? (i := 1) rfl)) (hts (.initialized "java/lang/IllegalArgumentException") (List.mem_of_getElem? (i := 2) rfl)) hstr_44 (vx_hat (B := [.declares (Bundle.initS "java/lang/RuntimeException"), .declares (Bundle.initS "java/lang/Exception"), .declares (Bundle.initS Bundle.tN), .castable "java/lang/IllegalArgumentException" "java/lang/IllegalArgumentException"]) (fun w hw => hts w (bk0 w hw)) (by decide +kernel) (vx_c (va_Nw.use rfl hE.2.2.2.1) (vx_c (va_Nw.use rfl hE.2.2.2.2.1) (vx_c (va_Nw.use rfl hE.2.2.2.2.2.1) (vx_c (va_Nw.use rfl hE.2.2.2.2.2.2.1) vx_n))))) (by decide +kernel) hE.1 hE.2.1 hS (by rw [hml]; exact hl.1) dX9_type_52 dX9_type_55 dX9_type_56 dX9_type_58 dX9_type_61 (fun x9 hx9 => (htb x9 hx9).elim) (Nat.le_of_ble_eq_true rfl) (Nat.le_of_ble_eq_true rfl) (Nat.le_of_ble_eq_true rfl) (Nat.le_of_ble_eq_true rfl) hlocks (fun t9 hvm9 h1 h2 => ⟨(), trivial, ⟨Or.inl ⟨rfl, fun h8 => by have h7 := h8.2.2 i (by omega); omega⟩, wP_grow hP h2⟩, k_F hS h1 h2⟩) hS.2.2 (Nat.le_of_ble_eq_true rfl) (Nat.le_of_ble_eq_true rfl)
      exact loop_5 _ 0 (Nat.lt_succ_self _) (Nat.zero_le _) (fun t h => absurd h (Nat.not_lt_zero _)) _ _ _ hP hS (lv_sub (l' := [(0, .ref (ad 2076)), (1, .long wl), (3, .int (nI jn)), (4, .int (nI 0))]) hl [1, 2, 3, 0] rfl)
    · have c_4 := mt (k_le n8 (nI 8)).mpr c_4
      rw [show (nI 8).toInt = 8 from by decide] at c_4
      obtain ⟨sa_45, hstr_46⟩ := hE.2.2.1 (92, "n is not 1 .. 8") (by decide +kernel)
      exact vx_throwS (own := RX9) (cls := "java/lang/IllegalArgumentException") (text := "n is not 1 .. 8") (names := ["java/lang/RuntimeException", "java/lang/Exception"]) (ik := 90) (is := 92) (ic := 94) (sa := sa_45) (A := A) hx hb hlt hown (by decide +kernel) (by decide +kernel) (hts (.classLink RX9 90 "java/lang/IllegalArgumentException") (List.mem_of_getElem? (i := 1) rfl)) (hts (.initialized "java/lang/IllegalArgumentException") (List.mem_of_getElem? (i := 2) rfl)) hstr_46 (vx_hat (B := [.declares (Bundle.initS "java/lang/RuntimeException"), .declares (Bundle.initS "java/lang/Exception"), .declares (Bundle.initS Bundle.tN), .castable "java/lang/IllegalArgumentException" "java/lang/IllegalArgumentException"]) (fun w hw => hts w (bk0 w hw)) (by decide +kernel) (vx_c (va_Nw.use rfl hE.2.2.2.1) (vx_c (va_Nw.use rfl hE.2.2.2.2.1) (vx_c (va_Nw.use rfl hE.2.2.2.2.2.1) (vx_c (va_Nw.use rfl hE.2.2.2.2.2.2.1) vx_n))))) (by decide +kernel) hE.1 hE.2.1 hS (by rw [hml]; exact hl.1) dX9_type_11 dX9_type_14 dX9_type_15 dX9_type_17 dX9_type_20 (fun x9 hx9 => (htb x9 hx9).elim) (Nat.le_of_ble_eq_true rfl) (Nat.le_of_ble_eq_true rfl) (Nat.le_of_ble_eq_true rfl) (Nat.le_of_ble_eq_true rfl) hlocks (fun t9 hvm9 h1 h2 => ⟨(), trivial, ⟨Or.inl ⟨rfl, fun h8 => by have h7 := h8.1; have h6 := h8.2.1; omega⟩, wP_grow hP h2⟩, k_F hS h1 h2⟩) hS.2.2 (Nat.le_of_ble_eq_true rfl) (Nat.le_of_ble_eq_true rfl)
end
section
def wd_W9_define : List Cond := .code yX9_define cX9_define 4 (some .int) :: (([.methodLink RX9 115 yX9_checkName, .static yX9_checkName, .initialized RX9, .fieldLink RX9 19 "GradientDesk" "text" "LGradientDesk$Text;", .methodLink RX9 118 yX7_findWrongPlace, .instanceMethod yX7_findWrongPlace, .selects RX7 yX7_findWrongPlace yX7_findWrongPlace, .initialized RX7, .fieldLink RX9 86 "GradientDesk" "wrongPlace" "I", .fieldLink RX9 28 "GradientDesk" "shelf" "LGradientDesk$Shelf;", .fieldLink RX9 122 "GradientDesk$Shelf" "count" "I", .fieldLink RX9 37 "GradientDesk" "reader" "LGradientDesk$Reader;", .fieldLink RX9 70 "GradientDesk" "names" "[I", .methodLink RX9 125 yX4_arrange, .instanceMethod yX4_arrange, .selects RX4 yX4_arrange yX4_arrange, .initialized RX4, .methodLink RX9 129 yX4_make, .instanceMethod yX4_make, .selects RX4 yX4_make yX4_make, .fieldLink RX9 103 "GradientDesk$Text" "length" "I"] : List Cond) ++ (wd_W9_ckName ++ (u_ws RX9 TX9 12 ++ (wd_W7_find ++ (u_ws RX6 TX6 7 ++ (wd_W4_arrange ++ (wd_W4_make ++ (u_ws RX7 TX7 5 ++ ([])))))))))
theorem gw_W9_define : wd_W9_define.all goodWord = true := k_allc rfl (k_all (by decide +kernel) (k_all (gw_W9_ckName) (k_all (gu_X9) (k_all (gw_W7_find) (k_all (gu_X6) (k_all (gw_W4_arrange) (k_all (gw_W4_make) (k_all (gu_X7) (rfl)))))))))
set_option maxHeartbeats 4000000 in
set_option maxRecDepth 100000 in
theorem c_W9_define (l : Launch) (hlt : l.stackTraces = false) (dC : Nat → ClassId) (dI : Nat → Nat → Nat) (A : Nat → Prop) (ad : Nat → Nat) (cA : Nat → ClassId) (g : Nat → va_E) (L : List PD) (nm : Nat → Int) (tx : Nat → Nat) (ty : Nat) (wp : Int32) (v : Int32) (hI : CIS ad cA g L nm tx ty wp) : vx_Met l yX9_define wd_W9_define ({ frames := 90, cells := 10, slots := 60, locals := 1800 }) (va_Pc [.ref (ad 2076), .int v] (fun U => PR NSc tyc dC dI A ad cA g U ∧ exF A U U.heap)) (va_Qi (fun (r : Int32) => fun (u : (Nat → va_E) × (List PD) × (Nat → Int) × Int32) => match u with | (g2, L2, nm2, wp2) => CIS ad cA g2 L2 nm2 tx 0 wp2 ∧ ∃ vn, v = nI vn ∧ vn ≤ 7 ∧ DFC tx ty nm L vn wp2 r L2 nm2) (fun (u : (Nat → va_E) × (List PD) × (Nat → Int) × Int32) (t : State) => va_P (dC, dI) vwCl (wo ad NSc u.1) t.heap) A) (vx_X (fun _ : Unit => True) (fun E _ t => (E = "java/lang/IllegalArgumentException" ∧ ¬ (0 ≤ v.toInt ∧ v.toInt ≤ 7)) ∧ va_P (dC, dI) vwCl (wo ad NSc g) t.heap) A) (10) (60) A := by
  refine vx_ofW (cc := cX9_define) (maxL := 4) (ret := (some .int)) (by decide) rfl ?_
  intro p e s m args below meth c s₁ B hml htb hv
  obtain ⟨rfl, ⟨hA, hP, hL⟩, hE⟩ := hv
  have hx := B.exec
  have hb := B.bytes
  have hr := B.returns
  have hts := atoms_spec (ws := wd_W9_define) B.pre
  have hown : s.vm.findClass RX9 = some m.cls := findClass_of_methodNamed B.named
  have hlocks := B.notSynchronized
  have hK := hL.1
  have hD : ∀ g, va_D A (wo ad NSc g) := fun g => wo_D hL.2.1 hL.2.2 g
  have hS : va_S A s.heap s.heap [] := va_S.rf
  have bk0 : ∀ w ∈ wd_W9_ckName, w ∈ wd_W9_define := fun _ h => List.mem_cons_of_mem _ (List.mem_append_right _ (List.mem_append_left _ h))
  have bk1 : ∀ w ∈ u_ws RX9 TX9 12, w ∈ wd_W9_define := fun _ h => List.mem_cons_of_mem _ (List.mem_append_right _ (List.mem_append_right _ (List.mem_append_left _ h)))
  have bk2 : ∀ w ∈ wd_W7_find, w ∈ wd_W9_define := fun _ h => List.mem_cons_of_mem _ (List.mem_append_right _ (List.mem_append_right _ (List.mem_append_right _ (List.mem_append_left _ h))))
  have bk3 : ∀ w ∈ u_ws RX6 TX6 7, w ∈ wd_W9_define := fun _ h => List.mem_cons_of_mem _ (List.mem_append_right _ (List.mem_append_right _ (List.mem_append_right _ (List.mem_append_right _ (List.mem_append_left _ h)))))
  have bk4 : ∀ w ∈ wd_W4_arrange, w ∈ wd_W9_define := fun _ h => List.mem_cons_of_mem _ (List.mem_append_right _ (List.mem_append_right _ (List.mem_append_right _ (List.mem_append_right _ (List.mem_append_right _ (List.mem_append_left _ h))))))
  have bk5 : ∀ w ∈ wd_W4_make, w ∈ wd_W9_define := fun _ h => List.mem_cons_of_mem _ (List.mem_append_right _ (List.mem_append_right _ (List.mem_append_right _ (List.mem_append_right _ (List.mem_append_right _ (List.mem_append_right _ (List.mem_append_left _ h)))))))
  have bk6 : ∀ w ∈ u_ws RX7 TX7 5, w ∈ wd_W9_define := fun _ h => List.mem_cons_of_mem _ (List.mem_append_right _ (List.mem_append_right _ (List.mem_append_right _ (List.mem_append_right _ (List.mem_append_right _ (List.mem_append_right _ (List.mem_append_right _ (List.mem_append_left _ h))))))))
  have hl := lv_entry ([.ref (ad 2076), .int v]) (n := 4) (Nat.le_of_ble_eq_true rfl)
  rw [lg_entry_eq]
  generalize (lg_sl ([.ref (ad 2076), .int v]) ++ List.replicate (4 - (lg_sl ([.ref (ad 2076), .int v])).length) Slot.unset).toArray = ls at hl ⊢
  have hl : lv_has ls 4 [(0, .ref (ad 2076)), (1, .int v)] := hl
  have hi9 := hI
  obtain ⟨d0, hC, hWf, d3, d4, d5, d6, d7, d8, d9, da, db, dc⟩ := hi9
  unfold CDO at d0
  have hCo := hC
  obtain ⟨hLno, hWo, ⟨hAro, hWko, hPao, hFro⟩, hOo, pto, hPto, hMo⟩ := hCo
  unfold CSO at hOo
  have hpbo := hPto.2
  have hnl := hC.1
  obtain ⟨nA, nB, nC⟩ := id da
  obtain ⟨fa, fb, pA, pB⟩ := id db
  have hcr9c := d6
  obtain ⟨y0c, y1c, y2c, y3c, y4c, ⟨ftc, y5c⟩, fhc, y6c⟩ := hcr9c
  obtain ⟨Mx, hSm⟩ := id d8
  have hsc9z := hSm
  obtain ⟨lnz, wcz, flz, fwz, fdz, fzz, fqz, s1z, s2z, s3z, s4z, s5z, s6z, s7z, s8z, s9z, saz, sbz⟩ := hsc9z
  unfold SCO at s1z
  obtain ⟨sa, oz, dg, x1, x2, x3, x4, x5, x6, x7⟩ := id d3
  refine lv_iload_n hx hb dX9_define_0 rfl (lv_at hl 1 rfl) ?_
  refine vx_callv (vx_runS (As := [.int v]) (rest := []) ⟨hx, hb, hml, hown, hts⟩ (c_W9_ckName l hlt dC dI A ad cA g v ) (va_cwS 1 hts (goodIn_app (goodIn_r [Cond.methodLink RX9 115 yX9_checkName, Cond.static yX9_checkName, Cond.initialized RX9] [1, 2, 3] rfl rfl) (goodIn_sub (fun w9 h9 => bk0 w9 h9) gw_W9_ckName)) rfl rfl rfl (by decide +kernel) ⟨Nat.le_of_ble_eq_true rfl, Nat.le_of_ble_eq_true rfl⟩) ⟨fun a U g mk q => ⟨q.1, ⟨q.2.1.1, q.2.1.2.1, LY.moved (u := U) (U := U.calling g mk a) (Vm.Alike.refl U.vm) q.2.1.2.2⟩, exF.same rfl rfl q.2.2⟩, fun U hU hW => ⟨rfl, ⟨by rw [hU]; exact fun q h => hA q (Nat.le_trans hS.1 h), by rw [hU]; exact hP, LY.moved hW.alike hL⟩, by rw [hU]; exact exF.warm hW (exF.kept hE hS.2.1)⟩⟩ rfl rfl hl.1 rfl (lv_room (Nat.le_of_ble_eq_true rfl)) dX9_define_1 ⟨(Nat.le_of_ble_eq_true rfl), (Nat.le_of_ble_eq_true rfl)⟩) hS (fun q _ h => h) (fun q h => h) (fun q _ h => h) (fun E ce q9 u t H1 locs1 ht hvm hpx hbx hz1 hk1 hS hce hcv hcl => vx_out (fun x9 hx9 => (htb x9 hx9).elim) hlocks hce hcv hcl (fun t2 ht2 hvm2 => ⟨(), trivial, ⟨⟨hbx.1.1, by have h8 := hbx.1.2; omega⟩, by rw [ht2, ← ht]; exact hbx.2⟩, hS.F ht2⟩) hS.2.2 (Nat.le_of_ble_eq_true rfl) (Nat.le_of_ble_eq_true rfl)) (fun u8 t8 H1 locs ht8 hvm8 hw_1 hB hz1 hk1 hS => ?_)
  obtain ⟨⟩ := u8
  try dsimp only at hw_1 hB
  rw [ht8] at hB
  have hP := hB
  generalize H1 = H at hP hS ⊢
  refine W.cs (cells' := 1) (slots' := 6) (by omega) (by omega) ?_
  obtain ⟨vn, hvn, evn, -⟩ := k_nat (x := v) (by omega)
  subst hvn
  refine lv_aload_n hx hb dX9_define_4 rfl (lv_at hl 0 rfl) ?_
  refine lv_aload_n hx hb dX9_define_5 rfl (lv_at hl 0 rfl) ?_
  refine m_get (D := (dC, dI)) (v := .ref (ad 2078)) (C := RX9) (T := TX9) (N := 12) hx hb hts bk1 hown hK hP 2076 (by decide) d0 rfl 1 (by decide) (hts (.fieldLink RX9 19 "GradientDesk" "text" "LGradientDesk$Text;") (List.mem_of_getElem? (i := 4) rfl)) (fun _ h9 => h9) rfl dX9_define_6 ?_
  refine va_calli (va_runV (As := []) (rest := [.ref (ad 2076)]) ⟨hx, hb, hml, hown, hts⟩ (c_W7_find l dC dI A ad cA g ty sa oz dg tx x1 x2 x3 x4 x7 x5 x6) (cwV 0 hts (goodIn_app (goodIn_r [Cond.methodLink RX9 118 yX7_findWrongPlace, Cond.instanceMethod yX7_findWrongPlace, Cond.selects RX7 yX7_findWrongPlace yX7_findWrongPlace, Cond.initialized RX7] [5, 6, 7, 8] rfl rfl) (goodIn_sub (fun w9 h9 => bk2 w9 h9) gw_W7_find)) rfl rfl rfl (by decide +kernel) ⟨Nat.le_of_ble_eq_true rfl, Nat.le_of_ble_eq_true rfl⟩) ⟨fun a U g mk q => ⟨q.1, q.2.1, q.2.2.1, LY.moved (u := U) (U := U.calling g mk a) (Vm.Alike.refl U.vm) q.2.2.2⟩, va_recv hK hP (ci := 10) (q0 := 2078) rfl (wo_at (by decide) x1), fun U hU hW => ⟨rfl, by rw [hU]; exact fun q h => hA q (Nat.le_trans hS.1 h), by rw [hU]; exact hP, LY.moved hW.alike hL⟩⟩ rfl rfl hl.1 rfl (lv_room (Nat.le_of_ble_eq_true rfl)) dX9_define_9 ⟨(Nat.le_of_ble_eq_true rfl), (Nat.le_of_ble_eq_true rfl)⟩) hS (fun q _ h => h) (fun q h => h) (fun r_2 u8 t8 H1 locs ht8 hvm8 hw_3 hB hz1 hk1 hS => ?_)
  obtain ⟨g_4, s2_5, o2_6, d2_7⟩ := u8
  try dsimp only at hw_3 hB
  rw [ht8] at hB
  have hP := hB
  generalize H1 = H at hP hS ⊢
  obtain ⟨fr_8, hT2, hs2, ho2, ho3, hd2, hr2⟩ := hw_3
  rw [tk_place x7] at hr2
  have hgl := gram_le (tx := tx) (ty := ty) 65 0 0 1 0
  have hgt := gram_ty (tx := tx) (ty := ty) 65 0 0 1 0 (Nat.zero_le _)
  rcases (show (gram tx ty 65 0 0 1 0).1 = 1 ∨ (gram tx ty 65 0 0 1 0).1 = 0 by omega) with hgr | hgr
  · skip
    have hr3 : r_2 = -1 := by rw [hr2]; unfold gres; rw [if_pos hgr]; decide
    subst hr3
    have f_9 : g_4 2076 = .inr (12, [.ref (ad 2077), .ref (ad 2078), .ref (ad 2080), .ref (ad 2084), .ref (ad 2090), .ref (ad 2097), .ref (ad 2103), .ref (ad 2108), .ref (ad 2104), .ref (ad 2105), .ref (ad 2106), .int wp]) := (fr_8 2076 (by omega)).trans d0
    refine m_put (D := (dC, dI)) (v := .int (-1)) (tv := .int) (C := RX9) (T := TX9) (N := 12) hx hb hts bk1 tyX9 tyX9_ok nmX9 hown hK hP hD hS 2076 (by decide) f_9 rfl 11 (by decide) (hts (.fieldLink RX9 86 "GradientDesk" "wrongPlace" "I") (List.mem_of_getElem? (i := 9) rfl)) (fun _ h9 => h9) rfl (by decide +kernel) rfl rfl (Nat.le_of_ble_eq_true rfl) dX9_define_12 (fun H locs g_10 f_11 fr_12 hP hS => ?_)
    have f_11 : g_10 2076 = .inr (12, [.ref (ad 2077), .ref (ad 2078), .ref (ad 2080), .ref (ad 2084), .ref (ad 2090), .ref (ad 2097), .ref (ad 2103), .ref (ad 2108), .ref (ad 2104), .ref (ad 2105), .ref (ad 2106), .int (-1)]) := f_11
    refine lv_aload_n hx hb dX9_define_15 rfl (lv_at hl 0 rfl) ?_
    refine m_get (D := (dC, dI)) (v := .ref (ad 2080)) (C := RX9) (T := TX9) (N := 12) hx hb hts bk1 hown hK hP 2076 (by decide) f_11 rfl 2 (by decide) (hts (.fieldLink RX9 28 "GradientDesk" "shelf" "LGradientDesk$Shelf;") (List.mem_of_getElem? (i := 10) rfl)) (fun _ h9 => h9) rfl dX9_define_16 ?_
    have f_13 : g_10 2080 = .inr (9, [.ref (ad 2081), .ref (ad 2082), .int (nI L.length), .ref (ad 2083), .ref (ad 2077), .ref (ad 2107), .ref (ad (2 * 6))]) := (fr_12 2080 (by omega)).trans ((fr_8 2080 (by omega)).trans hOo)
    refine m_get (D := (dC, dI)) (v := .int (nI L.length)) (C := RX6) (T := TX6) (N := 7) hx hb hts bk3 hown hK hP 2080 (by decide) f_13 rfl 2 (by decide) (hts (.fieldLink RX9 122 "GradientDesk$Shelf" "count" "I") (List.mem_of_getElem? (i := 11) rfl)) (fun _ h9 => h9) rfl dX9_define_19 ?_
    refine lv_istore_n (lv' := [(2, .int (nI L.length)), (0, .ref (ad 2076)), (1, .int (nI vn))]) hx hb dX9_define_22 rfl hl (by decide) rfl (fun ls hl => ?_)
    refine lv_iconst (v := -1) hx hb dX9_define_23 (by decide +kernel) ?_
    refine lv_istore_n (lv' := [(3, .int (-1)), (2, .int (nI L.length)), (0, .ref (ad 2076)), (1, .int (nI vn))]) hx hb dX9_define_24 rfl hl (by decide) rfl (fun ls hl => ?_)
    refine lv_aload_n hx hb dX9_define_25 rfl (lv_at hl 2 rfl) ?_
    refine m_get (D := (dC, dI)) (v := .int (-1)) (C := RX9) (T := TX9) (N := 12) hx hb hts bk1 hown hK hP 2076 (by decide) f_11 rfl 11 (by decide) (hts (.fieldLink RX9 86 "GradientDesk" "wrongPlace" "I") (List.mem_of_getElem? (i := 9) rfl)) (fun _ h9 => h9) rfl dX9_define_26 ?_
    refine lv_iconst (v := -1) hx hb dX9_define_29 (by decide +kernel) ?_
    refine lv_icmp_ne (tgt := 60) hx hb dX9_define_30 (by decide) (fun c_14 => absurd c_14 (by decide)) (fun c_14 => ?_)
    refine lv_aload_n hx hb dX9_define_33 rfl (lv_at hl 2 rfl) ?_
    refine m_get (D := (dC, dI)) (v := .ref (ad 2084)) (C := RX9) (T := TX9) (N := 12) hx hb hts bk1 hown hK hP 2076 (by decide) f_11 rfl 3 (by decide) (hts (.fieldLink RX9 37 "GradientDesk" "reader" "LGradientDesk$Reader;") (List.mem_of_getElem? (i := 12) rfl)) (fun _ h9 => h9) rfl dX9_define_34 ?_
    refine lv_aload_n hx hb dX9_define_37 rfl (lv_at hl 2 rfl) ?_
    refine m_get (D := (dC, dI)) (v := .ref (ad 2104)) (C := RX9) (T := TX9) (N := 12) hx hb hts bk1 hown hK hP 2076 (by decide) f_11 rfl 8 (by decide) (hts (.fieldLink RX9 70 "GradientDesk" "names" "[I") (List.mem_of_getElem? (i := 13) rfl)) (fun _ h9 => h9) rfl dX9_define_38 ?_
    obtain ⟨oo, Q0, cu, hRd⟩ := id d4
    have f_15 : g_10 2078 = .inr (10, [.ref (ad 2079), .int (nI ty), .int (nI s2_5), .int (iI o2_6), .int (nI d2_7)]) := (fr_12 2078 (by omega)).trans hT2
    have f_16 : g_10 2079 = .inl (cA 2079, 64, .inl (fun j => nI (tx j))) := (fr_12 2079 (by omega)).trans ((fr_8 2079 (by omega)).trans x5)
    have hX1 : TXS ad cA g_10 tx ty := ⟨s2_5, o2_6, d2_7, f_15, ⟨ho2, ho3⟩, hd2, hs2, f_16, x6, x7⟩
    have hRd1 := hRd.same (fun (k : Nat) (hk : 2084 ≤ k ∧ k ≤ 2088) => (fr_12 k (by omega)).trans ((fr_8 k (by omega)).trans (rfl)))
    have hRd2 := hRd1
    obtain ⟨fou, fku, ffu, fsu, z1u, z2u, z3u, z4u, z5u, z6u, z7u, z8u, z9u, zau, zbu⟩ := hRd2
    unfold RDO at z1u
    have f_17 : g_10 2104 = .inl (cA 2104, 8, .inl (fun j => iI (nm j))) := (fr_12 2104 (by omega)).trans ((fr_8 2104 (by omega)).trans nA)
    refine va_calli (va_runV (As := [.ref (ad 2104)]) (rest := []) ⟨hx, hb, hml, hown, hts⟩ (c_W4_arrange l dC dI A ad cA g_10 oo Q0 cu tx ty nm hRd1 hX1 f_17 nB hgr) (cwV 1 hts (goodIn_app (goodIn_r [Cond.methodLink RX9 125 yX4_arrange, Cond.instanceMethod yX4_arrange, Cond.selects RX4 yX4_arrange yX4_arrange, Cond.initialized RX4] [14, 15, 16, 17] rfl rfl) (goodIn_sub (fun w9 h9 => bk4 w9 h9) gw_W4_arrange)) rfl rfl rfl (by decide +kernel) ⟨Nat.le_of_ble_eq_true rfl, Nat.le_of_ble_eq_true rfl⟩) ⟨fun a U g mk q => ⟨q.1, q.2.1, q.2.2.1, LY.moved (u := U) (U := U.calling g mk a) (Vm.Alike.refl U.vm) q.2.2.2⟩, va_recv hK hP (ci := 7) (q0 := 2084) rfl (wo_at (by decide) z1u), fun U hU hW => ⟨rfl, by rw [hU]; exact fun q h => hA q (Nat.le_trans hS.1 h), by rw [hU]; exact hP, LY.moved hW.alike hL⟩⟩ rfl rfl hl.1 rfl (lv_room (Nat.le_of_ble_eq_true rfl)) dX9_define_41 ⟨(Nat.le_of_ble_eq_true rfl), (Nat.le_of_ble_eq_true rfl)⟩) hS (fun q _ h => h) (fun q h => h) (fun r_18 u8 t8 H1 locs ht8 hvm8 hw_19 hB hz1 hk1 hS => ?_)
    obtain ⟨g_20, o2_21, c2_22⟩ := u8
    try dsimp only at hw_19 hB
    rw [ht8] at hB
    have hP := hB
    generalize H1 = H at hP hS ⊢
    obtain ⟨fr_23, hRn, hkn⟩ := hw_19
    have hRe : RDE ad cA g_20 := ⟨_, _, _, hRn⟩
    have hRn2 := hRn
    obtain ⟨fon, fkn, ffn, fsn, z1n, z2n, z3n, z4n, z5n, z6n, z7n, z8n, z9n, zan, zbn⟩ := hRn2
    unfold RDO at z1n
    rcases hkn with ⟨rfl, hkn⟩ | ⟨rfl, hkn⟩
    · skip
      refine lv_if_eq (tgt := 57) hx hb dX9_define_44 (by decide) (fun c_24 => absurd c_24 (by decide)) (fun c_24 => ?_)
      refine lv_aload_n hx hb dX9_define_47 rfl (lv_at hl 2 rfl) ?_
      have f_25 : g_20 2076 = .inr (12, [.ref (ad 2077), .ref (ad 2078), .ref (ad 2080), .ref (ad 2084), .ref (ad 2090), .ref (ad 2097), .ref (ad 2103), .ref (ad 2108), .ref (ad 2104), .ref (ad 2105), .ref (ad 2106), .int (-1)]) := (fr_23 2076 (by omega)).trans f_11
      refine m_get (D := (dC, dI)) (v := .ref (ad 2084)) (C := RX9) (T := TX9) (N := 12) hx hb hts bk1 hown hK hP 2076 (by decide) f_25 rfl 3 (by decide) (hts (.fieldLink RX9 37 "GradientDesk" "reader" "LGradientDesk$Reader;") (List.mem_of_getElem? (i := 12) rfl)) (fun _ h9 => h9) rfl dX9_define_48 ?_
      obtain ⟨f9, h89⟩ := id d5
      have h89b := ((fun (k : Nat) (hk : k = 2089) => (fr_23 k (by omega)).trans ((fr_12 k (by omega)).trans ((fr_8 k (by omega)).trans (rfl)))) 2089 rfl).trans h89
      have hAW_27 : AW ad cA g_20 := AW.keep hWo (fun (k : Nat) (hk : k < 2076) => (fr_23 k (by omega)).trans ((fr_12 k (by omega)).trans ((fr_8 k (by omega)).trans (rfl))))
      have hC_26 : CS ad cA g_20 L := CS.same hC hAW_27 (fun (k : Nat) (hk : (76 ≤ k ∧ k < 876) ∨ k = 2077 ∨ k = 2107 ∨ k = 2080 ∨ k = 2081 ∨ (2117 ≤ k ∧ k < 2517)) => (fr_23 k (by omega)).trans ((fr_12 k (by omega)).trans ((fr_8 k (by omega)).trans (rfl))))
      refine va_calli (va_runV (As := []) (rest := []) ⟨hx, hb, hml, hown, hts⟩ (c_W4_make l dC dI A ad cA g_20 o2_21 (emR tx ty nm 65 0 1 []) c2_22 L f9 hRn hC_26 hWf (em_hok0 x7 hkn nC hgr) h89b) (cwV 0 hts (goodIn_app (goodIn_r [Cond.methodLink RX9 129 yX4_make, Cond.instanceMethod yX4_make, Cond.selects RX4 yX4_make yX4_make, Cond.initialized RX4] [18, 19, 20, 17] rfl rfl) (goodIn_sub (fun w9 h9 => bk5 w9 h9) gw_W4_make)) rfl rfl rfl (by decide +kernel) ⟨Nat.le_of_ble_eq_true rfl, Nat.le_of_ble_eq_true rfl⟩) ⟨fun a U g mk q => ⟨q.1, q.2.1, q.2.2.1, LY.moved (u := U) (U := U.calling g mk a) (Vm.Alike.refl U.vm) q.2.2.2⟩, va_recv hK hP (ci := 7) (q0 := 2084) rfl (wo_at (by decide) z1n), fun U hU hW => ⟨rfl, by rw [hU]; exact fun q h => hA q (Nat.le_trans hS.1 h), by rw [hU]; exact hP, LY.moved hW.alike hL⟩⟩ rfl rfl hl.1 rfl (lv_room (Nat.le_of_ble_eq_true rfl)) dX9_define_51 ⟨(Nat.le_of_ble_eq_true rfl), (Nat.le_of_ble_eq_true rfl)⟩) hS (fun q _ h => h) (fun q h => h) (fun r_28 u8 t8 H1 locs ht8 hvm8 hw_29 hB hz1 hk1 hS => ?_)
      obtain ⟨g_30, f2_31⟩ := u8
      try dsimp only at hw_29 hB
      rw [ht8] at hB
      have hP := hB
      generalize H1 = H at hP hS ⊢
      obtain ⟨fr_32, hCe, hWfe, hLee, h89c, hans⟩ := hw_29
      have hOp : OPR cA g_30 := ⟨_, h89c⟩
      obtain ⟨EE, hEE⟩ : ∃ z, z = exs (emR tx ty nm 65 0 1 []) (0, [], L) := ⟨_, rfl⟩
      rw [← hEE] at hCe hWfe hLee hans
      have hle9 := hLee.1
      have hEl := hCe.1
      have hCe2 := hCe
      obtain ⟨hLne, hWe, ⟨hAre, hWke, hPae, hFre⟩, hOe, pte, hPte, hMe⟩ := hCe2
      unfold CSO at hOe
      have hpbe := hPte.2
      rcases hans with ⟨hE1, hE2, rfl⟩ | ⟨hE1, i0, hE2, hE3, rfl⟩
      · skip
        refine lv_goto (tgt := 59) hx hb dX9_define_54 (by decide) ?_
        refine lv_istore_n (lv' := [(3, .int (iI EE.1)), (2, .int (nI L.length)), (0, .ref (ad 2076)), (1, .int (nI vn))]) hx hb dX9_define_59 rfl hl (by decide) rfl (fun ls hl => ?_)
        refine lv_aload_n hx hb dX9_define_60 rfl (lv_at hl 2 rfl) ?_
        have f_33 : g_30 2076 = .inr (12, [.ref (ad 2077), .ref (ad 2078), .ref (ad 2080), .ref (ad 2084), .ref (ad 2090), .ref (ad 2097), .ref (ad 2103), .ref (ad 2108), .ref (ad 2104), .ref (ad 2105), .ref (ad 2106), .int (-1)]) := (fr_32 2076 (by omega)).trans f_25
        refine m_get (D := (dC, dI)) (v := .ref (ad 2078)) (C := RX9) (T := TX9) (N := 12) hx hb hts bk1 hown hK hP 2076 (by decide) f_33 rfl 1 (by decide) (hts (.fieldLink RX9 19 "GradientDesk" "text" "LGradientDesk$Text;") (List.mem_of_getElem? (i := 4) rfl)) (fun _ h9 => h9) rfl dX9_define_61 ?_
        refine lv_iconst (v := nI 0) hx hb dX9_define_64 (by decide +kernel) ?_
        have f_34 : g_30 2078 = .inr (10, [.ref (ad 2079), .int (nI ty), .int (nI s2_5), .int (iI o2_6), .int (nI d2_7)]) := (fr_32 2078 (by omega)).trans ((fr_23 2078 (by omega)).trans f_15)
        refine m_put (D := (dC, dI)) (v := .int (nI 0)) (tv := .int) (C := RX7) (T := TX7) (N := 5) hx hb hts bk6 tyX7 tyX7_ok nmX7 hown hK hP hD hS 2078 (by decide) f_34 rfl 1 (by decide) (hts (.fieldLink RX9 103 "GradientDesk$Text" "length" "I") (List.mem_of_getElem? (i := 21) rfl)) (fun _ h9 => h9) rfl (by decide +kernel) rfl rfl (Nat.le_of_ble_eq_true rfl) dX9_define_65 (fun H locs g_35 f_36 fr_37 hP hS => ?_)
        have f_36 : g_35 2078 = .inr (10, [.ref (ad 2079), .int (nI 0), .int (nI s2_5), .int (iI o2_6), .int (nI d2_7)]) := f_36
        refine lv_iload_n hx hb dX9_define_68 rfl (lv_at hl 0 rfl) ?_
        refine lv_if_lt (tgt := 82) hx hb dX9_define_69 (by decide) (fun c_38 => ?_) (fun c_38 => absurd (mt (k_iLT (a := EE.1) (b := 0) rfl (show nI 0 = iI 0 from by decide) (by omega) (by omega)).mpr c_38) (by omega))
        refine lv_aload_n hx hb dX9_define_82 rfl (lv_at hl 2 rfl) ?_
        have f_39 : g_35 2076 = .inr (12, [.ref (ad 2077), .ref (ad 2078), .ref (ad 2080), .ref (ad 2084), .ref (ad 2090), .ref (ad 2097), .ref (ad 2103), .ref (ad 2108), .ref (ad 2104), .ref (ad 2105), .ref (ad 2106), .int (-1)]) := (fr_37 2076 (by omega)).trans f_33
        refine m_get (D := (dC, dI)) (v := .ref (ad 2080)) (C := RX9) (T := TX9) (N := 12) hx hb hts bk1 hown hK hP 2076 (by decide) f_39 rfl 2 (by decide) (hts (.fieldLink RX9 28 "GradientDesk" "shelf" "LGradientDesk$Shelf;") (List.mem_of_getElem? (i := 10) rfl)) (fun _ h9 => h9) rfl dX9_define_83 ?_
        refine lv_iload_n hx hb dX9_define_86 rfl (lv_at hl 1 rfl) ?_
        have f_40 : g_35 2080 = .inr (9, [.ref (ad 2081), .ref (ad 2082), .int (nI EE.2.2.length), .ref (ad 2083), .ref (ad 2077), .ref (ad 2107), .ref (ad (2 * 6))]) := (fr_37 2080 (by omega)).trans hOe
        refine m_put (D := (dC, dI)) (v := .int (nI L.length)) (tv := .int) (C := RX6) (T := TX6) (N := 7) hx hb hts bk3 tyX6 tyX6_ok nmX6 hown hK hP hD hS 2080 (by decide) f_40 rfl 2 (by decide) (hts (.fieldLink RX9 122 "GradientDesk$Shelf" "count" "I") (List.mem_of_getElem? (i := 11) rfl)) (fun _ h9 => h9) rfl (by decide +kernel) rfl rfl (Nat.le_of_ble_eq_true rfl) dX9_define_87 (fun H locs g_41 f_42 fr_43 hP hS => ?_)
        have f_42 : g_41 2080 = .inr (9, [.ref (ad 2081), .ref (ad 2082), .int (nI L.length), .ref (ad 2083), .ref (ad 2077), .ref (ad 2107), .ref (ad (2 * 6))]) := f_42
        refine lv_iload_n hx hb dX9_define_90 rfl (lv_at hl 0 rfl) ?_
        have f_44 : g_41 2078 = .inr (10, [.ref (ad 2079), .int (nI 0), .int (nI s2_5), .int (iI o2_6), .int (nI d2_7)]) := (fr_43 2078 (by omega)).trans f_36
        have f_45 : g_41 2079 = .inl (cA 2079, 64, .inl (fun j => nI (tx j))) := (fr_43 2079 (by omega)).trans ((fr_37 2079 (by omega)).trans ((fr_32 2079 (by omega)).trans ((fr_23 2079 (by omega)).trans f_16)))
        have hTn : TXS ad cA g_41 tx 0 := ⟨s2_5, o2_6, d2_7, f_44, ⟨ho2, ho3⟩, hd2, hs2, f_45, x6, by decide⟩
        have hAW_46 : AW ad cA g_41 := AW.keep hWe (fun (k : Nat) (hk : k < 2076) => (fr_43 k (by omega)).trans ((fr_37 k (by omega)).trans (rfl)))
        have f_47 : g_41 2076 = .inr (12, [.ref (ad 2077), .ref (ad 2078), .ref (ad 2080), .ref (ad 2084), .ref (ad 2090), .ref (ad 2097), .ref (ad 2103), .ref (ad 2108), .ref (ad 2104), .ref (ad 2105), .ref (ad 2106), .int (-1)]) := (fr_43 2076 (by omega)).trans f_39
        refine vx_ret ?_
        refine W.widen (k := 10) (n := 60) (by omega) (by omega) ?_
        exact W.iret (v := iI EE.1) hx hb hr (fun t9 ht9 hW9 => ⟨⟨iI EE.1, (g_41, L, nm, (-1)), rfl, ⟨⟨f_47, (CS.cut hCe hLee f_42 hAW_46 (fun (k : Nat) (hk : (76 ≤ k ∧ k < 876) ∨ k = 2077 ∨ k = 2107 ∨ k = 2081 ∨ (2117 ≤ k ∧ k < 2517)) => (fr_43 k (by omega)).trans ((fr_37 k (by omega)).trans (rfl)))), hWf, hTn, (hRe.same (fun (k : Nat) (hk : 2084 ≤ k ∧ k ≤ 2088) => (fr_43 k (by omega)).trans ((fr_37 k (by omega)).trans ((fr_32 k (by omega)).trans (rfl))))), (hOp.same (fun (k : Nat) (hk : k = 2089) => (fr_43 k (by omega)).trans ((fr_37 k (by omega)).trans (rfl)))), (d6.same (fun (k : Nat) (hk : 2090 ≤ k ∧ k ≤ 2096) => (fr_43 k (by omega)).trans ((fr_37 k (by omega)).trans ((fr_32 k (by omega)).trans ((fr_23 k (by omega)).trans ((fr_12 k (by omega)).trans ((fr_8 k (by omega)).trans (rfl)))))))), (d7.same (fun (k : Nat) (hk : k = 2082) => (fr_43 k (by omega)).trans ((fr_37 k (by omega)).trans ((fr_32 k (by omega)).trans ((fr_23 k (by omega)).trans ((fr_12 k (by omega)).trans ((fr_8 k (by omega)).trans (rfl)))))))), (d8.same (fun (k : Nat) (hk : 2097 ≤ k ∧ k ≤ 2102) => (fr_43 k (by omega)).trans ((fr_37 k (by omega)).trans ((fr_32 k (by omega)).trans ((fr_23 k (by omega)).trans ((fr_12 k (by omega)).trans ((fr_8 k (by omega)).trans (rfl)))))))), (d9.same (fun (k : Nat) (hk : k = 2083) => (fr_43 k (by omega)).trans ((fr_37 k (by omega)).trans ((fr_32 k (by omega)).trans ((fr_23 k (by omega)).trans ((fr_12 k (by omega)).trans ((fr_8 k (by omega)).trans (rfl)))))))), (da.same (fun (k : Nat) (hk : k = 2104) => (fr_43 k (by omega)).trans ((fr_37 k (by omega)).trans ((fr_32 k (by omega)).trans ((fr_23 k (by omega)).trans ((fr_12 k (by omega)).trans ((fr_8 k (by omega)).trans (rfl)))))))), (db.same (fun (k : Nat) (hk : k = 2105 ∨ k = 2106) => (fr_43 k (by omega)).trans ((fr_37 k (by omega)).trans ((fr_32 k (by omega)).trans ((fr_23 k (by omega)).trans ((fr_12 k (by omega)).trans ((fr_8 k (by omega)).trans (rfl)))))))), (dc.same (fun (k : Nat) (hk : k = 2103 ∨ (2108 ≤ k ∧ k < 2117)) => (fr_43 k (by omega)).trans ((fr_37 k (by omega)).trans ((fr_32 k (by omega)).trans ((fr_23 k (by omega)).trans ((fr_12 k (by omega)).trans ((fr_8 k (by omega)).trans (rfl))))))))⟩, vn, rfl, by omega, Or.inr ⟨hgr, rfl, Or.inr ⟨hkn, Or.inl (by rw [← hEE]; exact ⟨hE1, rfl, rfl, rfl⟩)⟩⟩⟩, by show va_P (dC, dI) vwCl _ t9.heap; rw [ht9]; exact hP⟩, hS.F ht9⟩) hS.2.2 dX9_define_91
      · skip
        refine lv_goto (tgt := 59) hx hb dX9_define_54 (by decide) ?_
        refine lv_istore_n (lv' := [(3, .int (nI i0)), (2, .int (nI L.length)), (0, .ref (ad 2076)), (1, .int (nI vn))]) hx hb dX9_define_59 rfl hl (by decide) rfl (fun ls hl => ?_)
        refine lv_aload_n hx hb dX9_define_60 rfl (lv_at hl 2 rfl) ?_
        have f_48 : g_30 2076 = .inr (12, [.ref (ad 2077), .ref (ad 2078), .ref (ad 2080), .ref (ad 2084), .ref (ad 2090), .ref (ad 2097), .ref (ad 2103), .ref (ad 2108), .ref (ad 2104), .ref (ad 2105), .ref (ad 2106), .int (-1)]) := (fr_32 2076 (by omega)).trans f_25
        refine m_get (D := (dC, dI)) (v := .ref (ad 2078)) (C := RX9) (T := TX9) (N := 12) hx hb hts bk1 hown hK hP 2076 (by decide) f_48 rfl 1 (by decide) (hts (.fieldLink RX9 19 "GradientDesk" "text" "LGradientDesk$Text;") (List.mem_of_getElem? (i := 4) rfl)) (fun _ h9 => h9) rfl dX9_define_61 ?_
        refine lv_iconst (v := nI 0) hx hb dX9_define_64 (by decide +kernel) ?_
        have f_49 : g_30 2078 = .inr (10, [.ref (ad 2079), .int (nI ty), .int (nI s2_5), .int (iI o2_6), .int (nI d2_7)]) := (fr_32 2078 (by omega)).trans ((fr_23 2078 (by omega)).trans f_15)
        refine m_put (D := (dC, dI)) (v := .int (nI 0)) (tv := .int) (C := RX7) (T := TX7) (N := 5) hx hb hts bk6 tyX7 tyX7_ok nmX7 hown hK hP hD hS 2078 (by decide) f_49 rfl 1 (by decide) (hts (.fieldLink RX9 103 "GradientDesk$Text" "length" "I") (List.mem_of_getElem? (i := 21) rfl)) (fun _ h9 => h9) rfl (by decide +kernel) rfl rfl (Nat.le_of_ble_eq_true rfl) dX9_define_65 (fun H locs g_50 f_51 fr_52 hP hS => ?_)
        have f_51 : g_50 2078 = .inr (10, [.ref (ad 2079), .int (nI 0), .int (nI s2_5), .int (iI o2_6), .int (nI d2_7)]) := f_51
        refine lv_iload_n hx hb dX9_define_68 rfl (lv_at hl 0 rfl) ?_
        refine lv_if_lt (tgt := 82) hx hb dX9_define_69 (by decide) (fun c_53 => absurd ((nI_ltI (a := i0) (b := 0) (by omega) (by decide)).mp c_53) (by omega)) (fun c_53 => ?_)
        refine lv_aload_n hx hb dX9_define_72 rfl (lv_at hl 2 rfl) ?_
        have f_54 : g_50 2076 = .inr (12, [.ref (ad 2077), .ref (ad 2078), .ref (ad 2080), .ref (ad 2084), .ref (ad 2090), .ref (ad 2097), .ref (ad 2103), .ref (ad 2108), .ref (ad 2104), .ref (ad 2105), .ref (ad 2106), .int (-1)]) := (fr_52 2076 (by omega)).trans f_48
        refine m_get (D := (dC, dI)) (v := .ref (ad 2104)) (C := RX9) (T := TX9) (N := 12) hx hb hts bk1 hown hK hP 2076 (by decide) f_54 rfl 8 (by decide) (hts (.fieldLink RX9 70 "GradientDesk" "names" "[I") (List.mem_of_getElem? (i := 13) rfl)) (fun _ h9 => h9) rfl dX9_define_73 ?_
        refine lv_iload_n hx hb dX9_define_76 rfl (lv_at hl 3 rfl) ?_
        refine lv_iload_n hx hb dX9_define_77 rfl (lv_at hl 0 rfl) ?_
        have f_55 : g_50 2104 = .inl (cA 2104, 8, .inl (fun j => iI (nm j))) := (fr_52 2104 (by omega)).trans ((fr_32 2104 (by omega)).trans ((fr_23 2104 (by omega)).trans f_17))
        refine m_iast hx hb hK hP hD hS 2104 (by decide) rfl f_55 (i := vn) (x := nI i0) (by omega) (by decide) dX9_define_78 (fun H locs g_56 f_57 fr_58 hP hS => ?_)
        rw [(nI_iI i0), k_updZ] at f_57
        have b_59 : ∀ j, -1 ≤ (va_up nm vn ((i0 : Nat) : Int)) j ∧ (va_up nm vn ((i0 : Nat) : Int)) j ≤ 199 := k_up_in nB (by omega)
        have f_57 : g_56 2104 = .inl (cA 2104, 8, .inl (fun j => iI ((va_up nm vn ((i0 : Nat) : Int)) j))) := f_57
        refine lv_goto (tgt := 90) hx hb dX9_define_79 (by decide) ?_
        refine lv_iload_n hx hb dX9_define_90 rfl (lv_at hl 0 rfl) ?_
        have f_60 : g_56 2078 = .inr (10, [.ref (ad 2079), .int (nI 0), .int (nI s2_5), .int (iI o2_6), .int (nI d2_7)]) := (fr_58 2078 (by omega)).trans f_51
        have f_61 : g_56 2079 = .inl (cA 2079, 64, .inl (fun j => nI (tx j))) := (fr_58 2079 (by omega)).trans ((fr_52 2079 (by omega)).trans ((fr_32 2079 (by omega)).trans ((fr_23 2079 (by omega)).trans f_16)))
        have hTn : TXS ad cA g_56 tx 0 := ⟨s2_5, o2_6, d2_7, f_60, ⟨ho2, ho3⟩, hd2, hs2, f_61, x6, by decide⟩
        have f_62 : g_56 2076 = .inr (12, [.ref (ad 2077), .ref (ad 2078), .ref (ad 2080), .ref (ad 2084), .ref (ad 2090), .ref (ad 2097), .ref (ad 2103), .ref (ad 2108), .ref (ad 2104), .ref (ad 2105), .ref (ad 2106), .int (-1)]) := (fr_58 2076 (by omega)).trans f_54
        have hAW_64 : AW ad cA g_56 := AW.keep hWe (fun (k : Nat) (hk : k < 2076) => (fr_58 k (by omega)).trans ((fr_52 k (by omega)).trans (rfl)))
        have hC_63 : CS ad cA g_56 EE.2.2 := CS.same hCe hAW_64 (fun (k : Nat) (hk : (76 ≤ k ∧ k < 876) ∨ k = 2077 ∨ k = 2107 ∨ k = 2080 ∨ k = 2081 ∨ (2117 ≤ k ∧ k < 2517)) => (fr_58 k (by omega)).trans ((fr_52 k (by omega)).trans (rfl)))
        refine vx_ret ?_
        refine W.widen (k := 10) (n := 60) (by omega) (by omega) ?_
        exact W.iret (v := nI i0) hx hb hr (fun t9 ht9 hW9 => ⟨⟨nI i0, (g_56, EE.2.2, (va_up nm vn ((i0 : Nat) : Int)), (-1)), rfl, ⟨⟨f_62, hC_63, hWfe, hTn, (hRe.same (fun (k : Nat) (hk : 2084 ≤ k ∧ k ≤ 2088) => (fr_58 k (by omega)).trans ((fr_52 k (by omega)).trans ((fr_32 k (by omega)).trans (rfl))))), (hOp.same (fun (k : Nat) (hk : k = 2089) => (fr_58 k (by omega)).trans ((fr_52 k (by omega)).trans (rfl)))), (d6.same (fun (k : Nat) (hk : 2090 ≤ k ∧ k ≤ 2096) => (fr_58 k (by omega)).trans ((fr_52 k (by omega)).trans ((fr_32 k (by omega)).trans ((fr_23 k (by omega)).trans ((fr_12 k (by omega)).trans ((fr_8 k (by omega)).trans (rfl)))))))), (d7.same (fun (k : Nat) (hk : k = 2082) => (fr_58 k (by omega)).trans ((fr_52 k (by omega)).trans ((fr_32 k (by omega)).trans ((fr_23 k (by omega)).trans ((fr_12 k (by omega)).trans ((fr_8 k (by omega)).trans (rfl)))))))), (d8.same (fun (k : Nat) (hk : 2097 ≤ k ∧ k ≤ 2102) => (fr_58 k (by omega)).trans ((fr_52 k (by omega)).trans ((fr_32 k (by omega)).trans ((fr_23 k (by omega)).trans ((fr_12 k (by omega)).trans ((fr_8 k (by omega)).trans (rfl)))))))), (d9.same (fun (k : Nat) (hk : k = 2083) => (fr_58 k (by omega)).trans ((fr_52 k (by omega)).trans ((fr_32 k (by omega)).trans ((fr_23 k (by omega)).trans ((fr_12 k (by omega)).trans ((fr_8 k (by omega)).trans (rfl)))))))), (NMS.set da hle9 hEl hE3 f_57), (db.same (fun (k : Nat) (hk : k = 2105 ∨ k = 2106) => (fr_58 k (by omega)).trans ((fr_52 k (by omega)).trans ((fr_32 k (by omega)).trans ((fr_23 k (by omega)).trans ((fr_12 k (by omega)).trans ((fr_8 k (by omega)).trans (rfl)))))))), (dc.same (fun (k : Nat) (hk : k = 2103 ∨ (2108 ≤ k ∧ k < 2117)) => (fr_58 k (by omega)).trans ((fr_52 k (by omega)).trans ((fr_32 k (by omega)).trans ((fr_23 k (by omega)).trans ((fr_12 k (by omega)).trans ((fr_8 k (by omega)).trans (rfl))))))))⟩, vn, rfl, by omega, Or.inr ⟨hgr, rfl, Or.inr ⟨hkn, Or.inr (by rw [← hEE]; exact ⟨hE1, i0, hE2, rfl, rfl, rfl⟩)⟩⟩⟩, by show va_P (dC, dI) vwCl _ t9.heap; rw [ht9]; exact hP⟩, hS.F ht9⟩) hS.2.2 dX9_define_91
    · skip
      refine lv_if_eq (tgt := 57) hx hb dX9_define_44 (by decide) (fun c_65 => ?_) (fun c_65 => absurd c_65 (by decide))
      refine lv_bipush (v := -2) hx hb dX9_define_57 (by decide +kernel) ?_
      refine lv_istore_n (lv' := [(3, .int (-2)), (2, .int (nI L.length)), (0, .ref (ad 2076)), (1, .int (nI vn))]) hx hb dX9_define_59 rfl hl (by decide) rfl (fun ls hl => ?_)
      refine lv_aload_n hx hb dX9_define_60 rfl (lv_at hl 2 rfl) ?_
      have f_66 : g_20 2076 = .inr (12, [.ref (ad 2077), .ref (ad 2078), .ref (ad 2080), .ref (ad 2084), .ref (ad 2090), .ref (ad 2097), .ref (ad 2103), .ref (ad 2108), .ref (ad 2104), .ref (ad 2105), .ref (ad 2106), .int (-1)]) := (fr_23 2076 (by omega)).trans f_11
      refine m_get (D := (dC, dI)) (v := .ref (ad 2078)) (C := RX9) (T := TX9) (N := 12) hx hb hts bk1 hown hK hP 2076 (by decide) f_66 rfl 1 (by decide) (hts (.fieldLink RX9 19 "GradientDesk" "text" "LGradientDesk$Text;") (List.mem_of_getElem? (i := 4) rfl)) (fun _ h9 => h9) rfl dX9_define_61 ?_
      refine lv_iconst (v := nI 0) hx hb dX9_define_64 (by decide +kernel) ?_
      have f_67 : g_20 2078 = .inr (10, [.ref (ad 2079), .int (nI ty), .int (nI s2_5), .int (iI o2_6), .int (nI d2_7)]) := (fr_23 2078 (by omega)).trans f_15
      refine m_put (D := (dC, dI)) (v := .int (nI 0)) (tv := .int) (C := RX7) (T := TX7) (N := 5) hx hb hts bk6 tyX7 tyX7_ok nmX7 hown hK hP hD hS 2078 (by decide) f_67 rfl 1 (by decide) (hts (.fieldLink RX9 103 "GradientDesk$Text" "length" "I") (List.mem_of_getElem? (i := 21) rfl)) (fun _ h9 => h9) rfl (by decide +kernel) rfl rfl (Nat.le_of_ble_eq_true rfl) dX9_define_65 (fun H locs g_68 f_69 fr_70 hP hS => ?_)
      have f_69 : g_68 2078 = .inr (10, [.ref (ad 2079), .int (nI 0), .int (nI s2_5), .int (iI o2_6), .int (nI d2_7)]) := f_69
      refine lv_iload_n hx hb dX9_define_68 rfl (lv_at hl 0 rfl) ?_
      refine lv_if_lt (tgt := 82) hx hb dX9_define_69 (by decide) (fun c_71 => ?_) (fun c_71 => absurd c_71 (by decide))
      refine lv_aload_n hx hb dX9_define_82 rfl (lv_at hl 2 rfl) ?_
      have f_72 : g_68 2076 = .inr (12, [.ref (ad 2077), .ref (ad 2078), .ref (ad 2080), .ref (ad 2084), .ref (ad 2090), .ref (ad 2097), .ref (ad 2103), .ref (ad 2108), .ref (ad 2104), .ref (ad 2105), .ref (ad 2106), .int (-1)]) := (fr_70 2076 (by omega)).trans f_66
      refine m_get (D := (dC, dI)) (v := .ref (ad 2080)) (C := RX9) (T := TX9) (N := 12) hx hb hts bk1 hown hK hP 2076 (by decide) f_72 rfl 2 (by decide) (hts (.fieldLink RX9 28 "GradientDesk" "shelf" "LGradientDesk$Shelf;") (List.mem_of_getElem? (i := 10) rfl)) (fun _ h9 => h9) rfl dX9_define_83 ?_
      refine lv_iload_n hx hb dX9_define_86 rfl (lv_at hl 1 rfl) ?_
      have f_73 : g_68 2080 = .inr (9, [.ref (ad 2081), .ref (ad 2082), .int (nI L.length), .ref (ad 2083), .ref (ad 2077), .ref (ad 2107), .ref (ad (2 * 6))]) := (fr_70 2080 (by omega)).trans ((fr_23 2080 (by omega)).trans f_13)
      refine m_put (D := (dC, dI)) (v := .int (nI L.length)) (tv := .int) (C := RX6) (T := TX6) (N := 7) hx hb hts bk3 tyX6 tyX6_ok nmX6 hown hK hP hD hS 2080 (by decide) f_73 rfl 2 (by decide) (hts (.fieldLink RX9 122 "GradientDesk$Shelf" "count" "I") (List.mem_of_getElem? (i := 11) rfl)) (fun _ h9 => h9) rfl (by decide +kernel) rfl rfl (Nat.le_of_ble_eq_true rfl) dX9_define_87 (fun H locs g_74 f_75 fr_76 hP hS => ?_)
      have f_75 : g_74 2080 = .inr (9, [.ref (ad 2081), .ref (ad 2082), .int (nI L.length), .ref (ad 2083), .ref (ad 2077), .ref (ad 2107), .ref (ad (2 * 6))]) := f_75
      refine lv_iload_n hx hb dX9_define_90 rfl (lv_at hl 0 rfl) ?_
      have f_77 : g_74 2078 = .inr (10, [.ref (ad 2079), .int (nI 0), .int (nI s2_5), .int (iI o2_6), .int (nI d2_7)]) := (fr_76 2078 (by omega)).trans f_69
      have f_78 : g_74 2079 = .inl (cA 2079, 64, .inl (fun j => nI (tx j))) := (fr_76 2079 (by omega)).trans ((fr_70 2079 (by omega)).trans ((fr_23 2079 (by omega)).trans f_16))
      have hTn : TXS ad cA g_74 tx 0 := ⟨s2_5, o2_6, d2_7, f_77, ⟨ho2, ho3⟩, hd2, hs2, f_78, x6, by decide⟩
      have hAW_79 : AW ad cA g_74 := AW.keep hWo (fun (k : Nat) (hk : k < 2076) => (fr_76 k (by omega)).trans ((fr_70 k (by omega)).trans ((fr_23 k (by omega)).trans ((fr_12 k (by omega)).trans ((fr_8 k (by omega)).trans (rfl))))))
      have f_80 : g_74 2076 = .inr (12, [.ref (ad 2077), .ref (ad 2078), .ref (ad 2080), .ref (ad 2084), .ref (ad 2090), .ref (ad 2097), .ref (ad 2103), .ref (ad 2108), .ref (ad 2104), .ref (ad 2105), .ref (ad 2106), .int (-1)]) := (fr_76 2076 (by omega)).trans f_72
      refine vx_ret ?_
      refine W.widen (k := 10) (n := 60) (by omega) (by omega) ?_
      exact W.iret (v := -2) hx hb hr (fun t9 ht9 hW9 => ⟨⟨-2, (g_74, L, nm, (-1)), rfl, ⟨⟨f_80, (CS.cut hC LE.rf f_75 hAW_79 (fun (k : Nat) (hk : (76 ≤ k ∧ k < 876) ∨ k = 2077 ∨ k = 2107 ∨ k = 2081 ∨ (2117 ≤ k ∧ k < 2517)) => (fr_76 k (by omega)).trans ((fr_70 k (by omega)).trans ((fr_23 k (by omega)).trans ((fr_12 k (by omega)).trans ((fr_8 k (by omega)).trans (rfl))))))), hWf, hTn, (hRe.same (fun (k : Nat) (hk : 2084 ≤ k ∧ k ≤ 2088) => (fr_76 k (by omega)).trans ((fr_70 k (by omega)).trans (rfl)))), (d5.same (fun (k : Nat) (hk : k = 2089) => (fr_76 k (by omega)).trans ((fr_70 k (by omega)).trans ((fr_23 k (by omega)).trans ((fr_12 k (by omega)).trans ((fr_8 k (by omega)).trans (rfl))))))), (d6.same (fun (k : Nat) (hk : 2090 ≤ k ∧ k ≤ 2096) => (fr_76 k (by omega)).trans ((fr_70 k (by omega)).trans ((fr_23 k (by omega)).trans ((fr_12 k (by omega)).trans ((fr_8 k (by omega)).trans (rfl))))))), (d7.same (fun (k : Nat) (hk : k = 2082) => (fr_76 k (by omega)).trans ((fr_70 k (by omega)).trans ((fr_23 k (by omega)).trans ((fr_12 k (by omega)).trans ((fr_8 k (by omega)).trans (rfl))))))), (d8.same (fun (k : Nat) (hk : 2097 ≤ k ∧ k ≤ 2102) => (fr_76 k (by omega)).trans ((fr_70 k (by omega)).trans ((fr_23 k (by omega)).trans ((fr_12 k (by omega)).trans ((fr_8 k (by omega)).trans (rfl))))))), (d9.same (fun (k : Nat) (hk : k = 2083) => (fr_76 k (by omega)).trans ((fr_70 k (by omega)).trans ((fr_23 k (by omega)).trans ((fr_12 k (by omega)).trans ((fr_8 k (by omega)).trans (rfl))))))), (da.same (fun (k : Nat) (hk : k = 2104) => (fr_76 k (by omega)).trans ((fr_70 k (by omega)).trans ((fr_23 k (by omega)).trans ((fr_12 k (by omega)).trans ((fr_8 k (by omega)).trans (rfl))))))), (db.same (fun (k : Nat) (hk : k = 2105 ∨ k = 2106) => (fr_76 k (by omega)).trans ((fr_70 k (by omega)).trans ((fr_23 k (by omega)).trans ((fr_12 k (by omega)).trans ((fr_8 k (by omega)).trans (rfl))))))), (dc.same (fun (k : Nat) (hk : k = 2103 ∨ (2108 ≤ k ∧ k < 2117)) => (fr_76 k (by omega)).trans ((fr_70 k (by omega)).trans ((fr_23 k (by omega)).trans ((fr_12 k (by omega)).trans ((fr_8 k (by omega)).trans (rfl)))))))⟩, vn, rfl, by omega, Or.inr ⟨hgr, rfl, Or.inl ⟨hkn, rfl, rfl, rfl⟩⟩⟩, by show va_P (dC, dI) vwCl _ t9.heap; rw [ht9]; exact hP⟩, hS.F ht9⟩) hS.2.2 dX9_define_91
  · skip
    have hr3 : r_2 = iI (((gram tx ty 65 0 0 1 0).2 : Nat) : Int) := by rw [hr2]; unfold gres; rw [if_neg (by omega)]
    subst hr3
    have f_81 : g_4 2076 = .inr (12, [.ref (ad 2077), .ref (ad 2078), .ref (ad 2080), .ref (ad 2084), .ref (ad 2090), .ref (ad 2097), .ref (ad 2103), .ref (ad 2108), .ref (ad 2104), .ref (ad 2105), .ref (ad 2106), .int wp]) := (fr_8 2076 (by omega)).trans d0
    refine m_put (D := (dC, dI)) (v := .int (iI (((gram tx ty 65 0 0 1 0).2 : Nat) : Int))) (tv := .int) (C := RX9) (T := TX9) (N := 12) hx hb hts bk1 tyX9 tyX9_ok nmX9 hown hK hP hD hS 2076 (by decide) f_81 rfl 11 (by decide) (hts (.fieldLink RX9 86 "GradientDesk" "wrongPlace" "I") (List.mem_of_getElem? (i := 9) rfl)) (fun _ h9 => h9) rfl (by decide +kernel) rfl rfl (Nat.le_of_ble_eq_true rfl) dX9_define_12 (fun H locs g_82 f_83 fr_84 hP hS => ?_)
    have f_83 : g_82 2076 = .inr (12, [.ref (ad 2077), .ref (ad 2078), .ref (ad 2080), .ref (ad 2084), .ref (ad 2090), .ref (ad 2097), .ref (ad 2103), .ref (ad 2108), .ref (ad 2104), .ref (ad 2105), .ref (ad 2106), .int (iI (((gram tx ty 65 0 0 1 0).2 : Nat) : Int))]) := f_83
    refine lv_aload_n hx hb dX9_define_15 rfl (lv_at hl 0 rfl) ?_
    refine m_get (D := (dC, dI)) (v := .ref (ad 2080)) (C := RX9) (T := TX9) (N := 12) hx hb hts bk1 hown hK hP 2076 (by decide) f_83 rfl 2 (by decide) (hts (.fieldLink RX9 28 "GradientDesk" "shelf" "LGradientDesk$Shelf;") (List.mem_of_getElem? (i := 10) rfl)) (fun _ h9 => h9) rfl dX9_define_16 ?_
    have f_85 : g_82 2080 = .inr (9, [.ref (ad 2081), .ref (ad 2082), .int (nI L.length), .ref (ad 2083), .ref (ad 2077), .ref (ad 2107), .ref (ad (2 * 6))]) := (fr_84 2080 (by omega)).trans ((fr_8 2080 (by omega)).trans hOo)
    refine m_get (D := (dC, dI)) (v := .int (nI L.length)) (C := RX6) (T := TX6) (N := 7) hx hb hts bk3 hown hK hP 2080 (by decide) f_85 rfl 2 (by decide) (hts (.fieldLink RX9 122 "GradientDesk$Shelf" "count" "I") (List.mem_of_getElem? (i := 11) rfl)) (fun _ h9 => h9) rfl dX9_define_19 ?_
    refine lv_istore_n (lv' := [(2, .int (nI L.length)), (0, .ref (ad 2076)), (1, .int (nI vn))]) hx hb dX9_define_22 rfl hl (by decide) rfl (fun ls hl => ?_)
    refine lv_iconst (v := -1) hx hb dX9_define_23 (by decide +kernel) ?_
    refine lv_istore_n (lv' := [(3, .int (-1)), (2, .int (nI L.length)), (0, .ref (ad 2076)), (1, .int (nI vn))]) hx hb dX9_define_24 rfl hl (by decide) rfl (fun ls hl => ?_)
    refine lv_aload_n hx hb dX9_define_25 rfl (lv_at hl 2 rfl) ?_
    refine m_get (D := (dC, dI)) (v := .int (iI (((gram tx ty 65 0 0 1 0).2 : Nat) : Int))) (C := RX9) (T := TX9) (N := 12) hx hb hts bk1 hown hK hP 2076 (by decide) f_83 rfl 11 (by decide) (hts (.fieldLink RX9 86 "GradientDesk" "wrongPlace" "I") (List.mem_of_getElem? (i := 9) rfl)) (fun _ h9 => h9) rfl dX9_define_26 ?_
    refine lv_iconst (v := -1) hx hb dX9_define_29 (by decide +kernel) ?_
    refine lv_icmp_ne (tgt := 60) hx hb dX9_define_30 (by decide) (fun c_86 => ?_) (fun c_86 => absurd ((k_iEQ (a := (((gram tx ty 65 0 0 1 0).2 : Nat) : Int)) (b := (-1)) rfl (show (-1 : Int32) = iI (-1) from by decide) (by omega) (by omega)).mp c_86) (by omega))
    refine lv_aload_n hx hb dX9_define_60 rfl (lv_at hl 2 rfl) ?_
    refine m_get (D := (dC, dI)) (v := .ref (ad 2078)) (C := RX9) (T := TX9) (N := 12) hx hb hts bk1 hown hK hP 2076 (by decide) f_83 rfl 1 (by decide) (hts (.fieldLink RX9 19 "GradientDesk" "text" "LGradientDesk$Text;") (List.mem_of_getElem? (i := 4) rfl)) (fun _ h9 => h9) rfl dX9_define_61 ?_
    refine lv_iconst (v := nI 0) hx hb dX9_define_64 (by decide +kernel) ?_
    have f_87 : g_82 2078 = .inr (10, [.ref (ad 2079), .int (nI ty), .int (nI s2_5), .int (iI o2_6), .int (nI d2_7)]) := (fr_84 2078 (by omega)).trans hT2
    refine m_put (D := (dC, dI)) (v := .int (nI 0)) (tv := .int) (C := RX7) (T := TX7) (N := 5) hx hb hts bk6 tyX7 tyX7_ok nmX7 hown hK hP hD hS 2078 (by decide) f_87 rfl 1 (by decide) (hts (.fieldLink RX9 103 "GradientDesk$Text" "length" "I") (List.mem_of_getElem? (i := 21) rfl)) (fun _ h9 => h9) rfl (by decide +kernel) rfl rfl (Nat.le_of_ble_eq_true rfl) dX9_define_65 (fun H locs g_88 f_89 fr_90 hP hS => ?_)
    have f_89 : g_88 2078 = .inr (10, [.ref (ad 2079), .int (nI 0), .int (nI s2_5), .int (iI o2_6), .int (nI d2_7)]) := f_89
    refine lv_iload_n hx hb dX9_define_68 rfl (lv_at hl 0 rfl) ?_
    refine lv_if_lt (tgt := 82) hx hb dX9_define_69 (by decide) (fun c_91 => ?_) (fun c_91 => absurd c_91 (by decide))
    refine lv_aload_n hx hb dX9_define_82 rfl (lv_at hl 2 rfl) ?_
    have f_92 : g_88 2076 = .inr (12, [.ref (ad 2077), .ref (ad 2078), .ref (ad 2080), .ref (ad 2084), .ref (ad 2090), .ref (ad 2097), .ref (ad 2103), .ref (ad 2108), .ref (ad 2104), .ref (ad 2105), .ref (ad 2106), .int (iI (((gram tx ty 65 0 0 1 0).2 : Nat) : Int))]) := (fr_90 2076 (by omega)).trans f_83
    refine m_get (D := (dC, dI)) (v := .ref (ad 2080)) (C := RX9) (T := TX9) (N := 12) hx hb hts bk1 hown hK hP 2076 (by decide) f_92 rfl 2 (by decide) (hts (.fieldLink RX9 28 "GradientDesk" "shelf" "LGradientDesk$Shelf;") (List.mem_of_getElem? (i := 10) rfl)) (fun _ h9 => h9) rfl dX9_define_83 ?_
    refine lv_iload_n hx hb dX9_define_86 rfl (lv_at hl 1 rfl) ?_
    have f_93 : g_88 2080 = .inr (9, [.ref (ad 2081), .ref (ad 2082), .int (nI L.length), .ref (ad 2083), .ref (ad 2077), .ref (ad 2107), .ref (ad (2 * 6))]) := (fr_90 2080 (by omega)).trans f_85
    refine m_put (D := (dC, dI)) (v := .int (nI L.length)) (tv := .int) (C := RX6) (T := TX6) (N := 7) hx hb hts bk3 tyX6 tyX6_ok nmX6 hown hK hP hD hS 2080 (by decide) f_93 rfl 2 (by decide) (hts (.fieldLink RX9 122 "GradientDesk$Shelf" "count" "I") (List.mem_of_getElem? (i := 11) rfl)) (fun _ h9 => h9) rfl (by decide +kernel) rfl rfl (Nat.le_of_ble_eq_true rfl) dX9_define_87 (fun H locs g_94 f_95 fr_96 hP hS => ?_)
    have f_95 : g_94 2080 = .inr (9, [.ref (ad 2081), .ref (ad 2082), .int (nI L.length), .ref (ad 2083), .ref (ad 2077), .ref (ad 2107), .ref (ad (2 * 6))]) := f_95
    refine lv_iload_n hx hb dX9_define_90 rfl (lv_at hl 0 rfl) ?_
    have f_97 : g_94 2078 = .inr (10, [.ref (ad 2079), .int (nI 0), .int (nI s2_5), .int (iI o2_6), .int (nI d2_7)]) := (fr_96 2078 (by omega)).trans f_89
    have f_98 : g_94 2079 = .inl (cA 2079, 64, .inl (fun j => nI (tx j))) := (fr_96 2079 (by omega)).trans ((fr_90 2079 (by omega)).trans ((fr_84 2079 (by omega)).trans ((fr_8 2079 (by omega)).trans x5)))
    have hTn : TXS ad cA g_94 tx 0 := ⟨s2_5, o2_6, d2_7, f_97, ⟨ho2, ho3⟩, hd2, hs2, f_98, x6, by decide⟩
    have hAW_99 : AW ad cA g_94 := AW.keep hWo (fun (k : Nat) (hk : k < 2076) => (fr_96 k (by omega)).trans ((fr_90 k (by omega)).trans ((fr_84 k (by omega)).trans ((fr_8 k (by omega)).trans (rfl)))))
    have f_100 : g_94 2076 = .inr (12, [.ref (ad 2077), .ref (ad 2078), .ref (ad 2080), .ref (ad 2084), .ref (ad 2090), .ref (ad 2097), .ref (ad 2103), .ref (ad 2108), .ref (ad 2104), .ref (ad 2105), .ref (ad 2106), .int (iI (((gram tx ty 65 0 0 1 0).2 : Nat) : Int))]) := (fr_96 2076 (by omega)).trans f_92
    refine vx_ret ?_
    refine W.widen (k := 10) (n := 60) (by omega) (by omega) ?_
    exact W.iret (v := -1) hx hb hr (fun t9 ht9 hW9 => ⟨⟨-1, (g_94, L, nm, (iI (((gram tx ty 65 0 0 1 0).2 : Nat) : Int))), rfl, ⟨⟨f_100, (CS.cut hC LE.rf f_95 hAW_99 (fun (k : Nat) (hk : (76 ≤ k ∧ k < 876) ∨ k = 2077 ∨ k = 2107 ∨ k = 2081 ∨ (2117 ≤ k ∧ k < 2517)) => (fr_96 k (by omega)).trans ((fr_90 k (by omega)).trans ((fr_84 k (by omega)).trans ((fr_8 k (by omega)).trans (rfl)))))), hWf, hTn, (d4.same (fun (k : Nat) (hk : 2084 ≤ k ∧ k ≤ 2088) => (fr_96 k (by omega)).trans ((fr_90 k (by omega)).trans ((fr_84 k (by omega)).trans ((fr_8 k (by omega)).trans (rfl)))))), (d5.same (fun (k : Nat) (hk : k = 2089) => (fr_96 k (by omega)).trans ((fr_90 k (by omega)).trans ((fr_84 k (by omega)).trans ((fr_8 k (by omega)).trans (rfl)))))), (d6.same (fun (k : Nat) (hk : 2090 ≤ k ∧ k ≤ 2096) => (fr_96 k (by omega)).trans ((fr_90 k (by omega)).trans ((fr_84 k (by omega)).trans ((fr_8 k (by omega)).trans (rfl)))))), (d7.same (fun (k : Nat) (hk : k = 2082) => (fr_96 k (by omega)).trans ((fr_90 k (by omega)).trans ((fr_84 k (by omega)).trans ((fr_8 k (by omega)).trans (rfl)))))), (d8.same (fun (k : Nat) (hk : 2097 ≤ k ∧ k ≤ 2102) => (fr_96 k (by omega)).trans ((fr_90 k (by omega)).trans ((fr_84 k (by omega)).trans ((fr_8 k (by omega)).trans (rfl)))))), (d9.same (fun (k : Nat) (hk : k = 2083) => (fr_96 k (by omega)).trans ((fr_90 k (by omega)).trans ((fr_84 k (by omega)).trans ((fr_8 k (by omega)).trans (rfl)))))), (da.same (fun (k : Nat) (hk : k = 2104) => (fr_96 k (by omega)).trans ((fr_90 k (by omega)).trans ((fr_84 k (by omega)).trans ((fr_8 k (by omega)).trans (rfl)))))), (db.same (fun (k : Nat) (hk : k = 2105 ∨ k = 2106) => (fr_96 k (by omega)).trans ((fr_90 k (by omega)).trans ((fr_84 k (by omega)).trans ((fr_8 k (by omega)).trans (rfl)))))), (dc.same (fun (k : Nat) (hk : k = 2103 ∨ (2108 ≤ k ∧ k < 2117)) => (fr_96 k (by omega)).trans ((fr_90 k (by omega)).trans ((fr_84 k (by omega)).trans ((fr_8 k (by omega)).trans (rfl))))))⟩, vn, rfl, by omega, Or.inl ⟨hgr, (nI_iI _).symm, rfl, rfl, rfl⟩⟩, by show va_P (dC, dI) vwCl _ t9.heap; rw [ht9]; exact hP⟩, hS.F ht9⟩) hS.2.2 dX9_define_91
end
