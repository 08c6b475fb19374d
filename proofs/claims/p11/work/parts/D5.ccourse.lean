def wd_W1_raise : List Cond := .code yX1_raise cX1_raise 4 none :: (([.fieldLink RX1 37 "GradientDesk$Course" "left" "LGradientDesk$Whole;", .methodLink RX1 51 yX8_put, .instanceMethod yX8_put, .selects RX8 yX8_put yX8_put, .initialized RX8, .fieldLink RX1 44 "GradientDesk$Course" "hold" "LGradientDesk$Whole;", .methodLink RX1 55 yX8_multiply, .instanceMethod yX8_multiply, .selects RX8 yX8_multiply yX8_multiply, .methodLink RX1 88 yX8_become, .instanceMethod yX8_become, .selects RX8 yX8_become yX8_become] : List Cond) ++ (u_ws RX1 TX1 10 ++ (wd_X8_put ++ (wd_X8_multiply ++ (wd_X8_become ++ ([]))))))
theorem gw_W1_raise : wd_W1_raise.all goodWord = true := k_allc rfl (k_all (by decide +kernel) (k_all (gu_X1) (k_all (gw_X8_put) (k_all (gw_X8_multiply) (k_all (gw_X8_become) (rfl))))))
set_option maxHeartbeats 4000000 in
set_option maxRecDepth 100000 in
theorem c_W1_raise (l : Launch) (dC : Nat → ClassId) (dI : Nat → Nat → Nat) (A : Nat → Prop) (ad : Nat → Nat) (cA : Nat → ClassId) (g : Nat → va_E) (bi : Nat) (en : Nat) (hAW : AW ad cA g) (hCr : CRS ad cA g) (hbi : bi < 1038 ∧ bi ≠ 9 ∧ bi ≠ 11) (hen : en ≤ 9) : Met l yX1_raise wd_W1_raise ({ frames := 40, cells := 0, slots := 0, locals := 800 }) (va_Pc [.ref (ad 2090), .ref (ad (2 * bi)), .int (nI en)] (PR NSc tyc dC dI A ad cA g)) (va_Qv (fun (u : Nat → va_E) => match u with | g2 => (∀ k, k ≠ 18 ∧ k ≠ 19 ∧ k ≠ 22 ∧ k ≠ 23 → g2 k = g k) ∧ AW ad cA g2) (fun (u : Nat → va_E) (t : State) => va_P (dC, dI) vwCl (wo ad NSc u) t.heap) A) (0) (0) A := by
  refine Met.ofW (cc := cX1_raise) (maxL := 4) (ret := none) (by decide) rfl ?_
  intro p e s m args below meth c s₁ B hml hv
  obtain ⟨rfl, hA, hP, hL⟩ := hv
  have hx := B.exec
  have hb := B.bytes
  have hr := B.returns
  have hts := atoms_spec (ws := wd_W1_raise) B.pre
  have hown : s.vm.findClass RX1 = some m.cls := findClass_of_methodNamed B.named
  have hlocks := B.notSynchronized
  have hK := hL.1
  have hD : ∀ g, va_D A (wo ad NSc g) := fun g => wo_D hL.2.1 hL.2.2 g
  have hS : va_S A s.heap s.heap [] := va_S.rf
  have bk0 : ∀ w ∈ u_ws RX1 TX1 10, w ∈ wd_W1_raise := fun _ h => List.mem_cons_of_mem _ (List.mem_append_right _ (List.mem_append_left _ h))
  have bk1 : ∀ w ∈ wd_X8_put, w ∈ wd_W1_raise := fun _ h => List.mem_cons_of_mem _ (List.mem_append_right _ (List.mem_append_right _ (List.mem_append_left _ h)))
  have bk2 : ∀ w ∈ wd_X8_multiply, w ∈ wd_W1_raise := fun _ h => List.mem_cons_of_mem _ (List.mem_append_right _ (List.mem_append_right _ (List.mem_append_right _ (List.mem_append_left _ h))))
  have bk3 : ∀ w ∈ wd_X8_become, w ∈ wd_W1_raise := fun _ h => List.mem_cons_of_mem _ (List.mem_append_right _ (List.mem_append_right _ (List.mem_append_right _ (List.mem_append_right _ (List.mem_append_left _ h)))))
  have hl := lv_entry ([.ref (ad 2090), .ref (ad (2 * bi)), .int (nI en)]) (n := 4) (Nat.le_of_ble_eq_true rfl)
  rw [lg_entry_eq]
  generalize (lg_sl ([.ref (ad 2090), .ref (ad (2 * bi)), .int (nI en)]) ++ List.replicate (4 - (lg_sl ([.ref (ad 2090), .ref (ad (2 * bi)), .int (nI en)])).length) Slot.unset).toArray = ls at hl ⊢
  have hl : lv_has ls 4 [(0, .ref (ad 2090)), (1, .ref (ad (2 * bi))), (2, .int (nI en))] := hl
  have hcr9 := hCr
  obtain ⟨y0, y1, y2, y3, y4, ⟨ft, y5⟩, fh, y6⟩ := hcr9
  refine lv_aload_n hx hb dX1_raise_0 rfl (lv_at hl 0 rfl) ?_
  refine m_get (D := (dC, dI)) (v := .ref (ad (2 * 9))) (C := RX1) (T := TX1) (N := 10) hx hb hts bk0 hown hK hP 2090 (by decide) y0 rfl 7 (by decide) (hts (.fieldLink RX1 37 "GradientDesk$Course" "left" "LGradientDesk$Whole;") (List.mem_of_getElem? (i := 1) rfl)) (fun _ h9 => h9) rfl dX1_raise_1 ?_
  refine lv_lconst (v := lN 1) hx hb dX1_raise_4 (by decide +kernel) ?_
  obtain ⟨mw_1, sw_1, nw_1, fw_1, aw_1, bw_1, cw_1, dw_1, ew_1⟩ := hAW 9 (by omega)
  have qw_1 : mw_1 ≤ 4096 := by rw [dw_1]; exact rmc_le _
  refine va_callv (va_runV (As := [.long (lN 1)]) (rest := []) ⟨hx, hb, hml, hown, hts⟩ (c_X8_put l dC dI A ad cA g 9 (lN 1) hAW (by omega)) (cwV 1 hts (goodIn_app (goodIn_r [Cond.methodLink RX1 51 yX8_put, Cond.instanceMethod yX8_put, Cond.selects RX8 yX8_put yX8_put, Cond.initialized RX8] [2, 3, 4, 5] rfl rfl) (goodIn_sub (fun w9 h9 => bk1 w9 h9) gw_X8_put)) rfl rfl rfl (by decide +kernel) ⟨Nat.le_of_ble_eq_true rfl, Nat.le_of_ble_eq_true rfl⟩) ⟨fun a U g mk q => ⟨q.1, q.2.1, q.2.2.1, LY.moved (u := U) (U := U.calling g mk a) (Vm.Alike.refl U.vm) q.2.2.2⟩, va_recv hK hP (ci := 11) (q0 := (2 * 9)) rfl (wo_at (ns_w (by omega)) aw_1), fun U hU hW => ⟨rfl, by rw [hU]; exact fun q h => hA q (Nat.le_trans hS.1 h), by rw [hU]; exact hP, LY.moved hW.alike hL⟩⟩ rfl rfl hl.1 rfl (lv_room (Nat.le_of_ble_eq_true rfl)) dX1_raise_5 ⟨(Nat.le_of_ble_eq_true rfl), (Nat.le_of_ble_eq_true rfl)⟩) hS (fun q _ h => h) (fun q h => h) (fun u8 t8 H1 locs ht8 hvm8 hw_3 hB hz1 hk1 hS => ?_)
  obtain ⟨g_4, rfl⟩ : ∃ z, z = u8 := ⟨_, rfl⟩
  try dsimp only at hw_3 hB
  rw [ht8] at hB
  have hP := hB
  generalize H1 = H at hP hS ⊢
  obtain ⟨fr_5, hAW_2⟩ := hw_3
  refine lv_iconst (v := nI 0) hx hb dX1_raise_8 (by decide +kernel) ?_
  refine lv_istore_n (lv' := [(3, .int (nI 0)), (0, .ref (ad 2090)), (1, .ref (ad (2 * bi))), (2, .int (nI en))]) hx hb dX1_raise_9 rfl hl (by decide) rfl (fun ls hl => ?_)
  have loop_6 : ∀ (k9 : Nat) (i : Nat) (g_8 : Nat → va_E) (fr_9 : ∀ k, (k ≠ 18 ∧ k ≠ 19 ∧ k ≠ 22 ∧ k ≠ 23) → g_8 k = g_4 k), 300 - i < k9 → (i ≤ en) → (AW ad cA g_8) → ∀ (H : Heap) (locs : List Loc) (ls : Array Slot), va_P (dC, dI) vwCl (wo ad NSc g_8) H → va_S A s.heap H locs → lv_has ls 4 [(0, .ref (ad 2090)), (1, .ref (ad (2 * bi))), (2, .int (nI en)), (3, .int (nI i))] → W p l e (headSpec wd_W1_raise ({ frames := 40, cells := 0, slots := 0, locals := 800 })).room s m ([.ref (ad 2090), .ref (ad (2 * bi)), .int (nI en)] : List Value).toArray below meth c H locs (0) (0) (MQ below (va_Qv (fun (u : Nat → va_E) => match u with | g2 => (∀ k, k ≠ 18 ∧ k ≠ 19 ∧ k ≠ 22 ∧ k ≠ 23 → g2 k = g k) ∧ AW ad cA g2) (fun (u : Nat → va_E) (t : State) => va_P (dC, dI) vwCl (wo ad NSc u) t.heap) A) ([.ref (ad 2090), .ref (ad (2 * bi)), .int (nI en)] : List Value).toArray s (0) (0) A) (F0 m 10 ls []) := by
    intro k9
    induction k9 with
    | zero => intro i g_8 fr_9 h9; exact absurd h9 (Nat.not_lt_zero _)
    | succ k9 ih_7 =>
      intro i g_8 fr_9 h9 hi hAL H locs ls hP hS hl
      refine lv_iload_n hx hb dX1_raise_10 rfl (lv_at hl 3 rfl) ?_
      refine lv_iload_n hx hb dX1_raise_11 rfl (lv_at hl 2 rfl) ?_
      refine lv_icmp_ge (tgt := 44) hx hb dX1_raise_12 (by decide) (fun c_10 => ?_) (fun c_10 => ?_)
      · have c_10 := (nI_leI (a := en) (b := i) (by omega) (by omega)).mp c_10
        refine W.widen (k := 0) (n := 0) (by omega) (by omega) ?_
        exact W.vret hx hb hr (fun t9 ht9 hW9 => ⟨⟨g_8, rfl, ⟨(fun (k : Nat) (hk : k ≠ 18 ∧ k ≠ 19 ∧ k ≠ 22 ∧ k ≠ 23) => (fr_9 k (by omega)).trans ((fr_5 k (by omega)).trans (rfl))), hAL⟩, by show va_P (dC, dI) vwCl _ t9.heap; rw [ht9]; exact hP⟩, hS.F ht9⟩) hS.2.2 dX1_raise_44
      · have c_10 := mt (nI_leI (a := en) (b := i) (by omega) (by omega)).mpr c_10
        refine lv_aload_n hx hb dX1_raise_15 rfl (lv_at hl 0 rfl) ?_
        have f_11 : g_8 2090 = .inr (4, [.ref (ad 2080), .ref (ad 2091), .ref (ad 2092), .ref (ad 2093), .ref (ad 2094), .ref (ad 2095), .ref (ad 2096), .ref (ad (2 * 9)), .ref (ad (2 * 10)), .ref (ad (2 * 11))]) := (fr_9 2090 (by omega)).trans ((fr_5 2090 (by omega)).trans y0)
        refine m_get (D := (dC, dI)) (v := .ref (ad (2 * 11))) (C := RX1) (T := TX1) (N := 10) hx hb hts bk0 hown hK hP 2090 (by decide) f_11 rfl 9 (by decide) (hts (.fieldLink RX1 44 "GradientDesk$Course" "hold" "LGradientDesk$Whole;") (List.mem_of_getElem? (i := 6) rfl)) (fun _ h9 => h9) rfl dX1_raise_16 ?_
        refine lv_aload_n hx hb dX1_raise_19 rfl (lv_at hl 0 rfl) ?_
        refine m_get (D := (dC, dI)) (v := .ref (ad (2 * 9))) (C := RX1) (T := TX1) (N := 10) hx hb hts bk0 hown hK hP 2090 (by decide) f_11 rfl 7 (by decide) (hts (.fieldLink RX1 37 "GradientDesk$Course" "left" "LGradientDesk$Whole;") (List.mem_of_getElem? (i := 1) rfl)) (fun _ h9 => h9) rfl dX1_raise_20 ?_
        refine lv_aload_n hx hb dX1_raise_23 rfl (lv_at hl 1 rfl) ?_
        obtain ⟨mw_12, sw_12, nw_12, fw_12, aw_12, bw_12, cw_12, dw_12, ew_12⟩ := hAL 11 (by omega)
        have qw_12 : mw_12 ≤ 4096 := by rw [dw_12]; exact rmc_le _
        refine va_callv (va_runV (As := [.ref (ad (2 * 9)), .ref (ad (2 * bi))]) (rest := []) ⟨hx, hb, hml, hown, hts⟩ (c_X8_multiply l dC dI A ad cA g_8 11 9 bi hAL (by omega) (by omega) (by omega) (by omega) (by omega)) (cwV 2 hts (goodIn_app (goodIn_r [Cond.methodLink RX1 55 yX8_multiply, Cond.instanceMethod yX8_multiply, Cond.selects RX8 yX8_multiply yX8_multiply, Cond.initialized RX8] [7, 8, 9, 5] rfl rfl) (goodIn_sub (fun w9 h9 => bk2 w9 h9) gw_X8_multiply)) rfl rfl rfl (by decide +kernel) ⟨Nat.le_of_ble_eq_true rfl, Nat.le_of_ble_eq_true rfl⟩) ⟨fun a U g mk q => ⟨q.1, q.2.1, q.2.2.1, LY.moved (u := U) (U := U.calling g mk a) (Vm.Alike.refl U.vm) q.2.2.2⟩, va_recv hK hP (ci := 11) (q0 := (2 * 11)) rfl (wo_at (ns_w (by omega)) aw_12), fun U hU hW => ⟨rfl, by rw [hU]; exact fun q h => hA q (Nat.le_trans hS.1 h), by rw [hU]; exact hP, LY.moved hW.alike hL⟩⟩ rfl rfl hl.1 rfl (lv_room (Nat.le_of_ble_eq_true rfl)) dX1_raise_24 ⟨(Nat.le_of_ble_eq_true rfl), (Nat.le_of_ble_eq_true rfl)⟩) hS (fun q _ h => h) (fun q h => h) (fun u8 t8 H1 locs ht8 hvm8 hw_14 hB hz1 hk1 hS => ?_)
        obtain ⟨g_15, rfl⟩ : ∃ z, z = u8 := ⟨_, rfl⟩
        try dsimp only at hw_14 hB
        rw [ht8] at hB
        have hP := hB
        generalize H1 = H at hP hS ⊢
        obtain ⟨fr_16, hAW_13⟩ := hw_14
        refine lv_aload_n hx hb dX1_raise_27 rfl (lv_at hl 0 rfl) ?_
        have f_17 : g_15 2090 = .inr (4, [.ref (ad 2080), .ref (ad 2091), .ref (ad 2092), .ref (ad 2093), .ref (ad 2094), .ref (ad 2095), .ref (ad 2096), .ref (ad (2 * 9)), .ref (ad (2 * 10)), .ref (ad (2 * 11))]) := (fr_16 2090 (by omega)).trans f_11
        refine m_get (D := (dC, dI)) (v := .ref (ad (2 * 9))) (C := RX1) (T := TX1) (N := 10) hx hb hts bk0 hown hK hP 2090 (by decide) f_17 rfl 7 (by decide) (hts (.fieldLink RX1 37 "GradientDesk$Course" "left" "LGradientDesk$Whole;") (List.mem_of_getElem? (i := 1) rfl)) (fun _ h9 => h9) rfl dX1_raise_28 ?_
        refine lv_aload_n hx hb dX1_raise_31 rfl (lv_at hl 0 rfl) ?_
        refine m_get (D := (dC, dI)) (v := .ref (ad (2 * 11))) (C := RX1) (T := TX1) (N := 10) hx hb hts bk0 hown hK hP 2090 (by decide) f_17 rfl 9 (by decide) (hts (.fieldLink RX1 44 "GradientDesk$Course" "hold" "LGradientDesk$Whole;") (List.mem_of_getElem? (i := 6) rfl)) (fun _ h9 => h9) rfl dX1_raise_32 ?_
        obtain ⟨mw_18, sw_18, nw_18, fw_18, aw_18, bw_18, cw_18, dw_18, ew_18⟩ := hAW_13 9 (by omega)
        have qw_18 : mw_18 ≤ 4096 := by rw [dw_18]; exact rmc_le _
        refine va_callv (va_runV (As := [.ref (ad (2 * 11))]) (rest := []) ⟨hx, hb, hml, hown, hts⟩ (c_X8_become l dC dI A ad cA g_15 9 11 hAW_13 (by omega) (by omega) (by omega)) (cwV 1 hts (goodIn_app (goodIn_r [Cond.methodLink RX1 88 yX8_become, Cond.instanceMethod yX8_become, Cond.selects RX8 yX8_become yX8_become, Cond.initialized RX8] [10, 11, 12, 5] rfl rfl) (goodIn_sub (fun w9 h9 => bk3 w9 h9) gw_X8_become)) rfl rfl rfl (by decide +kernel) ⟨Nat.le_of_ble_eq_true rfl, Nat.le_of_ble_eq_true rfl⟩) ⟨fun a U g mk q => ⟨q.1, q.2.1, q.2.2.1, LY.moved (u := U) (U := U.calling g mk a) (Vm.Alike.refl U.vm) q.2.2.2⟩, va_recv hK hP (ci := 11) (q0 := (2 * 9)) rfl (wo_at (ns_w (by omega)) aw_18), fun U hU hW => ⟨rfl, by rw [hU]; exact fun q h => hA q (Nat.le_trans hS.1 h), by rw [hU]; exact hP, LY.moved hW.alike hL⟩⟩ rfl rfl hl.1 rfl (lv_room (Nat.le_of_ble_eq_true rfl)) dX1_raise_35 ⟨(Nat.le_of_ble_eq_true rfl), (Nat.le_of_ble_eq_true rfl)⟩) hS (fun q _ h => h) (fun q h => h) (fun u8 t8 H1 locs ht8 hvm8 hw_20 hB hz1 hk1 hS => ?_)
        obtain ⟨g_21, rfl⟩ : ∃ z, z = u8 := ⟨_, rfl⟩
        try dsimp only at hw_20 hB
        rw [ht8] at hB
        have hP := hB
        generalize H1 = H at hP hS ⊢
        obtain ⟨fr_22, hAW_19⟩ := hw_20
        refine lv_iinc (v := nI (i + 1)) (lv' := [(3, .int (nI (i + 1))), (0, .ref (ad 2090)), (1, .ref (ad (2 * bi))), (2, .int (nI en))]) hx hb dX1_raise_38 hl (k := 3) rfl (nI_add i 1) (by decide) rfl (fun ls hl => ?_)
        refine lv_goto (tgt := 10) hx hb dX1_raise_41 (by decide) ?_
        exact ih_7 (i + 1) g_21 (fun (k : Nat) (hk : k ≠ 18 ∧ k ≠ 19 ∧ k ≠ 22 ∧ k ≠ 23) => (fr_22 k (by omega)).trans ((fr_16 k (by omega)).trans ((fr_9 k (by omega)).trans (rfl)))) (by omega) (by omega) hAW_19 _ _ _ hP hS (lv_sub (l' := [(0, .ref (ad 2090)), (1, .ref (ad (2 * bi))), (2, .int (nI en)), (3, .int (nI (i + 1)))]) hl [1, 2, 3, 0] rfl)
  exact loop_6 _ 0 g_4 (fun (k : Nat) (hk : k ≠ 18 ∧ k ≠ 19 ∧ k ≠ 22 ∧ k ≠ 23) => rfl) (Nat.lt_succ_self _) (by omega) hAW_2 _ _ _ hP hS (lv_sub (l' := [(0, .ref (ad 2090)), (1, .ref (ad (2 * bi))), (2, .int (nI en)), (3, .int (nI 0))]) hl [1, 2, 3, 0] rfl)
def wd_W1_widV : List Cond := .code yX1_widen cX1_widen 6 none :: (([.fieldLink RX1 44 "GradientDesk$Course" "hold" "LGradientDesk$Whole;", .fieldLink RX1 20 "GradientDesk$Course" "bases" "[LGradientDesk$Whole;", .methodLink RX1 55 yX8_multiply, .instanceMethod yX8_multiply, .selects RX8 yX8_multiply yX8_multiply, .initialized RX8, .fieldLink RX1 23 "GradientDesk$Course" "scales" "[LGradientDesk$Whole;", .fieldLink RX1 47 "GradientDesk$Course" "shelf" "LGradientDesk$Shelf;", .fieldLink RX1 69 "GradientDesk$Shelf" "parts" "[LGradientDesk$Part;", .fieldLink RX1 95 "GradientDesk$Part" "degree" "I"] : List Cond) ++ (u_ws RX1 TX1 10 ++ (wd_X8_multiply ++ (u_ws RX6 TX6 7 ++ (u_ws RX3 TX3 7 ++ ([]))))))
theorem gw_W1_widV : wd_W1_widV.all goodWord = true := k_allc rfl (k_all (by decide +kernel) (k_all (gu_X1) (k_all (gw_X8_multiply) (k_all (gu_X6) (k_all (gu_X3) (rfl))))))
set_option maxHeartbeats 4000000 in
set_option maxRecDepth 100000 in
theorem c_W1_widV (l : Launch) (dC : Nat → ClassId) (dI : Nat → Nat → Nat) (A : Nat → Prop) (ad : Nat → Nat) (cA : Nat → ClassId) (g : Nat → va_E) (L : List PD) (ow : Nat) (ot : Nat) (dgr : Nat) (tt : Nat) (hC : CS ad cA g L) (hWf : WFL L) (hCr : CRS ad cA g) (iow : ow < L.length) (iot : ot < L.length) (hdg : (gd L ow).2.2.2.1 ≤ dgr ∧ dgr ≤ 8) (htt : tt = 9 ∨ tt = 10) : Met l yX1_widen wd_W1_widV ({ frames := 40, cells := 0, slots := 0, locals := 800 }) (va_Pc [.ref (ad 2090), .ref (ad 2091), .int (nI ow), .int (nI ot), .int (nI dgr), .ref (ad (2 * tt))] (PR NSc tyc dC dI A ad cA g)) (va_Qv (fun (u : Nat → va_E) => match u with | g2 => (∀ k, k < 18 ∨ 24 ≤ k → g2 k = g k) ∧ AW ad cA g2) (fun (u : Nat → va_E) (t : State) => va_P (dC, dI) vwCl (wo ad NSc u) t.heap) A) (0) (0) A := by
  refine Met.ofW (cc := cX1_widen) (maxL := 6) (ret := none) (by decide) rfl ?_
  intro p e s m args below meth c s₁ B hml hv
  obtain ⟨rfl, hA, hP, hL⟩ := hv
  have hx := B.exec
  have hb := B.bytes
  have hr := B.returns
  have hts := atoms_spec (ws := wd_W1_widV) B.pre
  have hown : s.vm.findClass RX1 = some m.cls := findClass_of_methodNamed B.named
  have hlocks := B.notSynchronized
  have hK := hL.1
  have hD : ∀ g, va_D A (wo ad NSc g) := fun g => wo_D hL.2.1 hL.2.2 g
  have hS : va_S A s.heap s.heap [] := va_S.rf
  have bk0 : ∀ w ∈ u_ws RX1 TX1 10, w ∈ wd_W1_widV := fun _ h => List.mem_cons_of_mem _ (List.mem_append_right _ (List.mem_append_left _ h))
  have bk1 : ∀ w ∈ wd_X8_multiply, w ∈ wd_W1_widV := fun _ h => List.mem_cons_of_mem _ (List.mem_append_right _ (List.mem_append_right _ (List.mem_append_left _ h)))
  have bk2 : ∀ w ∈ u_ws RX6 TX6 7, w ∈ wd_W1_widV := fun _ h => List.mem_cons_of_mem _ (List.mem_append_right _ (List.mem_append_right _ (List.mem_append_right _ (List.mem_append_left _ h))))
  have bk3 : ∀ w ∈ u_ws RX3 TX3 7, w ∈ wd_W1_widV := fun _ h => List.mem_cons_of_mem _ (List.mem_append_right _ (List.mem_append_right _ (List.mem_append_right _ (List.mem_append_right _ (List.mem_append_left _ h)))))
  have hl := lv_entry ([.ref (ad 2090), .ref (ad 2091), .int (nI ow), .int (nI ot), .int (nI dgr), .ref (ad (2 * tt))]) (n := 6) (Nat.le_of_ble_eq_true rfl)
  rw [lg_entry_eq]
  generalize (lg_sl ([.ref (ad 2090), .ref (ad 2091), .int (nI ow), .int (nI ot), .int (nI dgr), .ref (ad (2 * tt))]) ++ List.replicate (6 - (lg_sl ([.ref (ad 2090), .ref (ad 2091), .int (nI ow), .int (nI ot), .int (nI dgr), .ref (ad (2 * tt))])).length) Slot.unset).toArray = ls at hl ⊢
  have hl : lv_has ls 6 [(0, .ref (ad 2090)), (1, .ref (ad 2091)), (2, .int (nI ow)), (3, .int (nI ot)), (4, .int (nI dgr)), (5, .ref (ad (2 * tt)))] := hl
  have hC0 := hC
  obtain ⟨hLn, hW, ⟨hAr, hWk, hPa, hFr⟩, hO, pt, hPt, hM⟩ := hC0
  unfold CSO at hO
  have hpb := hPt.2
  obtain ⟨a0ow, a1ow, a2ow, a3ow, a4ow, a5ow, a6ow⟩ := hM ow iow
  obtain ⟨w1ow, w2ow, w3ow, w4ow, w5ow, -⟩ := hWf ow iow
  have hpow : g (2117 + 2 * ow) = .inr (6, [.ref (ad (2118 + 2 * ow)), .int (nI ((gd L ow).1)), .int (iI ((gd L ow).2.1)), .int (iI ((gd L ow).2.2.1)), .int (nI ((gd L ow).2.2.2.1)), .int (nI ((gd L ow).2.2.2.2.1)), .int (nI ((gd L ow).2.2.2.2.2.1))]) := by rw [hPt.1 ow (by clear a6ow; omega), a0ow, a1ow, a2ow, a3ow, a4ow, a5ow, nI_iI, nI_iI, nI_iI, nI_iI]
  obtain ⟨fnow, hfnow⟩ : ∃ z : Prop, z = ((gd L ow).1 = 0 → CMN ad cA g (gd L ow) ow) := ⟨_, rfl⟩
  rw [← hfnow] at a6ow
  have hcr9 := hCr
  obtain ⟨y0, y1, y2, y3, y4, ⟨ft, y5⟩, fh, y6⟩ := hcr9
  refine lv_aload_n hx hb dX1_widen_0 rfl (lv_at hl 0 rfl) ?_
  refine m_get (D := (dC, dI)) (v := .ref (ad (2 * 11))) (C := RX1) (T := TX1) (N := 10) hx hb hts bk0 hown hK hP 2090 (by decide) y0 rfl 9 (by decide) (hts (.fieldLink RX1 44 "GradientDesk$Course" "hold" "LGradientDesk$Whole;") (List.mem_of_getElem? (i := 1) rfl)) (fun _ h9 => h9) rfl dX1_widen_1 ?_
  refine lv_aload_n hx hb dX1_widen_4 rfl (lv_at hl 1 rfl) ?_
  refine lv_iload_n hx hb dX1_widen_5 rfl (lv_at hl 2 rfl) ?_
  refine m_aald hx hb hK hP 2091 (by decide) rfl y1 (i := ow) (v := ad (2 * (438 + ow))) (by omega) (by decide) rfl dX1_widen_6 ?_
  refine lv_aload_n hx hb dX1_widen_7 rfl (lv_at hl 0 rfl) ?_
  refine m_get (D := (dC, dI)) (v := .ref (ad 2093)) (C := RX1) (T := TX1) (N := 10) hx hb hts bk0 hown hK hP 2090 (by decide) y0 rfl 3 (by decide) (hts (.fieldLink RX1 20 "GradientDesk$Course" "bases" "[LGradientDesk$Whole;") (List.mem_of_getElem? (i := 2) rfl)) (fun _ h9 => h9) rfl dX1_widen_8 ?_
  refine lv_iload_n hx hb dX1_widen_11 rfl (lv_at hl 3 rfl) ?_
  refine m_aald hx hb hK hP 2093 (by decide) rfl y3 (i := ot) (v := ad (2 * (838 + ot))) (by omega) (by decide) rfl dX1_widen_12 ?_
  obtain ⟨mw_1, sw_1, nw_1, fw_1, aw_1, bw_1, cw_1, dw_1, ew_1⟩ := hW 11 (by omega)
  have qw_1 : mw_1 ≤ 4096 := by rw [dw_1]; exact rmc_le _
  refine va_callv (va_runV (As := [.ref (ad (2 * (438 + ow))), .ref (ad (2 * (838 + ot)))]) (rest := []) ⟨hx, hb, hml, hown, hts⟩ (c_X8_multiply l dC dI A ad cA g 11 (438 + ow) (838 + ot) hW (by omega) (by omega) (by omega) (by omega) (by omega)) (cwV 2 hts (goodIn_app (goodIn_r [Cond.methodLink RX1 55 yX8_multiply, Cond.instanceMethod yX8_multiply, Cond.selects RX8 yX8_multiply yX8_multiply, Cond.initialized RX8] [3, 4, 5, 6] rfl rfl) (goodIn_sub (fun w9 h9 => bk1 w9 h9) gw_X8_multiply)) rfl rfl rfl (by decide +kernel) ⟨Nat.le_of_ble_eq_true rfl, Nat.le_of_ble_eq_true rfl⟩) ⟨fun a U g mk q => ⟨q.1, q.2.1, q.2.2.1, LY.moved (u := U) (U := U.calling g mk a) (Vm.Alike.refl U.vm) q.2.2.2⟩, va_recv hK hP (ci := 11) (q0 := (2 * 11)) rfl (wo_at (ns_w (by omega)) aw_1), fun U hU hW => ⟨rfl, by rw [hU]; exact fun q h => hA q (Nat.le_trans hS.1 h), by rw [hU]; exact hP, LY.moved hW.alike hL⟩⟩ rfl rfl hl.1 rfl (lv_room (Nat.le_of_ble_eq_true rfl)) dX1_widen_13 ⟨(Nat.le_of_ble_eq_true rfl), (Nat.le_of_ble_eq_true rfl)⟩) hS (fun q _ h => h) (fun q h => h) (fun u8 t8 H1 locs ht8 hvm8 hw_3 hB hz1 hk1 hS => ?_)
  obtain ⟨g_4, rfl⟩ : ∃ z, z = u8 := ⟨_, rfl⟩
  try dsimp only at hw_3 hB
  rw [ht8] at hB
  have hP := hB
  generalize H1 = H at hP hS ⊢
  obtain ⟨fr_5, hAW_2⟩ := hw_3
  refine lv_aload hx hb dX1_widen_16 (lv_at hl 5 rfl) ?_
  refine lv_aload_n hx hb dX1_widen_18 rfl (lv_at hl 0 rfl) ?_
  have f_6 : g_4 2090 = .inr (4, [.ref (ad 2080), .ref (ad 2091), .ref (ad 2092), .ref (ad 2093), .ref (ad 2094), .ref (ad 2095), .ref (ad 2096), .ref (ad (2 * 9)), .ref (ad (2 * 10)), .ref (ad (2 * 11))]) := (fr_5 2090 (by omega)).trans y0
  refine m_get (D := (dC, dI)) (v := .ref (ad (2 * 11))) (C := RX1) (T := TX1) (N := 10) hx hb hts bk0 hown hK hP 2090 (by decide) f_6 rfl 9 (by decide) (hts (.fieldLink RX1 44 "GradientDesk$Course" "hold" "LGradientDesk$Whole;") (List.mem_of_getElem? (i := 1) rfl)) (fun _ h9 => h9) rfl dX1_widen_19 ?_
  refine lv_aload_n hx hb dX1_widen_22 rfl (lv_at hl 0 rfl) ?_
  refine m_get (D := (dC, dI)) (v := .ref (ad 2094)) (C := RX1) (T := TX1) (N := 10) hx hb hts bk0 hown hK hP 2090 (by decide) f_6 rfl 4 (by decide) (hts (.fieldLink RX1 23 "GradientDesk$Course" "scales" "[LGradientDesk$Whole;") (List.mem_of_getElem? (i := 7) rfl)) (fun _ h9 => h9) rfl dX1_widen_23 ?_
  refine lv_iload hx hb dX1_widen_26 (lv_at hl 4 rfl) ?_
  refine lv_aload_n hx hb dX1_widen_28 rfl (lv_at hl 0 rfl) ?_
  refine m_get (D := (dC, dI)) (v := .ref (ad 2080)) (C := RX1) (T := TX1) (N := 10) hx hb hts bk0 hown hK hP 2090 (by decide) f_6 rfl 0 (by decide) (hts (.fieldLink RX1 47 "GradientDesk$Course" "shelf" "LGradientDesk$Shelf;") (List.mem_of_getElem? (i := 8) rfl)) (fun _ h9 => h9) rfl dX1_widen_29 ?_
  have f_7 : g_4 2080 = .inr (9, [.ref (ad 2081), .ref (ad 2082), .int (nI L.length), .ref (ad 2083), .ref (ad 2077), .ref (ad 2107), .ref (ad (2 * 6))]) := (fr_5 2080 (by omega)).trans hO
  refine m_get (D := (dC, dI)) (v := .ref (ad 2081)) (C := RX6) (T := TX6) (N := 7) hx hb hts bk2 hown hK hP 2080 (by decide) f_7 rfl 0 (by decide) (hts (.fieldLink RX1 69 "GradientDesk$Shelf" "parts" "[LGradientDesk$Part;") (List.mem_of_getElem? (i := 9) rfl)) (fun _ h9 => h9) rfl dX1_widen_32 ?_
  refine lv_iload_n hx hb dX1_widen_35 rfl (lv_at hl 2 rfl) ?_
  have f_8 : g_4 2081 = .inl (cA 2081, 200, .inr (.inr (.inr (.inr (fun j => some (ad (2117 + 2 * j))))))) := (fr_5 2081 (by omega)).trans hPa
  refine m_aald hx hb hK hP 2081 (by decide) rfl f_8 (i := ow) (v := ad (2117 + 2 * ow)) (by omega) (by decide) rfl dX1_widen_36 ?_
  have f_9 : g_4 (2117 + 2 * ow) = .inr (6, [.ref (ad (2118 + 2 * ow)), .int (nI ((gd L ow).1)), .int (iI ((gd L ow).2.1)), .int (iI ((gd L ow).2.2.1)), .int (nI ((gd L ow).2.2.2.1)), .int (nI ((gd L ow).2.2.2.2.1)), .int (nI ((gd L ow).2.2.2.2.2.1))]) := (fr_5 (2117 + 2 * ow) (by omega)).trans hpow
  refine m_get (D := (dC, dI)) (v := .int (nI ((gd L ow).2.2.2.1))) (C := RX3) (T := TX3) (N := 7) hx hb hts bk3 hown hK hP (2117 + 2 * ow) (ns_p (by omega)) f_9 rfl 4 (by decide) (hts (.fieldLink RX1 95 "GradientDesk$Part" "degree" "I") (List.mem_of_getElem? (i := 10) rfl)) (fun _ h9 => h9) rfl dX1_widen_37 ?_
  refine lv_isub hx hb dX1_widen_40 ?_
  refine lv_topi (fun x_10 e_11 => ?_)
  obtain rfl : x_10 = nI (dgr - ((gd L ow).2.2.2.1)) := e_11.trans (pk_sub (show (gd L ow).2.2.2.1 ≤ dgr by omega))
  have f_12 : g_4 2094 = .inl (cA 2094, 9, .inr (.inr (.inr (.inr (fun j => some (ad (2 * (29 + j)))))))) := (fr_5 2094 (by omega)).trans y4
  refine m_aald hx hb hK hP 2094 (by decide) rfl f_12 (i := dgr - ((gd L ow).2.2.2.1)) (v := ad (2 * (29 + (dgr - ((gd L ow).2.2.2.1))))) (by omega) (by decide) rfl dX1_widen_41 ?_
  obtain ⟨mw_13, sw_13, nw_13, fw_13, aw_13, bw_13, cw_13, dw_13, ew_13⟩ := hAW_2 tt (by omega)
  have qw_13 : mw_13 ≤ 4096 := by rw [dw_13]; exact rmc_le _
  refine va_callv (va_runV (As := [.ref (ad (2 * 11)), .ref (ad (2 * (29 + (dgr - ((gd L ow).2.2.2.1)))))]) (rest := []) ⟨hx, hb, hml, hown, hts⟩ (c_X8_multiply l dC dI A ad cA g_4 tt 11 (29 + (dgr - ((gd L ow).2.2.2.1))) hAW_2 (by omega) (by omega) (by omega) (by omega) (by omega)) (cwV 2 hts (goodIn_app (goodIn_r [Cond.methodLink RX1 55 yX8_multiply, Cond.instanceMethod yX8_multiply, Cond.selects RX8 yX8_multiply yX8_multiply, Cond.initialized RX8] [3, 4, 5, 6] rfl rfl) (goodIn_sub (fun w9 h9 => bk1 w9 h9) gw_X8_multiply)) rfl rfl rfl (by decide +kernel) ⟨Nat.le_of_ble_eq_true rfl, Nat.le_of_ble_eq_true rfl⟩) ⟨fun a U g mk q => ⟨q.1, q.2.1, q.2.2.1, LY.moved (u := U) (U := U.calling g mk a) (Vm.Alike.refl U.vm) q.2.2.2⟩, va_recv hK hP (ci := 11) (q0 := (2 * tt)) rfl (wo_at (ns_w (by omega)) aw_13), fun U hU hW => ⟨rfl, by rw [hU]; exact fun q h => hA q (Nat.le_trans hS.1 h), by rw [hU]; exact hP, LY.moved hW.alike hL⟩⟩ rfl rfl hl.1 rfl (lv_room (Nat.le_of_ble_eq_true rfl)) dX1_widen_42 ⟨(Nat.le_of_ble_eq_true rfl), (Nat.le_of_ble_eq_true rfl)⟩) hS (fun q _ h => h) (fun q h => h) (fun u8 t8 H1 locs ht8 hvm8 hw_15 hB hz1 hk1 hS => ?_)
  obtain ⟨g_16, rfl⟩ : ∃ z, z = u8 := ⟨_, rfl⟩
  try dsimp only at hw_15 hB
  rw [ht8] at hB
  have hP := hB
  generalize H1 = H at hP hS ⊢
  obtain ⟨fr_17, hAW_14⟩ := hw_15
  refine W.widen (k := 0) (n := 0) (by omega) (by omega) ?_
  exact W.vret hx hb hr (fun t9 ht9 hW9 => ⟨⟨g_16, rfl, ⟨(fun (k : Nat) (hk : k < 18 ∨ 24 ≤ k) => (fr_17 k (by omega)).trans ((fr_5 k (by omega)).trans (rfl))), hAW_14⟩, by show va_P (dC, dI) vwCl _ t9.heap; rw [ht9]; exact hP⟩, hS.F ht9⟩) hS.2.2 dX1_widen_45
def wd_W1_widS : List Cond := .code yX1_widen cX1_widen 6 none :: (([.fieldLink RX1 44 "GradientDesk$Course" "hold" "LGradientDesk$Whole;", .fieldLink RX1 20 "GradientDesk$Course" "bases" "[LGradientDesk$Whole;", .methodLink RX1 55 yX8_multiply, .instanceMethod yX8_multiply, .selects RX8 yX8_multiply yX8_multiply, .initialized RX8, .fieldLink RX1 23 "GradientDesk$Course" "scales" "[LGradientDesk$Whole;", .fieldLink RX1 47 "GradientDesk$Course" "shelf" "LGradientDesk$Shelf;", .fieldLink RX1 69 "GradientDesk$Shelf" "parts" "[LGradientDesk$Part;", .fieldLink RX1 95 "GradientDesk$Part" "degree" "I"] : List Cond) ++ (u_ws RX1 TX1 10 ++ (wd_X8_multiply ++ (u_ws RX6 TX6 7 ++ (u_ws RX3 TX3 7 ++ ([]))))))
theorem gw_W1_widS : wd_W1_widS.all goodWord = true := k_allc rfl (k_all (by decide +kernel) (k_all (gu_X1) (k_all (gw_X8_multiply) (k_all (gu_X6) (k_all (gu_X3) (rfl))))))
set_option maxHeartbeats 4000000 in
set_option maxRecDepth 100000 in
theorem c_W1_widS (l : Launch) (dC : Nat → ClassId) (dI : Nat → Nat → Nat) (A : Nat → Prop) (ad : Nat → Nat) (cA : Nat → ClassId) (g : Nat → va_E) (L : List PD) (ow : Nat) (ot : Nat) (dgr : Nat) (tt : Nat) (hC : CS ad cA g L) (hWf : WFL L) (hCr : CRS ad cA g) (iow : ow < L.length) (iot : ot < L.length) (hdg : (gd L ow).2.2.2.1 ≤ dgr ∧ dgr ≤ 8) (htt : tt = 9 ∨ tt = 10) : Met l yX1_widen wd_W1_widS ({ frames := 40, cells := 0, slots := 0, locals := 800 }) (va_Pc [.ref (ad 2090), .ref (ad 2092), .int (nI ow), .int (nI ot), .int (nI dgr), .ref (ad (2 * tt))] (PR NSc tyc dC dI A ad cA g)) (va_Qv (fun (u : Nat → va_E) => match u with | g2 => (∀ k, k < 18 ∨ 24 ≤ k → g2 k = g k) ∧ AW ad cA g2) (fun (u : Nat → va_E) (t : State) => va_P (dC, dI) vwCl (wo ad NSc u) t.heap) A) (0) (0) A := by
  refine Met.ofW (cc := cX1_widen) (maxL := 6) (ret := none) (by decide) rfl ?_
  intro p e s m args below meth c s₁ B hml hv
  obtain ⟨rfl, hA, hP, hL⟩ := hv
  have hx := B.exec
  have hb := B.bytes
  have hr := B.returns
  have hts := atoms_spec (ws := wd_W1_widS) B.pre
  have hown : s.vm.findClass RX1 = some m.cls := findClass_of_methodNamed B.named
  have hlocks := B.notSynchronized
  have hK := hL.1
  have hD : ∀ g, va_D A (wo ad NSc g) := fun g => wo_D hL.2.1 hL.2.2 g
  have hS : va_S A s.heap s.heap [] := va_S.rf
  have bk0 : ∀ w ∈ u_ws RX1 TX1 10, w ∈ wd_W1_widS := fun _ h => List.mem_cons_of_mem _ (List.mem_append_right _ (List.mem_append_left _ h))
  have bk1 : ∀ w ∈ wd_X8_multiply, w ∈ wd_W1_widS := fun _ h => List.mem_cons_of_mem _ (List.mem_append_right _ (List.mem_append_right _ (List.mem_append_left _ h)))
  have bk2 : ∀ w ∈ u_ws RX6 TX6 7, w ∈ wd_W1_widS := fun _ h => List.mem_cons_of_mem _ (List.mem_append_right _ (List.mem_append_right _ (List.mem_append_right _ (List.mem_append_left _ h))))
  have bk3 : ∀ w ∈ u_ws RX3 TX3 7, w ∈ wd_W1_widS := fun _ h => List.mem_cons_of_mem _ (List.mem_append_right _ (List.mem_append_right _ (List.mem_append_right _ (List.mem_append_right _ (List.mem_append_left _ h)))))
  have hl := lv_entry ([.ref (ad 2090), .ref (ad 2092), .int (nI ow), .int (nI ot), .int (nI dgr), .ref (ad (2 * tt))]) (n := 6) (Nat.le_of_ble_eq_true rfl)
  rw [lg_entry_eq]
  generalize (lg_sl ([.ref (ad 2090), .ref (ad 2092), .int (nI ow), .int (nI ot), .int (nI dgr), .ref (ad (2 * tt))]) ++ List.replicate (6 - (lg_sl ([.ref (ad 2090), .ref (ad 2092), .int (nI ow), .int (nI ot), .int (nI dgr), .ref (ad (2 * tt))])).length) Slot.unset).toArray = ls at hl ⊢
  have hl : lv_has ls 6 [(0, .ref (ad 2090)), (1, .ref (ad 2092)), (2, .int (nI ow)), (3, .int (nI ot)), (4, .int (nI dgr)), (5, .ref (ad (2 * tt)))] := hl
  have hC0 := hC
  obtain ⟨hLn, hW, ⟨hAr, hWk, hPa, hFr⟩, hO, pt, hPt, hM⟩ := hC0
  unfold CSO at hO
  have hpb := hPt.2
  obtain ⟨a0ow, a1ow, a2ow, a3ow, a4ow, a5ow, a6ow⟩ := hM ow iow
  obtain ⟨w1ow, w2ow, w3ow, w4ow, w5ow, -⟩ := hWf ow iow
  have hpow : g (2117 + 2 * ow) = .inr (6, [.ref (ad (2118 + 2 * ow)), .int (nI ((gd L ow).1)), .int (iI ((gd L ow).2.1)), .int (iI ((gd L ow).2.2.1)), .int (nI ((gd L ow).2.2.2.1)), .int (nI ((gd L ow).2.2.2.2.1)), .int (nI ((gd L ow).2.2.2.2.2.1))]) := by rw [hPt.1 ow (by clear a6ow; omega), a0ow, a1ow, a2ow, a3ow, a4ow, a5ow, nI_iI, nI_iI, nI_iI, nI_iI]
  obtain ⟨fnow, hfnow⟩ : ∃ z : Prop, z = ((gd L ow).1 = 0 → CMN ad cA g (gd L ow) ow) := ⟨_, rfl⟩
  rw [← hfnow] at a6ow
  have hcr9 := hCr
  obtain ⟨y0, y1, y2, y3, y4, ⟨ft, y5⟩, fh, y6⟩ := hcr9
  refine lv_aload_n hx hb dX1_widen_0 rfl (lv_at hl 0 rfl) ?_
  refine m_get (D := (dC, dI)) (v := .ref (ad (2 * 11))) (C := RX1) (T := TX1) (N := 10) hx hb hts bk0 hown hK hP 2090 (by decide) y0 rfl 9 (by decide) (hts (.fieldLink RX1 44 "GradientDesk$Course" "hold" "LGradientDesk$Whole;") (List.mem_of_getElem? (i := 1) rfl)) (fun _ h9 => h9) rfl dX1_widen_1 ?_
  refine lv_aload_n hx hb dX1_widen_4 rfl (lv_at hl 1 rfl) ?_
  refine lv_iload_n hx hb dX1_widen_5 rfl (lv_at hl 2 rfl) ?_
  refine m_aald hx hb hK hP 2092 (by decide) rfl y2 (i := ow) (v := ad (2 * (638 + ow))) (by omega) (by decide) rfl dX1_widen_6 ?_
  refine lv_aload_n hx hb dX1_widen_7 rfl (lv_at hl 0 rfl) ?_
  refine m_get (D := (dC, dI)) (v := .ref (ad 2093)) (C := RX1) (T := TX1) (N := 10) hx hb hts bk0 hown hK hP 2090 (by decide) y0 rfl 3 (by decide) (hts (.fieldLink RX1 20 "GradientDesk$Course" "bases" "[LGradientDesk$Whole;") (List.mem_of_getElem? (i := 2) rfl)) (fun _ h9 => h9) rfl dX1_widen_8 ?_
  refine lv_iload_n hx hb dX1_widen_11 rfl (lv_at hl 3 rfl) ?_
  refine m_aald hx hb hK hP 2093 (by decide) rfl y3 (i := ot) (v := ad (2 * (838 + ot))) (by omega) (by decide) rfl dX1_widen_12 ?_
  obtain ⟨mw_1, sw_1, nw_1, fw_1, aw_1, bw_1, cw_1, dw_1, ew_1⟩ := hW 11 (by omega)
  have qw_1 : mw_1 ≤ 4096 := by rw [dw_1]; exact rmc_le _
  refine va_callv (va_runV (As := [.ref (ad (2 * (638 + ow))), .ref (ad (2 * (838 + ot)))]) (rest := []) ⟨hx, hb, hml, hown, hts⟩ (c_X8_multiply l dC dI A ad cA g 11 (638 + ow) (838 + ot) hW (by omega) (by omega) (by omega) (by omega) (by omega)) (cwV 2 hts (goodIn_app (goodIn_r [Cond.methodLink RX1 55 yX8_multiply, Cond.instanceMethod yX8_multiply, Cond.selects RX8 yX8_multiply yX8_multiply, Cond.initialized RX8] [3, 4, 5, 6] rfl rfl) (goodIn_sub (fun w9 h9 => bk1 w9 h9) gw_X8_multiply)) rfl rfl rfl (by decide +kernel) ⟨Nat.le_of_ble_eq_true rfl, Nat.le_of_ble_eq_true rfl⟩) ⟨fun a U g mk q => ⟨q.1, q.2.1, q.2.2.1, LY.moved (u := U) (U := U.calling g mk a) (Vm.Alike.refl U.vm) q.2.2.2⟩, va_recv hK hP (ci := 11) (q0 := (2 * 11)) rfl (wo_at (ns_w (by omega)) aw_1), fun U hU hW => ⟨rfl, by rw [hU]; exact fun q h => hA q (Nat.le_trans hS.1 h), by rw [hU]; exact hP, LY.moved hW.alike hL⟩⟩ rfl rfl hl.1 rfl (lv_room (Nat.le_of_ble_eq_true rfl)) dX1_widen_13 ⟨(Nat.le_of_ble_eq_true rfl), (Nat.le_of_ble_eq_true rfl)⟩) hS (fun q _ h => h) (fun q h => h) (fun u8 t8 H1 locs ht8 hvm8 hw_3 hB hz1 hk1 hS => ?_)
  obtain ⟨g_4, rfl⟩ : ∃ z, z = u8 := ⟨_, rfl⟩
  try dsimp only at hw_3 hB
  rw [ht8] at hB
  have hP := hB
  generalize H1 = H at hP hS ⊢
  obtain ⟨fr_5, hAW_2⟩ := hw_3
  refine lv_aload hx hb dX1_widen_16 (lv_at hl 5 rfl) ?_
  refine lv_aload_n hx hb dX1_widen_18 rfl (lv_at hl 0 rfl) ?_
  have f_6 : g_4 2090 = .inr (4, [.ref (ad 2080), .ref (ad 2091), .ref (ad 2092), .ref (ad 2093), .ref (ad 2094), .ref (ad 2095), .ref (ad 2096), .ref (ad (2 * 9)), .ref (ad (2 * 10)), .ref (ad (2 * 11))]) := (fr_5 2090 (by omega)).trans y0
  refine m_get (D := (dC, dI)) (v := .ref (ad (2 * 11))) (C := RX1) (T := TX1) (N := 10) hx hb hts bk0 hown hK hP 2090 (by decide) f_6 rfl 9 (by decide) (hts (.fieldLink RX1 44 "GradientDesk$Course" "hold" "LGradientDesk$Whole;") (List.mem_of_getElem? (i := 1) rfl)) (fun _ h9 => h9) rfl dX1_widen_19 ?_
  refine lv_aload_n hx hb dX1_widen_22 rfl (lv_at hl 0 rfl) ?_
  refine m_get (D := (dC, dI)) (v := .ref (ad 2094)) (C := RX1) (T := TX1) (N := 10) hx hb hts bk0 hown hK hP 2090 (by decide) f_6 rfl 4 (by decide) (hts (.fieldLink RX1 23 "GradientDesk$Course" "scales" "[LGradientDesk$Whole;") (List.mem_of_getElem? (i := 7) rfl)) (fun _ h9 => h9) rfl dX1_widen_23 ?_
  refine lv_iload hx hb dX1_widen_26 (lv_at hl 4 rfl) ?_
  refine lv_aload_n hx hb dX1_widen_28 rfl (lv_at hl 0 rfl) ?_
  refine m_get (D := (dC, dI)) (v := .ref (ad 2080)) (C := RX1) (T := TX1) (N := 10) hx hb hts bk0 hown hK hP 2090 (by decide) f_6 rfl 0 (by decide) (hts (.fieldLink RX1 47 "GradientDesk$Course" "shelf" "LGradientDesk$Shelf;") (List.mem_of_getElem? (i := 8) rfl)) (fun _ h9 => h9) rfl dX1_widen_29 ?_
  have f_7 : g_4 2080 = .inr (9, [.ref (ad 2081), .ref (ad 2082), .int (nI L.length), .ref (ad 2083), .ref (ad 2077), .ref (ad 2107), .ref (ad (2 * 6))]) := (fr_5 2080 (by omega)).trans hO
  refine m_get (D := (dC, dI)) (v := .ref (ad 2081)) (C := RX6) (T := TX6) (N := 7) hx hb hts bk2 hown hK hP 2080 (by decide) f_7 rfl 0 (by decide) (hts (.fieldLink RX1 69 "GradientDesk$Shelf" "parts" "[LGradientDesk$Part;") (List.mem_of_getElem? (i := 9) rfl)) (fun _ h9 => h9) rfl dX1_widen_32 ?_
  refine lv_iload_n hx hb dX1_widen_35 rfl (lv_at hl 2 rfl) ?_
  have f_8 : g_4 2081 = .inl (cA 2081, 200, .inr (.inr (.inr (.inr (fun j => some (ad (2117 + 2 * j))))))) := (fr_5 2081 (by omega)).trans hPa
  refine m_aald hx hb hK hP 2081 (by decide) rfl f_8 (i := ow) (v := ad (2117 + 2 * ow)) (by omega) (by decide) rfl dX1_widen_36 ?_
  have f_9 : g_4 (2117 + 2 * ow) = .inr (6, [.ref (ad (2118 + 2 * ow)), .int (nI ((gd L ow).1)), .int (iI ((gd L ow).2.1)), .int (iI ((gd L ow).2.2.1)), .int (nI ((gd L ow).2.2.2.1)), .int (nI ((gd L ow).2.2.2.2.1)), .int (nI ((gd L ow).2.2.2.2.2.1))]) := (fr_5 (2117 + 2 * ow) (by omega)).trans hpow
  refine m_get (D := (dC, dI)) (v := .int (nI ((gd L ow).2.2.2.1))) (C := RX3) (T := TX3) (N := 7) hx hb hts bk3 hown hK hP (2117 + 2 * ow) (ns_p (by omega)) f_9 rfl 4 (by decide) (hts (.fieldLink RX1 95 "GradientDesk$Part" "degree" "I") (List.mem_of_getElem? (i := 10) rfl)) (fun _ h9 => h9) rfl dX1_widen_37 ?_
  refine lv_isub hx hb dX1_widen_40 ?_
  refine lv_topi (fun x_10 e_11 => ?_)
  obtain rfl : x_10 = nI (dgr - ((gd L ow).2.2.2.1)) := e_11.trans (pk_sub (show (gd L ow).2.2.2.1 ≤ dgr by omega))
  have f_12 : g_4 2094 = .inl (cA 2094, 9, .inr (.inr (.inr (.inr (fun j => some (ad (2 * (29 + j)))))))) := (fr_5 2094 (by omega)).trans y4
  refine m_aald hx hb hK hP 2094 (by decide) rfl f_12 (i := dgr - ((gd L ow).2.2.2.1)) (v := ad (2 * (29 + (dgr - ((gd L ow).2.2.2.1))))) (by omega) (by decide) rfl dX1_widen_41 ?_
  obtain ⟨mw_13, sw_13, nw_13, fw_13, aw_13, bw_13, cw_13, dw_13, ew_13⟩ := hAW_2 tt (by omega)
  have qw_13 : mw_13 ≤ 4096 := by rw [dw_13]; exact rmc_le _
  refine va_callv (va_runV (As := [.ref (ad (2 * 11)), .ref (ad (2 * (29 + (dgr - ((gd L ow).2.2.2.1)))))]) (rest := []) ⟨hx, hb, hml, hown, hts⟩ (c_X8_multiply l dC dI A ad cA g_4 tt 11 (29 + (dgr - ((gd L ow).2.2.2.1))) hAW_2 (by omega) (by omega) (by omega) (by omega) (by omega)) (cwV 2 hts (goodIn_app (goodIn_r [Cond.methodLink RX1 55 yX8_multiply, Cond.instanceMethod yX8_multiply, Cond.selects RX8 yX8_multiply yX8_multiply, Cond.initialized RX8] [3, 4, 5, 6] rfl rfl) (goodIn_sub (fun w9 h9 => bk1 w9 h9) gw_X8_multiply)) rfl rfl rfl (by decide +kernel) ⟨Nat.le_of_ble_eq_true rfl, Nat.le_of_ble_eq_true rfl⟩) ⟨fun a U g mk q => ⟨q.1, q.2.1, q.2.2.1, LY.moved (u := U) (U := U.calling g mk a) (Vm.Alike.refl U.vm) q.2.2.2⟩, va_recv hK hP (ci := 11) (q0 := (2 * tt)) rfl (wo_at (ns_w (by omega)) aw_13), fun U hU hW => ⟨rfl, by rw [hU]; exact fun q h => hA q (Nat.le_trans hS.1 h), by rw [hU]; exact hP, LY.moved hW.alike hL⟩⟩ rfl rfl hl.1 rfl (lv_room (Nat.le_of_ble_eq_true rfl)) dX1_widen_42 ⟨(Nat.le_of_ble_eq_true rfl), (Nat.le_of_ble_eq_true rfl)⟩) hS (fun q _ h => h) (fun q h => h) (fun u8 t8 H1 locs ht8 hvm8 hw_15 hB hz1 hk1 hS => ?_)
  obtain ⟨g_16, rfl⟩ : ∃ z, z = u8 := ⟨_, rfl⟩
  try dsimp only at hw_15 hB
  rw [ht8] at hB
  have hP := hB
  generalize H1 = H at hP hS ⊢
  obtain ⟨fr_17, hAW_14⟩ := hw_15
  refine W.widen (k := 0) (n := 0) (by omega) (by omega) ?_
  exact W.vret hx hb hr (fun t9 ht9 hW9 => ⟨⟨g_16, rfl, ⟨(fun (k : Nat) (hk : k < 18 ∨ 24 ≤ k) => (fr_17 k (by omega)).trans ((fr_5 k (by omega)).trans (rfl))), hAW_14⟩, by show va_P (dC, dI) vwCl _ t9.heap; rw [ht9]; exact hP⟩, hS.F ht9⟩) hS.2.2 dX1_widen_45
def wd_W1_addV : List Cond := .code yX1_addWidened cX1_addWidened 4 none :: (([.fieldLink RX1 114 "GradientDesk$Part" "first" "I", .fieldLink RX1 117 "GradientDesk$Part" "second" "I", .fieldLink RX1 95 "GradientDesk$Part" "degree" "I", .fieldLink RX1 37 "GradientDesk$Course" "left" "LGradientDesk$Whole;", .methodLink RX1 131 yX1_widen, .instanceMethod yX1_widen, .selects RX1 yX1_widen yX1_widen, .initialized RX1, .fieldLink RX1 41 "GradientDesk$Course" "right" "LGradientDesk$Whole;", .methodLink RX1 128 yX8_add, .instanceMethod yX8_add, .selects RX8 yX8_add yX8_add, .initialized RX8] : List Cond) ++ (u_ws RX3 TX3 7 ++ (u_ws RX1 TX1 10 ++ (wd_W1_widV ++ (wd_X8_add ++ ([]))))))
theorem gw_W1_addV : wd_W1_addV.all goodWord = true := k_allc rfl (k_all (by decide +kernel) (k_all (gu_X3) (k_all (gu_X1) (k_all (gw_W1_widV) (k_all (gw_X8_add) (rfl))))))
set_option maxHeartbeats 4000000 in
set_option maxRecDepth 100000 in
theorem c_W1_addV (l : Launch) (dC : Nat → ClassId) (dI : Nat → Nat → Nat) (A : Nat → Prop) (ad : Nat → Nat) (cA : Nat → ClassId) (g : Nat → va_E) (L : List PD) (i : Nat) (tt : Nat) (hC : CS ad cA g L) (hWf : WFL L) (hCr : CRS ad cA g) (hi : i < L.length) (hso : (gd L i).1 = 2) (htt : 38 ≤ tt ∧ tt < 1038) : Met l yX1_addWidened wd_W1_addV ({ frames := 50, cells := 0, slots := 0, locals := 1000 }) (va_Pc [.ref (ad 2090), .ref (ad 2091), .ref (ad (2117 + 2 * i)), .ref (ad (2 * tt))] (PR NSc tyc dC dI A ad cA g)) (va_Qv (fun (u : Nat → va_E) => match u with | g2 => (∀ k, (k < 18 ∨ 24 ≤ k) ∧ k ≠ 2 * tt ∧ k ≠ 2 * tt + 1 → g2 k = g k) ∧ AW ad cA g2) (fun (u : Nat → va_E) (t : State) => va_P (dC, dI) vwCl (wo ad NSc u) t.heap) A) (0) (0) A := by
  refine Met.ofW (cc := cX1_addWidened) (maxL := 4) (ret := none) (by decide) rfl ?_
  intro p e s m args below meth c s₁ B hml hv
  obtain ⟨rfl, hA, hP, hL⟩ := hv
  have hx := B.exec
  have hb := B.bytes
  have hr := B.returns
  have hts := atoms_spec (ws := wd_W1_addV) B.pre
  have hown : s.vm.findClass RX1 = some m.cls := findClass_of_methodNamed B.named
  have hlocks := B.notSynchronized
  have hK := hL.1
  have hD : ∀ g, va_D A (wo ad NSc g) := fun g => wo_D hL.2.1 hL.2.2 g
  have hS : va_S A s.heap s.heap [] := va_S.rf
  have bk0 : ∀ w ∈ u_ws RX3 TX3 7, w ∈ wd_W1_addV := fun _ h => List.mem_cons_of_mem _ (List.mem_append_right _ (List.mem_append_left _ h))
  have bk1 : ∀ w ∈ u_ws RX1 TX1 10, w ∈ wd_W1_addV := fun _ h => List.mem_cons_of_mem _ (List.mem_append_right _ (List.mem_append_right _ (List.mem_append_left _ h)))
  have bk2 : ∀ w ∈ wd_W1_widV, w ∈ wd_W1_addV := fun _ h => List.mem_cons_of_mem _ (List.mem_append_right _ (List.mem_append_right _ (List.mem_append_right _ (List.mem_append_left _ h))))
  have bk3 : ∀ w ∈ wd_X8_add, w ∈ wd_W1_addV := fun _ h => List.mem_cons_of_mem _ (List.mem_append_right _ (List.mem_append_right _ (List.mem_append_right _ (List.mem_append_right _ (List.mem_append_left _ h)))))
  have hl := lv_entry ([.ref (ad 2090), .ref (ad 2091), .ref (ad (2117 + 2 * i)), .ref (ad (2 * tt))]) (n := 4) (Nat.le_of_ble_eq_true rfl)
  rw [lg_entry_eq]
  generalize (lg_sl ([.ref (ad 2090), .ref (ad 2091), .ref (ad (2117 + 2 * i)), .ref (ad (2 * tt))]) ++ List.replicate (4 - (lg_sl ([.ref (ad 2090), .ref (ad 2091), .ref (ad (2117 + 2 * i)), .ref (ad (2 * tt))])).length) Slot.unset).toArray = ls at hl ⊢
  have hl : lv_has ls 4 [(0, .ref (ad 2090)), (1, .ref (ad 2091)), (2, .ref (ad (2117 + 2 * i))), (3, .ref (ad (2 * tt)))] := hl
  have hC0 := hC
  obtain ⟨hLn, hW, ⟨hAr, hWk, hPa, hFr⟩, hO, pt, hPt, hM⟩ := hC0
  unfold CSO at hO
  have hpb := hPt.2
  obtain ⟨a0i, a1i, a2i, a3i, a4i, a5i, a6i⟩ := hM i hi
  obtain ⟨w1i, w2i, w3i, w4i, w5i, -⟩ := hWf i hi
  have hpi : g (2117 + 2 * i) = .inr (6, [.ref (ad (2118 + 2 * i)), .int (nI ((gd L i).1)), .int (iI ((gd L i).2.1)), .int (iI ((gd L i).2.2.1)), .int (nI ((gd L i).2.2.2.1)), .int (nI ((gd L i).2.2.2.2.1)), .int (nI ((gd L i).2.2.2.2.2.1))]) := by rw [hPt.1 i (by clear a6i; omega), a0i, a1i, a2i, a3i, a4i, a5i, nI_iI, nI_iI, nI_iI, nI_iI]
  obtain ⟨fni, hfni⟩ : ∃ z : Prop, z = ((gd L i).1 = 0 → CMN ad cA g (gd L i) i) := ⟨_, rfl⟩
  rw [← hfni] at a6i
  have hcr9 := hCr
  obtain ⟨y0, y1, y2, y3, y4, ⟨ft, y5⟩, fh, y6⟩ := hcr9
  obtain ⟨oa, ob, hoa, hob, eoa, eob, edg, -⟩ := (hWf i hi).2.2.2.2.2.2.2.2.1 hso
  refine lv_aload_n hx hb dX1_addWidened_0 rfl (lv_at hl 0 rfl) ?_
  refine lv_aload_n hx hb dX1_addWidened_1 rfl (lv_at hl 1 rfl) ?_
  refine lv_aload_n hx hb dX1_addWidened_2 rfl (lv_at hl 2 rfl) ?_
  refine m_get (D := (dC, dI)) (v := .int (iI ((gd L i).2.1))) (C := RX3) (T := TX3) (N := 7) hx hb hts bk0 hown hK hP (2117 + 2 * i) (ns_p (by omega)) hpi rfl 2 (by decide) (hts (.fieldLink RX1 114 "GradientDesk$Part" "first" "I") (List.mem_of_getElem? (i := 1) rfl)) (fun _ h9 => h9) rfl dX1_addWidened_3 ?_
  refine lv_topi (fun x_1 e_2 => ?_)
  obtain rfl : x_1 = nI oa := e_2.trans (by rw [eoa]; exact (nI_iI _).symm)
  refine lv_aload_n hx hb dX1_addWidened_6 rfl (lv_at hl 2 rfl) ?_
  refine m_get (D := (dC, dI)) (v := .int (iI ((gd L i).2.2.1))) (C := RX3) (T := TX3) (N := 7) hx hb hts bk0 hown hK hP (2117 + 2 * i) (ns_p (by omega)) hpi rfl 3 (by decide) (hts (.fieldLink RX1 117 "GradientDesk$Part" "second" "I") (List.mem_of_getElem? (i := 2) rfl)) (fun _ h9 => h9) rfl dX1_addWidened_7 ?_
  refine lv_topi (fun x_3 e_4 => ?_)
  obtain rfl : x_3 = nI ob := e_4.trans (by rw [eob]; exact (nI_iI _).symm)
  refine lv_aload_n hx hb dX1_addWidened_10 rfl (lv_at hl 2 rfl) ?_
  refine m_get (D := (dC, dI)) (v := .int (nI ((gd L i).2.2.2.1))) (C := RX3) (T := TX3) (N := 7) hx hb hts bk0 hown hK hP (2117 + 2 * i) (ns_p (by omega)) hpi rfl 4 (by decide) (hts (.fieldLink RX1 95 "GradientDesk$Part" "degree" "I") (List.mem_of_getElem? (i := 3) rfl)) (fun _ h9 => h9) rfl dX1_addWidened_11 ?_
  refine lv_aload_n hx hb dX1_addWidened_14 rfl (lv_at hl 0 rfl) ?_
  refine m_get (D := (dC, dI)) (v := .ref (ad (2 * 9))) (C := RX1) (T := TX1) (N := 10) hx hb hts bk1 hown hK hP 2090 (by decide) y0 rfl 7 (by decide) (hts (.fieldLink RX1 37 "GradientDesk$Course" "left" "LGradientDesk$Whole;") (List.mem_of_getElem? (i := 4) rfl)) (fun _ h9 => h9) rfl dX1_addWidened_15 ?_
  refine va_callv (va_runV (As := [.ref (ad 2091), .int (nI oa), .int (nI ob), .int (nI ((gd L i).2.2.2.1)), .ref (ad (2 * 9))]) (rest := []) ⟨hx, hb, hml, hown, hts⟩ (c_W1_widV l dC dI A ad cA g L oa ob ((gd L i).2.2.2.1) 9 hC hWf (hCr.same (fun (k : Nat) (hk : 2090 ≤ k ∧ k ≤ 2096) => rfl)) (by omega) (by omega) (by omega) (by omega)) (cwV 5 hts (goodIn_app (goodIn_r [Cond.methodLink RX1 131 yX1_widen, Cond.instanceMethod yX1_widen, Cond.selects RX1 yX1_widen yX1_widen, Cond.initialized RX1] [5, 6, 7, 8] rfl rfl) (goodIn_sub (fun w9 h9 => bk2 w9 h9) gw_W1_widV)) rfl rfl rfl (by decide +kernel) ⟨Nat.le_of_ble_eq_true rfl, Nat.le_of_ble_eq_true rfl⟩) ⟨fun a U g mk q => ⟨q.1, q.2.1, q.2.2.1, LY.moved (u := U) (U := U.calling g mk a) (Vm.Alike.refl U.vm) q.2.2.2⟩, va_recv hK hP (ci := 4) (q0 := 2090) rfl (wo_at (by decide) y0), fun U hU hW => ⟨rfl, by rw [hU]; exact fun q h => hA q (Nat.le_trans hS.1 h), by rw [hU]; exact hP, LY.moved hW.alike hL⟩⟩ rfl rfl hl.1 rfl (lv_room (Nat.le_of_ble_eq_true rfl)) dX1_addWidened_18 ⟨(Nat.le_of_ble_eq_true rfl), (Nat.le_of_ble_eq_true rfl)⟩) hS (fun q _ h => h) (fun q h => h) (fun u8 t8 H1 locs ht8 hvm8 hw_6 hB hz1 hk1 hS => ?_)
  obtain ⟨g_7, rfl⟩ : ∃ z, z = u8 := ⟨_, rfl⟩
  try dsimp only at hw_6 hB
  rw [ht8] at hB
  have hP := hB
  generalize H1 = H at hP hS ⊢
  obtain ⟨fr_8, hAW_5⟩ := hw_6
  refine lv_aload_n hx hb dX1_addWidened_21 rfl (lv_at hl 0 rfl) ?_
  refine lv_aload_n hx hb dX1_addWidened_22 rfl (lv_at hl 1 rfl) ?_
  refine lv_aload_n hx hb dX1_addWidened_23 rfl (lv_at hl 2 rfl) ?_
  have f_9 : g_7 (2117 + 2 * i) = .inr (6, [.ref (ad (2118 + 2 * i)), .int (nI ((gd L i).1)), .int (iI ((gd L i).2.1)), .int (iI ((gd L i).2.2.1)), .int (nI ((gd L i).2.2.2.1)), .int (nI ((gd L i).2.2.2.2.1)), .int (nI ((gd L i).2.2.2.2.2.1))]) := (fr_8 (2117 + 2 * i) (by omega)).trans hpi
  refine m_get (D := (dC, dI)) (v := .int (iI ((gd L i).2.2.1))) (C := RX3) (T := TX3) (N := 7) hx hb hts bk0 hown hK hP (2117 + 2 * i) (ns_p (by omega)) f_9 rfl 3 (by decide) (hts (.fieldLink RX1 117 "GradientDesk$Part" "second" "I") (List.mem_of_getElem? (i := 2) rfl)) (fun _ h9 => h9) rfl dX1_addWidened_24 ?_
  refine lv_topi (fun x_10 e_11 => ?_)
  obtain rfl : x_10 = nI ob := e_11.trans (by rw [eob]; exact (nI_iI _).symm)
  refine lv_aload_n hx hb dX1_addWidened_27 rfl (lv_at hl 2 rfl) ?_
  refine m_get (D := (dC, dI)) (v := .int (iI ((gd L i).2.1))) (C := RX3) (T := TX3) (N := 7) hx hb hts bk0 hown hK hP (2117 + 2 * i) (ns_p (by omega)) f_9 rfl 2 (by decide) (hts (.fieldLink RX1 114 "GradientDesk$Part" "first" "I") (List.mem_of_getElem? (i := 1) rfl)) (fun _ h9 => h9) rfl dX1_addWidened_28 ?_
  refine lv_topi (fun x_12 e_13 => ?_)
  obtain rfl : x_12 = nI oa := e_13.trans (by rw [eoa]; exact (nI_iI _).symm)
  refine lv_aload_n hx hb dX1_addWidened_31 rfl (lv_at hl 2 rfl) ?_
  refine m_get (D := (dC, dI)) (v := .int (nI ((gd L i).2.2.2.1))) (C := RX3) (T := TX3) (N := 7) hx hb hts bk0 hown hK hP (2117 + 2 * i) (ns_p (by omega)) f_9 rfl 4 (by decide) (hts (.fieldLink RX1 95 "GradientDesk$Part" "degree" "I") (List.mem_of_getElem? (i := 3) rfl)) (fun _ h9 => h9) rfl dX1_addWidened_32 ?_
  refine lv_aload_n hx hb dX1_addWidened_35 rfl (lv_at hl 0 rfl) ?_
  have f_14 : g_7 2090 = .inr (4, [.ref (ad 2080), .ref (ad 2091), .ref (ad 2092), .ref (ad 2093), .ref (ad 2094), .ref (ad 2095), .ref (ad 2096), .ref (ad (2 * 9)), .ref (ad (2 * 10)), .ref (ad (2 * 11))]) := (fr_8 2090 (by omega)).trans y0
  refine m_get (D := (dC, dI)) (v := .ref (ad (2 * 10))) (C := RX1) (T := TX1) (N := 10) hx hb hts bk1 hown hK hP 2090 (by decide) f_14 rfl 8 (by decide) (hts (.fieldLink RX1 41 "GradientDesk$Course" "right" "LGradientDesk$Whole;") (List.mem_of_getElem? (i := 9) rfl)) (fun _ h9 => h9) rfl dX1_addWidened_36 ?_
  have hC_16 : CS ad cA g_7 L := CS.same hC hAW_5 (fun (k : Nat) (hk : (76 ≤ k ∧ k < 876) ∨ k = 2077 ∨ k = 2107 ∨ k = 2080 ∨ k = 2081 ∨ (2117 ≤ k ∧ k < 2517)) => (fr_8 k (by omega)).trans (rfl))
  refine va_callv (va_runV (As := [.ref (ad 2091), .int (nI ob), .int (nI oa), .int (nI ((gd L i).2.2.2.1)), .ref (ad (2 * 10))]) (rest := []) ⟨hx, hb, hml, hown, hts⟩ (c_W1_widV l dC dI A ad cA g_7 L ob oa ((gd L i).2.2.2.1) 10 hC_16 hWf (hCr.same (fun (k : Nat) (hk : 2090 ≤ k ∧ k ≤ 2096) => (fr_8 k (by omega)).trans (rfl))) (by omega) (by omega) (by omega) (by omega)) (cwV 5 hts (goodIn_app (goodIn_r [Cond.methodLink RX1 131 yX1_widen, Cond.instanceMethod yX1_widen, Cond.selects RX1 yX1_widen yX1_widen, Cond.initialized RX1] [5, 6, 7, 8] rfl rfl) (goodIn_sub (fun w9 h9 => bk2 w9 h9) gw_W1_widV)) rfl rfl rfl (by decide +kernel) ⟨Nat.le_of_ble_eq_true rfl, Nat.le_of_ble_eq_true rfl⟩) ⟨fun a U g mk q => ⟨q.1, q.2.1, q.2.2.1, LY.moved (u := U) (U := U.calling g mk a) (Vm.Alike.refl U.vm) q.2.2.2⟩, va_recv hK hP (ci := 4) (q0 := 2090) rfl (wo_at (by decide) f_14), fun U hU hW => ⟨rfl, by rw [hU]; exact fun q h => hA q (Nat.le_trans hS.1 h), by rw [hU]; exact hP, LY.moved hW.alike hL⟩⟩ rfl rfl hl.1 rfl (lv_room (Nat.le_of_ble_eq_true rfl)) dX1_addWidened_39 ⟨(Nat.le_of_ble_eq_true rfl), (Nat.le_of_ble_eq_true rfl)⟩) hS (fun q _ h => h) (fun q h => h) (fun u8 t8 H1 locs ht8 hvm8 hw_17 hB hz1 hk1 hS => ?_)
  obtain ⟨g_18, rfl⟩ : ∃ z, z = u8 := ⟨_, rfl⟩
  try dsimp only at hw_17 hB
  rw [ht8] at hB
  have hP := hB
  generalize H1 = H at hP hS ⊢
  obtain ⟨fr_19, hAW_15⟩ := hw_17
  refine lv_aload_n hx hb dX1_addWidened_42 rfl (lv_at hl 3 rfl) ?_
  refine lv_aload_n hx hb dX1_addWidened_43 rfl (lv_at hl 0 rfl) ?_
  have f_20 : g_18 2090 = .inr (4, [.ref (ad 2080), .ref (ad 2091), .ref (ad 2092), .ref (ad 2093), .ref (ad 2094), .ref (ad 2095), .ref (ad 2096), .ref (ad (2 * 9)), .ref (ad (2 * 10)), .ref (ad (2 * 11))]) := (fr_19 2090 (by omega)).trans f_14
  refine m_get (D := (dC, dI)) (v := .ref (ad (2 * 9))) (C := RX1) (T := TX1) (N := 10) hx hb hts bk1 hown hK hP 2090 (by decide) f_20 rfl 7 (by decide) (hts (.fieldLink RX1 37 "GradientDesk$Course" "left" "LGradientDesk$Whole;") (List.mem_of_getElem? (i := 4) rfl)) (fun _ h9 => h9) rfl dX1_addWidened_44 ?_
  refine lv_aload_n hx hb dX1_addWidened_47 rfl (lv_at hl 0 rfl) ?_
  refine m_get (D := (dC, dI)) (v := .ref (ad (2 * 10))) (C := RX1) (T := TX1) (N := 10) hx hb hts bk1 hown hK hP 2090 (by decide) f_20 rfl 8 (by decide) (hts (.fieldLink RX1 41 "GradientDesk$Course" "right" "LGradientDesk$Whole;") (List.mem_of_getElem? (i := 9) rfl)) (fun _ h9 => h9) rfl dX1_addWidened_48 ?_
  obtain ⟨mw_21, sw_21, nw_21, fw_21, aw_21, bw_21, cw_21, dw_21, ew_21⟩ := hAW_15 tt (by omega)
  have qw_21 : mw_21 ≤ 4096 := by rw [dw_21]; exact rmc_le _
  refine va_callv (va_runV (As := [.ref (ad (2 * 9)), .ref (ad (2 * 10))]) (rest := []) ⟨hx, hb, hml, hown, hts⟩ (c_X8_add l dC dI A ad cA g_18 tt 9 10 hAW_15 (by omega) (by omega) (by omega) (by omega) (by omega)) (cwV 2 hts (goodIn_app (goodIn_r [Cond.methodLink RX1 128 yX8_add, Cond.instanceMethod yX8_add, Cond.selects RX8 yX8_add yX8_add, Cond.initialized RX8] [10, 11, 12, 13] rfl rfl) (goodIn_sub (fun w9 h9 => bk3 w9 h9) gw_X8_add)) rfl rfl rfl (by decide +kernel) ⟨Nat.le_of_ble_eq_true rfl, Nat.le_of_ble_eq_true rfl⟩) ⟨fun a U g mk q => ⟨q.1, q.2.1, q.2.2.1, LY.moved (u := U) (U := U.calling g mk a) (Vm.Alike.refl U.vm) q.2.2.2⟩, va_recv hK hP (ci := 11) (q0 := (2 * tt)) rfl (wo_at (ns_w (by omega)) aw_21), fun U hU hW => ⟨rfl, by rw [hU]; exact fun q h => hA q (Nat.le_trans hS.1 h), by rw [hU]; exact hP, LY.moved hW.alike hL⟩⟩ rfl rfl hl.1 rfl (lv_room (Nat.le_of_ble_eq_true rfl)) dX1_addWidened_51 ⟨(Nat.le_of_ble_eq_true rfl), (Nat.le_of_ble_eq_true rfl)⟩) hS (fun q _ h => h) (fun q h => h) (fun u8 t8 H1 locs ht8 hvm8 hw_23 hB hz1 hk1 hS => ?_)
  obtain ⟨g_24, rfl⟩ : ∃ z, z = u8 := ⟨_, rfl⟩
  try dsimp only at hw_23 hB
  rw [ht8] at hB
  have hP := hB
  generalize H1 = H at hP hS ⊢
  obtain ⟨fr_25, hAW_22⟩ := hw_23
  refine W.widen (k := 0) (n := 0) (by omega) (by omega) ?_
  exact W.vret hx hb hr (fun t9 ht9 hW9 => ⟨⟨g_24, rfl, ⟨(fun (k : Nat) (hk : (k < 18 ∨ 24 ≤ k) ∧ k ≠ 2 * tt ∧ k ≠ 2 * tt + 1) => (fr_25 k (by omega)).trans ((fr_19 k (by omega)).trans ((fr_8 k (by omega)).trans (rfl)))), hAW_22⟩, by show va_P (dC, dI) vwCl _ t9.heap; rw [ht9]; exact hP⟩, hS.F ht9⟩) hS.2.2 dX1_addWidened_54
def wd_W1_addS : List Cond := .code yX1_addWidened cX1_addWidened 4 none :: (([.fieldLink RX1 114 "GradientDesk$Part" "first" "I", .fieldLink RX1 117 "GradientDesk$Part" "second" "I", .fieldLink RX1 95 "GradientDesk$Part" "degree" "I", .fieldLink RX1 37 "GradientDesk$Course" "left" "LGradientDesk$Whole;", .methodLink RX1 131 yX1_widen, .instanceMethod yX1_widen, .selects RX1 yX1_widen yX1_widen, .initialized RX1, .fieldLink RX1 41 "GradientDesk$Course" "right" "LGradientDesk$Whole;", .methodLink RX1 128 yX8_add, .instanceMethod yX8_add, .selects RX8 yX8_add yX8_add, .initialized RX8] : List Cond) ++ (u_ws RX3 TX3 7 ++ (u_ws RX1 TX1 10 ++ (wd_W1_widS ++ (wd_X8_add ++ ([]))))))
theorem gw_W1_addS : wd_W1_addS.all goodWord = true := k_allc rfl (k_all (by decide +kernel) (k_all (gu_X3) (k_all (gu_X1) (k_all (gw_W1_widS) (k_all (gw_X8_add) (rfl))))))
set_option maxHeartbeats 4000000 in
set_option maxRecDepth 100000 in
theorem c_W1_addS (l : Launch) (dC : Nat → ClassId) (dI : Nat → Nat → Nat) (A : Nat → Prop) (ad : Nat → Nat) (cA : Nat → ClassId) (g : Nat → va_E) (L : List PD) (i : Nat) (tt : Nat) (hC : CS ad cA g L) (hWf : WFL L) (hCr : CRS ad cA g) (hi : i < L.length) (hso : (gd L i).1 = 2) (htt : 38 ≤ tt ∧ tt < 1038) : Met l yX1_addWidened wd_W1_addS ({ frames := 50, cells := 0, slots := 0, locals := 1000 }) (va_Pc [.ref (ad 2090), .ref (ad 2092), .ref (ad (2117 + 2 * i)), .ref (ad (2 * tt))] (PR NSc tyc dC dI A ad cA g)) (va_Qv (fun (u : Nat → va_E) => match u with | g2 => (∀ k, (k < 18 ∨ 24 ≤ k) ∧ k ≠ 2 * tt ∧ k ≠ 2 * tt + 1 → g2 k = g k) ∧ AW ad cA g2) (fun (u : Nat → va_E) (t : State) => va_P (dC, dI) vwCl (wo ad NSc u) t.heap) A) (0) (0) A := by
  refine Met.ofW (cc := cX1_addWidened) (maxL := 4) (ret := none) (by decide) rfl ?_
  intro p e s m args below meth c s₁ B hml hv
  obtain ⟨rfl, hA, hP, hL⟩ := hv
  have hx := B.exec
  have hb := B.bytes
  have hr := B.returns
  have hts := atoms_spec (ws := wd_W1_addS) B.pre
  have hown : s.vm.findClass RX1 = some m.cls := findClass_of_methodNamed B.named
  have hlocks := B.notSynchronized
  have hK := hL.1
  have hD : ∀ g, va_D A (wo ad NSc g) := fun g => wo_D hL.2.1 hL.2.2 g
  have hS : va_S A s.heap s.heap [] := va_S.rf
  have bk0 : ∀ w ∈ u_ws RX3 TX3 7, w ∈ wd_W1_addS := fun _ h => List.mem_cons_of_mem _ (List.mem_append_right _ (List.mem_append_left _ h))
  have bk1 : ∀ w ∈ u_ws RX1 TX1 10, w ∈ wd_W1_addS := fun _ h => List.mem_cons_of_mem _ (List.mem_append_right _ (List.mem_append_right _ (List.mem_append_left _ h)))
  have bk2 : ∀ w ∈ wd_W1_widS, w ∈ wd_W1_addS := fun _ h => List.mem_cons_of_mem _ (List.mem_append_right _ (List.mem_append_right _ (List.mem_append_right _ (List.mem_append_left _ h))))
  have bk3 : ∀ w ∈ wd_X8_add, w ∈ wd_W1_addS := fun _ h => List.mem_cons_of_mem _ (List.mem_append_right _ (List.mem_append_right _ (List.mem_append_right _ (List.mem_append_right _ (List.mem_append_left _ h)))))
  have hl := lv_entry ([.ref (ad 2090), .ref (ad 2092), .ref (ad (2117 + 2 * i)), .ref (ad (2 * tt))]) (n := 4) (Nat.le_of_ble_eq_true rfl)
  rw [lg_entry_eq]
  generalize (lg_sl ([.ref (ad 2090), .ref (ad 2092), .ref (ad (2117 + 2 * i)), .ref (ad (2 * tt))]) ++ List.replicate (4 - (lg_sl ([.ref (ad 2090), .ref (ad 2092), .ref (ad (2117 + 2 * i)), .ref (ad (2 * tt))])).length) Slot.unset).toArray = ls at hl ⊢
  have hl : lv_has ls 4 [(0, .ref (ad 2090)), (1, .ref (ad 2092)), (2, .ref (ad (2117 + 2 * i))), (3, .ref (ad (2 * tt)))] := hl
  have hC0 := hC
  obtain ⟨hLn, hW, ⟨hAr, hWk, hPa, hFr⟩, hO, pt, hPt, hM⟩ := hC0
  unfold CSO at hO
  have hpb := hPt.2
  obtain ⟨a0i, a1i, a2i, a3i, a4i, a5i, a6i⟩ := hM i hi
  obtain ⟨w1i, w2i, w3i, w4i, w5i, -⟩ := hWf i hi
  have hpi : g (2117 + 2 * i) = .inr (6, [.ref (ad (2118 + 2 * i)), .int (nI ((gd L i).1)), .int (iI ((gd L i).2.1)), .int (iI ((gd L i).2.2.1)), .int (nI ((gd L i).2.2.2.1)), .int (nI ((gd L i).2.2.2.2.1)), .int (nI ((gd L i).2.2.2.2.2.1))]) := by rw [hPt.1 i (by clear a6i; omega), a0i, a1i, a2i, a3i, a4i, a5i, nI_iI, nI_iI, nI_iI, nI_iI]
  obtain ⟨fni, hfni⟩ : ∃ z : Prop, z = ((gd L i).1 = 0 → CMN ad cA g (gd L i) i) := ⟨_, rfl⟩
  rw [← hfni] at a6i
  have hcr9 := hCr
  obtain ⟨y0, y1, y2, y3, y4, ⟨ft, y5⟩, fh, y6⟩ := hcr9
  obtain ⟨oa, ob, hoa, hob, eoa, eob, edg, -⟩ := (hWf i hi).2.2.2.2.2.2.2.2.1 hso
  refine lv_aload_n hx hb dX1_addWidened_0 rfl (lv_at hl 0 rfl) ?_
  refine lv_aload_n hx hb dX1_addWidened_1 rfl (lv_at hl 1 rfl) ?_
  refine lv_aload_n hx hb dX1_addWidened_2 rfl (lv_at hl 2 rfl) ?_
  refine m_get (D := (dC, dI)) (v := .int (iI ((gd L i).2.1))) (C := RX3) (T := TX3) (N := 7) hx hb hts bk0 hown hK hP (2117 + 2 * i) (ns_p (by omega)) hpi rfl 2 (by decide) (hts (.fieldLink RX1 114 "GradientDesk$Part" "first" "I") (List.mem_of_getElem? (i := 1) rfl)) (fun _ h9 => h9) rfl dX1_addWidened_3 ?_
  refine lv_topi (fun x_1 e_2 => ?_)
  obtain rfl : x_1 = nI oa := e_2.trans (by rw [eoa]; exact (nI_iI _).symm)
  refine lv_aload_n hx hb dX1_addWidened_6 rfl (lv_at hl 2 rfl) ?_
  refine m_get (D := (dC, dI)) (v := .int (iI ((gd L i).2.2.1))) (C := RX3) (T := TX3) (N := 7) hx hb hts bk0 hown hK hP (2117 + 2 * i) (ns_p (by omega)) hpi rfl 3 (by decide) (hts (.fieldLink RX1 117 "GradientDesk$Part" "second" "I") (List.mem_of_getElem? (i := 2) rfl)) (fun _ h9 => h9) rfl dX1_addWidened_7 ?_
  refine lv_topi (fun x_3 e_4 => ?_)
  obtain rfl : x_3 = nI ob := e_4.trans (by rw [eob]; exact (nI_iI _).symm)
  refine lv_aload_n hx hb dX1_addWidened_10 rfl (lv_at hl 2 rfl) ?_
  refine m_get (D := (dC, dI)) (v := .int (nI ((gd L i).2.2.2.1))) (C := RX3) (T := TX3) (N := 7) hx hb hts bk0 hown hK hP (2117 + 2 * i) (ns_p (by omega)) hpi rfl 4 (by decide) (hts (.fieldLink RX1 95 "GradientDesk$Part" "degree" "I") (List.mem_of_getElem? (i := 3) rfl)) (fun _ h9 => h9) rfl dX1_addWidened_11 ?_
  refine lv_aload_n hx hb dX1_addWidened_14 rfl (lv_at hl 0 rfl) ?_
  refine m_get (D := (dC, dI)) (v := .ref (ad (2 * 9))) (C := RX1) (T := TX1) (N := 10) hx hb hts bk1 hown hK hP 2090 (by decide) y0 rfl 7 (by decide) (hts (.fieldLink RX1 37 "GradientDesk$Course" "left" "LGradientDesk$Whole;") (List.mem_of_getElem? (i := 4) rfl)) (fun _ h9 => h9) rfl dX1_addWidened_15 ?_
  refine va_callv (va_runV (As := [.ref (ad 2092), .int (nI oa), .int (nI ob), .int (nI ((gd L i).2.2.2.1)), .ref (ad (2 * 9))]) (rest := []) ⟨hx, hb, hml, hown, hts⟩ (c_W1_widS l dC dI A ad cA g L oa ob ((gd L i).2.2.2.1) 9 hC hWf (hCr.same (fun (k : Nat) (hk : 2090 ≤ k ∧ k ≤ 2096) => rfl)) (by omega) (by omega) (by omega) (by omega)) (cwV 5 hts (goodIn_app (goodIn_r [Cond.methodLink RX1 131 yX1_widen, Cond.instanceMethod yX1_widen, Cond.selects RX1 yX1_widen yX1_widen, Cond.initialized RX1] [5, 6, 7, 8] rfl rfl) (goodIn_sub (fun w9 h9 => bk2 w9 h9) gw_W1_widS)) rfl rfl rfl (by decide +kernel) ⟨Nat.le_of_ble_eq_true rfl, Nat.le_of_ble_eq_true rfl⟩) ⟨fun a U g mk q => ⟨q.1, q.2.1, q.2.2.1, LY.moved (u := U) (U := U.calling g mk a) (Vm.Alike.refl U.vm) q.2.2.2⟩, va_recv hK hP (ci := 4) (q0 := 2090) rfl (wo_at (by decide) y0), fun U hU hW => ⟨rfl, by rw [hU]; exact fun q h => hA q (Nat.le_trans hS.1 h), by rw [hU]; exact hP, LY.moved hW.alike hL⟩⟩ rfl rfl hl.1 rfl (lv_room (Nat.le_of_ble_eq_true rfl)) dX1_addWidened_18 ⟨(Nat.le_of_ble_eq_true rfl), (Nat.le_of_ble_eq_true rfl)⟩) hS (fun q _ h => h) (fun q h => h) (fun u8 t8 H1 locs ht8 hvm8 hw_6 hB hz1 hk1 hS => ?_)
  obtain ⟨g_7, rfl⟩ : ∃ z, z = u8 := ⟨_, rfl⟩
  try dsimp only at hw_6 hB
  rw [ht8] at hB
  have hP := hB
  generalize H1 = H at hP hS ⊢
  obtain ⟨fr_8, hAW_5⟩ := hw_6
  refine lv_aload_n hx hb dX1_addWidened_21 rfl (lv_at hl 0 rfl) ?_
  refine lv_aload_n hx hb dX1_addWidened_22 rfl (lv_at hl 1 rfl) ?_
  refine lv_aload_n hx hb dX1_addWidened_23 rfl (lv_at hl 2 rfl) ?_
  have f_9 : g_7 (2117 + 2 * i) = .inr (6, [.ref (ad (2118 + 2 * i)), .int (nI ((gd L i).1)), .int (iI ((gd L i).2.1)), .int (iI ((gd L i).2.2.1)), .int (nI ((gd L i).2.2.2.1)), .int (nI ((gd L i).2.2.2.2.1)), .int (nI ((gd L i).2.2.2.2.2.1))]) := (fr_8 (2117 + 2 * i) (by omega)).trans hpi
  refine m_get (D := (dC, dI)) (v := .int (iI ((gd L i).2.2.1))) (C := RX3) (T := TX3) (N := 7) hx hb hts bk0 hown hK hP (2117 + 2 * i) (ns_p (by omega)) f_9 rfl 3 (by decide) (hts (.fieldLink RX1 117 "GradientDesk$Part" "second" "I") (List.mem_of_getElem? (i := 2) rfl)) (fun _ h9 => h9) rfl dX1_addWidened_24 ?_
  refine lv_topi (fun x_10 e_11 => ?_)
  obtain rfl : x_10 = nI ob := e_11.trans (by rw [eob]; exact (nI_iI _).symm)
  refine lv_aload_n hx hb dX1_addWidened_27 rfl (lv_at hl 2 rfl) ?_
  refine m_get (D := (dC, dI)) (v := .int (iI ((gd L i).2.1))) (C := RX3) (T := TX3) (N := 7) hx hb hts bk0 hown hK hP (2117 + 2 * i) (ns_p (by omega)) f_9 rfl 2 (by decide) (hts (.fieldLink RX1 114 "GradientDesk$Part" "first" "I") (List.mem_of_getElem? (i := 1) rfl)) (fun _ h9 => h9) rfl dX1_addWidened_28 ?_
  refine lv_topi (fun x_12 e_13 => ?_)
  obtain rfl : x_12 = nI oa := e_13.trans (by rw [eoa]; exact (nI_iI _).symm)
  refine lv_aload_n hx hb dX1_addWidened_31 rfl (lv_at hl 2 rfl) ?_
  refine m_get (D := (dC, dI)) (v := .int (nI ((gd L i).2.2.2.1))) (C := RX3) (T := TX3) (N := 7) hx hb hts bk0 hown hK hP (2117 + 2 * i) (ns_p (by omega)) f_9 rfl 4 (by decide) (hts (.fieldLink RX1 95 "GradientDesk$Part" "degree" "I") (List.mem_of_getElem? (i := 3) rfl)) (fun _ h9 => h9) rfl dX1_addWidened_32 ?_
  refine lv_aload_n hx hb dX1_addWidened_35 rfl (lv_at hl 0 rfl) ?_
  have f_14 : g_7 2090 = .inr (4, [.ref (ad 2080), .ref (ad 2091), .ref (ad 2092), .ref (ad 2093), .ref (ad 2094), .ref (ad 2095), .ref (ad 2096), .ref (ad (2 * 9)), .ref (ad (2 * 10)), .ref (ad (2 * 11))]) := (fr_8 2090 (by omega)).trans y0
  refine m_get (D := (dC, dI)) (v := .ref (ad (2 * 10))) (C := RX1) (T := TX1) (N := 10) hx hb hts bk1 hown hK hP 2090 (by decide) f_14 rfl 8 (by decide) (hts (.fieldLink RX1 41 "GradientDesk$Course" "right" "LGradientDesk$Whole;") (List.mem_of_getElem? (i := 9) rfl)) (fun _ h9 => h9) rfl dX1_addWidened_36 ?_
  have hC_16 : CS ad cA g_7 L := CS.same hC hAW_5 (fun (k : Nat) (hk : (76 ≤ k ∧ k < 876) ∨ k = 2077 ∨ k = 2107 ∨ k = 2080 ∨ k = 2081 ∨ (2117 ≤ k ∧ k < 2517)) => (fr_8 k (by omega)).trans (rfl))
  refine va_callv (va_runV (As := [.ref (ad 2092), .int (nI ob), .int (nI oa), .int (nI ((gd L i).2.2.2.1)), .ref (ad (2 * 10))]) (rest := []) ⟨hx, hb, hml, hown, hts⟩ (c_W1_widS l dC dI A ad cA g_7 L ob oa ((gd L i).2.2.2.1) 10 hC_16 hWf (hCr.same (fun (k : Nat) (hk : 2090 ≤ k ∧ k ≤ 2096) => (fr_8 k (by omega)).trans (rfl))) (by omega) (by omega) (by omega) (by omega)) (cwV 5 hts (goodIn_app (goodIn_r [Cond.methodLink RX1 131 yX1_widen, Cond.instanceMethod yX1_widen, Cond.selects RX1 yX1_widen yX1_widen, Cond.initialized RX1] [5, 6, 7, 8] rfl rfl) (goodIn_sub (fun w9 h9 => bk2 w9 h9) gw_W1_widS)) rfl rfl rfl (by decide +kernel) ⟨Nat.le_of_ble_eq_true rfl, Nat.le_of_ble_eq_true rfl⟩) ⟨fun a U g mk q => ⟨q.1, q.2.1, q.2.2.1, LY.moved (u := U) (U := U.calling g mk a) (Vm.Alike.refl U.vm) q.2.2.2⟩, va_recv hK hP (ci := 4) (q0 := 2090) rfl (wo_at (by decide) f_14), fun U hU hW => ⟨rfl, by rw [hU]; exact fun q h => hA q (Nat.le_trans hS.1 h), by rw [hU]; exact hP, LY.moved hW.alike hL⟩⟩ rfl rfl hl.1 rfl (lv_room (Nat.le_of_ble_eq_true rfl)) dX1_addWidened_39 ⟨(Nat.le_of_ble_eq_true rfl), (Nat.le_of_ble_eq_true rfl)⟩) hS (fun q _ h => h) (fun q h => h) (fun u8 t8 H1 locs ht8 hvm8 hw_17 hB hz1 hk1 hS => ?_)
  obtain ⟨g_18, rfl⟩ : ∃ z, z = u8 := ⟨_, rfl⟩
  try dsimp only at hw_17 hB
  rw [ht8] at hB
  have hP := hB
  generalize H1 = H at hP hS ⊢
  obtain ⟨fr_19, hAW_15⟩ := hw_17
  refine lv_aload_n hx hb dX1_addWidened_42 rfl (lv_at hl 3 rfl) ?_
  refine lv_aload_n hx hb dX1_addWidened_43 rfl (lv_at hl 0 rfl) ?_
  have f_20 : g_18 2090 = .inr (4, [.ref (ad 2080), .ref (ad 2091), .ref (ad 2092), .ref (ad 2093), .ref (ad 2094), .ref (ad 2095), .ref (ad 2096), .ref (ad (2 * 9)), .ref (ad (2 * 10)), .ref (ad (2 * 11))]) := (fr_19 2090 (by omega)).trans f_14
  refine m_get (D := (dC, dI)) (v := .ref (ad (2 * 9))) (C := RX1) (T := TX1) (N := 10) hx hb hts bk1 hown hK hP 2090 (by decide) f_20 rfl 7 (by decide) (hts (.fieldLink RX1 37 "GradientDesk$Course" "left" "LGradientDesk$Whole;") (List.mem_of_getElem? (i := 4) rfl)) (fun _ h9 => h9) rfl dX1_addWidened_44 ?_
  refine lv_aload_n hx hb dX1_addWidened_47 rfl (lv_at hl 0 rfl) ?_
  refine m_get (D := (dC, dI)) (v := .ref (ad (2 * 10))) (C := RX1) (T := TX1) (N := 10) hx hb hts bk1 hown hK hP 2090 (by decide) f_20 rfl 8 (by decide) (hts (.fieldLink RX1 41 "GradientDesk$Course" "right" "LGradientDesk$Whole;") (List.mem_of_getElem? (i := 9) rfl)) (fun _ h9 => h9) rfl dX1_addWidened_48 ?_
  obtain ⟨mw_21, sw_21, nw_21, fw_21, aw_21, bw_21, cw_21, dw_21, ew_21⟩ := hAW_15 tt (by omega)
  have qw_21 : mw_21 ≤ 4096 := by rw [dw_21]; exact rmc_le _
  refine va_callv (va_runV (As := [.ref (ad (2 * 9)), .ref (ad (2 * 10))]) (rest := []) ⟨hx, hb, hml, hown, hts⟩ (c_X8_add l dC dI A ad cA g_18 tt 9 10 hAW_15 (by omega) (by omega) (by omega) (by omega) (by omega)) (cwV 2 hts (goodIn_app (goodIn_r [Cond.methodLink RX1 128 yX8_add, Cond.instanceMethod yX8_add, Cond.selects RX8 yX8_add yX8_add, Cond.initialized RX8] [10, 11, 12, 13] rfl rfl) (goodIn_sub (fun w9 h9 => bk3 w9 h9) gw_X8_add)) rfl rfl rfl (by decide +kernel) ⟨Nat.le_of_ble_eq_true rfl, Nat.le_of_ble_eq_true rfl⟩) ⟨fun a U g mk q => ⟨q.1, q.2.1, q.2.2.1, LY.moved (u := U) (U := U.calling g mk a) (Vm.Alike.refl U.vm) q.2.2.2⟩, va_recv hK hP (ci := 11) (q0 := (2 * tt)) rfl (wo_at (ns_w (by omega)) aw_21), fun U hU hW => ⟨rfl, by rw [hU]; exact fun q h => hA q (Nat.le_trans hS.1 h), by rw [hU]; exact hP, LY.moved hW.alike hL⟩⟩ rfl rfl hl.1 rfl (lv_room (Nat.le_of_ble_eq_true rfl)) dX1_addWidened_51 ⟨(Nat.le_of_ble_eq_true rfl), (Nat.le_of_ble_eq_true rfl)⟩) hS (fun q _ h => h) (fun q h => h) (fun u8 t8 H1 locs ht8 hvm8 hw_23 hB hz1 hk1 hS => ?_)
  obtain ⟨g_24, rfl⟩ : ∃ z, z = u8 := ⟨_, rfl⟩
  try dsimp only at hw_23 hB
  rw [ht8] at hB
  have hP := hB
  generalize H1 = H at hP hS ⊢
  obtain ⟨fr_25, hAW_22⟩ := hw_23
  refine W.widen (k := 0) (n := 0) (by omega) (by omega) ?_
  exact W.vret hx hb hr (fun t9 ht9 hW9 => ⟨⟨g_24, rfl, ⟨(fun (k : Nat) (hk : (k < 18 ∨ 24 ≤ k) ∧ k ≠ 2 * tt ∧ k ≠ 2 * tt + 1) => (fr_25 k (by omega)).trans ((fr_19 k (by omega)).trans ((fr_8 k (by omega)).trans (rfl)))), hAW_22⟩, by show va_P (dC, dI) vwCl _ t9.heap; rw [ht9]; exact hP⟩, hS.F ht9⟩) hS.2.2 dX1_addWidened_54
