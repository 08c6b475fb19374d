def wd_V6_makePower : List Cond := .code yX6_makePower cX6_makePower 5 (some .int) :: (([.fieldLink RX6 11 "GradientDesk$Shelf" "parts" "[LGradientDesk$Part;", .fieldLink RX6 64 "GradientDesk$Part" "sort" "I", .fieldLink RX6 79 "GradientDesk$Part" "sizeN" "I", .fieldLink RX6 91 "GradientDesk$Part" "degree" "I", .fieldLink RX6 82 "GradientDesk$Part" "sizeD" "I", .methodLink RX6 60 yX6_keep, .instanceMethod yX6_keep, .selects RX6 yX6_keep yX6_keep, .initialized RX6, .fieldLink RX6 68 "GradientDesk$Part" "number" "LGradientDesk$Fraction;", .methodLink RX6 105 yX6_makeNumberPower, .instanceMethod yX6_makeNumberPower, .selects RX6 yX6_makeNumberPower yX6_makeNumberPower, .methodLink RX6 101 yX6_makeWhole, .instanceMethod yX6_makeWhole, .selects RX6 yX6_makeWhole yX6_makeWhole] : List Cond) ++ (u_ws RX6 TX6 7 ++ (u_ws RX3 TX3 7 ++ (wd_V6_keep ++ (wd_V6_npow ++ (wd_V6_makeWhole ++ ([])))))))
theorem gw_V6_makePower : wd_V6_makePower.all goodWord = true := k_allc rfl (k_all (by decide +kernel) (k_all (gu_X6) (k_all (gu_X3) (k_all (gw_V6_keep) (k_all (gw_V6_npow) (k_all (gw_V6_makeWhole) (rfl)))))))
set_option maxHeartbeats 4000000 in
set_option maxRecDepth 100000 in
theorem c_V6_makePower (l : Launch) (dC : Nat → ClassId) (dI : Nat → Nat → Nat) (A : Nat → Prop) (ad : Nat → Nat) (cA : Nat → ClassId) (g : Nat → va_E) (L : List PD) (x1 : Nat) (e9 : Nat) (hC : CS ad cA g L) (hWf : WFL L) (ix : x1 < L.length) (he9 : e9 ≤ 9) : Met l yX6_makePower wd_V6_makePower ({ frames := 50, cells := 0, slots := 0, locals := 1000 }) (va_Pc [.ref (ad 2080), .int (nI x1), .int (nI e9)] (PR NSc tyc dC dI A ad cA g)) (va_Qi (fun (r : Int32) => fun (u : Nat → va_E) => match u with | g2 => (∀ k, (14 ≤ k ∧ k < 76) ∨ (876 ≤ k ∧ k < 2080) ∨ (2081 ≤ k ∧ k < 2117) → g2 k = g k) ∧ CMK ad cA g2 (powL L x1 e9) r) (fun (u : Nat → va_E) (t : State) => va_P (dC, dI) vwCl (wo ad NSc u) t.heap) A) (0) (0) A := by
  refine Met.ofW (cc := cX6_makePower) (maxL := 5) (ret := (some .int)) (by decide) rfl ?_
  intro p e s m args below meth c s₁ B hml hv
  obtain ⟨rfl, hA, hP, hL⟩ := hv
  have hx := B.exec
  have hb := B.bytes
  have hr := B.returns
  have hts := atoms_spec (ws := wd_V6_makePower) B.pre
  have hown : s.vm.findClass RX6 = some m.cls := findClass_of_methodNamed B.named
  have hlocks := B.notSynchronized
  have hK := hL.1
  have hD : ∀ g, va_D A (wo ad NSc g) := fun g => wo_D hL.2.1 hL.2.2 g
  have hS : va_S A s.heap s.heap [] := va_S.rf
  have bk0 : ∀ w ∈ u_ws RX6 TX6 7, w ∈ wd_V6_makePower := fun _ h => List.mem_cons_of_mem _ (List.mem_append_right _ (List.mem_append_left _ h))
  have bk1 : ∀ w ∈ u_ws RX3 TX3 7, w ∈ wd_V6_makePower := fun _ h => List.mem_cons_of_mem _ (List.mem_append_right _ (List.mem_append_right _ (List.mem_append_left _ h)))
  have bk2 : ∀ w ∈ wd_V6_keep, w ∈ wd_V6_makePower := fun _ h => List.mem_cons_of_mem _ (List.mem_append_right _ (List.mem_append_right _ (List.mem_append_right _ (List.mem_append_left _ h))))
  have bk3 : ∀ w ∈ wd_V6_npow, w ∈ wd_V6_makePower := fun _ h => List.mem_cons_of_mem _ (List.mem_append_right _ (List.mem_append_right _ (List.mem_append_right _ (List.mem_append_right _ (List.mem_append_left _ h)))))
  have bk4 : ∀ w ∈ wd_V6_makeWhole, w ∈ wd_V6_makePower := fun _ h => List.mem_cons_of_mem _ (List.mem_append_right _ (List.mem_append_right _ (List.mem_append_right _ (List.mem_append_right _ (List.mem_append_right _ (List.mem_append_left _ h))))))
  have hl := lv_entry ([.ref (ad 2080), .int (nI x1), .int (nI e9)]) (n := 5) (Nat.le_of_ble_eq_true rfl)
  rw [lg_entry_eq]
  generalize (lg_sl ([.ref (ad 2080), .int (nI x1), .int (nI e9)]) ++ List.replicate (5 - (lg_sl ([.ref (ad 2080), .int (nI x1), .int (nI e9)])).length) Slot.unset).toArray = ls at hl ⊢
  have hl : lv_has ls 5 [(0, .ref (ad 2080)), (1, .int (nI x1)), (2, .int (nI e9))] := hl
  have hC0 := hC
  obtain ⟨hLn, hW, ⟨hAr, hWk, hPa, hFr⟩, hO, pt, hPt, hM⟩ := hC0
  unfold CSO at hO
  have hpb := hPt.2
  obtain ⟨a0x1, a1x1, a2x1, a3x1, a4x1, a5x1, a6x1⟩ := hM x1 ix
  obtain ⟨w1x1, w2x1, w3x1, w4x1, w5x1, -⟩ := hWf x1 ix
  have hpx1 : g (2117 + 2 * x1) = .inr (6, [.ref (ad (2118 + 2 * x1)), .int (nI ((gd L x1).1)), .int (iI ((gd L x1).2.1)), .int (iI ((gd L x1).2.2.1)), .int (nI ((gd L x1).2.2.2.1)), .int (nI ((gd L x1).2.2.2.2.1)), .int (nI ((gd L x1).2.2.2.2.2.1))]) := by rw [hPt.1 x1 (by clear a6x1; omega), a0x1, a1x1, a2x1, a3x1, a4x1, a5x1, nI_iI, nI_iI, nI_iI, nI_iI]
  obtain ⟨fnx1, hfnx1⟩ : ∃ z : Prop, z = ((gd L x1).1 = 0 → CMN ad cA g (gd L x1) x1) := ⟨_, rfl⟩
  rw [← hfnx1] at a6x1
  have j1 : e9 * (gd L x1).2.2.2.1 ≤ 9 * 8 := Nat.mul_le_mul he9 w2x1
  have j2 : e9 * ((gd L x1).2.2.2.2.1 + 8) ≤ 9 * 408 := Nat.mul_le_mul he9 (by omega)
  have j3 : e9 * (gd L x1).2.2.2.2.2.1 ≤ 9 * 400 := Nat.mul_le_mul he9 w5x1
  refine lv_iload_n hx hb dX6_makePower_0 rfl (lv_at hl 1 rfl) ?_
  refine lv_if_lt (tgt := 9) hx hb dX6_makePower_1 (by decide) (fun c_1 => absurd ((nI_ltI (a := x1) (b := 0) (by omega) (by decide)).mp c_1) (by omega)) (fun c_1 => ?_)
  refine lv_iload_n hx hb dX6_makePower_4 rfl (lv_at hl 2 rfl) ?_
  refine lv_iconst (v := nI 1) hx hb dX6_makePower_5 (by decide +kernel) ?_
  refine lv_icmp_ne (tgt := 11) hx hb dX6_makePower_6 (by decide) (fun c_2 => ?_) (fun c_2 => ?_)
  · have c_2 := mt (nI_eq (a := e9) (b := 1) (by omega) (by decide)).mpr c_2
    refine lv_iload_n hx hb dX6_makePower_11 rfl (lv_at hl 2 rfl) ?_
    refine lv_if_ne (tgt := 21) hx hb dX6_makePower_12 (by decide) (fun c_3 => ?_) (fun c_3 => ?_)
    · have c_3 := mt (nI_eq (a := e9) (b := 0) (by omega) (by decide)).mpr c_3
      refine lv_aload_n hx hb dX6_makePower_21 rfl (lv_at hl 0 rfl) ?_
      refine m_get (D := (dC, dI)) (v := .ref (ad 2081)) (C := RX6) (T := TX6) (N := 7) hx hb hts bk0 hown hK hP 2080 (by decide) hO rfl 0 (by decide) (hts (.fieldLink RX6 11 "GradientDesk$Shelf" "parts" "[LGradientDesk$Part;") (List.mem_of_getElem? (i := 1) rfl)) (fun _ h9 => h9) rfl dX6_makePower_22 ?_
      refine lv_iload_n hx hb dX6_makePower_25 rfl (lv_at hl 1 rfl) ?_
      refine m_aald hx hb hK hP 2081 (by decide) rfl hPa (i := x1) (v := ad (2117 + 2 * x1)) (by omega) (by decide) rfl dX6_makePower_26 ?_
      refine lv_astore_n (lv' := [(3, .ref (ad (2117 + 2 * x1))), (0, .ref (ad 2080)), (1, .int (nI x1)), (2, .int (nI e9))]) hx hb dX6_makePower_27 rfl hl (by decide) rfl (fun ls hl => ?_)
      refine lv_aload_n hx hb dX6_makePower_28 rfl (lv_at hl 0 rfl) ?_
      refine m_get (D := (dC, dI)) (v := .int (nI ((gd L x1).1))) (C := RX3) (T := TX3) (N := 7) hx hb hts bk1 hown hK hP (2117 + 2 * x1) (ns_p (by omega)) hpx1 rfl 1 (by decide) (hts (.fieldLink RX6 64 "GradientDesk$Part" "sort" "I") (List.mem_of_getElem? (i := 2) rfl)) (fun _ h9 => h9) rfl dX6_makePower_29 ?_
      refine lv_if_ne (tgt := 45) hx hb dX6_makePower_32 (by decide) (fun c_4 => ?_) (fun c_4 => ?_)
      · have c_4 := mt (nI_eq (a := ((gd L x1).1)) (b := 0) (by omega) (by decide)).mpr c_4
        refine lv_iload_n hx hb dX6_makePower_45 rfl (lv_at hl 3 rfl) ?_
        refine lv_aload_n hx hb dX6_makePower_46 rfl (lv_at hl 0 rfl) ?_
        refine m_get (D := (dC, dI)) (v := .int (nI ((gd L x1).2.2.2.2.1))) (C := RX3) (T := TX3) (N := 7) hx hb hts bk1 hown hK hP (2117 + 2 * x1) (ns_p (by omega)) hpx1 rfl 5 (by decide) (hts (.fieldLink RX6 79 "GradientDesk$Part" "sizeN" "I") (List.mem_of_getElem? (i := 3) rfl)) (fun _ h9 => h9) rfl dX6_makePower_47 ?_
        refine lv_bipush (v := nI 8) hx hb dX6_makePower_50 (by decide +kernel) ?_
        refine lv_iadd hx hb dX6_makePower_52 ?_
        refine lv_topi (fun x_5 e_6 => ?_)
        obtain rfl : x_5 = nI ((gd L x1).2.2.2.2.1 + 8) := e_6.trans (nI_add ((gd L x1).2.2.2.2.1) 8)
        refine lv_imul hx hb dX6_makePower_53 ?_
        refine lv_topi (fun x_7 e_8 => ?_)
        obtain rfl : x_7 = nI (e9 * ((gd L x1).2.2.2.2.1 + 8)) := e_8.trans (pk_mul e9 ((gd L x1).2.2.2.2.1 + 8))
        refine lv_istore (lv' := [(4, .int (nI (e9 * ((gd L x1).2.2.2.2.1 + 8)))), (3, .ref (ad (2117 + 2 * x1))), (0, .ref (ad 2080)), (1, .int (nI x1)), (2, .int (nI e9))]) hx hb dX6_makePower_54 hl (by decide) rfl (fun ls hl => ?_)
        refine lv_aload_n hx hb dX6_makePower_56 rfl (lv_at hl 2 rfl) ?_
        refine lv_iconst (v := nI 4) hx hb dX6_makePower_57 (by decide +kernel) ?_
        refine lv_iload_n hx hb dX6_makePower_58 rfl (lv_at hl 3 rfl) ?_
        refine lv_iload_n hx hb dX6_makePower_59 rfl (lv_at hl 4 rfl) ?_
        refine lv_iload_n hx hb dX6_makePower_60 rfl (lv_at hl 4 rfl) ?_
        refine lv_aload_n hx hb dX6_makePower_61 rfl (lv_at hl 1 rfl) ?_
        refine m_get (D := (dC, dI)) (v := .int (nI ((gd L x1).2.2.2.1))) (C := RX3) (T := TX3) (N := 7) hx hb hts bk1 hown hK hP (2117 + 2 * x1) (ns_p (by omega)) hpx1 rfl 4 (by decide) (hts (.fieldLink RX6 91 "GradientDesk$Part" "degree" "I") (List.mem_of_getElem? (i := 4) rfl)) (fun _ h9 => h9) rfl dX6_makePower_62 ?_
        refine lv_imul hx hb dX6_makePower_65 ?_
        refine lv_topi (fun x_9 e_10 => ?_)
        obtain rfl : x_9 = nI (e9 * ((gd L x1).2.2.2.1)) := e_10.trans (pk_mul e9 ((gd L x1).2.2.2.1))
        refine lv_iload hx hb dX6_makePower_66 (lv_at hl 0 rfl) ?_
        refine lv_iload_n hx hb dX6_makePower_68 rfl (lv_at hl 4 rfl) ?_
        refine lv_aload_n hx hb dX6_makePower_69 rfl (lv_at hl 1 rfl) ?_
        refine m_get (D := (dC, dI)) (v := .int (nI ((gd L x1).2.2.2.2.2.1))) (C := RX3) (T := TX3) (N := 7) hx hb hts bk1 hown hK hP (2117 + 2 * x1) (ns_p (by omega)) hpx1 rfl 6 (by decide) (hts (.fieldLink RX6 82 "GradientDesk$Part" "sizeD" "I") (List.mem_of_getElem? (i := 5) rfl)) (fun _ h9 => h9) rfl dX6_makePower_70 ?_
        refine lv_imul hx hb dX6_makePower_73 ?_
        refine lv_topi (fun x_11 e_12 => ?_)
        obtain rfl : x_11 = nI (e9 * ((gd L x1).2.2.2.2.2.1)) := e_12.trans (pk_mul e9 ((gd L x1).2.2.2.2.2.1))
        refine va_calli (va_runV (As := [.int (nI 4), .int (nI x1), .int (nI e9), .int (nI (e9 * ((gd L x1).2.2.2.1))), .int (nI (e9 * ((gd L x1).2.2.2.2.1 + 8))), .int (nI (e9 * ((gd L x1).2.2.2.2.2.1)))]) (rest := []) ⟨hx, hb, hml, hown, hts⟩ (c_V6_keep l dC dI A ad cA g L (4, ((x1 : Nat) : Int), ((e9 : Nat) : Int), e9 * (gd L x1).2.2.2.1, e9 * ((gd L x1).2.2.2.2.1 + 8), e9 * (gd L x1).2.2.2.2.2.1, 0, 1) (nI 4) (nI x1) (nI e9) (nI (e9 * ((gd L x1).2.2.2.1))) (nI (e9 * ((gd L x1).2.2.2.2.1 + 8))) (nI (e9 * ((gd L x1).2.2.2.2.2.1))) hC ((show nI 4 = iI 4 from by decide).trans (congrArg iI (by rfl))) ((nI_iI x1).trans (congrArg iI (by rfl))) ((nI_iI e9).trans (congrArg iI (by rfl))) ((nI_iI (e9 * ((gd L x1).2.2.2.1))).trans (congrArg iI (by rfl))) ((nI_iI (e9 * ((gd L x1).2.2.2.2.1 + 8))).trans (congrArg iI (by rfl))) ((nI_iI (e9 * ((gd L x1).2.2.2.2.2.1))).trans (congrArg iI (by rfl))) (by show 4 ≤ 20000 ∧ -1 ≤ ((x1 : Nat) : Int) ∧ ((x1 : Nat) : Int) ≤ 20000 ∧ -1 ≤ ((e9 : Nat) : Int) ∧ ((e9 : Nat) : Int) ≤ 20000 ∧ e9 * (gd L x1).2.2.2.1 ≤ 20000 ∧ e9 * ((gd L x1).2.2.2.2.1 + 8) ≤ 20000 ∧ e9 * (gd L x1).2.2.2.2.2.1 ≤ 20000; omega) (show (4 : Nat) ≠ 0 from by decide)) (cwV 6 hts (goodIn_app (goodIn_r [Cond.methodLink RX6 60 yX6_keep, Cond.instanceMethod yX6_keep, Cond.selects RX6 yX6_keep yX6_keep, Cond.initialized RX6] [6, 7, 8, 9] rfl rfl) (goodIn_sub (fun w9 h9 => bk2 w9 h9) gw_V6_keep)) rfl rfl rfl (by decide +kernel) ⟨Nat.le_of_ble_eq_true rfl, Nat.le_of_ble_eq_true rfl⟩) ⟨fun a U g mk q => ⟨q.1, q.2.1, q.2.2.1, LY.moved (u := U) (U := U.calling g mk a) (Vm.Alike.refl U.vm) q.2.2.2⟩, va_recv hK hP (ci := 9) (q0 := 2080) rfl (wo_at (by decide) hO), fun U hU hW => ⟨rfl, by rw [hU]; exact fun q h => hA q (Nat.le_trans hS.1 h), by rw [hU]; exact hP, LY.moved hW.alike hL⟩⟩ rfl rfl hl.1 rfl (lv_room (Nat.le_of_ble_eq_true rfl)) dX6_makePower_74 ⟨(Nat.le_of_ble_eq_true rfl), (Nat.le_of_ble_eq_true rfl)⟩) hS (fun q _ h => h) (fun q h => h) (fun r_13 u8 t8 H1 locs ht8 hvm8 hw_14 hB hz1 hk1 hS => ?_)
        obtain ⟨g_15, rfl⟩ : ∃ z, z = u8 := ⟨_, rfl⟩
        try dsimp only at hw_14 hB
        rw [ht8] at hB
        have hP := hB
        generalize H1 = H at hP hS ⊢
        obtain ⟨fr_16, hK⟩ := hw_14
        refine W.widen (k := 0) (n := 0) (by omega) (by omega) ?_
        exact W.iret (v := r_13) hx hb hr (fun t9 ht9 hW9 => ⟨⟨r_13, g_15, rfl, ⟨(fun (k : Nat) (hk : (14 ≤ k ∧ k < 76) ∨ (876 ≤ k ∧ k < 2080) ∨ (2081 ≤ k ∧ k < 2117)) => (fr_16 k (by omega)).trans (rfl)), by unfold powL; rw [if_neg (show ¬ e9 = 0 by omega), if_neg (show ¬ e9 = 1 by omega), if_neg (show ¬ (gd L x1).1 = 0 by omega)]; exact hK⟩, by show va_P (dC, dI) vwCl _ t9.heap; rw [ht9]; exact hP⟩, hS.F ht9⟩) hS.2.2 dX6_makePower_77
      · have c_4 := (nI_eq (a := ((gd L x1).1)) (b := 0) (by omega) (by decide)).mp c_4
        refine lv_aload_n hx hb dX6_makePower_35 rfl (lv_at hl 1 rfl) ?_
        refine lv_aload_n hx hb dX6_makePower_36 rfl (lv_at hl 0 rfl) ?_
        refine m_get (D := (dC, dI)) (v := .ref (ad (2118 + 2 * x1))) (C := RX3) (T := TX3) (N := 7) hx hb hts bk1 hown hK hP (2117 + 2 * x1) (ns_p (by omega)) hpx1 rfl 0 (by decide) (hts (.fieldLink RX6 68 "GradientDesk$Part" "number" "LGradientDesk$Fraction;") (List.mem_of_getElem? (i := 10) rfl)) (fun _ h9 => h9) rfl dX6_makePower_37 ?_
        refine lv_iload_n hx hb dX6_makePower_40 rfl (lv_at hl 3 rfl) ?_
        refine va_calli (va_runV (As := [.ref (ad (2118 + 2 * x1)), .int (nI e9)]) (rest := []) ⟨hx, hb, hml, hown, hts⟩ (c_V6_npow l dC dI A ad cA g L x1 e9 hC hWf ix (by omega) he9) (cwV 2 hts (goodIn_app (goodIn_r [Cond.methodLink RX6 105 yX6_makeNumberPower, Cond.instanceMethod yX6_makeNumberPower, Cond.selects RX6 yX6_makeNumberPower yX6_makeNumberPower, Cond.initialized RX6] [11, 12, 13, 9] rfl rfl) (goodIn_sub (fun w9 h9 => bk3 w9 h9) gw_V6_npow)) rfl rfl rfl (by decide +kernel) ⟨Nat.le_of_ble_eq_true rfl, Nat.le_of_ble_eq_true rfl⟩) ⟨fun a U g mk q => ⟨q.1, q.2.1, q.2.2.1, LY.moved (u := U) (U := U.calling g mk a) (Vm.Alike.refl U.vm) q.2.2.2⟩, va_recv hK hP (ci := 9) (q0 := 2080) rfl (wo_at (by decide) hO), fun U hU hW => ⟨rfl, by rw [hU]; exact fun q h => hA q (Nat.le_trans hS.1 h), by rw [hU]; exact hP, LY.moved hW.alike hL⟩⟩ rfl rfl hl.1 rfl (lv_room (Nat.le_of_ble_eq_true rfl)) dX6_makePower_41 ⟨(Nat.le_of_ble_eq_true rfl), (Nat.le_of_ble_eq_true rfl)⟩) hS (fun q _ h => h) (fun q h => h) (fun r_17 u8 t8 H1 locs ht8 hvm8 hw_18 hB hz1 hk1 hS => ?_)
        obtain ⟨g_19, rfl⟩ : ∃ z, z = u8 := ⟨_, rfl⟩
        try dsimp only at hw_18 hB
        rw [ht8] at hB
        have hP := hB
        generalize H1 = H at hP hS ⊢
        obtain ⟨fr_20, hK⟩ := hw_18
        refine W.widen (k := 0) (n := 0) (by omega) (by omega) ?_
        exact W.iret (v := r_17) hx hb hr (fun t9 ht9 hW9 => ⟨⟨r_17, g_19, rfl, ⟨(fun (k : Nat) (hk : (14 ≤ k ∧ k < 76) ∨ (876 ≤ k ∧ k < 2080) ∨ (2081 ≤ k ∧ k < 2117)) => (fr_20 k (by omega)).trans (rfl)), by unfold powL; rw [if_neg (show ¬ e9 = 0 by omega), if_neg (show ¬ e9 = 1 by omega), if_pos (show (gd L x1).1 = 0 by omega)]; exact hK⟩, by show va_P (dC, dI) vwCl _ t9.heap; rw [ht9]; exact hP⟩, hS.F ht9⟩) hS.2.2 dX6_makePower_44
    · have c_3 := (nI_eq (a := e9) (b := 0) (by omega) (by decide)).mp c_3
      refine lv_aload_n hx hb dX6_makePower_15 rfl (lv_at hl 0 rfl) ?_
      refine lv_iconst (v := nI 1) hx hb dX6_makePower_16 (by decide +kernel) ?_
      refine va_calli (va_runV (As := [.int (nI 1)]) (rest := []) ⟨hx, hb, hml, hown, hts⟩ (c_V6_makeWhole l dC dI A ad cA g L (nI 1) 1 hC (by decide)) (cwV 1 hts (goodIn_app (goodIn_r [Cond.methodLink RX6 101 yX6_makeWhole, Cond.instanceMethod yX6_makeWhole, Cond.selects RX6 yX6_makeWhole yX6_makeWhole, Cond.initialized RX6] [14, 15, 16, 9] rfl rfl) (goodIn_sub (fun w9 h9 => bk4 w9 h9) gw_V6_makeWhole)) rfl rfl rfl (by decide +kernel) ⟨Nat.le_of_ble_eq_true rfl, Nat.le_of_ble_eq_true rfl⟩) ⟨fun a U g mk q => ⟨q.1, q.2.1, q.2.2.1, LY.moved (u := U) (U := U.calling g mk a) (Vm.Alike.refl U.vm) q.2.2.2⟩, va_recv hK hP (ci := 9) (q0 := 2080) rfl (wo_at (by decide) hO), fun U hU hW => ⟨rfl, by rw [hU]; exact fun q h => hA q (Nat.le_trans hS.1 h), by rw [hU]; exact hP, LY.moved hW.alike hL⟩⟩ rfl rfl hl.1 rfl (lv_room (Nat.le_of_ble_eq_true rfl)) dX6_makePower_17 ⟨(Nat.le_of_ble_eq_true rfl), (Nat.le_of_ble_eq_true rfl)⟩) hS (fun q _ h => h) (fun q h => h) (fun r_21 u8 t8 H1 locs ht8 hvm8 hw_22 hB hz1 hk1 hS => ?_)
      obtain ⟨g_23, rfl⟩ : ∃ z, z = u8 := ⟨_, rfl⟩
      try dsimp only at hw_22 hB
      rw [ht8] at hB
      have hP := hB
      generalize H1 = H at hP hS ⊢
      obtain ⟨fr_24, hK⟩ := hw_22
      refine W.widen (k := 0) (n := 0) (by omega) (by omega) ?_
      exact W.iret (v := r_21) hx hb hr (fun t9 ht9 hW9 => ⟨⟨r_21, g_23, rfl, ⟨(fun (k : Nat) (hk : (14 ≤ k ∧ k < 76) ∨ (876 ≤ k ∧ k < 2080) ∨ (2081 ≤ k ∧ k < 2117)) => (fr_24 k (by omega)).trans (rfl)), by unfold powL; rw [if_pos (show e9 = 0 by omega)]; exact hK⟩, by show va_P (dC, dI) vwCl _ t9.heap; rw [ht9]; exact hP⟩, hS.F ht9⟩) hS.2.2 dX6_makePower_20
  · have c_2 := (nI_eq (a := e9) (b := 1) (by omega) (by decide)).mp c_2
    refine lv_iload_n hx hb dX6_makePower_9 rfl (lv_at hl 1 rfl) ?_
    refine W.widen (k := 0) (n := 0) (by omega) (by omega) ?_
    exact W.iret (v := nI x1) hx hb hr (fun t9 ht9 hW9 => ⟨⟨nI x1, g, rfl, ⟨(fun (k : Nat) (hk : (14 ≤ k ∧ k < 76) ∨ (876 ≤ k ∧ k < 2080) ∨ (2081 ≤ k ∧ k < 2117)) => rfl), CMK.old (i := x1) (by unfold powL; rw [if_neg (show ¬ e9 = 0 by omega), if_pos (show e9 = 1 by omega)]) ix hC⟩, by show va_P (dC, dI) vwCl _ t9.heap; rw [ht9]; exact hP⟩, hS.F ht9⟩) hS.2.2 dX6_makePower_10
