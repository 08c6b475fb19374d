def wd_V6_keepNumber : List Cond := .code yX6_keepNumber cX6_keepNumber 6 (some .int) :: (([.fieldLink RX6 30 "GradientDesk$Shelf" "work" "LGradientDesk$Fraction;", .fieldLink RX6 112 "GradientDesk$Fraction" "top" "LGradientDesk$Whole;", .methodLink RX6 125 yX8_bitLength, .instanceMethod yX8_bitLength, .selects RX8 yX8_bitLength yX8_bitLength, .initialized RX8, .methodLink RX6 85 Lib.Math.max.name, .static Lib.Math.max.name, .initialized "java/lang/Math", .code Lib.Math.max.name Lib.Math.max.code 2 (some .int), .fieldLink RX6 122 "GradientDesk$Fraction" "bottom" "LGradientDesk$Whole;", .methodLink RX6 134 yX8_isOne, .instanceMethod yX8_isOne, .selects RX8 yX8_isOne yX8_isOne, .fieldLink RX6 135 "GradientDesk$Shelf" "count" "I", .methodLink RX6 142 yX6_lay, .instanceMethod yX6_lay, .selects RX6 yX6_lay yX6_lay, .initialized RX6, .fieldLink RX6 11 "GradientDesk$Shelf" "parts" "[LGradientDesk$Part;", .fieldLink RX6 68 "GradientDesk$Part" "number" "LGradientDesk$Fraction;", .methodLink RX6 118 yX8_become, .instanceMethod yX8_become, .selects RX8 yX8_become yX8_become, .methodLink RX6 138 yX8_equalTo, .instanceMethod yX8_equalTo, .selects RX8 yX8_equalTo yX8_equalTo, .fieldLink RX6 64 "GradientDesk$Part" "sort" "I"] : List Cond) ++ (u_ws RX6 TX6 7 ++ (u_ws RX2 TX2 2 ++ (wd_V8_bitLength ++ (wd_V8_isOne ++ (wd_V6_lay ++ (u_ws RX3 TX3 7 ++ (wd_V8_become ++ (wd_V8_equalTo ++ (wd_X8_equalTo ++ ([])))))))))))
theorem gw_V6_keepNumber : wd_V6_keepNumber.all goodWord = true := k_allc rfl (k_all (by decide +kernel) (k_all (gu_X6) (k_all (gu_X2) (k_all (gw_V8_bitLength) (k_all (gw_V8_isOne) (k_all (gw_V6_lay) (k_all (gu_X3) (k_all (gw_V8_become) (k_all (gw_V8_equalTo) (k_all (gw_X8_equalTo) (rfl)))))))))))
set_option maxHeartbeats 4000000 in
set_option maxRecDepth 100000 in
theorem c_V6_keepNumber (l : Launch) (dC : Nat → ClassId) (dI : Nat → Nat → Nat) (A : Nat → Prop) (ad : Nat → Nat) (cA : Nat → ClassId) (g : Nat → va_E) (L : List PD) (p9 : Int) (q9 : Nat) (hC : CS ad cA g L) (w4 : WV ad cA g 4 p9) (w5 : WV ad cA g 5 ((q9 : Nat) : Int)) (hq0 : 0 < q9) : Met l yX6_keepNumber wd_V6_keepNumber ({ frames := 30, cells := 0, slots := 0, locals := 600 }) (va_Pc [.ref (ad 2080)] (PR NSc tyc dC dI A ad cA g)) (va_Qi (fun (r : Int32) => fun (u : Nat → va_E) => match u with | g2 => (∀ k, (14 ≤ k ∧ k < 76) ∨ (876 ≤ k ∧ k < 2080) ∨ (2081 ≤ k ∧ k < 2117) → g2 k = g k) ∧ CMK ad cA g2 (numL L p9 q9) r) (fun (u : Nat → va_E) (t : State) => va_P (dC, dI) vwCl (wo ad NSc u) t.heap) A) (0) (0) A := by
  refine Met.ofW (cc := cX6_keepNumber) (maxL := 6) (ret := (some .int)) (by decide) rfl ?_
  intro p e s m args below meth c s₁ B hml hv
  obtain ⟨rfl, hA, hP, hL⟩ := hv
  have hx := B.exec
  have hb := B.bytes
  have hr := B.returns
  have hts := atoms_spec (ws := wd_V6_keepNumber) B.pre
  have hown : s.vm.findClass RX6 = some m.cls := findClass_of_methodNamed B.named
  have hlocks := B.notSynchronized
  have hK := hL.1
  have hD : ∀ g, va_D A (wo ad NSc g) := fun g => wo_D hL.2.1 hL.2.2 g
  have hS : va_S A s.heap s.heap [] := va_S.rf
  have bk0 : ∀ w ∈ u_ws RX6 TX6 7, w ∈ wd_V6_keepNumber := fun _ h => List.mem_cons_of_mem _ (List.mem_append_right _ (List.mem_append_left _ h))
  have bk1 : ∀ w ∈ u_ws RX2 TX2 2, w ∈ wd_V6_keepNumber := fun _ h => List.mem_cons_of_mem _ (List.mem_append_right _ (List.mem_append_right _ (List.mem_append_left _ h)))
  have bk2 : ∀ w ∈ wd_V8_bitLength, w ∈ wd_V6_keepNumber := fun _ h => List.mem_cons_of_mem _ (List.mem_append_right _ (List.mem_append_right _ (List.mem_append_right _ (List.mem_append_left _ h))))
  have bk3 : ∀ w ∈ wd_V8_isOne, w ∈ wd_V6_keepNumber := fun _ h => List.mem_cons_of_mem _ (List.mem_append_right _ (List.mem_append_right _ (List.mem_append_right _ (List.mem_append_right _ (List.mem_append_left _ h)))))
  have bk4 : ∀ w ∈ wd_V6_lay, w ∈ wd_V6_keepNumber := fun _ h => List.mem_cons_of_mem _ (List.mem_append_right _ (List.mem_append_right _ (List.mem_append_right _ (List.mem_append_right _ (List.mem_append_right _ (List.mem_append_left _ h))))))
  have bk5 : ∀ w ∈ u_ws RX3 TX3 7, w ∈ wd_V6_keepNumber := fun _ h => List.mem_cons_of_mem _ (List.mem_append_right _ (List.mem_append_right _ (List.mem_append_right _ (List.mem_append_right _ (List.mem_append_right _ (List.mem_append_right _ (List.mem_append_left _ h)))))))
  have bk6 : ∀ w ∈ wd_V8_become, w ∈ wd_V6_keepNumber := fun _ h => List.mem_cons_of_mem _ (List.mem_append_right _ (List.mem_append_right _ (List.mem_append_right _ (List.mem_append_right _ (List.mem_append_right _ (List.mem_append_right _ (List.mem_append_right _ (List.mem_append_left _ h))))))))
  have bk7 : ∀ w ∈ wd_V8_equalTo, w ∈ wd_V6_keepNumber := fun _ h => List.mem_cons_of_mem _ (List.mem_append_right _ (List.mem_append_right _ (List.mem_append_right _ (List.mem_append_right _ (List.mem_append_right _ (List.mem_append_right _ (List.mem_append_right _ (List.mem_append_right _ (List.mem_append_left _ h)))))))))
  have bk8 : ∀ w ∈ wd_X8_equalTo, w ∈ wd_V6_keepNumber := fun _ h => List.mem_cons_of_mem _ (List.mem_append_right _ (List.mem_append_right _ (List.mem_append_right _ (List.mem_append_right _ (List.mem_append_right _ (List.mem_append_right _ (List.mem_append_right _ (List.mem_append_right _ (List.mem_append_right _ (List.mem_append_left _ h))))))))))
  have hl := lv_entry ([.ref (ad 2080)]) (n := 6) (Nat.le_of_ble_eq_true rfl)
  rw [lg_entry_eq]
  generalize (lg_sl ([.ref (ad 2080)]) ++ List.replicate (6 - (lg_sl ([.ref (ad 2080)])).length) Slot.unset).toArray = ls at hl ⊢
  have hl : lv_has ls 6 [(0, .ref (ad 2080))] := hl
  have hC0 := hC
  obtain ⟨hLn, hW, ⟨hAr, hWk, hPa, hFr⟩, hO, pt, hPt, hM⟩ := hC0
  unfold CSO at hO
  have hpb := hPt.2
  have f4 := bl_fit w4 (by decide)
  have f5 := bl_fit w5 (by decide)
  rw [Int.natAbs_natCast] at f5
  refine lv_aload_n hx hb dX6_keepNumber_0 rfl (lv_at hl 0 rfl) ?_
  refine m_get (D := (dC, dI)) (v := .ref (ad 2107)) (C := RX6) (T := TX6) (N := 7) hx hb hts bk0 hown hK hP 2080 (by decide) hO rfl 5 (by decide) (hts (.fieldLink RX6 30 "GradientDesk$Shelf" "work" "LGradientDesk$Fraction;") (List.mem_of_getElem? (i := 1) rfl)) (fun _ h9 => h9) rfl dX6_keepNumber_1 ?_
  refine m_get (D := (dC, dI)) (v := .ref (ad (2 * 4))) (C := RX2) (T := TX2) (N := 2) hx hb hts bk1 hown hK hP 2107 (by decide) hWk rfl 0 (by decide) (hts (.fieldLink RX6 112 "GradientDesk$Fraction" "top" "LGradientDesk$Whole;") (List.mem_of_getElem? (i := 2) rfl)) (fun _ h9 => h9) rfl dX6_keepNumber_4 ?_
  obtain ⟨mw_1, sw_1, nw_1, fw_1, aw_1, bw_1, cw_1, dw_1, ew_1⟩ := hW 4 (by omega)
  have qw_1 : mw_1 ≤ 4096 := by rw [dw_1]; exact rmc_le _
  refine va_calli (va_runV (As := []) (rest := []) ⟨hx, hb, hml, hown, hts⟩ (c_V8_bitLength l dC dI A ad cA g 4 p9 hW (by decide) w4) (cwV 0 hts (goodIn_app (goodIn_r [Cond.methodLink RX6 125 yX8_bitLength, Cond.instanceMethod yX8_bitLength, Cond.selects RX8 yX8_bitLength yX8_bitLength, Cond.initialized RX8] [3, 4, 5, 6] rfl rfl) (goodIn_sub (fun w9 h9 => bk2 w9 h9) gw_V8_bitLength)) rfl rfl rfl (by decide +kernel) ⟨Nat.le_of_ble_eq_true rfl, Nat.le_of_ble_eq_true rfl⟩) ⟨fun a U g mk q => ⟨q.1, q.2.1, q.2.2.1, LY.moved (u := U) (U := U.calling g mk a) (Vm.Alike.refl U.vm) q.2.2.2⟩, va_recv hK hP (ci := 11) (q0 := (2 * 4)) rfl (wo_at (ns_w (by omega)) aw_1), fun U hU hW => ⟨rfl, by rw [hU]; exact fun q h => hA q (Nat.le_trans hS.1 h), by rw [hU]; exact hP, LY.moved hW.alike hL⟩⟩ rfl rfl hl.1 rfl (lv_room (Nat.le_of_ble_eq_true rfl)) dX6_keepNumber_7 ⟨(Nat.le_of_ble_eq_true rfl), (Nat.le_of_ble_eq_true rfl)⟩) hS (fun q _ h => h) (fun q h => h) (fun r_2 u8 t8 H1 locs ht8 hvm8 hw_3 hB hz1 hk1 hS => ?_)
  obtain ⟨⟩ := u8
  try dsimp only at hw_3 hB
  rw [ht8] at hB
  have hP := hB
  generalize H1 = H at hP hS ⊢
  obtain rfl := hw_3
  obtain ⟨bp, hbp⟩ : ∃ z, z = bl p9.natAbs := ⟨_, rfl⟩
  rw [← hbp]
  rw [← hbp] at f4
  refine lv_iconst (v := nI 1) hx hb dX6_keepNumber_10 (by decide +kernel) ?_
  refine va_mmax hx hb (by rw [hml]; exact hl.1.symm) hown (hts (.methodLink RX6 85 Lib.Math.max.name) (List.mem_of_getElem? (i := 7) rfl)) (hts (.static Lib.Math.max.name) (List.mem_of_getElem? (i := 8) rfl)) (hts (.initialized "java/lang/Math") (List.mem_of_getElem? (i := 9) rfl)) (hts (.code Lib.Math.max.name Lib.Math.max.code 2 (some .int)) (List.mem_of_getElem? (i := 10) rfl)) (Nat.le_of_ble_eq_true rfl) (Nat.le_of_ble_eq_true rfl) (Nat.le_of_ble_eq_true rfl) (Nat.le_of_ble_eq_true rfl) dX6_keepNumber_11 ?_
  refine lv_topi (fun x_5 e_6 => ?_)
  obtain ⟨q_4, hq_4, eq_4⟩ : ∃ z : Nat, z = max bp 1 ∧ x_5 = nI z := ⟨_, rfl, by rw [e_6]; exact k_max (by omega) (by omega)⟩
  subst eq_4
  obtain ⟨sn, hsn⟩ : ∃ z : Nat, z = q_4 := ⟨_, rfl⟩
  refine lv_topi (fun x_7 e_8 => ?_)
  obtain rfl : x_7 = nI sn := e_8.trans (congrArg nI hsn.symm)
  have hs4 : ((sn : Nat) : Int) = (((if bl p9.natAbs = 0 then 1 else bl p9.natAbs : Nat)) : Int) := by rw [hsn, ← hbp]; exact kn_sn hq_4
  have hs4b : bp ≤ sn := by omega
  refine lv_istore_n (lv' := [(1, .int (nI sn)), (0, .ref (ad 2080))]) hx hb dX6_keepNumber_14 rfl hl (by decide) rfl (fun ls hl => ?_)
  refine lv_aload_n hx hb dX6_keepNumber_15 rfl (lv_at hl 1 rfl) ?_
  refine m_get (D := (dC, dI)) (v := .ref (ad 2107)) (C := RX6) (T := TX6) (N := 7) hx hb hts bk0 hown hK hP 2080 (by decide) hO rfl 5 (by decide) (hts (.fieldLink RX6 30 "GradientDesk$Shelf" "work" "LGradientDesk$Fraction;") (List.mem_of_getElem? (i := 1) rfl)) (fun _ h9 => h9) rfl dX6_keepNumber_16 ?_
  refine m_get (D := (dC, dI)) (v := .ref (ad (2 * 5))) (C := RX2) (T := TX2) (N := 2) hx hb hts bk1 hown hK hP 2107 (by decide) hWk rfl 1 (by decide) (hts (.fieldLink RX6 122 "GradientDesk$Fraction" "bottom" "LGradientDesk$Whole;") (List.mem_of_getElem? (i := 11) rfl)) (fun _ h9 => h9) rfl dX6_keepNumber_19 ?_
  obtain ⟨mw_9, sw_9, nw_9, fw_9, aw_9, bw_9, cw_9, dw_9, ew_9⟩ := hW 5 (by omega)
  have qw_9 : mw_9 ≤ 4096 := by rw [dw_9]; exact rmc_le _
  refine va_calli (va_runV (As := []) (rest := []) ⟨hx, hb, hml, hown, hts⟩ (c_V8_isOne l dC dI A ad cA g 5 ((q9 : Nat) : Int) hW (by decide) w5) (cwV 0 hts (goodIn_app (goodIn_r [Cond.methodLink RX6 134 yX8_isOne, Cond.instanceMethod yX8_isOne, Cond.selects RX8 yX8_isOne yX8_isOne, Cond.initialized RX8] [12, 13, 14, 6] rfl rfl) (goodIn_sub (fun w9 h9 => bk3 w9 h9) gw_V8_isOne)) rfl rfl rfl (by decide +kernel) ⟨Nat.le_of_ble_eq_true rfl, Nat.le_of_ble_eq_true rfl⟩) ⟨fun a U g mk q => ⟨q.1, q.2.1, q.2.2.1, LY.moved (u := U) (U := U.calling g mk a) (Vm.Alike.refl U.vm) q.2.2.2⟩, va_recv hK hP (ci := 11) (q0 := (2 * 5)) rfl (wo_at (ns_w (by omega)) aw_9), fun U hU hW => ⟨rfl, by rw [hU]; exact fun q h => hA q (Nat.le_trans hS.1 h), by rw [hU]; exact hP, LY.moved hW.alike hL⟩⟩ rfl rfl hl.1 rfl (lv_room (Nat.le_of_ble_eq_true rfl)) dX6_keepNumber_22 ⟨(Nat.le_of_ble_eq_true rfl), (Nat.le_of_ble_eq_true rfl)⟩) hS (fun q _ h => h) (fun q h => h) (fun r_10 u8 t8 H1 locs ht8 hvm8 hw_11 hB hz1 hk1 hS => ?_)
  obtain ⟨⟩ := u8
  try dsimp only at hw_11 hB
  rw [ht8] at hB
  have hP := hB
  generalize H1 = H at hP hS ⊢
  rcases hw_11 with ⟨rfl, hq1⟩ | ⟨rfl, hq1⟩
  · skip
    refine lv_if_eq (tgt := 32) hx hb dX6_keepNumber_25 (by decide) (fun c_12 => absurd c_12 (by decide)) (fun c_12 => ?_)
    refine lv_iconst (v := nI 0) hx hb dX6_keepNumber_28 (by decide +kernel) ?_
    refine lv_goto (tgt := 42) hx hb dX6_keepNumber_29 (by decide) ?_
    have hb1 := bl_is1 hq0
    obtain ⟨sd, hsd⟩ : ∃ z : Nat, z = 0 := ⟨_, rfl⟩
    refine lv_topi (fun x_13 e_14 => ?_)
    obtain rfl : x_13 = nI sd := e_14.trans (congrArg nI hsd.symm)
    have hs5 : (if bl q9 = 1 then 0 else bl q9) = sd := by rw [if_pos (hb1.mpr (by omega))]; omega
    have hs5b : bl q9 ≤ sd + 1 := by have h9 := hb1.mpr (by omega); omega
    obtain ⟨dn, hdn⟩ : ∃ z : PD, z = (0, -1, -1, 0, if bl p9.natAbs = 0 then 1 else bl p9.natAbs, if bl q9 = 1 then 0 else bl q9, p9, q9) := ⟨_, rfl⟩
    have hnl : numL L p9 q9 = keepL L dn := by rw [hdn]; rfl
    have e0 : dn.1 = 0 := by rw [hdn]
    have e1 : dn.2.1 = -1 := by rw [hdn]
    have e2 : dn.2.2.1 = -1 := by rw [hdn]
    have e3 : dn.2.2.2.1 = 0 := by rw [hdn]
    have e4 : dn.2.2.2.2.1 = sn := by rw [hdn]; show (if bl p9.natAbs = 0 then 1 else bl p9.natAbs) = sn; omega
    have e5 : dn.2.2.2.2.2.1 = sd := by rw [hdn]; exact hs5
    have e6 : dn.2.2.2.2.2.2.1 = p9 := by rw [hdn]
    have e7 : dn.2.2.2.2.2.2.2 = q9 := by rw [hdn]
    refine lv_istore_n (lv' := [(2, .int (nI sd)), (1, .int (nI sn)), (0, .ref (ad 2080))]) hx hb dX6_keepNumber_42 rfl hl (by decide) rfl (fun ls hl => ?_)
    refine lv_iload_n hx hb dX6_keepNumber_43 rfl (lv_at hl 1 rfl) ?_
    refine lv_sipush (v := nI 400) hx hb dX6_keepNumber_44 (by decide +kernel) ?_
    refine lv_icmp_gt (tgt := 57) hx hb dX6_keepNumber_47 (by decide) (fun c_15 => ?_) (fun c_15 => ?_)
    · have c_15 := (nI_ltI (a := 400) (b := sn) (by decide) (by omega)).mp c_15
      refine lv_bipush (v := -3) hx hb dX6_keepNumber_57 (by decide +kernel) ?_
      refine W.widen (k := 0) (n := 0) (by omega) (by omega) ?_
      exact W.iret (v := -3) hx hb hr (fun t9 ht9 hW9 => ⟨⟨-3, g, rfl, ⟨(fun (k : Nat) (hk : (14 ≤ k ∧ k < 76) ∨ (876 ≤ k ∧ k < 2080) ∨ (2081 ≤ k ∧ k < 2117)) => rfl), by rw [hnl]; exact CMK.bad (n := -3) (by decide) (keepL_big (by omega)) (Or.inl rfl) hC⟩, by show va_P (dC, dI) vwCl _ t9.heap; rw [ht9]; exact hP⟩, hS.F ht9⟩) hS.2.2 dX6_keepNumber_59
    · have c_15 := mt (nI_ltI (a := 400) (b := sn) (by decide) (by omega)).mpr c_15
      refine lv_iload_n hx hb dX6_keepNumber_50 rfl (lv_at hl 0 rfl) ?_
      refine lv_sipush (v := nI 400) hx hb dX6_keepNumber_51 (by decide +kernel) ?_
      refine lv_icmp_le (tgt := 60) hx hb dX6_keepNumber_54 (by decide) (fun c_16 => ?_) (fun c_16 => ?_)
      · have c_16 := (nI_leI (a := sd) (b := 400) (by omega) (by decide)).mp c_16
        refine lv_iconst (v := nI 0) hx hb dX6_keepNumber_60 (by decide +kernel) ?_
        refine lv_istore_n (lv' := [(3, .int (nI 0)), (2, .int (nI sd)), (1, .int (nI sn)), (0, .ref (ad 2080))]) hx hb dX6_keepNumber_61 rfl hl (by decide) rfl (fun ls hl => ?_)
        have loop_17 : ∀ (k9 : Nat) (i : Nat), 300 - i < k9 → (i ≤ L.length) → (∀ j, j < i → pky (gd L j) dn = false) → ∀ (H : Heap) (locs : List Loc) (ls : Array Slot), va_P (dC, dI) vwCl (wo ad NSc g) H → va_S A s.heap H locs → lv_has ls 6 [(0, .ref (ad 2080)), (1, .int (nI sn)), (2, .int (nI sd)), (3, .int (nI i))] → W p l e (headSpec wd_V6_keepNumber ({ frames := 30, cells := 0, slots := 0, locals := 600 })).room s m ([.ref (ad 2080)] : List Value).toArray below meth c H locs (0) (0) (MQ below (va_Qi (fun (r : Int32) => fun (u : Nat → va_E) => match u with | g2 => (∀ k, (14 ≤ k ∧ k < 76) ∨ (876 ≤ k ∧ k < 2080) ∨ (2081 ≤ k ∧ k < 2117) → g2 k = g k) ∧ CMK ad cA g2 (numL L p9 q9) r) (fun (u : Nat → va_E) (t : State) => va_P (dC, dI) vwCl (wo ad NSc u) t.heap) A) ([.ref (ad 2080)] : List Value).toArray s (0) (0) A) (F0 m 62 ls []) := by
          intro k9
          induction k9 with
          | zero => intro i h9; exact absurd h9 (Nat.not_lt_zero _)
          | succ k9 ih_18 =>
            intro i h9 hi hno H locs ls hP hS hl
            refine lv_iload_n hx hb dX6_keepNumber_62 rfl (lv_at hl 3 rfl) ?_
            refine lv_aload_n hx hb dX6_keepNumber_63 rfl (lv_at hl 0 rfl) ?_
            refine m_get (D := (dC, dI)) (v := .int (nI L.length)) (C := RX6) (T := TX6) (N := 7) hx hb hts bk0 hown hK hP 2080 (by decide) hO rfl 2 (by decide) (hts (.fieldLink RX6 135 "GradientDesk$Shelf" "count" "I") (List.mem_of_getElem? (i := 15) rfl)) (fun _ h9 => h9) rfl dX6_keepNumber_64 ?_
            refine lv_icmp_ge (tgt := 149) hx hb dX6_keepNumber_67 (by decide) (fun c_21 => ?_) (fun c_21 => ?_)
            · have c_21 := (nI_leI (a := L.length) (b := i) (by omega) (by omega)).mp c_21
              refine lv_aload_n hx hb dX6_keepNumber_149 rfl (lv_at hl 0 rfl) ?_
              refine lv_iconst (v := nI 0) hx hb dX6_keepNumber_150 (by decide +kernel) ?_
              refine lv_iconst (v := -1) hx hb dX6_keepNumber_151 (by decide +kernel) ?_
              refine lv_iconst (v := -1) hx hb dX6_keepNumber_152 (by decide +kernel) ?_
              refine lv_iconst (v := nI 0) hx hb dX6_keepNumber_153 (by decide +kernel) ?_
              refine lv_iload_n hx hb dX6_keepNumber_154 rfl (lv_at hl 1 rfl) ?_
              refine lv_iload_n hx hb dX6_keepNumber_155 rfl (lv_at hl 2 rfl) ?_
              refine va_calli (va_runV (As := [.int (nI 0), .int (-1), .int (-1), .int (nI 0), .int (nI sn), .int (nI sd)]) (rest := []) ⟨hx, hb, hml, hown, hts⟩ (c_V6_lay l dC dI A ad cA g L (nI 0) (-1) (-1) (nI 0) (nI sn) (nI sd) hC) (cwV 6 hts (goodIn_app (goodIn_r [Cond.methodLink RX6 142 yX6_lay, Cond.instanceMethod yX6_lay, Cond.selects RX6 yX6_lay yX6_lay, Cond.initialized RX6] [16, 17, 18, 19] rfl rfl) (goodIn_sub (fun w9 h9 => bk4 w9 h9) gw_V6_lay)) rfl rfl rfl (by decide +kernel) ⟨Nat.le_of_ble_eq_true rfl, Nat.le_of_ble_eq_true rfl⟩) ⟨fun a U g mk q => ⟨q.1, q.2.1, q.2.2.1, LY.moved (u := U) (U := U.calling g mk a) (Vm.Alike.refl U.vm) q.2.2.2⟩, va_recv hK hP (ci := 9) (q0 := 2080) rfl (wo_at (by decide) hO), fun U hU hW => ⟨rfl, by rw [hU]; exact fun q h => hA q (Nat.le_trans hS.1 h), by rw [hU]; exact hP, LY.moved hW.alike hL⟩⟩ rfl rfl hl.1 rfl (lv_room (Nat.le_of_ble_eq_true rfl)) dX6_keepNumber_156 ⟨(Nat.le_of_ble_eq_true rfl), (Nat.le_of_ble_eq_true rfl)⟩) hS (fun q _ h => h) (fun q h => h) (fun r_22 u8 t8 H1 locs ht8 hvm8 hw_23 hB hz1 hk1 hS => ?_)
              obtain ⟨g_24, rfl⟩ : ∃ z, z = u8 := ⟨_, rfl⟩
              try dsimp only at hw_23 hB
              rw [ht8] at hB
              have hP := hB
              generalize H1 = H at hP hS ⊢
              obtain ⟨fr_25, hly⟩ := hw_23
              rcases hly with ⟨hl9, rfl, hg9⟩ | ⟨hl9, rfl, hO9, hc9⟩
              · skip
                refine lv_istore_n (lv' := [(3, .int (iI (-4))), (0, .ref (ad 2080)), (1, .int (nI sn)), (2, .int (nI sd))]) hx hb dX6_keepNumber_159 rfl hl (by decide) rfl (fun ls hl => ?_)
                refine lv_iload_n hx hb dX6_keepNumber_160 rfl (lv_at hl 0 rfl) ?_
                refine lv_if_lt (tgt := 208) hx hb dX6_keepNumber_161 (by decide) (fun c_26 => ?_) (fun c_26 => absurd (mt (k_iLT (a := -4) (b := 0) rfl (show nI 0 = iI 0 from by decide) (by omega) (by omega)).mpr c_26) (by omega))
                refine lv_iload_n hx hb dX6_keepNumber_208 rfl (lv_at hl 0 rfl) ?_
                refine W.widen (k := 0) (n := 0) (by omega) (by omega) ?_
                exact W.iret (v := iI (-4)) hx hb hr (fun t9 ht9 hW9 => ⟨⟨iI (-4), g_24, rfl, ⟨(fun (k : Nat) (hk : (14 ≤ k ∧ k < 76) ∨ (876 ≤ k ∧ k < 2080) ∨ (2081 ≤ k ∧ k < 2117)) => (fr_25 k (by omega)).trans (rfl)), by rw [hnl, hg9]; exact CMK.bad rfl (keepL_full (by omega) hl9 (fun j hj => hno j (by omega))) (Or.inr rfl) hC⟩, by show va_P (dC, dI) vwCl _ t9.heap; rw [ht9]; exact hP⟩, hS.F ht9⟩) hS.2.2 dX6_keepNumber_209
              · skip
                have hO8 := hO9
                unfold CSO at hO8
                refine lv_istore_n (lv' := [(3, .int (nI L.length)), (0, .ref (ad 2080)), (1, .int (nI sn)), (2, .int (nI sd))]) hx hb dX6_keepNumber_159 rfl hl (by decide) rfl (fun ls hl => ?_)
                refine lv_iload_n hx hb dX6_keepNumber_160 rfl (lv_at hl 0 rfl) ?_
                refine lv_if_lt (tgt := 208) hx hb dX6_keepNumber_161 (by decide) (fun c_27 => absurd ((nI_ltI (a := L.length) (b := 0) (by omega) (by decide)).mp c_27) (by omega)) (fun c_27 => ?_)
                refine lv_aload_n hx hb dX6_keepNumber_164 rfl (lv_at hl 1 rfl) ?_
                refine m_get (D := (dC, dI)) (v := .ref (ad 2081)) (C := RX6) (T := TX6) (N := 7) hx hb hts bk0 hown hK hP 2080 (by decide) hO8 rfl 0 (by decide) (hts (.fieldLink RX6 11 "GradientDesk$Shelf" "parts" "[LGradientDesk$Part;") (List.mem_of_getElem? (i := 20) rfl)) (fun _ h9 => h9) rfl dX6_keepNumber_165 ?_
                refine lv_iload_n hx hb dX6_keepNumber_168 rfl (lv_at hl 0 rfl) ?_
                have f_28 : g_24 2081 = .inl (cA 2081, 200, .inr (.inr (.inr (.inr (fun j => some (ad (2117 + 2 * j))))))) := (fr_25 2081 (by omega)).trans hPa
                refine m_aald hx hb hK hP 2081 (by decide) rfl f_28 (i := L.length) (v := ad (2117 + 2 * L.length)) (by omega) (by decide) rfl dX6_keepNumber_169 ?_
                refine m_get (D := (dC, dI)) (v := .ref (ad (2118 + 2 * L.length))) (C := RX3) (T := TX3) (N := 7) hx hb hts bk5 hown hK hP (2117 + 2 * L.length) (ns_p (by omega)) hc9 rfl 0 (by decide) (hts (.fieldLink RX6 68 "GradientDesk$Part" "number" "LGradientDesk$Fraction;") (List.mem_of_getElem? (i := 21) rfl)) (fun _ h9 => h9) rfl dX6_keepNumber_170 ?_
                have hq_29 := hFr L.length (by omega)
                have f_30 : g_24 (2118 + 2 * L.length) = .inr (5, [.ref (ad (2 * (38 + 2 * L.length))), .ref (ad (2 * (39 + 2 * L.length)))]) := (fr_25 (2118 + 2 * L.length) (by omega)).trans hq_29
                refine m_get (D := (dC, dI)) (v := .ref (ad (2 * (38 + 2 * L.length)))) (C := RX2) (T := TX2) (N := 2) hx hb hts bk1 hown hK hP (2118 + 2 * L.length) (ns_q (by omega)) f_30 rfl 0 (by decide) (hts (.fieldLink RX6 112 "GradientDesk$Fraction" "top" "LGradientDesk$Whole;") (List.mem_of_getElem? (i := 2) rfl)) (fun _ h9 => h9) rfl dX6_keepNumber_173 ?_
                refine lv_aload_n hx hb dX6_keepNumber_176 rfl (lv_at hl 1 rfl) ?_
                refine m_get (D := (dC, dI)) (v := .ref (ad 2107)) (C := RX6) (T := TX6) (N := 7) hx hb hts bk0 hown hK hP 2080 (by decide) hO8 rfl 5 (by decide) (hts (.fieldLink RX6 30 "GradientDesk$Shelf" "work" "LGradientDesk$Fraction;") (List.mem_of_getElem? (i := 1) rfl)) (fun _ h9 => h9) rfl dX6_keepNumber_177 ?_
                have f_31 : g_24 2107 = .inr (5, [.ref (ad (2 * 4)), .ref (ad (2 * 5))]) := (fr_25 2107 (by omega)).trans hWk
                refine m_get (D := (dC, dI)) (v := .ref (ad (2 * 4))) (C := RX2) (T := TX2) (N := 2) hx hb hts bk1 hown hK hP 2107 (by decide) f_31 rfl 0 (by decide) (hts (.fieldLink RX6 112 "GradientDesk$Fraction" "top" "LGradientDesk$Whole;") (List.mem_of_getElem? (i := 2) rfl)) (fun _ h9 => h9) rfl dX6_keepNumber_180 ?_
                have hAW_33 : AW ad cA g_24 := AW.keep hW (fun (k : Nat) (hk : k < 2076) => (fr_25 k (by omega)).trans (rfl))
                obtain ⟨mw_32, sw_32, nw_32, fw_32, aw_32, bw_32, cw_32, dw_32, ew_32⟩ := hAW_33 (38 + 2 * L.length) (by omega)
                have qw_32 : mw_32 ≤ 4096 := by rw [dw_32]; exact rmc_le _
                have hv_34 : WV ad cA g_24 4 p9 := WV.same w4 ((fun (k : Nat) (hk : k = 2 * 4 ∨ k = 2 * 4 + 1) => (fr_25 k (by omega)).trans (rfl)) _ (Or.inl rfl)) ((fun (k : Nat) (hk : k = 2 * 4 ∨ k = 2 * 4 + 1) => (fr_25 k (by omega)).trans (rfl)) _ (Or.inr rfl))
                refine va_callv (va_runV (As := [.ref (ad (2 * 4))]) (rest := []) ⟨hx, hb, hml, hown, hts⟩ (c_V8_become l dC dI A ad cA g_24 (38 + 2 * L.length) 4 p9 hAW_33 (by omega) (by decide) hv_34 (by omega) (by rw [rmc_part (by omega) (by omega)]; exact fit13 (by omega))) (cwV 1 hts (goodIn_app (goodIn_r [Cond.methodLink RX6 118 yX8_become, Cond.instanceMethod yX8_become, Cond.selects RX8 yX8_become yX8_become, Cond.initialized RX8] [22, 23, 24, 6] rfl rfl) (goodIn_sub (fun w9 h9 => bk6 w9 h9) gw_V8_become)) rfl rfl rfl (by decide +kernel) ⟨Nat.le_of_ble_eq_true rfl, Nat.le_of_ble_eq_true rfl⟩) ⟨fun a U g mk q => ⟨q.1, q.2.1, q.2.2.1, LY.moved (u := U) (U := U.calling g mk a) (Vm.Alike.refl U.vm) q.2.2.2⟩, va_recv hK hP (ci := 11) (q0 := (2 * (38 + 2 * L.length))) rfl (wo_at (ns_w (by omega)) aw_32), fun U hU hW => ⟨rfl, by rw [hU]; exact fun q h => hA q (Nat.le_trans hS.1 h), by rw [hU]; exact hP, LY.moved hW.alike hL⟩⟩ rfl rfl hl.1 rfl (lv_room (Nat.le_of_ble_eq_true rfl)) dX6_keepNumber_183 ⟨(Nat.le_of_ble_eq_true rfl), (Nat.le_of_ble_eq_true rfl)⟩) hS (fun q _ h => h) (fun q h => h) (fun u8 t8 H1 locs ht8 hvm8 hw_37 hB hz1 hk1 hS => ?_)
                obtain ⟨g_38, rfl⟩ : ∃ z, z = u8 := ⟨_, rfl⟩
                try dsimp only at hw_37 hB
                rw [ht8] at hB
                have hP := hB
                generalize H1 = H at hP hS ⊢
                obtain ⟨fr_39, hAW_35, hv_36⟩ := hw_37
                refine lv_aload_n hx hb dX6_keepNumber_186 rfl (lv_at hl 1 rfl) ?_
                have f_40 : g_38 2080 = .inr (9, [.ref (ad 2081), .ref (ad 2082), .int (nI (L.length + 1)), .ref (ad 2083), .ref (ad 2077), .ref (ad 2107), .ref (ad (2 * 6))]) := (fr_39 2080 (by omega)).trans hO8
                refine m_get (D := (dC, dI)) (v := .ref (ad 2081)) (C := RX6) (T := TX6) (N := 7) hx hb hts bk0 hown hK hP 2080 (by decide) f_40 rfl 0 (by decide) (hts (.fieldLink RX6 11 "GradientDesk$Shelf" "parts" "[LGradientDesk$Part;") (List.mem_of_getElem? (i := 20) rfl)) (fun _ h9 => h9) rfl dX6_keepNumber_187 ?_
                refine lv_iload_n hx hb dX6_keepNumber_190 rfl (lv_at hl 0 rfl) ?_
                have f_41 : g_38 2081 = .inl (cA 2081, 200, .inr (.inr (.inr (.inr (fun j => some (ad (2117 + 2 * j))))))) := (fr_39 2081 (by omega)).trans f_28
                refine m_aald hx hb hK hP 2081 (by decide) rfl f_41 (i := L.length) (v := ad (2117 + 2 * L.length)) (by omega) (by decide) rfl dX6_keepNumber_191 ?_
                have f_42 : g_38 (2117 + 2 * L.length) = .inr (6, [.ref (ad (2118 + 2 * L.length)), .int (nI 0), .int (-1), .int (-1), .int (nI 0), .int (nI sn), .int (nI sd)]) := (fr_39 (2117 + 2 * L.length) (by omega)).trans hc9
                refine m_get (D := (dC, dI)) (v := .ref (ad (2118 + 2 * L.length))) (C := RX3) (T := TX3) (N := 7) hx hb hts bk5 hown hK hP (2117 + 2 * L.length) (ns_p (by omega)) f_42 rfl 0 (by decide) (hts (.fieldLink RX6 68 "GradientDesk$Part" "number" "LGradientDesk$Fraction;") (List.mem_of_getElem? (i := 21) rfl)) (fun _ h9 => h9) rfl dX6_keepNumber_192 ?_
                have f_43 : g_38 (2118 + 2 * L.length) = .inr (5, [.ref (ad (2 * (38 + 2 * L.length))), .ref (ad (2 * (39 + 2 * L.length)))]) := (fr_39 (2118 + 2 * L.length) (by omega)).trans f_30
                refine m_get (D := (dC, dI)) (v := .ref (ad (2 * (39 + 2 * L.length)))) (C := RX2) (T := TX2) (N := 2) hx hb hts bk1 hown hK hP (2118 + 2 * L.length) (ns_q (by omega)) f_43 rfl 1 (by decide) (hts (.fieldLink RX6 122 "GradientDesk$Fraction" "bottom" "LGradientDesk$Whole;") (List.mem_of_getElem? (i := 11) rfl)) (fun _ h9 => h9) rfl dX6_keepNumber_195 ?_
                refine lv_aload_n hx hb dX6_keepNumber_198 rfl (lv_at hl 1 rfl) ?_
                refine m_get (D := (dC, dI)) (v := .ref (ad 2107)) (C := RX6) (T := TX6) (N := 7) hx hb hts bk0 hown hK hP 2080 (by decide) f_40 rfl 5 (by decide) (hts (.fieldLink RX6 30 "GradientDesk$Shelf" "work" "LGradientDesk$Fraction;") (List.mem_of_getElem? (i := 1) rfl)) (fun _ h9 => h9) rfl dX6_keepNumber_199 ?_
                have f_44 : g_38 2107 = .inr (5, [.ref (ad (2 * 4)), .ref (ad (2 * 5))]) := (fr_39 2107 (by omega)).trans f_31
                refine m_get (D := (dC, dI)) (v := .ref (ad (2 * 5))) (C := RX2) (T := TX2) (N := 2) hx hb hts bk1 hown hK hP 2107 (by decide) f_44 rfl 1 (by decide) (hts (.fieldLink RX6 122 "GradientDesk$Fraction" "bottom" "LGradientDesk$Whole;") (List.mem_of_getElem? (i := 11) rfl)) (fun _ h9 => h9) rfl dX6_keepNumber_202 ?_
                obtain ⟨mw_45, sw_45, nw_45, fw_45, aw_45, bw_45, cw_45, dw_45, ew_45⟩ := hAW_35 (39 + 2 * L.length) (by omega)
                have qw_45 : mw_45 ≤ 4096 := by rw [dw_45]; exact rmc_le _
                have hv_46 : WV ad cA g_38 5 ((q9 : Nat) : Int) := WV.same w5 ((fun (k : Nat) (hk : k = 2 * 5 ∨ k = 2 * 5 + 1) => (fr_39 k (by omega)).trans ((fr_25 k (by omega)).trans (rfl))) _ (Or.inl rfl)) ((fun (k : Nat) (hk : k = 2 * 5 ∨ k = 2 * 5 + 1) => (fr_39 k (by omega)).trans ((fr_25 k (by omega)).trans (rfl))) _ (Or.inr rfl))
                refine va_callv (va_runV (As := [.ref (ad (2 * 5))]) (rest := []) ⟨hx, hb, hml, hown, hts⟩ (c_V8_become l dC dI A ad cA g_38 (39 + 2 * L.length) 5 ((q9 : Nat) : Int) hAW_35 (by omega) (by decide) hv_46 (by omega) (by rw [rmc_part (by omega) (by omega), Int.natAbs_natCast]; exact fit13 (by omega))) (cwV 1 hts (goodIn_app (goodIn_r [Cond.methodLink RX6 118 yX8_become, Cond.instanceMethod yX8_become, Cond.selects RX8 yX8_become yX8_become, Cond.initialized RX8] [22, 23, 24, 6] rfl rfl) (goodIn_sub (fun w9 h9 => bk6 w9 h9) gw_V8_become)) rfl rfl rfl (by decide +kernel) ⟨Nat.le_of_ble_eq_true rfl, Nat.le_of_ble_eq_true rfl⟩) ⟨fun a U g mk q => ⟨q.1, q.2.1, q.2.2.1, LY.moved (u := U) (U := U.calling g mk a) (Vm.Alike.refl U.vm) q.2.2.2⟩, va_recv hK hP (ci := 11) (q0 := (2 * (39 + 2 * L.length))) rfl (wo_at (ns_w (by omega)) aw_45), fun U hU hW => ⟨rfl, by rw [hU]; exact fun q h => hA q (Nat.le_trans hS.1 h), by rw [hU]; exact hP, LY.moved hW.alike hL⟩⟩ rfl rfl hl.1 rfl (lv_room (Nat.le_of_ble_eq_true rfl)) dX6_keepNumber_205 ⟨(Nat.le_of_ble_eq_true rfl), (Nat.le_of_ble_eq_true rfl)⟩) hS (fun q _ h => h) (fun q h => h) (fun u8 t8 H1 locs ht8 hvm8 hw_49 hB hz1 hk1 hS => ?_)
                obtain ⟨g_50, rfl⟩ : ∃ z, z = u8 := ⟨_, rfl⟩
                try dsimp only at hw_49 hB
                rw [ht8] at hB
                have hP := hB
                generalize H1 = H at hP hS ⊢
                obtain ⟨fr_51, hAW_47, hv_48⟩ := hw_49
                refine lv_iload_n hx hb dX6_keepNumber_208 rfl (lv_at hl 0 rfl) ?_
                have hv_52 : WV ad cA g_50 (38 + 2 * L.length) p9 := WV.same hv_36 ((fun (k : Nat) (hk : k = 2 * (38 + 2 * L.length) ∨ k = 2 * (38 + 2 * L.length) + 1) => (fr_51 k (by omega)).trans (rfl)) _ (Or.inl rfl)) ((fun (k : Nat) (hk : k = 2 * (38 + 2 * L.length) ∨ k = 2 * (38 + 2 * L.length) + 1) => (fr_51 k (by omega)).trans (rfl)) _ (Or.inr rfl))
                have f_53 : g_50 2080 = .inr (9, [.ref (ad 2081), .ref (ad 2082), .int (nI (L.length + 1)), .ref (ad 2083), .ref (ad 2077), .ref (ad 2107), .ref (ad (2 * 6))]) := (fr_51 2080 (by omega)).trans f_40
                have f_54 : g_50 (2117 + 2 * L.length) = .inr (6, [.ref (ad (2118 + 2 * L.length)), .int (nI 0), .int (-1), .int (-1), .int (nI 0), .int (nI sn), .int (nI sd)]) := (fr_51 (2117 + 2 * L.length) (by omega)).trans f_42
                have hcs : CS ad cA g_50 (L ++ [dn]) := CS.lay hC hl9 hAW_47 f_53 f_54 (by rw [e0]; exact nI_iI 0) (by rw [e1]; decide) (by rw [e2]; decide) (by rw [e3]; exact nI_iI 0) (by rw [e4]; exact nI_iI _) (by rw [e5]; exact nI_iI _) (by omega) (fun (k : Nat) (hk : (76 ≤ k ∧ k < 76 + 4 * L.length) ∨ k = 2077 ∨ k = 2107 ∨ k = 2081 ∨ (2117 ≤ k ∧ k < 2517 ∧ k ≠ 2117 + 2 * L.length)) => (fr_51 k (by omega)).trans ((fr_39 k (by omega)).trans ((fr_25 k (by omega)).trans (rfl)))) (fun _ => ⟨by rw [e6]; exact hv_52, by rw [e7]; exact hv_48, e1, e2⟩)
                refine W.widen (k := 0) (n := 0) (by omega) (by omega) ?_
                exact W.iret (v := nI L.length) hx hb hr (fun t9 ht9 hW9 => ⟨⟨nI L.length, g_50, rfl, ⟨(fun (k : Nat) (hk : (14 ≤ k ∧ k < 76) ∨ (876 ≤ k ∧ k < 2080) ∨ (2081 ≤ k ∧ k < 2117)) => (fr_51 k (by omega)).trans ((fr_39 k (by omega)).trans ((fr_25 k (by omega)).trans (rfl)))), by rw [hnl]; exact CMK.new (keepL_new (by omega) (by omega) (fun j hj => hno j (by omega))) hcs⟩, by show va_P (dC, dI) vwCl _ t9.heap; rw [ht9]; exact hP⟩, hS.F ht9⟩) hS.2.2 dX6_keepNumber_209
            · have c_21 := mt (nI_leI (a := L.length) (b := i) (by omega) (by omega)).mpr c_21
              have hp0 := hpb 0 i
              refine lv_aload_n hx hb dX6_keepNumber_70 rfl (lv_at hl 0 rfl) ?_
              refine m_get (D := (dC, dI)) (v := .ref (ad 2081)) (C := RX6) (T := TX6) (N := 7) hx hb hts bk0 hown hK hP 2080 (by decide) hO rfl 0 (by decide) (hts (.fieldLink RX6 11 "GradientDesk$Shelf" "parts" "[LGradientDesk$Part;") (List.mem_of_getElem? (i := 20) rfl)) (fun _ h9 => h9) rfl dX6_keepNumber_71 ?_
              refine lv_iload_n hx hb dX6_keepNumber_74 rfl (lv_at hl 3 rfl) ?_
              refine m_aald hx hb hK hP 2081 (by decide) rfl hPa (i := i) (v := ad (2117 + 2 * i)) (by omega) (by decide) rfl dX6_keepNumber_75 ?_
              have hp_55 := hPt.1 i (by omega)
              refine m_get (D := (dC, dI)) (v := .ref (ad (2118 + 2 * i))) (C := RX3) (T := TX3) (N := 7) hx hb hts bk5 hown hK hP (2117 + 2 * i) (ns_p (by omega)) hp_55 rfl 0 (by decide) (hts (.fieldLink RX6 68 "GradientDesk$Part" "number" "LGradientDesk$Fraction;") (List.mem_of_getElem? (i := 21) rfl)) (fun _ h9 => h9) rfl dX6_keepNumber_76 ?_
              refine lv_astore (lv' := [(4, .ref (ad (2118 + 2 * i))), (0, .ref (ad 2080)), (1, .int (nI sn)), (2, .int (nI sd)), (3, .int (nI i))]) hx hb dX6_keepNumber_79 hl (by decide) rfl (fun ls hl => ?_)
              refine lv_aload hx hb dX6_keepNumber_81 (lv_at hl 0 rfl) ?_
              have hq_56 := hFr i (by omega)
              refine m_get (D := (dC, dI)) (v := .ref (ad (2 * (38 + 2 * i)))) (C := RX2) (T := TX2) (N := 2) hx hb hts bk1 hown hK hP (2118 + 2 * i) (ns_q (by omega)) hq_56 rfl 0 (by decide) (hts (.fieldLink RX6 112 "GradientDesk$Fraction" "top" "LGradientDesk$Whole;") (List.mem_of_getElem? (i := 2) rfl)) (fun _ h9 => h9) rfl dX6_keepNumber_83 ?_
              refine lv_aload_n hx hb dX6_keepNumber_86 rfl (lv_at hl 1 rfl) ?_
              refine m_get (D := (dC, dI)) (v := .ref (ad 2107)) (C := RX6) (T := TX6) (N := 7) hx hb hts bk0 hown hK hP 2080 (by decide) hO rfl 5 (by decide) (hts (.fieldLink RX6 30 "GradientDesk$Shelf" "work" "LGradientDesk$Fraction;") (List.mem_of_getElem? (i := 1) rfl)) (fun _ h9 => h9) rfl dX6_keepNumber_87 ?_
              refine m_get (D := (dC, dI)) (v := .ref (ad (2 * 4))) (C := RX2) (T := TX2) (N := 2) hx hb hts bk1 hown hK hP 2107 (by decide) hWk rfl 0 (by decide) (hts (.fieldLink RX6 112 "GradientDesk$Fraction" "top" "LGradientDesk$Whole;") (List.mem_of_getElem? (i := 2) rfl)) (fun _ h9 => h9) rfl dX6_keepNumber_90 ?_
              obtain ⟨m0, m1, m2, m3, m4, m5, m6⟩ := hM i (by omega)
              rcases Nat.eq_zero_or_pos (gd L i).1 with hnum | hnum
              · skip
                obtain ⟨n1, n2, n3, n4⟩ := m6 hnum
                clear m6
                obtain ⟨mw_57, sw_57, nw_57, fw_57, aw_57, bw_57, cw_57, dw_57, ew_57⟩ := hW (38 + 2 * i) (by omega)
                have qw_57 : mw_57 ≤ 4096 := by rw [dw_57]; exact rmc_le _
                refine va_calli (va_runV (As := [.ref (ad (2 * 4))]) (rest := []) ⟨hx, hb, hml, hown, hts⟩ (c_V8_equalTo l dC dI A ad cA g (38 + 2 * i) 4 ((gd L i).2.2.2.2.2.2.1) p9 hW (by omega) (by decide) n1 w4) (cwV 1 hts (goodIn_app (goodIn_r [Cond.methodLink RX6 138 yX8_equalTo, Cond.instanceMethod yX8_equalTo, Cond.selects RX8 yX8_equalTo yX8_equalTo, Cond.initialized RX8] [25, 26, 27, 6] rfl rfl) (goodIn_sub (fun w9 h9 => bk7 w9 h9) gw_V8_equalTo)) rfl rfl rfl (by decide +kernel) ⟨Nat.le_of_ble_eq_true rfl, Nat.le_of_ble_eq_true rfl⟩) ⟨fun a U g mk q => ⟨q.1, q.2.1, q.2.2.1, LY.moved (u := U) (U := U.calling g mk a) (Vm.Alike.refl U.vm) q.2.2.2⟩, va_recv hK hP (ci := 11) (q0 := (2 * (38 + 2 * i))) rfl (wo_at (ns_w (by omega)) aw_57), fun U hU hW => ⟨rfl, by rw [hU]; exact fun q h => hA q (Nat.le_trans hS.1 h), by rw [hU]; exact hP, LY.moved hW.alike hL⟩⟩ rfl rfl hl.1 rfl (lv_room (Nat.le_of_ble_eq_true rfl)) dX6_keepNumber_93 ⟨(Nat.le_of_ble_eq_true rfl), (Nat.le_of_ble_eq_true rfl)⟩) hS (fun q _ h => h) (fun q h => h) (fun r_58 u8 t8 H1 locs ht8 hvm8 hw_59 hB hz1 hk1 hS => ?_)
                obtain ⟨⟩ := u8
                try dsimp only at hw_59 hB
                rw [ht8] at hB
                have hP := hB
                generalize H1 = H at hP hS ⊢
                obtain ⟨b1, hb8, rfl, he1⟩ := eq01 hw_59
                refine lv_if_eq (tgt := 121) hx hb dX6_keepNumber_96 (by decide) (fun c_60 => ?_) (fun c_60 => ?_)
                · have c_60 := (nI_eq (a := b1) (b := 0) (by omega) (by decide)).mp c_60
                  refine lv_iconst (v := nI 0) hx hb dX6_keepNumber_121 (by decide +kernel) ?_
                  refine lv_istore (lv' := [(5, .int (nI 0)), (4, .ref (ad (2118 + 2 * i))), (0, .ref (ad 2080)), (1, .int (nI sn)), (2, .int (nI sd)), (3, .int (nI i))]) hx hb dX6_keepNumber_122 hl (by decide) rfl (fun ls hl => ?_)
                  refine lv_iload hx hb dX6_keepNumber_124 (lv_at hl 0 rfl) ?_
                  refine lv_if_eq (tgt := 143) hx hb dX6_keepNumber_126 (by decide) (fun c_61 => ?_) (fun c_61 => absurd c_61 (by decide))
                  refine lv_iinc (v := nI (i + 1)) (lv' := [(3, .int (nI (i + 1))), (5, .int (nI 0)), (4, .ref (ad (2118 + 2 * i))), (0, .ref (ad 2080)), (1, .int (nI sn)), (2, .int (nI sd))]) hx hb dX6_keepNumber_143 hl (k := 5) rfl (nI_add i 1) (by decide) rfl (fun ls hl => ?_)
                  refine lv_goto (tgt := 62) hx hb dX6_keepNumber_146 (by decide) ?_
                  exact ih_18 (i + 1) (by omega) (by omega) (fun j hj => by by_cases h9 : j = i; subst h9; exact (k_nky m0 m1 m2 rfl rfl rfl (fun _ _ _ => ⟨hnum, fun hp9 hq9 => by have x1 := he1.mpr (hp9.trans e6); omega⟩)); exact hno j (by omega)) _ _ _ hP hS (lv_sub (l' := [(0, .ref (ad 2080)), (1, .int (nI sn)), (2, .int (nI sd)), (3, .int (nI (i + 1)))]) hl [3, 4, 5, 0] rfl)
                · have c_60 := mt (nI_eq (a := b1) (b := 0) (by omega) (by decide)).mpr c_60
                  refine lv_aload hx hb dX6_keepNumber_99 (lv_at hl 0 rfl) ?_
                  refine m_get (D := (dC, dI)) (v := .ref (ad (2 * (39 + 2 * i)))) (C := RX2) (T := TX2) (N := 2) hx hb hts bk1 hown hK hP (2118 + 2 * i) (ns_q (by omega)) hq_56 rfl 1 (by decide) (hts (.fieldLink RX6 122 "GradientDesk$Fraction" "bottom" "LGradientDesk$Whole;") (List.mem_of_getElem? (i := 11) rfl)) (fun _ h9 => h9) rfl dX6_keepNumber_101 ?_
                  refine lv_aload_n hx hb dX6_keepNumber_104 rfl (lv_at hl 1 rfl) ?_
                  refine m_get (D := (dC, dI)) (v := .ref (ad 2107)) (C := RX6) (T := TX6) (N := 7) hx hb hts bk0 hown hK hP 2080 (by decide) hO rfl 5 (by decide) (hts (.fieldLink RX6 30 "GradientDesk$Shelf" "work" "LGradientDesk$Fraction;") (List.mem_of_getElem? (i := 1) rfl)) (fun _ h9 => h9) rfl dX6_keepNumber_105 ?_
                  refine m_get (D := (dC, dI)) (v := .ref (ad (2 * 5))) (C := RX2) (T := TX2) (N := 2) hx hb hts bk1 hown hK hP 2107 (by decide) hWk rfl 1 (by decide) (hts (.fieldLink RX6 122 "GradientDesk$Fraction" "bottom" "LGradientDesk$Whole;") (List.mem_of_getElem? (i := 11) rfl)) (fun _ h9 => h9) rfl dX6_keepNumber_108 ?_
                  obtain ⟨mw_64, sw_64, nw_64, fw_64, aw_64, bw_64, cw_64, dw_64, ew_64⟩ := hW (39 + 2 * i) (by omega)
                  have qw_64 : mw_64 ≤ 4096 := by rw [dw_64]; exact rmc_le _
                  refine va_calli (va_runV (As := [.ref (ad (2 * 5))]) (rest := []) ⟨hx, hb, hml, hown, hts⟩ (c_V8_equalTo l dC dI A ad cA g (39 + 2 * i) 5 (((gd L i).2.2.2.2.2.2.2 : Nat) : Int) ((q9 : Nat) : Int) hW (by omega) (by decide) n2 w5) (cwV 1 hts (goodIn_app (goodIn_r [Cond.methodLink RX6 138 yX8_equalTo, Cond.instanceMethod yX8_equalTo, Cond.selects RX8 yX8_equalTo yX8_equalTo, Cond.initialized RX8] [25, 26, 27, 6] rfl rfl) (goodIn_sub (fun w9 h9 => bk7 w9 h9) gw_V8_equalTo)) rfl rfl rfl (by decide +kernel) ⟨Nat.le_of_ble_eq_true rfl, Nat.le_of_ble_eq_true rfl⟩) ⟨fun a U g mk q => ⟨q.1, q.2.1, q.2.2.1, LY.moved (u := U) (U := U.calling g mk a) (Vm.Alike.refl U.vm) q.2.2.2⟩, va_recv hK hP (ci := 11) (q0 := (2 * (39 + 2 * i))) rfl (wo_at (ns_w (by omega)) aw_64), fun U hU hW => ⟨rfl, by rw [hU]; exact fun q h => hA q (Nat.le_trans hS.1 h), by rw [hU]; exact hP, LY.moved hW.alike hL⟩⟩ rfl rfl hl.1 rfl (lv_room (Nat.le_of_ble_eq_true rfl)) dX6_keepNumber_111 ⟨(Nat.le_of_ble_eq_true rfl), (Nat.le_of_ble_eq_true rfl)⟩) hS (fun q _ h => h) (fun q h => h) (fun r_65 u8 t8 H1 locs ht8 hvm8 hw_66 hB hz1 hk1 hS => ?_)
                  obtain ⟨⟩ := u8
                  try dsimp only at hw_66 hB
                  rw [ht8] at hB
                  have hP := hB
                  generalize H1 = H at hP hS ⊢
                  obtain ⟨b2, hb9, rfl, he2⟩ := eq01 hw_66
                  refine lv_if_eq (tgt := 121) hx hb dX6_keepNumber_114 (by decide) (fun c_67 => ?_) (fun c_67 => ?_)
                  · have c_67 := (nI_eq (a := b2) (b := 0) (by omega) (by decide)).mp c_67
                    refine lv_iconst (v := nI 0) hx hb dX6_keepNumber_121 (by decide +kernel) ?_
                    refine lv_istore (lv' := [(5, .int (nI 0)), (4, .ref (ad (2118 + 2 * i))), (0, .ref (ad 2080)), (1, .int (nI sn)), (2, .int (nI sd)), (3, .int (nI i))]) hx hb dX6_keepNumber_122 hl (by decide) rfl (fun ls hl => ?_)
                    refine lv_iload hx hb dX6_keepNumber_124 (lv_at hl 0 rfl) ?_
                    refine lv_if_eq (tgt := 143) hx hb dX6_keepNumber_126 (by decide) (fun c_68 => ?_) (fun c_68 => absurd c_68 (by decide))
                    refine lv_iinc (v := nI (i + 1)) (lv' := [(3, .int (nI (i + 1))), (5, .int (nI 0)), (4, .ref (ad (2118 + 2 * i))), (0, .ref (ad 2080)), (1, .int (nI sn)), (2, .int (nI sd))]) hx hb dX6_keepNumber_143 hl (k := 5) rfl (nI_add i 1) (by decide) rfl (fun ls hl => ?_)
                    refine lv_goto (tgt := 62) hx hb dX6_keepNumber_146 (by decide) ?_
                    exact ih_18 (i + 1) (by omega) (by omega) (fun j hj => by by_cases h9 : j = i; subst h9; exact (k_nky m0 m1 m2 rfl rfl rfl (fun _ _ _ => ⟨hnum, fun hp9 hq9 => by have x1 := he1.mpr (hp9.trans e6); have x2 := he2.mpr (by rw [hq9, e7]); omega⟩)); exact hno j (by omega)) _ _ _ hP hS (lv_sub (l' := [(0, .ref (ad 2080)), (1, .int (nI sn)), (2, .int (nI sd)), (3, .int (nI (i + 1)))]) hl [3, 4, 5, 0] rfl)
                  · have c_67 := mt (nI_eq (a := b2) (b := 0) (by omega) (by decide)).mpr c_67
                    refine lv_iconst (v := nI 1) hx hb dX6_keepNumber_117 (by decide +kernel) ?_
                    refine lv_goto (tgt := 122) hx hb dX6_keepNumber_118 (by decide) ?_
                    refine lv_istore (lv' := [(5, .int (nI 1)), (4, .ref (ad (2118 + 2 * i))), (0, .ref (ad 2080)), (1, .int (nI sn)), (2, .int (nI sd)), (3, .int (nI i))]) hx hb dX6_keepNumber_122 hl (by decide) rfl (fun ls hl => ?_)
                    refine lv_iload hx hb dX6_keepNumber_124 (lv_at hl 0 rfl) ?_
                    refine lv_if_eq (tgt := 143) hx hb dX6_keepNumber_126 (by decide) (fun c_71 => absurd c_71 (by decide)) (fun c_71 => ?_)
                    refine lv_aload_n hx hb dX6_keepNumber_129 rfl (lv_at hl 2 rfl) ?_
                    refine m_get (D := (dC, dI)) (v := .ref (ad 2081)) (C := RX6) (T := TX6) (N := 7) hx hb hts bk0 hown hK hP 2080 (by decide) hO rfl 0 (by decide) (hts (.fieldLink RX6 11 "GradientDesk$Shelf" "parts" "[LGradientDesk$Part;") (List.mem_of_getElem? (i := 20) rfl)) (fun _ h9 => h9) rfl dX6_keepNumber_130 ?_
                    refine lv_iload_n hx hb dX6_keepNumber_133 rfl (lv_at hl 5 rfl) ?_
                    refine m_aald hx hb hK hP 2081 (by decide) rfl hPa (i := i) (v := ad (2117 + 2 * i)) (by omega) (by decide) rfl dX6_keepNumber_134 ?_
                    refine m_get (D := (dC, dI)) (v := .int (iI (pt 0 i))) (C := RX3) (T := TX3) (N := 7) hx hb hts bk5 hown hK hP (2117 + 2 * i) (ns_p (by omega)) hp_55 rfl 1 (by decide) (hts (.fieldLink RX6 64 "GradientDesk$Part" "sort" "I") (List.mem_of_getElem? (i := 28) rfl)) (fun _ h9 => h9) rfl dX6_keepNumber_135 ?_
                    refine lv_if_ne (tgt := 143) hx hb dX6_keepNumber_138 (by decide) (fun c_72 => ?_) (fun c_72 => ?_)
                    · have c_72 := mt (k_iEQ (a := pt 0 i) (b := 0) rfl (show nI 0 = iI 0 from by decide) (by omega) (by omega)).mpr c_72
                      refine lv_iinc (v := nI (i + 1)) (lv' := [(3, .int (nI (i + 1))), (5, .int (nI 1)), (4, .ref (ad (2118 + 2 * i))), (0, .ref (ad 2080)), (1, .int (nI sn)), (2, .int (nI sd))]) hx hb dX6_keepNumber_143 hl (k := 5) rfl (nI_add i 1) (by decide) rfl (fun ls hl => ?_)
                      refine lv_goto (tgt := 62) hx hb dX6_keepNumber_146 (by decide) ?_
                      exact ih_18 (i + 1) (by omega) (by omega) (fun j hj => by by_cases h9 : j = i; subst h9; exact (k_nky m0 m1 m2 rfl rfl rfl (fun _ _ _ => ⟨hnum, fun hp9 hq9 => by have x1 := he1.mpr (hp9.trans e6); have x2 := he2.mpr (by rw [hq9, e7]); omega⟩)); exact hno j (by omega)) _ _ _ hP hS (lv_sub (l' := [(0, .ref (ad 2080)), (1, .int (nI sn)), (2, .int (nI sd)), (3, .int (nI (i + 1)))]) hl [3, 4, 5, 0] rfl)
                    · have c_72 := (k_iEQ (a := pt 0 i) (b := 0) rfl (show nI 0 = iI 0 from by decide) (by omega) (by omega)).mp c_72
                      refine lv_iload_n hx hb dX6_keepNumber_141 rfl (lv_at hl 5 rfl) ?_
                      refine W.widen (k := 0) (n := 0) (by omega) (by omega) ?_
                      exact W.iret (v := nI i) hx hb hr (fun t9 ht9 hW9 => ⟨⟨nI i, g, rfl, ⟨(fun (k : Nat) (hk : (14 ≤ k ∧ k < 76) ∨ (876 ≤ k ∧ k < 2080) ∨ (2081 ≤ k ∧ k < 2117)) => rfl), by rw [hnl]; exact CMK.old (keepL_old (by omega) (by omega) (k_ky m0 m1 m2 rfl rfl rfl (by omega) (by rw [m1, e1]; exact n3) (by rw [m2, e2]; exact n4) (fun _ => ⟨(he1.mp (by omega)).trans e6.symm, by have x2 := he2.mp (by omega); omega⟩)) hno) (by omega) hC⟩, by show va_P (dC, dI) vwCl _ t9.heap; rw [ht9]; exact hP⟩, hS.F ht9⟩) hS.2.2 dX6_keepNumber_142
              · skip
                clear m6
                obtain ⟨mw_75, sw_75, nw_75, fw_75, aw_75, bw_75, cw_75, dw_75, ew_75⟩ := hW (38 + 2 * i) (by omega)
                have qw_75 : mw_75 ≤ 4096 := by rw [dw_75]; exact rmc_le _
                refine va_calli (va_runV (As := [.ref (ad (2 * 4))]) (rest := []) ⟨hx, hb, hml, hown, hts⟩ (c_X8_equalTo l dC dI A ad cA g (38 + 2 * i) 4 hW (by omega) (by decide)) (cwV 1 hts (goodIn_app (goodIn_r [Cond.methodLink RX6 138 yX8_equalTo, Cond.instanceMethod yX8_equalTo, Cond.selects RX8 yX8_equalTo yX8_equalTo, Cond.initialized RX8] [25, 26, 27, 6] rfl rfl) (goodIn_sub (fun w9 h9 => bk8 w9 h9) gw_X8_equalTo)) rfl rfl rfl (by decide +kernel) ⟨Nat.le_of_ble_eq_true rfl, Nat.le_of_ble_eq_true rfl⟩) ⟨fun a U g mk q => ⟨q.1, q.2.1, q.2.2.1, LY.moved (u := U) (U := U.calling g mk a) (Vm.Alike.refl U.vm) q.2.2.2⟩, va_recv hK hP (ci := 11) (q0 := (2 * (38 + 2 * i))) rfl (wo_at (ns_w (by omega)) aw_75), fun U hU hW => ⟨rfl, by rw [hU]; exact fun q h => hA q (Nat.le_trans hS.1 h), by rw [hU]; exact hP, LY.moved hW.alike hL⟩⟩ rfl rfl hl.1 rfl (lv_room (Nat.le_of_ble_eq_true rfl)) dX6_keepNumber_93 ⟨(Nat.le_of_ble_eq_true rfl), (Nat.le_of_ble_eq_true rfl)⟩) hS (fun q _ h => h) (fun q h => h) (fun r_76 u8 t8 H1 locs ht8 hvm8 hw_77 hB hz1 hk1 hS => ?_)
                obtain ⟨⟩ := u8
                try dsimp only at hw_77 hB
                rw [ht8] at hB
                have hP := hB
                generalize H1 = H at hP hS ⊢
                obtain ⟨b1, hb8, rfl⟩ := hw_77
                refine lv_if_eq (tgt := 121) hx hb dX6_keepNumber_96 (by decide) (fun c_78 => ?_) (fun c_78 => ?_)
                · have c_78 := (nI_eq (a := b1) (b := 0) (by omega) (by decide)).mp c_78
                  refine lv_iconst (v := nI 0) hx hb dX6_keepNumber_121 (by decide +kernel) ?_
                  refine lv_istore (lv' := [(5, .int (nI 0)), (4, .ref (ad (2118 + 2 * i))), (0, .ref (ad 2080)), (1, .int (nI sn)), (2, .int (nI sd)), (3, .int (nI i))]) hx hb dX6_keepNumber_122 hl (by decide) rfl (fun ls hl => ?_)
                  refine lv_iload hx hb dX6_keepNumber_124 (lv_at hl 0 rfl) ?_
                  refine lv_if_eq (tgt := 143) hx hb dX6_keepNumber_126 (by decide) (fun c_79 => ?_) (fun c_79 => absurd c_79 (by decide))
                  refine lv_iinc (v := nI (i + 1)) (lv' := [(3, .int (nI (i + 1))), (5, .int (nI 0)), (4, .ref (ad (2118 + 2 * i))), (0, .ref (ad 2080)), (1, .int (nI sn)), (2, .int (nI sd))]) hx hb dX6_keepNumber_143 hl (k := 5) rfl (nI_add i 1) (by decide) rfl (fun ls hl => ?_)
                  refine lv_goto (tgt := 62) hx hb dX6_keepNumber_146 (by decide) ?_
                  exact ih_18 (i + 1) (by omega) (by omega) (fun j hj => by by_cases h9 : j = i; subst h9; exact (k_nky m0 m1 m2 rfl rfl rfl (fun h0 _ _ => (by omega : False).elim)); exact hno j (by omega)) _ _ _ hP hS (lv_sub (l' := [(0, .ref (ad 2080)), (1, .int (nI sn)), (2, .int (nI sd)), (3, .int (nI (i + 1)))]) hl [3, 4, 5, 0] rfl)
                · have c_78 := mt (nI_eq (a := b1) (b := 0) (by omega) (by decide)).mpr c_78
                  refine lv_aload hx hb dX6_keepNumber_99 (lv_at hl 0 rfl) ?_
                  refine m_get (D := (dC, dI)) (v := .ref (ad (2 * (39 + 2 * i)))) (C := RX2) (T := TX2) (N := 2) hx hb hts bk1 hown hK hP (2118 + 2 * i) (ns_q (by omega)) hq_56 rfl 1 (by decide) (hts (.fieldLink RX6 122 "GradientDesk$Fraction" "bottom" "LGradientDesk$Whole;") (List.mem_of_getElem? (i := 11) rfl)) (fun _ h9 => h9) rfl dX6_keepNumber_101 ?_
                  refine lv_aload_n hx hb dX6_keepNumber_104 rfl (lv_at hl 1 rfl) ?_
                  refine m_get (D := (dC, dI)) (v := .ref (ad 2107)) (C := RX6) (T := TX6) (N := 7) hx hb hts bk0 hown hK hP 2080 (by decide) hO rfl 5 (by decide) (hts (.fieldLink RX6 30 "GradientDesk$Shelf" "work" "LGradientDesk$Fraction;") (List.mem_of_getElem? (i := 1) rfl)) (fun _ h9 => h9) rfl dX6_keepNumber_105 ?_
                  refine m_get (D := (dC, dI)) (v := .ref (ad (2 * 5))) (C := RX2) (T := TX2) (N := 2) hx hb hts bk1 hown hK hP 2107 (by decide) hWk rfl 1 (by decide) (hts (.fieldLink RX6 122 "GradientDesk$Fraction" "bottom" "LGradientDesk$Whole;") (List.mem_of_getElem? (i := 11) rfl)) (fun _ h9 => h9) rfl dX6_keepNumber_108 ?_
                  obtain ⟨mw_82, sw_82, nw_82, fw_82, aw_82, bw_82, cw_82, dw_82, ew_82⟩ := hW (39 + 2 * i) (by omega)
                  have qw_82 : mw_82 ≤ 4096 := by rw [dw_82]; exact rmc_le _
                  refine va_calli (va_runV (As := [.ref (ad (2 * 5))]) (rest := []) ⟨hx, hb, hml, hown, hts⟩ (c_X8_equalTo l dC dI A ad cA g (39 + 2 * i) 5 hW (by omega) (by decide)) (cwV 1 hts (goodIn_app (goodIn_r [Cond.methodLink RX6 138 yX8_equalTo, Cond.instanceMethod yX8_equalTo, Cond.selects RX8 yX8_equalTo yX8_equalTo, Cond.initialized RX8] [25, 26, 27, 6] rfl rfl) (goodIn_sub (fun w9 h9 => bk8 w9 h9) gw_X8_equalTo)) rfl rfl rfl (by decide +kernel) ⟨Nat.le_of_ble_eq_true rfl, Nat.le_of_ble_eq_true rfl⟩) ⟨fun a U g mk q => ⟨q.1, q.2.1, q.2.2.1, LY.moved (u := U) (U := U.calling g mk a) (Vm.Alike.refl U.vm) q.2.2.2⟩, va_recv hK hP (ci := 11) (q0 := (2 * (39 + 2 * i))) rfl (wo_at (ns_w (by omega)) aw_82), fun U hU hW => ⟨rfl, by rw [hU]; exact fun q h => hA q (Nat.le_trans hS.1 h), by rw [hU]; exact hP, LY.moved hW.alike hL⟩⟩ rfl rfl hl.1 rfl (lv_room (Nat.le_of_ble_eq_true rfl)) dX6_keepNumber_111 ⟨(Nat.le_of_ble_eq_true rfl), (Nat.le_of_ble_eq_true rfl)⟩) hS (fun q _ h => h) (fun q h => h) (fun r_83 u8 t8 H1 locs ht8 hvm8 hw_84 hB hz1 hk1 hS => ?_)
                  obtain ⟨⟩ := u8
                  try dsimp only at hw_84 hB
                  rw [ht8] at hB
                  have hP := hB
                  generalize H1 = H at hP hS ⊢
                  obtain ⟨b2, hb9, rfl⟩ := hw_84
                  refine lv_if_eq (tgt := 121) hx hb dX6_keepNumber_114 (by decide) (fun c_85 => ?_) (fun c_85 => ?_)
                  · have c_85 := (nI_eq (a := b2) (b := 0) (by omega) (by decide)).mp c_85
                    refine lv_iconst (v := nI 0) hx hb dX6_keepNumber_121 (by decide +kernel) ?_
                    refine lv_istore (lv' := [(5, .int (nI 0)), (4, .ref (ad (2118 + 2 * i))), (0, .ref (ad 2080)), (1, .int (nI sn)), (2, .int (nI sd)), (3, .int (nI i))]) hx hb dX6_keepNumber_122 hl (by decide) rfl (fun ls hl => ?_)
                    refine lv_iload hx hb dX6_keepNumber_124 (lv_at hl 0 rfl) ?_
                    refine lv_if_eq (tgt := 143) hx hb dX6_keepNumber_126 (by decide) (fun c_86 => ?_) (fun c_86 => absurd c_86 (by decide))
                    refine lv_iinc (v := nI (i + 1)) (lv' := [(3, .int (nI (i + 1))), (5, .int (nI 0)), (4, .ref (ad (2118 + 2 * i))), (0, .ref (ad 2080)), (1, .int (nI sn)), (2, .int (nI sd))]) hx hb dX6_keepNumber_143 hl (k := 5) rfl (nI_add i 1) (by decide) rfl (fun ls hl => ?_)
                    refine lv_goto (tgt := 62) hx hb dX6_keepNumber_146 (by decide) ?_
                    exact ih_18 (i + 1) (by omega) (by omega) (fun j hj => by by_cases h9 : j = i; subst h9; exact (k_nky m0 m1 m2 rfl rfl rfl (fun h0 _ _ => (by omega : False).elim)); exact hno j (by omega)) _ _ _ hP hS (lv_sub (l' := [(0, .ref (ad 2080)), (1, .int (nI sn)), (2, .int (nI sd)), (3, .int (nI (i + 1)))]) hl [3, 4, 5, 0] rfl)
                  · have c_85 := mt (nI_eq (a := b2) (b := 0) (by omega) (by decide)).mpr c_85
                    refine lv_iconst (v := nI 1) hx hb dX6_keepNumber_117 (by decide +kernel) ?_
                    refine lv_goto (tgt := 122) hx hb dX6_keepNumber_118 (by decide) ?_
                    refine lv_istore (lv' := [(5, .int (nI 1)), (4, .ref (ad (2118 + 2 * i))), (0, .ref (ad 2080)), (1, .int (nI sn)), (2, .int (nI sd)), (3, .int (nI i))]) hx hb dX6_keepNumber_122 hl (by decide) rfl (fun ls hl => ?_)
                    refine lv_iload hx hb dX6_keepNumber_124 (lv_at hl 0 rfl) ?_
                    refine lv_if_eq (tgt := 143) hx hb dX6_keepNumber_126 (by decide) (fun c_89 => absurd c_89 (by decide)) (fun c_89 => ?_)
                    refine lv_aload_n hx hb dX6_keepNumber_129 rfl (lv_at hl 2 rfl) ?_
                    refine m_get (D := (dC, dI)) (v := .ref (ad 2081)) (C := RX6) (T := TX6) (N := 7) hx hb hts bk0 hown hK hP 2080 (by decide) hO rfl 0 (by decide) (hts (.fieldLink RX6 11 "GradientDesk$Shelf" "parts" "[LGradientDesk$Part;") (List.mem_of_getElem? (i := 20) rfl)) (fun _ h9 => h9) rfl dX6_keepNumber_130 ?_
                    refine lv_iload_n hx hb dX6_keepNumber_133 rfl (lv_at hl 5 rfl) ?_
                    refine m_aald hx hb hK hP 2081 (by decide) rfl hPa (i := i) (v := ad (2117 + 2 * i)) (by omega) (by decide) rfl dX6_keepNumber_134 ?_
                    refine m_get (D := (dC, dI)) (v := .int (iI (pt 0 i))) (C := RX3) (T := TX3) (N := 7) hx hb hts bk5 hown hK hP (2117 + 2 * i) (ns_p (by omega)) hp_55 rfl 1 (by decide) (hts (.fieldLink RX6 64 "GradientDesk$Part" "sort" "I") (List.mem_of_getElem? (i := 28) rfl)) (fun _ h9 => h9) rfl dX6_keepNumber_135 ?_
                    refine lv_if_ne (tgt := 143) hx hb dX6_keepNumber_138 (by decide) (fun c_90 => ?_) (fun c_90 => ?_)
                    · have c_90 := mt (k_iEQ (a := pt 0 i) (b := 0) rfl (show nI 0 = iI 0 from by decide) (by omega) (by omega)).mpr c_90
                      refine lv_iinc (v := nI (i + 1)) (lv' := [(3, .int (nI (i + 1))), (5, .int (nI 1)), (4, .ref (ad (2118 + 2 * i))), (0, .ref (ad 2080)), (1, .int (nI sn)), (2, .int (nI sd))]) hx hb dX6_keepNumber_143 hl (k := 5) rfl (nI_add i 1) (by decide) rfl (fun ls hl => ?_)
                      refine lv_goto (tgt := 62) hx hb dX6_keepNumber_146 (by decide) ?_
                      exact ih_18 (i + 1) (by omega) (by omega) (fun j hj => by by_cases h9 : j = i; subst h9; exact (k_nky m0 m1 m2 rfl rfl rfl (fun h0 _ _ => (by omega : False).elim)); exact hno j (by omega)) _ _ _ hP hS (lv_sub (l' := [(0, .ref (ad 2080)), (1, .int (nI sn)), (2, .int (nI sd)), (3, .int (nI (i + 1)))]) hl [3, 4, 5, 0] rfl)
                    · have c_90 := (k_iEQ (a := pt 0 i) (b := 0) rfl (show nI 0 = iI 0 from by decide) (by omega) (by omega)).mp c_90
                      refine lv_iload_n hx hb dX6_keepNumber_141 rfl (lv_at hl 5 rfl) ?_
                      refine W.widen (k := 0) (n := 0) (by omega) (by omega) ?_
                      exact W.iret (v := nI i) hx hb hr (fun t9 ht9 hW9 => ⟨⟨nI i, g, rfl, ⟨(fun (k : Nat) (hk : (14 ≤ k ∧ k < 76) ∨ (876 ≤ k ∧ k < 2080) ∨ (2081 ≤ k ∧ k < 2117)) => rfl), by rw [hnl]; exact (by omega : False).elim⟩, by show va_P (dC, dI) vwCl _ t9.heap; rw [ht9]; exact hP⟩, hS.F ht9⟩) hS.2.2 dX6_keepNumber_142
        exact loop_17 _ 0 (Nat.lt_succ_self _) (Nat.zero_le _) (fun j h => absurd h (by omega)) _ _ _ hP hS (lv_sub (l' := [(0, .ref (ad 2080)), (1, .int (nI sn)), (2, .int (nI sd)), (3, .int (nI 0))]) hl [3, 2, 1, 0] rfl)
      · have c_16 := mt (nI_leI (a := sd) (b := 400) (by omega) (by decide)).mpr c_16
        refine lv_bipush (v := -3) hx hb dX6_keepNumber_57 (by decide +kernel) ?_
        refine W.widen (k := 0) (n := 0) (by omega) (by omega) ?_
        exact W.iret (v := -3) hx hb hr (fun t9 ht9 hW9 => ⟨⟨-3, g, rfl, ⟨(fun (k : Nat) (hk : (14 ≤ k ∧ k < 76) ∨ (876 ≤ k ∧ k < 2080) ∨ (2081 ≤ k ∧ k < 2117)) => rfl), by rw [hnl]; exact CMK.bad (n := -3) (by decide) (keepL_big (by omega)) (Or.inl rfl) hC⟩, by show va_P (dC, dI) vwCl _ t9.heap; rw [ht9]; exact hP⟩, hS.F ht9⟩) hS.2.2 dX6_keepNumber_59
  · skip
    refine lv_if_eq (tgt := 32) hx hb dX6_keepNumber_25 (by decide) (fun c_93 => ?_) (fun c_93 => absurd c_93 (by decide))
    refine lv_aload_n hx hb dX6_keepNumber_32 rfl (lv_at hl 1 rfl) ?_
    refine m_get (D := (dC, dI)) (v := .ref (ad 2107)) (C := RX6) (T := TX6) (N := 7) hx hb hts bk0 hown hK hP 2080 (by decide) hO rfl 5 (by decide) (hts (.fieldLink RX6 30 "GradientDesk$Shelf" "work" "LGradientDesk$Fraction;") (List.mem_of_getElem? (i := 1) rfl)) (fun _ h9 => h9) rfl dX6_keepNumber_33 ?_
    refine m_get (D := (dC, dI)) (v := .ref (ad (2 * 5))) (C := RX2) (T := TX2) (N := 2) hx hb hts bk1 hown hK hP 2107 (by decide) hWk rfl 1 (by decide) (hts (.fieldLink RX6 122 "GradientDesk$Fraction" "bottom" "LGradientDesk$Whole;") (List.mem_of_getElem? (i := 11) rfl)) (fun _ h9 => h9) rfl dX6_keepNumber_36 ?_
    refine va_calli (va_runV (As := []) (rest := []) ⟨hx, hb, hml, hown, hts⟩ (c_V8_bitLength l dC dI A ad cA g 5 ((q9 : Nat) : Int) hW (by decide) w5) (cwV 0 hts (goodIn_app (goodIn_r [Cond.methodLink RX6 125 yX8_bitLength, Cond.instanceMethod yX8_bitLength, Cond.selects RX8 yX8_bitLength yX8_bitLength, Cond.initialized RX8] [3, 4, 5, 6] rfl rfl) (goodIn_sub (fun w9 h9 => bk2 w9 h9) gw_V8_bitLength)) rfl rfl rfl (by decide +kernel) ⟨Nat.le_of_ble_eq_true rfl, Nat.le_of_ble_eq_true rfl⟩) ⟨fun a U g mk q => ⟨q.1, q.2.1, q.2.2.1, LY.moved (u := U) (U := U.calling g mk a) (Vm.Alike.refl U.vm) q.2.2.2⟩, va_recv hK hP (ci := 11) (q0 := (2 * 5)) rfl (wo_at (ns_w (by omega)) aw_9), fun U hU hW => ⟨rfl, by rw [hU]; exact fun q h => hA q (Nat.le_trans hS.1 h), by rw [hU]; exact hP, LY.moved hW.alike hL⟩⟩ rfl rfl hl.1 rfl (lv_room (Nat.le_of_ble_eq_true rfl)) dX6_keepNumber_39 ⟨(Nat.le_of_ble_eq_true rfl), (Nat.le_of_ble_eq_true rfl)⟩) hS (fun q _ h => h) (fun q h => h) (fun r_94 u8 t8 H1 locs ht8 hvm8 hw_95 hB hz1 hk1 hS => ?_)
    obtain ⟨⟩ := u8
    try dsimp only at hw_95 hB
    rw [ht8] at hB
    have hP := hB
    generalize H1 = H at hP hS ⊢
    obtain rfl := hw_95
    rw [Int.natAbs_natCast]
    obtain ⟨bq, hbq⟩ : ∃ z, z = bl q9 := ⟨_, rfl⟩
    rw [← hbq]
    rw [← hbq] at f5
    have hb1 := bl_is1 hq0
    obtain ⟨sd, hsd⟩ : ∃ z : Nat, z = bq := ⟨_, rfl⟩
    refine lv_topi (fun x_96 e_97 => ?_)
    obtain rfl : x_96 = nI sd := e_97.trans (congrArg nI hsd.symm)
    have hs5 : (if bl q9 = 1 then 0 else bl q9) = sd := by rw [if_neg (fun h9 => absurd (hb1.mp h9) (by omega))]; omega
    have hs5b : bl q9 ≤ sd + 1 := by omega
    obtain ⟨dn, hdn⟩ : ∃ z : PD, z = (0, -1, -1, 0, if bl p9.natAbs = 0 then 1 else bl p9.natAbs, if bl q9 = 1 then 0 else bl q9, p9, q9) := ⟨_, rfl⟩
    have hnl : numL L p9 q9 = keepL L dn := by rw [hdn]; rfl
    have e0 : dn.1 = 0 := by rw [hdn]
    have e1 : dn.2.1 = -1 := by rw [hdn]
    have e2 : dn.2.2.1 = -1 := by rw [hdn]
    have e3 : dn.2.2.2.1 = 0 := by rw [hdn]
    have e4 : dn.2.2.2.2.1 = sn := by rw [hdn]; show (if bl p9.natAbs = 0 then 1 else bl p9.natAbs) = sn; omega
    have e5 : dn.2.2.2.2.2.1 = sd := by rw [hdn]; exact hs5
    have e6 : dn.2.2.2.2.2.2.1 = p9 := by rw [hdn]
    have e7 : dn.2.2.2.2.2.2.2 = q9 := by rw [hdn]
    refine lv_istore_n (lv' := [(2, .int (nI sd)), (1, .int (nI sn)), (0, .ref (ad 2080))]) hx hb dX6_keepNumber_42 rfl hl (by decide) rfl (fun ls hl => ?_)
    refine lv_iload_n hx hb dX6_keepNumber_43 rfl (lv_at hl 1 rfl) ?_
    refine lv_sipush (v := nI 400) hx hb dX6_keepNumber_44 (by decide +kernel) ?_
    refine lv_icmp_gt (tgt := 57) hx hb dX6_keepNumber_47 (by decide) (fun c_98 => ?_) (fun c_98 => ?_)
    · have c_98 := (nI_ltI (a := 400) (b := sn) (by decide) (by omega)).mp c_98
      refine lv_bipush (v := -3) hx hb dX6_keepNumber_57 (by decide +kernel) ?_
      refine W.widen (k := 0) (n := 0) (by omega) (by omega) ?_
      exact W.iret (v := -3) hx hb hr (fun t9 ht9 hW9 => ⟨⟨-3, g, rfl, ⟨(fun (k : Nat) (hk : (14 ≤ k ∧ k < 76) ∨ (876 ≤ k ∧ k < 2080) ∨ (2081 ≤ k ∧ k < 2117)) => rfl), by rw [hnl]; exact CMK.bad (n := -3) (by decide) (keepL_big (by omega)) (Or.inl rfl) hC⟩, by show va_P (dC, dI) vwCl _ t9.heap; rw [ht9]; exact hP⟩, hS.F ht9⟩) hS.2.2 dX6_keepNumber_59
    · have c_98 := mt (nI_ltI (a := 400) (b := sn) (by decide) (by omega)).mpr c_98
      refine lv_iload_n hx hb dX6_keepNumber_50 rfl (lv_at hl 0 rfl) ?_
      refine lv_sipush (v := nI 400) hx hb dX6_keepNumber_51 (by decide +kernel) ?_
      refine lv_icmp_le (tgt := 60) hx hb dX6_keepNumber_54 (by decide) (fun c_99 => ?_) (fun c_99 => ?_)
      · have c_99 := (nI_leI (a := sd) (b := 400) (by omega) (by decide)).mp c_99
        refine lv_iconst (v := nI 0) hx hb dX6_keepNumber_60 (by decide +kernel) ?_
        refine lv_istore_n (lv' := [(3, .int (nI 0)), (2, .int (nI sd)), (1, .int (nI sn)), (0, .ref (ad 2080))]) hx hb dX6_keepNumber_61 rfl hl (by decide) rfl (fun ls hl => ?_)
        have loop_100 : ∀ (k9 : Nat) (i : Nat), 300 - i < k9 → (i ≤ L.length) → (∀ j, j < i → pky (gd L j) dn = false) → ∀ (H : Heap) (locs : List Loc) (ls : Array Slot), va_P (dC, dI) vwCl (wo ad NSc g) H → va_S A s.heap H locs → lv_has ls 6 [(0, .ref (ad 2080)), (1, .int (nI sn)), (2, .int (nI sd)), (3, .int (nI i))] → W p l e (headSpec wd_V6_keepNumber ({ frames := 30, cells := 0, slots := 0, locals := 600 })).room s m ([.ref (ad 2080)] : List Value).toArray below meth c H locs (0) (0) (MQ below (va_Qi (fun (r : Int32) => fun (u : Nat → va_E) => match u with | g2 => (∀ k, (14 ≤ k ∧ k < 76) ∨ (876 ≤ k ∧ k < 2080) ∨ (2081 ≤ k ∧ k < 2117) → g2 k = g k) ∧ CMK ad cA g2 (numL L p9 q9) r) (fun (u : Nat → va_E) (t : State) => va_P (dC, dI) vwCl (wo ad NSc u) t.heap) A) ([.ref (ad 2080)] : List Value).toArray s (0) (0) A) (F0 m 62 ls []) := by
          intro k9
          induction k9 with
          | zero => intro i h9; exact absurd h9 (Nat.not_lt_zero _)
          | succ k9 ih_101 =>
            intro i h9 hi hno H locs ls hP hS hl
            refine lv_iload_n hx hb dX6_keepNumber_62 rfl (lv_at hl 3 rfl) ?_
            refine lv_aload_n hx hb dX6_keepNumber_63 rfl (lv_at hl 0 rfl) ?_
            refine m_get (D := (dC, dI)) (v := .int (nI L.length)) (C := RX6) (T := TX6) (N := 7) hx hb hts bk0 hown hK hP 2080 (by decide) hO rfl 2 (by decide) (hts (.fieldLink RX6 135 "GradientDesk$Shelf" "count" "I") (List.mem_of_getElem? (i := 15) rfl)) (fun _ h9 => h9) rfl dX6_keepNumber_64 ?_
            refine lv_icmp_ge (tgt := 149) hx hb dX6_keepNumber_67 (by decide) (fun c_104 => ?_) (fun c_104 => ?_)
            · have c_104 := (nI_leI (a := L.length) (b := i) (by omega) (by omega)).mp c_104
              refine lv_aload_n hx hb dX6_keepNumber_149 rfl (lv_at hl 0 rfl) ?_
              refine lv_iconst (v := nI 0) hx hb dX6_keepNumber_150 (by decide +kernel) ?_
              refine lv_iconst (v := -1) hx hb dX6_keepNumber_151 (by decide +kernel) ?_
              refine lv_iconst (v := -1) hx hb dX6_keepNumber_152 (by decide +kernel) ?_
              refine lv_iconst (v := nI 0) hx hb dX6_keepNumber_153 (by decide +kernel) ?_
              refine lv_iload_n hx hb dX6_keepNumber_154 rfl (lv_at hl 1 rfl) ?_
              refine lv_iload_n hx hb dX6_keepNumber_155 rfl (lv_at hl 2 rfl) ?_
              refine va_calli (va_runV (As := [.int (nI 0), .int (-1), .int (-1), .int (nI 0), .int (nI sn), .int (nI sd)]) (rest := []) ⟨hx, hb, hml, hown, hts⟩ (c_V6_lay l dC dI A ad cA g L (nI 0) (-1) (-1) (nI 0) (nI sn) (nI sd) hC) (cwV 6 hts (goodIn_app (goodIn_r [Cond.methodLink RX6 142 yX6_lay, Cond.instanceMethod yX6_lay, Cond.selects RX6 yX6_lay yX6_lay, Cond.initialized RX6] [16, 17, 18, 19] rfl rfl) (goodIn_sub (fun w9 h9 => bk4 w9 h9) gw_V6_lay)) rfl rfl rfl (by decide +kernel) ⟨Nat.le_of_ble_eq_true rfl, Nat.le_of_ble_eq_true rfl⟩) ⟨fun a U g mk q => ⟨q.1, q.2.1, q.2.2.1, LY.moved (u := U) (U := U.calling g mk a) (Vm.Alike.refl U.vm) q.2.2.2⟩, va_recv hK hP (ci := 9) (q0 := 2080) rfl (wo_at (by decide) hO), fun U hU hW => ⟨rfl, by rw [hU]; exact fun q h => hA q (Nat.le_trans hS.1 h), by rw [hU]; exact hP, LY.moved hW.alike hL⟩⟩ rfl rfl hl.1 rfl (lv_room (Nat.le_of_ble_eq_true rfl)) dX6_keepNumber_156 ⟨(Nat.le_of_ble_eq_true rfl), (Nat.le_of_ble_eq_true rfl)⟩) hS (fun q _ h => h) (fun q h => h) (fun r_105 u8 t8 H1 locs ht8 hvm8 hw_106 hB hz1 hk1 hS => ?_)
              obtain ⟨g_107, rfl⟩ : ∃ z, z = u8 := ⟨_, rfl⟩
              try dsimp only at hw_106 hB
              rw [ht8] at hB
              have hP := hB
              generalize H1 = H at hP hS ⊢
              obtain ⟨fr_108, hly⟩ := hw_106
              rcases hly with ⟨hl9, rfl, hg9⟩ | ⟨hl9, rfl, hO9, hc9⟩
              · skip
                refine lv_istore_n (lv' := [(3, .int (iI (-4))), (0, .ref (ad 2080)), (1, .int (nI sn)), (2, .int (nI sd))]) hx hb dX6_keepNumber_159 rfl hl (by decide) rfl (fun ls hl => ?_)
                refine lv_iload_n hx hb dX6_keepNumber_160 rfl (lv_at hl 0 rfl) ?_
                refine lv_if_lt (tgt := 208) hx hb dX6_keepNumber_161 (by decide) (fun c_109 => ?_) (fun c_109 => absurd (mt (k_iLT (a := -4) (b := 0) rfl (show nI 0 = iI 0 from by decide) (by omega) (by omega)).mpr c_109) (by omega))
                refine lv_iload_n hx hb dX6_keepNumber_208 rfl (lv_at hl 0 rfl) ?_
                refine W.widen (k := 0) (n := 0) (by omega) (by omega) ?_
                exact W.iret (v := iI (-4)) hx hb hr (fun t9 ht9 hW9 => ⟨⟨iI (-4), g_107, rfl, ⟨(fun (k : Nat) (hk : (14 ≤ k ∧ k < 76) ∨ (876 ≤ k ∧ k < 2080) ∨ (2081 ≤ k ∧ k < 2117)) => (fr_108 k (by omega)).trans (rfl)), by rw [hnl, hg9]; exact CMK.bad rfl (keepL_full (by omega) hl9 (fun j hj => hno j (by omega))) (Or.inr rfl) hC⟩, by show va_P (dC, dI) vwCl _ t9.heap; rw [ht9]; exact hP⟩, hS.F ht9⟩) hS.2.2 dX6_keepNumber_209
              · skip
                have hO8 := hO9
                unfold CSO at hO8
                refine lv_istore_n (lv' := [(3, .int (nI L.length)), (0, .ref (ad 2080)), (1, .int (nI sn)), (2, .int (nI sd))]) hx hb dX6_keepNumber_159 rfl hl (by decide) rfl (fun ls hl => ?_)
                refine lv_iload_n hx hb dX6_keepNumber_160 rfl (lv_at hl 0 rfl) ?_
                refine lv_if_lt (tgt := 208) hx hb dX6_keepNumber_161 (by decide) (fun c_110 => absurd ((nI_ltI (a := L.length) (b := 0) (by omega) (by decide)).mp c_110) (by omega)) (fun c_110 => ?_)
                refine lv_aload_n hx hb dX6_keepNumber_164 rfl (lv_at hl 1 rfl) ?_
                refine m_get (D := (dC, dI)) (v := .ref (ad 2081)) (C := RX6) (T := TX6) (N := 7) hx hb hts bk0 hown hK hP 2080 (by decide) hO8 rfl 0 (by decide) (hts (.fieldLink RX6 11 "GradientDesk$Shelf" "parts" "[LGradientDesk$Part;") (List.mem_of_getElem? (i := 20) rfl)) (fun _ h9 => h9) rfl dX6_keepNumber_165 ?_
                refine lv_iload_n hx hb dX6_keepNumber_168 rfl (lv_at hl 0 rfl) ?_
                have f_111 : g_107 2081 = .inl (cA 2081, 200, .inr (.inr (.inr (.inr (fun j => some (ad (2117 + 2 * j))))))) := (fr_108 2081 (by omega)).trans hPa
                refine m_aald hx hb hK hP 2081 (by decide) rfl f_111 (i := L.length) (v := ad (2117 + 2 * L.length)) (by omega) (by decide) rfl dX6_keepNumber_169 ?_
                refine m_get (D := (dC, dI)) (v := .ref (ad (2118 + 2 * L.length))) (C := RX3) (T := TX3) (N := 7) hx hb hts bk5 hown hK hP (2117 + 2 * L.length) (ns_p (by omega)) hc9 rfl 0 (by decide) (hts (.fieldLink RX6 68 "GradientDesk$Part" "number" "LGradientDesk$Fraction;") (List.mem_of_getElem? (i := 21) rfl)) (fun _ h9 => h9) rfl dX6_keepNumber_170 ?_
                have hq_112 := hFr L.length (by omega)
                have f_113 : g_107 (2118 + 2 * L.length) = .inr (5, [.ref (ad (2 * (38 + 2 * L.length))), .ref (ad (2 * (39 + 2 * L.length)))]) := (fr_108 (2118 + 2 * L.length) (by omega)).trans hq_112
                refine m_get (D := (dC, dI)) (v := .ref (ad (2 * (38 + 2 * L.length)))) (C := RX2) (T := TX2) (N := 2) hx hb hts bk1 hown hK hP (2118 + 2 * L.length) (ns_q (by omega)) f_113 rfl 0 (by decide) (hts (.fieldLink RX6 112 "GradientDesk$Fraction" "top" "LGradientDesk$Whole;") (List.mem_of_getElem? (i := 2) rfl)) (fun _ h9 => h9) rfl dX6_keepNumber_173 ?_
                refine lv_aload_n hx hb dX6_keepNumber_176 rfl (lv_at hl 1 rfl) ?_
                refine m_get (D := (dC, dI)) (v := .ref (ad 2107)) (C := RX6) (T := TX6) (N := 7) hx hb hts bk0 hown hK hP 2080 (by decide) hO8 rfl 5 (by decide) (hts (.fieldLink RX6 30 "GradientDesk$Shelf" "work" "LGradientDesk$Fraction;") (List.mem_of_getElem? (i := 1) rfl)) (fun _ h9 => h9) rfl dX6_keepNumber_177 ?_
                have f_114 : g_107 2107 = .inr (5, [.ref (ad (2 * 4)), .ref (ad (2 * 5))]) := (fr_108 2107 (by omega)).trans hWk
                refine m_get (D := (dC, dI)) (v := .ref (ad (2 * 4))) (C := RX2) (T := TX2) (N := 2) hx hb hts bk1 hown hK hP 2107 (by decide) f_114 rfl 0 (by decide) (hts (.fieldLink RX6 112 "GradientDesk$Fraction" "top" "LGradientDesk$Whole;") (List.mem_of_getElem? (i := 2) rfl)) (fun _ h9 => h9) rfl dX6_keepNumber_180 ?_
                have hAW_116 : AW ad cA g_107 := AW.keep hW (fun (k : Nat) (hk : k < 2076) => (fr_108 k (by omega)).trans (rfl))
                obtain ⟨mw_115, sw_115, nw_115, fw_115, aw_115, bw_115, cw_115, dw_115, ew_115⟩ := hAW_116 (38 + 2 * L.length) (by omega)
                have qw_115 : mw_115 ≤ 4096 := by rw [dw_115]; exact rmc_le _
                have hv_117 : WV ad cA g_107 4 p9 := WV.same w4 ((fun (k : Nat) (hk : k = 2 * 4 ∨ k = 2 * 4 + 1) => (fr_108 k (by omega)).trans (rfl)) _ (Or.inl rfl)) ((fun (k : Nat) (hk : k = 2 * 4 ∨ k = 2 * 4 + 1) => (fr_108 k (by omega)).trans (rfl)) _ (Or.inr rfl))
                refine va_callv (va_runV (As := [.ref (ad (2 * 4))]) (rest := []) ⟨hx, hb, hml, hown, hts⟩ (c_V8_become l dC dI A ad cA g_107 (38 + 2 * L.length) 4 p9 hAW_116 (by omega) (by decide) hv_117 (by omega) (by rw [rmc_part (by omega) (by omega)]; exact fit13 (by omega))) (cwV 1 hts (goodIn_app (goodIn_r [Cond.methodLink RX6 118 yX8_become, Cond.instanceMethod yX8_become, Cond.selects RX8 yX8_become yX8_become, Cond.initialized RX8] [22, 23, 24, 6] rfl rfl) (goodIn_sub (fun w9 h9 => bk6 w9 h9) gw_V8_become)) rfl rfl rfl (by decide +kernel) ⟨Nat.le_of_ble_eq_true rfl, Nat.le_of_ble_eq_true rfl⟩) ⟨fun a U g mk q => ⟨q.1, q.2.1, q.2.2.1, LY.moved (u := U) (U := U.calling g mk a) (Vm.Alike.refl U.vm) q.2.2.2⟩, va_recv hK hP (ci := 11) (q0 := (2 * (38 + 2 * L.length))) rfl (wo_at (ns_w (by omega)) aw_115), fun U hU hW => ⟨rfl, by rw [hU]; exact fun q h => hA q (Nat.le_trans hS.1 h), by rw [hU]; exact hP, LY.moved hW.alike hL⟩⟩ rfl rfl hl.1 rfl (lv_room (Nat.le_of_ble_eq_true rfl)) dX6_keepNumber_183 ⟨(Nat.le_of_ble_eq_true rfl), (Nat.le_of_ble_eq_true rfl)⟩) hS (fun q _ h => h) (fun q h => h) (fun u8 t8 H1 locs ht8 hvm8 hw_120 hB hz1 hk1 hS => ?_)
                obtain ⟨g_121, rfl⟩ : ∃ z, z = u8 := ⟨_, rfl⟩
                try dsimp only at hw_120 hB
                rw [ht8] at hB
                have hP := hB
                generalize H1 = H at hP hS ⊢
                obtain ⟨fr_122, hAW_118, hv_119⟩ := hw_120
                refine lv_aload_n hx hb dX6_keepNumber_186 rfl (lv_at hl 1 rfl) ?_
                have f_123 : g_121 2080 = .inr (9, [.ref (ad 2081), .ref (ad 2082), .int (nI (L.length + 1)), .ref (ad 2083), .ref (ad 2077), .ref (ad 2107), .ref (ad (2 * 6))]) := (fr_122 2080 (by omega)).trans hO8
                refine m_get (D := (dC, dI)) (v := .ref (ad 2081)) (C := RX6) (T := TX6) (N := 7) hx hb hts bk0 hown hK hP 2080 (by decide) f_123 rfl 0 (by decide) (hts (.fieldLink RX6 11 "GradientDesk$Shelf" "parts" "[LGradientDesk$Part;") (List.mem_of_getElem? (i := 20) rfl)) (fun _ h9 => h9) rfl dX6_keepNumber_187 ?_
                refine lv_iload_n hx hb dX6_keepNumber_190 rfl (lv_at hl 0 rfl) ?_
                have f_124 : g_121 2081 = .inl (cA 2081, 200, .inr (.inr (.inr (.inr (fun j => some (ad (2117 + 2 * j))))))) := (fr_122 2081 (by omega)).trans f_111
                refine m_aald hx hb hK hP 2081 (by decide) rfl f_124 (i := L.length) (v := ad (2117 + 2 * L.length)) (by omega) (by decide) rfl dX6_keepNumber_191 ?_
                have f_125 : g_121 (2117 + 2 * L.length) = .inr (6, [.ref (ad (2118 + 2 * L.length)), .int (nI 0), .int (-1), .int (-1), .int (nI 0), .int (nI sn), .int (nI sd)]) := (fr_122 (2117 + 2 * L.length) (by omega)).trans hc9
                refine m_get (D := (dC, dI)) (v := .ref (ad (2118 + 2 * L.length))) (C := RX3) (T := TX3) (N := 7) hx hb hts bk5 hown hK hP (2117 + 2 * L.length) (ns_p (by omega)) f_125 rfl 0 (by decide) (hts (.fieldLink RX6 68 "GradientDesk$Part" "number" "LGradientDesk$Fraction;") (List.mem_of_getElem? (i := 21) rfl)) (fun _ h9 => h9) rfl dX6_keepNumber_192 ?_
                have f_126 : g_121 (2118 + 2 * L.length) = .inr (5, [.ref (ad (2 * (38 + 2 * L.length))), .ref (ad (2 * (39 + 2 * L.length)))]) := (fr_122 (2118 + 2 * L.length) (by omega)).trans f_113
                refine m_get (D := (dC, dI)) (v := .ref (ad (2 * (39 + 2 * L.length)))) (C := RX2) (T := TX2) (N := 2) hx hb hts bk1 hown hK hP (2118 + 2 * L.length) (ns_q (by omega)) f_126 rfl 1 (by decide) (hts (.fieldLink RX6 122 "GradientDesk$Fraction" "bottom" "LGradientDesk$Whole;") (List.mem_of_getElem? (i := 11) rfl)) (fun _ h9 => h9) rfl dX6_keepNumber_195 ?_
                refine lv_aload_n hx hb dX6_keepNumber_198 rfl (lv_at hl 1 rfl) ?_
                refine m_get (D := (dC, dI)) (v := .ref (ad 2107)) (C := RX6) (T := TX6) (N := 7) hx hb hts bk0 hown hK hP 2080 (by decide) f_123 rfl 5 (by decide) (hts (.fieldLink RX6 30 "GradientDesk$Shelf" "work" "LGradientDesk$Fraction;") (List.mem_of_getElem? (i := 1) rfl)) (fun _ h9 => h9) rfl dX6_keepNumber_199 ?_
                have f_127 : g_121 2107 = .inr (5, [.ref (ad (2 * 4)), .ref (ad (2 * 5))]) := (fr_122 2107 (by omega)).trans f_114
                refine m_get (D := (dC, dI)) (v := .ref (ad (2 * 5))) (C := RX2) (T := TX2) (N := 2) hx hb hts bk1 hown hK hP 2107 (by decide) f_127 rfl 1 (by decide) (hts (.fieldLink RX6 122 "GradientDesk$Fraction" "bottom" "LGradientDesk$Whole;") (List.mem_of_getElem? (i := 11) rfl)) (fun _ h9 => h9) rfl dX6_keepNumber_202 ?_
                obtain ⟨mw_128, sw_128, nw_128, fw_128, aw_128, bw_128, cw_128, dw_128, ew_128⟩ := hAW_118 (39 + 2 * L.length) (by omega)
                have qw_128 : mw_128 ≤ 4096 := by rw [dw_128]; exact rmc_le _
                have hv_129 : WV ad cA g_121 5 ((q9 : Nat) : Int) := WV.same w5 ((fun (k : Nat) (hk : k = 2 * 5 ∨ k = 2 * 5 + 1) => (fr_122 k (by omega)).trans ((fr_108 k (by omega)).trans (rfl))) _ (Or.inl rfl)) ((fun (k : Nat) (hk : k = 2 * 5 ∨ k = 2 * 5 + 1) => (fr_122 k (by omega)).trans ((fr_108 k (by omega)).trans (rfl))) _ (Or.inr rfl))
                refine va_callv (va_runV (As := [.ref (ad (2 * 5))]) (rest := []) ⟨hx, hb, hml, hown, hts⟩ (c_V8_become l dC dI A ad cA g_121 (39 + 2 * L.length) 5 ((q9 : Nat) : Int) hAW_118 (by omega) (by decide) hv_129 (by omega) (by rw [rmc_part (by omega) (by omega), Int.natAbs_natCast]; exact fit13 (by omega))) (cwV 1 hts (goodIn_app (goodIn_r [Cond.methodLink RX6 118 yX8_become, Cond.instanceMethod yX8_become, Cond.selects RX8 yX8_become yX8_become, Cond.initialized RX8] [22, 23, 24, 6] rfl rfl) (goodIn_sub (fun w9 h9 => bk6 w9 h9) gw_V8_become)) rfl rfl rfl (by decide +kernel) ⟨Nat.le_of_ble_eq_true rfl, Nat.le_of_ble_eq_true rfl⟩) ⟨fun a U g mk q => ⟨q.1, q.2.1, q.2.2.1, LY.moved (u := U) (U := U.calling g mk a) (Vm.Alike.refl U.vm) q.2.2.2⟩, va_recv hK hP (ci := 11) (q0 := (2 * (39 + 2 * L.length))) rfl (wo_at (ns_w (by omega)) aw_128), fun U hU hW => ⟨rfl, by rw [hU]; exact fun q h => hA q (Nat.le_trans hS.1 h), by rw [hU]; exact hP, LY.moved hW.alike hL⟩⟩ rfl rfl hl.1 rfl (lv_room (Nat.le_of_ble_eq_true rfl)) dX6_keepNumber_205 ⟨(Nat.le_of_ble_eq_true rfl), (Nat.le_of_ble_eq_true rfl)⟩) hS (fun q _ h => h) (fun q h => h) (fun u8 t8 H1 locs ht8 hvm8 hw_132 hB hz1 hk1 hS => ?_)
                obtain ⟨g_133, rfl⟩ : ∃ z, z = u8 := ⟨_, rfl⟩
                try dsimp only at hw_132 hB
                rw [ht8] at hB
                have hP := hB
                generalize H1 = H at hP hS ⊢
                obtain ⟨fr_134, hAW_130, hv_131⟩ := hw_132
                refine lv_iload_n hx hb dX6_keepNumber_208 rfl (lv_at hl 0 rfl) ?_
                have hv_135 : WV ad cA g_133 (38 + 2 * L.length) p9 := WV.same hv_119 ((fun (k : Nat) (hk : k = 2 * (38 + 2 * L.length) ∨ k = 2 * (38 + 2 * L.length) + 1) => (fr_134 k (by omega)).trans (rfl)) _ (Or.inl rfl)) ((fun (k : Nat) (hk : k = 2 * (38 + 2 * L.length) ∨ k = 2 * (38 + 2 * L.length) + 1) => (fr_134 k (by omega)).trans (rfl)) _ (Or.inr rfl))
                have f_136 : g_133 2080 = .inr (9, [.ref (ad 2081), .ref (ad 2082), .int (nI (L.length + 1)), .ref (ad 2083), .ref (ad 2077), .ref (ad 2107), .ref (ad (2 * 6))]) := (fr_134 2080 (by omega)).trans f_123
                have f_137 : g_133 (2117 + 2 * L.length) = .inr (6, [.ref (ad (2118 + 2 * L.length)), .int (nI 0), .int (-1), .int (-1), .int (nI 0), .int (nI sn), .int (nI sd)]) := (fr_134 (2117 + 2 * L.length) (by omega)).trans f_125
                have hcs : CS ad cA g_133 (L ++ [dn]) := CS.lay hC hl9 hAW_130 f_136 f_137 (by rw [e0]; exact nI_iI 0) (by rw [e1]; decide) (by rw [e2]; decide) (by rw [e3]; exact nI_iI 0) (by rw [e4]; exact nI_iI _) (by rw [e5]; exact nI_iI _) (by omega) (fun (k : Nat) (hk : (76 ≤ k ∧ k < 76 + 4 * L.length) ∨ k = 2077 ∨ k = 2107 ∨ k = 2081 ∨ (2117 ≤ k ∧ k < 2517 ∧ k ≠ 2117 + 2 * L.length)) => (fr_134 k (by omega)).trans ((fr_122 k (by omega)).trans ((fr_108 k (by omega)).trans (rfl)))) (fun _ => ⟨by rw [e6]; exact hv_135, by rw [e7]; exact hv_131, e1, e2⟩)
                refine W.widen (k := 0) (n := 0) (by omega) (by omega) ?_
                exact W.iret (v := nI L.length) hx hb hr (fun t9 ht9 hW9 => ⟨⟨nI L.length, g_133, rfl, ⟨(fun (k : Nat) (hk : (14 ≤ k ∧ k < 76) ∨ (876 ≤ k ∧ k < 2080) ∨ (2081 ≤ k ∧ k < 2117)) => (fr_134 k (by omega)).trans ((fr_122 k (by omega)).trans ((fr_108 k (by omega)).trans (rfl)))), by rw [hnl]; exact CMK.new (keepL_new (by omega) (by omega) (fun j hj => hno j (by omega))) hcs⟩, by show va_P (dC, dI) vwCl _ t9.heap; rw [ht9]; exact hP⟩, hS.F ht9⟩) hS.2.2 dX6_keepNumber_209
            · have c_104 := mt (nI_leI (a := L.length) (b := i) (by omega) (by omega)).mpr c_104
              have hp0 := hpb 0 i
              refine lv_aload_n hx hb dX6_keepNumber_70 rfl (lv_at hl 0 rfl) ?_
              refine m_get (D := (dC, dI)) (v := .ref (ad 2081)) (C := RX6) (T := TX6) (N := 7) hx hb hts bk0 hown hK hP 2080 (by decide) hO rfl 0 (by decide) (hts (.fieldLink RX6 11 "GradientDesk$Shelf" "parts" "[LGradientDesk$Part;") (List.mem_of_getElem? (i := 20) rfl)) (fun _ h9 => h9) rfl dX6_keepNumber_71 ?_
              refine lv_iload_n hx hb dX6_keepNumber_74 rfl (lv_at hl 3 rfl) ?_
              refine m_aald hx hb hK hP 2081 (by decide) rfl hPa (i := i) (v := ad (2117 + 2 * i)) (by omega) (by decide) rfl dX6_keepNumber_75 ?_
              have hp_138 := hPt.1 i (by omega)
              refine m_get (D := (dC, dI)) (v := .ref (ad (2118 + 2 * i))) (C := RX3) (T := TX3) (N := 7) hx hb hts bk5 hown hK hP (2117 + 2 * i) (ns_p (by omega)) hp_138 rfl 0 (by decide) (hts (.fieldLink RX6 68 "GradientDesk$Part" "number" "LGradientDesk$Fraction;") (List.mem_of_getElem? (i := 21) rfl)) (fun _ h9 => h9) rfl dX6_keepNumber_76 ?_
              refine lv_astore (lv' := [(4, .ref (ad (2118 + 2 * i))), (0, .ref (ad 2080)), (1, .int (nI sn)), (2, .int (nI sd)), (3, .int (nI i))]) hx hb dX6_keepNumber_79 hl (by decide) rfl (fun ls hl => ?_)
              refine lv_aload hx hb dX6_keepNumber_81 (lv_at hl 0 rfl) ?_
              have hq_139 := hFr i (by omega)
              refine m_get (D := (dC, dI)) (v := .ref (ad (2 * (38 + 2 * i)))) (C := RX2) (T := TX2) (N := 2) hx hb hts bk1 hown hK hP (2118 + 2 * i) (ns_q (by omega)) hq_139 rfl 0 (by decide) (hts (.fieldLink RX6 112 "GradientDesk$Fraction" "top" "LGradientDesk$Whole;") (List.mem_of_getElem? (i := 2) rfl)) (fun _ h9 => h9) rfl dX6_keepNumber_83 ?_
              refine lv_aload_n hx hb dX6_keepNumber_86 rfl (lv_at hl 1 rfl) ?_
              refine m_get (D := (dC, dI)) (v := .ref (ad 2107)) (C := RX6) (T := TX6) (N := 7) hx hb hts bk0 hown hK hP 2080 (by decide) hO rfl 5 (by decide) (hts (.fieldLink RX6 30 "GradientDesk$Shelf" "work" "LGradientDesk$Fraction;") (List.mem_of_getElem? (i := 1) rfl)) (fun _ h9 => h9) rfl dX6_keepNumber_87 ?_
              refine m_get (D := (dC, dI)) (v := .ref (ad (2 * 4))) (C := RX2) (T := TX2) (N := 2) hx hb hts bk1 hown hK hP 2107 (by decide) hWk rfl 0 (by decide) (hts (.fieldLink RX6 112 "GradientDesk$Fraction" "top" "LGradientDesk$Whole;") (List.mem_of_getElem? (i := 2) rfl)) (fun _ h9 => h9) rfl dX6_keepNumber_90 ?_
              obtain ⟨m0, m1, m2, m3, m4, m5, m6⟩ := hM i (by omega)
              rcases Nat.eq_zero_or_pos (gd L i).1 with hnum | hnum
              · skip
                obtain ⟨n1, n2, n3, n4⟩ := m6 hnum
                clear m6
                obtain ⟨mw_140, sw_140, nw_140, fw_140, aw_140, bw_140, cw_140, dw_140, ew_140⟩ := hW (38 + 2 * i) (by omega)
                have qw_140 : mw_140 ≤ 4096 := by rw [dw_140]; exact rmc_le _
                refine va_calli (va_runV (As := [.ref (ad (2 * 4))]) (rest := []) ⟨hx, hb, hml, hown, hts⟩ (c_V8_equalTo l dC dI A ad cA g (38 + 2 * i) 4 ((gd L i).2.2.2.2.2.2.1) p9 hW (by omega) (by decide) n1 w4) (cwV 1 hts (goodIn_app (goodIn_r [Cond.methodLink RX6 138 yX8_equalTo, Cond.instanceMethod yX8_equalTo, Cond.selects RX8 yX8_equalTo yX8_equalTo, Cond.initialized RX8] [25, 26, 27, 6] rfl rfl) (goodIn_sub (fun w9 h9 => bk7 w9 h9) gw_V8_equalTo)) rfl rfl rfl (by decide +kernel) ⟨Nat.le_of_ble_eq_true rfl, Nat.le_of_ble_eq_true rfl⟩) ⟨fun a U g mk q => ⟨q.1, q.2.1, q.2.2.1, LY.moved (u := U) (U := U.calling g mk a) (Vm.Alike.refl U.vm) q.2.2.2⟩, va_recv hK hP (ci := 11) (q0 := (2 * (38 + 2 * i))) rfl (wo_at (ns_w (by omega)) aw_140), fun U hU hW => ⟨rfl, by rw [hU]; exact fun q h => hA q (Nat.le_trans hS.1 h), by rw [hU]; exact hP, LY.moved hW.alike hL⟩⟩ rfl rfl hl.1 rfl (lv_room (Nat.le_of_ble_eq_true rfl)) dX6_keepNumber_93 ⟨(Nat.le_of_ble_eq_true rfl), (Nat.le_of_ble_eq_true rfl)⟩) hS (fun q _ h => h) (fun q h => h) (fun r_141 u8 t8 H1 locs ht8 hvm8 hw_142 hB hz1 hk1 hS => ?_)
                obtain ⟨⟩ := u8
                try dsimp only at hw_142 hB
                rw [ht8] at hB
                have hP := hB
                generalize H1 = H at hP hS ⊢
                obtain ⟨b1, hb8, rfl, he1⟩ := eq01 hw_142
                refine lv_if_eq (tgt := 121) hx hb dX6_keepNumber_96 (by decide) (fun c_143 => ?_) (fun c_143 => ?_)
                · have c_143 := (nI_eq (a := b1) (b := 0) (by omega) (by decide)).mp c_143
                  refine lv_iconst (v := nI 0) hx hb dX6_keepNumber_121 (by decide +kernel) ?_
                  refine lv_istore (lv' := [(5, .int (nI 0)), (4, .ref (ad (2118 + 2 * i))), (0, .ref (ad 2080)), (1, .int (nI sn)), (2, .int (nI sd)), (3, .int (nI i))]) hx hb dX6_keepNumber_122 hl (by decide) rfl (fun ls hl => ?_)
                  refine lv_iload hx hb dX6_keepNumber_124 (lv_at hl 0 rfl) ?_
                  refine lv_if_eq (tgt := 143) hx hb dX6_keepNumber_126 (by decide) (fun c_144 => ?_) (fun c_144 => absurd c_144 (by decide))
                  refine lv_iinc (v := nI (i + 1)) (lv' := [(3, .int (nI (i + 1))), (5, .int (nI 0)), (4, .ref (ad (2118 + 2 * i))), (0, .ref (ad 2080)), (1, .int (nI sn)), (2, .int (nI sd))]) hx hb dX6_keepNumber_143 hl (k := 5) rfl (nI_add i 1) (by decide) rfl (fun ls hl => ?_)
                  refine lv_goto (tgt := 62) hx hb dX6_keepNumber_146 (by decide) ?_
                  exact ih_101 (i + 1) (by omega) (by omega) (fun j hj => by by_cases h9 : j = i; subst h9; exact (k_nky m0 m1 m2 rfl rfl rfl (fun _ _ _ => ⟨hnum, fun hp9 hq9 => by have x1 := he1.mpr (hp9.trans e6); omega⟩)); exact hno j (by omega)) _ _ _ hP hS (lv_sub (l' := [(0, .ref (ad 2080)), (1, .int (nI sn)), (2, .int (nI sd)), (3, .int (nI (i + 1)))]) hl [3, 4, 5, 0] rfl)
                · have c_143 := mt (nI_eq (a := b1) (b := 0) (by omega) (by decide)).mpr c_143
                  refine lv_aload hx hb dX6_keepNumber_99 (lv_at hl 0 rfl) ?_
                  refine m_get (D := (dC, dI)) (v := .ref (ad (2 * (39 + 2 * i)))) (C := RX2) (T := TX2) (N := 2) hx hb hts bk1 hown hK hP (2118 + 2 * i) (ns_q (by omega)) hq_139 rfl 1 (by decide) (hts (.fieldLink RX6 122 "GradientDesk$Fraction" "bottom" "LGradientDesk$Whole;") (List.mem_of_getElem? (i := 11) rfl)) (fun _ h9 => h9) rfl dX6_keepNumber_101 ?_
                  refine lv_aload_n hx hb dX6_keepNumber_104 rfl (lv_at hl 1 rfl) ?_
                  refine m_get (D := (dC, dI)) (v := .ref (ad 2107)) (C := RX6) (T := TX6) (N := 7) hx hb hts bk0 hown hK hP 2080 (by decide) hO rfl 5 (by decide) (hts (.fieldLink RX6 30 "GradientDesk$Shelf" "work" "LGradientDesk$Fraction;") (List.mem_of_getElem? (i := 1) rfl)) (fun _ h9 => h9) rfl dX6_keepNumber_105 ?_
                  refine m_get (D := (dC, dI)) (v := .ref (ad (2 * 5))) (C := RX2) (T := TX2) (N := 2) hx hb hts bk1 hown hK hP 2107 (by decide) hWk rfl 1 (by decide) (hts (.fieldLink RX6 122 "GradientDesk$Fraction" "bottom" "LGradientDesk$Whole;") (List.mem_of_getElem? (i := 11) rfl)) (fun _ h9 => h9) rfl dX6_keepNumber_108 ?_
                  obtain ⟨mw_147, sw_147, nw_147, fw_147, aw_147, bw_147, cw_147, dw_147, ew_147⟩ := hW (39 + 2 * i) (by omega)
                  have qw_147 : mw_147 ≤ 4096 := by rw [dw_147]; exact rmc_le _
                  refine va_calli (va_runV (As := [.ref (ad (2 * 5))]) (rest := []) ⟨hx, hb, hml, hown, hts⟩ (c_V8_equalTo l dC dI A ad cA g (39 + 2 * i) 5 (((gd L i).2.2.2.2.2.2.2 : Nat) : Int) ((q9 : Nat) : Int) hW (by omega) (by decide) n2 w5) (cwV 1 hts (goodIn_app (goodIn_r [Cond.methodLink RX6 138 yX8_equalTo, Cond.instanceMethod yX8_equalTo, Cond.selects RX8 yX8_equalTo yX8_equalTo, Cond.initialized RX8] [25, 26, 27, 6] rfl rfl) (goodIn_sub (fun w9 h9 => bk7 w9 h9) gw_V8_equalTo)) rfl rfl rfl (by decide +kernel) ⟨Nat.le_of_ble_eq_true rfl, Nat.le_of_ble_eq_true rfl⟩) ⟨fun a U g mk q => ⟨q.1, q.2.1, q.2.2.1, LY.moved (u := U) (U := U.calling g mk a) (Vm.Alike.refl U.vm) q.2.2.2⟩, va_recv hK hP (ci := 11) (q0 := (2 * (39 + 2 * i))) rfl (wo_at (ns_w (by omega)) aw_147), fun U hU hW => ⟨rfl, by rw [hU]; exact fun q h => hA q (Nat.le_trans hS.1 h), by rw [hU]; exact hP, LY.moved hW.alike hL⟩⟩ rfl rfl hl.1 rfl (lv_room (Nat.le_of_ble_eq_true rfl)) dX6_keepNumber_111 ⟨(Nat.le_of_ble_eq_true rfl), (Nat.le_of_ble_eq_true rfl)⟩) hS (fun q _ h => h) (fun q h => h) (fun r_148 u8 t8 H1 locs ht8 hvm8 hw_149 hB hz1 hk1 hS => ?_)
                  obtain ⟨⟩ := u8
                  try dsimp only at hw_149 hB
                  rw [ht8] at hB
                  have hP := hB
                  generalize H1 = H at hP hS ⊢
                  obtain ⟨b2, hb9, rfl, he2⟩ := eq01 hw_149
                  refine lv_if_eq (tgt := 121) hx hb dX6_keepNumber_114 (by decide) (fun c_150 => ?_) (fun c_150 => ?_)
                  · have c_150 := (nI_eq (a := b2) (b := 0) (by omega) (by decide)).mp c_150
                    refine lv_iconst (v := nI 0) hx hb dX6_keepNumber_121 (by decide +kernel) ?_
                    refine lv_istore (lv' := [(5, .int (nI 0)), (4, .ref (ad (2118 + 2 * i))), (0, .ref (ad 2080)), (1, .int (nI sn)), (2, .int (nI sd)), (3, .int (nI i))]) hx hb dX6_keepNumber_122 hl (by decide) rfl (fun ls hl => ?_)
                    refine lv_iload hx hb dX6_keepNumber_124 (lv_at hl 0 rfl) ?_
                    refine lv_if_eq (tgt := 143) hx hb dX6_keepNumber_126 (by decide) (fun c_151 => ?_) (fun c_151 => absurd c_151 (by decide))
                    refine lv_iinc (v := nI (i + 1)) (lv' := [(3, .int (nI (i + 1))), (5, .int (nI 0)), (4, .ref (ad (2118 + 2 * i))), (0, .ref (ad 2080)), (1, .int (nI sn)), (2, .int (nI sd))]) hx hb dX6_keepNumber_143 hl (k := 5) rfl (nI_add i 1) (by decide) rfl (fun ls hl => ?_)
                    refine lv_goto (tgt := 62) hx hb dX6_keepNumber_146 (by decide) ?_
                    exact ih_101 (i + 1) (by omega) (by omega) (fun j hj => by by_cases h9 : j = i; subst h9; exact (k_nky m0 m1 m2 rfl rfl rfl (fun _ _ _ => ⟨hnum, fun hp9 hq9 => by have x1 := he1.mpr (hp9.trans e6); have x2 := he2.mpr (by rw [hq9, e7]); omega⟩)); exact hno j (by omega)) _ _ _ hP hS (lv_sub (l' := [(0, .ref (ad 2080)), (1, .int (nI sn)), (2, .int (nI sd)), (3, .int (nI (i + 1)))]) hl [3, 4, 5, 0] rfl)
                  · have c_150 := mt (nI_eq (a := b2) (b := 0) (by omega) (by decide)).mpr c_150
                    refine lv_iconst (v := nI 1) hx hb dX6_keepNumber_117 (by decide +kernel) ?_
                    refine lv_goto (tgt := 122) hx hb dX6_keepNumber_118 (by decide) ?_
                    refine lv_istore (lv' := [(5, .int (nI 1)), (4, .ref (ad (2118 + 2 * i))), (0, .ref (ad 2080)), (1, .int (nI sn)), (2, .int (nI sd)), (3, .int (nI i))]) hx hb dX6_keepNumber_122 hl (by decide) rfl (fun ls hl => ?_)
                    refine lv_iload hx hb dX6_keepNumber_124 (lv_at hl 0 rfl) ?_
                    refine lv_if_eq (tgt := 143) hx hb dX6_keepNumber_126 (by decide) (fun c_154 => absurd c_154 (by decide)) (fun c_154 => ?_)
                    refine lv_aload_n hx hb dX6_keepNumber_129 rfl (lv_at hl 2 rfl) ?_
                    refine m_get (D := (dC, dI)) (v := .ref (ad 2081)) (C := RX6) (T := TX6) (N := 7) hx hb hts bk0 hown hK hP 2080 (by decide) hO rfl 0 (by decide) (hts (.fieldLink RX6 11 "GradientDesk$Shelf" "parts" "[LGradientDesk$Part;") (List.mem_of_getElem? (i := 20) rfl)) (fun _ h9 => h9) rfl dX6_keepNumber_130 ?_
                    refine lv_iload_n hx hb dX6_keepNumber_133 rfl (lv_at hl 5 rfl) ?_
                    refine m_aald hx hb hK hP 2081 (by decide) rfl hPa (i := i) (v := ad (2117 + 2 * i)) (by omega) (by decide) rfl dX6_keepNumber_134 ?_
                    refine m_get (D := (dC, dI)) (v := .int (iI (pt 0 i))) (C := RX3) (T := TX3) (N := 7) hx hb hts bk5 hown hK hP (2117 + 2 * i) (ns_p (by omega)) hp_138 rfl 1 (by decide) (hts (.fieldLink RX6 64 "GradientDesk$Part" "sort" "I") (List.mem_of_getElem? (i := 28) rfl)) (fun _ h9 => h9) rfl dX6_keepNumber_135 ?_
                    refine lv_if_ne (tgt := 143) hx hb dX6_keepNumber_138 (by decide) (fun c_155 => ?_) (fun c_155 => ?_)
                    · have c_155 := mt (k_iEQ (a := pt 0 i) (b := 0) rfl (show nI 0 = iI 0 from by decide) (by omega) (by omega)).mpr c_155
                      refine lv_iinc (v := nI (i + 1)) (lv' := [(3, .int (nI (i + 1))), (5, .int (nI 1)), (4, .ref (ad (2118 + 2 * i))), (0, .ref (ad 2080)), (1, .int (nI sn)), (2, .int (nI sd))]) hx hb dX6_keepNumber_143 hl (k := 5) rfl (nI_add i 1) (by decide) rfl (fun ls hl => ?_)
                      refine lv_goto (tgt := 62) hx hb dX6_keepNumber_146 (by decide) ?_
                      exact ih_101 (i + 1) (by omega) (by omega) (fun j hj => by by_cases h9 : j = i; subst h9; exact (k_nky m0 m1 m2 rfl rfl rfl (fun _ _ _ => ⟨hnum, fun hp9 hq9 => by have x1 := he1.mpr (hp9.trans e6); have x2 := he2.mpr (by rw [hq9, e7]); omega⟩)); exact hno j (by omega)) _ _ _ hP hS (lv_sub (l' := [(0, .ref (ad 2080)), (1, .int (nI sn)), (2, .int (nI sd)), (3, .int (nI (i + 1)))]) hl [3, 4, 5, 0] rfl)
                    · have c_155 := (k_iEQ (a := pt 0 i) (b := 0) rfl (show nI 0 = iI 0 from by decide) (by omega) (by omega)).mp c_155
                      refine lv_iload_n hx hb dX6_keepNumber_141 rfl (lv_at hl 5 rfl) ?_
                      refine W.widen (k := 0) (n := 0) (by omega) (by omega) ?_
                      exact W.iret (v := nI i) hx hb hr (fun t9 ht9 hW9 => ⟨⟨nI i, g, rfl, ⟨(fun (k : Nat) (hk : (14 ≤ k ∧ k < 76) ∨ (876 ≤ k ∧ k < 2080) ∨ (2081 ≤ k ∧ k < 2117)) => rfl), by rw [hnl]; exact CMK.old (keepL_old (by omega) (by omega) (k_ky m0 m1 m2 rfl rfl rfl (by omega) (by rw [m1, e1]; exact n3) (by rw [m2, e2]; exact n4) (fun _ => ⟨(he1.mp (by omega)).trans e6.symm, by have x2 := he2.mp (by omega); omega⟩)) hno) (by omega) hC⟩, by show va_P (dC, dI) vwCl _ t9.heap; rw [ht9]; exact hP⟩, hS.F ht9⟩) hS.2.2 dX6_keepNumber_142
              · skip
                clear m6
                obtain ⟨mw_158, sw_158, nw_158, fw_158, aw_158, bw_158, cw_158, dw_158, ew_158⟩ := hW (38 + 2 * i) (by omega)
                have qw_158 : mw_158 ≤ 4096 := by rw [dw_158]; exact rmc_le _
                refine va_calli (va_runV (As := [.ref (ad (2 * 4))]) (rest := []) ⟨hx, hb, hml, hown, hts⟩ (c_X8_equalTo l dC dI A ad cA g (38 + 2 * i) 4 hW (by omega) (by decide)) (cwV 1 hts (goodIn_app (goodIn_r [Cond.methodLink RX6 138 yX8_equalTo, Cond.instanceMethod yX8_equalTo, Cond.selects RX8 yX8_equalTo yX8_equalTo, Cond.initialized RX8] [25, 26, 27, 6] rfl rfl) (goodIn_sub (fun w9 h9 => bk8 w9 h9) gw_X8_equalTo)) rfl rfl rfl (by decide +kernel) ⟨Nat.le_of_ble_eq_true rfl, Nat.le_of_ble_eq_true rfl⟩) ⟨fun a U g mk q => ⟨q.1, q.2.1, q.2.2.1, LY.moved (u := U) (U := U.calling g mk a) (Vm.Alike.refl U.vm) q.2.2.2⟩, va_recv hK hP (ci := 11) (q0 := (2 * (38 + 2 * i))) rfl (wo_at (ns_w (by omega)) aw_158), fun U hU hW => ⟨rfl, by rw [hU]; exact fun q h => hA q (Nat.le_trans hS.1 h), by rw [hU]; exact hP, LY.moved hW.alike hL⟩⟩ rfl rfl hl.1 rfl (lv_room (Nat.le_of_ble_eq_true rfl)) dX6_keepNumber_93 ⟨(Nat.le_of_ble_eq_true rfl), (Nat.le_of_ble_eq_true rfl)⟩) hS (fun q _ h => h) (fun q h => h) (fun r_159 u8 t8 H1 locs ht8 hvm8 hw_160 hB hz1 hk1 hS => ?_)
                obtain ⟨⟩ := u8
                try dsimp only at hw_160 hB
                rw [ht8] at hB
                have hP := hB
                generalize H1 = H at hP hS ⊢
                obtain ⟨b1, hb8, rfl⟩ := hw_160
                refine lv_if_eq (tgt := 121) hx hb dX6_keepNumber_96 (by decide) (fun c_161 => ?_) (fun c_161 => ?_)
                · have c_161 := (nI_eq (a := b1) (b := 0) (by omega) (by decide)).mp c_161
                  refine lv_iconst (v := nI 0) hx hb dX6_keepNumber_121 (by decide +kernel) ?_
                  refine lv_istore (lv' := [(5, .int (nI 0)), (4, .ref (ad (2118 + 2 * i))), (0, .ref (ad 2080)), (1, .int (nI sn)), (2, .int (nI sd)), (3, .int (nI i))]) hx hb dX6_keepNumber_122 hl (by decide) rfl (fun ls hl => ?_)
                  refine lv_iload hx hb dX6_keepNumber_124 (lv_at hl 0 rfl) ?_
                  refine lv_if_eq (tgt := 143) hx hb dX6_keepNumber_126 (by decide) (fun c_162 => ?_) (fun c_162 => absurd c_162 (by decide))
                  refine lv_iinc (v := nI (i + 1)) (lv' := [(3, .int (nI (i + 1))), (5, .int (nI 0)), (4, .ref (ad (2118 + 2 * i))), (0, .ref (ad 2080)), (1, .int (nI sn)), (2, .int (nI sd))]) hx hb dX6_keepNumber_143 hl (k := 5) rfl (nI_add i 1) (by decide) rfl (fun ls hl => ?_)
                  refine lv_goto (tgt := 62) hx hb dX6_keepNumber_146 (by decide) ?_
                  exact ih_101 (i + 1) (by omega) (by omega) (fun j hj => by by_cases h9 : j = i; subst h9; exact (k_nky m0 m1 m2 rfl rfl rfl (fun h0 _ _ => (by omega : False).elim)); exact hno j (by omega)) _ _ _ hP hS (lv_sub (l' := [(0, .ref (ad 2080)), (1, .int (nI sn)), (2, .int (nI sd)), (3, .int (nI (i + 1)))]) hl [3, 4, 5, 0] rfl)
                · have c_161 := mt (nI_eq (a := b1) (b := 0) (by omega) (by decide)).mpr c_161
                  refine lv_aload hx hb dX6_keepNumber_99 (lv_at hl 0 rfl) ?_
                  refine m_get (D := (dC, dI)) (v := .ref (ad (2 * (39 + 2 * i)))) (C := RX2) (T := TX2) (N := 2) hx hb hts bk1 hown hK hP (2118 + 2 * i) (ns_q (by omega)) hq_139 rfl 1 (by decide) (hts (.fieldLink RX6 122 "GradientDesk$Fraction" "bottom" "LGradientDesk$Whole;") (List.mem_of_getElem? (i := 11) rfl)) (fun _ h9 => h9) rfl dX6_keepNumber_101 ?_
                  refine lv_aload_n hx hb dX6_keepNumber_104 rfl (lv_at hl 1 rfl) ?_
                  refine m_get (D := (dC, dI)) (v := .ref (ad 2107)) (C := RX6) (T := TX6) (N := 7) hx hb hts bk0 hown hK hP 2080 (by decide) hO rfl 5 (by decide) (hts (.fieldLink RX6 30 "GradientDesk$Shelf" "work" "LGradientDesk$Fraction;") (List.mem_of_getElem? (i := 1) rfl)) (fun _ h9 => h9) rfl dX6_keepNumber_105 ?_
                  refine m_get (D := (dC, dI)) (v := .ref (ad (2 * 5))) (C := RX2) (T := TX2) (N := 2) hx hb hts bk1 hown hK hP 2107 (by decide) hWk rfl 1 (by decide) (hts (.fieldLink RX6 122 "GradientDesk$Fraction" "bottom" "LGradientDesk$Whole;") (List.mem_of_getElem? (i := 11) rfl)) (fun _ h9 => h9) rfl dX6_keepNumber_108 ?_
                  obtain ⟨mw_165, sw_165, nw_165, fw_165, aw_165, bw_165, cw_165, dw_165, ew_165⟩ := hW (39 + 2 * i) (by omega)
                  have qw_165 : mw_165 ≤ 4096 := by rw [dw_165]; exact rmc_le _
                  refine va_calli (va_runV (As := [.ref (ad (2 * 5))]) (rest := []) ⟨hx, hb, hml, hown, hts⟩ (c_X8_equalTo l dC dI A ad cA g (39 + 2 * i) 5 hW (by omega) (by decide)) (cwV 1 hts (goodIn_app (goodIn_r [Cond.methodLink RX6 138 yX8_equalTo, Cond.instanceMethod yX8_equalTo, Cond.selects RX8 yX8_equalTo yX8_equalTo, Cond.initialized RX8] [25, 26, 27, 6] rfl rfl) (goodIn_sub (fun w9 h9 => bk8 w9 h9) gw_X8_equalTo)) rfl rfl rfl (by decide +kernel) ⟨Nat.le_of_ble_eq_true rfl, Nat.le_of_ble_eq_true rfl⟩) ⟨fun a U g mk q => ⟨q.1, q.2.1, q.2.2.1, LY.moved (u := U) (U := U.calling g mk a) (Vm.Alike.refl U.vm) q.2.2.2⟩, va_recv hK hP (ci := 11) (q0 := (2 * (39 + 2 * i))) rfl (wo_at (ns_w (by omega)) aw_165), fun U hU hW => ⟨rfl, by rw [hU]; exact fun q h => hA q (Nat.le_trans hS.1 h), by rw [hU]; exact hP, LY.moved hW.alike hL⟩⟩ rfl rfl hl.1 rfl (lv_room (Nat.le_of_ble_eq_true rfl)) dX6_keepNumber_111 ⟨(Nat.le_of_ble_eq_true rfl), (Nat.le_of_ble_eq_true rfl)⟩) hS (fun q _ h => h) (fun q h => h) (fun r_166 u8 t8 H1 locs ht8 hvm8 hw_167 hB hz1 hk1 hS => ?_)
                  obtain ⟨⟩ := u8
                  try dsimp only at hw_167 hB
                  rw [ht8] at hB
                  have hP := hB
                  generalize H1 = H at hP hS ⊢
                  obtain ⟨b2, hb9, rfl⟩ := hw_167
                  refine lv_if_eq (tgt := 121) hx hb dX6_keepNumber_114 (by decide) (fun c_168 => ?_) (fun c_168 => ?_)
                  · have c_168 := (nI_eq (a := b2) (b := 0) (by omega) (by decide)).mp c_168
                    refine lv_iconst (v := nI 0) hx hb dX6_keepNumber_121 (by decide +kernel) ?_
                    refine lv_istore (lv' := [(5, .int (nI 0)), (4, .ref (ad (2118 + 2 * i))), (0, .ref (ad 2080)), (1, .int (nI sn)), (2, .int (nI sd)), (3, .int (nI i))]) hx hb dX6_keepNumber_122 hl (by decide) rfl (fun ls hl => ?_)
                    refine lv_iload hx hb dX6_keepNumber_124 (lv_at hl 0 rfl) ?_
                    refine lv_if_eq (tgt := 143) hx hb dX6_keepNumber_126 (by decide) (fun c_169 => ?_) (fun c_169 => absurd c_169 (by decide))
                    refine lv_iinc (v := nI (i + 1)) (lv' := [(3, .int (nI (i + 1))), (5, .int (nI 0)), (4, .ref (ad (2118 + 2 * i))), (0, .ref (ad 2080)), (1, .int (nI sn)), (2, .int (nI sd))]) hx hb dX6_keepNumber_143 hl (k := 5) rfl (nI_add i 1) (by decide) rfl (fun ls hl => ?_)
                    refine lv_goto (tgt := 62) hx hb dX6_keepNumber_146 (by decide) ?_
                    exact ih_101 (i + 1) (by omega) (by omega) (fun j hj => by by_cases h9 : j = i; subst h9; exact (k_nky m0 m1 m2 rfl rfl rfl (fun h0 _ _ => (by omega : False).elim)); exact hno j (by omega)) _ _ _ hP hS (lv_sub (l' := [(0, .ref (ad 2080)), (1, .int (nI sn)), (2, .int (nI sd)), (3, .int (nI (i + 1)))]) hl [3, 4, 5, 0] rfl)
                  · have c_168 := mt (nI_eq (a := b2) (b := 0) (by omega) (by decide)).mpr c_168
                    refine lv_iconst (v := nI 1) hx hb dX6_keepNumber_117 (by decide +kernel) ?_
                    refine lv_goto (tgt := 122) hx hb dX6_keepNumber_118 (by decide) ?_
                    refine lv_istore (lv' := [(5, .int (nI 1)), (4, .ref (ad (2118 + 2 * i))), (0, .ref (ad 2080)), (1, .int (nI sn)), (2, .int (nI sd)), (3, .int (nI i))]) hx hb dX6_keepNumber_122 hl (by decide) rfl (fun ls hl => ?_)
                    refine lv_iload hx hb dX6_keepNumber_124 (lv_at hl 0 rfl) ?_
                    refine lv_if_eq (tgt := 143) hx hb dX6_keepNumber_126 (by decide) (fun c_172 => absurd c_172 (by decide)) (fun c_172 => ?_)
                    refine lv_aload_n hx hb dX6_keepNumber_129 rfl (lv_at hl 2 rfl) ?_
                    refine m_get (D := (dC, dI)) (v := .ref (ad 2081)) (C := RX6) (T := TX6) (N := 7) hx hb hts bk0 hown hK hP 2080 (by decide) hO rfl 0 (by decide) (hts (.fieldLink RX6 11 "GradientDesk$Shelf" "parts" "[LGradientDesk$Part;") (List.mem_of_getElem? (i := 20) rfl)) (fun _ h9 => h9) rfl dX6_keepNumber_130 ?_
                    refine lv_iload_n hx hb dX6_keepNumber_133 rfl (lv_at hl 5 rfl) ?_
                    refine m_aald hx hb hK hP 2081 (by decide) rfl hPa (i := i) (v := ad (2117 + 2 * i)) (by omega) (by decide) rfl dX6_keepNumber_134 ?_
                    refine m_get (D := (dC, dI)) (v := .int (iI (pt 0 i))) (C := RX3) (T := TX3) (N := 7) hx hb hts bk5 hown hK hP (2117 + 2 * i) (ns_p (by omega)) hp_138 rfl 1 (by decide) (hts (.fieldLink RX6 64 "GradientDesk$Part" "sort" "I") (List.mem_of_getElem? (i := 28) rfl)) (fun _ h9 => h9) rfl dX6_keepNumber_135 ?_
                    refine lv_if_ne (tgt := 143) hx hb dX6_keepNumber_138 (by decide) (fun c_173 => ?_) (fun c_173 => ?_)
                    · have c_173 := mt (k_iEQ (a := pt 0 i) (b := 0) rfl (show nI 0 = iI 0 from by decide) (by omega) (by omega)).mpr c_173
                      refine lv_iinc (v := nI (i + 1)) (lv' := [(3, .int (nI (i + 1))), (5, .int (nI 1)), (4, .ref (ad (2118 + 2 * i))), (0, .ref (ad 2080)), (1, .int (nI sn)), (2, .int (nI sd))]) hx hb dX6_keepNumber_143 hl (k := 5) rfl (nI_add i 1) (by decide) rfl (fun ls hl => ?_)
                      refine lv_goto (tgt := 62) hx hb dX6_keepNumber_146 (by decide) ?_
                      exact ih_101 (i + 1) (by omega) (by omega) (fun j hj => by by_cases h9 : j = i; subst h9; exact (k_nky m0 m1 m2 rfl rfl rfl (fun h0 _ _ => (by omega : False).elim)); exact hno j (by omega)) _ _ _ hP hS (lv_sub (l' := [(0, .ref (ad 2080)), (1, .int (nI sn)), (2, .int (nI sd)), (3, .int (nI (i + 1)))]) hl [3, 4, 5, 0] rfl)
                    · have c_173 := (k_iEQ (a := pt 0 i) (b := 0) rfl (show nI 0 = iI 0 from by decide) (by omega) (by omega)).mp c_173
                      refine lv_iload_n hx hb dX6_keepNumber_141 rfl (lv_at hl 5 rfl) ?_
                      refine W.widen (k := 0) (n := 0) (by omega) (by omega) ?_
                      exact W.iret (v := nI i) hx hb hr (fun t9 ht9 hW9 => ⟨⟨nI i, g, rfl, ⟨(fun (k : Nat) (hk : (14 ≤ k ∧ k < 76) ∨ (876 ≤ k ∧ k < 2080) ∨ (2081 ≤ k ∧ k < 2117)) => rfl), by rw [hnl]; exact (by omega : False).elim⟩, by show va_P (dC, dI) vwCl _ t9.heap; rw [ht9]; exact hP⟩, hS.F ht9⟩) hS.2.2 dX6_keepNumber_142
        exact loop_100 _ 0 (Nat.lt_succ_self _) (Nat.zero_le _) (fun j h => absurd h (by omega)) _ _ _ hP hS (lv_sub (l' := [(0, .ref (ad 2080)), (1, .int (nI sn)), (2, .int (nI sd)), (3, .int (nI 0))]) hl [3, 2, 1, 0] rfl)
      · have c_99 := mt (nI_leI (a := sd) (b := 400) (by omega) (by decide)).mpr c_99
        refine lv_bipush (v := -3) hx hb dX6_keepNumber_57 (by decide +kernel) ?_
        refine W.widen (k := 0) (n := 0) (by omega) (by omega) ?_
        exact W.iret (v := -3) hx hb hr (fun t9 ht9 hW9 => ⟨⟨-3, g, rfl, ⟨(fun (k : Nat) (hk : (14 ≤ k ∧ k < 76) ∨ (876 ≤ k ∧ k < 2080) ∨ (2081 ≤ k ∧ k < 2117)) => rfl), by rw [hnl]; exact CMK.bad (n := -3) (by decide) (keepL_big (by omega)) (Or.inl rfl) hC⟩, by show va_P (dC, dI) vwCl _ t9.heap; rw [ht9]; exact hP⟩, hS.F ht9⟩) hS.2.2 dX6_keepNumber_59
