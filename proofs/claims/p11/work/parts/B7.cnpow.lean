def wd_V6_npow : List Cond := .code yX6_makeNumberPower cX6_makeNumberPower 4 (some .int) :: (([.fieldLink RX6 30 "GradientDesk$Shelf" "work" "LGradientDesk$Fraction;", .methodLink RX6 46 yX2_becomeRatio, .instanceMethod yX2_becomeRatio, .selects RX2 yX2_becomeRatio yX2_becomeRatio, .initialized RX2, .methodLink RX6 50 yX6_keepNumber, .instanceMethod yX6_keepNumber, .selects RX6 yX6_keepNumber yX6_keepNumber, .initialized RX6, .fieldLink RX6 37 "GradientDesk$Shelf" "hold" "LGradientDesk$Whole;", .fieldLink RX6 112 "GradientDesk$Fraction" "top" "LGradientDesk$Whole;", .methodLink RX6 115 yX8_multiply, .instanceMethod yX8_multiply, .selects RX8 yX8_multiply yX8_multiply, .initialized RX8, .methodLink RX6 118 yX8_become, .instanceMethod yX8_become, .selects RX8 yX8_become yX8_become, .fieldLink RX6 122 "GradientDesk$Fraction" "bottom" "LGradientDesk$Whole;", .methodLink RX6 125 yX8_bitLength, .instanceMethod yX8_bitLength, .selects RX8 yX8_bitLength yX8_bitLength] : List Cond) ++ (u_ws RX6 TX6 7 ++ (wd_V2_becomeRatio ++ (wd_V6_keepNumber ++ (u_ws RX2 TX2 2 ++ (wd_V8_multiply ++ (wd_V8_become ++ (wd_V8_bitLength ++ ([])))))))))
theorem gw_V6_npow : wd_V6_npow.all goodWord = true := k_allc rfl (k_all (by decide +kernel) (k_all (gu_X6) (k_all (gw_V2_becomeRatio) (k_all (gw_V6_keepNumber) (k_all (gu_X2) (k_all (gw_V8_multiply) (k_all (gw_V8_become) (k_all (gw_V8_bitLength) (rfl)))))))))
set_option maxHeartbeats 4000000 in
set_option maxRecDepth 100000 in
theorem c_V6_npow (l : Launch) (dC : Nat → ClassId) (dI : Nat → Nat → Nat) (A : Nat → Prop) (ad : Nat → Nat) (cA : Nat → ClassId) (g : Nat → va_E) (L : List PD) (x1 : Nat) (e9 : Nat) (hC : CS ad cA g L) (hWf : WFL L) (ix : x1 < L.length) (n0 : (gd L x1).1 = 0) (he9 : e9 ≤ 9) : Met l yX6_makeNumberPower wd_V6_npow ({ frames := 40, cells := 0, slots := 0, locals := 800 }) (va_Pc [.ref (ad 2080), .ref (ad (2118 + 2 * x1)), .int (nI e9)] (PR NSc tyc dC dI A ad cA g)) (va_Qi (fun (r : Int32) => fun (u : Nat → va_E) => match u with | g2 => (∀ k, (14 ≤ k ∧ k < 76) ∨ (876 ≤ k ∧ k < 2080) ∨ (2081 ≤ k ∧ k < 2117) → g2 k = g k) ∧ CMK ad cA g2 (numL L ((gd L x1).2.2.2.2.2.2.1 ^ e9) ((gd L x1).2.2.2.2.2.2.2 ^ e9)) r) (fun (u : Nat → va_E) (t : State) => va_P (dC, dI) vwCl (wo ad NSc u) t.heap) A) (0) (0) A := by
  refine Met.ofW (cc := cX6_makeNumberPower) (maxL := 4) (ret := (some .int)) (by decide) rfl ?_
  intro p e s m args below meth c s₁ B hml hv
  obtain ⟨rfl, hA, hP, hL⟩ := hv
  have hx := B.exec
  have hb := B.bytes
  have hr := B.returns
  have hts := atoms_spec (ws := wd_V6_npow) B.pre
  have hown : s.vm.findClass RX6 = some m.cls := findClass_of_methodNamed B.named
  have hlocks := B.notSynchronized
  have hK := hL.1
  have hD : ∀ g, va_D A (wo ad NSc g) := fun g => wo_D hL.2.1 hL.2.2 g
  have hS : va_S A s.heap s.heap [] := va_S.rf
  have bk0 : ∀ w ∈ u_ws RX6 TX6 7, w ∈ wd_V6_npow := fun _ h => List.mem_cons_of_mem _ (List.mem_append_right _ (List.mem_append_left _ h))
  have bk1 : ∀ w ∈ wd_V2_becomeRatio, w ∈ wd_V6_npow := fun _ h => List.mem_cons_of_mem _ (List.mem_append_right _ (List.mem_append_right _ (List.mem_append_left _ h)))
  have bk2 : ∀ w ∈ wd_V6_keepNumber, w ∈ wd_V6_npow := fun _ h => List.mem_cons_of_mem _ (List.mem_append_right _ (List.mem_append_right _ (List.mem_append_right _ (List.mem_append_left _ h))))
  have bk3 : ∀ w ∈ u_ws RX2 TX2 2, w ∈ wd_V6_npow := fun _ h => List.mem_cons_of_mem _ (List.mem_append_right _ (List.mem_append_right _ (List.mem_append_right _ (List.mem_append_right _ (List.mem_append_left _ h)))))
  have bk4 : ∀ w ∈ wd_V8_multiply, w ∈ wd_V6_npow := fun _ h => List.mem_cons_of_mem _ (List.mem_append_right _ (List.mem_append_right _ (List.mem_append_right _ (List.mem_append_right _ (List.mem_append_right _ (List.mem_append_left _ h))))))
  have bk5 : ∀ w ∈ wd_V8_become, w ∈ wd_V6_npow := fun _ h => List.mem_cons_of_mem _ (List.mem_append_right _ (List.mem_append_right _ (List.mem_append_right _ (List.mem_append_right _ (List.mem_append_right _ (List.mem_append_right _ (List.mem_append_left _ h)))))))
  have bk6 : ∀ w ∈ wd_V8_bitLength, w ∈ wd_V6_npow := fun _ h => List.mem_cons_of_mem _ (List.mem_append_right _ (List.mem_append_right _ (List.mem_append_right _ (List.mem_append_right _ (List.mem_append_right _ (List.mem_append_right _ (List.mem_append_right _ (List.mem_append_left _ h))))))))
  have hl := lv_entry ([.ref (ad 2080), .ref (ad (2118 + 2 * x1)), .int (nI e9)]) (n := 4) (Nat.le_of_ble_eq_true rfl)
  rw [lg_entry_eq]
  generalize (lg_sl ([.ref (ad 2080), .ref (ad (2118 + 2 * x1)), .int (nI e9)]) ++ List.replicate (4 - (lg_sl ([.ref (ad 2080), .ref (ad (2118 + 2 * x1)), .int (nI e9)])).length) Slot.unset).toArray = ls at hl ⊢
  have hl : lv_has ls 4 [(0, .ref (ad 2080)), (1, .ref (ad (2118 + 2 * x1))), (2, .int (nI e9))] := hl
  have hC0 := hC
  obtain ⟨hLn, hW, ⟨hAr, hWk, hPa, hFr⟩, hO, pt, hPt, hM⟩ := hC0
  unfold CSO at hO
  have hpb := hPt.2
  obtain ⟨n1, n2, -, -⟩ := (hM x1 ix).2.2.2.2.2.2 n0
  obtain ⟨b1, b2, b3, -⟩ := num13 hWf ix n0
  have hb2 : ((((gd L x1).2.2.2.2.2.2.2 : Nat) : Int)).natAbs < 4294967296 ^ 13 := by rw [Int.natAbs_natCast]; exact b2
  obtain ⟨pp, hpp⟩ : ∃ z, z = (gd L x1).2.2.2.2.2.2.1 := ⟨_, rfl⟩
  obtain ⟨qq, hqq⟩ : ∃ z, z = (gd L x1).2.2.2.2.2.2.2 := ⟨_, rfl⟩
  rw [← hpp] at n1 b1
  rw [← hqq] at n2 b2 b3 hb2
  refine lv_aload_n hx hb dX6_makeNumberPower_0 rfl (lv_at hl 0 rfl) ?_
  refine m_get (D := (dC, dI)) (v := .ref (ad 2107)) (C := RX6) (T := TX6) (N := 7) hx hb hts bk0 hown hK hP 2080 (by decide) hO rfl 5 (by decide) (hts (.fieldLink RX6 30 "GradientDesk$Shelf" "work" "LGradientDesk$Fraction;") (List.mem_of_getElem? (i := 1) rfl)) (fun _ h9 => h9) rfl dX6_makeNumberPower_1 ?_
  refine lv_iconst (v := nI 1) hx hb dX6_makeNumberPower_4 (by decide +kernel) ?_
  refine lv_iconst (v := nI 1) hx hb dX6_makeNumberPower_5 (by decide +kernel) ?_
  refine va_callv (va_runV (As := [.int (nI 1), .int (nI 1)]) (rest := []) ⟨hx, hb, hml, hown, hts⟩ (c_V2_becomeRatio l dC dI A ad cA g 2107 4 5 (nI 1) (nI 1) 1 ((1 : Nat) : Int) hW hWk (by decide) (by decide) (by decide) (by decide)) (cwV 2 hts (goodIn_app (goodIn_r [Cond.methodLink RX6 46 yX2_becomeRatio, Cond.instanceMethod yX2_becomeRatio, Cond.selects RX2 yX2_becomeRatio yX2_becomeRatio, Cond.initialized RX2] [2, 3, 4, 5] rfl rfl) (goodIn_sub (fun w9 h9 => bk1 w9 h9) gw_V2_becomeRatio)) rfl rfl rfl (by decide +kernel) ⟨Nat.le_of_ble_eq_true rfl, Nat.le_of_ble_eq_true rfl⟩) ⟨fun a U g mk q => ⟨q.1, q.2.1, q.2.2.1, LY.moved (u := U) (U := U.calling g mk a) (Vm.Alike.refl U.vm) q.2.2.2⟩, va_recv hK hP (ci := 5) (q0 := 2107) rfl (wo_at (by decide) hWk), fun U hU hW => ⟨rfl, by rw [hU]; exact fun q h => hA q (Nat.le_trans hS.1 h), by rw [hU]; exact hP, LY.moved hW.alike hL⟩⟩ rfl rfl hl.1 rfl (lv_room (Nat.le_of_ble_eq_true rfl)) dX6_makeNumberPower_6 ⟨(Nat.le_of_ble_eq_true rfl), (Nat.le_of_ble_eq_true rfl)⟩) hS (fun q _ h => h) (fun q h => h) (fun u8 t8 H1 locs ht8 hvm8 hw_4 hB hz1 hk1 hS => ?_)
  obtain ⟨g_5, rfl⟩ : ∃ z, z = u8 := ⟨_, rfl⟩
  try dsimp only at hw_4 hB
  rw [ht8] at hB
  have hP := hB
  generalize H1 = H at hP hS ⊢
  obtain ⟨fr_6, hAW_1, hv_2, hv_3⟩ := hw_4
  refine lv_iconst (v := nI 0) hx hb dX6_makeNumberPower_9 (by decide +kernel) ?_
  refine lv_istore_n (lv' := [(3, .int (nI 0)), (0, .ref (ad 2080)), (1, .ref (ad (2118 + 2 * x1))), (2, .int (nI e9))]) hx hb dX6_makeNumberPower_10 rfl hl (by decide) rfl (fun ls hl => ?_)
  have loop_7 : ∀ (k9 : Nat) (i : Nat) (g_9 : Nat → va_E) (fr_10 : ∀ k, (k < 8 ∨ 14 ≤ k) → g_9 k = g_5 k), 300 - i < k9 → (i ≤ e9) → (bl (pp ^ i).natAbs ≤ 400) → (bl (qq ^ i) ≤ 400) → (AW ad cA g_9) → (WV ad cA g_9 4 (pp ^ i)) → (WV ad cA g_9 5 ((qq ^ i : Nat) : Int)) → ∀ (H : Heap) (locs : List Loc) (ls : Array Slot), va_P (dC, dI) vwCl (wo ad NSc g_9) H → va_S A s.heap H locs → lv_has ls 4 [(0, .ref (ad 2080)), (1, .ref (ad (2118 + 2 * x1))), (2, .int (nI e9)), (3, .int (nI i))] → W p l e (headSpec wd_V6_npow ({ frames := 40, cells := 0, slots := 0, locals := 800 })).room s m ([.ref (ad 2080), .ref (ad (2118 + 2 * x1)), .int (nI e9)] : List Value).toArray below meth c H locs (0) (0) (MQ below (va_Qi (fun (r : Int32) => fun (u : Nat → va_E) => match u with | g2 => (∀ k, (14 ≤ k ∧ k < 76) ∨ (876 ≤ k ∧ k < 2080) ∨ (2081 ≤ k ∧ k < 2117) → g2 k = g k) ∧ CMK ad cA g2 (numL L ((gd L x1).2.2.2.2.2.2.1 ^ e9) ((gd L x1).2.2.2.2.2.2.2 ^ e9)) r) (fun (u : Nat → va_E) (t : State) => va_P (dC, dI) vwCl (wo ad NSc u) t.heap) A) ([.ref (ad 2080), .ref (ad (2118 + 2 * x1)), .int (nI e9)] : List Value).toArray s (0) (0) A) (F0 m 11 ls []) := by
    intro k9
    induction k9 with
    | zero => intro i g_9 fr_10 h9; exact absurd h9 (Nat.not_lt_zero _)
    | succ k9 ih_8 =>
      intro i g_9 fr_10 h9 hi hb4 hb5 hAL h4L h5L H locs ls hP hS hl
      have hc5 : ((qq ^ i : Nat) : Int).natAbs < 4294967296 ^ 13 := by rw [Int.natAbs_natCast]; exact fit13 hb5
      refine lv_iload_n hx hb dX6_makeNumberPower_11 rfl (lv_at hl 3 rfl) ?_
      refine lv_iload_n hx hb dX6_makeNumberPower_12 rfl (lv_at hl 2 rfl) ?_
      refine lv_icmp_ge (tgt := 121) hx hb dX6_makeNumberPower_13 (by decide) (fun c_11 => ?_) (fun c_11 => ?_)
      · have c_11 := (nI_leI (a := e9) (b := i) (by omega) (by omega)).mp c_11
        have hie : i = e9 := by omega
        have h4E := h4L
        have h5E := h5L
        rw [hie] at h4E h5E
        refine lv_aload_n hx hb dX6_makeNumberPower_121 rfl (lv_at hl 0 rfl) ?_
        have hC_12 : CS ad cA g_9 L := CS.same hC hAL (fun (k : Nat) (hk : (76 ≤ k ∧ k < 876) ∨ k = 2077 ∨ k = 2107 ∨ k = 2080 ∨ k = 2081 ∨ (2117 ≤ k ∧ k < 2517)) => (fr_10 k (by omega)).trans ((fr_6 k (by omega)).trans (rfl)))
        have f_13 : g_9 2080 = .inr (9, [.ref (ad 2081), .ref (ad 2082), .int (nI L.length), .ref (ad 2083), .ref (ad 2077), .ref (ad 2107), .ref (ad (2 * 6))]) := (fr_10 2080 (by omega)).trans ((fr_6 2080 (by omega)).trans hO)
        refine va_calli (va_runV (As := []) (rest := []) ⟨hx, hb, hml, hown, hts⟩ (c_V6_keepNumber l dC dI A ad cA g_9 L (pp ^ e9) (qq ^ e9) hC_12 h4E h5E (Nat.pow_pos b3)) (cwV 0 hts (goodIn_app (goodIn_r [Cond.methodLink RX6 50 yX6_keepNumber, Cond.instanceMethod yX6_keepNumber, Cond.selects RX6 yX6_keepNumber yX6_keepNumber, Cond.initialized RX6] [6, 7, 8, 9] rfl rfl) (goodIn_sub (fun w9 h9 => bk2 w9 h9) gw_V6_keepNumber)) rfl rfl rfl (by decide +kernel) ⟨Nat.le_of_ble_eq_true rfl, Nat.le_of_ble_eq_true rfl⟩) ⟨fun a U g mk q => ⟨q.1, q.2.1, q.2.2.1, LY.moved (u := U) (U := U.calling g mk a) (Vm.Alike.refl U.vm) q.2.2.2⟩, va_recv hK hP (ci := 9) (q0 := 2080) rfl (wo_at (by decide) f_13), fun U hU hW => ⟨rfl, by rw [hU]; exact fun q h => hA q (Nat.le_trans hS.1 h), by rw [hU]; exact hP, LY.moved hW.alike hL⟩⟩ rfl rfl hl.1 rfl (lv_room (Nat.le_of_ble_eq_true rfl)) dX6_makeNumberPower_122 ⟨(Nat.le_of_ble_eq_true rfl), (Nat.le_of_ble_eq_true rfl)⟩) hS (fun q _ h => h) (fun q h => h) (fun r_14 u8 t8 H1 locs ht8 hvm8 hw_15 hB hz1 hk1 hS => ?_)
        obtain ⟨g_16, rfl⟩ : ∃ z, z = u8 := ⟨_, rfl⟩
        try dsimp only at hw_15 hB
        rw [ht8] at hB
        have hP := hB
        generalize H1 = H at hP hS ⊢
        obtain ⟨fr_17, hK⟩ := hw_15
        refine W.widen (k := 0) (n := 0) (by omega) (by omega) ?_
        exact W.iret (v := r_14) hx hb hr (fun t9 ht9 hW9 => ⟨⟨r_14, g_16, rfl, ⟨(fun (k : Nat) (hk : (14 ≤ k ∧ k < 76) ∨ (876 ≤ k ∧ k < 2080) ∨ (2081 ≤ k ∧ k < 2117)) => (fr_17 k (by omega)).trans ((fr_10 k (by omega)).trans ((fr_6 k (by omega)).trans (rfl)))), by rw [← hpp, ← hqq]; exact hK⟩, by show va_P (dC, dI) vwCl _ t9.heap; rw [ht9]; exact hP⟩, hS.F ht9⟩) hS.2.2 dX6_makeNumberPower_125
      · have c_11 := mt (nI_leI (a := e9) (b := i) (by omega) (by omega)).mpr c_11
        refine lv_aload_n hx hb dX6_makeNumberPower_16 rfl (lv_at hl 0 rfl) ?_
        have f_18 : g_9 2080 = .inr (9, [.ref (ad 2081), .ref (ad 2082), .int (nI L.length), .ref (ad 2083), .ref (ad 2077), .ref (ad 2107), .ref (ad (2 * 6))]) := (fr_10 2080 (by omega)).trans ((fr_6 2080 (by omega)).trans hO)
        refine m_get (D := (dC, dI)) (v := .ref (ad (2 * 6))) (C := RX6) (T := TX6) (N := 7) hx hb hts bk0 hown hK hP 2080 (by decide) f_18 rfl 6 (by decide) (hts (.fieldLink RX6 37 "GradientDesk$Shelf" "hold" "LGradientDesk$Whole;") (List.mem_of_getElem? (i := 10) rfl)) (fun _ h9 => h9) rfl dX6_makeNumberPower_17 ?_
        refine lv_aload_n hx hb dX6_makeNumberPower_20 rfl (lv_at hl 0 rfl) ?_
        refine m_get (D := (dC, dI)) (v := .ref (ad 2107)) (C := RX6) (T := TX6) (N := 7) hx hb hts bk0 hown hK hP 2080 (by decide) f_18 rfl 5 (by decide) (hts (.fieldLink RX6 30 "GradientDesk$Shelf" "work" "LGradientDesk$Fraction;") (List.mem_of_getElem? (i := 1) rfl)) (fun _ h9 => h9) rfl dX6_makeNumberPower_21 ?_
        have f_19 : g_9 2107 = .inr (5, [.ref (ad (2 * 4)), .ref (ad (2 * 5))]) := (fr_10 2107 (by omega)).trans ((fr_6 2107 (by omega)).trans hWk)
        refine m_get (D := (dC, dI)) (v := .ref (ad (2 * 4))) (C := RX2) (T := TX2) (N := 2) hx hb hts bk3 hown hK hP 2107 (by decide) f_19 rfl 0 (by decide) (hts (.fieldLink RX6 112 "GradientDesk$Fraction" "top" "LGradientDesk$Whole;") (List.mem_of_getElem? (i := 11) rfl)) (fun _ h9 => h9) rfl dX6_makeNumberPower_24 ?_
        refine lv_aload_n hx hb dX6_makeNumberPower_27 rfl (lv_at hl 1 rfl) ?_
        have hq_20 := hFr x1 (by omega)
        have f_21 : g_9 (2118 + 2 * x1) = .inr (5, [.ref (ad (2 * (38 + 2 * x1))), .ref (ad (2 * (39 + 2 * x1)))]) := (fr_10 (2118 + 2 * x1) (by omega)).trans ((fr_6 (2118 + 2 * x1) (by omega)).trans hq_20)
        refine m_get (D := (dC, dI)) (v := .ref (ad (2 * (38 + 2 * x1)))) (C := RX2) (T := TX2) (N := 2) hx hb hts bk3 hown hK hP (2118 + 2 * x1) (ns_q (by omega)) f_21 rfl 0 (by decide) (hts (.fieldLink RX6 112 "GradientDesk$Fraction" "top" "LGradientDesk$Whole;") (List.mem_of_getElem? (i := 11) rfl)) (fun _ h9 => h9) rfl dX6_makeNumberPower_28 ?_
        obtain ⟨mw_22, sw_22, nw_22, fw_22, aw_22, bw_22, cw_22, dw_22, ew_22⟩ := hAL 6 (by omega)
        have qw_22 : mw_22 ≤ 4096 := by rw [dw_22]; exact rmc_le _
        have hv_23 : WV ad cA g_9 (38 + 2 * x1) pp := WV.same n1 ((fun (k : Nat) (hk : k = 2 * (38 + 2 * x1) ∨ k = 2 * (38 + 2 * x1) + 1) => (fr_10 k (by omega)).trans ((fr_6 k (by omega)).trans (rfl))) _ (Or.inl rfl)) ((fun (k : Nat) (hk : k = 2 * (38 + 2 * x1) ∨ k = 2 * (38 + 2 * x1) + 1) => (fr_10 k (by omega)).trans ((fr_6 k (by omega)).trans (rfl))) _ (Or.inr rfl))
        refine va_callv (va_runV (As := [.ref (ad (2 * 4)), .ref (ad (2 * (38 + 2 * x1)))]) (rest := []) ⟨hx, hb, hml, hown, hts⟩ (c_V8_multiply l dC dI A ad cA g_9 6 4 (38 + 2 * x1) (pp ^ i) pp 13 13 hAL (by decide) (by decide) (by omega) h4L hv_23 (by decide) (by omega) (fit13 hb4) b1 (by decide)) (cwV 2 hts (goodIn_app (goodIn_r [Cond.methodLink RX6 115 yX8_multiply, Cond.instanceMethod yX8_multiply, Cond.selects RX8 yX8_multiply yX8_multiply, Cond.initialized RX8] [12, 13, 14, 15] rfl rfl) (goodIn_sub (fun w9 h9 => bk4 w9 h9) gw_V8_multiply)) rfl rfl rfl (by decide +kernel) ⟨Nat.le_of_ble_eq_true rfl, Nat.le_of_ble_eq_true rfl⟩) ⟨fun a U g mk q => ⟨q.1, q.2.1, q.2.2.1, LY.moved (u := U) (U := U.calling g mk a) (Vm.Alike.refl U.vm) q.2.2.2⟩, va_recv hK hP (ci := 11) (q0 := (2 * 6)) rfl (wo_at (ns_w (by omega)) aw_22), fun U hU hW => ⟨rfl, by rw [hU]; exact fun q h => hA q (Nat.le_trans hS.1 h), by rw [hU]; exact hP, LY.moved hW.alike hL⟩⟩ rfl rfl hl.1 rfl (lv_room (Nat.le_of_ble_eq_true rfl)) dX6_makeNumberPower_31 ⟨(Nat.le_of_ble_eq_true rfl), (Nat.le_of_ble_eq_true rfl)⟩) hS (fun q _ h => h) (fun q h => h) (fun u8 t8 H1 locs ht8 hvm8 hw_26 hB hz1 hk1 hS => ?_)
        obtain ⟨g_27, rfl⟩ : ∃ z, z = u8 := ⟨_, rfl⟩
        try dsimp only at hw_26 hB
        rw [ht8] at hB
        have hP := hB
        generalize H1 = H at hP hS ⊢
        obtain ⟨fr_28, hAW_24, hv_25⟩ := hw_26
        refine lv_aload_n hx hb dX6_makeNumberPower_34 rfl (lv_at hl 0 rfl) ?_
        have f_29 : g_27 2080 = .inr (9, [.ref (ad 2081), .ref (ad 2082), .int (nI L.length), .ref (ad 2083), .ref (ad 2077), .ref (ad 2107), .ref (ad (2 * 6))]) := (fr_28 2080 (by omega)).trans f_18
        refine m_get (D := (dC, dI)) (v := .ref (ad 2107)) (C := RX6) (T := TX6) (N := 7) hx hb hts bk0 hown hK hP 2080 (by decide) f_29 rfl 5 (by decide) (hts (.fieldLink RX6 30 "GradientDesk$Shelf" "work" "LGradientDesk$Fraction;") (List.mem_of_getElem? (i := 1) rfl)) (fun _ h9 => h9) rfl dX6_makeNumberPower_35 ?_
        have f_30 : g_27 2107 = .inr (5, [.ref (ad (2 * 4)), .ref (ad (2 * 5))]) := (fr_28 2107 (by omega)).trans f_19
        refine m_get (D := (dC, dI)) (v := .ref (ad (2 * 4))) (C := RX2) (T := TX2) (N := 2) hx hb hts bk3 hown hK hP 2107 (by decide) f_30 rfl 0 (by decide) (hts (.fieldLink RX6 112 "GradientDesk$Fraction" "top" "LGradientDesk$Whole;") (List.mem_of_getElem? (i := 11) rfl)) (fun _ h9 => h9) rfl dX6_makeNumberPower_38 ?_
        refine lv_aload_n hx hb dX6_makeNumberPower_41 rfl (lv_at hl 0 rfl) ?_
        refine m_get (D := (dC, dI)) (v := .ref (ad (2 * 6))) (C := RX6) (T := TX6) (N := 7) hx hb hts bk0 hown hK hP 2080 (by decide) f_29 rfl 6 (by decide) (hts (.fieldLink RX6 37 "GradientDesk$Shelf" "hold" "LGradientDesk$Whole;") (List.mem_of_getElem? (i := 10) rfl)) (fun _ h9 => h9) rfl dX6_makeNumberPower_42 ?_
        obtain ⟨mw_31, sw_31, nw_31, fw_31, aw_31, bw_31, cw_31, dw_31, ew_31⟩ := hAW_24 4 (by omega)
        have qw_31 : mw_31 ≤ 4096 := by rw [dw_31]; exact rmc_le _
        refine va_callv (va_runV (As := [.ref (ad (2 * 6))]) (rest := []) ⟨hx, hb, hml, hown, hts⟩ (c_V8_become l dC dI A ad cA g_27 4 6 ((pp ^ i) * pp) hAW_24 (by decide) (by decide) hv_25 (by decide) (by rw [Int.natAbs_mul]; exact Nat.lt_of_lt_of_le (p13 (fit13 hb4) b1) (Nat.pow_le_pow_right (by decide) (by decide)))) (cwV 1 hts (goodIn_app (goodIn_r [Cond.methodLink RX6 118 yX8_become, Cond.instanceMethod yX8_become, Cond.selects RX8 yX8_become yX8_become, Cond.initialized RX8] [16, 17, 18, 15] rfl rfl) (goodIn_sub (fun w9 h9 => bk5 w9 h9) gw_V8_become)) rfl rfl rfl (by decide +kernel) ⟨Nat.le_of_ble_eq_true rfl, Nat.le_of_ble_eq_true rfl⟩) ⟨fun a U g mk q => ⟨q.1, q.2.1, q.2.2.1, LY.moved (u := U) (U := U.calling g mk a) (Vm.Alike.refl U.vm) q.2.2.2⟩, va_recv hK hP (ci := 11) (q0 := (2 * 4)) rfl (wo_at (ns_w (by omega)) aw_31), fun U hU hW => ⟨rfl, by rw [hU]; exact fun q h => hA q (Nat.le_trans hS.1 h), by rw [hU]; exact hP, LY.moved hW.alike hL⟩⟩ rfl rfl hl.1 rfl (lv_room (Nat.le_of_ble_eq_true rfl)) dX6_makeNumberPower_45 ⟨(Nat.le_of_ble_eq_true rfl), (Nat.le_of_ble_eq_true rfl)⟩) hS (fun q _ h => h) (fun q h => h) (fun u8 t8 H1 locs ht8 hvm8 hw_34 hB hz1 hk1 hS => ?_)
        obtain ⟨g_35, rfl⟩ : ∃ z, z = u8 := ⟨_, rfl⟩
        try dsimp only at hw_34 hB
        rw [ht8] at hB
        have hP := hB
        generalize H1 = H at hP hS ⊢
        obtain ⟨fr_36, hAW_32, hv_33⟩ := hw_34
        have hv_37 : WV ad cA g_35 4 (pp ^ (i + 1)) := by rw [Int.pow_succ]; exact hv_33
        refine lv_aload_n hx hb dX6_makeNumberPower_48 rfl (lv_at hl 0 rfl) ?_
        have f_38 : g_35 2080 = .inr (9, [.ref (ad 2081), .ref (ad 2082), .int (nI L.length), .ref (ad 2083), .ref (ad 2077), .ref (ad 2107), .ref (ad (2 * 6))]) := (fr_36 2080 (by omega)).trans f_29
        refine m_get (D := (dC, dI)) (v := .ref (ad (2 * 6))) (C := RX6) (T := TX6) (N := 7) hx hb hts bk0 hown hK hP 2080 (by decide) f_38 rfl 6 (by decide) (hts (.fieldLink RX6 37 "GradientDesk$Shelf" "hold" "LGradientDesk$Whole;") (List.mem_of_getElem? (i := 10) rfl)) (fun _ h9 => h9) rfl dX6_makeNumberPower_49 ?_
        refine lv_aload_n hx hb dX6_makeNumberPower_52 rfl (lv_at hl 0 rfl) ?_
        refine m_get (D := (dC, dI)) (v := .ref (ad 2107)) (C := RX6) (T := TX6) (N := 7) hx hb hts bk0 hown hK hP 2080 (by decide) f_38 rfl 5 (by decide) (hts (.fieldLink RX6 30 "GradientDesk$Shelf" "work" "LGradientDesk$Fraction;") (List.mem_of_getElem? (i := 1) rfl)) (fun _ h9 => h9) rfl dX6_makeNumberPower_53 ?_
        have f_39 : g_35 2107 = .inr (5, [.ref (ad (2 * 4)), .ref (ad (2 * 5))]) := (fr_36 2107 (by omega)).trans f_30
        refine m_get (D := (dC, dI)) (v := .ref (ad (2 * 5))) (C := RX2) (T := TX2) (N := 2) hx hb hts bk3 hown hK hP 2107 (by decide) f_39 rfl 1 (by decide) (hts (.fieldLink RX6 122 "GradientDesk$Fraction" "bottom" "LGradientDesk$Whole;") (List.mem_of_getElem? (i := 19) rfl)) (fun _ h9 => h9) rfl dX6_makeNumberPower_56 ?_
        refine lv_aload_n hx hb dX6_makeNumberPower_59 rfl (lv_at hl 1 rfl) ?_
        have f_40 : g_35 (2118 + 2 * x1) = .inr (5, [.ref (ad (2 * (38 + 2 * x1))), .ref (ad (2 * (39 + 2 * x1)))]) := (fr_36 (2118 + 2 * x1) (by omega)).trans ((fr_28 (2118 + 2 * x1) (by omega)).trans f_21)
        refine m_get (D := (dC, dI)) (v := .ref (ad (2 * (39 + 2 * x1)))) (C := RX2) (T := TX2) (N := 2) hx hb hts bk3 hown hK hP (2118 + 2 * x1) (ns_q (by omega)) f_40 rfl 1 (by decide) (hts (.fieldLink RX6 122 "GradientDesk$Fraction" "bottom" "LGradientDesk$Whole;") (List.mem_of_getElem? (i := 19) rfl)) (fun _ h9 => h9) rfl dX6_makeNumberPower_60 ?_
        obtain ⟨mw_41, sw_41, nw_41, fw_41, aw_41, bw_41, cw_41, dw_41, ew_41⟩ := hAW_32 6 (by omega)
        have qw_41 : mw_41 ≤ 4096 := by rw [dw_41]; exact rmc_le _
        have hv_42 : WV ad cA g_35 5 ((qq ^ i : Nat) : Int) := WV.same h5L ((fun (k : Nat) (hk : k = 2 * 5 ∨ k = 2 * 5 + 1) => (fr_36 k (by omega)).trans ((fr_28 k (by omega)).trans (rfl))) _ (Or.inl rfl)) ((fun (k : Nat) (hk : k = 2 * 5 ∨ k = 2 * 5 + 1) => (fr_36 k (by omega)).trans ((fr_28 k (by omega)).trans (rfl))) _ (Or.inr rfl))
        have hv_43 : WV ad cA g_35 (39 + 2 * x1) ((qq : Nat) : Int) := WV.same n2 ((fun (k : Nat) (hk : k = 2 * (39 + 2 * x1) ∨ k = 2 * (39 + 2 * x1) + 1) => (fr_36 k (by omega)).trans ((fr_28 k (by omega)).trans ((fr_10 k (by omega)).trans ((fr_6 k (by omega)).trans (rfl))))) _ (Or.inl rfl)) ((fun (k : Nat) (hk : k = 2 * (39 + 2 * x1) ∨ k = 2 * (39 + 2 * x1) + 1) => (fr_36 k (by omega)).trans ((fr_28 k (by omega)).trans ((fr_10 k (by omega)).trans ((fr_6 k (by omega)).trans (rfl))))) _ (Or.inr rfl))
        refine va_callv (va_runV (As := [.ref (ad (2 * 5)), .ref (ad (2 * (39 + 2 * x1)))]) (rest := []) ⟨hx, hb, hml, hown, hts⟩ (c_V8_multiply l dC dI A ad cA g_35 6 5 (39 + 2 * x1) ((qq ^ i : Nat) : Int) ((qq : Nat) : Int) 13 13 hAW_32 (by decide) (by decide) (by omega) hv_42 hv_43 (by decide) (by omega) hc5 hb2 (by decide)) (cwV 2 hts (goodIn_app (goodIn_r [Cond.methodLink RX6 115 yX8_multiply, Cond.instanceMethod yX8_multiply, Cond.selects RX8 yX8_multiply yX8_multiply, Cond.initialized RX8] [12, 13, 14, 15] rfl rfl) (goodIn_sub (fun w9 h9 => bk4 w9 h9) gw_V8_multiply)) rfl rfl rfl (by decide +kernel) ⟨Nat.le_of_ble_eq_true rfl, Nat.le_of_ble_eq_true rfl⟩) ⟨fun a U g mk q => ⟨q.1, q.2.1, q.2.2.1, LY.moved (u := U) (U := U.calling g mk a) (Vm.Alike.refl U.vm) q.2.2.2⟩, va_recv hK hP (ci := 11) (q0 := (2 * 6)) rfl (wo_at (ns_w (by omega)) aw_41), fun U hU hW => ⟨rfl, by rw [hU]; exact fun q h => hA q (Nat.le_trans hS.1 h), by rw [hU]; exact hP, LY.moved hW.alike hL⟩⟩ rfl rfl hl.1 rfl (lv_room (Nat.le_of_ble_eq_true rfl)) dX6_makeNumberPower_63 ⟨(Nat.le_of_ble_eq_true rfl), (Nat.le_of_ble_eq_true rfl)⟩) hS (fun q _ h => h) (fun q h => h) (fun u8 t8 H1 locs ht8 hvm8 hw_46 hB hz1 hk1 hS => ?_)
        obtain ⟨g_47, rfl⟩ : ∃ z, z = u8 := ⟨_, rfl⟩
        try dsimp only at hw_46 hB
        rw [ht8] at hB
        have hP := hB
        generalize H1 = H at hP hS ⊢
        obtain ⟨fr_48, hAW_44, hv_45⟩ := hw_46
        refine lv_aload_n hx hb dX6_makeNumberPower_66 rfl (lv_at hl 0 rfl) ?_
        have f_49 : g_47 2080 = .inr (9, [.ref (ad 2081), .ref (ad 2082), .int (nI L.length), .ref (ad 2083), .ref (ad 2077), .ref (ad 2107), .ref (ad (2 * 6))]) := (fr_48 2080 (by omega)).trans f_38
        refine m_get (D := (dC, dI)) (v := .ref (ad 2107)) (C := RX6) (T := TX6) (N := 7) hx hb hts bk0 hown hK hP 2080 (by decide) f_49 rfl 5 (by decide) (hts (.fieldLink RX6 30 "GradientDesk$Shelf" "work" "LGradientDesk$Fraction;") (List.mem_of_getElem? (i := 1) rfl)) (fun _ h9 => h9) rfl dX6_makeNumberPower_67 ?_
        have f_50 : g_47 2107 = .inr (5, [.ref (ad (2 * 4)), .ref (ad (2 * 5))]) := (fr_48 2107 (by omega)).trans f_39
        refine m_get (D := (dC, dI)) (v := .ref (ad (2 * 5))) (C := RX2) (T := TX2) (N := 2) hx hb hts bk3 hown hK hP 2107 (by decide) f_50 rfl 1 (by decide) (hts (.fieldLink RX6 122 "GradientDesk$Fraction" "bottom" "LGradientDesk$Whole;") (List.mem_of_getElem? (i := 19) rfl)) (fun _ h9 => h9) rfl dX6_makeNumberPower_70 ?_
        refine lv_aload_n hx hb dX6_makeNumberPower_73 rfl (lv_at hl 0 rfl) ?_
        refine m_get (D := (dC, dI)) (v := .ref (ad (2 * 6))) (C := RX6) (T := TX6) (N := 7) hx hb hts bk0 hown hK hP 2080 (by decide) f_49 rfl 6 (by decide) (hts (.fieldLink RX6 37 "GradientDesk$Shelf" "hold" "LGradientDesk$Whole;") (List.mem_of_getElem? (i := 10) rfl)) (fun _ h9 => h9) rfl dX6_makeNumberPower_74 ?_
        obtain ⟨mw_51, sw_51, nw_51, fw_51, aw_51, bw_51, cw_51, dw_51, ew_51⟩ := hAW_44 5 (by omega)
        have qw_51 : mw_51 ≤ 4096 := by rw [dw_51]; exact rmc_le _
        refine va_callv (va_runV (As := [.ref (ad (2 * 6))]) (rest := []) ⟨hx, hb, hml, hown, hts⟩ (c_V8_become l dC dI A ad cA g_47 5 6 (((qq ^ i : Nat) : Int) * ((qq : Nat) : Int)) hAW_44 (by decide) (by decide) hv_45 (by decide) (by rw [Int.natAbs_mul]; exact Nat.lt_of_lt_of_le (p13 hc5 hb2) (Nat.pow_le_pow_right (by decide) (by decide)))) (cwV 1 hts (goodIn_app (goodIn_r [Cond.methodLink RX6 118 yX8_become, Cond.instanceMethod yX8_become, Cond.selects RX8 yX8_become yX8_become, Cond.initialized RX8] [16, 17, 18, 15] rfl rfl) (goodIn_sub (fun w9 h9 => bk5 w9 h9) gw_V8_become)) rfl rfl rfl (by decide +kernel) ⟨Nat.le_of_ble_eq_true rfl, Nat.le_of_ble_eq_true rfl⟩) ⟨fun a U g mk q => ⟨q.1, q.2.1, q.2.2.1, LY.moved (u := U) (U := U.calling g mk a) (Vm.Alike.refl U.vm) q.2.2.2⟩, va_recv hK hP (ci := 11) (q0 := (2 * 5)) rfl (wo_at (ns_w (by omega)) aw_51), fun U hU hW => ⟨rfl, by rw [hU]; exact fun q h => hA q (Nat.le_trans hS.1 h), by rw [hU]; exact hP, LY.moved hW.alike hL⟩⟩ rfl rfl hl.1 rfl (lv_room (Nat.le_of_ble_eq_true rfl)) dX6_makeNumberPower_77 ⟨(Nat.le_of_ble_eq_true rfl), (Nat.le_of_ble_eq_true rfl)⟩) hS (fun q _ h => h) (fun q h => h) (fun u8 t8 H1 locs ht8 hvm8 hw_54 hB hz1 hk1 hS => ?_)
        obtain ⟨g_55, rfl⟩ : ∃ z, z = u8 := ⟨_, rfl⟩
        try dsimp only at hw_54 hB
        rw [ht8] at hB
        have hP := hB
        generalize H1 = H at hP hS ⊢
        obtain ⟨fr_56, hAW_52, hv_53⟩ := hw_54
        have hv_57 : WV ad cA g_55 5 ((qq ^ (i + 1) : Nat) : Int) := by rw [Nat.pow_succ, Int.natCast_mul]; exact hv_53
        refine lv_aload_n hx hb dX6_makeNumberPower_80 rfl (lv_at hl 0 rfl) ?_
        have f_58 : g_55 2080 = .inr (9, [.ref (ad 2081), .ref (ad 2082), .int (nI L.length), .ref (ad 2083), .ref (ad 2077), .ref (ad 2107), .ref (ad (2 * 6))]) := (fr_56 2080 (by omega)).trans f_49
        refine m_get (D := (dC, dI)) (v := .ref (ad 2107)) (C := RX6) (T := TX6) (N := 7) hx hb hts bk0 hown hK hP 2080 (by decide) f_58 rfl 5 (by decide) (hts (.fieldLink RX6 30 "GradientDesk$Shelf" "work" "LGradientDesk$Fraction;") (List.mem_of_getElem? (i := 1) rfl)) (fun _ h9 => h9) rfl dX6_makeNumberPower_81 ?_
        have f_59 : g_55 2107 = .inr (5, [.ref (ad (2 * 4)), .ref (ad (2 * 5))]) := (fr_56 2107 (by omega)).trans f_50
        refine m_get (D := (dC, dI)) (v := .ref (ad (2 * 4))) (C := RX2) (T := TX2) (N := 2) hx hb hts bk3 hown hK hP 2107 (by decide) f_59 rfl 0 (by decide) (hts (.fieldLink RX6 112 "GradientDesk$Fraction" "top" "LGradientDesk$Whole;") (List.mem_of_getElem? (i := 11) rfl)) (fun _ h9 => h9) rfl dX6_makeNumberPower_84 ?_
        have hv_60 : WV ad cA g_55 4 (pp ^ (i + 1)) := WV.same hv_37 ((fun (k : Nat) (hk : k = 2 * 4 ∨ k = 2 * 4 + 1) => (fr_56 k (by omega)).trans ((fr_48 k (by omega)).trans (rfl))) _ (Or.inl rfl)) ((fun (k : Nat) (hk : k = 2 * 4 ∨ k = 2 * 4 + 1) => (fr_56 k (by omega)).trans ((fr_48 k (by omega)).trans (rfl))) _ (Or.inr rfl))
        have fbt := bl_fit hv_60 (by decide)
        obtain ⟨mw_61, sw_61, nw_61, fw_61, aw_61, bw_61, cw_61, dw_61, ew_61⟩ := hAW_52 4 (by omega)
        have qw_61 : mw_61 ≤ 4096 := by rw [dw_61]; exact rmc_le _
        refine va_calli (va_runV (As := []) (rest := []) ⟨hx, hb, hml, hown, hts⟩ (c_V8_bitLength l dC dI A ad cA g_55 4 (pp ^ (i + 1)) hAW_52 (by decide) hv_60) (cwV 0 hts (goodIn_app (goodIn_r [Cond.methodLink RX6 125 yX8_bitLength, Cond.instanceMethod yX8_bitLength, Cond.selects RX8 yX8_bitLength yX8_bitLength, Cond.initialized RX8] [20, 21, 22, 15] rfl rfl) (goodIn_sub (fun w9 h9 => bk6 w9 h9) gw_V8_bitLength)) rfl rfl rfl (by decide +kernel) ⟨Nat.le_of_ble_eq_true rfl, Nat.le_of_ble_eq_true rfl⟩) ⟨fun a U g mk q => ⟨q.1, q.2.1, q.2.2.1, LY.moved (u := U) (U := U.calling g mk a) (Vm.Alike.refl U.vm) q.2.2.2⟩, va_recv hK hP (ci := 11) (q0 := (2 * 4)) rfl (wo_at (ns_w (by omega)) aw_61), fun U hU hW => ⟨rfl, by rw [hU]; exact fun q h => hA q (Nat.le_trans hS.1 h), by rw [hU]; exact hP, LY.moved hW.alike hL⟩⟩ rfl rfl hl.1 rfl (lv_room (Nat.le_of_ble_eq_true rfl)) dX6_makeNumberPower_87 ⟨(Nat.le_of_ble_eq_true rfl), (Nat.le_of_ble_eq_true rfl)⟩) hS (fun q _ h => h) (fun q h => h) (fun r_62 u8 t8 H1 locs ht8 hvm8 hw_63 hB hz1 hk1 hS => ?_)
        obtain ⟨⟩ := u8
        try dsimp only at hw_63 hB
        rw [ht8] at hB
        have hP := hB
        generalize H1 = H at hP hS ⊢
        obtain rfl := hw_63
        obtain ⟨bt, hbt⟩ : ∃ z, z = bl ((pp ^ (i + 1)).natAbs) := ⟨_, rfl⟩
        rw [← hbt]
        rw [← hbt] at fbt
        refine lv_sipush (v := nI 400) hx hb dX6_makeNumberPower_90 (by decide +kernel) ?_
        refine lv_icmp_gt (tgt := 112) hx hb dX6_makeNumberPower_93 (by decide) (fun c_64 => ?_) (fun c_64 => ?_)
        · have c_64 := (nI_ltI (a := 400) (b := bt) (by decide) (by omega)).mp c_64
          refine lv_bipush (v := -3) hx hb dX6_makeNumberPower_112 (by decide +kernel) ?_
          have hC_65 : CS ad cA g_55 L := CS.same hC hAW_52 (fun (k : Nat) (hk : (76 ≤ k ∧ k < 876) ∨ k = 2077 ∨ k = 2107 ∨ k = 2080 ∨ k = 2081 ∨ (2117 ≤ k ∧ k < 2517)) => (fr_56 k (by omega)).trans ((fr_48 k (by omega)).trans ((fr_36 k (by omega)).trans ((fr_28 k (by omega)).trans ((fr_10 k (by omega)).trans ((fr_6 k (by omega)).trans (rfl)))))))
          refine W.widen (k := 0) (n := 0) (by omega) (by omega) ?_
          exact W.iret (v := -3) hx hb hr (fun t9 ht9 hW9 => ⟨⟨-3, g_55, rfl, ⟨(fun (k : Nat) (hk : (14 ≤ k ∧ k < 76) ∨ (876 ≤ k ∧ k < 2080) ∨ (2081 ≤ k ∧ k < 2117)) => (fr_56 k (by omega)).trans ((fr_48 k (by omega)).trans ((fr_36 k (by omega)).trans ((fr_28 k (by omega)).trans ((fr_10 k (by omega)).trans ((fr_6 k (by omega)).trans (rfl))))))), by rw [← hpp, ← hqq]; exact CMK.bad (n := -3) (by decide) (np_bigp (i := i + 1) (by omega) (by omega)) (Or.inl rfl) hC_65⟩, by show va_P (dC, dI) vwCl _ t9.heap; rw [ht9]; exact hP⟩, hS.F ht9⟩) hS.2.2 dX6_makeNumberPower_114
        · have c_64 := mt (nI_ltI (a := 400) (b := bt) (by decide) (by omega)).mpr c_64
          refine lv_aload_n hx hb dX6_makeNumberPower_96 rfl (lv_at hl 0 rfl) ?_
          refine m_get (D := (dC, dI)) (v := .ref (ad 2107)) (C := RX6) (T := TX6) (N := 7) hx hb hts bk0 hown hK hP 2080 (by decide) f_58 rfl 5 (by decide) (hts (.fieldLink RX6 30 "GradientDesk$Shelf" "work" "LGradientDesk$Fraction;") (List.mem_of_getElem? (i := 1) rfl)) (fun _ h9 => h9) rfl dX6_makeNumberPower_97 ?_
          refine m_get (D := (dC, dI)) (v := .ref (ad (2 * 5))) (C := RX2) (T := TX2) (N := 2) hx hb hts bk3 hown hK hP 2107 (by decide) f_59 rfl 1 (by decide) (hts (.fieldLink RX6 122 "GradientDesk$Fraction" "bottom" "LGradientDesk$Whole;") (List.mem_of_getElem? (i := 19) rfl)) (fun _ h9 => h9) rfl dX6_makeNumberPower_100 ?_
          have fbu := bl_fit hv_57 (by decide)
          obtain ⟨mw_66, sw_66, nw_66, fw_66, aw_66, bw_66, cw_66, dw_66, ew_66⟩ := hAW_52 5 (by omega)
          have qw_66 : mw_66 ≤ 4096 := by rw [dw_66]; exact rmc_le _
          refine va_calli (va_runV (As := []) (rest := []) ⟨hx, hb, hml, hown, hts⟩ (c_V8_bitLength l dC dI A ad cA g_55 5 ((qq ^ (i + 1) : Nat) : Int) hAW_52 (by decide) hv_57) (cwV 0 hts (goodIn_app (goodIn_r [Cond.methodLink RX6 125 yX8_bitLength, Cond.instanceMethod yX8_bitLength, Cond.selects RX8 yX8_bitLength yX8_bitLength, Cond.initialized RX8] [20, 21, 22, 15] rfl rfl) (goodIn_sub (fun w9 h9 => bk6 w9 h9) gw_V8_bitLength)) rfl rfl rfl (by decide +kernel) ⟨Nat.le_of_ble_eq_true rfl, Nat.le_of_ble_eq_true rfl⟩) ⟨fun a U g mk q => ⟨q.1, q.2.1, q.2.2.1, LY.moved (u := U) (U := U.calling g mk a) (Vm.Alike.refl U.vm) q.2.2.2⟩, va_recv hK hP (ci := 11) (q0 := (2 * 5)) rfl (wo_at (ns_w (by omega)) aw_66), fun U hU hW => ⟨rfl, by rw [hU]; exact fun q h => hA q (Nat.le_trans hS.1 h), by rw [hU]; exact hP, LY.moved hW.alike hL⟩⟩ rfl rfl hl.1 rfl (lv_room (Nat.le_of_ble_eq_true rfl)) dX6_makeNumberPower_103 ⟨(Nat.le_of_ble_eq_true rfl), (Nat.le_of_ble_eq_true rfl)⟩) hS (fun q _ h => h) (fun q h => h) (fun r_67 u8 t8 H1 locs ht8 hvm8 hw_68 hB hz1 hk1 hS => ?_)
          obtain ⟨⟩ := u8
          try dsimp only at hw_68 hB
          rw [ht8] at hB
          have hP := hB
          generalize H1 = H at hP hS ⊢
          obtain rfl := hw_68
          rw [Int.natAbs_natCast]
          rw [Int.natAbs_natCast] at fbu
          obtain ⟨bu, hbu⟩ : ∃ z, z = bl (qq ^ (i + 1)) := ⟨_, rfl⟩
          rw [← hbu]
          rw [← hbu] at fbu
          refine lv_sipush (v := nI 400) hx hb dX6_makeNumberPower_106 (by decide +kernel) ?_
          refine lv_icmp_le (tgt := 115) hx hb dX6_makeNumberPower_109 (by decide) (fun c_69 => ?_) (fun c_69 => ?_)
          · have c_69 := (nI_leI (a := bu) (b := 400) (by omega) (by decide)).mp c_69
            refine lv_iinc (v := nI (i + 1)) (lv' := [(3, .int (nI (i + 1))), (0, .ref (ad 2080)), (1, .ref (ad (2118 + 2 * x1))), (2, .int (nI e9))]) hx hb dX6_makeNumberPower_115 hl (k := 3) rfl (nI_add i 1) (by decide) rfl (fun ls hl => ?_)
            refine lv_goto (tgt := 11) hx hb dX6_makeNumberPower_118 (by decide) ?_
            exact ih_8 (i + 1) g_55 (fun (k : Nat) (hk : k < 8 ∨ 14 ≤ k) => (fr_56 k (by omega)).trans ((fr_48 k (by omega)).trans ((fr_36 k (by omega)).trans ((fr_28 k (by omega)).trans ((fr_10 k (by omega)).trans (rfl)))))) (by omega) (by omega) (by omega) (by omega) hAW_52 hv_60 hv_57 _ _ _ hP hS (lv_sub (l' := [(0, .ref (ad 2080)), (1, .ref (ad (2118 + 2 * x1))), (2, .int (nI e9)), (3, .int (nI (i + 1)))]) hl [1, 2, 3, 0] rfl)
          · have c_69 := mt (nI_leI (a := bu) (b := 400) (by omega) (by decide)).mpr c_69
            refine lv_bipush (v := -3) hx hb dX6_makeNumberPower_112 (by decide +kernel) ?_
            have hC_72 : CS ad cA g_55 L := CS.same hC hAW_52 (fun (k : Nat) (hk : (76 ≤ k ∧ k < 876) ∨ k = 2077 ∨ k = 2107 ∨ k = 2080 ∨ k = 2081 ∨ (2117 ≤ k ∧ k < 2517)) => (fr_56 k (by omega)).trans ((fr_48 k (by omega)).trans ((fr_36 k (by omega)).trans ((fr_28 k (by omega)).trans ((fr_10 k (by omega)).trans ((fr_6 k (by omega)).trans (rfl)))))))
            refine W.widen (k := 0) (n := 0) (by omega) (by omega) ?_
            exact W.iret (v := -3) hx hb hr (fun t9 ht9 hW9 => ⟨⟨-3, g_55, rfl, ⟨(fun (k : Nat) (hk : (14 ≤ k ∧ k < 76) ∨ (876 ≤ k ∧ k < 2080) ∨ (2081 ≤ k ∧ k < 2117)) => (fr_56 k (by omega)).trans ((fr_48 k (by omega)).trans ((fr_36 k (by omega)).trans ((fr_28 k (by omega)).trans ((fr_10 k (by omega)).trans ((fr_6 k (by omega)).trans (rfl))))))), by rw [← hpp, ← hqq]; exact CMK.bad (n := -3) (by decide) (np_bigq (i := i + 1) (by omega) (by omega)) (Or.inl rfl) hC_72⟩, by show va_P (dC, dI) vwCl _ t9.heap; rw [ht9]; exact hP⟩, hS.F ht9⟩) hS.2.2 dX6_makeNumberPower_114
  exact loop_7 _ 0 g_5 (fun (k : Nat) (hk : k < 8 ∨ 14 ≤ k) => rfl) (Nat.lt_succ_self _) (by omega) (by rw [Int.pow_zero]; decide) (by rw [Nat.pow_zero]; decide) hAW_1 (by rw [Int.pow_zero]; exact hv_2) (by rw [Nat.pow_zero]; exact hv_3) _ _ _ hP hS (lv_sub (l' := [(0, .ref (ad 2080)), (1, .ref (ad (2118 + 2 * x1))), (2, .int (nI e9)), (3, .int (nI 0))]) hl [1, 2, 3, 0] rfl)
