def wd_V6_prdSlope : List Cond := .code yX6_makeProductSlope cX6_makeProductSlope 5 (some .int) :: (([.fieldLink RX6 21 "GradientDesk$Shelf" "slopes" "[I", .methodLink RX6 109 yX6_makeProduct, .instanceMethod yX6_makeProduct, .selects RX6 yX6_makeProduct yX6_makeProduct, .initialized RX6, .methodLink RX6 162 yX6_makeSum, .instanceMethod yX6_makeSum, .selects RX6 yX6_makeSum yX6_makeSum] : List Cond) ++ (u_ws RX6 TX6 7 ++ (wd_V6_makeProduct ++ (wd_V6_sumN ++ (wd_V6_makeSum ++ ([]))))))
theorem gw_V6_prdSlope : wd_V6_prdSlope.all goodWord = true := k_allc rfl (k_all (by decide +kernel) (k_all (gu_X6) (k_all (gw_V6_makeProduct) (k_all (gw_V6_sumN) (k_all (gw_V6_makeSum) (rfl))))))
set_option maxHeartbeats 4000000 in
set_option maxRecDepth 100000 in
theorem c_V6_prdSlope (l : Launch) (dC : Nat → ClassId) (dI : Nat → Nat → Nat) (A : Nat → Prop) (ad : Nat → Nat) (cA : Nat → ClassId) (g : Nat → va_E) (L : List PD) (x1 : Nat) (y1 : Nat) (d1 : Nat) (d2 : Nat) (sf : Nat → Int) (hC : CS ad cA g L) (hWf : WFL L) (ix : x1 < L.length) (iy : y1 < L.length) (h83 : g 2083 = .inl (cA 2083, 200, .inl (fun j => iI (sf j)))) (hs1 : sf x1 = ((d1 : Nat) : Int)) (hs2 : sf y1 = ((d2 : Nat) : Int)) (id1 : d1 < L.length) (id2 : d2 < L.length) : Met l yX6_makeProductSlope wd_V6_prdSlope ({ frames := 60, cells := 0, slots := 0, locals := 1200 }) (va_Pc [.ref (ad 2080), .int (nI x1), .int (nI y1)] (PR NSc tyc dC dI A ad cA g)) (va_Qi (fun (r : Int32) => fun (u : Nat → va_E) => match u with | g2 => (∀ k, (14 ≤ k ∧ k < 76) ∨ (876 ≤ k ∧ k < 2080) ∨ (2081 ≤ k ∧ k < 2117) → g2 k = g k) ∧ CMK ad cA g2 (seqL (prdL L d1 y1) (fun a M => seqL (prdL M x1 d2) (fun b N => sumL N a b))) r) (fun (u : Nat → va_E) (t : State) => va_P (dC, dI) vwCl (wo ad NSc u) t.heap) A) (0) (0) A := by
  refine Met.ofW (cc := cX6_makeProductSlope) (maxL := 5) (ret := (some .int)) (by decide) rfl ?_
  intro p e s m args below meth c s₁ B hml hv
  obtain ⟨rfl, hA, hP, hL⟩ := hv
  have hx := B.exec
  have hb := B.bytes
  have hr := B.returns
  have hts := atoms_spec (ws := wd_V6_prdSlope) B.pre
  have hown : s.vm.findClass RX6 = some m.cls := findClass_of_methodNamed B.named
  have hlocks := B.notSynchronized
  have hK := hL.1
  have hD : ∀ g, va_D A (wo ad NSc g) := fun g => wo_D hL.2.1 hL.2.2 g
  have hS : va_S A s.heap s.heap [] := va_S.rf
  have bk0 : ∀ w ∈ u_ws RX6 TX6 7, w ∈ wd_V6_prdSlope := fun _ h => List.mem_cons_of_mem _ (List.mem_append_right _ (List.mem_append_left _ h))
  have bk1 : ∀ w ∈ wd_V6_makeProduct, w ∈ wd_V6_prdSlope := fun _ h => List.mem_cons_of_mem _ (List.mem_append_right _ (List.mem_append_right _ (List.mem_append_left _ h)))
  have bk2 : ∀ w ∈ wd_V6_sumN, w ∈ wd_V6_prdSlope := fun _ h => List.mem_cons_of_mem _ (List.mem_append_right _ (List.mem_append_right _ (List.mem_append_right _ (List.mem_append_left _ h))))
  have bk3 : ∀ w ∈ wd_V6_makeSum, w ∈ wd_V6_prdSlope := fun _ h => List.mem_cons_of_mem _ (List.mem_append_right _ (List.mem_append_right _ (List.mem_append_right _ (List.mem_append_right _ (List.mem_append_left _ h)))))
  have hl := lv_entry ([.ref (ad 2080), .int (nI x1), .int (nI y1)]) (n := 5) (Nat.le_of_ble_eq_true rfl)
  rw [lg_entry_eq]
  generalize (lg_sl ([.ref (ad 2080), .int (nI x1), .int (nI y1)]) ++ List.replicate (5 - (lg_sl ([.ref (ad 2080), .int (nI x1), .int (nI y1)])).length) Slot.unset).toArray = ls at hl ⊢
  have hl : lv_has ls 5 [(0, .ref (ad 2080)), (1, .int (nI x1)), (2, .int (nI y1))] := hl
  have hC0 := hC
  obtain ⟨hLn, hW, ⟨hAr, hWk, hPa, hFr⟩, hO, pt, hPt, hM⟩ := hC0
  unfold CSO at hO
  have hpb := hPt.2
  refine lv_aload_n hx hb dX6_makeProductSlope_0 rfl (lv_at hl 0 rfl) ?_
  refine lv_aload_n hx hb dX6_makeProductSlope_1 rfl (lv_at hl 0 rfl) ?_
  refine m_get (D := (dC, dI)) (v := .ref (ad 2083)) (C := RX6) (T := TX6) (N := 7) hx hb hts bk0 hown hK hP 2080 (by decide) hO rfl 3 (by decide) (hts (.fieldLink RX6 21 "GradientDesk$Shelf" "slopes" "[I") (List.mem_of_getElem? (i := 1) rfl)) (fun _ h9 => h9) rfl dX6_makeProductSlope_2 ?_
  refine lv_iload_n hx hb dX6_makeProductSlope_5 rfl (lv_at hl 1 rfl) ?_
  refine m_iald hx hb hK hP 2083 (by decide) rfl h83 (i := x1) (by omega) (by decide) dX6_makeProductSlope_6 ?_
  refine lv_topi (fun x_1 e_2 => ?_)
  obtain rfl : x_1 = nI d1 := e_2.trans (by rw [hs1]; exact (nI_iI _).symm)
  refine lv_iload_n hx hb dX6_makeProductSlope_7 rfl (lv_at hl 2 rfl) ?_
  refine va_calli (va_runV (As := [.int (nI d1), .int (nI y1)]) (rest := []) ⟨hx, hb, hml, hown, hts⟩ (c_V6_makeProduct l dC dI A ad cA g L d1 y1 hC hWf (by omega) (by omega)) (cwV 2 hts (goodIn_app (goodIn_r [Cond.methodLink RX6 109 yX6_makeProduct, Cond.instanceMethod yX6_makeProduct, Cond.selects RX6 yX6_makeProduct yX6_makeProduct, Cond.initialized RX6] [2, 3, 4, 5] rfl rfl) (goodIn_sub (fun w9 h9 => bk1 w9 h9) gw_V6_makeProduct)) rfl rfl rfl (by decide +kernel) ⟨Nat.le_of_ble_eq_true rfl, Nat.le_of_ble_eq_true rfl⟩) ⟨fun a U g mk q => ⟨q.1, q.2.1, q.2.2.1, LY.moved (u := U) (U := U.calling g mk a) (Vm.Alike.refl U.vm) q.2.2.2⟩, va_recv hK hP (ci := 9) (q0 := 2080) rfl (wo_at (by decide) hO), fun U hU hW => ⟨rfl, by rw [hU]; exact fun q h => hA q (Nat.le_trans hS.1 h), by rw [hU]; exact hP, LY.moved hW.alike hL⟩⟩ rfl rfl hl.1 rfl (lv_room (Nat.le_of_ble_eq_true rfl)) dX6_makeProductSlope_8 ⟨(Nat.le_of_ble_eq_true rfl), (Nat.le_of_ble_eq_true rfl)⟩) hS (fun q _ h => h) (fun q h => h) (fun r_3 u8 t8 H1 locs ht8 hvm8 hw_4 hB hz1 hk1 hS => ?_)
  obtain ⟨g_5, rfl⟩ : ∃ z, z = u8 := ⟨_, rfl⟩
  try dsimp only at hw_4 hB
  rw [ht8] at hB
  have hP := hB
  generalize H1 = H at hP hS ⊢
  obtain ⟨fr_6, hKK1⟩ := hw_4
  obtain ⟨K1, heK1⟩ : ∃ z : Int × List PD, z = prdL L d1 y1 := ⟨_, rfl⟩
  rw [← heK1] at hKK1
  have hokK1 : OKK L K1 := by rw [heK1]; exact OKK.prd hWf (by omega) (by omega)
  have hleK1 := hokK1.2.1.1
  have hcK1 := hKK1.2.1
  have hloK1 := hKK1.2.2.1
  have hhiK1 := hKK1.2.2.2
  have hrK1 := hKK1.1
  have hlnK1 := hcK1.1
  rcases Int.lt_or_le K1.1 0 with hnK1 | hnK1
  · skip
    have hdK1 := hcK1
    obtain ⟨hLnK1, hWK1, ⟨hArK1, hWkK1, hPaK1, hFrK1⟩, hOK1, ptK1, hPtK1, hMK1⟩ := hdK1
    unfold CSO at hOK1
    have hpbK1 := hPtK1.2
    refine lv_istore_n (lv' := [(3, .int r_3), (0, .ref (ad 2080)), (1, .int (nI x1)), (2, .int (nI y1))]) hx hb dX6_makeProductSlope_11 rfl hl (by decide) rfl (fun ls hl => ?_)
    refine lv_iload_n hx hb dX6_makeProductSlope_12 rfl (lv_at hl 0 rfl) ?_
    refine lv_if_ge (tgt := 18) hx hb dX6_makeProductSlope_13 (by decide) (fun c_7 => absurd ((k_iLE (a := 0) (b := K1.1) (show nI 0 = iI 0 from by decide) hrK1 (by omega) (by omega)).mp c_7) (by omega)) (fun c_7 => ?_)
    refine lv_iload_n hx hb dX6_makeProductSlope_16 rfl (lv_at hl 0 rfl) ?_
    refine W.widen (k := 0) (n := 0) (by omega) (by omega) ?_
    exact W.iret (v := r_3) hx hb hr (fun t9 ht9 hW9 => ⟨⟨r_3, g_5, rfl, ⟨(fun (k : Nat) (hk : (14 ≤ k ∧ k < 76) ∨ (876 ≤ k ∧ k < 2080) ∨ (2081 ≤ k ∧ k < 2117)) => (fr_6 k (by omega)).trans (rfl)), hKK1.to (by rw [← heK1]; exact seq_n hnK1) rfl⟩, by show va_P (dC, dI) vwCl _ t9.heap; rw [ht9]; exact hP⟩, hS.F ht9⟩) hS.2.2 dX6_makeProductSlope_17
  · skip
    have hdK1 := hcK1
    obtain ⟨hLnK1, hWK1, ⟨hArK1, hWkK1, hPaK1, hFrK1⟩, hOK1, ptK1, hPtK1, hMK1⟩ := hdK1
    unfold CSO at hOK1
    have hpbK1 := hPtK1.2
    obtain ⟨nK1, hiK1⟩ : ∃ z : Nat, K1.1 = (z : Int) := ⟨K1.1.toNat, by omega⟩
    have hsK1 : r_3 = nI nK1 := by rw [hrK1, hiK1]; exact (nI_iI _).symm
    rw [hsK1]
    refine lv_istore_n (lv' := [(3, .int (nI nK1)), (0, .ref (ad 2080)), (1, .int (nI x1)), (2, .int (nI y1))]) hx hb dX6_makeProductSlope_11 rfl hl (by decide) rfl (fun ls hl => ?_)
    refine lv_iload_n hx hb dX6_makeProductSlope_12 rfl (lv_at hl 0 rfl) ?_
    refine lv_if_ge (tgt := 18) hx hb dX6_makeProductSlope_13 (by decide) (fun c_8 => ?_) (fun c_8 => absurd (mt (nI_leI (a := 0) (b := nK1) (by decide) (by omega)).mpr c_8) (by omega))
    refine lv_aload_n hx hb dX6_makeProductSlope_18 rfl (lv_at hl 1 rfl) ?_
    refine lv_iload_n hx hb dX6_makeProductSlope_19 rfl (lv_at hl 2 rfl) ?_
    refine lv_aload_n hx hb dX6_makeProductSlope_20 rfl (lv_at hl 1 rfl) ?_
    refine m_get (D := (dC, dI)) (v := .ref (ad 2083)) (C := RX6) (T := TX6) (N := 7) hx hb hts bk0 hown hK hP 2080 (by decide) hOK1 rfl 3 (by decide) (hts (.fieldLink RX6 21 "GradientDesk$Shelf" "slopes" "[I") (List.mem_of_getElem? (i := 1) rfl)) (fun _ h9 => h9) rfl dX6_makeProductSlope_21 ?_
    refine lv_iload_n hx hb dX6_makeProductSlope_24 rfl (lv_at hl 3 rfl) ?_
    have f_9 : g_5 2083 = .inl (cA 2083, 200, .inl (fun j => iI (sf j))) := (fr_6 2083 (by omega)).trans h83
    refine m_iald hx hb hK hP 2083 (by decide) rfl f_9 (i := y1) (by omega) (by decide) dX6_makeProductSlope_25 ?_
    refine lv_topi (fun x_10 e_11 => ?_)
    obtain rfl : x_10 = nI d2 := e_11.trans (by rw [hs2]; exact (nI_iI _).symm)
    refine va_calli (va_runV (As := [.int (nI x1), .int (nI d2)]) (rest := []) ⟨hx, hb, hml, hown, hts⟩ (c_V6_makeProduct l dC dI A ad cA g_5 K1.2 x1 d2 hcK1 hokK1.1 (by omega) (by omega)) (cwV 2 hts (goodIn_app (goodIn_r [Cond.methodLink RX6 109 yX6_makeProduct, Cond.instanceMethod yX6_makeProduct, Cond.selects RX6 yX6_makeProduct yX6_makeProduct, Cond.initialized RX6] [2, 3, 4, 5] rfl rfl) (goodIn_sub (fun w9 h9 => bk1 w9 h9) gw_V6_makeProduct)) rfl rfl rfl (by decide +kernel) ⟨Nat.le_of_ble_eq_true rfl, Nat.le_of_ble_eq_true rfl⟩) ⟨fun a U g mk q => ⟨q.1, q.2.1, q.2.2.1, LY.moved (u := U) (U := U.calling g mk a) (Vm.Alike.refl U.vm) q.2.2.2⟩, va_recv hK hP (ci := 9) (q0 := 2080) rfl (wo_at (by decide) hOK1), fun U hU hW => ⟨rfl, by rw [hU]; exact fun q h => hA q (Nat.le_trans hS.1 h), by rw [hU]; exact hP, LY.moved hW.alike hL⟩⟩ rfl rfl hl.1 rfl (lv_room (Nat.le_of_ble_eq_true rfl)) dX6_makeProductSlope_26 ⟨(Nat.le_of_ble_eq_true rfl), (Nat.le_of_ble_eq_true rfl)⟩) hS (fun q _ h => h) (fun q h => h) (fun r_12 u8 t8 H1 locs ht8 hvm8 hw_13 hB hz1 hk1 hS => ?_)
    obtain ⟨g_14, rfl⟩ : ∃ z, z = u8 := ⟨_, rfl⟩
    try dsimp only at hw_13 hB
    rw [ht8] at hB
    have hP := hB
    generalize H1 = H at hP hS ⊢
    obtain ⟨fr_15, hKK2⟩ := hw_13
    obtain ⟨K2, heK2⟩ : ∃ z : Int × List PD, z = prdL K1.2 x1 d2 := ⟨_, rfl⟩
    rw [← heK2] at hKK2
    have hokK2 : OKK K1.2 K2 := by rw [heK2]; exact OKK.prd hokK1.1 (by omega) (by omega)
    have hleK2 := hokK2.2.1.1
    have hcK2 := hKK2.2.1
    have hloK2 := hKK2.2.2.1
    have hhiK2 := hKK2.2.2.2
    have hrK2 := hKK2.1
    have hlnK2 := hcK2.1
    rcases Int.lt_or_le K2.1 0 with hnK2 | hnK2
    · skip
      have hdK2 := hcK2
      obtain ⟨hLnK2, hWK2, ⟨hArK2, hWkK2, hPaK2, hFrK2⟩, hOK2, ptK2, hPtK2, hMK2⟩ := hdK2
      unfold CSO at hOK2
      have hpbK2 := hPtK2.2
      refine lv_istore (lv' := [(4, .int r_12), (3, .int (nI nK1)), (0, .ref (ad 2080)), (1, .int (nI x1)), (2, .int (nI y1))]) hx hb dX6_makeProductSlope_29 hl (by decide) rfl (fun ls hl => ?_)
      refine lv_aload_n hx hb dX6_makeProductSlope_31 rfl (lv_at hl 2 rfl) ?_
      refine lv_iload_n hx hb dX6_makeProductSlope_32 rfl (lv_at hl 1 rfl) ?_
      refine lv_iload hx hb dX6_makeProductSlope_33 (lv_at hl 0 rfl) ?_
      refine va_calli (va_runV (As := [.int (nI nK1), .int r_12]) (rest := []) ⟨hx, hb, hml, hown, hts⟩ (c_V6_sumN l dC dI A ad cA g_14 (nI nK1) r_12 ((nK1 : Nat) : Int) K2.1 (nI_iI nK1) hrK2 (by omega) (by omega) (by omega)) (cwV 2 hts (goodIn_app (goodIn_r [Cond.methodLink RX6 162 yX6_makeSum, Cond.instanceMethod yX6_makeSum, Cond.selects RX6 yX6_makeSum yX6_makeSum, Cond.initialized RX6] [6, 7, 8, 5] rfl rfl) (goodIn_sub (fun w9 h9 => bk2 w9 h9) gw_V6_sumN)) rfl rfl rfl (by decide +kernel) ⟨Nat.le_of_ble_eq_true rfl, Nat.le_of_ble_eq_true rfl⟩) ⟨fun a U g mk q => ⟨q.1, q.2.1, q.2.2.1, LY.moved (u := U) (U := U.calling g mk a) (Vm.Alike.refl U.vm) q.2.2.2⟩, va_recv hK hP (ci := 9) (q0 := 2080) rfl (wo_at (by decide) hOK2), fun U hU hW => ⟨rfl, by rw [hU]; exact fun q h => hA q (Nat.le_trans hS.1 h), by rw [hU]; exact hP, LY.moved hW.alike hL⟩⟩ rfl rfl hl.1 rfl (lv_room (Nat.le_of_ble_eq_true rfl)) dX6_makeProductSlope_35 ⟨(Nat.le_of_ble_eq_true rfl), (Nat.le_of_ble_eq_true rfl)⟩) hS (fun q _ h => h) (fun q h => h) (fun r_16 u8 t8 H1 locs ht8 hvm8 hw_17 hB hz1 hk1 hS => ?_)
      obtain ⟨⟩ := u8
      try dsimp only at hw_17 hB
      rw [ht8] at hB
      have hP := hB
      generalize H1 = H at hP hS ⊢
      have hrr : r_16 = r_12 := by rcases hw_17 with ⟨h8, h9⟩ | ⟨h8, h9⟩; omega; exact h9
      clear hw_17
      rw [hrr]
      refine W.widen (k := 0) (n := 0) (by omega) (by omega) ?_
      exact W.iret (v := r_12) hx hb hr (fun t9 ht9 hW9 => ⟨⟨r_12, g_14, rfl, ⟨(fun (k : Nat) (hk : (14 ≤ k ∧ k < 76) ∨ (876 ≤ k ∧ k < 2080) ∨ (2081 ≤ k ∧ k < 2117)) => (fr_15 k (by omega)).trans ((fr_6 k (by omega)).trans (rfl))), hKK2.to (by rw [← heK1]; refine (seq_p hiK1).trans ?_; rw [← heK2]; exact seq_n hnK2) rfl⟩, by show va_P (dC, dI) vwCl _ t9.heap; rw [ht9]; exact hP⟩, hS.F ht9⟩) hS.2.2 dX6_makeProductSlope_38
    · skip
      have hdK2 := hcK2
      obtain ⟨hLnK2, hWK2, ⟨hArK2, hWkK2, hPaK2, hFrK2⟩, hOK2, ptK2, hPtK2, hMK2⟩ := hdK2
      unfold CSO at hOK2
      have hpbK2 := hPtK2.2
      obtain ⟨nK2, hiK2⟩ : ∃ z : Nat, K2.1 = (z : Int) := ⟨K2.1.toNat, by omega⟩
      have hsK2 : r_12 = nI nK2 := by rw [hrK2, hiK2]; exact (nI_iI _).symm
      rw [hsK2]
      refine lv_istore (lv' := [(4, .int (nI nK2)), (3, .int (nI nK1)), (0, .ref (ad 2080)), (1, .int (nI x1)), (2, .int (nI y1))]) hx hb dX6_makeProductSlope_29 hl (by decide) rfl (fun ls hl => ?_)
      refine lv_aload_n hx hb dX6_makeProductSlope_31 rfl (lv_at hl 2 rfl) ?_
      refine lv_iload_n hx hb dX6_makeProductSlope_32 rfl (lv_at hl 1 rfl) ?_
      refine lv_iload hx hb dX6_makeProductSlope_33 (lv_at hl 0 rfl) ?_
      refine va_calli (va_runV (As := [.int (nI nK1), .int (nI nK2)]) (rest := []) ⟨hx, hb, hml, hown, hts⟩ (c_V6_makeSum l dC dI A ad cA g_14 K2.2 nK1 nK2 hcK2 hokK2.1 (by omega) (by omega)) (cwV 2 hts (goodIn_app (goodIn_r [Cond.methodLink RX6 162 yX6_makeSum, Cond.instanceMethod yX6_makeSum, Cond.selects RX6 yX6_makeSum yX6_makeSum, Cond.initialized RX6] [6, 7, 8, 5] rfl rfl) (goodIn_sub (fun w9 h9 => bk3 w9 h9) gw_V6_makeSum)) rfl rfl rfl (by decide +kernel) ⟨Nat.le_of_ble_eq_true rfl, Nat.le_of_ble_eq_true rfl⟩) ⟨fun a U g mk q => ⟨q.1, q.2.1, q.2.2.1, LY.moved (u := U) (U := U.calling g mk a) (Vm.Alike.refl U.vm) q.2.2.2⟩, va_recv hK hP (ci := 9) (q0 := 2080) rfl (wo_at (by decide) hOK2), fun U hU hW => ⟨rfl, by rw [hU]; exact fun q h => hA q (Nat.le_trans hS.1 h), by rw [hU]; exact hP, LY.moved hW.alike hL⟩⟩ rfl rfl hl.1 rfl (lv_room (Nat.le_of_ble_eq_true rfl)) dX6_makeProductSlope_35 ⟨(Nat.le_of_ble_eq_true rfl), (Nat.le_of_ble_eq_true rfl)⟩) hS (fun q _ h => h) (fun q h => h) (fun r_18 u8 t8 H1 locs ht8 hvm8 hw_19 hB hz1 hk1 hS => ?_)
      obtain ⟨g_20, rfl⟩ : ∃ z, z = u8 := ⟨_, rfl⟩
      try dsimp only at hw_19 hB
      rw [ht8] at hB
      have hP := hB
      generalize H1 = H at hP hS ⊢
      obtain ⟨fr_21, hKK3⟩ := hw_19
      obtain ⟨K3, heK3⟩ : ∃ z : Int × List PD, z = sumL K2.2 nK1 nK2 := ⟨_, rfl⟩
      rw [← heK3] at hKK3
      have hokK3 : OKK K2.2 K3 := by rw [heK3]; exact OKK.sum hokK2.1 (by omega) (by omega)
      have hleK3 := hokK3.2.1.1
      have hcK3 := hKK3.2.1
      have hloK3 := hKK3.2.2.1
      have hhiK3 := hKK3.2.2.2
      have hrK3 := hKK3.1
      have hlnK3 := hcK3.1
      rcases Int.lt_or_le K3.1 0 with hnK3 | hnK3
      · skip
        have hdK3 := hcK3
        obtain ⟨hLnK3, hWK3, ⟨hArK3, hWkK3, hPaK3, hFrK3⟩, hOK3, ptK3, hPtK3, hMK3⟩ := hdK3
        unfold CSO at hOK3
        have hpbK3 := hPtK3.2
        refine W.widen (k := 0) (n := 0) (by omega) (by omega) ?_
        exact W.iret (v := r_18) hx hb hr (fun t9 ht9 hW9 => ⟨⟨r_18, g_20, rfl, ⟨(fun (k : Nat) (hk : (14 ≤ k ∧ k < 76) ∨ (876 ≤ k ∧ k < 2080) ∨ (2081 ≤ k ∧ k < 2117)) => (fr_21 k (by omega)).trans ((fr_15 k (by omega)).trans ((fr_6 k (by omega)).trans (rfl)))), hKK3.to (by rw [← heK1]; refine (seq_p hiK1).trans ?_; rw [← heK2]; refine (seq_p hiK2).trans ?_; exact heK3.symm) rfl⟩, by show va_P (dC, dI) vwCl _ t9.heap; rw [ht9]; exact hP⟩, hS.F ht9⟩) hS.2.2 dX6_makeProductSlope_38
      · skip
        have hdK3 := hcK3
        obtain ⟨hLnK3, hWK3, ⟨hArK3, hWkK3, hPaK3, hFrK3⟩, hOK3, ptK3, hPtK3, hMK3⟩ := hdK3
        unfold CSO at hOK3
        have hpbK3 := hPtK3.2
        obtain ⟨nK3, hiK3⟩ : ∃ z : Nat, K3.1 = (z : Int) := ⟨K3.1.toNat, by omega⟩
        have hsK3 : r_18 = nI nK3 := by rw [hrK3, hiK3]; exact (nI_iI _).symm
        rw [hsK3]
        refine W.widen (k := 0) (n := 0) (by omega) (by omega) ?_
        exact W.iret (v := nI nK3) hx hb hr (fun t9 ht9 hW9 => ⟨⟨nI nK3, g_20, rfl, ⟨(fun (k : Nat) (hk : (14 ≤ k ∧ k < 76) ∨ (876 ≤ k ∧ k < 2080) ∨ (2081 ≤ k ∧ k < 2117)) => (fr_21 k (by omega)).trans ((fr_15 k (by omega)).trans ((fr_6 k (by omega)).trans (rfl)))), hKK3.to (by rw [← heK1]; refine (seq_p hiK1).trans ?_; rw [← heK2]; refine (seq_p hiK2).trans ?_; exact heK3.symm) hsK3.symm⟩, by show va_P (dC, dI) vwCl _ t9.heap; rw [ht9]; exact hP⟩, hS.F ht9⟩) hS.2.2 dX6_makeProductSlope_38
def wd_V6_powSlope : List Cond := .code yX6_makePowerSlope cX6_makePowerSlope 5 (some .int) :: (([.methodLink RX6 101 yX6_makeWhole, .instanceMethod yX6_makeWhole, .selects RX6 yX6_makeWhole yX6_makeWhole, .initialized RX6, .methodLink RX6 171 yX6_makePower, .instanceMethod yX6_makePower, .selects RX6 yX6_makePower yX6_makePower, .methodLink RX6 109 yX6_makeProduct, .instanceMethod yX6_makeProduct, .selects RX6 yX6_makeProduct yX6_makeProduct, .fieldLink RX6 21 "GradientDesk$Shelf" "slopes" "[I"] : List Cond) ++ (wd_V6_makeWhole ++ (wd_V6_makePower ++ (wd_V6_prdN ++ (u_ws RX6 TX6 7 ++ (wd_V6_makeProduct ++ ([])))))))
theorem gw_V6_powSlope : wd_V6_powSlope.all goodWord = true := k_allc rfl (k_all (by decide +kernel) (k_all (gw_V6_makeWhole) (k_all (gw_V6_makePower) (k_all (gw_V6_prdN) (k_all (gu_X6) (k_all (gw_V6_makeProduct) (rfl)))))))
set_option maxHeartbeats 4000000 in
set_option maxRecDepth 100000 in
theorem c_V6_powSlope (l : Launch) (dC : Nat → ClassId) (dI : Nat → Nat → Nat) (A : Nat → Prop) (ad : Nat → Nat) (cA : Nat → ClassId) (g : Nat → va_E) (L : List PD) (x1 : Nat) (e9 : Nat) (d1 : Nat) (sf : Nat → Int) (hC : CS ad cA g L) (hWf : WFL L) (ix : x1 < L.length) (he9 : 2 ≤ e9 ∧ e9 ≤ 9) (h83 : g 2083 = .inl (cA 2083, 200, .inl (fun j => iI (sf j)))) (hs1 : sf x1 = ((d1 : Nat) : Int)) (id1 : d1 < L.length) : Met l yX6_makePowerSlope wd_V6_powSlope ({ frames := 60, cells := 0, slots := 0, locals := 1200 }) (va_Pc [.ref (ad 2080), .int (nI x1), .int (nI e9)] (PR NSc tyc dC dI A ad cA g)) (va_Qi (fun (r : Int32) => fun (u : Nat → va_E) => match u with | g2 => (∀ k, (14 ≤ k ∧ k < 76) ∨ (876 ≤ k ∧ k < 2080) ∨ (2081 ≤ k ∧ k < 2117) → g2 k = g k) ∧ CMK ad cA g2 (seqL (numL L ((e9 : Nat) : Int) 1) (fun f M => seqL (powL M x1 (e9 - 1)) (fun l9 N => seqL (prdL N f l9) (fun b R => prdL R b d1)))) r) (fun (u : Nat → va_E) (t : State) => va_P (dC, dI) vwCl (wo ad NSc u) t.heap) A) (0) (0) A := by
  refine Met.ofW (cc := cX6_makePowerSlope) (maxL := 5) (ret := (some .int)) (by decide) rfl ?_
  intro p e s m args below meth c s₁ B hml hv
  obtain ⟨rfl, hA, hP, hL⟩ := hv
  have hx := B.exec
  have hb := B.bytes
  have hr := B.returns
  have hts := atoms_spec (ws := wd_V6_powSlope) B.pre
  have hown : s.vm.findClass RX6 = some m.cls := findClass_of_methodNamed B.named
  have hlocks := B.notSynchronized
  have hK := hL.1
  have hD : ∀ g, va_D A (wo ad NSc g) := fun g => wo_D hL.2.1 hL.2.2 g
  have hS : va_S A s.heap s.heap [] := va_S.rf
  have bk0 : ∀ w ∈ wd_V6_makeWhole, w ∈ wd_V6_powSlope := fun _ h => List.mem_cons_of_mem _ (List.mem_append_right _ (List.mem_append_left _ h))
  have bk1 : ∀ w ∈ wd_V6_makePower, w ∈ wd_V6_powSlope := fun _ h => List.mem_cons_of_mem _ (List.mem_append_right _ (List.mem_append_right _ (List.mem_append_left _ h)))
  have bk2 : ∀ w ∈ wd_V6_prdN, w ∈ wd_V6_powSlope := fun _ h => List.mem_cons_of_mem _ (List.mem_append_right _ (List.mem_append_right _ (List.mem_append_right _ (List.mem_append_left _ h))))
  have bk3 : ∀ w ∈ u_ws RX6 TX6 7, w ∈ wd_V6_powSlope := fun _ h => List.mem_cons_of_mem _ (List.mem_append_right _ (List.mem_append_right _ (List.mem_append_right _ (List.mem_append_right _ (List.mem_append_left _ h)))))
  have bk4 : ∀ w ∈ wd_V6_makeProduct, w ∈ wd_V6_powSlope := fun _ h => List.mem_cons_of_mem _ (List.mem_append_right _ (List.mem_append_right _ (List.mem_append_right _ (List.mem_append_right _ (List.mem_append_right _ (List.mem_append_left _ h))))))
  have hl := lv_entry ([.ref (ad 2080), .int (nI x1), .int (nI e9)]) (n := 5) (Nat.le_of_ble_eq_true rfl)
  rw [lg_entry_eq]
  generalize (lg_sl ([.ref (ad 2080), .int (nI x1), .int (nI e9)]) ++ List.replicate (5 - (lg_sl ([.ref (ad 2080), .int (nI x1), .int (nI e9)])).length) Slot.unset).toArray = ls at hl ⊢
  have hl : lv_has ls 5 [(0, .ref (ad 2080)), (1, .int (nI x1)), (2, .int (nI e9))] := hl
  have hC0 := hC
  obtain ⟨hLn, hW, ⟨hAr, hWk, hPa, hFr⟩, hO, pt, hPt, hM⟩ := hC0
  unfold CSO at hO
  have hpb := hPt.2
  refine lv_aload_n hx hb dX6_makePowerSlope_0 rfl (lv_at hl 0 rfl) ?_
  refine lv_iload_n hx hb dX6_makePowerSlope_1 rfl (lv_at hl 2 rfl) ?_
  refine va_calli (va_runV (As := [.int (nI e9)]) (rest := []) ⟨hx, hb, hml, hown, hts⟩ (c_V6_makeWhole l dC dI A ad cA g L (nI e9) ((e9 : Nat) : Int) hC (nI_toInt (by omega))) (cwV 1 hts (goodIn_app (goodIn_r [Cond.methodLink RX6 101 yX6_makeWhole, Cond.instanceMethod yX6_makeWhole, Cond.selects RX6 yX6_makeWhole yX6_makeWhole, Cond.initialized RX6] [1, 2, 3, 4] rfl rfl) (goodIn_sub (fun w9 h9 => bk0 w9 h9) gw_V6_makeWhole)) rfl rfl rfl (by decide +kernel) ⟨Nat.le_of_ble_eq_true rfl, Nat.le_of_ble_eq_true rfl⟩) ⟨fun a U g mk q => ⟨q.1, q.2.1, q.2.2.1, LY.moved (u := U) (U := U.calling g mk a) (Vm.Alike.refl U.vm) q.2.2.2⟩, va_recv hK hP (ci := 9) (q0 := 2080) rfl (wo_at (by decide) hO), fun U hU hW => ⟨rfl, by rw [hU]; exact fun q h => hA q (Nat.le_trans hS.1 h), by rw [hU]; exact hP, LY.moved hW.alike hL⟩⟩ rfl rfl hl.1 rfl (lv_room (Nat.le_of_ble_eq_true rfl)) dX6_makePowerSlope_2 ⟨(Nat.le_of_ble_eq_true rfl), (Nat.le_of_ble_eq_true rfl)⟩) hS (fun q _ h => h) (fun q h => h) (fun r_1 u8 t8 H1 locs ht8 hvm8 hw_2 hB hz1 hk1 hS => ?_)
  obtain ⟨g_3, rfl⟩ : ∃ z, z = u8 := ⟨_, rfl⟩
  try dsimp only at hw_2 hB
  rw [ht8] at hB
  have hP := hB
  generalize H1 = H at hP hS ⊢
  obtain ⟨fr_4, hKK1⟩ := hw_2
  obtain ⟨K1, heK1⟩ : ∃ z : Int × List PD, z = numL L ((e9 : Nat) : Int) 1 := ⟨_, rfl⟩
  rw [← heK1] at hKK1
  have hokK1 : OKK L K1 := by rw [heK1]; exact OKK.num hWf ⟨by decide, Nat.gcd_one_right _⟩
  have hleK1 := hokK1.2.1.1
  have hcK1 := hKK1.2.1
  have hloK1 := hKK1.2.2.1
  have hhiK1 := hKK1.2.2.2
  have hrK1 := hKK1.1
  have hlnK1 := hcK1.1
  rcases Int.lt_or_le K1.1 0 with hnK1 | hnK1
  · skip
    have hdK1 := hcK1
    obtain ⟨hLnK1, hWK1, ⟨hArK1, hWkK1, hPaK1, hFrK1⟩, hOK1, ptK1, hPtK1, hMK1⟩ := hdK1
    unfold CSO at hOK1
    have hpbK1 := hPtK1.2
    refine lv_istore_n (lv' := [(3, .int r_1), (0, .ref (ad 2080)), (1, .int (nI x1)), (2, .int (nI e9))]) hx hb dX6_makePowerSlope_5 rfl hl (by decide) rfl (fun ls hl => ?_)
    refine lv_iload_n hx hb dX6_makePowerSlope_6 rfl (lv_at hl 0 rfl) ?_
    refine lv_if_ge (tgt := 12) hx hb dX6_makePowerSlope_7 (by decide) (fun c_5 => absurd ((k_iLE (a := 0) (b := K1.1) (show nI 0 = iI 0 from by decide) hrK1 (by omega) (by omega)).mp c_5) (by omega)) (fun c_5 => ?_)
    refine lv_iload_n hx hb dX6_makePowerSlope_10 rfl (lv_at hl 0 rfl) ?_
    refine W.widen (k := 0) (n := 0) (by omega) (by omega) ?_
    exact W.iret (v := r_1) hx hb hr (fun t9 ht9 hW9 => ⟨⟨r_1, g_3, rfl, ⟨(fun (k : Nat) (hk : (14 ≤ k ∧ k < 76) ∨ (876 ≤ k ∧ k < 2080) ∨ (2081 ≤ k ∧ k < 2117)) => (fr_4 k (by omega)).trans (rfl)), hKK1.to (by rw [← heK1]; exact seq_n hnK1) rfl⟩, by show va_P (dC, dI) vwCl _ t9.heap; rw [ht9]; exact hP⟩, hS.F ht9⟩) hS.2.2 dX6_makePowerSlope_11
  · skip
    have hdK1 := hcK1
    obtain ⟨hLnK1, hWK1, ⟨hArK1, hWkK1, hPaK1, hFrK1⟩, hOK1, ptK1, hPtK1, hMK1⟩ := hdK1
    unfold CSO at hOK1
    have hpbK1 := hPtK1.2
    obtain ⟨nK1, hiK1⟩ : ∃ z : Nat, K1.1 = (z : Int) := ⟨K1.1.toNat, by omega⟩
    have hsK1 : r_1 = nI nK1 := by rw [hrK1, hiK1]; exact (nI_iI _).symm
    rw [hsK1]
    refine lv_istore_n (lv' := [(3, .int (nI nK1)), (0, .ref (ad 2080)), (1, .int (nI x1)), (2, .int (nI e9))]) hx hb dX6_makePowerSlope_5 rfl hl (by decide) rfl (fun ls hl => ?_)
    refine lv_iload_n hx hb dX6_makePowerSlope_6 rfl (lv_at hl 0 rfl) ?_
    refine lv_if_ge (tgt := 12) hx hb dX6_makePowerSlope_7 (by decide) (fun c_6 => ?_) (fun c_6 => absurd (mt (nI_leI (a := 0) (b := nK1) (by decide) (by omega)).mpr c_6) (by omega))
    refine lv_aload_n hx hb dX6_makePowerSlope_12 rfl (lv_at hl 1 rfl) ?_
    refine lv_iload_n hx hb dX6_makePowerSlope_13 rfl (lv_at hl 2 rfl) ?_
    refine lv_iload_n hx hb dX6_makePowerSlope_14 rfl (lv_at hl 3 rfl) ?_
    refine lv_iconst (v := nI 1) hx hb dX6_makePowerSlope_15 (by decide +kernel) ?_
    refine lv_isub hx hb dX6_makePowerSlope_16 ?_
    refine lv_topi (fun x_7 e_8 => ?_)
    obtain rfl : x_7 = nI (e9 - 1) := e_8.trans (pk_sub (show 1 ≤ e9 by omega))
    refine va_calli (va_runV (As := [.int (nI x1), .int (nI (e9 - 1))]) (rest := []) ⟨hx, hb, hml, hown, hts⟩ (c_V6_makePower l dC dI A ad cA g_3 K1.2 x1 (e9 - 1) hcK1 hokK1.1 (by omega) (by omega)) (cwV 2 hts (goodIn_app (goodIn_r [Cond.methodLink RX6 171 yX6_makePower, Cond.instanceMethod yX6_makePower, Cond.selects RX6 yX6_makePower yX6_makePower, Cond.initialized RX6] [5, 6, 7, 4] rfl rfl) (goodIn_sub (fun w9 h9 => bk1 w9 h9) gw_V6_makePower)) rfl rfl rfl (by decide +kernel) ⟨Nat.le_of_ble_eq_true rfl, Nat.le_of_ble_eq_true rfl⟩) ⟨fun a U g mk q => ⟨q.1, q.2.1, q.2.2.1, LY.moved (u := U) (U := U.calling g mk a) (Vm.Alike.refl U.vm) q.2.2.2⟩, va_recv hK hP (ci := 9) (q0 := 2080) rfl (wo_at (by decide) hOK1), fun U hU hW => ⟨rfl, by rw [hU]; exact fun q h => hA q (Nat.le_trans hS.1 h), by rw [hU]; exact hP, LY.moved hW.alike hL⟩⟩ rfl rfl hl.1 rfl (lv_room (Nat.le_of_ble_eq_true rfl)) dX6_makePowerSlope_17 ⟨(Nat.le_of_ble_eq_true rfl), (Nat.le_of_ble_eq_true rfl)⟩) hS (fun q _ h => h) (fun q h => h) (fun r_9 u8 t8 H1 locs ht8 hvm8 hw_10 hB hz1 hk1 hS => ?_)
    obtain ⟨g_11, rfl⟩ : ∃ z, z = u8 := ⟨_, rfl⟩
    try dsimp only at hw_10 hB
    rw [ht8] at hB
    have hP := hB
    generalize H1 = H at hP hS ⊢
    obtain ⟨fr_12, hKK2⟩ := hw_10
    obtain ⟨K2, heK2⟩ : ∃ z : Int × List PD, z = powL K1.2 x1 (e9 - 1) := ⟨_, rfl⟩
    rw [← heK2] at hKK2
    have hokK2 : OKK K1.2 K2 := by rw [heK2]; exact OKK.pow hokK1.1 (by omega) (by omega)
    have hleK2 := hokK2.2.1.1
    have hcK2 := hKK2.2.1
    have hloK2 := hKK2.2.2.1
    have hhiK2 := hKK2.2.2.2
    have hrK2 := hKK2.1
    have hlnK2 := hcK2.1
    rcases Int.lt_or_le K2.1 0 with hnK2 | hnK2
    · skip
      have hdK2 := hcK2
      obtain ⟨hLnK2, hWK2, ⟨hArK2, hWkK2, hPaK2, hFrK2⟩, hOK2, ptK2, hPtK2, hMK2⟩ := hdK2
      unfold CSO at hOK2
      have hpbK2 := hPtK2.2
      refine lv_istore (lv' := [(4, .int r_9), (3, .int (nI nK1)), (0, .ref (ad 2080)), (1, .int (nI x1)), (2, .int (nI e9))]) hx hb dX6_makePowerSlope_20 hl (by decide) rfl (fun ls hl => ?_)
      refine lv_aload_n hx hb dX6_makePowerSlope_22 rfl (lv_at hl 2 rfl) ?_
      refine lv_aload_n hx hb dX6_makePowerSlope_23 rfl (lv_at hl 2 rfl) ?_
      refine lv_iload_n hx hb dX6_makePowerSlope_24 rfl (lv_at hl 1 rfl) ?_
      refine lv_iload hx hb dX6_makePowerSlope_25 (lv_at hl 0 rfl) ?_
      refine va_calli (va_runV (As := [.int (nI nK1), .int r_9]) (rest := [.ref (ad 2080)]) ⟨hx, hb, hml, hown, hts⟩ (c_V6_prdN l dC dI A ad cA g_11 (nI nK1) r_9 ((nK1 : Nat) : Int) K2.1 (nI_iI nK1) hrK2 (by omega) (by omega) (by omega)) (cwV 2 hts (goodIn_app (goodIn_r [Cond.methodLink RX6 109 yX6_makeProduct, Cond.instanceMethod yX6_makeProduct, Cond.selects RX6 yX6_makeProduct yX6_makeProduct, Cond.initialized RX6] [8, 9, 10, 4] rfl rfl) (goodIn_sub (fun w9 h9 => bk2 w9 h9) gw_V6_prdN)) rfl rfl rfl (by decide +kernel) ⟨Nat.le_of_ble_eq_true rfl, Nat.le_of_ble_eq_true rfl⟩) ⟨fun a U g mk q => ⟨q.1, q.2.1, q.2.2.1, LY.moved (u := U) (U := U.calling g mk a) (Vm.Alike.refl U.vm) q.2.2.2⟩, va_recv hK hP (ci := 9) (q0 := 2080) rfl (wo_at (by decide) hOK2), fun U hU hW => ⟨rfl, by rw [hU]; exact fun q h => hA q (Nat.le_trans hS.1 h), by rw [hU]; exact hP, LY.moved hW.alike hL⟩⟩ rfl rfl hl.1 rfl (lv_room (Nat.le_of_ble_eq_true rfl)) dX6_makePowerSlope_27 ⟨(Nat.le_of_ble_eq_true rfl), (Nat.le_of_ble_eq_true rfl)⟩) hS (fun q _ h => h) (fun q h => h) (fun r_13 u8 t8 H1 locs ht8 hvm8 hw_14 hB hz1 hk1 hS => ?_)
      obtain ⟨⟩ := u8
      try dsimp only at hw_14 hB
      rw [ht8] at hB
      have hP := hB
      generalize H1 = H at hP hS ⊢
      have hrr : r_13 = r_9 := by rcases hw_14 with ⟨h8, h9⟩ | ⟨h8, h9⟩; omega; exact h9
      clear hw_14
      rw [hrr]
      refine lv_aload_n hx hb dX6_makePowerSlope_30 rfl (lv_at hl 2 rfl) ?_
      refine m_get (D := (dC, dI)) (v := .ref (ad 2083)) (C := RX6) (T := TX6) (N := 7) hx hb hts bk3 hown hK hP 2080 (by decide) hOK2 rfl 3 (by decide) (hts (.fieldLink RX6 21 "GradientDesk$Shelf" "slopes" "[I") (List.mem_of_getElem? (i := 11) rfl)) (fun _ h9 => h9) rfl dX6_makePowerSlope_31 ?_
      refine lv_iload_n hx hb dX6_makePowerSlope_34 rfl (lv_at hl 3 rfl) ?_
      have f_15 : g_11 2083 = .inl (cA 2083, 200, .inl (fun j => iI (sf j))) := (fr_12 2083 (by omega)).trans ((fr_4 2083 (by omega)).trans h83)
      refine m_iald hx hb hK hP 2083 (by decide) rfl f_15 (i := x1) (by omega) (by decide) dX6_makePowerSlope_35 ?_
      refine lv_topi (fun x_16 e_17 => ?_)
      obtain rfl : x_16 = nI d1 := e_17.trans (by rw [hs1]; exact (nI_iI _).symm)
      refine va_calli (va_runV (As := [.int r_9, .int (nI d1)]) (rest := []) ⟨hx, hb, hml, hown, hts⟩ (c_V6_prdN l dC dI A ad cA g_11 r_9 (nI d1) K2.1 ((d1 : Nat) : Int) hrK2 (nI_iI d1) (by omega) (by omega) (by omega)) (cwV 2 hts (goodIn_app (goodIn_r [Cond.methodLink RX6 109 yX6_makeProduct, Cond.instanceMethod yX6_makeProduct, Cond.selects RX6 yX6_makeProduct yX6_makeProduct, Cond.initialized RX6] [8, 9, 10, 4] rfl rfl) (goodIn_sub (fun w9 h9 => bk2 w9 h9) gw_V6_prdN)) rfl rfl rfl (by decide +kernel) ⟨Nat.le_of_ble_eq_true rfl, Nat.le_of_ble_eq_true rfl⟩) ⟨fun a U g mk q => ⟨q.1, q.2.1, q.2.2.1, LY.moved (u := U) (U := U.calling g mk a) (Vm.Alike.refl U.vm) q.2.2.2⟩, va_recv hK hP (ci := 9) (q0 := 2080) rfl (wo_at (by decide) hOK2), fun U hU hW => ⟨rfl, by rw [hU]; exact fun q h => hA q (Nat.le_trans hS.1 h), by rw [hU]; exact hP, LY.moved hW.alike hL⟩⟩ rfl rfl hl.1 rfl (lv_room (Nat.le_of_ble_eq_true rfl)) dX6_makePowerSlope_36 ⟨(Nat.le_of_ble_eq_true rfl), (Nat.le_of_ble_eq_true rfl)⟩) hS (fun q _ h => h) (fun q h => h) (fun r_18 u8 t8 H1 locs ht8 hvm8 hw_19 hB hz1 hk1 hS => ?_)
      obtain ⟨⟩ := u8
      try dsimp only at hw_19 hB
      rw [ht8] at hB
      have hP := hB
      generalize H1 = H at hP hS ⊢
      have hrr : r_18 = r_9 := by rcases hw_19 with ⟨h8, h9⟩ | ⟨h8, h9⟩; exact h9; omega
      clear hw_19
      rw [hrr]
      refine W.widen (k := 0) (n := 0) (by omega) (by omega) ?_
      exact W.iret (v := r_9) hx hb hr (fun t9 ht9 hW9 => ⟨⟨r_9, g_11, rfl, ⟨(fun (k : Nat) (hk : (14 ≤ k ∧ k < 76) ∨ (876 ≤ k ∧ k < 2080) ∨ (2081 ≤ k ∧ k < 2117)) => (fr_12 k (by omega)).trans ((fr_4 k (by omega)).trans (rfl))), hKK2.to (by rw [← heK1]; refine (seq_p hiK1).trans ?_; rw [← heK2]; exact seq_n hnK2) rfl⟩, by show va_P (dC, dI) vwCl _ t9.heap; rw [ht9]; exact hP⟩, hS.F ht9⟩) hS.2.2 dX6_makePowerSlope_39
    · skip
      have hdK2 := hcK2
      obtain ⟨hLnK2, hWK2, ⟨hArK2, hWkK2, hPaK2, hFrK2⟩, hOK2, ptK2, hPtK2, hMK2⟩ := hdK2
      unfold CSO at hOK2
      have hpbK2 := hPtK2.2
      obtain ⟨nK2, hiK2⟩ : ∃ z : Nat, K2.1 = (z : Int) := ⟨K2.1.toNat, by omega⟩
      have hsK2 : r_9 = nI nK2 := by rw [hrK2, hiK2]; exact (nI_iI _).symm
      rw [hsK2]
      refine lv_istore (lv' := [(4, .int (nI nK2)), (3, .int (nI nK1)), (0, .ref (ad 2080)), (1, .int (nI x1)), (2, .int (nI e9))]) hx hb dX6_makePowerSlope_20 hl (by decide) rfl (fun ls hl => ?_)
      refine lv_aload_n hx hb dX6_makePowerSlope_22 rfl (lv_at hl 2 rfl) ?_
      refine lv_aload_n hx hb dX6_makePowerSlope_23 rfl (lv_at hl 2 rfl) ?_
      refine lv_iload_n hx hb dX6_makePowerSlope_24 rfl (lv_at hl 1 rfl) ?_
      refine lv_iload hx hb dX6_makePowerSlope_25 (lv_at hl 0 rfl) ?_
      refine va_calli (va_runV (As := [.int (nI nK1), .int (nI nK2)]) (rest := [.ref (ad 2080)]) ⟨hx, hb, hml, hown, hts⟩ (c_V6_makeProduct l dC dI A ad cA g_11 K2.2 nK1 nK2 hcK2 hokK2.1 (by omega) (by omega)) (cwV 2 hts (goodIn_app (goodIn_r [Cond.methodLink RX6 109 yX6_makeProduct, Cond.instanceMethod yX6_makeProduct, Cond.selects RX6 yX6_makeProduct yX6_makeProduct, Cond.initialized RX6] [8, 9, 10, 4] rfl rfl) (goodIn_sub (fun w9 h9 => bk4 w9 h9) gw_V6_makeProduct)) rfl rfl rfl (by decide +kernel) ⟨Nat.le_of_ble_eq_true rfl, Nat.le_of_ble_eq_true rfl⟩) ⟨fun a U g mk q => ⟨q.1, q.2.1, q.2.2.1, LY.moved (u := U) (U := U.calling g mk a) (Vm.Alike.refl U.vm) q.2.2.2⟩, va_recv hK hP (ci := 9) (q0 := 2080) rfl (wo_at (by decide) hOK2), fun U hU hW => ⟨rfl, by rw [hU]; exact fun q h => hA q (Nat.le_trans hS.1 h), by rw [hU]; exact hP, LY.moved hW.alike hL⟩⟩ rfl rfl hl.1 rfl (lv_room (Nat.le_of_ble_eq_true rfl)) dX6_makePowerSlope_27 ⟨(Nat.le_of_ble_eq_true rfl), (Nat.le_of_ble_eq_true rfl)⟩) hS (fun q _ h => h) (fun q h => h) (fun r_20 u8 t8 H1 locs ht8 hvm8 hw_21 hB hz1 hk1 hS => ?_)
      obtain ⟨g_22, rfl⟩ : ∃ z, z = u8 := ⟨_, rfl⟩
      try dsimp only at hw_21 hB
      rw [ht8] at hB
      have hP := hB
      generalize H1 = H at hP hS ⊢
      obtain ⟨fr_23, hKK3⟩ := hw_21
      obtain ⟨K3, heK3⟩ : ∃ z : Int × List PD, z = prdL K2.2 nK1 nK2 := ⟨_, rfl⟩
      rw [← heK3] at hKK3
      have hokK3 : OKK K2.2 K3 := by rw [heK3]; exact OKK.prd hokK2.1 (by omega) (by omega)
      have hleK3 := hokK3.2.1.1
      have hcK3 := hKK3.2.1
      have hloK3 := hKK3.2.2.1
      have hhiK3 := hKK3.2.2.2
      have hrK3 := hKK3.1
      have hlnK3 := hcK3.1
      rcases Int.lt_or_le K3.1 0 with hnK3 | hnK3
      · skip
        have hdK3 := hcK3
        obtain ⟨hLnK3, hWK3, ⟨hArK3, hWkK3, hPaK3, hFrK3⟩, hOK3, ptK3, hPtK3, hMK3⟩ := hdK3
        unfold CSO at hOK3
        have hpbK3 := hPtK3.2
        refine lv_aload_n hx hb dX6_makePowerSlope_30 rfl (lv_at hl 2 rfl) ?_
        refine m_get (D := (dC, dI)) (v := .ref (ad 2083)) (C := RX6) (T := TX6) (N := 7) hx hb hts bk3 hown hK hP 2080 (by decide) hOK3 rfl 3 (by decide) (hts (.fieldLink RX6 21 "GradientDesk$Shelf" "slopes" "[I") (List.mem_of_getElem? (i := 11) rfl)) (fun _ h9 => h9) rfl dX6_makePowerSlope_31 ?_
        refine lv_iload_n hx hb dX6_makePowerSlope_34 rfl (lv_at hl 3 rfl) ?_
        have f_24 : g_22 2083 = .inl (cA 2083, 200, .inl (fun j => iI (sf j))) := (fr_23 2083 (by omega)).trans ((fr_12 2083 (by omega)).trans ((fr_4 2083 (by omega)).trans h83))
        refine m_iald hx hb hK hP 2083 (by decide) rfl f_24 (i := x1) (by omega) (by decide) dX6_makePowerSlope_35 ?_
        refine lv_topi (fun x_25 e_26 => ?_)
        obtain rfl : x_25 = nI d1 := e_26.trans (by rw [hs1]; exact (nI_iI _).symm)
        refine va_calli (va_runV (As := [.int r_20, .int (nI d1)]) (rest := []) ⟨hx, hb, hml, hown, hts⟩ (c_V6_prdN l dC dI A ad cA g_22 r_20 (nI d1) K3.1 ((d1 : Nat) : Int) hrK3 (nI_iI d1) (by omega) (by omega) (by omega)) (cwV 2 hts (goodIn_app (goodIn_r [Cond.methodLink RX6 109 yX6_makeProduct, Cond.instanceMethod yX6_makeProduct, Cond.selects RX6 yX6_makeProduct yX6_makeProduct, Cond.initialized RX6] [8, 9, 10, 4] rfl rfl) (goodIn_sub (fun w9 h9 => bk2 w9 h9) gw_V6_prdN)) rfl rfl rfl (by decide +kernel) ⟨Nat.le_of_ble_eq_true rfl, Nat.le_of_ble_eq_true rfl⟩) ⟨fun a U g mk q => ⟨q.1, q.2.1, q.2.2.1, LY.moved (u := U) (U := U.calling g mk a) (Vm.Alike.refl U.vm) q.2.2.2⟩, va_recv hK hP (ci := 9) (q0 := 2080) rfl (wo_at (by decide) hOK3), fun U hU hW => ⟨rfl, by rw [hU]; exact fun q h => hA q (Nat.le_trans hS.1 h), by rw [hU]; exact hP, LY.moved hW.alike hL⟩⟩ rfl rfl hl.1 rfl (lv_room (Nat.le_of_ble_eq_true rfl)) dX6_makePowerSlope_36 ⟨(Nat.le_of_ble_eq_true rfl), (Nat.le_of_ble_eq_true rfl)⟩) hS (fun q _ h => h) (fun q h => h) (fun r_27 u8 t8 H1 locs ht8 hvm8 hw_28 hB hz1 hk1 hS => ?_)
        obtain ⟨⟩ := u8
        try dsimp only at hw_28 hB
        rw [ht8] at hB
        have hP := hB
        generalize H1 = H at hP hS ⊢
        have hrr : r_27 = r_20 := by rcases hw_28 with ⟨h8, h9⟩ | ⟨h8, h9⟩; exact h9; omega
        clear hw_28
        rw [hrr]
        refine W.widen (k := 0) (n := 0) (by omega) (by omega) ?_
        exact W.iret (v := r_20) hx hb hr (fun t9 ht9 hW9 => ⟨⟨r_20, g_22, rfl, ⟨(fun (k : Nat) (hk : (14 ≤ k ∧ k < 76) ∨ (876 ≤ k ∧ k < 2080) ∨ (2081 ≤ k ∧ k < 2117)) => (fr_23 k (by omega)).trans ((fr_12 k (by omega)).trans ((fr_4 k (by omega)).trans (rfl)))), hKK3.to (by rw [← heK1]; refine (seq_p hiK1).trans ?_; rw [← heK2]; refine (seq_p hiK2).trans ?_; rw [← heK3]; exact seq_n hnK3) rfl⟩, by show va_P (dC, dI) vwCl _ t9.heap; rw [ht9]; exact hP⟩, hS.F ht9⟩) hS.2.2 dX6_makePowerSlope_39
      · skip
        have hdK3 := hcK3
        obtain ⟨hLnK3, hWK3, ⟨hArK3, hWkK3, hPaK3, hFrK3⟩, hOK3, ptK3, hPtK3, hMK3⟩ := hdK3
        unfold CSO at hOK3
        have hpbK3 := hPtK3.2
        obtain ⟨nK3, hiK3⟩ : ∃ z : Nat, K3.1 = (z : Int) := ⟨K3.1.toNat, by omega⟩
        have hsK3 : r_20 = nI nK3 := by rw [hrK3, hiK3]; exact (nI_iI _).symm
        rw [hsK3]
        refine lv_aload_n hx hb dX6_makePowerSlope_30 rfl (lv_at hl 2 rfl) ?_
        refine m_get (D := (dC, dI)) (v := .ref (ad 2083)) (C := RX6) (T := TX6) (N := 7) hx hb hts bk3 hown hK hP 2080 (by decide) hOK3 rfl 3 (by decide) (hts (.fieldLink RX6 21 "GradientDesk$Shelf" "slopes" "[I") (List.mem_of_getElem? (i := 11) rfl)) (fun _ h9 => h9) rfl dX6_makePowerSlope_31 ?_
        refine lv_iload_n hx hb dX6_makePowerSlope_34 rfl (lv_at hl 3 rfl) ?_
        have f_29 : g_22 2083 = .inl (cA 2083, 200, .inl (fun j => iI (sf j))) := (fr_23 2083 (by omega)).trans ((fr_12 2083 (by omega)).trans ((fr_4 2083 (by omega)).trans h83))
        refine m_iald hx hb hK hP 2083 (by decide) rfl f_29 (i := x1) (by omega) (by decide) dX6_makePowerSlope_35 ?_
        refine lv_topi (fun x_30 e_31 => ?_)
        obtain rfl : x_30 = nI d1 := e_31.trans (by rw [hs1]; exact (nI_iI _).symm)
        refine va_calli (va_runV (As := [.int (nI nK3), .int (nI d1)]) (rest := []) ⟨hx, hb, hml, hown, hts⟩ (c_V6_makeProduct l dC dI A ad cA g_22 K3.2 nK3 d1 hcK3 hokK3.1 (by omega) (by omega)) (cwV 2 hts (goodIn_app (goodIn_r [Cond.methodLink RX6 109 yX6_makeProduct, Cond.instanceMethod yX6_makeProduct, Cond.selects RX6 yX6_makeProduct yX6_makeProduct, Cond.initialized RX6] [8, 9, 10, 4] rfl rfl) (goodIn_sub (fun w9 h9 => bk4 w9 h9) gw_V6_makeProduct)) rfl rfl rfl (by decide +kernel) ⟨Nat.le_of_ble_eq_true rfl, Nat.le_of_ble_eq_true rfl⟩) ⟨fun a U g mk q => ⟨q.1, q.2.1, q.2.2.1, LY.moved (u := U) (U := U.calling g mk a) (Vm.Alike.refl U.vm) q.2.2.2⟩, va_recv hK hP (ci := 9) (q0 := 2080) rfl (wo_at (by decide) hOK3), fun U hU hW => ⟨rfl, by rw [hU]; exact fun q h => hA q (Nat.le_trans hS.1 h), by rw [hU]; exact hP, LY.moved hW.alike hL⟩⟩ rfl rfl hl.1 rfl (lv_room (Nat.le_of_ble_eq_true rfl)) dX6_makePowerSlope_36 ⟨(Nat.le_of_ble_eq_true rfl), (Nat.le_of_ble_eq_true rfl)⟩) hS (fun q _ h => h) (fun q h => h) (fun r_32 u8 t8 H1 locs ht8 hvm8 hw_33 hB hz1 hk1 hS => ?_)
        obtain ⟨g_34, rfl⟩ : ∃ z, z = u8 := ⟨_, rfl⟩
        try dsimp only at hw_33 hB
        rw [ht8] at hB
        have hP := hB
        generalize H1 = H at hP hS ⊢
        obtain ⟨fr_35, hKK4⟩ := hw_33
        obtain ⟨K4, heK4⟩ : ∃ z : Int × List PD, z = prdL K3.2 nK3 d1 := ⟨_, rfl⟩
        rw [← heK4] at hKK4
        have hokK4 : OKK K3.2 K4 := by rw [heK4]; exact OKK.prd hokK3.1 (by omega) (by omega)
        have hleK4 := hokK4.2.1.1
        have hcK4 := hKK4.2.1
        have hloK4 := hKK4.2.2.1
        have hhiK4 := hKK4.2.2.2
        have hrK4 := hKK4.1
        have hlnK4 := hcK4.1
        rcases Int.lt_or_le K4.1 0 with hnK4 | hnK4
        · skip
          have hdK4 := hcK4
          obtain ⟨hLnK4, hWK4, ⟨hArK4, hWkK4, hPaK4, hFrK4⟩, hOK4, ptK4, hPtK4, hMK4⟩ := hdK4
          unfold CSO at hOK4
          have hpbK4 := hPtK4.2
          refine W.widen (k := 0) (n := 0) (by omega) (by omega) ?_
          exact W.iret (v := r_32) hx hb hr (fun t9 ht9 hW9 => ⟨⟨r_32, g_34, rfl, ⟨(fun (k : Nat) (hk : (14 ≤ k ∧ k < 76) ∨ (876 ≤ k ∧ k < 2080) ∨ (2081 ≤ k ∧ k < 2117)) => (fr_35 k (by omega)).trans ((fr_23 k (by omega)).trans ((fr_12 k (by omega)).trans ((fr_4 k (by omega)).trans (rfl))))), hKK4.to (by rw [← heK1]; refine (seq_p hiK1).trans ?_; rw [← heK2]; refine (seq_p hiK2).trans ?_; rw [← heK3]; refine (seq_p hiK3).trans ?_; exact heK4.symm) rfl⟩, by show va_P (dC, dI) vwCl _ t9.heap; rw [ht9]; exact hP⟩, hS.F ht9⟩) hS.2.2 dX6_makePowerSlope_39
        · skip
          have hdK4 := hcK4
          obtain ⟨hLnK4, hWK4, ⟨hArK4, hWkK4, hPaK4, hFrK4⟩, hOK4, ptK4, hPtK4, hMK4⟩ := hdK4
          unfold CSO at hOK4
          have hpbK4 := hPtK4.2
          obtain ⟨nK4, hiK4⟩ : ∃ z : Nat, K4.1 = (z : Int) := ⟨K4.1.toNat, by omega⟩
          have hsK4 : r_32 = nI nK4 := by rw [hrK4, hiK4]; exact (nI_iI _).symm
          rw [hsK4]
          refine W.widen (k := 0) (n := 0) (by omega) (by omega) ?_
          exact W.iret (v := nI nK4) hx hb hr (fun t9 ht9 hW9 => ⟨⟨nI nK4, g_34, rfl, ⟨(fun (k : Nat) (hk : (14 ≤ k ∧ k < 76) ∨ (876 ≤ k ∧ k < 2080) ∨ (2081 ≤ k ∧ k < 2117)) => (fr_35 k (by omega)).trans ((fr_23 k (by omega)).trans ((fr_12 k (by omega)).trans ((fr_4 k (by omega)).trans (rfl))))), hKK4.to (by rw [← heK1]; refine (seq_p hiK1).trans ?_; rw [← heK2]; refine (seq_p hiK2).trans ?_; rw [← heK3]; refine (seq_p hiK3).trans ?_; exact heK4.symm) hsK4.symm⟩, by show va_P (dC, dI) vwCl _ t9.heap; rw [ht9]; exact hP⟩, hS.F ht9⟩) hS.2.2 dX6_makePowerSlope_39
