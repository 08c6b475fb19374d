section
def wd_V6_prdSlope : List Cond := .code yX6_makeProductSlope cX6_makeProductSlope 5 (some .int) :: (([.fieldLink RX6 21 "GradientDesk$Shelf" "slopes" "[I", .methodLink RX6 109 yX6_makeProduct, .instanceMethod yX6_makeProduct, .selects RX6 yX6_makeProduct yX6_makeProduct, .initialized RX6, .methodLink RX6 162 yX6_makeSum, .instanceMethod yX6_makeSum, .selects RX6 yX6_makeSum yX6_makeSum] : List Cond) ++ (u_ws RX6 TX6 7 ++ (wd_V6_makeProduct ++ (wd_V6_sumN ++ (wd_V6_makeSum ++ ([]))))))
theorem gw_V6_prdSlope : wd_V6_prdSlope.all goodWord = true := k_allc rfl (k_all (by decide +kernel) (k_all (gu_X6) (k_all (gw_V6_makeProduct) (k_all (gw_V6_sumN) (k_all (gw_V6_makeSum) (rfl))))))
set_option maxHeartbeats 4000000 in
set_option maxRecDepth 100000 in
theorem c_V6_prdSlope (l : Launch) (dC : Nat → ClassId) (dI : Nat → Nat → Nat) (A : Nat → Prop) (ad : Nat → Nat) (cA : Nat → ClassId) (g : Nat → va_E) (L : List PD) (x1 : Nat) (y1 : Nat) (d1 : Nat) (d2 : Nat) (sf : Nat → Int) (hC : CS ad cA g L) (hWf : WFL L) (ix : x1 < L.length) (iy : y1 < L.length) (h83 : g 2083 = .inl (cA 2083, 200, .inl (fun j => iI (sf j)))) (hs1 : sf x1 = ((d1 : Nat) : Int)) (hs2 : sf y1 = ((d2 : Nat) : Int)) (id1 : d1 < L.length) (id2 : d2 < L.length) : Met l yX6_makeProductSlope wd_V6_prdSlope ({ frames := 60, cells := 0, slots := 0, locals := 1200 }) (va_Pc [.ref (ad 2080), .int (nI x1), .int (nI y1)] (PR NSc tyc dC dI A ad cA g)) (va_Qi (fun (r : Int32) => fun (u : Nat → va_E) => match u with | g2 => (∀ k, (14 ≤ k ∧ k < 76) ∨ (876 ≤ k ∧ k < 2080) ∨ (2081 ≤ k ∧ k < 2117) → g2 k = g k) ∧ CMK ad cA g2 (seqL (prdL L d1 y1) (fun a M => seqL (prdL M x1 d2) (fun b N => sumL N a b))) r) (fun (u : Nat → va_E) (t : State) => va_P (dC, dI) vwCl (wo ad NSc u) t.heap) A) (0) (0) A := by
  refine Met.ofW (cc := cX6_makeProductSlope) (maxL := 5) (ret := (some .int)) (by decide) rfl ?_
  intro p e s m args below meth c s₁ B hml hv
  obtain ⟨rfl, hA, hP, hL⟩ := hv
  have hx := B.exec
  have hb := B.bytes
  have hr := B.returns
  have hts := atoms_spec (ws := wd_V6_prdSlope) B.pre
  have hown : s.vm.findClass RX6 = some m.cls := findClass_of_methodNamed B.named
  have hlocks := B.notSynchronized
  have hK := hL.1
  have hD : ∀ g, va_D A (wo ad NSc g) := fun g => wo_D hL.2.1 hL.2.2 g
  have hS : va_S A s.heap s.heap [] := va_S.rf
  have bk0 : ∀ w ∈ u_ws RX6 TX6 7, w ∈ wd_V6_prdSlope := fun _ h => List.mem_cons_of_mem _ (List.mem_append_right _ (List.mem_append_left _ h))
  have bk1 : ∀ w ∈ wd_V6_makeProduct, w ∈ wd_V6_prdSlope := fun _ h => List.mem_cons_of_mem _ (List.mem_append_right _ (List.mem_append_right _ (List.mem_append_left _ h)))
  have bk2 : ∀ w ∈ wd_V6_sumN, w ∈ wd_V6_prdSlope := fun _ h => List.mem_cons_of_mem _ (List.mem_append_right _ (List.mem_append_right _ (List.mem_append_right _ (List.mem_append_left _ h))))
  have bk3 : ∀ w ∈ wd_V6_makeSum, w ∈ wd_V6_prdSlope := fun _ h => List.mem_cons_of_mem _ (List.mem_append_right _ (List.mem_append_right _ (List.mem_append_right _ (List.mem_append_right _ (List.mem_append_left _ h)))))
  have hl := lv_entry ([.ref (ad 2080), .int (nI x1), .int (nI y1)]) (n := 5) (Nat.le_of_ble_eq_true rfl)
  rw [lg_entry_eq]
  generalize (lg_sl ([.ref (ad 2080), .int (nI x1), .int (nI y1)]) ++ List.replicate (5 - (lg_sl ([.ref (ad 2080), .int (nI x1), .int (nI y1)])).length) Slot.unset).toArray = ls at hl ⊢
  have hl : lv_has ls 5 [(0, .ref (ad 2080)), (1, .int (nI x1)), (2, .int (nI y1))] := hl
  have hC0 := hC
  obtain ⟨hLn, hW, ⟨hAr, hWk, hPa, hFr⟩, hO, pt, hPt, hM⟩ := hC0
  unfold CSO at hO
  have hpb := hPt.2
  refine lv_aload_n hx hb dX6_makeProductSlope_0 rfl (lv_at hl 0 rfl) ?_
  refine lv_aload_n hx hb dX6_makeProductSlope_1 rfl (lv_at hl 0 rfl) ?_
  refine m_get (D := (dC, dI)) (v := .ref (ad 2083)) (C := RX6) (T := TX6) (N := 7) hx hb hts bk0 hown hK hP 2080 (by decide) hO rfl 3 (by decide) (hts (.fieldLink RX6 21 "GradientDesk$Shelf" "slopes" "[I") (List.mem_of_getElem? (i := 1) rfl)) (fun _ h9 => h9) rfl dX6_makeProductSlope_2 ?_
  refine lv_iload_n hx hb dX6_makeProductSlope_5 rfl (lv_at hl 1 rfl) ?_
  refine m_iald hx hb hK hP 2083 (by decide) rfl h83 (i := x1) (by omega) (by decide) dX6_makeProductSlope_6 ?_
  refine lv_topi (fun x_1 e_2 => ?_)
  obtain rfl : x_1 = nI d1 := e_2.trans (by rw [hs1]; exact (nI_iI _).symm)
  refine lv_iload_n hx hb dX6_makeProductSlope_7 rfl (lv_at hl 2 rfl) ?_
  refine va_calli (va_runV (As := [.int (nI d1), .int (nI y1)]) (rest := []) ⟨hx, hb, hml, hown, hts⟩ (c_V6_makeProduct l dC dI A ad cA g L d1 y1 hC hWf (by omega) (by omega)) (cwV 2 hts (goodIn_app (goodIn_r [Cond.methodLink RX6 109 yX6_makeProduct, Cond.instanceMethod yX6_makeProduct, Cond.selects RX6 yX6_makeProduct yX6_makeProduct, Cond.initialized RX6] [2, 3, 4, 5] rfl rfl) (goodIn_sub (fun w9 h9 => bk1 w9 h9) gw_V6_makeProduct)) rfl rfl rfl (by decide +kernel) ⟨Nat.le_of_ble_eq_true rfl, Nat.le_of_ble_eq_true rfl⟩) ⟨fun a U g mk q => ⟨q.1, q.2.1, q.2.2.1, LY.moved (u := U) (U := U.calling g mk a) (Vm.Alike.refl U.vm) q.2.2.2⟩, va_recv hK hP (ci := 9) (q0 := 2080) rfl (wo_at (by decide) hO), fun U hU hW => ⟨rfl, by rw [hU]; exact fun q h => hA q (Nat.le_trans hS.1 h), by rw [hU]; exact hP, LY.moved hW.alike hL⟩⟩ rfl rfl hl.1 rfl (lv_room (Nat.le_of_ble_eq_true rfl)) dX6_makeProductSlope_8 ⟨(Nat.le_of_ble_eq_true rfl), (Nat.le_of_ble_eq_true rfl)⟩) hS (fun q _ h => h) (fun q h => h) (fun r_3 u8 t8 H1 locs ht8 hvm8 hw_4 hB hz1 hk1 hS => ?_)
  obtain ⟨g_5, rfl⟩ : ∃ z, z = u8 := ⟨_, rfl⟩
  try dsimp only at hw_4 hB
  rw [ht8] at hB
  have hP := hB
  generalize H1 = H at hP hS ⊢
  obtain ⟨fr_6, hKK1⟩ := hw_4
  obtain ⟨K1, heK1⟩ : ∃ z : Int × List PD, z = prdL L d1 y1 := ⟨_, rfl⟩
  rw [← heK1] at hKK1
  have hokK1 : OKK L K1 := by rw [heK1]; exact OKK.prd hWf (by omega) (by omega)
  have hleK1 := hokK1.2.1.1
  have hcK1 := hKK1.2.1
  have hloK1 := hKK1.2.2.1
  have hhiK1 := hKK1.2.2.2
  have hrK1 := hKK1.1
  have hlnK1 := hcK1.1
  rcases Int.lt_or_le K1.1 0 with hnK1 | hnK1
  · skip
    have hdK1 := hcK1
    obtain ⟨hLnK1, hWK1, ⟨hArK1, hWkK1, hPaK1, hFrK1⟩, hOK1, ptK1, hPtK1, hMK1⟩ := hdK1
    unfold CSO at hOK1
    have hpbK1 := hPtK1.2
    refine lv_istore_n (lv' := [(3, .int r_3), (0, .ref (ad 2080)), (1, .int (nI x1)), (2, .int (nI y1))]) hx hb dX6_makeProductSlope_11 rfl hl (by decide) rfl (fun ls hl => ?_)
    refine lv_iload_n hx hb dX6_makeProductSlope_12 rfl (lv_at hl 0 rfl) ?_
    refine lv_if_ge (tgt := 18) hx hb dX6_makeProductSlope_13 (by decide) (fun c_7 => absurd ((k_iLE (a := 0) (b := K1.1) (show nI 0 = iI 0 from by decide) hrK1 (by omega) (by omega)).mp c_7) (by omega)) (fun c_7 => ?_)
    refine lv_iload_n hx hb dX6_makeProductSlope_16 rfl (lv_at hl 0 rfl) ?_
    refine W.widen (k := 0) (n := 0) (by omega) (by omega) ?_
    exact W.iret (v := r_3) hx hb hr (fun t9 ht9 hW9 => ⟨⟨r_3, g_5, rfl, ⟨(fun (k : Nat) (hk : (14 ≤ k ∧ k < 76) ∨ (876 ≤ k ∧ k < 2080) ∨ (2081 ≤ k ∧ k < 2117)) => (fr_6 k (by omega)).trans (rfl)), hKK1.to (by rw [← heK1]; exact seq_n hnK1) rfl⟩, by show va_P (dC, dI) vwCl _ t9.heap; rw [ht9]; exact hP⟩, hS.F ht9⟩) hS.2.2 dX6_makeProductSlope_17
  · skip
    have hdK1 := hcK1
    obtain ⟨hLnK1, hWK1, ⟨hArK1, hWkK1, hPaK1, hFrK1⟩, hOK1, ptK1, hPtK1, hMK1⟩ := hdK1
    unfold CSO at hOK1
    have hpbK1 := hPtK1.2
    obtain ⟨nK1, hiK1⟩ : ∃ z : Nat, K1.1 = (z : Int) := ⟨K1.1.toNat, by omega⟩
    have hsK1 : r_3 = nI nK1 := by rw [hrK1, hiK1]; exact (nI_iI _).symm
    rw [hsK1]
    refine lv_istore_n (lv' := [(3, .int (nI nK1)), (0, .ref (ad 2080)), (1, .int (nI x1)), (2, .int (nI y1))]) hx hb dX6_makeProductSlope_11 rfl hl (by decide) rfl (fun ls hl => ?_)
    refine lv_iload_n hx hb dX6_makeProductSlope_12 rfl (lv_at hl 0 rfl) ?_
    refine lv_if_ge (tgt := 18) hx hb dX6_makeProductSlope_13 (by decide) (fun c_8 => ?_) (fun c_8 => absurd (mt (nI_leI (a := 0) (b := nK1) (by decide) (by omega)).mpr c_8) (by omega))
    refine lv_aload_n hx hb dX6_makeProductSlope_18 rfl (lv_at hl 1 rfl) ?_
    refine lv_iload_n hx hb dX6_makeProductSlope_19 rfl (lv_at hl 2 rfl) ?_
    refine lv_aload_n hx hb dX6_makeProductSlope_20 rfl (lv_at hl 1 rfl) ?_
    refine m_get (D := (dC, dI)) (v := .ref (ad 2083)) (C := RX6) (T := TX6) (N := 7) hx hb hts bk0 hown hK hP 2080 (by decide) hOK1 rfl 3 (by decide) (hts (.fieldLink RX6 21 "GradientDesk$Shelf" "slopes" "[I") (List.mem_of_getElem? (i := 1) rfl)) (fun _ h9 => h9) rfl dX6_makeProductSlope_21 ?_
    refine lv_iload_n hx hb dX6_makeProductSlope_24 rfl (lv_at hl 3 rfl) ?_
    have f_9 : g_5 2083 = .inl (cA 2083, 200, .inl (fun j => iI (sf j))) := (fr_6 2083 (by omega)).trans h83
    refine m_iald hx hb hK hP 2083 (by decide) rfl f_9 (i := y1) (by omega) (by decide) dX6_makeProductSlope_25 ?_
    refine lv_topi (fun x_10 e_11 => ?_)
    obtain rfl : x_10 = nI d2 := e_11.trans (by rw [hs2]; exact (nI_iI _).symm)
    refine va_calli (va_runV (As := [.int (nI x1), .int (nI d2)]) (rest := []) ⟨hx, hb, hml, hown, hts⟩ (c_V6_makeProduct l dC dI A ad cA g_5 K1.2 x1 d2 hcK1 hokK1.1 (by omega) (by omega)) (cwV 2 hts (goodIn_app (goodIn_r [Cond.methodLink RX6 109 yX6_makeProduct, Cond.instanceMethod yX6_makeProduct, Cond.selects RX6 yX6_makeProduct yX6_makeProduct, Cond.initialized RX6] [2, 3, 4, 5] rfl rfl) (goodIn_sub (fun w9 h9 => bk1 w9 h9) gw_V6_makeProduct)) rfl rfl rfl (by decide +kernel) ⟨Nat.le_of_ble_eq_true rfl, Nat.le_of_ble_eq_true rfl⟩) ⟨fun a U g mk q => ⟨q.1, q.2.1, q.2.2.1, LY.moved (u := U) (U := U.calling g mk a) (Vm.Alike.refl U.vm) q.2.2.2⟩, va_recv hK hP (ci := 9) (q0 := 2080) rfl (wo_at (by decide) hOK1), fun U hU hW => ⟨rfl, by rw [hU]; exact fun q h => hA q (Nat.le_trans hS.1 h), by rw [hU]; exact hP, LY.moved hW.alike hL⟩⟩ rfl rfl hl.1 rfl (lv_room (Nat.le_of_ble_eq_true rfl)) dX6_makeProductSlope_26 ⟨(Nat.le_of_ble_eq_true rfl), (Nat.le_of_ble_eq_true rfl)⟩) hS (fun q _ h => h) (fun q h => h) (fun r_12 u8 t8 H1 locs ht8 hvm8 hw_13 hB hz1 hk1 hS => ?_)
    obtain ⟨g_14, rfl⟩ : ∃ z, z = u8 := ⟨_, rfl⟩
    try dsimp only at hw_13 hB
    rw [ht8] at hB
    have hP := hB
    generalize H1 = H at hP hS ⊢
    obtain ⟨fr_15, hKK2⟩ := hw_13
    obtain ⟨K2, heK2⟩ : ∃ z : Int × List PD, z = prdL K1.2 x1 d2 := ⟨_, rfl⟩
    rw [← heK2] at hKK2
    have hokK2 : OKK K1.2 K2 := by rw [heK2]; exact OKK.prd hokK1.1 (by omega) (by omega)
    have hleK2 := hokK2.2.1.1
    have hcK2 := hKK2.2.1
    have hloK2 := hKK2.2.2.1
    have hhiK2 := hKK2.2.2.2
    have hrK2 := hKK2.1
    have hlnK2 := hcK2.1
    rcases Int.lt_or_le K2.1 0 with hnK2 | hnK2
    · skip
      have hdK2 := hcK2
      obtain ⟨hLnK2, hWK2, ⟨hArK2, hWkK2, hPaK2, hFrK2⟩, hOK2, ptK2, hPtK2, hMK2⟩ := hdK2
      unfold CSO at hOK2
      have hpbK2 := hPtK2.2
      refine lv_istore (lv' := [(4, .int r_12), (3, .int (nI nK1)), (0, .ref (ad 2080)), (1, .int (nI x1)), (2, .int (nI y1))]) hx hb dX6_makeProductSlope_29 hl (by decide) rfl (fun ls hl => ?_)
      refine lv_aload_n hx hb dX6_makeProductSlope_31 rfl (lv_at hl 2 rfl) ?_
      refine lv_iload_n hx hb dX6_makeProductSlope_32 rfl (lv_at hl 1 rfl) ?_
      refine lv_iload hx hb dX6_makeProductSlope_33 (lv_at hl 0 rfl) ?_
      refine va_calli (va_runV (As := [.int (nI nK1), .int r_12]) (rest := []) ⟨hx, hb, hml, hown, hts⟩ (c_V6_sumN l dC dI A ad cA g_14 (nI nK1) r_12 ((nK1 : Nat) : Int) K2.1 (nI_iI nK1) hrK2 (by omega) (by omega) (by omega)) (cwV 2 hts (goodIn_app (goodIn_r [Cond.methodLink RX6 162 yX6_makeSum, Cond.instanceMethod yX6_makeSum, Cond.selects RX6 yX6_makeSum yX6_makeSum, Cond.initialized RX6] [6, 7, 8, 5] rfl rfl) (goodIn_sub (fun w9 h9 => bk2 w9 h9) gw_V6_sumN)) rfl rfl rfl (by decide +kernel) ⟨Nat.le_of_ble_eq_true rfl, Nat.le_of_ble_eq_true rfl⟩) ⟨fun a U g mk q => ⟨q.1, q.2.1, q.2.2.1, LY.moved (u := U) (U := U.calling g mk a) (Vm.Alike.refl U.vm) q.2.2.2⟩, va_recv hK hP (ci := 9) (q0 := 2080) rfl (wo_at (by decide) hOK2), fun U hU hW => ⟨rfl, by rw [hU]; exact fun q h => hA q (Nat.le_trans hS.1 h), by rw [hU]; exact hP, LY.moved hW.alike hL⟩⟩ rfl rfl hl.1 rfl (lv_room (Nat.le_of_ble_eq_true rfl)) dX6_makeProductSlope_35 ⟨(Nat.le_of_ble_eq_true rfl), (Nat.le_of_ble_eq_true rfl)⟩) hS (fun q _ h => h) (fun q h => h) (fun r_16 u8 t8 H1 locs ht8 hvm8 hw_17 hB hz1 hk1 hS => ?_)
      obtain ⟨⟩ := u8
      try dsimp only at hw_17 hB
      rw [ht8] at hB
      have hP := hB
      generalize H1 = H at hP hS ⊢
      have hrr : r_16 = r_12 := by rcases hw_17 with ⟨h8, h9⟩ | ⟨h8, h9⟩; omega; exact h9
      clear hw_17
      rw [hrr]
      refine W.widen (k := 0) (n := 0) (by omega) (by omega) ?_
      exact W.iret (v := r_12) hx hb hr (fun t9 ht9 hW9 => ⟨⟨r_12, g_14, rfl, ⟨(fun (k : Nat) (hk : (14 ≤ k ∧ k < 76) ∨ (876 ≤ k ∧ k < 2080) ∨ (2081 ≤ k ∧ k < 2117)) => (fr_15 k (by omega)).trans ((fr_6 k (by omega)).trans (rfl))), hKK2.to (by rw [← heK1]; refine (seq_p hiK1).trans ?_; rw [← heK2]; exact seq_n hnK2) rfl⟩, by show va_P (dC, dI) vwCl _ t9.heap; rw [ht9]; exact hP⟩, hS.F ht9⟩) hS.2.2 dX6_makeProductSlope_38
    · skip
      have hdK2 := hcK2
      obtain ⟨hLnK2, hWK2, ⟨hArK2, hWkK2, hPaK2, hFrK2⟩, hOK2, ptK2, hPtK2, hMK2⟩ := hdK2
      unfold CSO at hOK2
      have hpbK2 := hPtK2.2
      obtain ⟨nK2, hiK2⟩ : ∃ z : Nat, K2.1 = (z : Int) := ⟨K2.1.toNat, by omega⟩
      have hsK2 : r_12 = nI nK2 := by rw [hrK2, hiK2]; exact (nI_iI _).symm
      rw [hsK2]
      refine lv_istore (lv' := [(4, .int (nI nK2)), (3, .int (nI nK1)), (0, .ref (ad 2080)), (1, .int (nI x1)), (2, .int (nI y1))]) hx hb dX6_makeProductSlope_29 hl (by decide) rfl (fun ls hl => ?_)
      refine lv_aload_n hx hb dX6_makeProductSlope_31 rfl (lv_at hl 2 rfl) ?_
      refine lv_iload_n hx hb dX6_makeProductSlope_32 rfl (lv_at hl 1 rfl) ?_
      refine lv_iload hx hb dX6_makeProductSlope_33 (lv_at hl 0 rfl) ?_
      refine va_calli (va_runV (As := [.int (nI nK1), .int (nI nK2)]) (rest := []) ⟨hx, hb, hml, hown, hts⟩ (c_V6_makeSum l dC dI A ad cA g_14 K2.2 nK1 nK2 hcK2 hokK2.1 (by omega) (by omega)) (cwV 2 hts (goodIn_app (goodIn_r [Cond.methodLink RX6 162 yX6_makeSum, Cond.instanceMethod yX6_makeSum, Cond.selects RX6 yX6_makeSum yX6_makeSum, Cond.initialized RX6] [6, 7, 8, 5] rfl rfl) (goodIn_sub (fun w9 h9 => bk3 w9 h9) gw_V6_makeSum)) rfl rfl rfl (by decide +kernel) ⟨Nat.le_of_ble_eq_true rfl, Nat.le_of_ble_eq_true rfl⟩) ⟨fun a U g mk q => ⟨q.1, q.2.1, q.2.2.1, LY.moved (u := U) (U := U.calling g mk a) (Vm.Alike.refl U.vm) q.2.2.2⟩, va_recv hK hP (ci := 9) (q0 := 2080) rfl (wo_at (by decide) hOK2), fun U hU hW => ⟨rfl, by rw [hU]; exact fun q h => hA q (Nat.le_trans hS.1 h), by rw [hU]; exact hP, LY.moved hW.alike hL⟩⟩ rfl rfl hl.1 rfl (lv_room (Nat.le_of_ble_eq_true rfl)) dX6_makeProductSlope_35 ⟨(Nat.le_of_ble_eq_true rfl), (Nat.le_of_ble_eq_true rfl)⟩) hS (fun q _ h => h) (fun q h => h) (fun r_18 u8 t8 H1 locs ht8 hvm8 hw_19 hB hz1 hk1 hS => ?_)
      obtain ⟨g_20, rfl⟩ : ∃ z, z = u8 := ⟨_, rfl⟩
      try dsimp only at hw_19 hB
      rw [ht8] at hB
      have hP := hB
      generalize H1 = H at hP hS ⊢
      obtain ⟨fr_21, hKK3⟩ := hw_19
      obtain ⟨K3, heK3⟩ : ∃ z : Int × List PD, z = sumL K2.2 nK1 nK2 := ⟨_, rfl⟩
      rw [← heK3] at hKK3
      have hokK3 : OKK K2.2 K3 := by rw [heK3]; exact OKK.sum hokK2.1 (by omega) (by omega)
      have hleK3 := hokK3.2.1.1
      have hcK3 := hKK3.2.1
      have hloK3 := hKK3.2.2.1
      have hhiK3 := hKK3.2.2.2
      have hrK3 := hKK3.1
      have hlnK3 := hcK3.1
      rcases Int.lt_or_le K3.1 0 with hnK3 | hnK3
      · skip
        have hdK3 := hcK3
        obtain ⟨hLnK3, hWK3, ⟨hArK3, hWkK3, hPaK3, hFrK3⟩, hOK3, ptK3, hPtK3, hMK3⟩ := hdK3
        unfold CSO at hOK3
        have hpbK3 := hPtK3.2
        refine W.widen (k := 0) (n := 0) (by omega) (by omega) ?_
        exact W.iret (v := r_18) hx hb hr (fun t9 ht9 hW9 => ⟨⟨r_18, g_20, rfl, ⟨(fun (k : Nat) (hk : (14 ≤ k ∧ k < 76) ∨ (876 ≤ k ∧ k < 2080) ∨ (2081 ≤ k ∧ k < 2117)) => (fr_21 k (by omega)).trans ((fr_15 k (by omega)).trans ((fr_6 k (by omega)).trans (rfl)))), hKK3.to (by rw [← heK1]; refine (seq_p hiK1).trans ?_; rw [← heK2]; refine (seq_p hiK2).trans ?_; exact heK3.symm) rfl⟩, by show va_P (dC, dI) vwCl _ t9.heap; rw [ht9]; exact hP⟩, hS.F ht9⟩) hS.2.2 dX6_makeProductSlope_38
      · skip
        have hdK3 := hcK3
        obtain ⟨hLnK3, hWK3, ⟨hArK3, hWkK3, hPaK3, hFrK3⟩, hOK3, ptK3, hPtK3, hMK3⟩ := hdK3
        unfold CSO at hOK3
        have hpbK3 := hPtK3.2
        obtain ⟨nK3, hiK3⟩ : ∃ z : Nat, K3.1 = (z : Int) := ⟨K3.1.toNat, by omega⟩
        have hsK3 : r_18 = nI nK3 := by rw [hrK3, hiK3]; exact (nI_iI _).symm
        rw [hsK3]
        refine W.widen (k := 0) (n := 0) (by omega) (by omega) ?_
        exact W.iret (v := nI nK3) hx hb hr (fun t9 ht9 hW9 => ⟨⟨nI nK3, g_20, rfl, ⟨(fun (k : Nat) (hk : (14 ≤ k ∧ k < 76) ∨ (876 ≤ k ∧ k < 2080) ∨ (2081 ≤ k ∧ k < 2117)) => (fr_21 k (by omega)).trans ((fr_15 k (by omega)).trans ((fr_6 k (by omega)).trans (rfl)))), hKK3.to (by rw [← heK1]; refine (seq_p hiK1).trans ?_; rw [← heK2]; refine (seq_p hiK2).trans ?_; exact heK3.symm) hsK3.symm⟩, by show va_P (dC, dI) vwCl _ t9.heap; rw [ht9]; exact hP⟩, hS.F ht9⟩) hS.2.2 dX6_makeProductSlope_38
def wd_V6_powSlope : List Cond := .code yX6_makePowerSlope cX6_makePowerSlope 5 (some .int) :: (([.methodLink RX6 101 yX6_makeWhole, .instanceMethod yX6_makeWhole, .selects RX6 yX6_makeWhole yX6_makeWhole, .initialized RX6, .methodLink RX6 171 yX6_makePower, .instanceMethod yX6_makePower, .selects RX6 yX6_makePower yX6_makePower, .methodLink RX6 109 yX6_makeProduct, .instanceMethod yX6_makeProduct, .selects RX6 yX6_makeProduct yX6_makeProduct, .fieldLink RX6 21 "GradientDesk$Shelf" "slopes" "[I"] : List Cond) ++ (wd_V6_makeWhole ++ (wd_V6_makePower ++ (wd_V6_prdN ++ (u_ws RX6 TX6 7 ++ (wd_V6_makeProduct ++ ([])))))))
theorem gw_V6_powSlope : wd_V6_powSlope.all goodWord = true := k_allc rfl (k_all (by decide +kernel) (k_all (gw_V6_makeWhole) (k_all (gw_V6_makePower) (k_all (gw_V6_prdN) (k_all (gu_X6) (k_all (gw_V6_makeProduct) (rfl)))))))
set_option maxHeartbeats 4000000 in
set_option maxRecDepth 100000 in
theorem c_V6_powSlope (l : Launch) (dC : Nat → ClassId) (dI : Nat → Nat → Nat) (A : Nat → Prop) (ad : Nat → Nat) (cA : Nat → ClassId) (g : Nat → va_E) (L : List PD) (x1 : Nat) (e9 : Nat) (d1 : Nat) (sf : Nat → Int) (hC : CS ad cA g L) (hWf : WFL L) (ix : x1 < L.length) (he9 : 2 ≤ e9 ∧ e9 ≤ 9) (h83 : g 2083 = .inl (cA 2083, 200, .inl (fun j => iI (sf j)))) (hs1 : sf x1 = ((d1 : Nat) : Int)) (id1 : d1 < L.length) : Met l yX6_makePowerSlope wd_V6_powSlope ({ frames := 60, cells := 0, slots := 0, locals := 1200 }) (va_Pc [.ref (ad 2080), .int (nI x1), .int (nI e9)] (PR NSc tyc dC dI A ad cA g)) (va_Qi (fun (r : Int32) => fun (u : Nat → va_E) => match u with | g2 => (∀ k, (14 ≤ k ∧ k < 76) ∨ (876 ≤ k ∧ k < 2080) ∨ (2081 ≤ k ∧ k < 2117) → g2 k = g k) ∧ CMK ad cA g2 (seqL (numL L ((e9 : Nat) : Int) 1) (fun f M => seqL (powL M x1 (e9 - 1)) (fun l9 N => seqL (prdL N f l9) (fun b R => prdL R b d1)))) r) (fun (u : Nat → va_E) (t : State) => va_P (dC, dI) vwCl (wo ad NSc u) t.heap) A) (0) (0) A := by
  refine Met.ofW (cc := cX6_makePowerSlope) (maxL := 5) (ret := (some .int)) (by decide) rfl ?_
  intro p e s m args below meth c s₁ B hml hv
  obtain ⟨rfl, hA, hP, hL⟩ := hv
  have hx := B.exec
  have hb := B.bytes
  have hr := B.returns
  have hts := atoms_spec (ws := wd_V6_powSlope) B.pre
  have hown : s.vm.findClass RX6 = some m.cls := findClass_of_methodNamed B.named
  have hlocks := B.notSynchronized
  have hK := hL.1
  have hD : ∀ g, va_D A (wo ad NSc g) := fun g => wo_D hL.2.1 hL.2.2 g
  have hS : va_S A s.heap s.heap [] := va_S.rf
  have bk0 : ∀ w ∈ wd_V6_makeWhole, w ∈ wd_V6_powSlope := fun _ h => List.mem_cons_of_mem _ (List.mem_append_right _ (List.mem_append_left _ h))
  have bk1 : ∀ w ∈ wd_V6_makePower, w ∈ wd_V6_powSlope := fun _ h => List.mem_cons_of_mem _ (List.mem_append_right _ (List.mem_append_right _ (List.mem_append_left _ h)))
  have bk2 : ∀ w ∈ wd_V6_prdN, w ∈ wd_V6_powSlope := fun _ h => List.mem_cons_of_mem _ (List.mem_append_right _ (List.mem_append_right _ (List.mem_append_right _ (List.mem_append_left _ h))))
  have bk3 : ∀ w ∈ u_ws RX6 TX6 7, w ∈ wd_V6_powSlope := fun _ h => List.mem_cons_of_mem _ (List.mem_append_right _ (List.mem_append_right _ (List.mem_append_right _ (List.mem_append_right _ (List.mem_append_left _ h)))))
  have bk4 : ∀ w ∈ wd_V6_makeProduct, w ∈ wd_V6_powSlope := fun _ h => List.mem_cons_of_mem _ (List.mem_append_right _ (List.mem_append_right _ (List.mem_append_right _ (List.mem_append_right _ (List.mem_append_right _ (List.mem_append_left _ h))))))
  have hl := lv_entry ([.ref (ad 2080), .int (nI x1), .int (nI e9)]) (n := 5) (Nat.le_of_ble_eq_true rfl)
  rw [lg_entry_eq]
  generalize (lg_sl ([.ref (ad 2080), .int (nI x1), .int (nI e9)]) ++ List.replicate (5 - (lg_sl ([.ref (ad 2080), .int (nI x1), .int (nI e9)])).length) Slot.unset).toArray = ls at hl ⊢
  have hl : lv_has ls 5 [(0, .ref (ad 2080)), (1, .int (nI x1)), (2, .int (nI e9))] := hl
  have hC0 := hC
  obtain ⟨hLn, hW, ⟨hAr, hWk, hPa, hFr⟩, hO, pt, hPt, hM⟩ := hC0
  unfold CSO at hO
  have hpb := hPt.2
  refine lv_aload_n hx hb dX6_makePowerSlope_0 rfl (lv_at hl 0 rfl) ?_
  refine lv_iload_n hx hb dX6_makePowerSlope_1 rfl (lv_at hl 2 rfl) ?_
  refine va_calli (va_runV (As := [.int (nI e9)]) (rest := []) ⟨hx, hb, hml, hown, hts⟩ (c_V6_makeWhole l dC dI A ad cA g L (nI e9) ((e9 : Nat) : Int) hC (nI_toInt (by omega))) (cwV 1 hts (goodIn_app (goodIn_r [Cond.methodLink RX6 101 yX6_makeWhole, Cond.instanceMethod yX6_makeWhole, Cond.selects RX6 yX6_makeWhole yX6_makeWhole, Cond.initialized RX6] [1, 2, 3, 4] rfl rfl) (goodIn_sub (fun w9 h9 => bk0 w9 h9) gw_V6_makeWhole)) rfl rfl rfl (by decide +kernel) ⟨Nat.le_of_ble_eq_true rfl, Nat.le_of_ble_eq_true rfl⟩) ⟨fun a U g mk q => ⟨q.1, q.2.1, q.2.2.1, LY.moved (u := U) (U := U.calling g mk a) (Vm.Alike.refl U.vm) q.2.2.2⟩, va_recv hK hP (ci := 9) (q0 := 2080) rfl (wo_at (by decide) hO), fun U hU hW => ⟨rfl, by rw [hU]; exact fun q h => hA q (Nat.le_trans hS.1 h), by rw [hU]; exact hP, LY.moved hW.alike hL⟩⟩ rfl rfl hl.1 rfl (lv_room (Nat.le_of_ble_eq_true rfl)) dX6_makePowerSlope_2 ⟨(Nat.le_of_ble_eq_true rfl), (Nat.le_of_ble_eq_true rfl)⟩) hS (fun q _ h => h) (fun q h => h) (fun r_1 u8 t8 H1 locs ht8 hvm8 hw_2 hB hz1 hk1 hS => ?_)
  obtain ⟨g_3, rfl⟩ : ∃ z, z = u8 := ⟨_, rfl⟩
  try dsimp only at hw_2 hB
  rw [ht8] at hB
  have hP := hB
  generalize H1 = H at hP hS ⊢
  obtain ⟨fr_4, hKK1⟩ := hw_2
  obtain ⟨K1, heK1⟩ : ∃ z : Int × List PD, z = numL L ((e9 : Nat) : Int) 1 := ⟨_, rfl⟩
  rw [← heK1] at hKK1
  have hokK1 : OKK L K1 := by rw [heK1]; exact OKK.num hWf ⟨by decide, Nat.gcd_one_right _⟩
  have hleK1 := hokK1.2.1.1
  have hcK1 := hKK1.2.1
  have hloK1 := hKK1.2.2.1
  have hhiK1 := hKK1.2.2.2
  have hrK1 := hKK1.1
  have hlnK1 := hcK1.1
  rcases Int.lt_or_le K1.1 0 with hnK1 | hnK1
  · skip
    have hdK1 := hcK1
    obtain ⟨hLnK1, hWK1, ⟨hArK1, hWkK1, hPaK1, hFrK1⟩, hOK1, ptK1, hPtK1, hMK1⟩ := hdK1
    unfold CSO at hOK1
    have hpbK1 := hPtK1.2
    refine lv_istore_n (lv' := [(3, .int r_1), (0, .ref (ad 2080)), (1, .int (nI x1)), (2, .int (nI e9))]) hx hb dX6_makePowerSlope_5 rfl hl (by decide) rfl (fun ls hl => ?_)
    refine lv_iload_n hx hb dX6_makePowerSlope_6 rfl (lv_at hl 0 rfl) ?_
    refine lv_if_ge (tgt := 12) hx hb dX6_makePowerSlope_7 (by decide) (fun c_5 => absurd ((k_iLE (a := 0) (b := K1.1) (show nI 0 = iI 0 from by decide) hrK1 (by omega) (by omega)).mp c_5) (by omega)) (fun c_5 => ?_)
    refine lv_iload_n hx hb dX6_makePowerSlope_10 rfl (lv_at hl 0 rfl) ?_
    refine W.widen (k := 0) (n := 0) (by omega) (by omega) ?_
    exact W.iret (v := r_1) hx hb hr (fun t9 ht9 hW9 => ⟨⟨r_1, g_3, rfl, ⟨(fun (k : Nat) (hk : (14 ≤ k ∧ k < 76) ∨ (876 ≤ k ∧ k < 2080) ∨ (2081 ≤ k ∧ k < 2117)) => (fr_4 k (by omega)).trans (rfl)), hKK1.to (by rw [← heK1]; exact seq_n hnK1) rfl⟩, by show va_P (dC, dI) vwCl _ t9.heap; rw [ht9]; exact hP⟩, hS.F ht9⟩) hS.2.2 dX6_makePowerSlope_11
  · skip
    have hdK1 := hcK1
    obtain ⟨hLnK1, hWK1, ⟨hArK1, hWkK1, hPaK1, hFrK1⟩, hOK1, ptK1, hPtK1, hMK1⟩ := hdK1
    unfold CSO at hOK1
    have hpbK1 := hPtK1.2
    obtain ⟨nK1, hiK1⟩ : ∃ z : Nat, K1.1 = (z : Int) := ⟨K1.1.toNat, by omega⟩
    have hsK1 : r_1 = nI nK1 := by rw [hrK1, hiK1]; exact (nI_iI _).symm
    rw [hsK1]
    refine lv_istore_n (lv' := [(3, .int (nI nK1)), (0, .ref (ad 2080)), (1, .int (nI x1)), (2, .int (nI e9))]) hx hb dX6_makePowerSlope_5 rfl hl (by decide) rfl (fun ls hl => ?_)
    refine lv_iload_n hx hb dX6_makePowerSlope_6 rfl (lv_at hl 0 rfl) ?_
    refine lv_if_ge (tgt := 12) hx hb dX6_makePowerSlope_7 (by decide) (fun c_6 => ?_) (fun c_6 => absurd (mt (nI_leI (a := 0) (b := nK1) (by decide) (by omega)).mpr c_6) (by omega))
    refine lv_aload_n hx hb dX6_makePowerSlope_12 rfl (lv_at hl 1 rfl) ?_
    refine lv_iload_n hx hb dX6_makePowerSlope_13 rfl (lv_at hl 2 rfl) ?_
    refine lv_iload_n hx hb dX6_makePowerSlope_14 rfl (lv_at hl 3 rfl) ?_
    refine lv_iconst (v := nI 1) hx hb dX6_makePowerSlope_15 (by decide +kernel) ?_
    refine lv_isub hx hb dX6_makePowerSlope_16 ?_
    refine lv_topi (fun x_7 e_8 => ?_)
    obtain rfl : x_7 = nI (e9 - 1) := e_8.trans (pk_sub (show 1 ≤ e9 by omega))
    refine va_calli (va_runV (As := [.int (nI x1), .int (nI (e9 - 1))]) (rest := []) ⟨hx, hb, hml, hown, hts⟩ (c_V6_makePower l dC dI A ad cA g_3 K1.2 x1 (e9 - 1) hcK1 hokK1.1 (by omega) (by omega)) (cwV 2 hts (goodIn_app (goodIn_r [Cond.methodLink RX6 171 yX6_makePower, Cond.instanceMethod yX6_makePower, Cond.selects RX6 yX6_makePower yX6_makePower, Cond.initialized RX6] [5, 6, 7, 4] rfl rfl) (goodIn_sub (fun w9 h9 => bk1 w9 h9) gw_V6_makePower)) rfl rfl rfl (by decide +kernel) ⟨Nat.le_of_ble_eq_true rfl, Nat.le_of_ble_eq_true rfl⟩) ⟨fun a U g mk q => ⟨q.1, q.2.1, q.2.2.1, LY.moved (u := U) (U := U.calling g mk a) (Vm.Alike.refl U.vm) q.2.2.2⟩, va_recv hK hP (ci := 9) (q0 := 2080) rfl (wo_at (by decide) hOK1), fun U hU hW => ⟨rfl, by rw [hU]; exact fun q h => hA q (Nat.le_trans hS.1 h), by rw [hU]; exact hP, LY.moved hW.alike hL⟩⟩ rfl rfl hl.1 rfl (lv_room (Nat.le_of_ble_eq_true rfl)) dX6_makePowerSlope_17 ⟨(Nat.le_of_ble_eq_true rfl), (Nat.le_of_ble_eq_true rfl)⟩) hS (fun q _ h => h) (fun q h => h) (fun r_9 u8 t8 H1 locs ht8 hvm8 hw_10 hB hz1 hk1 hS => ?_)
    obtain ⟨g_11, rfl⟩ : ∃ z, z = u8 := ⟨_, rfl⟩
    try dsimp only at hw_10 hB
    rw [ht8] at hB
    have hP := hB
    generalize H1 = H at hP hS ⊢
    obtain ⟨fr_12, hKK2⟩ := hw_10
    obtain ⟨K2, heK2⟩ : ∃ z : Int × List PD, z = powL K1.2 x1 (e9 - 1) := ⟨_, rfl⟩
    rw [← heK2] at hKK2
    have hokK2 : OKK K1.2 K2 := by rw [heK2]; exact OKK.pow hokK1.1 (by omega) (by omega)
    have hleK2 := hokK2.2.1.1
    have hcK2 := hKK2.2.1
    have hloK2 := hKK2.2.2.1
    have hhiK2 := hKK2.2.2.2
    have hrK2 := hKK2.1
    have hlnK2 := hcK2.1
    rcases Int.lt_or_le K2.1 0 with hnK2 | hnK2
    · skip
      have hdK2 := hcK2
      obtain ⟨hLnK2, hWK2, ⟨hArK2, hWkK2, hPaK2, hFrK2⟩, hOK2, ptK2, hPtK2, hMK2⟩ := hdK2
      unfold CSO at hOK2
      have hpbK2 := hPtK2.2
      refine lv_istore (lv' := [(4, .int r_9), (3, .int (nI nK1)), (0, .ref (ad 2080)), (1, .int (nI x1)), (2, .int (nI e9))]) hx hb dX6_makePowerSlope_20 hl (by decide) rfl (fun ls hl => ?_)
      refine lv_aload_n hx hb dX6_makePowerSlope_22 rfl (lv_at hl 2 rfl) ?_
      refine lv_aload_n hx hb dX6_makePowerSlope_23 rfl (lv_at hl 2 rfl) ?_
      refine lv_iload_n hx hb dX6_makePowerSlope_24 rfl (lv_at hl 1 rfl) ?_
      refine lv_iload hx hb dX6_makePowerSlope_25 (lv_at hl 0 rfl) ?_
      refine va_calli (va_runV (As := [.int (nI nK1), .int r_9]) (rest := [.ref (ad 2080)]) ⟨hx, hb, hml, hown, hts⟩ (c_V6_prdN l dC dI A ad cA g_11 (nI nK1) r_9 ((nK1 : Nat) : Int) K2.1 (nI_iI nK1) hrK2 (by omega) (by omega) (by omega)) (cwV 2 hts (goodIn_app (goodIn_r [Cond.methodLink RX6 109 yX6_makeProduct, Cond.instanceMethod yX6_makeProduct, Cond.selects RX6 yX6_makeProduct yX6_makeProduct, Cond.initialized RX6] [8, 9, 10, 4] rfl rfl) (goodIn_sub (fun w9 h9 => bk2 w9 h9) gw_V6_prdN)) rfl rfl rfl (by decide +kernel) ⟨Nat.le_of_ble_eq_true rfl, Nat.le_of_ble_eq_true rfl⟩) ⟨fun a U g mk q => ⟨q.1, q.2.1, q.2.2.1, LY.moved (u := U) (U := U.calling g mk a) (Vm.Alike.refl U.vm) q.2.2.2⟩, va_recv hK hP (ci := 9) (q0 := 2080) rfl (wo_at (by decide) hOK2), fun U hU hW => ⟨rfl, by rw [hU]; exact fun q h => hA q (Nat.le_trans hS.1 h), by rw [hU]; exact hP, LY.moved hW.alike hL⟩⟩ rfl rfl hl.1 rfl (lv_room (Nat.le_of_ble_eq_true rfl)) dX6_makePowerSlope_27 ⟨(Nat.le_of_ble_eq_true rfl), (Nat.le_of_ble_eq_true rfl)⟩) hS (fun q _ h => h) (fun q h => h) (fun r_13 u8 t8 H1 locs ht8 hvm8 hw_14 hB hz1 hk1 hS => ?_)
      obtain ⟨⟩ := u8
      try dsimp only at hw_14 hB
      rw [ht8] at hB
      have hP := hB
      generalize H1 = H at hP hS ⊢
      have hrr : r_13 = r_9 := by rcases hw_14 with ⟨h8, h9⟩ | ⟨h8, h9⟩; omega; exact h9
      clear hw_14
      rw [hrr]
      refine lv_aload_n hx hb dX6_makePowerSlope_30 rfl (lv_at hl 2 rfl) ?_
      refine m_get (D := (dC, dI)) (v := .ref (ad 2083)) (C := RX6) (T := TX6) (N := 7) hx hb hts bk3 hown hK hP 2080 (by decide) hOK2 rfl 3 (by decide) (hts (.fieldLink RX6 21 "GradientDesk$Shelf" "slopes" "[I") (List.mem_of_getElem? (i := 11) rfl)) (fun _ h9 => h9) rfl dX6_makePowerSlope_31 ?_
      refine lv_iload_n hx hb dX6_makePowerSlope_34 rfl (lv_at hl 3 rfl) ?_
      have f_15 : g_11 2083 = .inl (cA 2083, 200, .inl (fun j => iI (sf j))) := (fr_12 2083 (by omega)).trans ((fr_4 2083 (by omega)).trans h83)
      refine m_iald hx hb hK hP 2083 (by decide) rfl f_15 (i := x1) (by omega) (by decide) dX6_makePowerSlope_35 ?_
      refine lv_topi (fun x_16 e_17 => ?_)
      obtain rfl : x_16 = nI d1 := e_17.trans (by rw [hs1]; exact (nI_iI _).symm)
      refine va_calli (va_runV (As := [.int r_9, .int (nI d1)]) (rest := []) ⟨hx, hb, hml, hown, hts⟩ (c_V6_prdN l dC dI A ad cA g_11 r_9 (nI d1) K2.1 ((d1 : Nat) : Int) hrK2 (nI_iI d1) (by omega) (by omega) (by omega)) (cwV 2 hts (goodIn_app (goodIn_r [Cond.methodLink RX6 109 yX6_makeProduct, Cond.instanceMethod yX6_makeProduct, Cond.selects RX6 yX6_makeProduct yX6_makeProduct, Cond.initialized RX6] [8, 9, 10, 4] rfl rfl) (goodIn_sub (fun w9 h9 => bk2 w9 h9) gw_V6_prdN)) rfl rfl rfl (by decide +kernel) ⟨Nat.le_of_ble_eq_true rfl, Nat.le_of_ble_eq_true rfl⟩) ⟨fun a U g mk q => ⟨q.1, q.2.1, q.2.2.1, LY.moved (u := U) (U := U.calling g mk a) (Vm.Alike.refl U.vm) q.2.2.2⟩, va_recv hK hP (ci := 9) (q0 := 2080) rfl (wo_at (by decide) hOK2), fun U hU hW => ⟨rfl, by rw [hU]; exact fun q h => hA q (Nat.le_trans hS.1 h), by rw [hU]; exact hP, LY.moved hW.alike hL⟩⟩ rfl rfl hl.1 rfl (lv_room (Nat.le_of_ble_eq_true rfl)) dX6_makePowerSlope_36 ⟨(Nat.le_of_ble_eq_true rfl), (Nat.le_of_ble_eq_true rfl)⟩) hS (fun q _ h => h) (fun q h => h) (fun r_18 u8 t8 H1 locs ht8 hvm8 hw_19 hB hz1 hk1 hS => ?_)
      obtain ⟨⟩ := u8
      try dsimp only at hw_19 hB
      rw [ht8] at hB
      have hP := hB
      generalize H1 = H at hP hS ⊢
      have hrr : r_18 = r_9 := by rcases hw_19 with ⟨h8, h9⟩ | ⟨h8, h9⟩; exact h9; omega
      clear hw_19
      rw [hrr]
      refine W.widen (k := 0) (n := 0) (by omega) (by omega) ?_
      exact W.iret (v := r_9) hx hb hr (fun t9 ht9 hW9 => ⟨⟨r_9, g_11, rfl, ⟨(fun (k : Nat) (hk : (14 ≤ k ∧ k < 76) ∨ (876 ≤ k ∧ k < 2080) ∨ (2081 ≤ k ∧ k < 2117)) => (fr_12 k (by omega)).trans ((fr_4 k (by omega)).trans (rfl))), hKK2.to (by rw [← heK1]; refine (seq_p hiK1).trans ?_; rw [← heK2]; exact seq_n hnK2) rfl⟩, by show va_P (dC, dI) vwCl _ t9.heap; rw [ht9]; exact hP⟩, hS.F ht9⟩) hS.2.2 dX6_makePowerSlope_39
    · skip
      have hdK2 := hcK2
      obtain ⟨hLnK2, hWK2, ⟨hArK2, hWkK2, hPaK2, hFrK2⟩, hOK2, ptK2, hPtK2, hMK2⟩ := hdK2
      unfold CSO at hOK2
      have hpbK2 := hPtK2.2
      obtain ⟨nK2, hiK2⟩ : ∃ z : Nat, K2.1 = (z : Int) := ⟨K2.1.toNat, by omega⟩
      have hsK2 : r_9 = nI nK2 := by rw [hrK2, hiK2]; exact (nI_iI _).symm
      rw [hsK2]
      refine lv_istore (lv' := [(4, .int (nI nK2)), (3, .int (nI nK1)), (0, .ref (ad 2080)), (1, .int (nI x1)), (2, .int (nI e9))]) hx hb dX6_makePowerSlope_20 hl (by decide) rfl (fun ls hl => ?_)
      refine lv_aload_n hx hb dX6_makePowerSlope_22 rfl (lv_at hl 2 rfl) ?_
      refine lv_aload_n hx hb dX6_makePowerSlope_23 rfl (lv_at hl 2 rfl) ?_
      refine lv_iload_n hx hb dX6_makePowerSlope_24 rfl (lv_at hl 1 rfl) ?_
      refine lv_iload hx hb dX6_makePowerSlope_25 (lv_at hl 0 rfl) ?_
      refine va_calli (va_runV (As := [.int (nI nK1), .int (nI nK2)]) (rest := [.ref (ad 2080)]) ⟨hx, hb, hml, hown, hts⟩ (c_V6_makeProduct l dC dI A ad cA g_11 K2.2 nK1 nK2 hcK2 hokK2.1 (by omega) (by omega)) (cwV 2 hts (goodIn_app (goodIn_r [Cond.methodLink RX6 109 yX6_makeProduct, Cond.instanceMethod yX6_makeProduct, Cond.selects RX6 yX6_makeProduct yX6_makeProduct, Cond.initialized RX6] [8, 9, 10, 4] rfl rfl) (goodIn_sub (fun w9 h9 => bk4 w9 h9) gw_V6_makeProduct)) rfl rfl rfl (by decide +kernel) ⟨Nat.le_of_ble_eq_true rfl, Nat.le_of_ble_eq_true rfl⟩) ⟨fun a U g mk q => ⟨q.1, q.2.1, q.2.2.1, LY.moved (u := U) (U := U.calling g mk a) (Vm.Alike.refl U.vm) q.2.2.2⟩, va_recv hK hP (ci := 9) (q0 := 2080) rfl (wo_at (by decide) hOK2), fun U hU hW => ⟨rfl, by rw [hU]; exact fun q h => hA q (Nat.le_trans hS.1 h), by rw [hU]; exact hP, LY.moved hW.alike hL⟩⟩ rfl rfl hl.1 rfl (lv_room (Nat.le_of_ble_eq_true rfl)) dX6_makePowerSlope_27 ⟨(Nat.le_of_ble_eq_true rfl), (Nat.le_of_ble_eq_true rfl)⟩) hS (fun q _ h => h) (fun q h => h) (fun r_20 u8 t8 H1 locs ht8 hvm8 hw_21 hB hz1 hk1 hS => ?_)
      obtain ⟨g_22, rfl⟩ : ∃ z, z = u8 := ⟨_, rfl⟩
      try dsimp only at hw_21 hB
      rw [ht8] at hB
      have hP := hB
      generalize H1 = H at hP hS ⊢
      obtain ⟨fr_23, hKK3⟩ := hw_21
      obtain ⟨K3, heK3⟩ : ∃ z : Int × List PD, z = prdL K2.2 nK1 nK2 := ⟨_, rfl⟩
      rw [← heK3] at hKK3
      have hokK3 : OKK K2.2 K3 := by rw [heK3]; exact OKK.prd hokK2.1 (by omega) (by omega)
      have hleK3 := hokK3.2.1.1
      have hcK3 := hKK3.2.1
      have hloK3 := hKK3.2.2.1
      have hhiK3 := hKK3.2.2.2
      have hrK3 := hKK3.1
      have hlnK3 := hcK3.1
      rcases Int.lt_or_le K3.1 0 with hnK3 | hnK3
      · skip
        have hdK3 := hcK3
        obtain ⟨hLnK3, hWK3, ⟨hArK3, hWkK3, hPaK3, hFrK3⟩, hOK3, ptK3, hPtK3, hMK3⟩ := hdK3
        unfold CSO at hOK3
        have hpbK3 := hPtK3.2
        refine lv_aload_n hx hb dX6_makePowerSlope_30 rfl (lv_at hl 2 rfl) ?_
        refine m_get (D := (dC, dI)) (v := .ref (ad 2083)) (C := RX6) (T := TX6) (N := 7) hx hb hts bk3 hown hK hP 2080 (by decide) hOK3 rfl 3 (by decide) (hts (.fieldLink RX6 21 "GradientDesk$Shelf" "slopes" "[I") (List.mem_of_getElem? (i := 11) rfl)) (fun _ h9 => h9) rfl dX6_makePowerSlope_31 ?_
        refine lv_iload_n hx hb dX6_makePowerSlope_34 rfl (lv_at hl 3 rfl) ?_
        have f_24 : g_22 2083 = .inl (cA 2083, 200, .inl (fun j => iI (sf j))) := (fr_23 2083 (by omega)).trans ((fr_12 2083 (by omega)).trans ((fr_4 2083 (by omega)).trans h83))
        refine m_iald hx hb hK hP 2083 (by decide) rfl f_24 (i := x1) (by omega) (by decide) dX6_makePowerSlope_35 ?_
        refine lv_topi (fun x_25 e_26 => ?_)
        obtain rfl : x_25 = nI d1 := e_26.trans (by rw [hs1]; exact (nI_iI _).symm)
        refine va_calli (va_runV (As := [.int r_20, .int (nI d1)]) (rest := []) ⟨hx, hb, hml, hown, hts⟩ (c_V6_prdN l dC dI A ad cA g_22 r_20 (nI d1) K3.1 ((d1 : Nat) : Int) hrK3 (nI_iI d1) (by omega) (by omega) (by omega)) (cwV 2 hts (goodIn_app (goodIn_r [Cond.methodLink RX6 109 yX6_makeProduct, Cond.instanceMethod yX6_makeProduct, Cond.selects RX6 yX6_makeProduct yX6_makeProduct, Cond.initialized RX6] [8, 9, 10, 4] rfl rfl) (goodIn_sub (fun w9 h9 => bk2 w9 h9) gw_V6_prdN)) rfl rfl rfl (by decide +kernel) ⟨Nat.le_of_ble_eq_true rfl, Nat.le_of_ble_eq_true rfl⟩) ⟨fun a U g mk q => ⟨q.1, q.2.1, q.2.2.1, LY.moved (u := U) (U := U.calling g mk a) (Vm.Alike.refl U.vm) q.2.2.2⟩, va_recv hK hP (ci := 9) (q0 := 2080) rfl (wo_at (by decide) hOK3), fun U hU hW => ⟨rfl, by rw [hU]; exact fun q h => hA q (Nat.le_trans hS.1 h), by rw [hU]; exact hP, LY.moved hW.alike hL⟩⟩ rfl rfl hl.1 rfl (lv_room (Nat.le_of_ble_eq_true rfl)) dX6_makePowerSlope_36 ⟨(Nat.le_of_ble_eq_true rfl), (Nat.le_of_ble_eq_true rfl)⟩) hS (fun q _ h => h) (fun q h => h) (fun r_27 u8 t8 H1 locs ht8 hvm8 hw_28 hB hz1 hk1 hS => ?_)
        obtain ⟨⟩ := u8
        try dsimp only at hw_28 hB
        rw [ht8] at hB
        have hP := hB
        generalize H1 = H at hP hS ⊢
        have hrr : r_27 = r_20 := by rcases hw_28 with ⟨h8, h9⟩ | ⟨h8, h9⟩; exact h9; omega
        clear hw_28
        rw [hrr]
        refine W.widen (k := 0) (n := 0) (by omega) (by omega) ?_
        exact W.iret (v := r_20) hx hb hr (fun t9 ht9 hW9 => ⟨⟨r_20, g_22, rfl, ⟨(fun (k : Nat) (hk : (14 ≤ k ∧ k < 76) ∨ (876 ≤ k ∧ k < 2080) ∨ (2081 ≤ k ∧ k < 2117)) => (fr_23 k (by omega)).trans ((fr_12 k (by omega)).trans ((fr_4 k (by omega)).trans (rfl)))), hKK3.to (by rw [← heK1]; refine (seq_p hiK1).trans ?_; rw [← heK2]; refine (seq_p hiK2).trans ?_; rw [← heK3]; exact seq_n hnK3) rfl⟩, by show va_P (dC, dI) vwCl _ t9.heap; rw [ht9]; exact hP⟩, hS.F ht9⟩) hS.2.2 dX6_makePowerSlope_39
      · skip
        have hdK3 := hcK3
        obtain ⟨hLnK3, hWK3, ⟨hArK3, hWkK3, hPaK3, hFrK3⟩, hOK3, ptK3, hPtK3, hMK3⟩ := hdK3
        unfold CSO at hOK3
        have hpbK3 := hPtK3.2
        obtain ⟨nK3, hiK3⟩ : ∃ z : Nat, K3.1 = (z : Int) := ⟨K3.1.toNat, by omega⟩
        have hsK3 : r_20 = nI nK3 := by rw [hrK3, hiK3]; exact (nI_iI _).symm
        rw [hsK3]
        refine lv_aload_n hx hb dX6_makePowerSlope_30 rfl (lv_at hl 2 rfl) ?_
        refine m_get (D := (dC, dI)) (v := .ref (ad 2083)) (C := RX6) (T := TX6) (N := 7) hx hb hts bk3 hown hK hP 2080 (by decide) hOK3 rfl 3 (by decide) (hts (.fieldLink RX6 21 "GradientDesk$Shelf" "slopes" "[I") (List.mem_of_getElem? (i := 11) rfl)) (fun _ h9 => h9) rfl dX6_makePowerSlope_31 ?_
        refine lv_iload_n hx hb dX6_makePowerSlope_34 rfl (lv_at hl 3 rfl) ?_
        have f_29 : g_22 2083 = .inl (cA 2083, 200, .inl (fun j => iI (sf j))) := (fr_23 2083 (by omega)).trans ((fr_12 2083 (by omega)).trans ((fr_4 2083 (by omega)).trans h83))
        refine m_iald hx hb hK hP 2083 (by decide) rfl f_29 (i := x1) (by omega) (by decide) dX6_makePowerSlope_35 ?_
        refine lv_topi (fun x_30 e_31 => ?_)
        obtain rfl : x_30 = nI d1 := e_31.trans (by rw [hs1]; exact (nI_iI _).symm)
        refine va_calli (va_runV (As := [.int (nI nK3), .int (nI d1)]) (rest := []) ⟨hx, hb, hml, hown, hts⟩ (c_V6_makeProduct l dC dI A ad cA g_22 K3.2 nK3 d1 hcK3 hokK3.1 (by omega) (by omega)) (cwV 2 hts (goodIn_app (goodIn_r [Cond.methodLink RX6 109 yX6_makeProduct, Cond.instanceMethod yX6_makeProduct, Cond.selects RX6 yX6_makeProduct yX6_makeProduct, Cond.initialized RX6] [8, 9, 10, 4] rfl rfl) (goodIn_sub (fun w9 h9 => bk4 w9 h9) gw_V6_makeProduct)) rfl rfl rfl (by decide +kernel) ⟨Nat.le_of_ble_eq_true rfl, Nat.le_of_ble_eq_true rfl⟩) ⟨fun a U g mk q => ⟨q.1, q.2.1, q.2.2.1, LY.moved (u := U) (U := U.calling g mk a) (Vm.Alike.refl U.vm) q.2.2.2⟩, va_recv hK hP (ci := 9) (q0 := 2080) rfl (wo_at (by decide) hOK3), fun U hU hW => ⟨rfl, by rw [hU]; exact fun q h => hA q (Nat.le_trans hS.1 h), by rw [hU]; exact hP, LY.moved hW.alike hL⟩⟩ rfl rfl hl.1 rfl (lv_room (Nat.le_of_ble_eq_true rfl)) dX6_makePowerSlope_36 ⟨(Nat.le_of_ble_eq_true rfl), (Nat.le_of_ble_eq_true rfl)⟩) hS (fun q _ h => h) (fun q h => h) (fun r_32 u8 t8 H1 locs ht8 hvm8 hw_33 hB hz1 hk1 hS => ?_)
        obtain ⟨g_34, rfl⟩ : ∃ z, z = u8 := ⟨_, rfl⟩
        try dsimp only at hw_33 hB
        rw [ht8] at hB
        have hP := hB
        generalize H1 = H at hP hS ⊢
        obtain ⟨fr_35, hKK4⟩ := hw_33
        obtain ⟨K4, heK4⟩ : ∃ z : Int × List PD, z = prdL K3.2 nK3 d1 := ⟨_, rfl⟩
        rw [← heK4] at hKK4
        have hokK4 : OKK K3.2 K4 := by rw [heK4]; exact OKK.prd hokK3.1 (by omega) (by omega)
        have hleK4 := hokK4.2.1.1
        have hcK4 := hKK4.2.1
        have hloK4 := hKK4.2.2.1
        have hhiK4 := hKK4.2.2.2
        have hrK4 := hKK4.1
        have hlnK4 := hcK4.1
        rcases Int.lt_or_le K4.1 0 with hnK4 | hnK4
        · skip
          have hdK4 := hcK4
          obtain ⟨hLnK4, hWK4, ⟨hArK4, hWkK4, hPaK4, hFrK4⟩, hOK4, ptK4, hPtK4, hMK4⟩ := hdK4
          unfold CSO at hOK4
          have hpbK4 := hPtK4.2
          refine W.widen (k := 0) (n := 0) (by omega) (by omega) ?_
          exact W.iret (v := r_32) hx hb hr (fun t9 ht9 hW9 => ⟨⟨r_32, g_34, rfl, ⟨(fun (k : Nat) (hk : (14 ≤ k ∧ k < 76) ∨ (876 ≤ k ∧ k < 2080) ∨ (2081 ≤ k ∧ k < 2117)) => (fr_35 k (by omega)).trans ((fr_23 k (by omega)).trans ((fr_12 k (by omega)).trans ((fr_4 k (by omega)).trans (rfl))))), hKK4.to (by rw [← heK1]; refine (seq_p hiK1).trans ?_; rw [← heK2]; refine (seq_p hiK2).trans ?_; rw [← heK3]; refine (seq_p hiK3).trans ?_; exact heK4.symm) rfl⟩, by show va_P (dC, dI) vwCl _ t9.heap; rw [ht9]; exact hP⟩, hS.F ht9⟩) hS.2.2 dX6_makePowerSlope_39
        · skip
          have hdK4 := hcK4
          obtain ⟨hLnK4, hWK4, ⟨hArK4, hWkK4, hPaK4, hFrK4⟩, hOK4, ptK4, hPtK4, hMK4⟩ := hdK4
          unfold CSO at hOK4
          have hpbK4 := hPtK4.2
          obtain ⟨nK4, hiK4⟩ : ∃ z : Nat, K4.1 = (z : Int) := ⟨K4.1.toNat, by omega⟩
          have hsK4 : r_32 = nI nK4 := by rw [hrK4, hiK4]; exact (nI_iI _).symm
          rw [hsK4]
          refine W.widen (k := 0) (n := 0) (by omega) (by omega) ?_
          exact W.iret (v := nI nK4) hx hb hr (fun t9 ht9 hW9 => ⟨⟨nI nK4, g_34, rfl, ⟨(fun (k : Nat) (hk : (14 ≤ k ∧ k < 76) ∨ (876 ≤ k ∧ k < 2080) ∨ (2081 ≤ k ∧ k < 2117)) => (fr_35 k (by omega)).trans ((fr_23 k (by omega)).trans ((fr_12 k (by omega)).trans ((fr_4 k (by omega)).trans (rfl))))), hKK4.to (by rw [← heK1]; refine (seq_p hiK1).trans ?_; rw [← heK2]; refine (seq_p hiK2).trans ?_; rw [← heK3]; refine (seq_p hiK3).trans ?_; exact heK4.symm) hsK4.symm⟩, by show va_P (dC, dI) vwCl _ t9.heap; rw [ht9]; exact hP⟩, hS.F ht9⟩) hS.2.2 dX6_makePowerSlope_39
end
section
theorem rst_cg {L : List PD} {s s2 : Nat → Nat} {k root : Nat} (h : ∀ j, j ≤ root → s j = s2 j) (hk : k ≤ root) : ∀ j, j ≤ root → rst L s k j = rst L s2 k j := by
  have up : ∀ {a b : Nat → Nat} (i : Nat), (∀ j, j ≤ root → a j = b j) → ∀ j, j ≤ root → va_up a i 1 j = va_up b i 1 j := by
    intro a b i hab j hj
    by_cases e : j = i
    · rw [e, va_up_self, va_up_self]
    · rw [va_up_ne _ _ e, va_up_ne _ _ e]; exact hab j hj
  intro j hj
  unfold rst
  rw [h k hk]
  split
  · split
    · exact up _ h j hj
    · exact up _ (up _ h) j hj
  · exact h j hj
theorem rst_no {L : List PD} {s : Nat → Nat} {k : Nat} (h : s k ≠ 1) : rst L s k = s := by unfold rst; rw [if_neg (fun h9 => h h9.1)]
theorem rst_lt {L : List PD} {s : Nat → Nat} {k : Nat} (h : ∀ j, s j < 2) : ∀ j, rst L s k j < 2 := by
  intro j
  unfold rst
  split
  · split
    · exact k_up_lt h (by decide) j
    · exact k_up_lt (k_up_lt h (by decide)) (by decide) j
  · exact h j
theorem rch_hi {L : List PD} {root j : Nat} (hW : WFL L) (hr : root < L.length) (hj : root < j) : ∀ n, n ≤ root + 1 → rchN L root n j = 0 := by
  intro n
  induction n with
  | zero => intro _; exact if_neg (by omega)
  | succ n ih => intro hn; exact (rst_high hW (by omega) (by omega)).trans (ih (by omega))
theorem cntB_hi {R : Nat → Nat} {a : Nat} (h : ∀ j, a ≤ j → R j = 0) : ∀ n, cntB R (a + n) = cntB R a := by
  intro n
  induction n with
  | zero => rfl
  | succ n ih => rw [← Nat.add_assoc, cntB_s, if_pos (h _ (by omega))]; exact ih
theorem cntB_all {L : List PD} {root : Nat} (hW : WFL L) (hr : root < L.length) (hl : L.length ≤ 200) : cntB (rchN L root (root + 1)) 200 = cntB (rchN L root (root + 1)) (root + 1) := by
  have h := cntB_hi (R := rchN L root (root + 1)) (a := root + 1) (fun j hj => rch_hi hW hr (by omega) _ (Nat.le_refl _)) (200 - (root + 1))
  rw [show root + 1 + (200 - (root + 1)) = 200 by omega] at h
  exact h
end
section
def wd_V6_markOps : List Cond := .code yX6_markOperands cX6_markOperands 2 none :: (([.fieldLink RX6 64 "GradientDesk$Part" "sort" "I", .fieldLink RX6 17 "GradientDesk$Shelf" "marked" "[Z", .fieldLink RX6 149 "GradientDesk$Part" "first" "I", .fieldLink RX6 152 "GradientDesk$Part" "second" "I"] : List Cond) ++ (u_ws RX3 TX3 7 ++ (u_ws RX6 TX6 7 ++ ([]))))
theorem gw_V6_markOps : wd_V6_markOps.all goodWord = true := k_allc rfl (k_all (by decide +kernel) (k_all (gu_X3) (k_all (gu_X6) (rfl))))
set_option maxHeartbeats 4000000 in
set_option maxRecDepth 100000 in
theorem c_V6_markOps (l : Launch) (dC : Nat → ClassId) (dI : Nat → Nat → Nat) (A : Nat → Prop) (ad : Nat → Nat) (cA : Nat → ClassId) (g : Nat → va_E) (L : List PD) (i : Nat) (mk : Nat → Nat) (hC : CS ad cA g L) (hWf : WFL L) (hi : i < L.length) (h82 : g 2082 = .inl (cA 2082, 200, .inl (fun j => nI (mk j)))) (hmb : ∀ j, mk j < 2) (hm1 : mk i = 1) : Met l yX6_markOperands wd_V6_markOps ({ frames := 10, cells := 0, slots := 0, locals := 200 }) (va_Pc [.ref (ad 2080), .ref (ad (2117 + 2 * i))] (PR NSc tyc dC dI A ad cA g)) (va_Qv (fun (u : Nat → va_E) => match u with | g2 => (∀ k, k ≠ 2082 → g2 k = g k) ∧ g2 2082 = .inl (cA 2082, 200, .inl (fun j => nI (rst L mk i j)))) (fun (u : Nat → va_E) (t : State) => va_P (dC, dI) vwCl (wo ad NSc u) t.heap) A) (0) (0) A := by
  refine Met.ofW (cc := cX6_markOperands) (maxL := 2) (ret := none) (by decide) rfl ?_
  intro p e s m args below meth c s₁ B hml hv
  obtain ⟨rfl, hA, hP, hL⟩ := hv
  have hx := B.exec
  have hb := B.bytes
  have hr := B.returns
  have hts := atoms_spec (ws := wd_V6_markOps) B.pre
  have hown : s.vm.findClass RX6 = some m.cls := findClass_of_methodNamed B.named
  have hlocks := B.notSynchronized
  have hK := hL.1
  have hD : ∀ g, va_D A (wo ad NSc g) := fun g => wo_D hL.2.1 hL.2.2 g
  have hS : va_S A s.heap s.heap [] := va_S.rf
  have bk0 : ∀ w ∈ u_ws RX3 TX3 7, w ∈ wd_V6_markOps := fun _ h => List.mem_cons_of_mem _ (List.mem_append_right _ (List.mem_append_left _ h))
  have bk1 : ∀ w ∈ u_ws RX6 TX6 7, w ∈ wd_V6_markOps := fun _ h => List.mem_cons_of_mem _ (List.mem_append_right _ (List.mem_append_right _ (List.mem_append_left _ h)))
  have hl := lv_entry ([.ref (ad 2080), .ref (ad (2117 + 2 * i))]) (n := 2) (Nat.le_of_ble_eq_true rfl)
  rw [lg_entry_eq]
  generalize (lg_sl ([.ref (ad 2080), .ref (ad (2117 + 2 * i))]) ++ List.replicate (2 - (lg_sl ([.ref (ad 2080), .ref (ad (2117 + 2 * i))])).length) Slot.unset).toArray = ls at hl ⊢
  have hl : lv_has ls 2 [(0, .ref (ad 2080)), (1, .ref (ad (2117 + 2 * i)))] := hl
  have hC0 := hC
  obtain ⟨hLn, hW, ⟨hAr, hWk, hPa, hFr⟩, hO, pt, hPt, hM⟩ := hC0
  unfold CSO at hO
  have hpb := hPt.2
  obtain ⟨a0i, a1i, a2i, a3i, a4i, a5i, a6i⟩ := hM i hi
  obtain ⟨w1i, w2i, w3i, w4i, w5i, -⟩ := hWf i hi
  have hpi : g (2117 + 2 * i) = .inr (6, [.ref (ad (2118 + 2 * i)), .int (nI ((gd L i).1)), .int (iI ((gd L i).2.1)), .int (iI ((gd L i).2.2.1)), .int (nI ((gd L i).2.2.2.1)), .int (nI ((gd L i).2.2.2.2.1)), .int (nI ((gd L i).2.2.2.2.2.1))]) := by rw [hPt.1 i (by clear a6i; omega), a0i, a1i, a2i, a3i, a4i, a5i, nI_iI, nI_iI, nI_iI, nI_iI]
  obtain ⟨fni, hfni⟩ : ∃ z : Prop, z = ((gd L i).1 = 0 → CMN ad cA g (gd L i) i) := ⟨_, rfl⟩
  rw [← hfni] at a6i
  refine lv_aload_n hx hb dX6_markOperands_0 rfl (lv_at hl 1 rfl) ?_
  refine m_get (D := (dC, dI)) (v := .int (nI ((gd L i).1))) (C := RX3) (T := TX3) (N := 7) hx hb hts bk0 hown hK hP (2117 + 2 * i) (ns_p (by omega)) hpi rfl 1 (by decide) (hts (.fieldLink RX6 64 "GradientDesk$Part" "sort" "I") (List.mem_of_getElem? (i := 1) rfl)) (fun _ h9 => h9) rfl dX6_markOperands_1 ?_
  refine lv_iconst (v := nI 2) hx hb dX6_markOperands_4 (by decide +kernel) ?_
  refine lv_icmp_eq (tgt := 16) hx hb dX6_markOperands_5 (by decide) (fun c_1 => ?_) (fun c_1 => ?_)
  · have c_1 := (nI_eq (a := ((gd L i).1)) (b := 2) (by omega) (by decide)).mp c_1
    refine lv_aload_n hx hb dX6_markOperands_16 rfl (lv_at hl 0 rfl) ?_
    refine m_get (D := (dC, dI)) (v := .ref (ad 2082)) (C := RX6) (T := TX6) (N := 7) hx hb hts bk1 hown hK hP 2080 (by decide) hO rfl 1 (by decide) (hts (.fieldLink RX6 17 "GradientDesk$Shelf" "marked" "[Z") (List.mem_of_getElem? (i := 2) rfl)) (fun _ h9 => h9) rfl dX6_markOperands_17 ?_
    refine lv_aload_n hx hb dX6_markOperands_20 rfl (lv_at hl 1 rfl) ?_
    refine m_get (D := (dC, dI)) (v := .int (iI ((gd L i).2.1))) (C := RX3) (T := TX3) (N := 7) hx hb hts bk0 hown hK hP (2117 + 2 * i) (ns_p (by omega)) hpi rfl 2 (by decide) (hts (.fieldLink RX6 149 "GradientDesk$Part" "first" "I") (List.mem_of_getElem? (i := 3) rfl)) (fun _ h9 => h9) rfl dX6_markOperands_21 ?_
    obtain ⟨oa, hoa, eoa⟩ := hWf.op1 hi (by omega)
    refine lv_topi (fun x_2 e_3 => ?_)
    obtain rfl : x_2 = nI oa := e_3.trans (by rw [eoa]; exact (nI_iI _).symm)
    refine lv_iconst (v := nI 1) hx hb dX6_markOperands_24 (by decide +kernel) ?_
    refine m_zast hx hb hK hP hD hS 2082 (by decide) rfl h82 (i := oa) (x := nI 1) (y := nI 1) (by decide +kernel) (by omega) (by decide) dX6_markOperands_25 (fun H locs g_4 f_5 fr_6 hP hS => ?_)
    rw [k_updI] at f_5
    have b_7 : ∀ j, (va_up mk oa 1) j < 2 := k_up_lt hmb (by omega)
    have f_5 : g_4 2082 = .inl (cA 2082, 200, .inl (fun j => nI ((va_up mk oa 1) j))) := f_5
    refine lv_aload_n hx hb dX6_markOperands_26 rfl (lv_at hl 0 rfl) ?_
    have f_8 : g_4 2080 = .inr (9, [.ref (ad 2081), .ref (ad 2082), .int (nI L.length), .ref (ad 2083), .ref (ad 2077), .ref (ad 2107), .ref (ad (2 * 6))]) := (fr_6 2080 (by omega)).trans hO
    refine m_get (D := (dC, dI)) (v := .ref (ad 2082)) (C := RX6) (T := TX6) (N := 7) hx hb hts bk1 hown hK hP 2080 (by decide) f_8 rfl 1 (by decide) (hts (.fieldLink RX6 17 "GradientDesk$Shelf" "marked" "[Z") (List.mem_of_getElem? (i := 2) rfl)) (fun _ h9 => h9) rfl dX6_markOperands_27 ?_
    refine lv_aload_n hx hb dX6_markOperands_30 rfl (lv_at hl 1 rfl) ?_
    have f_9 : g_4 (2117 + 2 * i) = .inr (6, [.ref (ad (2118 + 2 * i)), .int (nI ((gd L i).1)), .int (iI ((gd L i).2.1)), .int (iI ((gd L i).2.2.1)), .int (nI ((gd L i).2.2.2.1)), .int (nI ((gd L i).2.2.2.2.1)), .int (nI ((gd L i).2.2.2.2.2.1))]) := (fr_6 (2117 + 2 * i) (by omega)).trans hpi
    refine m_get (D := (dC, dI)) (v := .int (iI ((gd L i).2.2.1))) (C := RX3) (T := TX3) (N := 7) hx hb hts bk0 hown hK hP (2117 + 2 * i) (ns_p (by omega)) f_9 rfl 3 (by decide) (hts (.fieldLink RX6 152 "GradientDesk$Part" "second" "I") (List.mem_of_getElem? (i := 4) rfl)) (fun _ h9 => h9) rfl dX6_markOperands_31 ?_
    obtain ⟨ob, hob, eob⟩ := hWf.op2 hi (by omega)
    refine lv_topi (fun x_10 e_11 => ?_)
    obtain rfl : x_10 = nI ob := e_11.trans (by rw [eob]; exact (nI_iI _).symm)
    refine lv_iconst (v := nI 1) hx hb dX6_markOperands_34 (by decide +kernel) ?_
    refine m_zast hx hb hK hP hD hS 2082 (by decide) rfl f_5 (i := ob) (x := nI 1) (y := nI 1) (by decide +kernel) (by omega) (by decide) dX6_markOperands_35 (fun H locs g_12 f_13 fr_14 hP hS => ?_)
    rw [k_updI] at f_13
    have b_15 : ∀ j, (va_up (va_up mk oa 1) ob 1) j < 2 := k_up_lt b_7 (by omega)
    have f_13 : g_12 2082 = .inl (cA 2082, 200, .inl (fun j => nI ((va_up (va_up mk oa 1) ob 1) j))) := f_13
    refine lv_goto (tgt := 57) hx hb dX6_markOperands_36 (by decide) ?_
    have hst : rst L mk i = va_up (va_up mk oa 1) ob 1 := by unfold rst; rw [if_pos ⟨hm1, by omega⟩, if_neg (by omega), eoa, eob, Int.toNat_natCast, Int.toNat_natCast]
    refine W.widen (k := 0) (n := 0) (by omega) (by omega) ?_
    exact W.vret hx hb hr (fun t9 ht9 hW9 => ⟨⟨g_12, rfl, ⟨(fun (k : Nat) (hk : k ≠ 2082) => (fr_14 k (by omega)).trans ((fr_6 k (by omega)).trans (rfl))), by rw [hst]; exact f_13⟩, by show va_P (dC, dI) vwCl _ t9.heap; rw [ht9]; exact hP⟩, hS.F ht9⟩) hS.2.2 dX6_markOperands_57
  · have c_1 := mt (nI_eq (a := ((gd L i).1)) (b := 2) (by omega) (by decide)).mpr c_1
    refine lv_aload_n hx hb dX6_markOperands_8 rfl (lv_at hl 1 rfl) ?_
    refine m_get (D := (dC, dI)) (v := .int (nI ((gd L i).1))) (C := RX3) (T := TX3) (N := 7) hx hb hts bk0 hown hK hP (2117 + 2 * i) (ns_p (by omega)) hpi rfl 1 (by decide) (hts (.fieldLink RX6 64 "GradientDesk$Part" "sort" "I") (List.mem_of_getElem? (i := 1) rfl)) (fun _ h9 => h9) rfl dX6_markOperands_9 ?_
    refine lv_iconst (v := nI 3) hx hb dX6_markOperands_12 (by decide +kernel) ?_
    refine lv_icmp_ne (tgt := 39) hx hb dX6_markOperands_13 (by decide) (fun c_16 => ?_) (fun c_16 => ?_)
    · have c_16 := mt (nI_eq (a := ((gd L i).1)) (b := 3) (by omega) (by decide)).mpr c_16
      refine lv_aload_n hx hb dX6_markOperands_39 rfl (lv_at hl 1 rfl) ?_
      refine m_get (D := (dC, dI)) (v := .int (nI ((gd L i).1))) (C := RX3) (T := TX3) (N := 7) hx hb hts bk0 hown hK hP (2117 + 2 * i) (ns_p (by omega)) hpi rfl 1 (by decide) (hts (.fieldLink RX6 64 "GradientDesk$Part" "sort" "I") (List.mem_of_getElem? (i := 1) rfl)) (fun _ h9 => h9) rfl dX6_markOperands_40 ?_
      refine lv_iconst (v := nI 4) hx hb dX6_markOperands_43 (by decide +kernel) ?_
      refine lv_icmp_ne (tgt := 57) hx hb dX6_markOperands_44 (by decide) (fun c_17 => ?_) (fun c_17 => ?_)
      · have c_17 := mt (nI_eq (a := ((gd L i).1)) (b := 4) (by omega) (by decide)).mpr c_17
        have hst : rst L mk i = mk := by unfold rst; rw [if_neg (fun h9 => absurd h9.2 (by omega))]
        refine W.widen (k := 0) (n := 0) (by omega) (by omega) ?_
        exact W.vret hx hb hr (fun t9 ht9 hW9 => ⟨⟨g, rfl, ⟨(fun (k : Nat) (hk : k ≠ 2082) => rfl), by rw [hst]; exact h82⟩, by show va_P (dC, dI) vwCl _ t9.heap; rw [ht9]; exact hP⟩, hS.F ht9⟩) hS.2.2 dX6_markOperands_57
      · have c_17 := (nI_eq (a := ((gd L i).1)) (b := 4) (by omega) (by decide)).mp c_17
        refine lv_aload_n hx hb dX6_markOperands_47 rfl (lv_at hl 0 rfl) ?_
        refine m_get (D := (dC, dI)) (v := .ref (ad 2082)) (C := RX6) (T := TX6) (N := 7) hx hb hts bk1 hown hK hP 2080 (by decide) hO rfl 1 (by decide) (hts (.fieldLink RX6 17 "GradientDesk$Shelf" "marked" "[Z") (List.mem_of_getElem? (i := 2) rfl)) (fun _ h9 => h9) rfl dX6_markOperands_48 ?_
        refine lv_aload_n hx hb dX6_markOperands_51 rfl (lv_at hl 1 rfl) ?_
        refine m_get (D := (dC, dI)) (v := .int (iI ((gd L i).2.1))) (C := RX3) (T := TX3) (N := 7) hx hb hts bk0 hown hK hP (2117 + 2 * i) (ns_p (by omega)) hpi rfl 2 (by decide) (hts (.fieldLink RX6 149 "GradientDesk$Part" "first" "I") (List.mem_of_getElem? (i := 3) rfl)) (fun _ h9 => h9) rfl dX6_markOperands_52 ?_
        obtain ⟨oa, hoa, eoa⟩ := hWf.op1 hi (by omega)
        refine lv_topi (fun x_18 e_19 => ?_)
        obtain rfl : x_18 = nI oa := e_19.trans (by rw [eoa]; exact (nI_iI _).symm)
        refine lv_iconst (v := nI 1) hx hb dX6_markOperands_55 (by decide +kernel) ?_
        refine m_zast hx hb hK hP hD hS 2082 (by decide) rfl h82 (i := oa) (x := nI 1) (y := nI 1) (by decide +kernel) (by omega) (by decide) dX6_markOperands_56 (fun H locs g_20 f_21 fr_22 hP hS => ?_)
        rw [k_updI] at f_21
        have b_23 : ∀ j, (va_up mk oa 1) j < 2 := k_up_lt hmb (by omega)
        have f_21 : g_20 2082 = .inl (cA 2082, 200, .inl (fun j => nI ((va_up mk oa 1) j))) := f_21
        have hst : rst L mk i = va_up mk oa 1 := by unfold rst; rw [if_pos ⟨hm1, by omega⟩, if_pos (by omega), eoa, Int.toNat_natCast]
        refine W.widen (k := 0) (n := 0) (by omega) (by omega) ?_
        exact W.vret hx hb hr (fun t9 ht9 hW9 => ⟨⟨g_20, rfl, ⟨(fun (k : Nat) (hk : k ≠ 2082) => (fr_22 k (by omega)).trans (rfl)), by rw [hst]; exact f_21⟩, by show va_P (dC, dI) vwCl _ t9.heap; rw [ht9]; exact hP⟩, hS.F ht9⟩) hS.2.2 dX6_markOperands_57
    · have c_16 := (nI_eq (a := ((gd L i).1)) (b := 3) (by omega) (by decide)).mp c_16
      refine lv_aload_n hx hb dX6_markOperands_16 rfl (lv_at hl 0 rfl) ?_
      refine m_get (D := (dC, dI)) (v := .ref (ad 2082)) (C := RX6) (T := TX6) (N := 7) hx hb hts bk1 hown hK hP 2080 (by decide) hO rfl 1 (by decide) (hts (.fieldLink RX6 17 "GradientDesk$Shelf" "marked" "[Z") (List.mem_of_getElem? (i := 2) rfl)) (fun _ h9 => h9) rfl dX6_markOperands_17 ?_
      refine lv_aload_n hx hb dX6_markOperands_20 rfl (lv_at hl 1 rfl) ?_
      refine m_get (D := (dC, dI)) (v := .int (iI ((gd L i).2.1))) (C := RX3) (T := TX3) (N := 7) hx hb hts bk0 hown hK hP (2117 + 2 * i) (ns_p (by omega)) hpi rfl 2 (by decide) (hts (.fieldLink RX6 149 "GradientDesk$Part" "first" "I") (List.mem_of_getElem? (i := 3) rfl)) (fun _ h9 => h9) rfl dX6_markOperands_21 ?_
      obtain ⟨oa, hoa, eoa⟩ := hWf.op1 hi (by omega)
      refine lv_topi (fun x_24 e_25 => ?_)
      obtain rfl : x_24 = nI oa := e_25.trans (by rw [eoa]; exact (nI_iI _).symm)
      refine lv_iconst (v := nI 1) hx hb dX6_markOperands_24 (by decide +kernel) ?_
      refine m_zast hx hb hK hP hD hS 2082 (by decide) rfl h82 (i := oa) (x := nI 1) (y := nI 1) (by decide +kernel) (by omega) (by decide) dX6_markOperands_25 (fun H locs g_26 f_27 fr_28 hP hS => ?_)
      rw [k_updI] at f_27
      have b_29 : ∀ j, (va_up mk oa 1) j < 2 := k_up_lt hmb (by omega)
      have f_27 : g_26 2082 = .inl (cA 2082, 200, .inl (fun j => nI ((va_up mk oa 1) j))) := f_27
      refine lv_aload_n hx hb dX6_markOperands_26 rfl (lv_at hl 0 rfl) ?_
      have f_30 : g_26 2080 = .inr (9, [.ref (ad 2081), .ref (ad 2082), .int (nI L.length), .ref (ad 2083), .ref (ad 2077), .ref (ad 2107), .ref (ad (2 * 6))]) := (fr_28 2080 (by omega)).trans hO
      refine m_get (D := (dC, dI)) (v := .ref (ad 2082)) (C := RX6) (T := TX6) (N := 7) hx hb hts bk1 hown hK hP 2080 (by decide) f_30 rfl 1 (by decide) (hts (.fieldLink RX6 17 "GradientDesk$Shelf" "marked" "[Z") (List.mem_of_getElem? (i := 2) rfl)) (fun _ h9 => h9) rfl dX6_markOperands_27 ?_
      refine lv_aload_n hx hb dX6_markOperands_30 rfl (lv_at hl 1 rfl) ?_
      have f_31 : g_26 (2117 + 2 * i) = .inr (6, [.ref (ad (2118 + 2 * i)), .int (nI ((gd L i).1)), .int (iI ((gd L i).2.1)), .int (iI ((gd L i).2.2.1)), .int (nI ((gd L i).2.2.2.1)), .int (nI ((gd L i).2.2.2.2.1)), .int (nI ((gd L i).2.2.2.2.2.1))]) := (fr_28 (2117 + 2 * i) (by omega)).trans hpi
      refine m_get (D := (dC, dI)) (v := .int (iI ((gd L i).2.2.1))) (C := RX3) (T := TX3) (N := 7) hx hb hts bk0 hown hK hP (2117 + 2 * i) (ns_p (by omega)) f_31 rfl 3 (by decide) (hts (.fieldLink RX6 152 "GradientDesk$Part" "second" "I") (List.mem_of_getElem? (i := 4) rfl)) (fun _ h9 => h9) rfl dX6_markOperands_31 ?_
      obtain ⟨ob, hob, eob⟩ := hWf.op2 hi (by omega)
      refine lv_topi (fun x_32 e_33 => ?_)
      obtain rfl : x_32 = nI ob := e_33.trans (by rw [eob]; exact (nI_iI _).symm)
      refine lv_iconst (v := nI 1) hx hb dX6_markOperands_34 (by decide +kernel) ?_
      refine m_zast hx hb hK hP hD hS 2082 (by decide) rfl f_27 (i := ob) (x := nI 1) (y := nI 1) (by decide +kernel) (by omega) (by decide) dX6_markOperands_35 (fun H locs g_34 f_35 fr_36 hP hS => ?_)
      rw [k_updI] at f_35
      have b_37 : ∀ j, (va_up (va_up mk oa 1) ob 1) j < 2 := k_up_lt b_29 (by omega)
      have f_35 : g_34 2082 = .inl (cA 2082, 200, .inl (fun j => nI ((va_up (va_up mk oa 1) ob 1) j))) := f_35
      refine lv_goto (tgt := 57) hx hb dX6_markOperands_36 (by decide) ?_
      have hst : rst L mk i = va_up (va_up mk oa 1) ob 1 := by unfold rst; rw [if_pos ⟨hm1, by omega⟩, if_neg (by omega), eoa, eob, Int.toNat_natCast, Int.toNat_natCast]
      refine W.widen (k := 0) (n := 0) (by omega) (by omega) ?_
      exact W.vret hx hb hr (fun t9 ht9 hW9 => ⟨⟨g_34, rfl, ⟨(fun (k : Nat) (hk : k ≠ 2082) => (fr_36 k (by omega)).trans ((fr_28 k (by omega)).trans (rfl))), by rw [hst]; exact f_35⟩, by show va_P (dC, dI) vwCl _ t9.heap; rw [ht9]; exact hP⟩, hS.F ht9⟩) hS.2.2 dX6_markOperands_57
def wd_V6_mark : List Cond := .code yX6_mark cX6_mark 4 (some .int) :: (([.fieldLink RX6 17 "GradientDesk$Shelf" "marked" "[Z", .fieldLink RX6 11 "GradientDesk$Shelf" "parts" "[LGradientDesk$Part;", .methodLink RX6 155 yX6_markOperands, .instanceMethod yX6_markOperands, .selects RX6 yX6_markOperands yX6_markOperands, .initialized RX6] : List Cond) ++ (u_ws RX6 TX6 7 ++ (wd_V6_markOps ++ ([]))))
theorem gw_V6_mark : wd_V6_mark.all goodWord = true := k_allc rfl (k_all (by decide +kernel) (k_all (gu_X6) (k_all (gw_V6_markOps) (rfl))))
set_option maxHeartbeats 4000000 in
set_option maxRecDepth 100000 in
theorem c_V6_mark (l : Launch) (dC : Nat → ClassId) (dI : Nat → Nat → Nat) (A : Nat → Prop) (ad : Nat → Nat) (cA : Nat → ClassId) (g : Nat → va_E) (L : List PD) (root : Nat) (mk0 : Nat → Nat) (hC : CS ad cA g L) (hWf : WFL L) (hrt : root < L.length) (h82 : g 2082 = .inl (cA 2082, 200, .inl (fun j => nI (mk0 j)))) (hmb : ∀ j, mk0 j < 2) : Met l yX6_mark wd_V6_mark ({ frames := 20, cells := 0, slots := 0, locals := 400 }) (va_Pc [.ref (ad 2080), .int (nI root)] (PR NSc tyc dC dI A ad cA g)) (va_Qi (fun (r : Int32) => fun (u : (Nat → va_E) × (Nat → Nat)) => match u with | (g2, mk2) => (∀ k, k ≠ 2082 → g2 k = g k) ∧ g2 2082 = .inl (cA 2082, 200, .inl (fun j => nI (mk2 j))) ∧ (∀ j, mk2 j < 2) ∧ (∀ j, j ≤ root → mk2 j = rchN L root (root + 1) j) ∧ r = nI (cntB (rchN L root (root + 1)) (root + 1))) (fun (u : (Nat → va_E) × (Nat → Nat)) (t : State) => va_P (dC, dI) vwCl (wo ad NSc u.1) t.heap) A) (0) (0) A := by
  refine Met.ofW (cc := cX6_mark) (maxL := 4) (ret := (some .int)) (by decide) rfl ?_
  intro p e s m args below meth c s₁ B hml hv
  obtain ⟨rfl, hA, hP, hL⟩ := hv
  have hx := B.exec
  have hb := B.bytes
  have hr := B.returns
  have hts := atoms_spec (ws := wd_V6_mark) B.pre
  have hown : s.vm.findClass RX6 = some m.cls := findClass_of_methodNamed B.named
  have hlocks := B.notSynchronized
  have hK := hL.1
  have hD : ∀ g, va_D A (wo ad NSc g) := fun g => wo_D hL.2.1 hL.2.2 g
  have hS : va_S A s.heap s.heap [] := va_S.rf
  have bk0 : ∀ w ∈ u_ws RX6 TX6 7, w ∈ wd_V6_mark := fun _ h => List.mem_cons_of_mem _ (List.mem_append_right _ (List.mem_append_left _ h))
  have bk1 : ∀ w ∈ wd_V6_markOps, w ∈ wd_V6_mark := fun _ h => List.mem_cons_of_mem _ (List.mem_append_right _ (List.mem_append_right _ (List.mem_append_left _ h)))
  have hl := lv_entry ([.ref (ad 2080), .int (nI root)]) (n := 4) (Nat.le_of_ble_eq_true rfl)
  rw [lg_entry_eq]
  generalize (lg_sl ([.ref (ad 2080), .int (nI root)]) ++ List.replicate (4 - (lg_sl ([.ref (ad 2080), .int (nI root)])).length) Slot.unset).toArray = ls at hl ⊢
  have hl : lv_has ls 4 [(0, .ref (ad 2080)), (1, .int (nI root))] := hl
  have hC0 := hC
  obtain ⟨hLn, hW, ⟨hAr, hWk, hPa, hFr⟩, hO, pt, hPt, hM⟩ := hC0
  unfold CSO at hO
  have hpb := hPt.2
  refine lv_iconst (v := nI 0) hx hb dX6_mark_0 (by decide +kernel) ?_
  refine lv_istore_n (lv' := [(2, .int (nI 0)), (0, .ref (ad 2080)), (1, .int (nI root))]) hx hb dX6_mark_1 rfl hl (by decide) rfl (fun ls hl => ?_)
  have loop_1 : ∀ (k9 : Nat) (i : Nat) (rc : Nat → Nat) (g_3 : Nat → va_E) (fr_4 : ∀ k, (k ≠ 2082) → g_3 k = g k), 300 - i < k9 → (i ≤ root) → (∀ j, rc j < 2) → (∀ j, j < i → rc j = 0) → (g_3 2082 = .inl (cA 2082, 200, .inl (fun j => nI (rc j)))) → ∀ (H : Heap) (locs : List Loc) (ls : Array Slot), va_P (dC, dI) vwCl (wo ad NSc g_3) H → va_S A s.heap H locs → lv_has ls 4 [(0, .ref (ad 2080)), (1, .int (nI root)), (2, .int (nI i))] → W p l e (headSpec wd_V6_mark ({ frames := 20, cells := 0, slots := 0, locals := 400 })).room s m ([.ref (ad 2080), .int (nI root)] : List Value).toArray below meth c H locs (0) (0) (MQ below (va_Qi (fun (r : Int32) => fun (u : (Nat → va_E) × (Nat → Nat)) => match u with | (g2, mk2) => (∀ k, k ≠ 2082 → g2 k = g k) ∧ g2 2082 = .inl (cA 2082, 200, .inl (fun j => nI (mk2 j))) ∧ (∀ j, mk2 j < 2) ∧ (∀ j, j ≤ root → mk2 j = rchN L root (root + 1) j) ∧ r = nI (cntB (rchN L root (root + 1)) (root + 1))) (fun (u : (Nat → va_E) × (Nat → Nat)) (t : State) => va_P (dC, dI) vwCl (wo ad NSc u.1) t.heap) A) ([.ref (ad 2080), .int (nI root)] : List Value).toArray s (0) (0) A) (F0 m 2 ls []) := by
    intro k9
    induction k9 with
    | zero => intro i rc g_3 fr_4 h9; exact absurd h9 (Nat.not_lt_zero _)
    | succ k9 ih_2 =>
      intro i rc g_3 fr_4 h9 hi hc1 hz1 f_5 H locs ls hP hS hl
      refine lv_iload_n hx hb dX6_mark_2 rfl (lv_at hl 2 rfl) ?_
      refine lv_iload_n hx hb dX6_mark_3 rfl (lv_at hl 1 rfl) ?_
      refine lv_icmp_ge (tgt := 20) hx hb dX6_mark_4 (by decide) (fun c_6 => ?_) (fun c_6 => ?_)
      · have c_6 := (nI_leI (a := root) (b := i) (by omega) (by omega)).mp c_6
        refine lv_aload_n hx hb dX6_mark_20 rfl (lv_at hl 0 rfl) ?_
        have f_7 : g_3 2080 = .inr (9, [.ref (ad 2081), .ref (ad 2082), .int (nI L.length), .ref (ad 2083), .ref (ad 2077), .ref (ad 2107), .ref (ad (2 * 6))]) := (fr_4 2080 (by omega)).trans hO
        refine m_get (D := (dC, dI)) (v := .ref (ad 2082)) (C := RX6) (T := TX6) (N := 7) hx hb hts bk0 hown hK hP 2080 (by decide) f_7 rfl 1 (by decide) (hts (.fieldLink RX6 17 "GradientDesk$Shelf" "marked" "[Z") (List.mem_of_getElem? (i := 1) rfl)) (fun _ h9 => h9) rfl dX6_mark_21 ?_
        refine lv_iload_n hx hb dX6_mark_24 rfl (lv_at hl 1 rfl) ?_
        refine lv_iconst (v := nI 1) hx hb dX6_mark_25 (by decide +kernel) ?_
        refine m_zast hx hb hK hP hD hS 2082 (by decide) rfl f_5 (i := root) (x := nI 1) (y := nI 1) (by decide +kernel) (by omega) (by decide) dX6_mark_26 (fun H locs g_8 f_9 fr_10 hP hS => ?_)
        rw [k_updI] at f_9
        have b_11 : ∀ j, (va_up rc root 1) j < 2 := k_up_lt hc1 (by omega)
        have f_9 : g_8 2082 = .inl (cA 2082, 200, .inl (fun j => nI ((va_up rc root 1) j))) := f_9
        refine lv_iconst (v := nI 0) hx hb dX6_mark_27 (by decide +kernel) ?_
        refine lv_istore_n (lv' := [(2, .int (nI 0)), (0, .ref (ad 2080)), (1, .int (nI root))]) hx hb dX6_mark_28 rfl hl (by decide) rfl (fun ls hl => ?_)
        refine lv_iload_n hx hb dX6_mark_29 rfl (lv_at hl 2 rfl) ?_
        refine lv_istore_n (lv' := [(3, .int (nI root)), (2, .int (nI 0)), (0, .ref (ad 2080)), (1, .int (nI root))]) hx hb dX6_mark_30 rfl hl (by decide) rfl (fun ls hl => ?_)
        have e9 : nI root = nI (root + 1) - nI 1 := by rw [pk_sub (by omega), Nat.add_sub_cancel]
        have hl : lv_has ls 4 [(3, .int (nI (root + 1) - nI 1)), (2, .int (nI 0)), (0, .ref (ad 2080)), (1, .int (nI root))] := by rw [← e9]; exact hl
        have loop_12 : ∀ (k9 : Nat) (d : Nat) (rd : Nat → Nat) (sn : Nat) (g_14 : Nat → va_E) (fr_15 : ∀ k, (k ≠ 2082) → g_14 k = g_8 k), d < k9 → (d ≤ root + 1) → (∀ j, rd j < 2) → (∀ j, j ≤ root → rd j = rchN L root (root + 1 - d) j) → (sn + cntB (rchN L root (root + 1)) d = cntB (rchN L root (root + 1)) (root + 1)) → (g_14 2082 = .inl (cA 2082, 200, .inl (fun j => nI (rd j)))) → ∀ (H : Heap) (locs : List Loc) (ls : Array Slot), va_P (dC, dI) vwCl (wo ad NSc g_14) H → va_S A s.heap H locs → lv_has ls 4 [(0, .ref (ad 2080)), (1, .int (nI root)), (2, .int (nI sn)), (3, .int (nI d - nI 1))] → W p l e (headSpec wd_V6_mark ({ frames := 20, cells := 0, slots := 0, locals := 400 })).room s m ([.ref (ad 2080), .int (nI root)] : List Value).toArray below meth c H locs (0) (0) (MQ below (va_Qi (fun (r : Int32) => fun (u : (Nat → va_E) × (Nat → Nat)) => match u with | (g2, mk2) => (∀ k, k ≠ 2082 → g2 k = g k) ∧ g2 2082 = .inl (cA 2082, 200, .inl (fun j => nI (mk2 j))) ∧ (∀ j, mk2 j < 2) ∧ (∀ j, j ≤ root → mk2 j = rchN L root (root + 1) j) ∧ r = nI (cntB (rchN L root (root + 1)) (root + 1))) (fun (u : (Nat → va_E) × (Nat → Nat)) (t : State) => va_P (dC, dI) vwCl (wo ad NSc u.1) t.heap) A) ([.ref (ad 2080), .int (nI root)] : List Value).toArray s (0) (0) A) (F0 m 31 ls []) := by
          intro k9
          induction k9 with
          | zero => intro d rd sn g_14 fr_15 h9; exact absurd h9 (Nat.not_lt_zero _)
          | succ k9 ih_13 =>
            intro d rd sn g_14 fr_15 h9 hd hc2 hs2 hsn f_16 H locs ls hP hS hl
            refine lv_iload_n hx hb dX6_mark_31 rfl (lv_at hl 3 rfl) ?_
            refine lv_if_lt (tgt := 63) hx hb dX6_mark_32 (by decide) (fun c_17 => ?_) (fun c_17 => ?_)
            · have c_17 := (k_m1lt (d := d) (by omega)).mp c_17
              refine lv_iload_n hx hb dX6_mark_63 rfl (lv_at hl 2 rfl) ?_
              have hd0 : d = 0 := by omega
              rw [hd0] at hs2 hsn
              have hsv : sn = cntB (rchN L root (root + 1)) (root + 1) := by rw [← hsn]; rfl
              refine W.widen (k := 0) (n := 0) (by omega) (by omega) ?_
              exact W.iret (v := nI sn) hx hb hr (fun t9 ht9 hW9 => ⟨⟨nI sn, (g_14, rd), rfl, ⟨(fun (k : Nat) (hk : k ≠ 2082) => (fr_15 k (by omega)).trans ((fr_10 k (by omega)).trans ((fr_4 k (by omega)).trans (rfl)))), f_16, hc2, hs2, by rw [hsv]⟩, by show va_P (dC, dI) vwCl _ t9.heap; rw [ht9]; exact hP⟩, hS.F ht9⟩) hS.2.2 dX6_mark_64
            · have c_17 := mt (k_m1lt (d := d) (by omega)).mpr c_17
              have e_18 : nI d - nI 1 = nI (d - 1) := pk_sub (by omega)
              rw [e_18] at hl
              have hdl : d - 1 < L.length := by omega
              have hst : rchN L root (root + 1 - (d - 1)) = rst L (rchN L root (root + 1 - d)) (d - 1) := by rw [show root + 1 - (d - 1) = (root + 1 - d) + 1 by omega]; show rst L _ (root - (root + 1 - d)) = _; rw [show root - (root + 1 - d) = d - 1 by omega]
              have hv9 := hs2 (d - 1) (by omega)
              have hR : rchN L root (root + 1) (d - 1) = rd (d - 1) := by rw [hv9, rchN_fix hWf hrt (k := d - 1) (by omega) (root + 1) (by omega) (Nat.le_refl _), show root - (d - 1) = root + 1 - d by omega]
              have hcn := cntB_s (rc := rchN L root (root + 1)) (n := d - 1)
              rw [hR, show d - 1 + 1 = d by omega] at hcn
              have hcq := hc2 (d - 1)
              refine lv_aload_n hx hb dX6_mark_35 rfl (lv_at hl 0 rfl) ?_
              have f_19 : g_14 2080 = .inr (9, [.ref (ad 2081), .ref (ad 2082), .int (nI L.length), .ref (ad 2083), .ref (ad 2077), .ref (ad 2107), .ref (ad (2 * 6))]) := (fr_15 2080 (by omega)).trans ((fr_10 2080 (by omega)).trans f_7)
              refine m_get (D := (dC, dI)) (v := .ref (ad 2082)) (C := RX6) (T := TX6) (N := 7) hx hb hts bk0 hown hK hP 2080 (by decide) f_19 rfl 1 (by decide) (hts (.fieldLink RX6 17 "GradientDesk$Shelf" "marked" "[Z") (List.mem_of_getElem? (i := 1) rfl)) (fun _ h9 => h9) rfl dX6_mark_36 ?_
              refine lv_iload_n hx hb dX6_mark_39 rfl (lv_at hl 3 rfl) ?_
              refine m_zald hx hb hK hP 2082 (by decide) rfl f_16 (i := d - 1) (by omega) (by decide) dX6_mark_40 ?_
              have b_20 := hc2 (d - 1)
              refine lv_if_eq (tgt := 57) hx hb dX6_mark_41 (by decide) (fun c_21 => ?_) (fun c_21 => ?_)
              · have c_21 := (nI_eq (a := (rd (d - 1))) (b := 0) (by omega) (by decide)).mp c_21
                rw [if_pos (by omega)] at hcn
                refine lv_iinc (v := nI (d - 1) - nI 1) (lv' := [(3, .int (nI (d - 1) - nI 1)), (0, .ref (ad 2080)), (1, .int (nI root)), (2, .int (nI sn))]) hx hb dX6_mark_57 hl (k := 3) rfl ((show nI (d - 1) + Int32.ofInt (-1) = nI (d - 1) - nI 1 from by rw [show Int32.ofInt (-1) = -nI 1 from by decide, ← Int32.sub_eq_add_neg])) (by decide) rfl (fun ls hl => ?_)
                refine lv_goto (tgt := 31) hx hb dX6_mark_60 (by decide) ?_
                exact ih_13 (d - 1) rd sn g_14 (fun (k : Nat) (hk : k ≠ 2082) => (fr_15 k (by omega)).trans (rfl)) (by omega) (by omega) hc2 (fun j hj => by rw [hst, rst_no (by rw [← hv9]; omega)]; exact hs2 j hj) (by omega) f_16 _ _ _ hP hS (lv_sub (l' := [(0, .ref (ad 2080)), (1, .int (nI root)), (2, .int (nI sn)), (3, .int (nI (d - 1) - nI 1))]) hl [1, 2, 3, 0] rfl)
              · have c_21 := mt (nI_eq (a := (rd (d - 1))) (b := 0) (by omega) (by decide)).mpr c_21
                rw [if_neg (by omega)] at hcn
                refine lv_iinc (v := nI (sn + 1)) (lv' := [(2, .int (nI (sn + 1))), (0, .ref (ad 2080)), (1, .int (nI root)), (3, .int (nI (d - 1)))]) hx hb dX6_mark_44 hl (k := 2) rfl (nI_add sn 1) (by decide) rfl (fun ls hl => ?_)
                refine lv_aload_n hx hb dX6_mark_47 rfl (lv_at hl 1 rfl) ?_
                refine lv_aload_n hx hb dX6_mark_48 rfl (lv_at hl 1 rfl) ?_
                refine m_get (D := (dC, dI)) (v := .ref (ad 2081)) (C := RX6) (T := TX6) (N := 7) hx hb hts bk0 hown hK hP 2080 (by decide) f_19 rfl 0 (by decide) (hts (.fieldLink RX6 11 "GradientDesk$Shelf" "parts" "[LGradientDesk$Part;") (List.mem_of_getElem? (i := 2) rfl)) (fun _ h9 => h9) rfl dX6_mark_49 ?_
                refine lv_iload_n hx hb dX6_mark_52 rfl (lv_at hl 3 rfl) ?_
                have f_26 : g_14 2081 = .inl (cA 2081, 200, .inr (.inr (.inr (.inr (fun j => some (ad (2117 + 2 * j))))))) := (fr_15 2081 (by omega)).trans ((fr_10 2081 (by omega)).trans ((fr_4 2081 (by omega)).trans hPa))
                refine m_aald hx hb hK hP 2081 (by decide) rfl f_26 (i := d - 1) (v := ad (2117 + 2 * (d - 1))) (by omega) (by decide) rfl dX6_mark_53 ?_
                have hAW_28 : AW ad cA g_14 := AW.keep hW (fun (k : Nat) (hk : k < 2076) => (fr_15 k (by omega)).trans ((fr_10 k (by omega)).trans ((fr_4 k (by omega)).trans (rfl))))
                have hC_27 : CS ad cA g_14 L := CS.same hC hAW_28 (fun (k : Nat) (hk : (76 ≤ k ∧ k < 876) ∨ k = 2077 ∨ k = 2107 ∨ k = 2080 ∨ k = 2081 ∨ (2117 ≤ k ∧ k < 2517)) => (fr_15 k (by omega)).trans ((fr_10 k (by omega)).trans ((fr_4 k (by omega)).trans (rfl))))
                refine va_callv (va_runV (As := [.ref (ad (2117 + 2 * (d - 1)))]) (rest := []) ⟨hx, hb, hml, hown, hts⟩ (c_V6_markOps l dC dI A ad cA g_14 L (d - 1) rd hC_27 hWf hdl f_16 hc2 (by omega)) (cwV 1 hts (goodIn_app (goodIn_r [Cond.methodLink RX6 155 yX6_markOperands, Cond.instanceMethod yX6_markOperands, Cond.selects RX6 yX6_markOperands yX6_markOperands, Cond.initialized RX6] [3, 4, 5, 6] rfl rfl) (goodIn_sub (fun w9 h9 => bk1 w9 h9) gw_V6_markOps)) rfl rfl rfl (by decide +kernel) ⟨Nat.le_of_ble_eq_true rfl, Nat.le_of_ble_eq_true rfl⟩) ⟨fun a U g mk q => ⟨q.1, q.2.1, q.2.2.1, LY.moved (u := U) (U := U.calling g mk a) (Vm.Alike.refl U.vm) q.2.2.2⟩, va_recv hK hP (ci := 9) (q0 := 2080) rfl (wo_at (by decide) f_19), fun U hU hW => ⟨rfl, by rw [hU]; exact fun q h => hA q (Nat.le_trans hS.1 h), by rw [hU]; exact hP, LY.moved hW.alike hL⟩⟩ rfl rfl hl.1 rfl (lv_room (Nat.le_of_ble_eq_true rfl)) dX6_mark_54 ⟨(Nat.le_of_ble_eq_true rfl), (Nat.le_of_ble_eq_true rfl)⟩) hS (fun q _ h => h) (fun q h => h) (fun u8 t8 H1 locs ht8 hvm8 hw_29 hB hz1 hk1 hS => ?_)
                obtain ⟨g_30, rfl⟩ : ∃ z, z = u8 := ⟨_, rfl⟩
                try dsimp only at hw_29 hB
                rw [ht8] at hB
                have hP := hB
                generalize H1 = H at hP hS ⊢
                obtain ⟨fr_31, hmk⟩ := hw_29
                have hb8 : ∀ j, rst L rd (d - 1) j < 2 := rst_lt hc2
                refine lv_iinc (v := nI (d - 1) - nI 1) (lv' := [(3, .int (nI (d - 1) - nI 1)), (2, .int (nI (sn + 1))), (0, .ref (ad 2080)), (1, .int (nI root))]) hx hb dX6_mark_57 hl (k := 3) rfl ((show nI (d - 1) + Int32.ofInt (-1) = nI (d - 1) - nI 1 from by rw [show Int32.ofInt (-1) = -nI 1 from by decide, ← Int32.sub_eq_add_neg])) (by decide) rfl (fun ls hl => ?_)
                refine lv_goto (tgt := 31) hx hb dX6_mark_60 (by decide) ?_
                exact ih_13 (d - 1) (rst L rd (d - 1)) (sn + 1) g_30 (fun (k : Nat) (hk : k ≠ 2082) => (fr_31 k (by omega)).trans ((fr_15 k (by omega)).trans (rfl))) (by omega) (by omega) hb8 (fun j hj => by rw [hst]; exact rst_cg hs2 (by omega) j hj) (by omega) hmk _ _ _ hP hS (lv_sub (l' := [(0, .ref (ad 2080)), (1, .int (nI root)), (2, .int (nI (sn + 1))), (3, .int (nI (d - 1) - nI 1))]) hl [2, 3, 1, 0] rfl)
        exact loop_12 _ (root + 1) (va_up rc root 1) 0 g_8 (fun (k : Nat) (hk : k ≠ 2082) => rfl) (Nat.lt_succ_self _) (by omega) b_11 (fun j hj => by rw [Nat.sub_self]; by_cases h9 : j = root; rw [h9, va_up_self]; exact (if_pos rfl).symm; rw [va_up_ne _ _ h9, hz1 j (by omega)]; exact (if_neg h9).symm) (Nat.zero_add _) f_9 _ _ _ hP hS (lv_sub (l' := [(0, .ref (ad 2080)), (1, .int (nI root)), (2, .int (nI 0)), (3, .int (nI (root + 1) - nI 1))]) hl [2, 3, 1, 0] rfl)
      · have c_6 := mt (nI_leI (a := root) (b := i) (by omega) (by omega)).mpr c_6
        refine lv_aload_n hx hb dX6_mark_7 rfl (lv_at hl 0 rfl) ?_
        have f_34 : g_3 2080 = .inr (9, [.ref (ad 2081), .ref (ad 2082), .int (nI L.length), .ref (ad 2083), .ref (ad 2077), .ref (ad 2107), .ref (ad (2 * 6))]) := (fr_4 2080 (by omega)).trans hO
        refine m_get (D := (dC, dI)) (v := .ref (ad 2082)) (C := RX6) (T := TX6) (N := 7) hx hb hts bk0 hown hK hP 2080 (by decide) f_34 rfl 1 (by decide) (hts (.fieldLink RX6 17 "GradientDesk$Shelf" "marked" "[Z") (List.mem_of_getElem? (i := 1) rfl)) (fun _ h9 => h9) rfl dX6_mark_8 ?_
        refine lv_iload_n hx hb dX6_mark_11 rfl (lv_at hl 2 rfl) ?_
        refine lv_iconst (v := nI 0) hx hb dX6_mark_12 (by decide +kernel) ?_
        refine m_zast hx hb hK hP hD hS 2082 (by decide) rfl f_5 (i := i) (x := nI 0) (y := nI 0) (by decide +kernel) (by omega) (by decide) dX6_mark_13 (fun H locs g_35 f_36 fr_37 hP hS => ?_)
        rw [k_updI] at f_36
        have b_38 : ∀ j, (va_up rc i 0) j < 2 := k_up_lt hc1 (by omega)
        have f_36 : g_35 2082 = .inl (cA 2082, 200, .inl (fun j => nI ((va_up rc i 0) j))) := f_36
        refine lv_iinc (v := nI (i + 1)) (lv' := [(2, .int (nI (i + 1))), (0, .ref (ad 2080)), (1, .int (nI root))]) hx hb dX6_mark_14 hl (k := 2) rfl (nI_add i 1) (by decide) rfl (fun ls hl => ?_)
        refine lv_goto (tgt := 2) hx hb dX6_mark_17 (by decide) ?_
        exact ih_2 (i + 1) (va_up rc i 0) g_35 (fun (k : Nat) (hk : k ≠ 2082) => (fr_37 k (by omega)).trans ((fr_4 k (by omega)).trans (rfl))) (by omega) (by omega) b_38 (fun j hj => by by_cases h9 : j = i; rw [h9, va_up_self]; rw [va_up_ne _ _ h9]; exact hz1 j (by omega)) f_36 _ _ _ hP hS (lv_sub (l' := [(0, .ref (ad 2080)), (1, .int (nI root)), (2, .int (nI (i + 1)))]) hl [1, 2, 0] rfl)
  exact loop_1 _ 0 mk0 g (fun (k : Nat) (hk : k ≠ 2082) => rfl) (Nat.lt_succ_self _) (by omega) hmb (fun j h => absurd h (by omega)) h82 _ _ _ hP hS (lv_sub (l' := [(0, .ref (ad 2080)), (1, .int (nI root)), (2, .int (nI 0))]) hl [1, 2, 0] rfl)
end
section
/-- the operands of a part have their derivatives -/
def DOP (M : List PD) (i : Nat) (dv : Nat → Nat) (sf : Nat → Int) : Prop := (1 < (gd M i).1 → ∃ oa : Nat, oa < i ∧ (gd M i).2.1 = (oa : Int) ∧ sf oa = ((dv oa : Nat) : Int) ∧ dv oa < M.length) ∧ ((gd M i).1 = 2 ∨ (gd M i).1 = 3 → ∃ ob : Nat, ob < i ∧ (gd M i).2.2.1 = (ob : Int) ∧ sf ob = ((dv ob : Nat) : Int) ∧ dv ob < M.length)
theorem der_ops {L M : List PD} {root i : Nat} {dv : Nat → Nat} {sf : Nat → Int} (hWf : WFL L) (hrt : root < L.length) (hi : i ≤ root) (hR : rchN L root (root + 1) i = 1) (hle : LE L M) (hsf : ∀ j, j < i → rchN L root (root + 1) j = 1 → sf j = ((dv j : Nat) : Int) ∧ dv j < M.length) : DOP M i dv sf := by
  have hg := hle.2 i (by omega)
  unfold DOP
  rw [hg]
  refine ⟨fun h1 => ?_, fun h2 => ?_⟩
  · obtain ⟨a, ha, ea⟩ := hWf.op1 (k := i) (by omega) h1
    have hc := (rch_closed hWf hrt hi hR h1).1
    rw [ea, Int.toNat_natCast] at hc
    exact ⟨a, ha, ea, hsf a ha hc⟩
  · obtain ⟨b, hb, eb⟩ := hWf.op2 (k := i) (by omega) h2
    have hc := (rch_closed hWf hrt hi hR (by omega)).2 (by omega)
    rw [eb, Int.toNat_natCast] at hc
    exact ⟨b, hb, eb, hsf b hb hc⟩
theorem DOP.okk {M : List PD} {i v : Nat} {dv : Nat → Nat} {sf : Nat → Int} (h : DOP M i dv sf) (hw : WFL M) (hi : i < M.length) : OKK M (derL M i v dv) := by
  refine OKK.der hw hi (fun h1 => ?_) (fun h2 => ?_)
  · obtain ⟨a, -, ea, -, hl⟩ := h.1 h1
    rw [ea, Int.toNat_natCast]; exact hl
  · obtain ⟨b, -, eb, -, hl⟩ := h.2 h2
    rw [eb, Int.toNat_natCast]; exact hl
theorem der_sum {M : List PD} {i v oa ob : Nat} {dv : Nat → Nat} (h : (gd M i).1 = 2) (ea : (gd M i).2.1 = (oa : Int)) (eb : (gd M i).2.2.1 = (ob : Int)) : derL M i v dv = sumL M (dv oa) (dv ob) := by
  unfold derL
  rw [if_neg (by omega), if_neg (by omega), if_pos h, ea, eb, Int.toNat_natCast, Int.toNat_natCast]
theorem der_prd {M : List PD} {i v oa ob : Nat} {dv : Nat → Nat} (h : (gd M i).1 = 3) (ea : (gd M i).2.1 = (oa : Int)) (eb : (gd M i).2.2.1 = (ob : Int)) : derL M i v dv = seqL (prdL M (dv oa) ob) (fun a M => seqL (prdL M oa (dv ob)) (fun b N => sumL N a b)) := by
  unfold derL
  rw [if_neg (by omega), if_neg (by omega), if_neg (by omega), if_pos h, ea, eb, Int.toNat_natCast, Int.toNat_natCast]
theorem der_pow {M : List PD} {i v oa n : Nat} {dv : Nat → Nat} (h : (gd M i).1 = 4) (ea : (gd M i).2.1 = (oa : Int)) (eb : (gd M i).2.2.1 = (n : Int)) : derL M i v dv = seqL (numL M ((n : Nat) : Int) 1) (fun f M => seqL (powL M oa (n - 1)) (fun l9 N => seqL (prdL N f l9) (fun b R => prdL R b (dv oa)))) := by
  unfold derL
  rw [if_neg (by omega), if_neg (by omega), if_neg (by omega), if_neg (by omega), ea, eb, Int.toNat_natCast, Int.toNat_natCast]
theorem der_one {M : List PD} {i v : Nat} {dv : Nat → Nat} (h : (gd M i).1 = 1) (e : (gd M i).2.1 = (v : Int)) : derL M i v dv = numL M 1 1 := by
  unfold derL
  rw [if_neg (by omega), if_pos h, if_pos e]
theorem der_zero {M : List PD} {i v : Nat} {dv : Nat → Nat} (h : (gd M i).1 = 0 ∨ ((gd M i).1 = 1 ∧ (gd M i).2.1 ≠ (v : Int))) : derL M i v dv = numL M 0 1 := by
  unfold derL
  rcases h with h | ⟨h, e⟩
  · rw [if_pos h]
  · rw [if_neg (by omega), if_pos h, if_neg e]
theorem der_pw {M : List PD} {i : Nat} (hw : WFL M) (hi : i < M.length) (h : (gd M i).1 = 4) : ∃ n : Nat, 2 ≤ n ∧ n ≤ 9 ∧ (gd M i).2.2.1 = (n : Int) := by
  obtain ⟨a, n, -, n2, n9, -, en, -⟩ := (hw i hi).2.2.2.2.2.2.2.2.2.2 h
  exact ⟨n, n2, n9, en⟩
/-- behind a derivative -/
def CDR (ad : Nat → Nat) (cA : Nat → ClassId) (g2 : Nat → va_E) (DD : DX) (root : Nat) (r : Int32) : Prop := CS ad cA g2 DD.2.2 ∧ ((DD.1 = 0 ∧ r = nI (DD.2.1 root) ∧ DD.2.1 root < DD.2.2.length) ∨ (DD.1 < 0 ∧ -4 ≤ DD.1 ∧ r = iI DD.1))
theorem cdv_next {R : Nat → Nat} {i kn : Nat} {DD : DX} {K : Int × List PD} {sf : Nat → Int} (h : ∀ j, j < i → R j = 1 → sf j = ((DD.2.1 j : Nat) : Int) ∧ DD.2.1 j < DD.2.2.length) (hk : K.1 = (kn : Int)) (hl : kn < K.2.length) (hle : DD.2.2.length ≤ K.2.length) : ∀ j, j < i + 1 → R j = 1 → va_up sf i K.1 j = (((((0 : Int), va_up DD.2.1 i kn, K.2) : DX).2.1 j : Nat) : Int) ∧ (((0 : Int), va_up DD.2.1 i kn, K.2) : DX).2.1 j < (((0 : Int), va_up DD.2.1 i kn, K.2) : DX).2.2.length := by
  intro j hj hr
  show va_up sf i K.1 j = ((va_up DD.2.1 i kn j : Nat) : Int) ∧ va_up DD.2.1 i kn j < K.2.length
  by_cases e : j = i
  · rw [e, va_up_self, va_up_self]; exact ⟨hk, hl⟩
  · rw [va_up_ne _ _ e, va_up_ne _ _ e]
    have h1 := h j (by omega) hr
    exact ⟨h1.1, by omega⟩
end
section
def wd_V6_derivative : List Cond := .code yX6_derivative cX6_derivative 5 (some .int) :: (([.methodLink RX6 159 yX6_mark, .instanceMethod yX6_mark, .selects RX6 yX6_mark yX6_mark, .initialized RX6, .fieldLink RX6 21 "GradientDesk$Shelf" "slopes" "[I", .fieldLink RX6 17 "GradientDesk$Shelf" "marked" "[Z", .fieldLink RX6 11 "GradientDesk$Shelf" "parts" "[LGradientDesk$Part;", .fieldLink RX6 64 "GradientDesk$Part" "sort" "I", .methodLink RX6 101 yX6_makeWhole, .instanceMethod yX6_makeWhole, .selects RX6 yX6_makeWhole yX6_makeWhole, .fieldLink RX6 149 "GradientDesk$Part" "first" "I", .fieldLink RX6 152 "GradientDesk$Part" "second" "I", .methodLink RX6 168 yX6_makePowerSlope, .instanceMethod yX6_makePowerSlope, .selects RX6 yX6_makePowerSlope yX6_makePowerSlope, .methodLink RX6 165 yX6_makeProductSlope, .instanceMethod yX6_makeProductSlope, .selects RX6 yX6_makeProductSlope yX6_makeProductSlope, .methodLink RX6 162 yX6_makeSum, .instanceMethod yX6_makeSum, .selects RX6 yX6_makeSum yX6_makeSum] : List Cond) ++ (wd_V6_mark ++ (u_ws RX6 TX6 7 ++ (u_ws RX3 TX3 7 ++ (wd_V6_makeWhole ++ (wd_V6_powSlope ++ (wd_V6_prdSlope ++ (wd_V6_makeSum ++ ([])))))))))
theorem gw_V6_derivative : wd_V6_derivative.all goodWord = true := k_allc rfl (k_all (by decide +kernel) (k_all (gw_V6_mark) (k_all (gu_X6) (k_all (gu_X3) (k_all (gw_V6_makeWhole) (k_all (gw_V6_powSlope) (k_all (gw_V6_prdSlope) (k_all (gw_V6_makeSum) (rfl)))))))))
set_option maxHeartbeats 4000000 in
set_option maxRecDepth 100000 in
theorem c_V6_derivative (l : Launch) (dC : Nat → ClassId) (dI : Nat → Nat → Nat) (A : Nat → Prop) (ad : Nat → Nat) (cA : Nat → ClassId) (g : Nat → va_E) (L : List PD) (root : Nat) (vv : Nat) (mk0 : Nat → Nat) (sf0 : Nat → Int) (hC : CS ad cA g L) (hWf : WFL L) (hrt : root < L.length) (hvv : vv ≤ 2) (h82 : g 2082 = .inl (cA 2082, 200, .inl (fun j => nI (mk0 j)))) (hmb : ∀ j, mk0 j < 2) (h83 : g 2083 = .inl (cA 2083, 200, .inl (fun j => iI (sf0 j)))) : Met l yX6_derivative wd_V6_derivative ({ frames := 70, cells := 0, slots := 0, locals := 1400 }) (va_Pc [.ref (ad 2080), .int (nI root), .int (nI vv)] (PR NSc tyc dC dI A ad cA g)) (va_Qi (fun (r : Int32) => fun (u : (Nat → va_E) × (Nat → Nat) × (Nat → Int)) => match u with | (g2, mk2, sf2) => (∀ k, (14 ≤ k ∧ k < 76) ∨ (876 ≤ k ∧ k < 2080) ∨ k = 2081 ∨ (2084 ≤ k ∧ k < 2117) → g2 k = g k) ∧ g2 2082 = .inl (cA 2082, 200, .inl (fun j => nI (mk2 j))) ∧ (∀ j, mk2 j < 2) ∧ g2 2083 = .inl (cA 2083, 200, .inl (fun j => iI (sf2 j))) ∧ CDR ad cA g2 (drS L (rchN L root (root + 1)) vv (root + 1)) root r) (fun (u : (Nat → va_E) × (Nat → Nat) × (Nat → Int)) (t : State) => va_P (dC, dI) vwCl (wo ad NSc u.1) t.heap) A) (0) (0) A := by
  refine Met.ofW (cc := cX6_derivative) (maxL := 5) (ret := (some .int)) (by decide) rfl ?_
  intro p e s m args below meth c s₁ B hml hv
  obtain ⟨rfl, hA, hP, hL⟩ := hv
  have hx := B.exec
  have hb := B.bytes
  have hr := B.returns
  have hts := atoms_spec (ws := wd_V6_derivative) B.pre
  have hown : s.vm.findClass RX6 = some m.cls := findClass_of_methodNamed B.named
  have hlocks := B.notSynchronized
  have hK := hL.1
  have hD : ∀ g, va_D A (wo ad NSc g) := fun g => wo_D hL.2.1 hL.2.2 g
  have hS : va_S A s.heap s.heap [] := va_S.rf
  have bk0 : ∀ w ∈ wd_V6_mark, w ∈ wd_V6_derivative := fun _ h => List.mem_cons_of_mem _ (List.mem_append_right _ (List.mem_append_left _ h))
  have bk1 : ∀ w ∈ u_ws RX6 TX6 7, w ∈ wd_V6_derivative := fun _ h => List.mem_cons_of_mem _ (List.mem_append_right _ (List.mem_append_right _ (List.mem_append_left _ h)))
  have bk2 : ∀ w ∈ u_ws RX3 TX3 7, w ∈ wd_V6_derivative := fun _ h => List.mem_cons_of_mem _ (List.mem_append_right _ (List.mem_append_right _ (List.mem_append_right _ (List.mem_append_left _ h))))
  have bk3 : ∀ w ∈ wd_V6_makeWhole, w ∈ wd_V6_derivative := fun _ h => List.mem_cons_of_mem _ (List.mem_append_right _ (List.mem_append_right _ (List.mem_append_right _ (List.mem_append_right _ (List.mem_append_left _ h)))))
  have bk4 : ∀ w ∈ wd_V6_powSlope, w ∈ wd_V6_derivative := fun _ h => List.mem_cons_of_mem _ (List.mem_append_right _ (List.mem_append_right _ (List.mem_append_right _ (List.mem_append_right _ (List.mem_append_right _ (List.mem_append_left _ h))))))
  have bk5 : ∀ w ∈ wd_V6_prdSlope, w ∈ wd_V6_derivative := fun _ h => List.mem_cons_of_mem _ (List.mem_append_right _ (List.mem_append_right _ (List.mem_append_right _ (List.mem_append_right _ (List.mem_append_right _ (List.mem_append_right _ (List.mem_append_left _ h)))))))
  have bk6 : ∀ w ∈ wd_V6_makeSum, w ∈ wd_V6_derivative := fun _ h => List.mem_cons_of_mem _ (List.mem_append_right _ (List.mem_append_right _ (List.mem_append_right _ (List.mem_append_right _ (List.mem_append_right _ (List.mem_append_right _ (List.mem_append_right _ (List.mem_append_left _ h))))))))
  have hl := lv_entry ([.ref (ad 2080), .int (nI root), .int (nI vv)]) (n := 5) (Nat.le_of_ble_eq_true rfl)
  rw [lg_entry_eq]
  generalize (lg_sl ([.ref (ad 2080), .int (nI root), .int (nI vv)]) ++ List.replicate (5 - (lg_sl ([.ref (ad 2080), .int (nI root), .int (nI vv)])).length) Slot.unset).toArray = ls at hl ⊢
  have hl : lv_has ls 5 [(0, .ref (ad 2080)), (1, .int (nI root)), (2, .int (nI vv))] := hl
  have hC0 := hC
  obtain ⟨hLn, hW, ⟨hAr, hWk, hPa, hFr⟩, hO, pt, hPt, hM⟩ := hC0
  unfold CSO at hO
  have hpb := hPt.2
  refine lv_aload_n hx hb dX6_derivative_0 rfl (lv_at hl 0 rfl) ?_
  refine lv_iload_n hx hb dX6_derivative_1 rfl (lv_at hl 1 rfl) ?_
  refine va_calli (va_runV (As := [.int (nI root)]) (rest := []) ⟨hx, hb, hml, hown, hts⟩ (c_V6_mark l dC dI A ad cA g L root mk0 hC hWf hrt h82 hmb) (cwV 1 hts (goodIn_app (goodIn_r [Cond.methodLink RX6 159 yX6_mark, Cond.instanceMethod yX6_mark, Cond.selects RX6 yX6_mark yX6_mark, Cond.initialized RX6] [1, 2, 3, 4] rfl rfl) (goodIn_sub (fun w9 h9 => bk0 w9 h9) gw_V6_mark)) rfl rfl rfl (by decide +kernel) ⟨Nat.le_of_ble_eq_true rfl, Nat.le_of_ble_eq_true rfl⟩) ⟨fun a U g mk q => ⟨q.1, q.2.1, q.2.2.1, LY.moved (u := U) (U := U.calling g mk a) (Vm.Alike.refl U.vm) q.2.2.2⟩, va_recv hK hP (ci := 9) (q0 := 2080) rfl (wo_at (by decide) hO), fun U hU hW => ⟨rfl, by rw [hU]; exact fun q h => hA q (Nat.le_trans hS.1 h), by rw [hU]; exact hP, LY.moved hW.alike hL⟩⟩ rfl rfl hl.1 rfl (lv_room (Nat.le_of_ble_eq_true rfl)) dX6_derivative_2 ⟨(Nat.le_of_ble_eq_true rfl), (Nat.le_of_ble_eq_true rfl)⟩) hS (fun q _ h => h) (fun q h => h) (fun r_1 u8 t8 H1 locs ht8 hvm8 hw_2 hB hz1 hk1 hS => ?_)
  obtain ⟨g_3, mk2_4⟩ := u8
  try dsimp only at hw_2 hB
  rw [ht8] at hB
  have hP := hB
  generalize H1 = H at hP hS ⊢
  obtain ⟨fr_5, hm2, hmc, hmr, -⟩ := hw_2
  have hln0 := hC.1
  refine lv_pop hx hb dX6_derivative_5 rfl ?_
  refine lv_iconst (v := nI 0) hx hb dX6_derivative_6 (by decide +kernel) ?_
  refine lv_istore_n (lv' := [(3, .int (nI 0)), (0, .ref (ad 2080)), (1, .int (nI root)), (2, .int (nI vv))]) hx hb dX6_derivative_7 rfl hl (by decide) rfl (fun ls hl => ?_)
  have loop_6 : ∀ (k9 : Nat) (i : Nat) (DD : DX) (sf : Nat → Int) (g_8 : Nat → va_E) (fr_9 : ∀ k, ((14 ≤ k ∧ k < 76) ∨ (876 ≤ k ∧ k < 2080) ∨ (2081 ≤ k ∧ k < 2117 ∧ k ≠ 2083)) → g_8 k = g_3 k), 300 - i < k9 → (i ≤ root + 1) → (drS L (rchN L root (root + 1)) vv i = DD) → ((DD : DX).1 = 0) → (WFL (DD : DX).2.2) → (LE L (DD : DX).2.2) → (∀ j, j < i → rchN L root (root + 1) j = 1 → sf j = (((DD : DX).2.1 j : Nat) : Int) ∧ (DD : DX).2.1 j < (DD : DX).2.2.length) → (g_8 2083 = .inl (cA 2083, 200, .inl (fun j => iI (sf j)))) → (CS ad cA g_8 DD.2.2) → ∀ (H : Heap) (locs : List Loc) (ls : Array Slot), va_P (dC, dI) vwCl (wo ad NSc g_8) H → va_S A s.heap H locs → lv_has ls 5 [(0, .ref (ad 2080)), (1, .int (nI root)), (2, .int (nI vv)), (3, .int (nI i))] → W p l e (headSpec wd_V6_derivative ({ frames := 70, cells := 0, slots := 0, locals := 1400 })).room s m ([.ref (ad 2080), .int (nI root), .int (nI vv)] : List Value).toArray below meth c H locs (0) (0) (MQ below (va_Qi (fun (r : Int32) => fun (u : (Nat → va_E) × (Nat → Nat) × (Nat → Int)) => match u with | (g2, mk2, sf2) => (∀ k, (14 ≤ k ∧ k < 76) ∨ (876 ≤ k ∧ k < 2080) ∨ k = 2081 ∨ (2084 ≤ k ∧ k < 2117) → g2 k = g k) ∧ g2 2082 = .inl (cA 2082, 200, .inl (fun j => nI (mk2 j))) ∧ (∀ j, mk2 j < 2) ∧ g2 2083 = .inl (cA 2083, 200, .inl (fun j => iI (sf2 j))) ∧ CDR ad cA g2 (drS L (rchN L root (root + 1)) vv (root + 1)) root r) (fun (u : (Nat → va_E) × (Nat → Nat) × (Nat → Int)) (t : State) => va_P (dC, dI) vwCl (wo ad NSc u.1) t.heap) A) ([.ref (ad 2080), .int (nI root), .int (nI vv)] : List Value).toArray s (0) (0) A) (F0 m 8 ls []) := by
    intro k9
    induction k9 with
    | zero => intro i DD sf g_8 fr_9 h9; exact absurd h9 (Nat.not_lt_zero _)
    | succ k9 ih_7 =>
      intro i DD sf g_8 fr_9 h9 hi hDD h0 hwf hle hsf f_10 hCL H locs ls hP hS hl
      have hCD := hCL
      obtain ⟨hLnD, hWD, ⟨hArD, hWkD, hPaD, hFrD⟩, hOD, ptD, hPtD, hMD⟩ := hCD
      unfold CSO at hOD
      have hpbD := hPtD.2
      have hlm := hle.1
      refine lv_iload_n hx hb dX6_derivative_8 rfl (lv_at hl 3 rfl) ?_
      refine lv_iload_n hx hb dX6_derivative_9 rfl (lv_at hl 1 rfl) ?_
      refine lv_icmp_gt (tgt := 194) hx hb dX6_derivative_10 (by decide) (fun c_11 => ?_) (fun c_11 => ?_)
      · have c_11 := (nI_ltI (a := root) (b := i) (by omega) (by omega)).mp c_11
        refine lv_aload_n hx hb dX6_derivative_194 rfl (lv_at hl 0 rfl) ?_
        refine m_get (D := (dC, dI)) (v := .ref (ad 2083)) (C := RX6) (T := TX6) (N := 7) hx hb hts bk1 hown hK hP 2080 (by decide) hOD rfl 3 (by decide) (hts (.fieldLink RX6 21 "GradientDesk$Shelf" "slopes" "[I") (List.mem_of_getElem? (i := 5) rfl)) (fun _ h9 => h9) rfl dX6_derivative_195 ?_
        refine lv_iload_n hx hb dX6_derivative_198 rfl (lv_at hl 1 rfl) ?_
        refine m_iald hx hb hK hP 2083 (by decide) rfl f_10 (i := root) (by omega) (by decide) dX6_derivative_199 ?_
        have f_12 : g_8 2082 = .inl (cA 2082, 200, .inl (fun j => nI (mk2_4 j))) := (fr_9 2082 (by omega)).trans hm2
        have hie : i = root + 1 := by omega
        have hrs := hsf root (by omega) rchN_root
        rw [hie] at hDD
        refine W.widen (k := 0) (n := 0) (by omega) (by omega) ?_
        exact W.iret (v := iI (sf root)) hx hb hr (fun t9 ht9 hW9 => ⟨⟨iI (sf root), (g_8, mk2_4, sf), rfl, ⟨(fun (k : Nat) (hk : (14 ≤ k ∧ k < 76) ∨ (876 ≤ k ∧ k < 2080) ∨ k = 2081 ∨ (2084 ≤ k ∧ k < 2117)) => (fr_9 k (by omega)).trans ((fr_5 k (by omega)).trans (rfl))), f_12, hmc, f_10, by rw [hDD]; exact ⟨hCL, Or.inl ⟨h0, by rw [hrs.1]; exact (nI_iI _).symm, hrs.2⟩⟩⟩, by show va_P (dC, dI) vwCl _ t9.heap; rw [ht9]; exact hP⟩, hS.F ht9⟩) hS.2.2 dX6_derivative_200
      · have c_11 := mt (nI_ltI (a := root) (b := i) (by omega) (by omega)).mpr c_11
        have hRm := hmr i (by omega)
        have hmi := hmc i
        refine lv_aload_n hx hb dX6_derivative_13 rfl (lv_at hl 0 rfl) ?_
        refine m_get (D := (dC, dI)) (v := .ref (ad 2082)) (C := RX6) (T := TX6) (N := 7) hx hb hts bk1 hown hK hP 2080 (by decide) hOD rfl 1 (by decide) (hts (.fieldLink RX6 17 "GradientDesk$Shelf" "marked" "[Z") (List.mem_of_getElem? (i := 6) rfl)) (fun _ h9 => h9) rfl dX6_derivative_14 ?_
        refine lv_iload_n hx hb dX6_derivative_17 rfl (lv_at hl 3 rfl) ?_
        have f_13 : g_8 2082 = .inl (cA 2082, 200, .inl (fun j => nI (mk2_4 j))) := (fr_9 2082 (by omega)).trans hm2
        refine m_zald hx hb hK hP 2082 (by decide) rfl f_13 (i := i) (by omega) (by decide) dX6_derivative_18 ?_
        have b_14 := hmc i
        refine lv_if_ne (tgt := 25) hx hb dX6_derivative_19 (by decide) (fun c_15 => ?_) (fun c_15 => ?_)
        · have c_15 := mt (nI_eq (a := (mk2_4 i)) (b := 0) (by omega) (by decide)).mpr c_15
          have hRi : rchN L root (root + 1) i = 1 := by rw [← hRm]; omega
          have hop := der_ops hWf hrt (by omega) hRi hle hsf
          have hiM : i < DD.2.2.length := by omega
          have hok := hop.okk (v := vv) hwf hiM
          obtain ⟨a0, a1, a2, a3, a4, a5, a6⟩ := hMD i hiM
          clear a6
          obtain ⟨w1, w2, w3, w4, w5, -⟩ := hwf i hiM
          have p1 := hpbD 1 i
          have hpi : g_8 (2117 + 2 * i) = .inr (6, [.ref (ad (2118 + 2 * i)), .int (nI ((gd DD.2.2 i).1)), .int (iI ((gd DD.2.2 i).2.1)), .int (iI ((gd DD.2.2 i).2.2.1)), .int (nI ((gd DD.2.2 i).2.2.2.1)), .int (nI ((gd DD.2.2 i).2.2.2.2.1)), .int (nI ((gd DD.2.2 i).2.2.2.2.2.1))]) := by rw [hPtD.1 i (by omega), a0, a1, a2, a3, a4, a5, nI_iI, nI_iI, nI_iI, nI_iI]
          refine lv_aload_n hx hb dX6_derivative_25 rfl (lv_at hl 0 rfl) ?_
          refine m_get (D := (dC, dI)) (v := .ref (ad 2081)) (C := RX6) (T := TX6) (N := 7) hx hb hts bk1 hown hK hP 2080 (by decide) hOD rfl 0 (by decide) (hts (.fieldLink RX6 11 "GradientDesk$Shelf" "parts" "[LGradientDesk$Part;") (List.mem_of_getElem? (i := 7) rfl)) (fun _ h9 => h9) rfl dX6_derivative_26 ?_
          refine lv_iload_n hx hb dX6_derivative_29 rfl (lv_at hl 3 rfl) ?_
          refine m_aald hx hb hK hP 2081 (by decide) rfl hPaD (i := i) (v := ad (2117 + 2 * i)) (by omega) (by decide) rfl dX6_derivative_30 ?_
          refine lv_astore (lv' := [(4, .ref (ad (2117 + 2 * i))), (0, .ref (ad 2080)), (1, .int (nI root)), (2, .int (nI vv)), (3, .int (nI i))]) hx hb dX6_derivative_31 hl (by decide) rfl (fun ls hl => ?_)
          refine lv_aload hx hb dX6_derivative_33 (lv_at hl 0 rfl) ?_
          refine m_get (D := (dC, dI)) (v := .int (nI ((gd DD.2.2 i).1))) (C := RX3) (T := TX3) (N := 7) hx hb hts bk2 hown hK hP (2117 + 2 * i) (ns_p (by omega)) hpi rfl 1 (by decide) (hts (.fieldLink RX6 64 "GradientDesk$Part" "sort" "I") (List.mem_of_getElem? (i := 8) rfl)) (fun _ h9 => h9) rfl dX6_derivative_35 ?_
          refine lv_iconst (v := nI 2) hx hb dX6_derivative_38 (by decide +kernel) ?_
          refine lv_icmp_ne (tgt := 75) hx hb dX6_derivative_39 (by decide) (fun c_16 => ?_) (fun c_16 => ?_)
          · have c_16 := mt (nI_eq (a := ((gd DD.2.2 i).1)) (b := 2) (by omega) (by decide)).mpr c_16
            refine lv_aload hx hb dX6_derivative_75 (lv_at hl 0 rfl) ?_
            refine m_get (D := (dC, dI)) (v := .int (nI ((gd DD.2.2 i).1))) (C := RX3) (T := TX3) (N := 7) hx hb hts bk2 hown hK hP (2117 + 2 * i) (ns_p (by omega)) hpi rfl 1 (by decide) (hts (.fieldLink RX6 64 "GradientDesk$Part" "sort" "I") (List.mem_of_getElem? (i := 8) rfl)) (fun _ h9 => h9) rfl dX6_derivative_77 ?_
            refine lv_iconst (v := nI 3) hx hb dX6_derivative_80 (by decide +kernel) ?_
            refine lv_icmp_ne (tgt := 107) hx hb dX6_derivative_81 (by decide) (fun c_17 => ?_) (fun c_17 => ?_)
            · have c_17 := mt (nI_eq (a := ((gd DD.2.2 i).1)) (b := 3) (by omega) (by decide)).mpr c_17
              refine lv_aload hx hb dX6_derivative_107 (lv_at hl 0 rfl) ?_
              refine m_get (D := (dC, dI)) (v := .int (nI ((gd DD.2.2 i).1))) (C := RX3) (T := TX3) (N := 7) hx hb hts bk2 hown hK hP (2117 + 2 * i) (ns_p (by omega)) hpi rfl 1 (by decide) (hts (.fieldLink RX6 64 "GradientDesk$Part" "sort" "I") (List.mem_of_getElem? (i := 8) rfl)) (fun _ h9 => h9) rfl dX6_derivative_109 ?_
              refine lv_iconst (v := nI 4) hx hb dX6_derivative_112 (by decide +kernel) ?_
              refine lv_icmp_ne (tgt := 139) hx hb dX6_derivative_113 (by decide) (fun c_18 => ?_) (fun c_18 => ?_)
              · have c_18 := mt (nI_eq (a := ((gd DD.2.2 i).1)) (b := 4) (by omega) (by decide)).mpr c_18
                refine lv_aload_n hx hb dX6_derivative_139 rfl (lv_at hl 1 rfl) ?_
                refine m_get (D := (dC, dI)) (v := .ref (ad 2083)) (C := RX6) (T := TX6) (N := 7) hx hb hts bk1 hown hK hP 2080 (by decide) hOD rfl 3 (by decide) (hts (.fieldLink RX6 21 "GradientDesk$Shelf" "slopes" "[I") (List.mem_of_getElem? (i := 5) rfl)) (fun _ h9 => h9) rfl dX6_derivative_140 ?_
                refine lv_iload_n hx hb dX6_derivative_143 rfl (lv_at hl 4 rfl) ?_
                refine lv_aload_n hx hb dX6_derivative_144 rfl (lv_at hl 1 rfl) ?_
                refine lv_aload hx hb dX6_derivative_145 (lv_at hl 0 rfl) ?_
                refine m_get (D := (dC, dI)) (v := .int (nI ((gd DD.2.2 i).1))) (C := RX3) (T := TX3) (N := 7) hx hb hts bk2 hown hK hP (2117 + 2 * i) (ns_p (by omega)) hpi rfl 1 (by decide) (hts (.fieldLink RX6 64 "GradientDesk$Part" "sort" "I") (List.mem_of_getElem? (i := 8) rfl)) (fun _ h9 => h9) rfl dX6_derivative_147 ?_
                refine lv_iconst (v := nI 1) hx hb dX6_derivative_150 (by decide +kernel) ?_
                refine lv_icmp_ne (tgt := 167) hx hb dX6_derivative_151 (by decide) (fun c_19 => ?_) (fun c_19 => ?_)
                · have c_19 := mt (nI_eq (a := ((gd DD.2.2 i).1)) (b := 1) (by omega) (by decide)).mpr c_19
                  refine lv_iconst (v := nI 0) hx hb dX6_derivative_167 (by decide +kernel) ?_
                  refine va_calli (va_runV (As := [.int (nI 0)]) (rest := [.int (nI i), .ref (ad 2083)]) ⟨hx, hb, hml, hown, hts⟩ (c_V6_makeWhole l dC dI A ad cA g_8 DD.2.2 (nI 0) 0 hCL (by decide)) (cwV 1 hts (goodIn_app (goodIn_r [Cond.methodLink RX6 101 yX6_makeWhole, Cond.instanceMethod yX6_makeWhole, Cond.selects RX6 yX6_makeWhole yX6_makeWhole, Cond.initialized RX6] [9, 10, 11, 4] rfl rfl) (goodIn_sub (fun w9 h9 => bk3 w9 h9) gw_V6_makeWhole)) rfl rfl rfl (by decide +kernel) ⟨Nat.le_of_ble_eq_true rfl, Nat.le_of_ble_eq_true rfl⟩) ⟨fun a U g mk q => ⟨q.1, q.2.1, q.2.2.1, LY.moved (u := U) (U := U.calling g mk a) (Vm.Alike.refl U.vm) q.2.2.2⟩, va_recv hK hP (ci := 9) (q0 := 2080) rfl (wo_at (by decide) hOD), fun U hU hW => ⟨rfl, by rw [hU]; exact fun q h => hA q (Nat.le_trans hS.1 h), by rw [hU]; exact hP, LY.moved hW.alike hL⟩⟩ rfl rfl hl.1 rfl (lv_room (Nat.le_of_ble_eq_true rfl)) dX6_derivative_168 ⟨(Nat.le_of_ble_eq_true rfl), (Nat.le_of_ble_eq_true rfl)⟩) hS (fun q _ h => h) (fun q h => h) (fun r_20 u8 t8 H1 locs ht8 hvm8 hw_21 hB hz1 hk1 hS => ?_)
                  obtain ⟨g_22, rfl⟩ : ∃ z, z = u8 := ⟨_, rfl⟩
                  try dsimp only at hw_21 hB
                  rw [ht8] at hB
                  have hP := hB
                  generalize H1 = H at hP hS ⊢
                  obtain ⟨fr_23, hK⟩ := hw_21
                  obtain ⟨K, heK⟩ : ∃ z : Int × List PD, z = derL DD.2.2 i vv DD.2.1 := ⟨_, rfl⟩
                  rw [← der_zero (M := DD.2.2) (i := i) (v := vv) (dv := DD.2.1) (by omega), ← heK] at hK
                  rw [← heK] at hok
                  obtain ⟨hrK, hcK, hlo, hhi⟩ := hK
                  have hlK := hcK.1
                  have hdK := hcK
                  obtain ⟨hLnK, hWK, ⟨hArK, hWkK, hPaK, hFrK⟩, hOK, ptK, hPtK, hMK⟩ := hdK
                  unfold CSO at hOK
                  have hpbK := hPtK.2
                  have f_24 : g_22 2083 = .inl (cA 2083, 200, .inl (fun j => iI (sf j))) := (fr_23 2083 (by omega)).trans f_10
                  refine m_iast hx hb hK hP hD hS 2083 (by decide) rfl f_24 (i := i) (x := r_20) (by omega) (by decide) dX6_derivative_171 (fun H locs g_25 f_26 fr_27 hP hS => ?_)
                  rw [hrK, k_updZ] at f_26
                  have f_26 : g_25 2083 = .inl (cA 2083, 200, .inl (fun j => iI ((va_up sf i K.1) j))) := f_26
                  refine lv_aload_n hx hb dX6_derivative_172 rfl (lv_at hl 1 rfl) ?_
                  have f_28 : g_25 2080 = .inr (9, [.ref (ad 2081), .ref (ad 2082), .int (nI K.2.length), .ref (ad 2083), .ref (ad 2077), .ref (ad 2107), .ref (ad (2 * 6))]) := (fr_27 2080 (by omega)).trans hOK
                  refine m_get (D := (dC, dI)) (v := .ref (ad 2083)) (C := RX6) (T := TX6) (N := 7) hx hb hts bk1 hown hK hP 2080 (by decide) f_28 rfl 3 (by decide) (hts (.fieldLink RX6 21 "GradientDesk$Shelf" "slopes" "[I") (List.mem_of_getElem? (i := 5) rfl)) (fun _ h9 => h9) rfl dX6_derivative_173 ?_
                  refine lv_iload_n hx hb dX6_derivative_176 rfl (lv_at hl 4 rfl) ?_
                  refine m_iald hx hb hK hP 2083 (by decide) rfl f_26 (i := i) (by omega) (by decide) dX6_derivative_177 ?_
                  refine lv_topi (fun x_29 e_30 => ?_)
                  obtain rfl : x_29 = iI K.1 := e_30.trans (congrArg iI (va_up_self _ _ _))
                  refine lv_if_ge (tgt := 188) hx hb dX6_derivative_178 (by decide) (fun c_31 => ?_) (fun c_31 => ?_)
                  · have c_31 := (k_iLE (a := 0) (b := K.1) (show nI 0 = iI 0 from by decide) rfl (by omega) (by omega)).mp c_31
                    obtain ⟨kn, hkn⟩ : ∃ z : Nat, K.1 = (z : Int) := ⟨K.1.toNat, by omega⟩
                    refine lv_iinc (v := nI (i + 1)) (lv' := [(3, .int (nI (i + 1))), (4, .ref (ad (2117 + 2 * i))), (0, .ref (ad 2080)), (1, .int (nI root)), (2, .int (nI vv))]) hx hb dX6_derivative_188 hl (k := 4) rfl (nI_add i 1) (by decide) rfl (fun ls hl => ?_)
                    refine lv_goto (tgt := 8) hx hb dX6_derivative_191 (by decide) ?_
                    have hAW_35 : AW ad cA g_25 := AW.keep hWK (fun (k : Nat) (hk : k < 2076) => (fr_27 k (by omega)).trans (rfl))
                    have hC_34 : CS ad cA g_25 K.2 := CS.same hcK hAW_35 (fun (k : Nat) (hk : (76 ≤ k ∧ k < 876) ∨ k = 2077 ∨ k = 2107 ∨ k = 2080 ∨ k = 2081 ∨ (2117 ≤ k ∧ k < 2517)) => (fr_27 k (by omega)).trans (rfl))
                    exact ih_7 (i + 1) (0, va_up DD.2.1 i kn, K.2) (va_up sf i K.1) g_25 (fun (k : Nat) (hk : (14 ≤ k ∧ k < 76) ∨ (876 ≤ k ∧ k < 2080) ∨ (2081 ≤ k ∧ k < 2117 ∧ k ≠ 2083)) => (fr_27 k (by omega)).trans ((fr_23 k (by omega)).trans ((fr_9 k (by omega)).trans (rfl)))) (by omega) (by omega) (by rw [heK]; exact drS_ok hDD h0 hRi (by rw [← heK]; exact hkn)) rfl hok.1 (hle.tr hok.2.1) (cdv_next hsf hkn (by omega) hok.2.1.1) f_26 hC_34 _ _ _ hP hS (lv_sub (l' := [(0, .ref (ad 2080)), (1, .int (nI root)), (2, .int (nI vv)), (3, .int (nI (i + 1)))]) hl [2, 3, 4, 0] rfl)
                  · have c_31 := mt (k_iLE (a := 0) (b := K.1) (show nI 0 = iI 0 from by decide) rfl (by omega) (by omega)).mpr c_31
                    refine lv_aload_n hx hb dX6_derivative_181 rfl (lv_at hl 1 rfl) ?_
                    refine m_get (D := (dC, dI)) (v := .ref (ad 2083)) (C := RX6) (T := TX6) (N := 7) hx hb hts bk1 hown hK hP 2080 (by decide) f_28 rfl 3 (by decide) (hts (.fieldLink RX6 21 "GradientDesk$Shelf" "slopes" "[I") (List.mem_of_getElem? (i := 5) rfl)) (fun _ h9 => h9) rfl dX6_derivative_182 ?_
                    refine lv_iload_n hx hb dX6_derivative_185 rfl (lv_at hl 4 rfl) ?_
                    refine m_iald hx hb hK hP 2083 (by decide) rfl f_26 (i := i) (by omega) (by decide) dX6_derivative_186 ?_
                    refine lv_topi (fun x_36 e_37 => ?_)
                    obtain rfl : x_36 = iI K.1 := e_37.trans (congrArg iI (va_up_self _ _ _))
                    have f_38 : g_25 2082 = .inl (cA 2082, 200, .inl (fun j => nI (mk2_4 j))) := (fr_27 2082 (by omega)).trans ((fr_23 2082 (by omega)).trans f_13)
                    have hAW_40 : AW ad cA g_25 := AW.keep hWK (fun (k : Nat) (hk : k < 2076) => (fr_27 k (by omega)).trans (rfl))
                    have hC_39 : CS ad cA g_25 K.2 := CS.same hcK hAW_40 (fun (k : Nat) (hk : (76 ≤ k ∧ k < 876) ∨ k = 2077 ∨ k = 2107 ∨ k = 2080 ∨ k = 2081 ∨ (2117 ≤ k ∧ k < 2517)) => (fr_27 k (by omega)).trans (rfl))
                    have hdr : drS L (rchN L root (root + 1)) vv (root + 1) = (K.1, DD.2.1, K.2) := drS_end (by rw [heK]; exact drS_bad hDD h0 hRi (by rw [← heK]; omega)) (by show K.1 < 0; omega) (by omega)
                    refine W.widen (k := 0) (n := 0) (by omega) (by omega) ?_
                    exact W.iret (v := iI K.1) hx hb hr (fun t9 ht9 hW9 => ⟨⟨iI K.1, (g_25, mk2_4, va_up sf i K.1), rfl, ⟨(fun (k : Nat) (hk : (14 ≤ k ∧ k < 76) ∨ (876 ≤ k ∧ k < 2080) ∨ k = 2081 ∨ (2084 ≤ k ∧ k < 2117)) => (fr_27 k (by omega)).trans ((fr_23 k (by omega)).trans ((fr_9 k (by omega)).trans ((fr_5 k (by omega)).trans (rfl))))), f_38, hmc, f_26, by rw [hdr]; exact ⟨hC_39, Or.inr ⟨by show K.1 < 0; omega, hlo, rfl⟩⟩⟩, by show va_P (dC, dI) vwCl _ t9.heap; rw [ht9]; exact hP⟩, hS.F ht9⟩) hS.2.2 dX6_derivative_187
                · have c_19 := (nI_eq (a := ((gd DD.2.2 i).1)) (b := 1) (by omega) (by decide)).mp c_19
                  refine lv_aload hx hb dX6_derivative_154 (lv_at hl 0 rfl) ?_
                  refine m_get (D := (dC, dI)) (v := .int (iI ((gd DD.2.2 i).2.1))) (C := RX3) (T := TX3) (N := 7) hx hb hts bk2 hown hK hP (2117 + 2 * i) (ns_p (by omega)) hpi rfl 2 (by decide) (hts (.fieldLink RX6 149 "GradientDesk$Part" "first" "I") (List.mem_of_getElem? (i := 12) rfl)) (fun _ h9 => h9) rfl dX6_derivative_156 ?_
                  refine lv_iload_n hx hb dX6_derivative_159 rfl (lv_at hl 3 rfl) ?_
                  refine lv_icmp_ne (tgt := 167) hx hb dX6_derivative_160 (by decide) (fun c_41 => ?_) (fun c_41 => ?_)
                  · have c_41 := mt (k_iEQ (a := (gd DD.2.2 i).2.1) (b := ((vv : Nat) : Int)) rfl (nI_iI vv) (by omega) (by omega)).mpr c_41
                    refine lv_iconst (v := nI 0) hx hb dX6_derivative_167 (by decide +kernel) ?_
                    refine va_calli (va_runV (As := [.int (nI 0)]) (rest := [.int (nI i), .ref (ad 2083)]) ⟨hx, hb, hml, hown, hts⟩ (c_V6_makeWhole l dC dI A ad cA g_8 DD.2.2 (nI 0) 0 hCL (by decide)) (cwV 1 hts (goodIn_app (goodIn_r [Cond.methodLink RX6 101 yX6_makeWhole, Cond.instanceMethod yX6_makeWhole, Cond.selects RX6 yX6_makeWhole yX6_makeWhole, Cond.initialized RX6] [9, 10, 11, 4] rfl rfl) (goodIn_sub (fun w9 h9 => bk3 w9 h9) gw_V6_makeWhole)) rfl rfl rfl (by decide +kernel) ⟨Nat.le_of_ble_eq_true rfl, Nat.le_of_ble_eq_true rfl⟩) ⟨fun a U g mk q => ⟨q.1, q.2.1, q.2.2.1, LY.moved (u := U) (U := U.calling g mk a) (Vm.Alike.refl U.vm) q.2.2.2⟩, va_recv hK hP (ci := 9) (q0 := 2080) rfl (wo_at (by decide) hOD), fun U hU hW => ⟨rfl, by rw [hU]; exact fun q h => hA q (Nat.le_trans hS.1 h), by rw [hU]; exact hP, LY.moved hW.alike hL⟩⟩ rfl rfl hl.1 rfl (lv_room (Nat.le_of_ble_eq_true rfl)) dX6_derivative_168 ⟨(Nat.le_of_ble_eq_true rfl), (Nat.le_of_ble_eq_true rfl)⟩) hS (fun q _ h => h) (fun q h => h) (fun r_42 u8 t8 H1 locs ht8 hvm8 hw_43 hB hz1 hk1 hS => ?_)
                    obtain ⟨g_44, rfl⟩ : ∃ z, z = u8 := ⟨_, rfl⟩
                    try dsimp only at hw_43 hB
                    rw [ht8] at hB
                    have hP := hB
                    generalize H1 = H at hP hS ⊢
                    obtain ⟨fr_45, hK⟩ := hw_43
                    obtain ⟨K, heK⟩ : ∃ z : Int × List PD, z = derL DD.2.2 i vv DD.2.1 := ⟨_, rfl⟩
                    rw [← der_zero (M := DD.2.2) (i := i) (v := vv) (dv := DD.2.1) (by omega), ← heK] at hK
                    rw [← heK] at hok
                    obtain ⟨hrK, hcK, hlo, hhi⟩ := hK
                    have hlK := hcK.1
                    have hdK := hcK
                    obtain ⟨hLnK, hWK, ⟨hArK, hWkK, hPaK, hFrK⟩, hOK, ptK, hPtK, hMK⟩ := hdK
                    unfold CSO at hOK
                    have hpbK := hPtK.2
                    have f_46 : g_44 2083 = .inl (cA 2083, 200, .inl (fun j => iI (sf j))) := (fr_45 2083 (by omega)).trans f_10
                    refine m_iast hx hb hK hP hD hS 2083 (by decide) rfl f_46 (i := i) (x := r_42) (by omega) (by decide) dX6_derivative_171 (fun H locs g_47 f_48 fr_49 hP hS => ?_)
                    rw [hrK, k_updZ] at f_48
                    have f_48 : g_47 2083 = .inl (cA 2083, 200, .inl (fun j => iI ((va_up sf i K.1) j))) := f_48
                    refine lv_aload_n hx hb dX6_derivative_172 rfl (lv_at hl 1 rfl) ?_
                    have f_50 : g_47 2080 = .inr (9, [.ref (ad 2081), .ref (ad 2082), .int (nI K.2.length), .ref (ad 2083), .ref (ad 2077), .ref (ad 2107), .ref (ad (2 * 6))]) := (fr_49 2080 (by omega)).trans hOK
                    refine m_get (D := (dC, dI)) (v := .ref (ad 2083)) (C := RX6) (T := TX6) (N := 7) hx hb hts bk1 hown hK hP 2080 (by decide) f_50 rfl 3 (by decide) (hts (.fieldLink RX6 21 "GradientDesk$Shelf" "slopes" "[I") (List.mem_of_getElem? (i := 5) rfl)) (fun _ h9 => h9) rfl dX6_derivative_173 ?_
                    refine lv_iload_n hx hb dX6_derivative_176 rfl (lv_at hl 4 rfl) ?_
                    refine m_iald hx hb hK hP 2083 (by decide) rfl f_48 (i := i) (by omega) (by decide) dX6_derivative_177 ?_
                    refine lv_topi (fun x_51 e_52 => ?_)
                    obtain rfl : x_51 = iI K.1 := e_52.trans (congrArg iI (va_up_self _ _ _))
                    refine lv_if_ge (tgt := 188) hx hb dX6_derivative_178 (by decide) (fun c_53 => ?_) (fun c_53 => ?_)
                    · have c_53 := (k_iLE (a := 0) (b := K.1) (show nI 0 = iI 0 from by decide) rfl (by omega) (by omega)).mp c_53
                      obtain ⟨kn, hkn⟩ : ∃ z : Nat, K.1 = (z : Int) := ⟨K.1.toNat, by omega⟩
                      refine lv_iinc (v := nI (i + 1)) (lv' := [(3, .int (nI (i + 1))), (4, .ref (ad (2117 + 2 * i))), (0, .ref (ad 2080)), (1, .int (nI root)), (2, .int (nI vv))]) hx hb dX6_derivative_188 hl (k := 4) rfl (nI_add i 1) (by decide) rfl (fun ls hl => ?_)
                      refine lv_goto (tgt := 8) hx hb dX6_derivative_191 (by decide) ?_
                      have hAW_57 : AW ad cA g_47 := AW.keep hWK (fun (k : Nat) (hk : k < 2076) => (fr_49 k (by omega)).trans (rfl))
                      have hC_56 : CS ad cA g_47 K.2 := CS.same hcK hAW_57 (fun (k : Nat) (hk : (76 ≤ k ∧ k < 876) ∨ k = 2077 ∨ k = 2107 ∨ k = 2080 ∨ k = 2081 ∨ (2117 ≤ k ∧ k < 2517)) => (fr_49 k (by omega)).trans (rfl))
                      exact ih_7 (i + 1) (0, va_up DD.2.1 i kn, K.2) (va_up sf i K.1) g_47 (fun (k : Nat) (hk : (14 ≤ k ∧ k < 76) ∨ (876 ≤ k ∧ k < 2080) ∨ (2081 ≤ k ∧ k < 2117 ∧ k ≠ 2083)) => (fr_49 k (by omega)).trans ((fr_45 k (by omega)).trans ((fr_9 k (by omega)).trans (rfl)))) (by omega) (by omega) (by rw [heK]; exact drS_ok hDD h0 hRi (by rw [← heK]; exact hkn)) rfl hok.1 (hle.tr hok.2.1) (cdv_next hsf hkn (by omega) hok.2.1.1) f_48 hC_56 _ _ _ hP hS (lv_sub (l' := [(0, .ref (ad 2080)), (1, .int (nI root)), (2, .int (nI vv)), (3, .int (nI (i + 1)))]) hl [2, 3, 4, 0] rfl)
                    · have c_53 := mt (k_iLE (a := 0) (b := K.1) (show nI 0 = iI 0 from by decide) rfl (by omega) (by omega)).mpr c_53
                      refine lv_aload_n hx hb dX6_derivative_181 rfl (lv_at hl 1 rfl) ?_
                      refine m_get (D := (dC, dI)) (v := .ref (ad 2083)) (C := RX6) (T := TX6) (N := 7) hx hb hts bk1 hown hK hP 2080 (by decide) f_50 rfl 3 (by decide) (hts (.fieldLink RX6 21 "GradientDesk$Shelf" "slopes" "[I") (List.mem_of_getElem? (i := 5) rfl)) (fun _ h9 => h9) rfl dX6_derivative_182 ?_
                      refine lv_iload_n hx hb dX6_derivative_185 rfl (lv_at hl 4 rfl) ?_
                      refine m_iald hx hb hK hP 2083 (by decide) rfl f_48 (i := i) (by omega) (by decide) dX6_derivative_186 ?_
                      refine lv_topi (fun x_58 e_59 => ?_)
                      obtain rfl : x_58 = iI K.1 := e_59.trans (congrArg iI (va_up_self _ _ _))
                      have f_60 : g_47 2082 = .inl (cA 2082, 200, .inl (fun j => nI (mk2_4 j))) := (fr_49 2082 (by omega)).trans ((fr_45 2082 (by omega)).trans f_13)
                      have hAW_62 : AW ad cA g_47 := AW.keep hWK (fun (k : Nat) (hk : k < 2076) => (fr_49 k (by omega)).trans (rfl))
                      have hC_61 : CS ad cA g_47 K.2 := CS.same hcK hAW_62 (fun (k : Nat) (hk : (76 ≤ k ∧ k < 876) ∨ k = 2077 ∨ k = 2107 ∨ k = 2080 ∨ k = 2081 ∨ (2117 ≤ k ∧ k < 2517)) => (fr_49 k (by omega)).trans (rfl))
                      have hdr : drS L (rchN L root (root + 1)) vv (root + 1) = (K.1, DD.2.1, K.2) := drS_end (by rw [heK]; exact drS_bad hDD h0 hRi (by rw [← heK]; omega)) (by show K.1 < 0; omega) (by omega)
                      refine W.widen (k := 0) (n := 0) (by omega) (by omega) ?_
                      exact W.iret (v := iI K.1) hx hb hr (fun t9 ht9 hW9 => ⟨⟨iI K.1, (g_47, mk2_4, va_up sf i K.1), rfl, ⟨(fun (k : Nat) (hk : (14 ≤ k ∧ k < 76) ∨ (876 ≤ k ∧ k < 2080) ∨ k = 2081 ∨ (2084 ≤ k ∧ k < 2117)) => (fr_49 k (by omega)).trans ((fr_45 k (by omega)).trans ((fr_9 k (by omega)).trans ((fr_5 k (by omega)).trans (rfl))))), f_60, hmc, f_48, by rw [hdr]; exact ⟨hC_61, Or.inr ⟨by show K.1 < 0; omega, hlo, rfl⟩⟩⟩, by show va_P (dC, dI) vwCl _ t9.heap; rw [ht9]; exact hP⟩, hS.F ht9⟩) hS.2.2 dX6_derivative_187
                  · have c_41 := (k_iEQ (a := (gd DD.2.2 i).2.1) (b := ((vv : Nat) : Int)) rfl (nI_iI vv) (by omega) (by omega)).mp c_41
                    refine lv_iconst (v := nI 1) hx hb dX6_derivative_163 (by decide +kernel) ?_
                    refine lv_goto (tgt := 168) hx hb dX6_derivative_164 (by decide) ?_
                    refine va_calli (va_runV (As := [.int (nI 1)]) (rest := [.int (nI i), .ref (ad 2083)]) ⟨hx, hb, hml, hown, hts⟩ (c_V6_makeWhole l dC dI A ad cA g_8 DD.2.2 (nI 1) 1 hCL (by decide)) (cwV 1 hts (goodIn_app (goodIn_r [Cond.methodLink RX6 101 yX6_makeWhole, Cond.instanceMethod yX6_makeWhole, Cond.selects RX6 yX6_makeWhole yX6_makeWhole, Cond.initialized RX6] [9, 10, 11, 4] rfl rfl) (goodIn_sub (fun w9 h9 => bk3 w9 h9) gw_V6_makeWhole)) rfl rfl rfl (by decide +kernel) ⟨Nat.le_of_ble_eq_true rfl, Nat.le_of_ble_eq_true rfl⟩) ⟨fun a U g mk q => ⟨q.1, q.2.1, q.2.2.1, LY.moved (u := U) (U := U.calling g mk a) (Vm.Alike.refl U.vm) q.2.2.2⟩, va_recv hK hP (ci := 9) (q0 := 2080) rfl (wo_at (by decide) hOD), fun U hU hW => ⟨rfl, by rw [hU]; exact fun q h => hA q (Nat.le_trans hS.1 h), by rw [hU]; exact hP, LY.moved hW.alike hL⟩⟩ rfl rfl hl.1 rfl (lv_room (Nat.le_of_ble_eq_true rfl)) dX6_derivative_168 ⟨(Nat.le_of_ble_eq_true rfl), (Nat.le_of_ble_eq_true rfl)⟩) hS (fun q _ h => h) (fun q h => h) (fun r_63 u8 t8 H1 locs ht8 hvm8 hw_64 hB hz1 hk1 hS => ?_)
                    obtain ⟨g_65, rfl⟩ : ∃ z, z = u8 := ⟨_, rfl⟩
                    try dsimp only at hw_64 hB
                    rw [ht8] at hB
                    have hP := hB
                    generalize H1 = H at hP hS ⊢
                    obtain ⟨fr_66, hK⟩ := hw_64
                    obtain ⟨K, heK⟩ : ∃ z : Int × List PD, z = derL DD.2.2 i vv DD.2.1 := ⟨_, rfl⟩
                    rw [← der_one (M := DD.2.2) (i := i) (v := vv) (dv := DD.2.1) (by omega) (by omega), ← heK] at hK
                    rw [← heK] at hok
                    obtain ⟨hrK, hcK, hlo, hhi⟩ := hK
                    have hlK := hcK.1
                    have hdK := hcK
                    obtain ⟨hLnK, hWK, ⟨hArK, hWkK, hPaK, hFrK⟩, hOK, ptK, hPtK, hMK⟩ := hdK
                    unfold CSO at hOK
                    have hpbK := hPtK.2
                    have f_67 : g_65 2083 = .inl (cA 2083, 200, .inl (fun j => iI (sf j))) := (fr_66 2083 (by omega)).trans f_10
                    refine m_iast hx hb hK hP hD hS 2083 (by decide) rfl f_67 (i := i) (x := r_63) (by omega) (by decide) dX6_derivative_171 (fun H locs g_68 f_69 fr_70 hP hS => ?_)
                    rw [hrK, k_updZ] at f_69
                    have f_69 : g_68 2083 = .inl (cA 2083, 200, .inl (fun j => iI ((va_up sf i K.1) j))) := f_69
                    refine lv_aload_n hx hb dX6_derivative_172 rfl (lv_at hl 1 rfl) ?_
                    have f_71 : g_68 2080 = .inr (9, [.ref (ad 2081), .ref (ad 2082), .int (nI K.2.length), .ref (ad 2083), .ref (ad 2077), .ref (ad 2107), .ref (ad (2 * 6))]) := (fr_70 2080 (by omega)).trans hOK
                    refine m_get (D := (dC, dI)) (v := .ref (ad 2083)) (C := RX6) (T := TX6) (N := 7) hx hb hts bk1 hown hK hP 2080 (by decide) f_71 rfl 3 (by decide) (hts (.fieldLink RX6 21 "GradientDesk$Shelf" "slopes" "[I") (List.mem_of_getElem? (i := 5) rfl)) (fun _ h9 => h9) rfl dX6_derivative_173 ?_
                    refine lv_iload_n hx hb dX6_derivative_176 rfl (lv_at hl 4 rfl) ?_
                    refine m_iald hx hb hK hP 2083 (by decide) rfl f_69 (i := i) (by omega) (by decide) dX6_derivative_177 ?_
                    refine lv_topi (fun x_72 e_73 => ?_)
                    obtain rfl : x_72 = iI K.1 := e_73.trans (congrArg iI (va_up_self _ _ _))
                    refine lv_if_ge (tgt := 188) hx hb dX6_derivative_178 (by decide) (fun c_74 => ?_) (fun c_74 => ?_)
                    · have c_74 := (k_iLE (a := 0) (b := K.1) (show nI 0 = iI 0 from by decide) rfl (by omega) (by omega)).mp c_74
                      obtain ⟨kn, hkn⟩ : ∃ z : Nat, K.1 = (z : Int) := ⟨K.1.toNat, by omega⟩
                      refine lv_iinc (v := nI (i + 1)) (lv' := [(3, .int (nI (i + 1))), (4, .ref (ad (2117 + 2 * i))), (0, .ref (ad 2080)), (1, .int (nI root)), (2, .int (nI vv))]) hx hb dX6_derivative_188 hl (k := 4) rfl (nI_add i 1) (by decide) rfl (fun ls hl => ?_)
                      refine lv_goto (tgt := 8) hx hb dX6_derivative_191 (by decide) ?_
                      have hAW_78 : AW ad cA g_68 := AW.keep hWK (fun (k : Nat) (hk : k < 2076) => (fr_70 k (by omega)).trans (rfl))
                      have hC_77 : CS ad cA g_68 K.2 := CS.same hcK hAW_78 (fun (k : Nat) (hk : (76 ≤ k ∧ k < 876) ∨ k = 2077 ∨ k = 2107 ∨ k = 2080 ∨ k = 2081 ∨ (2117 ≤ k ∧ k < 2517)) => (fr_70 k (by omega)).trans (rfl))
                      exact ih_7 (i + 1) (0, va_up DD.2.1 i kn, K.2) (va_up sf i K.1) g_68 (fun (k : Nat) (hk : (14 ≤ k ∧ k < 76) ∨ (876 ≤ k ∧ k < 2080) ∨ (2081 ≤ k ∧ k < 2117 ∧ k ≠ 2083)) => (fr_70 k (by omega)).trans ((fr_66 k (by omega)).trans ((fr_9 k (by omega)).trans (rfl)))) (by omega) (by omega) (by rw [heK]; exact drS_ok hDD h0 hRi (by rw [← heK]; exact hkn)) rfl hok.1 (hle.tr hok.2.1) (cdv_next hsf hkn (by omega) hok.2.1.1) f_69 hC_77 _ _ _ hP hS (lv_sub (l' := [(0, .ref (ad 2080)), (1, .int (nI root)), (2, .int (nI vv)), (3, .int (nI (i + 1)))]) hl [2, 3, 4, 0] rfl)
                    · have c_74 := mt (k_iLE (a := 0) (b := K.1) (show nI 0 = iI 0 from by decide) rfl (by omega) (by omega)).mpr c_74
                      refine lv_aload_n hx hb dX6_derivative_181 rfl (lv_at hl 1 rfl) ?_
                      refine m_get (D := (dC, dI)) (v := .ref (ad 2083)) (C := RX6) (T := TX6) (N := 7) hx hb hts bk1 hown hK hP 2080 (by decide) f_71 rfl 3 (by decide) (hts (.fieldLink RX6 21 "GradientDesk$Shelf" "slopes" "[I") (List.mem_of_getElem? (i := 5) rfl)) (fun _ h9 => h9) rfl dX6_derivative_182 ?_
                      refine lv_iload_n hx hb dX6_derivative_185 rfl (lv_at hl 4 rfl) ?_
                      refine m_iald hx hb hK hP 2083 (by decide) rfl f_69 (i := i) (by omega) (by decide) dX6_derivative_186 ?_
                      refine lv_topi (fun x_79 e_80 => ?_)
                      obtain rfl : x_79 = iI K.1 := e_80.trans (congrArg iI (va_up_self _ _ _))
                      have f_81 : g_68 2082 = .inl (cA 2082, 200, .inl (fun j => nI (mk2_4 j))) := (fr_70 2082 (by omega)).trans ((fr_66 2082 (by omega)).trans f_13)
                      have hAW_83 : AW ad cA g_68 := AW.keep hWK (fun (k : Nat) (hk : k < 2076) => (fr_70 k (by omega)).trans (rfl))
                      have hC_82 : CS ad cA g_68 K.2 := CS.same hcK hAW_83 (fun (k : Nat) (hk : (76 ≤ k ∧ k < 876) ∨ k = 2077 ∨ k = 2107 ∨ k = 2080 ∨ k = 2081 ∨ (2117 ≤ k ∧ k < 2517)) => (fr_70 k (by omega)).trans (rfl))
                      have hdr : drS L (rchN L root (root + 1)) vv (root + 1) = (K.1, DD.2.1, K.2) := drS_end (by rw [heK]; exact drS_bad hDD h0 hRi (by rw [← heK]; omega)) (by show K.1 < 0; omega) (by omega)
                      refine W.widen (k := 0) (n := 0) (by omega) (by omega) ?_
                      exact W.iret (v := iI K.1) hx hb hr (fun t9 ht9 hW9 => ⟨⟨iI K.1, (g_68, mk2_4, va_up sf i K.1), rfl, ⟨(fun (k : Nat) (hk : (14 ≤ k ∧ k < 76) ∨ (876 ≤ k ∧ k < 2080) ∨ k = 2081 ∨ (2084 ≤ k ∧ k < 2117)) => (fr_70 k (by omega)).trans ((fr_66 k (by omega)).trans ((fr_9 k (by omega)).trans ((fr_5 k (by omega)).trans (rfl))))), f_81, hmc, f_69, by rw [hdr]; exact ⟨hC_82, Or.inr ⟨by show K.1 < 0; omega, hlo, rfl⟩⟩⟩, by show va_P (dC, dI) vwCl _ t9.heap; rw [ht9]; exact hP⟩, hS.F ht9⟩) hS.2.2 dX6_derivative_187
              · have c_18 := (nI_eq (a := ((gd DD.2.2 i).1)) (b := 4) (by omega) (by decide)).mp c_18
                refine lv_aload_n hx hb dX6_derivative_116 rfl (lv_at hl 1 rfl) ?_
                refine m_get (D := (dC, dI)) (v := .ref (ad 2083)) (C := RX6) (T := TX6) (N := 7) hx hb hts bk1 hown hK hP 2080 (by decide) hOD rfl 3 (by decide) (hts (.fieldLink RX6 21 "GradientDesk$Shelf" "slopes" "[I") (List.mem_of_getElem? (i := 5) rfl)) (fun _ h9 => h9) rfl dX6_derivative_117 ?_
                refine lv_iload_n hx hb dX6_derivative_120 rfl (lv_at hl 4 rfl) ?_
                refine lv_aload_n hx hb dX6_derivative_121 rfl (lv_at hl 1 rfl) ?_
                refine lv_aload hx hb dX6_derivative_122 (lv_at hl 0 rfl) ?_
                refine m_get (D := (dC, dI)) (v := .int (iI ((gd DD.2.2 i).2.1))) (C := RX3) (T := TX3) (N := 7) hx hb hts bk2 hown hK hP (2117 + 2 * i) (ns_p (by omega)) hpi rfl 2 (by decide) (hts (.fieldLink RX6 149 "GradientDesk$Part" "first" "I") (List.mem_of_getElem? (i := 12) rfl)) (fun _ h9 => h9) rfl dX6_derivative_124 ?_
                obtain ⟨oa, hoa, eoa, soa, doa⟩ := hop.1 (by omega)
                refine lv_topi (fun x_84 e_85 => ?_)
                obtain rfl : x_84 = nI oa := e_85.trans (by rw [eoa]; exact (nI_iI _).symm)
                refine lv_aload hx hb dX6_derivative_127 (lv_at hl 0 rfl) ?_
                refine m_get (D := (dC, dI)) (v := .int (iI ((gd DD.2.2 i).2.2.1))) (C := RX3) (T := TX3) (N := 7) hx hb hts bk2 hown hK hP (2117 + 2 * i) (ns_p (by omega)) hpi rfl 3 (by decide) (hts (.fieldLink RX6 152 "GradientDesk$Part" "second" "I") (List.mem_of_getElem? (i := 13) rfl)) (fun _ h9 => h9) rfl dX6_derivative_129 ?_
                obtain ⟨ne, hne1, hne2, ene⟩ := der_pw hwf hiM (by omega)
                refine lv_topi (fun x_86 e_87 => ?_)
                obtain rfl : x_86 = nI ne := e_87.trans (by rw [ene]; exact (nI_iI _).symm)
                refine va_calli (va_runV (As := [.int (nI oa), .int (nI ne)]) (rest := [.int (nI i), .ref (ad 2083)]) ⟨hx, hb, hml, hown, hts⟩ (c_V6_powSlope l dC dI A ad cA g_8 DD.2.2 oa ne (DD.2.1 oa) sf hCL hwf (by omega) (⟨hne1, hne2⟩) f_10 soa doa) (cwV 2 hts (goodIn_app (goodIn_r [Cond.methodLink RX6 168 yX6_makePowerSlope, Cond.instanceMethod yX6_makePowerSlope, Cond.selects RX6 yX6_makePowerSlope yX6_makePowerSlope, Cond.initialized RX6] [14, 15, 16, 4] rfl rfl) (goodIn_sub (fun w9 h9 => bk4 w9 h9) gw_V6_powSlope)) rfl rfl rfl (by decide +kernel) ⟨Nat.le_of_ble_eq_true rfl, Nat.le_of_ble_eq_true rfl⟩) ⟨fun a U g mk q => ⟨q.1, q.2.1, q.2.2.1, LY.moved (u := U) (U := U.calling g mk a) (Vm.Alike.refl U.vm) q.2.2.2⟩, va_recv hK hP (ci := 9) (q0 := 2080) rfl (wo_at (by decide) hOD), fun U hU hW => ⟨rfl, by rw [hU]; exact fun q h => hA q (Nat.le_trans hS.1 h), by rw [hU]; exact hP, LY.moved hW.alike hL⟩⟩ rfl rfl hl.1 rfl (lv_room (Nat.le_of_ble_eq_true rfl)) dX6_derivative_132 ⟨(Nat.le_of_ble_eq_true rfl), (Nat.le_of_ble_eq_true rfl)⟩) hS (fun q _ h => h) (fun q h => h) (fun r_88 u8 t8 H1 locs ht8 hvm8 hw_89 hB hz1 hk1 hS => ?_)
                obtain ⟨g_90, rfl⟩ : ∃ z, z = u8 := ⟨_, rfl⟩
                try dsimp only at hw_89 hB
                rw [ht8] at hB
                have hP := hB
                generalize H1 = H at hP hS ⊢
                obtain ⟨fr_91, hK⟩ := hw_89
                obtain ⟨K, heK⟩ : ∃ z : Int × List PD, z = derL DD.2.2 i vv DD.2.1 := ⟨_, rfl⟩
                rw [← der_pow (v := vv) (dv := DD.2.1) (by omega) eoa ene, ← heK] at hK
                rw [← heK] at hok
                obtain ⟨hrK, hcK, hlo, hhi⟩ := hK
                have hlK := hcK.1
                have hdK := hcK
                obtain ⟨hLnK, hWK, ⟨hArK, hWkK, hPaK, hFrK⟩, hOK, ptK, hPtK, hMK⟩ := hdK
                unfold CSO at hOK
                have hpbK := hPtK.2
                have f_92 : g_90 2083 = .inl (cA 2083, 200, .inl (fun j => iI (sf j))) := (fr_91 2083 (by omega)).trans f_10
                refine m_iast hx hb hK hP hD hS 2083 (by decide) rfl f_92 (i := i) (x := r_88) (by omega) (by decide) dX6_derivative_135 (fun H locs g_93 f_94 fr_95 hP hS => ?_)
                rw [hrK, k_updZ] at f_94
                have f_94 : g_93 2083 = .inl (cA 2083, 200, .inl (fun j => iI ((va_up sf i K.1) j))) := f_94
                refine lv_goto (tgt := 172) hx hb dX6_derivative_136 (by decide) ?_
                refine lv_aload_n hx hb dX6_derivative_172 rfl (lv_at hl 1 rfl) ?_
                have f_96 : g_93 2080 = .inr (9, [.ref (ad 2081), .ref (ad 2082), .int (nI K.2.length), .ref (ad 2083), .ref (ad 2077), .ref (ad 2107), .ref (ad (2 * 6))]) := (fr_95 2080 (by omega)).trans hOK
                refine m_get (D := (dC, dI)) (v := .ref (ad 2083)) (C := RX6) (T := TX6) (N := 7) hx hb hts bk1 hown hK hP 2080 (by decide) f_96 rfl 3 (by decide) (hts (.fieldLink RX6 21 "GradientDesk$Shelf" "slopes" "[I") (List.mem_of_getElem? (i := 5) rfl)) (fun _ h9 => h9) rfl dX6_derivative_173 ?_
                refine lv_iload_n hx hb dX6_derivative_176 rfl (lv_at hl 4 rfl) ?_
                refine m_iald hx hb hK hP 2083 (by decide) rfl f_94 (i := i) (by omega) (by decide) dX6_derivative_177 ?_
                refine lv_topi (fun x_97 e_98 => ?_)
                obtain rfl : x_97 = iI K.1 := e_98.trans (congrArg iI (va_up_self _ _ _))
                refine lv_if_ge (tgt := 188) hx hb dX6_derivative_178 (by decide) (fun c_99 => ?_) (fun c_99 => ?_)
                · have c_99 := (k_iLE (a := 0) (b := K.1) (show nI 0 = iI 0 from by decide) rfl (by omega) (by omega)).mp c_99
                  obtain ⟨kn, hkn⟩ : ∃ z : Nat, K.1 = (z : Int) := ⟨K.1.toNat, by omega⟩
                  refine lv_iinc (v := nI (i + 1)) (lv' := [(3, .int (nI (i + 1))), (4, .ref (ad (2117 + 2 * i))), (0, .ref (ad 2080)), (1, .int (nI root)), (2, .int (nI vv))]) hx hb dX6_derivative_188 hl (k := 4) rfl (nI_add i 1) (by decide) rfl (fun ls hl => ?_)
                  refine lv_goto (tgt := 8) hx hb dX6_derivative_191 (by decide) ?_
                  have hAW_103 : AW ad cA g_93 := AW.keep hWK (fun (k : Nat) (hk : k < 2076) => (fr_95 k (by omega)).trans (rfl))
                  have hC_102 : CS ad cA g_93 K.2 := CS.same hcK hAW_103 (fun (k : Nat) (hk : (76 ≤ k ∧ k < 876) ∨ k = 2077 ∨ k = 2107 ∨ k = 2080 ∨ k = 2081 ∨ (2117 ≤ k ∧ k < 2517)) => (fr_95 k (by omega)).trans (rfl))
                  exact ih_7 (i + 1) (0, va_up DD.2.1 i kn, K.2) (va_up sf i K.1) g_93 (fun (k : Nat) (hk : (14 ≤ k ∧ k < 76) ∨ (876 ≤ k ∧ k < 2080) ∨ (2081 ≤ k ∧ k < 2117 ∧ k ≠ 2083)) => (fr_95 k (by omega)).trans ((fr_91 k (by omega)).trans ((fr_9 k (by omega)).trans (rfl)))) (by omega) (by omega) (by rw [heK]; exact drS_ok hDD h0 hRi (by rw [← heK]; exact hkn)) rfl hok.1 (hle.tr hok.2.1) (cdv_next hsf hkn (by omega) hok.2.1.1) f_94 hC_102 _ _ _ hP hS (lv_sub (l' := [(0, .ref (ad 2080)), (1, .int (nI root)), (2, .int (nI vv)), (3, .int (nI (i + 1)))]) hl [2, 3, 4, 0] rfl)
                · have c_99 := mt (k_iLE (a := 0) (b := K.1) (show nI 0 = iI 0 from by decide) rfl (by omega) (by omega)).mpr c_99
                  refine lv_aload_n hx hb dX6_derivative_181 rfl (lv_at hl 1 rfl) ?_
                  refine m_get (D := (dC, dI)) (v := .ref (ad 2083)) (C := RX6) (T := TX6) (N := 7) hx hb hts bk1 hown hK hP 2080 (by decide) f_96 rfl 3 (by decide) (hts (.fieldLink RX6 21 "GradientDesk$Shelf" "slopes" "[I") (List.mem_of_getElem? (i := 5) rfl)) (fun _ h9 => h9) rfl dX6_derivative_182 ?_
                  refine lv_iload_n hx hb dX6_derivative_185 rfl (lv_at hl 4 rfl) ?_
                  refine m_iald hx hb hK hP 2083 (by decide) rfl f_94 (i := i) (by omega) (by decide) dX6_derivative_186 ?_
                  refine lv_topi (fun x_104 e_105 => ?_)
                  obtain rfl : x_104 = iI K.1 := e_105.trans (congrArg iI (va_up_self _ _ _))
                  have f_106 : g_93 2082 = .inl (cA 2082, 200, .inl (fun j => nI (mk2_4 j))) := (fr_95 2082 (by omega)).trans ((fr_91 2082 (by omega)).trans f_13)
                  have hAW_108 : AW ad cA g_93 := AW.keep hWK (fun (k : Nat) (hk : k < 2076) => (fr_95 k (by omega)).trans (rfl))
                  have hC_107 : CS ad cA g_93 K.2 := CS.same hcK hAW_108 (fun (k : Nat) (hk : (76 ≤ k ∧ k < 876) ∨ k = 2077 ∨ k = 2107 ∨ k = 2080 ∨ k = 2081 ∨ (2117 ≤ k ∧ k < 2517)) => (fr_95 k (by omega)).trans (rfl))
                  have hdr : drS L (rchN L root (root + 1)) vv (root + 1) = (K.1, DD.2.1, K.2) := drS_end (by rw [heK]; exact drS_bad hDD h0 hRi (by rw [← heK]; omega)) (by show K.1 < 0; omega) (by omega)
                  refine W.widen (k := 0) (n := 0) (by omega) (by omega) ?_
                  exact W.iret (v := iI K.1) hx hb hr (fun t9 ht9 hW9 => ⟨⟨iI K.1, (g_93, mk2_4, va_up sf i K.1), rfl, ⟨(fun (k : Nat) (hk : (14 ≤ k ∧ k < 76) ∨ (876 ≤ k ∧ k < 2080) ∨ k = 2081 ∨ (2084 ≤ k ∧ k < 2117)) => (fr_95 k (by omega)).trans ((fr_91 k (by omega)).trans ((fr_9 k (by omega)).trans ((fr_5 k (by omega)).trans (rfl))))), f_106, hmc, f_94, by rw [hdr]; exact ⟨hC_107, Or.inr ⟨by show K.1 < 0; omega, hlo, rfl⟩⟩⟩, by show va_P (dC, dI) vwCl _ t9.heap; rw [ht9]; exact hP⟩, hS.F ht9⟩) hS.2.2 dX6_derivative_187
            · have c_17 := (nI_eq (a := ((gd DD.2.2 i).1)) (b := 3) (by omega) (by decide)).mp c_17
              refine lv_aload_n hx hb dX6_derivative_84 rfl (lv_at hl 1 rfl) ?_
              refine m_get (D := (dC, dI)) (v := .ref (ad 2083)) (C := RX6) (T := TX6) (N := 7) hx hb hts bk1 hown hK hP 2080 (by decide) hOD rfl 3 (by decide) (hts (.fieldLink RX6 21 "GradientDesk$Shelf" "slopes" "[I") (List.mem_of_getElem? (i := 5) rfl)) (fun _ h9 => h9) rfl dX6_derivative_85 ?_
              refine lv_iload_n hx hb dX6_derivative_88 rfl (lv_at hl 4 rfl) ?_
              refine lv_aload_n hx hb dX6_derivative_89 rfl (lv_at hl 1 rfl) ?_
              refine lv_aload hx hb dX6_derivative_90 (lv_at hl 0 rfl) ?_
              refine m_get (D := (dC, dI)) (v := .int (iI ((gd DD.2.2 i).2.1))) (C := RX3) (T := TX3) (N := 7) hx hb hts bk2 hown hK hP (2117 + 2 * i) (ns_p (by omega)) hpi rfl 2 (by decide) (hts (.fieldLink RX6 149 "GradientDesk$Part" "first" "I") (List.mem_of_getElem? (i := 12) rfl)) (fun _ h9 => h9) rfl dX6_derivative_92 ?_
              obtain ⟨oa, hoa, eoa, soa, doa⟩ := hop.1 (by omega)
              refine lv_topi (fun x_109 e_110 => ?_)
              obtain rfl : x_109 = nI oa := e_110.trans (by rw [eoa]; exact (nI_iI _).symm)
              refine lv_aload hx hb dX6_derivative_95 (lv_at hl 0 rfl) ?_
              refine m_get (D := (dC, dI)) (v := .int (iI ((gd DD.2.2 i).2.2.1))) (C := RX3) (T := TX3) (N := 7) hx hb hts bk2 hown hK hP (2117 + 2 * i) (ns_p (by omega)) hpi rfl 3 (by decide) (hts (.fieldLink RX6 152 "GradientDesk$Part" "second" "I") (List.mem_of_getElem? (i := 13) rfl)) (fun _ h9 => h9) rfl dX6_derivative_97 ?_
              obtain ⟨ob, hob, eob, sob, dob⟩ := hop.2 (by omega)
              refine lv_topi (fun x_111 e_112 => ?_)
              obtain rfl : x_111 = nI ob := e_112.trans (by rw [eob]; exact (nI_iI _).symm)
              refine va_calli (va_runV (As := [.int (nI oa), .int (nI ob)]) (rest := [.int (nI i), .ref (ad 2083)]) ⟨hx, hb, hml, hown, hts⟩ (c_V6_prdSlope l dC dI A ad cA g_8 DD.2.2 oa ob (DD.2.1 oa) (DD.2.1 ob) sf hCL hwf (by omega) (by omega) f_10 soa sob doa dob) (cwV 2 hts (goodIn_app (goodIn_r [Cond.methodLink RX6 165 yX6_makeProductSlope, Cond.instanceMethod yX6_makeProductSlope, Cond.selects RX6 yX6_makeProductSlope yX6_makeProductSlope, Cond.initialized RX6] [17, 18, 19, 4] rfl rfl) (goodIn_sub (fun w9 h9 => bk5 w9 h9) gw_V6_prdSlope)) rfl rfl rfl (by decide +kernel) ⟨Nat.le_of_ble_eq_true rfl, Nat.le_of_ble_eq_true rfl⟩) ⟨fun a U g mk q => ⟨q.1, q.2.1, q.2.2.1, LY.moved (u := U) (U := U.calling g mk a) (Vm.Alike.refl U.vm) q.2.2.2⟩, va_recv hK hP (ci := 9) (q0 := 2080) rfl (wo_at (by decide) hOD), fun U hU hW => ⟨rfl, by rw [hU]; exact fun q h => hA q (Nat.le_trans hS.1 h), by rw [hU]; exact hP, LY.moved hW.alike hL⟩⟩ rfl rfl hl.1 rfl (lv_room (Nat.le_of_ble_eq_true rfl)) dX6_derivative_100 ⟨(Nat.le_of_ble_eq_true rfl), (Nat.le_of_ble_eq_true rfl)⟩) hS (fun q _ h => h) (fun q h => h) (fun r_113 u8 t8 H1 locs ht8 hvm8 hw_114 hB hz1 hk1 hS => ?_)
              obtain ⟨g_115, rfl⟩ : ∃ z, z = u8 := ⟨_, rfl⟩
              try dsimp only at hw_114 hB
              rw [ht8] at hB
              have hP := hB
              generalize H1 = H at hP hS ⊢
              obtain ⟨fr_116, hK⟩ := hw_114
              obtain ⟨K, heK⟩ : ∃ z : Int × List PD, z = derL DD.2.2 i vv DD.2.1 := ⟨_, rfl⟩
              rw [← der_prd (v := vv) (dv := DD.2.1) (by omega) eoa eob, ← heK] at hK
              rw [← heK] at hok
              obtain ⟨hrK, hcK, hlo, hhi⟩ := hK
              have hlK := hcK.1
              have hdK := hcK
              obtain ⟨hLnK, hWK, ⟨hArK, hWkK, hPaK, hFrK⟩, hOK, ptK, hPtK, hMK⟩ := hdK
              unfold CSO at hOK
              have hpbK := hPtK.2
              have f_117 : g_115 2083 = .inl (cA 2083, 200, .inl (fun j => iI (sf j))) := (fr_116 2083 (by omega)).trans f_10
              refine m_iast hx hb hK hP hD hS 2083 (by decide) rfl f_117 (i := i) (x := r_113) (by omega) (by decide) dX6_derivative_103 (fun H locs g_118 f_119 fr_120 hP hS => ?_)
              rw [hrK, k_updZ] at f_119
              have f_119 : g_118 2083 = .inl (cA 2083, 200, .inl (fun j => iI ((va_up sf i K.1) j))) := f_119
              refine lv_goto (tgt := 172) hx hb dX6_derivative_104 (by decide) ?_
              refine lv_aload_n hx hb dX6_derivative_172 rfl (lv_at hl 1 rfl) ?_
              have f_121 : g_118 2080 = .inr (9, [.ref (ad 2081), .ref (ad 2082), .int (nI K.2.length), .ref (ad 2083), .ref (ad 2077), .ref (ad 2107), .ref (ad (2 * 6))]) := (fr_120 2080 (by omega)).trans hOK
              refine m_get (D := (dC, dI)) (v := .ref (ad 2083)) (C := RX6) (T := TX6) (N := 7) hx hb hts bk1 hown hK hP 2080 (by decide) f_121 rfl 3 (by decide) (hts (.fieldLink RX6 21 "GradientDesk$Shelf" "slopes" "[I") (List.mem_of_getElem? (i := 5) rfl)) (fun _ h9 => h9) rfl dX6_derivative_173 ?_
              refine lv_iload_n hx hb dX6_derivative_176 rfl (lv_at hl 4 rfl) ?_
              refine m_iald hx hb hK hP 2083 (by decide) rfl f_119 (i := i) (by omega) (by decide) dX6_derivative_177 ?_
              refine lv_topi (fun x_122 e_123 => ?_)
              obtain rfl : x_122 = iI K.1 := e_123.trans (congrArg iI (va_up_self _ _ _))
              refine lv_if_ge (tgt := 188) hx hb dX6_derivative_178 (by decide) (fun c_124 => ?_) (fun c_124 => ?_)
              · have c_124 := (k_iLE (a := 0) (b := K.1) (show nI 0 = iI 0 from by decide) rfl (by omega) (by omega)).mp c_124
                obtain ⟨kn, hkn⟩ : ∃ z : Nat, K.1 = (z : Int) := ⟨K.1.toNat, by omega⟩
                refine lv_iinc (v := nI (i + 1)) (lv' := [(3, .int (nI (i + 1))), (4, .ref (ad (2117 + 2 * i))), (0, .ref (ad 2080)), (1, .int (nI root)), (2, .int (nI vv))]) hx hb dX6_derivative_188 hl (k := 4) rfl (nI_add i 1) (by decide) rfl (fun ls hl => ?_)
                refine lv_goto (tgt := 8) hx hb dX6_derivative_191 (by decide) ?_
                have hAW_128 : AW ad cA g_118 := AW.keep hWK (fun (k : Nat) (hk : k < 2076) => (fr_120 k (by omega)).trans (rfl))
                have hC_127 : CS ad cA g_118 K.2 := CS.same hcK hAW_128 (fun (k : Nat) (hk : (76 ≤ k ∧ k < 876) ∨ k = 2077 ∨ k = 2107 ∨ k = 2080 ∨ k = 2081 ∨ (2117 ≤ k ∧ k < 2517)) => (fr_120 k (by omega)).trans (rfl))
                exact ih_7 (i + 1) (0, va_up DD.2.1 i kn, K.2) (va_up sf i K.1) g_118 (fun (k : Nat) (hk : (14 ≤ k ∧ k < 76) ∨ (876 ≤ k ∧ k < 2080) ∨ (2081 ≤ k ∧ k < 2117 ∧ k ≠ 2083)) => (fr_120 k (by omega)).trans ((fr_116 k (by omega)).trans ((fr_9 k (by omega)).trans (rfl)))) (by omega) (by omega) (by rw [heK]; exact drS_ok hDD h0 hRi (by rw [← heK]; exact hkn)) rfl hok.1 (hle.tr hok.2.1) (cdv_next hsf hkn (by omega) hok.2.1.1) f_119 hC_127 _ _ _ hP hS (lv_sub (l' := [(0, .ref (ad 2080)), (1, .int (nI root)), (2, .int (nI vv)), (3, .int (nI (i + 1)))]) hl [2, 3, 4, 0] rfl)
              · have c_124 := mt (k_iLE (a := 0) (b := K.1) (show nI 0 = iI 0 from by decide) rfl (by omega) (by omega)).mpr c_124
                refine lv_aload_n hx hb dX6_derivative_181 rfl (lv_at hl 1 rfl) ?_
                refine m_get (D := (dC, dI)) (v := .ref (ad 2083)) (C := RX6) (T := TX6) (N := 7) hx hb hts bk1 hown hK hP 2080 (by decide) f_121 rfl 3 (by decide) (hts (.fieldLink RX6 21 "GradientDesk$Shelf" "slopes" "[I") (List.mem_of_getElem? (i := 5) rfl)) (fun _ h9 => h9) rfl dX6_derivative_182 ?_
                refine lv_iload_n hx hb dX6_derivative_185 rfl (lv_at hl 4 rfl) ?_
                refine m_iald hx hb hK hP 2083 (by decide) rfl f_119 (i := i) (by omega) (by decide) dX6_derivative_186 ?_
                refine lv_topi (fun x_129 e_130 => ?_)
                obtain rfl : x_129 = iI K.1 := e_130.trans (congrArg iI (va_up_self _ _ _))
                have f_131 : g_118 2082 = .inl (cA 2082, 200, .inl (fun j => nI (mk2_4 j))) := (fr_120 2082 (by omega)).trans ((fr_116 2082 (by omega)).trans f_13)
                have hAW_133 : AW ad cA g_118 := AW.keep hWK (fun (k : Nat) (hk : k < 2076) => (fr_120 k (by omega)).trans (rfl))
                have hC_132 : CS ad cA g_118 K.2 := CS.same hcK hAW_133 (fun (k : Nat) (hk : (76 ≤ k ∧ k < 876) ∨ k = 2077 ∨ k = 2107 ∨ k = 2080 ∨ k = 2081 ∨ (2117 ≤ k ∧ k < 2517)) => (fr_120 k (by omega)).trans (rfl))
                have hdr : drS L (rchN L root (root + 1)) vv (root + 1) = (K.1, DD.2.1, K.2) := drS_end (by rw [heK]; exact drS_bad hDD h0 hRi (by rw [← heK]; omega)) (by show K.1 < 0; omega) (by omega)
                refine W.widen (k := 0) (n := 0) (by omega) (by omega) ?_
                exact W.iret (v := iI K.1) hx hb hr (fun t9 ht9 hW9 => ⟨⟨iI K.1, (g_118, mk2_4, va_up sf i K.1), rfl, ⟨(fun (k : Nat) (hk : (14 ≤ k ∧ k < 76) ∨ (876 ≤ k ∧ k < 2080) ∨ k = 2081 ∨ (2084 ≤ k ∧ k < 2117)) => (fr_120 k (by omega)).trans ((fr_116 k (by omega)).trans ((fr_9 k (by omega)).trans ((fr_5 k (by omega)).trans (rfl))))), f_131, hmc, f_119, by rw [hdr]; exact ⟨hC_132, Or.inr ⟨by show K.1 < 0; omega, hlo, rfl⟩⟩⟩, by show va_P (dC, dI) vwCl _ t9.heap; rw [ht9]; exact hP⟩, hS.F ht9⟩) hS.2.2 dX6_derivative_187
          · have c_16 := (nI_eq (a := ((gd DD.2.2 i).1)) (b := 2) (by omega) (by decide)).mp c_16
            refine lv_aload_n hx hb dX6_derivative_42 rfl (lv_at hl 1 rfl) ?_
            refine m_get (D := (dC, dI)) (v := .ref (ad 2083)) (C := RX6) (T := TX6) (N := 7) hx hb hts bk1 hown hK hP 2080 (by decide) hOD rfl 3 (by decide) (hts (.fieldLink RX6 21 "GradientDesk$Shelf" "slopes" "[I") (List.mem_of_getElem? (i := 5) rfl)) (fun _ h9 => h9) rfl dX6_derivative_43 ?_
            refine lv_iload_n hx hb dX6_derivative_46 rfl (lv_at hl 4 rfl) ?_
            refine lv_aload_n hx hb dX6_derivative_47 rfl (lv_at hl 1 rfl) ?_
            refine lv_aload_n hx hb dX6_derivative_48 rfl (lv_at hl 1 rfl) ?_
            refine m_get (D := (dC, dI)) (v := .ref (ad 2083)) (C := RX6) (T := TX6) (N := 7) hx hb hts bk1 hown hK hP 2080 (by decide) hOD rfl 3 (by decide) (hts (.fieldLink RX6 21 "GradientDesk$Shelf" "slopes" "[I") (List.mem_of_getElem? (i := 5) rfl)) (fun _ h9 => h9) rfl dX6_derivative_49 ?_
            refine lv_aload hx hb dX6_derivative_52 (lv_at hl 0 rfl) ?_
            refine m_get (D := (dC, dI)) (v := .int (iI ((gd DD.2.2 i).2.1))) (C := RX3) (T := TX3) (N := 7) hx hb hts bk2 hown hK hP (2117 + 2 * i) (ns_p (by omega)) hpi rfl 2 (by decide) (hts (.fieldLink RX6 149 "GradientDesk$Part" "first" "I") (List.mem_of_getElem? (i := 12) rfl)) (fun _ h9 => h9) rfl dX6_derivative_54 ?_
            obtain ⟨oa, hoa, eoa, soa, doa⟩ := hop.1 (by omega)
            refine lv_topi (fun x_134 e_135 => ?_)
            obtain rfl : x_134 = nI oa := e_135.trans (by rw [eoa]; exact (nI_iI _).symm)
            refine m_iald hx hb hK hP 2083 (by decide) rfl f_10 (i := oa) (by omega) (by decide) dX6_derivative_57 ?_
            refine lv_topi (fun x_136 e_137 => ?_)
            obtain rfl : x_136 = nI (DD.2.1 oa) := e_137.trans (by rw [soa]; exact (nI_iI _).symm)
            refine lv_aload_n hx hb dX6_derivative_58 rfl (lv_at hl 1 rfl) ?_
            refine m_get (D := (dC, dI)) (v := .ref (ad 2083)) (C := RX6) (T := TX6) (N := 7) hx hb hts bk1 hown hK hP 2080 (by decide) hOD rfl 3 (by decide) (hts (.fieldLink RX6 21 "GradientDesk$Shelf" "slopes" "[I") (List.mem_of_getElem? (i := 5) rfl)) (fun _ h9 => h9) rfl dX6_derivative_59 ?_
            refine lv_aload hx hb dX6_derivative_62 (lv_at hl 0 rfl) ?_
            refine m_get (D := (dC, dI)) (v := .int (iI ((gd DD.2.2 i).2.2.1))) (C := RX3) (T := TX3) (N := 7) hx hb hts bk2 hown hK hP (2117 + 2 * i) (ns_p (by omega)) hpi rfl 3 (by decide) (hts (.fieldLink RX6 152 "GradientDesk$Part" "second" "I") (List.mem_of_getElem? (i := 13) rfl)) (fun _ h9 => h9) rfl dX6_derivative_64 ?_
            obtain ⟨ob, hob, eob, sob, dob⟩ := hop.2 (by omega)
            refine lv_topi (fun x_138 e_139 => ?_)
            obtain rfl : x_138 = nI ob := e_139.trans (by rw [eob]; exact (nI_iI _).symm)
            refine m_iald hx hb hK hP 2083 (by decide) rfl f_10 (i := ob) (by omega) (by decide) dX6_derivative_67 ?_
            refine lv_topi (fun x_140 e_141 => ?_)
            obtain rfl : x_140 = nI (DD.2.1 ob) := e_141.trans (by rw [sob]; exact (nI_iI _).symm)
            refine va_calli (va_runV (As := [.int (nI (DD.2.1 oa)), .int (nI (DD.2.1 ob))]) (rest := [.int (nI i), .ref (ad 2083)]) ⟨hx, hb, hml, hown, hts⟩ (c_V6_makeSum l dC dI A ad cA g_8 DD.2.2 (DD.2.1 oa) (DD.2.1 ob) hCL hwf doa dob) (cwV 2 hts (goodIn_app (goodIn_r [Cond.methodLink RX6 162 yX6_makeSum, Cond.instanceMethod yX6_makeSum, Cond.selects RX6 yX6_makeSum yX6_makeSum, Cond.initialized RX6] [20, 21, 22, 4] rfl rfl) (goodIn_sub (fun w9 h9 => bk6 w9 h9) gw_V6_makeSum)) rfl rfl rfl (by decide +kernel) ⟨Nat.le_of_ble_eq_true rfl, Nat.le_of_ble_eq_true rfl⟩) ⟨fun a U g mk q => ⟨q.1, q.2.1, q.2.2.1, LY.moved (u := U) (U := U.calling g mk a) (Vm.Alike.refl U.vm) q.2.2.2⟩, va_recv hK hP (ci := 9) (q0 := 2080) rfl (wo_at (by decide) hOD), fun U hU hW => ⟨rfl, by rw [hU]; exact fun q h => hA q (Nat.le_trans hS.1 h), by rw [hU]; exact hP, LY.moved hW.alike hL⟩⟩ rfl rfl hl.1 rfl (lv_room (Nat.le_of_ble_eq_true rfl)) dX6_derivative_68 ⟨(Nat.le_of_ble_eq_true rfl), (Nat.le_of_ble_eq_true rfl)⟩) hS (fun q _ h => h) (fun q h => h) (fun r_142 u8 t8 H1 locs ht8 hvm8 hw_143 hB hz1 hk1 hS => ?_)
            obtain ⟨g_144, rfl⟩ : ∃ z, z = u8 := ⟨_, rfl⟩
            try dsimp only at hw_143 hB
            rw [ht8] at hB
            have hP := hB
            generalize H1 = H at hP hS ⊢
            obtain ⟨fr_145, hK⟩ := hw_143
            obtain ⟨K, heK⟩ : ∃ z : Int × List PD, z = derL DD.2.2 i vv DD.2.1 := ⟨_, rfl⟩
            rw [← der_sum (v := vv) (dv := DD.2.1) (by omega) eoa eob, ← heK] at hK
            rw [← heK] at hok
            obtain ⟨hrK, hcK, hlo, hhi⟩ := hK
            have hlK := hcK.1
            have hdK := hcK
            obtain ⟨hLnK, hWK, ⟨hArK, hWkK, hPaK, hFrK⟩, hOK, ptK, hPtK, hMK⟩ := hdK
            unfold CSO at hOK
            have hpbK := hPtK.2
            have f_146 : g_144 2083 = .inl (cA 2083, 200, .inl (fun j => iI (sf j))) := (fr_145 2083 (by omega)).trans f_10
            refine m_iast hx hb hK hP hD hS 2083 (by decide) rfl f_146 (i := i) (x := r_142) (by omega) (by decide) dX6_derivative_71 (fun H locs g_147 f_148 fr_149 hP hS => ?_)
            rw [hrK, k_updZ] at f_148
            have f_148 : g_147 2083 = .inl (cA 2083, 200, .inl (fun j => iI ((va_up sf i K.1) j))) := f_148
            refine lv_goto (tgt := 172) hx hb dX6_derivative_72 (by decide) ?_
            refine lv_aload_n hx hb dX6_derivative_172 rfl (lv_at hl 1 rfl) ?_
            have f_150 : g_147 2080 = .inr (9, [.ref (ad 2081), .ref (ad 2082), .int (nI K.2.length), .ref (ad 2083), .ref (ad 2077), .ref (ad 2107), .ref (ad (2 * 6))]) := (fr_149 2080 (by omega)).trans hOK
            refine m_get (D := (dC, dI)) (v := .ref (ad 2083)) (C := RX6) (T := TX6) (N := 7) hx hb hts bk1 hown hK hP 2080 (by decide) f_150 rfl 3 (by decide) (hts (.fieldLink RX6 21 "GradientDesk$Shelf" "slopes" "[I") (List.mem_of_getElem? (i := 5) rfl)) (fun _ h9 => h9) rfl dX6_derivative_173 ?_
            refine lv_iload_n hx hb dX6_derivative_176 rfl (lv_at hl 4 rfl) ?_
            refine m_iald hx hb hK hP 2083 (by decide) rfl f_148 (i := i) (by omega) (by decide) dX6_derivative_177 ?_
            refine lv_topi (fun x_151 e_152 => ?_)
            obtain rfl : x_151 = iI K.1 := e_152.trans (congrArg iI (va_up_self _ _ _))
            refine lv_if_ge (tgt := 188) hx hb dX6_derivative_178 (by decide) (fun c_153 => ?_) (fun c_153 => ?_)
            · have c_153 := (k_iLE (a := 0) (b := K.1) (show nI 0 = iI 0 from by decide) rfl (by omega) (by omega)).mp c_153
              obtain ⟨kn, hkn⟩ : ∃ z : Nat, K.1 = (z : Int) := ⟨K.1.toNat, by omega⟩
              refine lv_iinc (v := nI (i + 1)) (lv' := [(3, .int (nI (i + 1))), (4, .ref (ad (2117 + 2 * i))), (0, .ref (ad 2080)), (1, .int (nI root)), (2, .int (nI vv))]) hx hb dX6_derivative_188 hl (k := 4) rfl (nI_add i 1) (by decide) rfl (fun ls hl => ?_)
              refine lv_goto (tgt := 8) hx hb dX6_derivative_191 (by decide) ?_
              have hAW_157 : AW ad cA g_147 := AW.keep hWK (fun (k : Nat) (hk : k < 2076) => (fr_149 k (by omega)).trans (rfl))
              have hC_156 : CS ad cA g_147 K.2 := CS.same hcK hAW_157 (fun (k : Nat) (hk : (76 ≤ k ∧ k < 876) ∨ k = 2077 ∨ k = 2107 ∨ k = 2080 ∨ k = 2081 ∨ (2117 ≤ k ∧ k < 2517)) => (fr_149 k (by omega)).trans (rfl))
              exact ih_7 (i + 1) (0, va_up DD.2.1 i kn, K.2) (va_up sf i K.1) g_147 (fun (k : Nat) (hk : (14 ≤ k ∧ k < 76) ∨ (876 ≤ k ∧ k < 2080) ∨ (2081 ≤ k ∧ k < 2117 ∧ k ≠ 2083)) => (fr_149 k (by omega)).trans ((fr_145 k (by omega)).trans ((fr_9 k (by omega)).trans (rfl)))) (by omega) (by omega) (by rw [heK]; exact drS_ok hDD h0 hRi (by rw [← heK]; exact hkn)) rfl hok.1 (hle.tr hok.2.1) (cdv_next hsf hkn (by omega) hok.2.1.1) f_148 hC_156 _ _ _ hP hS (lv_sub (l' := [(0, .ref (ad 2080)), (1, .int (nI root)), (2, .int (nI vv)), (3, .int (nI (i + 1)))]) hl [2, 3, 4, 0] rfl)
            · have c_153 := mt (k_iLE (a := 0) (b := K.1) (show nI 0 = iI 0 from by decide) rfl (by omega) (by omega)).mpr c_153
              refine lv_aload_n hx hb dX6_derivative_181 rfl (lv_at hl 1 rfl) ?_
              refine m_get (D := (dC, dI)) (v := .ref (ad 2083)) (C := RX6) (T := TX6) (N := 7) hx hb hts bk1 hown hK hP 2080 (by decide) f_150 rfl 3 (by decide) (hts (.fieldLink RX6 21 "GradientDesk$Shelf" "slopes" "[I") (List.mem_of_getElem? (i := 5) rfl)) (fun _ h9 => h9) rfl dX6_derivative_182 ?_
              refine lv_iload_n hx hb dX6_derivative_185 rfl (lv_at hl 4 rfl) ?_
              refine m_iald hx hb hK hP 2083 (by decide) rfl f_148 (i := i) (by omega) (by decide) dX6_derivative_186 ?_
              refine lv_topi (fun x_158 e_159 => ?_)
              obtain rfl : x_158 = iI K.1 := e_159.trans (congrArg iI (va_up_self _ _ _))
              have f_160 : g_147 2082 = .inl (cA 2082, 200, .inl (fun j => nI (mk2_4 j))) := (fr_149 2082 (by omega)).trans ((fr_145 2082 (by omega)).trans f_13)
              have hAW_162 : AW ad cA g_147 := AW.keep hWK (fun (k : Nat) (hk : k < 2076) => (fr_149 k (by omega)).trans (rfl))
              have hC_161 : CS ad cA g_147 K.2 := CS.same hcK hAW_162 (fun (k : Nat) (hk : (76 ≤ k ∧ k < 876) ∨ k = 2077 ∨ k = 2107 ∨ k = 2080 ∨ k = 2081 ∨ (2117 ≤ k ∧ k < 2517)) => (fr_149 k (by omega)).trans (rfl))
              have hdr : drS L (rchN L root (root + 1)) vv (root + 1) = (K.1, DD.2.1, K.2) := drS_end (by rw [heK]; exact drS_bad hDD h0 hRi (by rw [← heK]; omega)) (by show K.1 < 0; omega) (by omega)
              refine W.widen (k := 0) (n := 0) (by omega) (by omega) ?_
              exact W.iret (v := iI K.1) hx hb hr (fun t9 ht9 hW9 => ⟨⟨iI K.1, (g_147, mk2_4, va_up sf i K.1), rfl, ⟨(fun (k : Nat) (hk : (14 ≤ k ∧ k < 76) ∨ (876 ≤ k ∧ k < 2080) ∨ k = 2081 ∨ (2084 ≤ k ∧ k < 2117)) => (fr_149 k (by omega)).trans ((fr_145 k (by omega)).trans ((fr_9 k (by omega)).trans ((fr_5 k (by omega)).trans (rfl))))), f_160, hmc, f_148, by rw [hdr]; exact ⟨hC_161, Or.inr ⟨by show K.1 < 0; omega, hlo, rfl⟩⟩⟩, by show va_P (dC, dI) vwCl _ t9.heap; rw [ht9]; exact hP⟩, hS.F ht9⟩) hS.2.2 dX6_derivative_187
        · have c_15 := (nI_eq (a := (mk2_4 i)) (b := 0) (by omega) (by decide)).mp c_15
          refine lv_goto (tgt := 188) hx hb dX6_derivative_22 (by decide) ?_
          refine lv_iinc (v := nI (i + 1)) (lv' := [(3, .int (nI (i + 1))), (0, .ref (ad 2080)), (1, .int (nI root)), (2, .int (nI vv))]) hx hb dX6_derivative_188 hl (k := 3) rfl (nI_add i 1) (by decide) rfl (fun ls hl => ?_)
          refine lv_goto (tgt := 8) hx hb dX6_derivative_191 (by decide) ?_
          exact ih_7 (i + 1) DD sf g_8 (fun (k : Nat) (hk : (14 ≤ k ∧ k < 76) ∨ (876 ≤ k ∧ k < 2080) ∨ (2081 ≤ k ∧ k < 2117 ∧ k ≠ 2083)) => (fr_9 k (by omega)).trans (rfl)) (by omega) (by omega) (drS_no hDD h0 (by rw [← hRm]; omega)) h0 hwf hle (fun j hj hr9 => hsf j (by by_cases h9 : j = i; exfalso; rw [h9, ← hRm] at hr9; omega; omega) hr9) f_10 hCL _ _ _ hP hS (lv_sub (l' := [(0, .ref (ad 2080)), (1, .int (nI root)), (2, .int (nI vv)), (3, .int (nI (i + 1)))]) hl [1, 2, 3, 0] rfl)
  have f_165 : g_3 2083 = .inl (cA 2083, 200, .inl (fun j => iI (sf0 j))) := (fr_5 2083 (by omega)).trans h83
  have hAW_167 : AW ad cA g_3 := AW.keep hW (fun (k : Nat) (hk : k < 2076) => (fr_5 k (by omega)).trans (rfl))
  have hC_166 : CS ad cA g_3 L := CS.same hC hAW_167 (fun (k : Nat) (hk : (76 ≤ k ∧ k < 876) ∨ k = 2077 ∨ k = 2107 ∨ k = 2080 ∨ k = 2081 ∨ (2117 ≤ k ∧ k < 2517)) => (fr_5 k (by omega)).trans (rfl))
  exact loop_6 _ 0 (0, fun _ => 0, L) sf0 g_3 (fun (k : Nat) (hk : (14 ≤ k ∧ k < 76) ∨ (876 ≤ k ∧ k < 2080) ∨ (2081 ≤ k ∧ k < 2117 ∧ k ≠ 2083)) => rfl) (Nat.lt_succ_self _) (by omega) rfl rfl hWf LE.rf (fun j h _ => absurd h (by omega)) f_165 hC_166 _ _ _ hP hS (lv_sub (l' := [(0, .ref (ad 2080)), (1, .int (nI root)), (2, .int (nI vv)), (3, .int (nI 0))]) hl [1, 2, 3, 0] rfl)
end
section
/-! the class's text machine: (1 where it takes the sign, state, open, digits) -/
def tkN (s : Nat) (w : Int) (d c : Nat) : Nat × Nat × Int × Nat :=
  if c = 94 then (if s = 6 then 0 else 1, 5, w, d) else if c = 41 then (if w - 1 < 0 then 0 else 1, 4, w - 1, d) else (if c = 43 ∨ c = 45 ∨ c = 42 then 1 else 0, 0, w, d)
def tkD (s : Nat) (w : Int) (d : Nat) : Nat × Nat × Int × Nat := (if d + 1 ≤ 4 then 1 else 0, s, w, d + 1)
def tkF (w : Int) (d c : Nat) : Nat × Nat × Int × Nat :=
  if 48 ≤ c ∧ c ≤ 57 then (1, 1, w, 1) else if (97 ≤ c ∧ c ≤ 99) ∨ (65 ≤ c ∧ c ≤ 72) then (1, 4, w, d) else if c = 40 then (1, 0, w + 1, d) else (if c = 45 then 1 else 0, 0, w, d)
def tkT (w : Int) (d c : Nat) : Nat × Nat × Int × Nat :=
  if c = 47 then (1, 2, w, 0) else if 48 ≤ c ∧ c ≤ 57 then tkD 1 w d else tkN 1 w d c
def tkZ (w : Int) (d c : Nat) : Nat × Nat × Int × Nat :=
  if c = 48 then (if d + 1 < 4 then 1 else 0, 2, w, d + 1) else if 48 ≤ c ∧ c ≤ 57 then tkD 3 w d else (0, 3, w, d)
def tk (s : Nat) (w : Int) (d c : Nat) : Nat × Nat × Int × Nat :=
  if s = 0 then tkF w d c else if s = 1 then tkT w d c else if s = 2 then tkZ w d c else if s = 3 then (if 48 ≤ c ∧ c ≤ 57 then tkD 3 w d else tkN 3 w d c)
  else if s = 5 then (if 48 ≤ c ∧ c ≤ 57 then 1 else 0, 6, w, d) else tkN s w d c
end
section
def wd_W7_isDigit : List Cond := .code yX7_isDigit cX7_isDigit 1 (some .boolean) :: (([] : List Cond) ++ ([]))
theorem gw_W7_isDigit : wd_W7_isDigit.all goodWord = true := k_allc rfl (k_all (by decide +kernel) (rfl))
set_option maxHeartbeats 4000000 in
set_option maxRecDepth 100000 in
theorem c_W7_isDigit (l : Launch) (dC : Nat → ClassId) (dI : Nat → Nat → Nat) (A : Nat → Prop) (ad : Nat → Nat) (cA : Nat → ClassId) (g : Nat → va_E) (ch : Nat) (hch : ch < 127) : Met l yX7_isDigit wd_W7_isDigit ({ frames := 10, cells := 0, slots := 0, locals := 200 }) (va_Pc [.int (nI ch)] (PR NSc tyc dC dI A ad cA g)) (va_Qi (fun (r : Int32) => fun (u : Unit) => match u with | () => (r = nI 1 ∧ 48 ≤ ch ∧ ch ≤ 57) ∨ (r = nI 0 ∧ ¬ (48 ≤ ch ∧ ch ≤ 57))) (fun (u : Unit) (t : State) => va_P (dC, dI) vwCl (wo ad NSc g) t.heap) A) (0) (0) A := by
  refine Met.ofW (cc := cX7_isDigit) (maxL := 1) (ret := (some .boolean)) (by decide) rfl ?_
  intro p e s m args below meth c s₁ B hml hv
  obtain ⟨rfl, hA, hP, hL⟩ := hv
  have hx := B.exec
  have hb := B.bytes
  have hr := B.returns
  have hts := atoms_spec (ws := wd_W7_isDigit) B.pre
  have hown : s.vm.findClass RX7 = some m.cls := findClass_of_methodNamed B.named
  have hlocks := B.notSynchronized
  have hK := hL.1
  have hD : ∀ g, va_D A (wo ad NSc g) := fun g => wo_D hL.2.1 hL.2.2 g
  have hS : va_S A s.heap s.heap [] := va_S.rf
  have hl := lv_entry ([.int (nI ch)]) (n := 1) (Nat.le_of_ble_eq_true rfl)
  rw [lg_entry_eq]
  generalize (lg_sl ([.int (nI ch)]) ++ List.replicate (1 - (lg_sl ([.int (nI ch)])).length) Slot.unset).toArray = ls at hl ⊢
  have hl : lv_has ls 1 [(0, .int (nI ch))] := hl
  refine lv_iload_n hx hb dX7_isDigit_0 rfl (lv_at hl 0 rfl) ?_
  refine lv_bipush (v := nI 48) hx hb dX7_isDigit_1 (by decide +kernel) ?_
  refine lv_icmp_lt (tgt := 16) hx hb dX7_isDigit_3 (by decide) (fun c_1 => ?_) (fun c_1 => ?_)
  · have c_1 := (nI_ltI (a := ch) (b := 48) (by omega) (by decide)).mp c_1
    refine lv_iconst (v := nI 0) hx hb dX7_isDigit_16 (by decide +kernel) ?_
    refine W.widen (k := 0) (n := 0) (by omega) (by omega) ?_
    exact W.zret (v := nI 0) hx hb hr (by decide +kernel) (fun t9 ht9 hW9 => ⟨⟨nI 0, (), rfl, Or.inr ⟨rfl, by omega⟩, by show va_P (dC, dI) vwCl _ t9.heap; rw [ht9]; exact hP⟩, hS.F ht9⟩) hS.2.2 dX7_isDigit_17
  · have c_1 := mt (nI_ltI (a := ch) (b := 48) (by omega) (by decide)).mpr c_1
    refine lv_iload_n hx hb dX7_isDigit_6 rfl (lv_at hl 0 rfl) ?_
    refine lv_bipush (v := nI 57) hx hb dX7_isDigit_7 (by decide +kernel) ?_
    refine lv_icmp_gt (tgt := 16) hx hb dX7_isDigit_9 (by decide) (fun c_2 => ?_) (fun c_2 => ?_)
    · have c_2 := (nI_ltI (a := 57) (b := ch) (by decide) (by omega)).mp c_2
      refine lv_iconst (v := nI 0) hx hb dX7_isDigit_16 (by decide +kernel) ?_
      refine W.widen (k := 0) (n := 0) (by omega) (by omega) ?_
      exact W.zret (v := nI 0) hx hb hr (by decide +kernel) (fun t9 ht9 hW9 => ⟨⟨nI 0, (), rfl, Or.inr ⟨rfl, by omega⟩, by show va_P (dC, dI) vwCl _ t9.heap; rw [ht9]; exact hP⟩, hS.F ht9⟩) hS.2.2 dX7_isDigit_17
    · have c_2 := mt (nI_ltI (a := 57) (b := ch) (by decide) (by omega)).mpr c_2
      refine lv_iconst (v := nI 1) hx hb dX7_isDigit_12 (by decide +kernel) ?_
      refine lv_goto (tgt := 17) hx hb dX7_isDigit_13 (by decide) ?_
      refine W.widen (k := 0) (n := 0) (by omega) (by omega) ?_
      exact W.zret (v := nI 1) hx hb hr (by decide +kernel) (fun t9 ht9 hW9 => ⟨⟨nI 1, (), rfl, Or.inl ⟨rfl, by omega⟩, by show va_P (dC, dI) vwCl _ t9.heap; rw [ht9]; exact hP⟩, hS.F ht9⟩) hS.2.2 dX7_isDigit_17
def wd_W7_isVariable : List Cond := .code yX7_isVariable cX7_isVariable 1 (some .boolean) :: (([] : List Cond) ++ ([]))
theorem gw_W7_isVariable : wd_W7_isVariable.all goodWord = true := k_allc rfl (k_all (by decide +kernel) (rfl))
set_option maxHeartbeats 4000000 in
set_option maxRecDepth 100000 in
theorem c_W7_isVariable (l : Launch) (dC : Nat → ClassId) (dI : Nat → Nat → Nat) (A : Nat → Prop) (ad : Nat → Nat) (cA : Nat → ClassId) (g : Nat → va_E) (ch : Nat) (hch : ch < 127) : Met l yX7_isVariable wd_W7_isVariable ({ frames := 10, cells := 0, slots := 0, locals := 200 }) (va_Pc [.int (nI ch)] (PR NSc tyc dC dI A ad cA g)) (va_Qi (fun (r : Int32) => fun (u : Unit) => match u with | () => (r = nI 1 ∧ 97 ≤ ch ∧ ch ≤ 99) ∨ (r = nI 0 ∧ ¬ (97 ≤ ch ∧ ch ≤ 99))) (fun (u : Unit) (t : State) => va_P (dC, dI) vwCl (wo ad NSc g) t.heap) A) (0) (0) A := by
  refine Met.ofW (cc := cX7_isVariable) (maxL := 1) (ret := (some .boolean)) (by decide) rfl ?_
  intro p e s m args below meth c s₁ B hml hv
  obtain ⟨rfl, hA, hP, hL⟩ := hv
  have hx := B.exec
  have hb := B.bytes
  have hr := B.returns
  have hts := atoms_spec (ws := wd_W7_isVariable) B.pre
  have hown : s.vm.findClass RX7 = some m.cls := findClass_of_methodNamed B.named
  have hlocks := B.notSynchronized
  have hK := hL.1
  have hD : ∀ g, va_D A (wo ad NSc g) := fun g => wo_D hL.2.1 hL.2.2 g
  have hS : va_S A s.heap s.heap [] := va_S.rf
  have hl := lv_entry ([.int (nI ch)]) (n := 1) (Nat.le_of_ble_eq_true rfl)
  rw [lg_entry_eq]
  generalize (lg_sl ([.int (nI ch)]) ++ List.replicate (1 - (lg_sl ([.int (nI ch)])).length) Slot.unset).toArray = ls at hl ⊢
  have hl : lv_has ls 1 [(0, .int (nI ch))] := hl
  refine lv_iload_n hx hb dX7_isVariable_0 rfl (lv_at hl 0 rfl) ?_
  refine lv_bipush (v := nI 97) hx hb dX7_isVariable_1 (by decide +kernel) ?_
  refine lv_icmp_lt (tgt := 16) hx hb dX7_isVariable_3 (by decide) (fun c_1 => ?_) (fun c_1 => ?_)
  · have c_1 := (nI_ltI (a := ch) (b := 97) (by omega) (by decide)).mp c_1
    refine lv_iconst (v := nI 0) hx hb dX7_isVariable_16 (by decide +kernel) ?_
    refine W.widen (k := 0) (n := 0) (by omega) (by omega) ?_
    exact W.zret (v := nI 0) hx hb hr (by decide +kernel) (fun t9 ht9 hW9 => ⟨⟨nI 0, (), rfl, Or.inr ⟨rfl, by omega⟩, by show va_P (dC, dI) vwCl _ t9.heap; rw [ht9]; exact hP⟩, hS.F ht9⟩) hS.2.2 dX7_isVariable_17
  · have c_1 := mt (nI_ltI (a := ch) (b := 97) (by omega) (by decide)).mpr c_1
    refine lv_iload_n hx hb dX7_isVariable_6 rfl (lv_at hl 0 rfl) ?_
    refine lv_bipush (v := nI 99) hx hb dX7_isVariable_7 (by decide +kernel) ?_
    refine lv_icmp_gt (tgt := 16) hx hb dX7_isVariable_9 (by decide) (fun c_2 => ?_) (fun c_2 => ?_)
    · have c_2 := (nI_ltI (a := 99) (b := ch) (by decide) (by omega)).mp c_2
      refine lv_iconst (v := nI 0) hx hb dX7_isVariable_16 (by decide +kernel) ?_
      refine W.widen (k := 0) (n := 0) (by omega) (by omega) ?_
      exact W.zret (v := nI 0) hx hb hr (by decide +kernel) (fun t9 ht9 hW9 => ⟨⟨nI 0, (), rfl, Or.inr ⟨rfl, by omega⟩, by show va_P (dC, dI) vwCl _ t9.heap; rw [ht9]; exact hP⟩, hS.F ht9⟩) hS.2.2 dX7_isVariable_17
    · have c_2 := mt (nI_ltI (a := 99) (b := ch) (by decide) (by omega)).mpr c_2
      refine lv_iconst (v := nI 1) hx hb dX7_isVariable_12 (by decide +kernel) ?_
      refine lv_goto (tgt := 17) hx hb dX7_isVariable_13 (by decide) ?_
      refine W.widen (k := 0) (n := 0) (by omega) (by omega) ?_
      exact W.zret (v := nI 1) hx hb hr (by decide +kernel) (fun t9 ht9 hW9 => ⟨⟨nI 1, (), rfl, Or.inl ⟨rfl, by omega⟩, by show va_P (dC, dI) vwCl _ t9.heap; rw [ht9]; exact hP⟩, hS.F ht9⟩) hS.2.2 dX7_isVariable_17
def wd_W7_isName : List Cond := .code yX7_isName cX7_isName 1 (some .boolean) :: (([] : List Cond) ++ ([]))
theorem gw_W7_isName : wd_W7_isName.all goodWord = true := k_allc rfl (k_all (by decide +kernel) (rfl))
set_option maxHeartbeats 4000000 in
set_option maxRecDepth 100000 in
theorem c_W7_isName (l : Launch) (dC : Nat → ClassId) (dI : Nat → Nat → Nat) (A : Nat → Prop) (ad : Nat → Nat) (cA : Nat → ClassId) (g : Nat → va_E) (ch : Nat) (hch : ch < 127) : Met l yX7_isName wd_W7_isName ({ frames := 10, cells := 0, slots := 0, locals := 200 }) (va_Pc [.int (nI ch)] (PR NSc tyc dC dI A ad cA g)) (va_Qi (fun (r : Int32) => fun (u : Unit) => match u with | () => (r = nI 1 ∧ 65 ≤ ch ∧ ch ≤ 72) ∨ (r = nI 0 ∧ ¬ (65 ≤ ch ∧ ch ≤ 72))) (fun (u : Unit) (t : State) => va_P (dC, dI) vwCl (wo ad NSc g) t.heap) A) (0) (0) A := by
  refine Met.ofW (cc := cX7_isName) (maxL := 1) (ret := (some .boolean)) (by decide) rfl ?_
  intro p e s m args below meth c s₁ B hml hv
  obtain ⟨rfl, hA, hP, hL⟩ := hv
  have hx := B.exec
  have hb := B.bytes
  have hr := B.returns
  have hts := atoms_spec (ws := wd_W7_isName) B.pre
  have hown : s.vm.findClass RX7 = some m.cls := findClass_of_methodNamed B.named
  have hlocks := B.notSynchronized
  have hK := hL.1
  have hD : ∀ g, va_D A (wo ad NSc g) := fun g => wo_D hL.2.1 hL.2.2 g
  have hS : va_S A s.heap s.heap [] := va_S.rf
  have hl := lv_entry ([.int (nI ch)]) (n := 1) (Nat.le_of_ble_eq_true rfl)
  rw [lg_entry_eq]
  generalize (lg_sl ([.int (nI ch)]) ++ List.replicate (1 - (lg_sl ([.int (nI ch)])).length) Slot.unset).toArray = ls at hl ⊢
  have hl : lv_has ls 1 [(0, .int (nI ch))] := hl
  refine lv_iload_n hx hb dX7_isName_0 rfl (lv_at hl 0 rfl) ?_
  refine lv_bipush (v := nI 65) hx hb dX7_isName_1 (by decide +kernel) ?_
  refine lv_icmp_lt (tgt := 16) hx hb dX7_isName_3 (by decide) (fun c_1 => ?_) (fun c_1 => ?_)
  · have c_1 := (nI_ltI (a := ch) (b := 65) (by omega) (by decide)).mp c_1
    refine lv_iconst (v := nI 0) hx hb dX7_isName_16 (by decide +kernel) ?_
    refine W.widen (k := 0) (n := 0) (by omega) (by omega) ?_
    exact W.zret (v := nI 0) hx hb hr (by decide +kernel) (fun t9 ht9 hW9 => ⟨⟨nI 0, (), rfl, Or.inr ⟨rfl, by omega⟩, by show va_P (dC, dI) vwCl _ t9.heap; rw [ht9]; exact hP⟩, hS.F ht9⟩) hS.2.2 dX7_isName_17
  · have c_1 := mt (nI_ltI (a := ch) (b := 65) (by omega) (by decide)).mpr c_1
    refine lv_iload_n hx hb dX7_isName_6 rfl (lv_at hl 0 rfl) ?_
    refine lv_bipush (v := nI 72) hx hb dX7_isName_7 (by decide +kernel) ?_
    refine lv_icmp_gt (tgt := 16) hx hb dX7_isName_9 (by decide) (fun c_2 => ?_) (fun c_2 => ?_)
    · have c_2 := (nI_ltI (a := 72) (b := ch) (by decide) (by omega)).mp c_2
      refine lv_iconst (v := nI 0) hx hb dX7_isName_16 (by decide +kernel) ?_
      refine W.widen (k := 0) (n := 0) (by omega) (by omega) ?_
      exact W.zret (v := nI 0) hx hb hr (by decide +kernel) (fun t9 ht9 hW9 => ⟨⟨nI 0, (), rfl, Or.inr ⟨rfl, by omega⟩, by show va_P (dC, dI) vwCl _ t9.heap; rw [ht9]; exact hP⟩, hS.F ht9⟩) hS.2.2 dX7_isName_17
    · have c_2 := mt (nI_ltI (a := 72) (b := ch) (by decide) (by omega)).mpr c_2
      refine lv_iconst (v := nI 1) hx hb dX7_isName_12 (by decide +kernel) ?_
      refine lv_goto (tgt := 17) hx hb dX7_isName_13 (by decide) ?_
      refine W.widen (k := 0) (n := 0) (by omega) (by omega) ?_
      exact W.zret (v := nI 1) hx hb hr (by decide +kernel) (fun t9 ht9 hW9 => ⟨⟨nI 1, (), rfl, Or.inl ⟨rfl, by omega⟩, by show va_P (dC, dI) vwCl _ t9.heap; rw [ht9]; exact hP⟩, hS.F ht9⟩) hS.2.2 dX7_isName_17
def wd_W7_takesDigit : List Cond := .code yX7_takesDigit cX7_takesDigit 1 (some .boolean) :: (([.fieldLink RX7 48 "GradientDesk$Text" "digits" "I"] : List Cond) ++ (u_ws RX7 TX7 5 ++ ([])))
theorem gw_W7_takesDigit : wd_W7_takesDigit.all goodWord = true := k_allc rfl (k_all (by decide +kernel) (k_all (gu_X7) (rfl)))
set_option maxHeartbeats 4000000 in
set_option maxRecDepth 100000 in
theorem c_W7_takesDigit (l : Launch) (dC : Nat → ClassId) (dI : Nat → Nat → Nat) (A : Nat → Prop) (ad : Nat → Nat) (cA : Nat → ClassId) (g : Nat → va_E) (ty : Nat) (sa : Nat) (oz : Int) (dg : Nat) (hT : g 2078 = .inr (10, [.ref (ad 2079), .int (nI ty), .int (nI sa), .int (iI oz), .int (nI dg)])) (hoz : -1 ≤ oz ∧ oz ≤ 100) (hdg : dg ≤ 100) (hsa : sa ≤ 6) : Met l yX7_takesDigit wd_W7_takesDigit ({ frames := 10, cells := 0, slots := 0, locals := 200 }) (va_Pc [.ref (ad 2078)] (PR NSc tyc dC dI A ad cA g)) (va_Qi (fun (r : Int32) => fun (u : (Nat → va_E) × Nat × Nat × Int × Nat) => match u with | (g2, b2, s2, o2, d2) => (∀ k, k ≠ 2078 → g2 k = g k) ∧ g2 2078 = .inr (10, [.ref (ad 2079), .int (nI ty), .int (nI s2), .int (iI o2), .int (nI d2)]) ∧ r = nI b2 ∧ b2 ≤ 1 ∧ (tkD sa oz dg) = (b2, s2, o2, d2)) (fun (u : (Nat → va_E) × Nat × Nat × Int × Nat) (t : State) => va_P (dC, dI) vwCl (wo ad NSc u.1) t.heap) A) (0) (0) A := by
  refine Met.ofW (cc := cX7_takesDigit) (maxL := 1) (ret := (some .boolean)) (by decide) rfl ?_
  intro p e s m args below meth c s₁ B hml hv
  obtain ⟨rfl, hA, hP, hL⟩ := hv
  have hx := B.exec
  have hb := B.bytes
  have hr := B.returns
  have hts := atoms_spec (ws := wd_W7_takesDigit) B.pre
  have hown : s.vm.findClass RX7 = some m.cls := findClass_of_methodNamed B.named
  have hlocks := B.notSynchronized
  have hK := hL.1
  have hD : ∀ g, va_D A (wo ad NSc g) := fun g => wo_D hL.2.1 hL.2.2 g
  have hS : va_S A s.heap s.heap [] := va_S.rf
  have bk0 : ∀ w ∈ u_ws RX7 TX7 5, w ∈ wd_W7_takesDigit := fun _ h => List.mem_cons_of_mem _ (List.mem_append_right _ (List.mem_append_left _ h))
  have hl := lv_entry ([.ref (ad 2078)]) (n := 1) (Nat.le_of_ble_eq_true rfl)
  rw [lg_entry_eq]
  generalize (lg_sl ([.ref (ad 2078)]) ++ List.replicate (1 - (lg_sl ([.ref (ad 2078)])).length) Slot.unset).toArray = ls at hl ⊢
  have hl : lv_has ls 1 [(0, .ref (ad 2078))] := hl
  refine lv_aload_n hx hb dX7_takesDigit_0 rfl (lv_at hl 0 rfl) ?_
  refine lv_dup hx hb dX7_takesDigit_1 rfl ?_
  refine m_get (D := (dC, dI)) (v := .int (nI dg)) (C := RX7) (T := TX7) (N := 5) hx hb hts bk0 hown hK hP 2078 (by decide) hT rfl 4 (by decide) (hts (.fieldLink RX7 48 "GradientDesk$Text" "digits" "I") (List.mem_of_getElem? (i := 1) rfl)) (fun _ h9 => h9) rfl dX7_takesDigit_2 ?_
  refine lv_iconst (v := nI 1) hx hb dX7_takesDigit_5 (by decide +kernel) ?_
  refine lv_iadd hx hb dX7_takesDigit_6 ?_
  refine lv_topi (fun x_1 e_2 => ?_)
  obtain rfl : x_1 = nI (dg + 1) := e_2.trans (nI_add dg 1)
  refine m_put (D := (dC, dI)) (v := .int (nI (dg + 1))) (tv := .int) (C := RX7) (T := TX7) (N := 5) hx hb hts bk0 tyX7 tyX7_ok nmX7 hown hK hP hD hS 2078 (by decide) hT rfl 4 (by decide) (hts (.fieldLink RX7 48 "GradientDesk$Text" "digits" "I") (List.mem_of_getElem? (i := 1) rfl)) (fun _ h9 => h9) rfl (by decide +kernel) rfl rfl (Nat.le_of_ble_eq_true rfl) dX7_takesDigit_7 (fun H locs g_3 f_4 fr_5 hP hS => ?_)
  have f_4 : g_3 2078 = .inr (10, [.ref (ad 2079), .int (nI ty), .int (nI sa), .int (iI oz), .int (nI (dg + 1))]) := f_4
  refine lv_aload_n hx hb dX7_takesDigit_10 rfl (lv_at hl 0 rfl) ?_
  refine m_get (D := (dC, dI)) (v := .int (nI (dg + 1))) (C := RX7) (T := TX7) (N := 5) hx hb hts bk0 hown hK hP 2078 (by decide) f_4 rfl 4 (by decide) (hts (.fieldLink RX7 48 "GradientDesk$Text" "digits" "I") (List.mem_of_getElem? (i := 1) rfl)) (fun _ h9 => h9) rfl dX7_takesDigit_11 ?_
  refine lv_iconst (v := nI 4) hx hb dX7_takesDigit_14 (by decide +kernel) ?_
  refine lv_icmp_gt (tgt := 22) hx hb dX7_takesDigit_15 (by decide) (fun c_6 => ?_) (fun c_6 => ?_)
  · have c_6 := (nI_ltI (a := 4) (b := (dg + 1)) (by decide) (by omega)).mp c_6
    refine lv_iconst (v := nI 0) hx hb dX7_takesDigit_22 (by decide +kernel) ?_
    refine W.widen (k := 0) (n := 0) (by omega) (by omega) ?_
    exact W.zret (v := nI 0) hx hb hr (by decide +kernel) (fun t9 ht9 hW9 => ⟨⟨nI 0, (g_3, 0, sa, oz, dg + 1), rfl, ⟨(fun (k : Nat) (hk : k ≠ 2078) => (fr_5 k (by omega)).trans (rfl)), f_4, rfl, by omega, by unfold tkD; (repeat' split) <;> first | rfl | (exfalso; omega)⟩, by show va_P (dC, dI) vwCl _ t9.heap; rw [ht9]; exact hP⟩, hS.F ht9⟩) hS.2.2 dX7_takesDigit_23
  · have c_6 := mt (nI_ltI (a := 4) (b := (dg + 1)) (by decide) (by omega)).mpr c_6
    refine lv_iconst (v := nI 1) hx hb dX7_takesDigit_18 (by decide +kernel) ?_
    refine lv_goto (tgt := 23) hx hb dX7_takesDigit_19 (by decide) ?_
    refine W.widen (k := 0) (n := 0) (by omega) (by omega) ?_
    exact W.zret (v := nI 1) hx hb hr (by decide +kernel) (fun t9 ht9 hW9 => ⟨⟨nI 1, (g_3, 1, sa, oz, dg + 1), rfl, ⟨(fun (k : Nat) (hk : k ≠ 2078) => (fr_5 k (by omega)).trans (rfl)), f_4, rfl, by omega, by unfold tkD; (repeat' split) <;> first | rfl | (exfalso; omega)⟩, by show va_P (dC, dI) vwCl _ t9.heap; rw [ht9]; exact hP⟩, hS.F ht9⟩) hS.2.2 dX7_takesDigit_23
def wd_W7_takesNext : List Cond := .code yX7_takesNext cX7_takesNext 3 (some .boolean) :: (([.fieldLink RX7 19 "GradientDesk$Text" "state" "I", .fieldLink RX7 22 "GradientDesk$Text" "open" "I"] : List Cond) ++ (u_ws RX7 TX7 5 ++ ([])))
theorem gw_W7_takesNext : wd_W7_takesNext.all goodWord = true := k_allc rfl (k_all (by decide +kernel) (k_all (gu_X7) (rfl)))
set_option maxHeartbeats 4000000 in
set_option maxRecDepth 100000 in
theorem c_W7_takesNext (l : Launch) (dC : Nat → ClassId) (dI : Nat → Nat → Nat) (A : Nat → Prop) (ad : Nat → Nat) (cA : Nat → ClassId) (g : Nat → va_E) (ty : Nat) (sa : Nat) (oz : Int) (dg : Nat) (ch : Nat) (hT : g 2078 = .inr (10, [.ref (ad 2079), .int (nI ty), .int (nI sa), .int (iI oz), .int (nI dg)])) (hoz : -1 ≤ oz ∧ oz ≤ 100) (hdg : dg ≤ 100) (hsa : sa ≤ 6) (hch : ch < 127) : Met l yX7_takesNext wd_W7_takesNext ({ frames := 10, cells := 0, slots := 0, locals := 200 }) (va_Pc [.ref (ad 2078), .int (nI ch)] (PR NSc tyc dC dI A ad cA g)) (va_Qi (fun (r : Int32) => fun (u : (Nat → va_E) × Nat × Nat × Int × Nat) => match u with | (g2, b2, s2, o2, d2) => (∀ k, k ≠ 2078 → g2 k = g k) ∧ g2 2078 = .inr (10, [.ref (ad 2079), .int (nI ty), .int (nI s2), .int (iI o2), .int (nI d2)]) ∧ r = nI b2 ∧ b2 ≤ 1 ∧ (tkN sa oz dg ch) = (b2, s2, o2, d2)) (fun (u : (Nat → va_E) × Nat × Nat × Int × Nat) (t : State) => va_P (dC, dI) vwCl (wo ad NSc u.1) t.heap) A) (0) (0) A := by
  refine Met.ofW (cc := cX7_takesNext) (maxL := 3) (ret := (some .boolean)) (by decide) rfl ?_
  intro p e s m args below meth c s₁ B hml hv
  obtain ⟨rfl, hA, hP, hL⟩ := hv
  have hx := B.exec
  have hb := B.bytes
  have hr := B.returns
  have hts := atoms_spec (ws := wd_W7_takesNext) B.pre
  have hown : s.vm.findClass RX7 = some m.cls := findClass_of_methodNamed B.named
  have hlocks := B.notSynchronized
  have hK := hL.1
  have hD : ∀ g, va_D A (wo ad NSc g) := fun g => wo_D hL.2.1 hL.2.2 g
  have hS : va_S A s.heap s.heap [] := va_S.rf
  have bk0 : ∀ w ∈ u_ws RX7 TX7 5, w ∈ wd_W7_takesNext := fun _ h => List.mem_cons_of_mem _ (List.mem_append_right _ (List.mem_append_left _ h))
  have hl := lv_entry ([.ref (ad 2078), .int (nI ch)]) (n := 3) (Nat.le_of_ble_eq_true rfl)
  rw [lg_entry_eq]
  generalize (lg_sl ([.ref (ad 2078), .int (nI ch)]) ++ List.replicate (3 - (lg_sl ([.ref (ad 2078), .int (nI ch)])).length) Slot.unset).toArray = ls at hl ⊢
  have hl : lv_has ls 3 [(0, .ref (ad 2078)), (1, .int (nI ch))] := hl
  refine lv_iload_n hx hb dX7_takesNext_0 rfl (lv_at hl 1 rfl) ?_
  refine lv_bipush (v := nI 94) hx hb dX7_takesNext_1 (by decide +kernel) ?_
  refine lv_icmp_ne (tgt := 28) hx hb dX7_takesNext_3 (by decide) (fun c_1 => ?_) (fun c_1 => ?_)
  · have c_1 := mt (nI_eq (a := ch) (b := 94) (by omega) (by decide)).mpr c_1
    refine lv_iload_n hx hb dX7_takesNext_28 rfl (lv_at hl 1 rfl) ?_
    refine lv_bipush (v := nI 41) hx hb dX7_takesNext_29 (by decide +kernel) ?_
    refine lv_icmp_ne (tgt := 62) hx hb dX7_takesNext_31 (by decide) (fun c_2 => ?_) (fun c_2 => ?_)
    · have c_2 := mt (nI_eq (a := ch) (b := 41) (by omega) (by decide)).mpr c_2
      refine lv_aload_n hx hb dX7_takesNext_62 rfl (lv_at hl 0 rfl) ?_
      refine lv_iconst (v := nI 0) hx hb dX7_takesNext_63 (by decide +kernel) ?_
      refine m_put (D := (dC, dI)) (v := .int (nI 0)) (tv := .int) (C := RX7) (T := TX7) (N := 5) hx hb hts bk0 tyX7 tyX7_ok nmX7 hown hK hP hD hS 2078 (by decide) hT rfl 2 (by decide) (hts (.fieldLink RX7 19 "GradientDesk$Text" "state" "I") (List.mem_of_getElem? (i := 1) rfl)) (fun _ h9 => h9) rfl (by decide +kernel) rfl rfl (Nat.le_of_ble_eq_true rfl) dX7_takesNext_64 (fun H locs g_3 f_4 fr_5 hP hS => ?_)
      have f_4 : g_3 2078 = .inr (10, [.ref (ad 2079), .int (nI ty), .int (nI 0), .int (iI oz), .int (nI dg)]) := f_4
      refine lv_iload_n hx hb dX7_takesNext_67 rfl (lv_at hl 1 rfl) ?_
      refine lv_bipush (v := nI 43) hx hb dX7_takesNext_68 (by decide +kernel) ?_
      refine lv_icmp_eq (tgt := 85) hx hb dX7_takesNext_70 (by decide) (fun c_6 => ?_) (fun c_6 => ?_)
      · have c_6 := (nI_eq (a := ch) (b := 43) (by omega) (by decide)).mp c_6
        refine lv_iconst (v := nI 1) hx hb dX7_takesNext_85 (by decide +kernel) ?_
        refine lv_goto (tgt := 90) hx hb dX7_takesNext_86 (by decide) ?_
        refine W.widen (k := 0) (n := 0) (by omega) (by omega) ?_
        exact W.zret (v := nI 1) hx hb hr (by decide +kernel) (fun t9 ht9 hW9 => ⟨⟨nI 1, (g_3, 1, 0, oz, dg), rfl, ⟨(fun (k : Nat) (hk : k ≠ 2078) => (fr_5 k (by omega)).trans (rfl)), f_4, rfl, by omega, by unfold tkN; (repeat' split) <;> first | rfl | (exfalso; omega)⟩, by show va_P (dC, dI) vwCl _ t9.heap; rw [ht9]; exact hP⟩, hS.F ht9⟩) hS.2.2 dX7_takesNext_90
      · have c_6 := mt (nI_eq (a := ch) (b := 43) (by omega) (by decide)).mpr c_6
        refine lv_iload_n hx hb dX7_takesNext_73 rfl (lv_at hl 1 rfl) ?_
        refine lv_bipush (v := nI 45) hx hb dX7_takesNext_74 (by decide +kernel) ?_
        refine lv_icmp_eq (tgt := 85) hx hb dX7_takesNext_76 (by decide) (fun c_7 => ?_) (fun c_7 => ?_)
        · have c_7 := (nI_eq (a := ch) (b := 45) (by omega) (by decide)).mp c_7
          refine lv_iconst (v := nI 1) hx hb dX7_takesNext_85 (by decide +kernel) ?_
          refine lv_goto (tgt := 90) hx hb dX7_takesNext_86 (by decide) ?_
          refine W.widen (k := 0) (n := 0) (by omega) (by omega) ?_
          exact W.zret (v := nI 1) hx hb hr (by decide +kernel) (fun t9 ht9 hW9 => ⟨⟨nI 1, (g_3, 1, 0, oz, dg), rfl, ⟨(fun (k : Nat) (hk : k ≠ 2078) => (fr_5 k (by omega)).trans (rfl)), f_4, rfl, by omega, by unfold tkN; (repeat' split) <;> first | rfl | (exfalso; omega)⟩, by show va_P (dC, dI) vwCl _ t9.heap; rw [ht9]; exact hP⟩, hS.F ht9⟩) hS.2.2 dX7_takesNext_90
        · have c_7 := mt (nI_eq (a := ch) (b := 45) (by omega) (by decide)).mpr c_7
          refine lv_iload_n hx hb dX7_takesNext_79 rfl (lv_at hl 1 rfl) ?_
          refine lv_bipush (v := nI 42) hx hb dX7_takesNext_80 (by decide +kernel) ?_
          refine lv_icmp_ne (tgt := 89) hx hb dX7_takesNext_82 (by decide) (fun c_8 => ?_) (fun c_8 => ?_)
          · have c_8 := mt (nI_eq (a := ch) (b := 42) (by omega) (by decide)).mpr c_8
            refine lv_iconst (v := nI 0) hx hb dX7_takesNext_89 (by decide +kernel) ?_
            refine W.widen (k := 0) (n := 0) (by omega) (by omega) ?_
            exact W.zret (v := nI 0) hx hb hr (by decide +kernel) (fun t9 ht9 hW9 => ⟨⟨nI 0, (g_3, 0, 0, oz, dg), rfl, ⟨(fun (k : Nat) (hk : k ≠ 2078) => (fr_5 k (by omega)).trans (rfl)), f_4, rfl, by omega, by unfold tkN; (repeat' split) <;> first | rfl | (exfalso; omega)⟩, by show va_P (dC, dI) vwCl _ t9.heap; rw [ht9]; exact hP⟩, hS.F ht9⟩) hS.2.2 dX7_takesNext_90
          · have c_8 := (nI_eq (a := ch) (b := 42) (by omega) (by decide)).mp c_8
            refine lv_iconst (v := nI 1) hx hb dX7_takesNext_85 (by decide +kernel) ?_
            refine lv_goto (tgt := 90) hx hb dX7_takesNext_86 (by decide) ?_
            refine W.widen (k := 0) (n := 0) (by omega) (by omega) ?_
            exact W.zret (v := nI 1) hx hb hr (by decide +kernel) (fun t9 ht9 hW9 => ⟨⟨nI 1, (g_3, 1, 0, oz, dg), rfl, ⟨(fun (k : Nat) (hk : k ≠ 2078) => (fr_5 k (by omega)).trans (rfl)), f_4, rfl, by omega, by unfold tkN; (repeat' split) <;> first | rfl | (exfalso; omega)⟩, by show va_P (dC, dI) vwCl _ t9.heap; rw [ht9]; exact hP⟩, hS.F ht9⟩) hS.2.2 dX7_takesNext_90
    · have c_2 := (nI_eq (a := ch) (b := 41) (by omega) (by decide)).mp c_2
      refine lv_aload_n hx hb dX7_takesNext_34 rfl (lv_at hl 0 rfl) ?_
      refine lv_iconst (v := nI 4) hx hb dX7_takesNext_35 (by decide +kernel) ?_
      refine m_put (D := (dC, dI)) (v := .int (nI 4)) (tv := .int) (C := RX7) (T := TX7) (N := 5) hx hb hts bk0 tyX7 tyX7_ok nmX7 hown hK hP hD hS 2078 (by decide) hT rfl 2 (by decide) (hts (.fieldLink RX7 19 "GradientDesk$Text" "state" "I") (List.mem_of_getElem? (i := 1) rfl)) (fun _ h9 => h9) rfl (by decide +kernel) rfl rfl (Nat.le_of_ble_eq_true rfl) dX7_takesNext_36 (fun H locs g_9 f_10 fr_11 hP hS => ?_)
      have f_10 : g_9 2078 = .inr (10, [.ref (ad 2079), .int (nI ty), .int (nI 4), .int (iI oz), .int (nI dg)]) := f_10
      refine lv_aload_n hx hb dX7_takesNext_39 rfl (lv_at hl 0 rfl) ?_
      refine lv_dup hx hb dX7_takesNext_40 rfl ?_
      refine m_get (D := (dC, dI)) (v := .int (iI oz)) (C := RX7) (T := TX7) (N := 5) hx hb hts bk0 hown hK hP 2078 (by decide) f_10 rfl 3 (by decide) (hts (.fieldLink RX7 22 "GradientDesk$Text" "open" "I") (List.mem_of_getElem? (i := 2) rfl)) (fun _ h9 => h9) rfl dX7_takesNext_41 ?_
      refine lv_iconst (v := nI 1) hx hb dX7_takesNext_44 (by decide +kernel) ?_
      refine lv_isub hx hb dX7_takesNext_45 ?_
      refine lv_topi (fun x_12 e_13 => ?_)
      obtain rfl : x_12 = iI (oz - 1) := e_13.trans (iI_subP rfl (show nI 1 = iI 1 from by decide))
      refine m_put (D := (dC, dI)) (v := .int (iI (oz - 1))) (tv := .int) (C := RX7) (T := TX7) (N := 5) hx hb hts bk0 tyX7 tyX7_ok nmX7 hown hK hP hD hS 2078 (by decide) f_10 rfl 3 (by decide) (hts (.fieldLink RX7 22 "GradientDesk$Text" "open" "I") (List.mem_of_getElem? (i := 2) rfl)) (fun _ h9 => h9) rfl (by decide +kernel) rfl rfl (Nat.le_of_ble_eq_true rfl) dX7_takesNext_46 (fun H locs g_14 f_15 fr_16 hP hS => ?_)
      have f_15 : g_14 2078 = .inr (10, [.ref (ad 2079), .int (nI ty), .int (nI 4), .int (iI (oz - 1)), .int (nI dg)]) := f_15
      refine lv_aload_n hx hb dX7_takesNext_49 rfl (lv_at hl 0 rfl) ?_
      refine m_get (D := (dC, dI)) (v := .int (iI (oz - 1))) (C := RX7) (T := TX7) (N := 5) hx hb hts bk0 hown hK hP 2078 (by decide) f_15 rfl 3 (by decide) (hts (.fieldLink RX7 22 "GradientDesk$Text" "open" "I") (List.mem_of_getElem? (i := 2) rfl)) (fun _ h9 => h9) rfl dX7_takesNext_50 ?_
      refine lv_if_lt (tgt := 60) hx hb dX7_takesNext_53 (by decide) (fun c_17 => ?_) (fun c_17 => ?_)
      · have c_17 := (k_iLT (a := oz - 1) (b := 0) rfl (show nI 0 = iI 0 from by decide) (by omega) (by omega)).mp c_17
        refine lv_iconst (v := nI 0) hx hb dX7_takesNext_60 (by decide +kernel) ?_
        refine W.widen (k := 0) (n := 0) (by omega) (by omega) ?_
        exact W.zret (v := nI 0) hx hb hr (by decide +kernel) (fun t9 ht9 hW9 => ⟨⟨nI 0, (g_14, 0, 4, oz - 1, dg), rfl, ⟨(fun (k : Nat) (hk : k ≠ 2078) => (fr_16 k (by omega)).trans ((fr_11 k (by omega)).trans (rfl))), f_15, rfl, by omega, by unfold tkN; (repeat' split) <;> first | rfl | (exfalso; omega)⟩, by show va_P (dC, dI) vwCl _ t9.heap; rw [ht9]; exact hP⟩, hS.F ht9⟩) hS.2.2 dX7_takesNext_61
      · have c_17 := mt (k_iLT (a := oz - 1) (b := 0) rfl (show nI 0 = iI 0 from by decide) (by omega) (by omega)).mpr c_17
        refine lv_iconst (v := nI 1) hx hb dX7_takesNext_56 (by decide +kernel) ?_
        refine lv_goto (tgt := 61) hx hb dX7_takesNext_57 (by decide) ?_
        refine W.widen (k := 0) (n := 0) (by omega) (by omega) ?_
        exact W.zret (v := nI 1) hx hb hr (by decide +kernel) (fun t9 ht9 hW9 => ⟨⟨nI 1, (g_14, 1, 4, oz - 1, dg), rfl, ⟨(fun (k : Nat) (hk : k ≠ 2078) => (fr_16 k (by omega)).trans ((fr_11 k (by omega)).trans (rfl))), f_15, rfl, by omega, by unfold tkN; (repeat' split) <;> first | rfl | (exfalso; omega)⟩, by show va_P (dC, dI) vwCl _ t9.heap; rw [ht9]; exact hP⟩, hS.F ht9⟩) hS.2.2 dX7_takesNext_61
  · have c_1 := (nI_eq (a := ch) (b := 94) (by omega) (by decide)).mp c_1
    refine lv_aload_n hx hb dX7_takesNext_6 rfl (lv_at hl 0 rfl) ?_
    refine m_get (D := (dC, dI)) (v := .int (nI sa)) (C := RX7) (T := TX7) (N := 5) hx hb hts bk0 hown hK hP 2078 (by decide) hT rfl 2 (by decide) (hts (.fieldLink RX7 19 "GradientDesk$Text" "state" "I") (List.mem_of_getElem? (i := 1) rfl)) (fun _ h9 => h9) rfl dX7_takesNext_7 ?_
    refine lv_bipush (v := nI 6) hx hb dX7_takesNext_10 (by decide +kernel) ?_
    refine lv_icmp_eq (tgt := 19) hx hb dX7_takesNext_12 (by decide) (fun c_18 => ?_) (fun c_18 => ?_)
    · have c_18 := (nI_eq (a := sa) (b := 6) (by omega) (by decide)).mp c_18
      refine lv_iconst (v := nI 0) hx hb dX7_takesNext_19 (by decide +kernel) ?_
      refine lv_istore_n (lv' := [(2, .int (nI 0)), (0, .ref (ad 2078)), (1, .int (nI ch))]) hx hb dX7_takesNext_20 rfl hl (by decide) rfl (fun ls hl => ?_)
      refine lv_aload_n hx hb dX7_takesNext_21 rfl (lv_at hl 1 rfl) ?_
      refine lv_iconst (v := nI 5) hx hb dX7_takesNext_22 (by decide +kernel) ?_
      refine m_put (D := (dC, dI)) (v := .int (nI 5)) (tv := .int) (C := RX7) (T := TX7) (N := 5) hx hb hts bk0 tyX7 tyX7_ok nmX7 hown hK hP hD hS 2078 (by decide) hT rfl 2 (by decide) (hts (.fieldLink RX7 19 "GradientDesk$Text" "state" "I") (List.mem_of_getElem? (i := 1) rfl)) (fun _ h9 => h9) rfl (by decide +kernel) rfl rfl (Nat.le_of_ble_eq_true rfl) dX7_takesNext_23 (fun H locs g_19 f_20 fr_21 hP hS => ?_)
      have f_20 : g_19 2078 = .inr (10, [.ref (ad 2079), .int (nI ty), .int (nI 5), .int (iI oz), .int (nI dg)]) := f_20
      refine lv_iload_n hx hb dX7_takesNext_26 rfl (lv_at hl 0 rfl) ?_
      refine W.widen (k := 0) (n := 0) (by omega) (by omega) ?_
      exact W.zret (v := nI 0) hx hb hr (by decide +kernel) (fun t9 ht9 hW9 => ⟨⟨nI 0, (g_19, 0, 5, oz, dg), rfl, ⟨(fun (k : Nat) (hk : k ≠ 2078) => (fr_21 k (by omega)).trans (rfl)), f_20, rfl, by omega, by unfold tkN; (repeat' split) <;> first | rfl | (exfalso; omega)⟩, by show va_P (dC, dI) vwCl _ t9.heap; rw [ht9]; exact hP⟩, hS.F ht9⟩) hS.2.2 dX7_takesNext_27
    · have c_18 := mt (nI_eq (a := sa) (b := 6) (by omega) (by decide)).mpr c_18
      refine lv_iconst (v := nI 1) hx hb dX7_takesNext_15 (by decide +kernel) ?_
      refine lv_goto (tgt := 20) hx hb dX7_takesNext_16 (by decide) ?_
      refine lv_istore_n (lv' := [(2, .int (nI 1)), (0, .ref (ad 2078)), (1, .int (nI ch))]) hx hb dX7_takesNext_20 rfl hl (by decide) rfl (fun ls hl => ?_)
      refine lv_aload_n hx hb dX7_takesNext_21 rfl (lv_at hl 1 rfl) ?_
      refine lv_iconst (v := nI 5) hx hb dX7_takesNext_22 (by decide +kernel) ?_
      refine m_put (D := (dC, dI)) (v := .int (nI 5)) (tv := .int) (C := RX7) (T := TX7) (N := 5) hx hb hts bk0 tyX7 tyX7_ok nmX7 hown hK hP hD hS 2078 (by decide) hT rfl 2 (by decide) (hts (.fieldLink RX7 19 "GradientDesk$Text" "state" "I") (List.mem_of_getElem? (i := 1) rfl)) (fun _ h9 => h9) rfl (by decide +kernel) rfl rfl (Nat.le_of_ble_eq_true rfl) dX7_takesNext_23 (fun H locs g_22 f_23 fr_24 hP hS => ?_)
      have f_23 : g_22 2078 = .inr (10, [.ref (ad 2079), .int (nI ty), .int (nI 5), .int (iI oz), .int (nI dg)]) := f_23
      refine lv_iload_n hx hb dX7_takesNext_26 rfl (lv_at hl 0 rfl) ?_
      refine W.widen (k := 0) (n := 0) (by omega) (by omega) ?_
      exact W.zret (v := nI 1) hx hb hr (by decide +kernel) (fun t9 ht9 hW9 => ⟨⟨nI 1, (g_22, 1, 5, oz, dg), rfl, ⟨(fun (k : Nat) (hk : k ≠ 2078) => (fr_24 k (by omega)).trans (rfl)), f_23, rfl, by omega, by unfold tkN; (repeat' split) <;> first | rfl | (exfalso; omega)⟩, by show va_P (dC, dI) vwCl _ t9.heap; rw [ht9]; exact hP⟩, hS.F ht9⟩) hS.2.2 dX7_takesNext_27
def wd_W7_takesFirst : List Cond := .code yX7_takesFirst cX7_takesFirst 2 (some .boolean) :: (([.methodLink RX7 38 yX7_isDigit, .static yX7_isDigit, .initialized RX7, .fieldLink RX7 19 "GradientDesk$Text" "state" "I", .fieldLink RX7 48 "GradientDesk$Text" "digits" "I", .methodLink RX7 51 yX7_isVariable, .static yX7_isVariable, .methodLink RX7 54 yX7_isName, .static yX7_isName, .fieldLink RX7 22 "GradientDesk$Text" "open" "I"] : List Cond) ++ (wd_W7_isDigit ++ (u_ws RX7 TX7 5 ++ (wd_W7_isVariable ++ (wd_W7_isName ++ ([]))))))
theorem gw_W7_takesFirst : wd_W7_takesFirst.all goodWord = true := k_allc rfl (k_all (by decide +kernel) (k_all (gw_W7_isDigit) (k_all (gu_X7) (k_all (gw_W7_isVariable) (k_all (gw_W7_isName) (rfl))))))
set_option maxHeartbeats 4000000 in
set_option maxRecDepth 100000 in
theorem c_W7_takesFirst (l : Launch) (dC : Nat → ClassId) (dI : Nat → Nat → Nat) (A : Nat → Prop) (ad : Nat → Nat) (cA : Nat → ClassId) (g : Nat → va_E) (ty : Nat) (sa : Nat) (oz : Int) (dg : Nat) (ch : Nat) (hT : g 2078 = .inr (10, [.ref (ad 2079), .int (nI ty), .int (nI sa), .int (iI oz), .int (nI dg)])) (hoz : -1 ≤ oz ∧ oz ≤ 100) (hdg : dg ≤ 100) (hsa : sa ≤ 6) (hch : ch < 127) (hs0 : sa = 0) : Met l yX7_takesFirst wd_W7_takesFirst ({ frames := 20, cells := 0, slots := 0, locals := 400 }) (va_Pc [.ref (ad 2078), .int (nI ch)] (PR NSc tyc dC dI A ad cA g)) (va_Qi (fun (r : Int32) => fun (u : (Nat → va_E) × Nat × Nat × Int × Nat) => match u with | (g2, b2, s2, o2, d2) => (∀ k, k ≠ 2078 → g2 k = g k) ∧ g2 2078 = .inr (10, [.ref (ad 2079), .int (nI ty), .int (nI s2), .int (iI o2), .int (nI d2)]) ∧ r = nI b2 ∧ b2 ≤ 1 ∧ (tkF oz dg ch) = (b2, s2, o2, d2)) (fun (u : (Nat → va_E) × Nat × Nat × Int × Nat) (t : State) => va_P (dC, dI) vwCl (wo ad NSc u.1) t.heap) A) (0) (0) A := by
  refine Met.ofW (cc := cX7_takesFirst) (maxL := 2) (ret := (some .boolean)) (by decide) rfl ?_
  intro p e s m args below meth c s₁ B hml hv
  obtain ⟨rfl, hA, hP, hL⟩ := hv
  have hx := B.exec
  have hb := B.bytes
  have hr := B.returns
  have hts := atoms_spec (ws := wd_W7_takesFirst) B.pre
  have hown : s.vm.findClass RX7 = some m.cls := findClass_of_methodNamed B.named
  have hlocks := B.notSynchronized
  have hK := hL.1
  have hD : ∀ g, va_D A (wo ad NSc g) := fun g => wo_D hL.2.1 hL.2.2 g
  have hS : va_S A s.heap s.heap [] := va_S.rf
  have bk0 : ∀ w ∈ wd_W7_isDigit, w ∈ wd_W7_takesFirst := fun _ h => List.mem_cons_of_mem _ (List.mem_append_right _ (List.mem_append_left _ h))
  have bk1 : ∀ w ∈ u_ws RX7 TX7 5, w ∈ wd_W7_takesFirst := fun _ h => List.mem_cons_of_mem _ (List.mem_append_right _ (List.mem_append_right _ (List.mem_append_left _ h)))
  have bk2 : ∀ w ∈ wd_W7_isVariable, w ∈ wd_W7_takesFirst := fun _ h => List.mem_cons_of_mem _ (List.mem_append_right _ (List.mem_append_right _ (List.mem_append_right _ (List.mem_append_left _ h))))
  have bk3 : ∀ w ∈ wd_W7_isName, w ∈ wd_W7_takesFirst := fun _ h => List.mem_cons_of_mem _ (List.mem_append_right _ (List.mem_append_right _ (List.mem_append_right _ (List.mem_append_right _ (List.mem_append_left _ h)))))
  have hl := lv_entry ([.ref (ad 2078), .int (nI ch)]) (n := 2) (Nat.le_of_ble_eq_true rfl)
  rw [lg_entry_eq]
  generalize (lg_sl ([.ref (ad 2078), .int (nI ch)]) ++ List.replicate (2 - (lg_sl ([.ref (ad 2078), .int (nI ch)])).length) Slot.unset).toArray = ls at hl ⊢
  have hl : lv_has ls 2 [(0, .ref (ad 2078)), (1, .int (nI ch))] := hl
  refine lv_iload_n hx hb dX7_takesFirst_0 rfl (lv_at hl 1 rfl) ?_
  refine va_calli (va_runS (As := [.int (nI ch)]) (rest := []) ⟨hx, hb, hml, hown, hts⟩ (c_W7_isDigit l dC dI A ad cA g ch hch) (va_cwS 1 hts (goodIn_app (goodIn_r [Cond.methodLink RX7 38 yX7_isDigit, Cond.static yX7_isDigit, Cond.initialized RX7] [1, 2, 3] rfl rfl) (goodIn_sub (fun w9 h9 => bk0 w9 h9) gw_W7_isDigit)) rfl rfl rfl (by decide +kernel) ⟨Nat.le_of_ble_eq_true rfl, Nat.le_of_ble_eq_true rfl⟩) ⟨fun a U g mk q => ⟨q.1, q.2.1, q.2.2.1, LY.moved (u := U) (U := U.calling g mk a) (Vm.Alike.refl U.vm) q.2.2.2⟩, fun U hU hW => ⟨rfl, by rw [hU]; exact fun q h => hA q (Nat.le_trans hS.1 h), by rw [hU]; exact hP, LY.moved hW.alike hL⟩⟩ rfl rfl hl.1 rfl (lv_room (Nat.le_of_ble_eq_true rfl)) dX7_takesFirst_1 ⟨(Nat.le_of_ble_eq_true rfl), (Nat.le_of_ble_eq_true rfl)⟩) hS (fun q _ h => h) (fun q h => h) (fun r_1 u8 t8 H1 locs ht8 hvm8 hw_2 hB hz1 hk1 hS => ?_)
  obtain ⟨⟩ := u8
  try dsimp only at hw_2 hB
  rw [ht8] at hB
  have hP := hB
  generalize H1 = H at hP hS ⊢
  rcases hw_2 with ⟨rfl, hq1⟩ | ⟨rfl, hq1⟩
  · skip
    refine lv_if_eq (tgt := 19) hx hb dX7_takesFirst_4 (by decide) (fun c_3 => absurd c_3 (by decide)) (fun c_3 => ?_)
    refine lv_aload_n hx hb dX7_takesFirst_7 rfl (lv_at hl 0 rfl) ?_
    refine lv_iconst (v := nI 1) hx hb dX7_takesFirst_8 (by decide +kernel) ?_
    refine m_put (D := (dC, dI)) (v := .int (nI 1)) (tv := .int) (C := RX7) (T := TX7) (N := 5) hx hb hts bk1 tyX7 tyX7_ok nmX7 hown hK hP hD hS 2078 (by decide) hT rfl 2 (by decide) (hts (.fieldLink RX7 19 "GradientDesk$Text" "state" "I") (List.mem_of_getElem? (i := 4) rfl)) (fun _ h9 => h9) rfl (by decide +kernel) rfl rfl (Nat.le_of_ble_eq_true rfl) dX7_takesFirst_9 (fun H locs g_4 f_5 fr_6 hP hS => ?_)
    have f_5 : g_4 2078 = .inr (10, [.ref (ad 2079), .int (nI ty), .int (nI 1), .int (iI oz), .int (nI dg)]) := f_5
    refine lv_aload_n hx hb dX7_takesFirst_12 rfl (lv_at hl 0 rfl) ?_
    refine lv_iconst (v := nI 1) hx hb dX7_takesFirst_13 (by decide +kernel) ?_
    refine m_put (D := (dC, dI)) (v := .int (nI 1)) (tv := .int) (C := RX7) (T := TX7) (N := 5) hx hb hts bk1 tyX7 tyX7_ok nmX7 hown hK hP hD hS 2078 (by decide) f_5 rfl 4 (by decide) (hts (.fieldLink RX7 48 "GradientDesk$Text" "digits" "I") (List.mem_of_getElem? (i := 5) rfl)) (fun _ h9 => h9) rfl (by decide +kernel) rfl rfl (Nat.le_of_ble_eq_true rfl) dX7_takesFirst_14 (fun H locs g_7 f_8 fr_9 hP hS => ?_)
    have f_8 : g_7 2078 = .inr (10, [.ref (ad 2079), .int (nI ty), .int (nI 1), .int (iI oz), .int (nI 1)]) := f_8
    refine lv_iconst (v := nI 1) hx hb dX7_takesFirst_17 (by decide +kernel) ?_
    refine W.widen (k := 0) (n := 0) (by omega) (by omega) ?_
    exact W.zret (v := nI 1) hx hb hr (by decide +kernel) (fun t9 ht9 hW9 => ⟨⟨nI 1, (g_7, 1, 1, oz, 1), rfl, ⟨(fun (k : Nat) (hk : k ≠ 2078) => (fr_9 k (by omega)).trans ((fr_6 k (by omega)).trans (rfl))), f_8, rfl, by omega, by unfold tkF; (repeat' split) <;> first | rfl | (exfalso; omega)⟩, by show va_P (dC, dI) vwCl _ t9.heap; rw [ht9]; exact hP⟩, hS.F ht9⟩) hS.2.2 dX7_takesFirst_18
  · skip
    refine lv_if_eq (tgt := 19) hx hb dX7_takesFirst_4 (by decide) (fun c_10 => ?_) (fun c_10 => absurd c_10 (by decide))
    refine lv_iload_n hx hb dX7_takesFirst_19 rfl (lv_at hl 1 rfl) ?_
    refine va_calli (va_runS (As := [.int (nI ch)]) (rest := []) ⟨hx, hb, hml, hown, hts⟩ (c_W7_isVariable l dC dI A ad cA g ch hch) (va_cwS 1 hts (goodIn_app (goodIn_r [Cond.methodLink RX7 51 yX7_isVariable, Cond.static yX7_isVariable, Cond.initialized RX7] [6, 7, 3] rfl rfl) (goodIn_sub (fun w9 h9 => bk2 w9 h9) gw_W7_isVariable)) rfl rfl rfl (by decide +kernel) ⟨Nat.le_of_ble_eq_true rfl, Nat.le_of_ble_eq_true rfl⟩) ⟨fun a U g mk q => ⟨q.1, q.2.1, q.2.2.1, LY.moved (u := U) (U := U.calling g mk a) (Vm.Alike.refl U.vm) q.2.2.2⟩, fun U hU hW => ⟨rfl, by rw [hU]; exact fun q h => hA q (Nat.le_trans hS.1 h), by rw [hU]; exact hP, LY.moved hW.alike hL⟩⟩ rfl rfl hl.1 rfl (lv_room (Nat.le_of_ble_eq_true rfl)) dX7_takesFirst_20 ⟨(Nat.le_of_ble_eq_true rfl), (Nat.le_of_ble_eq_true rfl)⟩) hS (fun q _ h => h) (fun q h => h) (fun r_11 u8 t8 H1 locs ht8 hvm8 hw_12 hB hz1 hk1 hS => ?_)
    obtain ⟨⟩ := u8
    try dsimp only at hw_12 hB
    rw [ht8] at hB
    have hP := hB
    generalize H1 = H at hP hS ⊢
    rcases hw_12 with ⟨rfl, hq2⟩ | ⟨rfl, hq2⟩
    · skip
      refine lv_if_ne (tgt := 33) hx hb dX7_takesFirst_23 (by decide) (fun c_13 => ?_) (fun c_13 => absurd c_13 (by decide))
      refine lv_aload_n hx hb dX7_takesFirst_33 rfl (lv_at hl 0 rfl) ?_
      refine lv_iconst (v := nI 4) hx hb dX7_takesFirst_34 (by decide +kernel) ?_
      refine m_put (D := (dC, dI)) (v := .int (nI 4)) (tv := .int) (C := RX7) (T := TX7) (N := 5) hx hb hts bk1 tyX7 tyX7_ok nmX7 hown hK hP hD hS 2078 (by decide) hT rfl 2 (by decide) (hts (.fieldLink RX7 19 "GradientDesk$Text" "state" "I") (List.mem_of_getElem? (i := 4) rfl)) (fun _ h9 => h9) rfl (by decide +kernel) rfl rfl (Nat.le_of_ble_eq_true rfl) dX7_takesFirst_35 (fun H locs g_14 f_15 fr_16 hP hS => ?_)
      have f_15 : g_14 2078 = .inr (10, [.ref (ad 2079), .int (nI ty), .int (nI 4), .int (iI oz), .int (nI dg)]) := f_15
      refine lv_iconst (v := nI 1) hx hb dX7_takesFirst_38 (by decide +kernel) ?_
      refine W.widen (k := 0) (n := 0) (by omega) (by omega) ?_
      exact W.zret (v := nI 1) hx hb hr (by decide +kernel) (fun t9 ht9 hW9 => ⟨⟨nI 1, (g_14, 1, 4, oz, dg), rfl, ⟨(fun (k : Nat) (hk : k ≠ 2078) => (fr_16 k (by omega)).trans (rfl)), f_15, rfl, by omega, by unfold tkF; (repeat' split) <;> first | rfl | (exfalso; omega)⟩, by show va_P (dC, dI) vwCl _ t9.heap; rw [ht9]; exact hP⟩, hS.F ht9⟩) hS.2.2 dX7_takesFirst_39
    · skip
      refine lv_if_ne (tgt := 33) hx hb dX7_takesFirst_23 (by decide) (fun c_17 => absurd c_17 (by decide)) (fun c_17 => ?_)
      refine lv_iload_n hx hb dX7_takesFirst_26 rfl (lv_at hl 1 rfl) ?_
      refine va_calli (va_runS (As := [.int (nI ch)]) (rest := []) ⟨hx, hb, hml, hown, hts⟩ (c_W7_isName l dC dI A ad cA g ch hch) (va_cwS 1 hts (goodIn_app (goodIn_r [Cond.methodLink RX7 54 yX7_isName, Cond.static yX7_isName, Cond.initialized RX7] [8, 9, 3] rfl rfl) (goodIn_sub (fun w9 h9 => bk3 w9 h9) gw_W7_isName)) rfl rfl rfl (by decide +kernel) ⟨Nat.le_of_ble_eq_true rfl, Nat.le_of_ble_eq_true rfl⟩) ⟨fun a U g mk q => ⟨q.1, q.2.1, q.2.2.1, LY.moved (u := U) (U := U.calling g mk a) (Vm.Alike.refl U.vm) q.2.2.2⟩, fun U hU hW => ⟨rfl, by rw [hU]; exact fun q h => hA q (Nat.le_trans hS.1 h), by rw [hU]; exact hP, LY.moved hW.alike hL⟩⟩ rfl rfl hl.1 rfl (lv_room (Nat.le_of_ble_eq_true rfl)) dX7_takesFirst_27 ⟨(Nat.le_of_ble_eq_true rfl), (Nat.le_of_ble_eq_true rfl)⟩) hS (fun q _ h => h) (fun q h => h) (fun r_18 u8 t8 H1 locs ht8 hvm8 hw_19 hB hz1 hk1 hS => ?_)
      obtain ⟨⟩ := u8
      try dsimp only at hw_19 hB
      rw [ht8] at hB
      have hP := hB
      generalize H1 = H at hP hS ⊢
      rcases hw_19 with ⟨rfl, hq3⟩ | ⟨rfl, hq3⟩
      · skip
        refine lv_if_eq (tgt := 40) hx hb dX7_takesFirst_30 (by decide) (fun c_20 => absurd c_20 (by decide)) (fun c_20 => ?_)
        refine lv_aload_n hx hb dX7_takesFirst_33 rfl (lv_at hl 0 rfl) ?_
        refine lv_iconst (v := nI 4) hx hb dX7_takesFirst_34 (by decide +kernel) ?_
        refine m_put (D := (dC, dI)) (v := .int (nI 4)) (tv := .int) (C := RX7) (T := TX7) (N := 5) hx hb hts bk1 tyX7 tyX7_ok nmX7 hown hK hP hD hS 2078 (by decide) hT rfl 2 (by decide) (hts (.fieldLink RX7 19 "GradientDesk$Text" "state" "I") (List.mem_of_getElem? (i := 4) rfl)) (fun _ h9 => h9) rfl (by decide +kernel) rfl rfl (Nat.le_of_ble_eq_true rfl) dX7_takesFirst_35 (fun H locs g_21 f_22 fr_23 hP hS => ?_)
        have f_22 : g_21 2078 = .inr (10, [.ref (ad 2079), .int (nI ty), .int (nI 4), .int (iI oz), .int (nI dg)]) := f_22
        refine lv_iconst (v := nI 1) hx hb dX7_takesFirst_38 (by decide +kernel) ?_
        refine W.widen (k := 0) (n := 0) (by omega) (by omega) ?_
        exact W.zret (v := nI 1) hx hb hr (by decide +kernel) (fun t9 ht9 hW9 => ⟨⟨nI 1, (g_21, 1, 4, oz, dg), rfl, ⟨(fun (k : Nat) (hk : k ≠ 2078) => (fr_23 k (by omega)).trans (rfl)), f_22, rfl, by omega, by unfold tkF; (repeat' split) <;> first | rfl | (exfalso; omega)⟩, by show va_P (dC, dI) vwCl _ t9.heap; rw [ht9]; exact hP⟩, hS.F ht9⟩) hS.2.2 dX7_takesFirst_39
      · skip
        refine lv_if_eq (tgt := 40) hx hb dX7_takesFirst_30 (by decide) (fun c_24 => ?_) (fun c_24 => absurd c_24 (by decide))
        refine lv_iload_n hx hb dX7_takesFirst_40 rfl (lv_at hl 1 rfl) ?_
        refine lv_bipush (v := nI 40) hx hb dX7_takesFirst_41 (by decide +kernel) ?_
        refine lv_icmp_ne (tgt := 58) hx hb dX7_takesFirst_43 (by decide) (fun c_25 => ?_) (fun c_25 => ?_)
        · have c_25 := mt (nI_eq (a := ch) (b := 40) (by omega) (by decide)).mpr c_25
          refine lv_iload_n hx hb dX7_takesFirst_58 rfl (lv_at hl 1 rfl) ?_
          refine lv_bipush (v := nI 45) hx hb dX7_takesFirst_59 (by decide +kernel) ?_
          refine lv_icmp_ne (tgt := 68) hx hb dX7_takesFirst_61 (by decide) (fun c_26 => ?_) (fun c_26 => ?_)
          · have c_26 := mt (nI_eq (a := ch) (b := 45) (by omega) (by decide)).mpr c_26
            refine lv_iconst (v := nI 0) hx hb dX7_takesFirst_68 (by decide +kernel) ?_
            refine W.widen (k := 0) (n := 0) (by omega) (by omega) ?_
            exact W.zret (v := nI 0) hx hb hr (by decide +kernel) (fun t9 ht9 hW9 => ⟨⟨nI 0, (g, 0, 0, oz, dg), rfl, ⟨(fun (k : Nat) (hk : k ≠ 2078) => rfl), hs0 ▸ hT, rfl, by omega, by unfold tkF; (repeat' split) <;> first | rfl | (exfalso; omega)⟩, by show va_P (dC, dI) vwCl _ t9.heap; rw [ht9]; exact hP⟩, hS.F ht9⟩) hS.2.2 dX7_takesFirst_69
          · have c_26 := (nI_eq (a := ch) (b := 45) (by omega) (by decide)).mp c_26
            refine lv_iconst (v := nI 1) hx hb dX7_takesFirst_64 (by decide +kernel) ?_
            refine lv_goto (tgt := 69) hx hb dX7_takesFirst_65 (by decide) ?_
            refine W.widen (k := 0) (n := 0) (by omega) (by omega) ?_
            exact W.zret (v := nI 1) hx hb hr (by decide +kernel) (fun t9 ht9 hW9 => ⟨⟨nI 1, (g, 1, 0, oz, dg), rfl, ⟨(fun (k : Nat) (hk : k ≠ 2078) => rfl), hs0 ▸ hT, rfl, by omega, by unfold tkF; (repeat' split) <;> first | rfl | (exfalso; omega)⟩, by show va_P (dC, dI) vwCl _ t9.heap; rw [ht9]; exact hP⟩, hS.F ht9⟩) hS.2.2 dX7_takesFirst_69
        · have c_25 := (nI_eq (a := ch) (b := 40) (by omega) (by decide)).mp c_25
          refine lv_aload_n hx hb dX7_takesFirst_46 rfl (lv_at hl 0 rfl) ?_
          refine lv_dup hx hb dX7_takesFirst_47 rfl ?_
          refine m_get (D := (dC, dI)) (v := .int (iI oz)) (C := RX7) (T := TX7) (N := 5) hx hb hts bk1 hown hK hP 2078 (by decide) hT rfl 3 (by decide) (hts (.fieldLink RX7 22 "GradientDesk$Text" "open" "I") (List.mem_of_getElem? (i := 10) rfl)) (fun _ h9 => h9) rfl dX7_takesFirst_48 ?_
          refine lv_iconst (v := nI 1) hx hb dX7_takesFirst_51 (by decide +kernel) ?_
          refine lv_iadd hx hb dX7_takesFirst_52 ?_
          refine lv_topi (fun x_27 e_28 => ?_)
          obtain rfl : x_27 = iI (oz + 1) := e_28.trans (iI_addP rfl (show nI 1 = iI 1 from by decide))
          refine m_put (D := (dC, dI)) (v := .int (iI (oz + 1))) (tv := .int) (C := RX7) (T := TX7) (N := 5) hx hb hts bk1 tyX7 tyX7_ok nmX7 hown hK hP hD hS 2078 (by decide) hT rfl 3 (by decide) (hts (.fieldLink RX7 22 "GradientDesk$Text" "open" "I") (List.mem_of_getElem? (i := 10) rfl)) (fun _ h9 => h9) rfl (by decide +kernel) rfl rfl (Nat.le_of_ble_eq_true rfl) dX7_takesFirst_53 (fun H locs g_29 f_30 fr_31 hP hS => ?_)
          have f_30 : g_29 2078 = .inr (10, [.ref (ad 2079), .int (nI ty), .int (nI sa), .int (iI (oz + 1)), .int (nI dg)]) := f_30
          refine lv_iconst (v := nI 1) hx hb dX7_takesFirst_56 (by decide +kernel) ?_
          refine W.widen (k := 0) (n := 0) (by omega) (by omega) ?_
          exact W.zret (v := nI 1) hx hb hr (by decide +kernel) (fun t9 ht9 hW9 => ⟨⟨nI 1, (g_29, 1, 0, oz + 1, dg), rfl, ⟨(fun (k : Nat) (hk : k ≠ 2078) => (fr_31 k (by omega)).trans (rfl)), hs0 ▸ f_30, rfl, by omega, by unfold tkF; (repeat' split) <;> first | rfl | (exfalso; omega)⟩, by show va_P (dC, dI) vwCl _ t9.heap; rw [ht9]; exact hP⟩, hS.F ht9⟩) hS.2.2 dX7_takesFirst_57
end
