def wd_V6_sumN : List Cond := .code yX6_makeSum cX6_makeSum 6 (some .int) :: (([] : List Cond) ++ ([]))
theorem gw_V6_sumN : wd_V6_sumN.all goodWord = true := k_allc rfl (k_all (by decide +kernel) (rfl))
set_option maxHeartbeats 4000000 in
set_option maxRecDepth 100000 in
theorem c_V6_sumN (l : Launch) (dC : Nat → ClassId) (dI : Nat → Nat → Nat) (A : Nat → Prop) (ad : Nat → Nat) (cA : Nat → ClassId) (g : Nat → va_E) (a1 : Int32) (b1 : Int32) (za : Int) (zb : Int) (ha1 : a1 = iI za) (hb1 : b1 = iI zb) (hza : -4 ≤ za ∧ za ≤ 200) (hzb : -4 ≤ zb ∧ zb ≤ 200) (hng : za < 0 ∨ (0 ≤ za ∧ zb < 0)) : Met l yX6_makeSum wd_V6_sumN ({ frames := 10, cells := 0, slots := 0, locals := 200 }) (va_Pc [.ref (ad 2080), .int a1, .int b1] (PR NSc tyc dC dI A ad cA g)) (va_Qi (fun (r : Int32) => fun (u : Unit) => match u with | () => (za < 0 ∧ r = a1) ∨ (0 ≤ za ∧ r = b1)) (fun (u : Unit) (t : State) => va_P (dC, dI) vwCl (wo ad NSc g) t.heap) A) (0) (0) A := by
  refine Met.ofW (cc := cX6_makeSum) (maxL := 6) (ret := (some .int)) (by decide) rfl ?_
  intro p e s m args below meth c s₁ B hml hv
  obtain ⟨rfl, hA, hP, hL⟩ := hv
  have hx := B.exec
  have hb := B.bytes
  have hr := B.returns
  have hts := atoms_spec (ws := wd_V6_sumN) B.pre
  have hown : s.vm.findClass RX6 = some m.cls := findClass_of_methodNamed B.named
  have hlocks := B.notSynchronized
  have hK := hL.1
  have hD : ∀ g, va_D A (wo ad NSc g) := fun g => wo_D hL.2.1 hL.2.2 g
  have hS : va_S A s.heap s.heap [] := va_S.rf
  have hl := lv_entry ([.ref (ad 2080), .int a1, .int b1]) (n := 6) (Nat.le_of_ble_eq_true rfl)
  rw [lg_entry_eq]
  generalize (lg_sl ([.ref (ad 2080), .int a1, .int b1]) ++ List.replicate (6 - (lg_sl ([.ref (ad 2080), .int a1, .int b1])).length) Slot.unset).toArray = ls at hl ⊢
  have hl : lv_has ls 6 [(0, .ref (ad 2080)), (1, .int a1), (2, .int b1)] := hl
  refine lv_iload_n hx hb dX6_makeSum_0 rfl (lv_at hl 1 rfl) ?_
  refine lv_if_lt (tgt := 8) hx hb dX6_makeSum_1 (by decide) (fun c_1 => ?_) (fun c_1 => ?_)
  · have c_1 := (k_iLT (a := za) (b := 0) ha1 (show nI 0 = iI 0 from by decide) (by omega) (by omega)).mp c_1
    refine lv_iload_n hx hb dX6_makeSum_8 rfl (lv_at hl 1 rfl) ?_
    refine lv_if_ge (tgt := 16) hx hb dX6_makeSum_9 (by decide) (fun c_2 => ?_) (fun c_2 => ?_)
    · have c_2 := (k_iLE (a := 0) (b := za) (show nI 0 = iI 0 from by decide) ha1 (by omega) (by omega)).mp c_2
      refine lv_iload_n hx hb dX6_makeSum_16 rfl (lv_at hl 2 rfl) ?_
      refine W.widen (k := 0) (n := 0) (by omega) (by omega) ?_
      exact W.iret (v := b1) hx hb hr (fun t9 ht9 hW9 => ⟨⟨b1, (), rfl, Or.inr ⟨by omega, rfl⟩, by show va_P (dC, dI) vwCl _ t9.heap; rw [ht9]; exact hP⟩, hS.F ht9⟩) hS.2.2 dX6_makeSum_17
    · have c_2 := mt (k_iLE (a := 0) (b := za) (show nI 0 = iI 0 from by decide) ha1 (by omega) (by omega)).mpr c_2
      refine lv_iload_n hx hb dX6_makeSum_12 rfl (lv_at hl 1 rfl) ?_
      refine lv_goto (tgt := 17) hx hb dX6_makeSum_13 (by decide) ?_
      refine W.widen (k := 0) (n := 0) (by omega) (by omega) ?_
      exact W.iret (v := a1) hx hb hr (fun t9 ht9 hW9 => ⟨⟨a1, (), rfl, Or.inl ⟨by omega, rfl⟩, by show va_P (dC, dI) vwCl _ t9.heap; rw [ht9]; exact hP⟩, hS.F ht9⟩) hS.2.2 dX6_makeSum_17
  · have c_1 := mt (k_iLT (a := za) (b := 0) ha1 (show nI 0 = iI 0 from by decide) (by omega) (by omega)).mpr c_1
    refine lv_iload_n hx hb dX6_makeSum_4 rfl (lv_at hl 2 rfl) ?_
    refine lv_if_ge (tgt := 18) hx hb dX6_makeSum_5 (by decide) (fun c_3 => absurd ((k_iLE (a := 0) (b := zb) (show nI 0 = iI 0 from by decide) hb1 (by omega) (by omega)).mp c_3) (by omega)) (fun c_3 => ?_)
    refine lv_iload_n hx hb dX6_makeSum_8 rfl (lv_at hl 1 rfl) ?_
    refine lv_if_ge (tgt := 16) hx hb dX6_makeSum_9 (by decide) (fun c_4 => ?_) (fun c_4 => ?_)
    · have c_4 := (k_iLE (a := 0) (b := za) (show nI 0 = iI 0 from by decide) ha1 (by omega) (by omega)).mp c_4
      refine lv_iload_n hx hb dX6_makeSum_16 rfl (lv_at hl 2 rfl) ?_
      refine W.widen (k := 0) (n := 0) (by omega) (by omega) ?_
      exact W.iret (v := b1) hx hb hr (fun t9 ht9 hW9 => ⟨⟨b1, (), rfl, Or.inr ⟨by omega, rfl⟩, by show va_P (dC, dI) vwCl _ t9.heap; rw [ht9]; exact hP⟩, hS.F ht9⟩) hS.2.2 dX6_makeSum_17
    · have c_4 := mt (k_iLE (a := 0) (b := za) (show nI 0 = iI 0 from by decide) ha1 (by omega) (by omega)).mpr c_4
      refine lv_iload_n hx hb dX6_makeSum_12 rfl (lv_at hl 1 rfl) ?_
      refine lv_goto (tgt := 17) hx hb dX6_makeSum_13 (by decide) ?_
      refine W.widen (k := 0) (n := 0) (by omega) (by omega) ?_
      exact W.iret (v := a1) hx hb hr (fun t9 ht9 hW9 => ⟨⟨a1, (), rfl, Or.inl ⟨by omega, rfl⟩, by show va_P (dC, dI) vwCl _ t9.heap; rw [ht9]; exact hP⟩, hS.F ht9⟩) hS.2.2 dX6_makeSum_17
def wd_V6_prdN : List Cond := .code yX6_makeProduct cX6_makeProduct 6 (some .int) :: (([] : List Cond) ++ ([]))
theorem gw_V6_prdN : wd_V6_prdN.all goodWord = true := k_allc rfl (k_all (by decide +kernel) (rfl))
set_option maxHeartbeats 4000000 in
set_option maxRecDepth 100000 in
theorem c_V6_prdN (l : Launch) (dC : Nat → ClassId) (dI : Nat → Nat → Nat) (A : Nat → Prop) (ad : Nat → Nat) (cA : Nat → ClassId) (g : Nat → va_E) (a1 : Int32) (b1 : Int32) (za : Int) (zb : Int) (ha1 : a1 = iI za) (hb1 : b1 = iI zb) (hza : -4 ≤ za ∧ za ≤ 200) (hzb : -4 ≤ zb ∧ zb ≤ 200) (hng : za < 0 ∨ (0 ≤ za ∧ zb < 0)) : Met l yX6_makeProduct wd_V6_prdN ({ frames := 10, cells := 0, slots := 0, locals := 200 }) (va_Pc [.ref (ad 2080), .int a1, .int b1] (PR NSc tyc dC dI A ad cA g)) (va_Qi (fun (r : Int32) => fun (u : Unit) => match u with | () => (za < 0 ∧ r = a1) ∨ (0 ≤ za ∧ r = b1)) (fun (u : Unit) (t : State) => va_P (dC, dI) vwCl (wo ad NSc g) t.heap) A) (0) (0) A := by
  refine Met.ofW (cc := cX6_makeProduct) (maxL := 6) (ret := (some .int)) (by decide) rfl ?_
  intro p e s m args below meth c s₁ B hml hv
  obtain ⟨rfl, hA, hP, hL⟩ := hv
  have hx := B.exec
  have hb := B.bytes
  have hr := B.returns
  have hts := atoms_spec (ws := wd_V6_prdN) B.pre
  have hown : s.vm.findClass RX6 = some m.cls := findClass_of_methodNamed B.named
  have hlocks := B.notSynchronized
  have hK := hL.1
  have hD : ∀ g, va_D A (wo ad NSc g) := fun g => wo_D hL.2.1 hL.2.2 g
  have hS : va_S A s.heap s.heap [] := va_S.rf
  have hl := lv_entry ([.ref (ad 2080), .int a1, .int b1]) (n := 6) (Nat.le_of_ble_eq_true rfl)
  rw [lg_entry_eq]
  generalize (lg_sl ([.ref (ad 2080), .int a1, .int b1]) ++ List.replicate (6 - (lg_sl ([.ref (ad 2080), .int a1, .int b1])).length) Slot.unset).toArray = ls at hl ⊢
  have hl : lv_has ls 6 [(0, .ref (ad 2080)), (1, .int a1), (2, .int b1)] := hl
  refine lv_iload_n hx hb dX6_makeProduct_0 rfl (lv_at hl 1 rfl) ?_
  refine lv_if_lt (tgt := 8) hx hb dX6_makeProduct_1 (by decide) (fun c_1 => ?_) (fun c_1 => ?_)
  · have c_1 := (k_iLT (a := za) (b := 0) ha1 (show nI 0 = iI 0 from by decide) (by omega) (by omega)).mp c_1
    refine lv_iload_n hx hb dX6_makeProduct_8 rfl (lv_at hl 1 rfl) ?_
    refine lv_if_ge (tgt := 16) hx hb dX6_makeProduct_9 (by decide) (fun c_2 => ?_) (fun c_2 => ?_)
    · have c_2 := (k_iLE (a := 0) (b := za) (show nI 0 = iI 0 from by decide) ha1 (by omega) (by omega)).mp c_2
      refine lv_iload_n hx hb dX6_makeProduct_16 rfl (lv_at hl 2 rfl) ?_
      refine W.widen (k := 0) (n := 0) (by omega) (by omega) ?_
      exact W.iret (v := b1) hx hb hr (fun t9 ht9 hW9 => ⟨⟨b1, (), rfl, Or.inr ⟨by omega, rfl⟩, by show va_P (dC, dI) vwCl _ t9.heap; rw [ht9]; exact hP⟩, hS.F ht9⟩) hS.2.2 dX6_makeProduct_17
    · have c_2 := mt (k_iLE (a := 0) (b := za) (show nI 0 = iI 0 from by decide) ha1 (by omega) (by omega)).mpr c_2
      refine lv_iload_n hx hb dX6_makeProduct_12 rfl (lv_at hl 1 rfl) ?_
      refine lv_goto (tgt := 17) hx hb dX6_makeProduct_13 (by decide) ?_
      refine W.widen (k := 0) (n := 0) (by omega) (by omega) ?_
      exact W.iret (v := a1) hx hb hr (fun t9 ht9 hW9 => ⟨⟨a1, (), rfl, Or.inl ⟨by omega, rfl⟩, by show va_P (dC, dI) vwCl _ t9.heap; rw [ht9]; exact hP⟩, hS.F ht9⟩) hS.2.2 dX6_makeProduct_17
  · have c_1 := mt (k_iLT (a := za) (b := 0) ha1 (show nI 0 = iI 0 from by decide) (by omega) (by omega)).mpr c_1
    refine lv_iload_n hx hb dX6_makeProduct_4 rfl (lv_at hl 2 rfl) ?_
    refine lv_if_ge (tgt := 18) hx hb dX6_makeProduct_5 (by decide) (fun c_3 => absurd ((k_iLE (a := 0) (b := zb) (show nI 0 = iI 0 from by decide) hb1 (by omega) (by omega)).mp c_3) (by omega)) (fun c_3 => ?_)
    refine lv_iload_n hx hb dX6_makeProduct_8 rfl (lv_at hl 1 rfl) ?_
    refine lv_if_ge (tgt := 16) hx hb dX6_makeProduct_9 (by decide) (fun c_4 => ?_) (fun c_4 => ?_)
    · have c_4 := (k_iLE (a := 0) (b := za) (show nI 0 = iI 0 from by decide) ha1 (by omega) (by omega)).mp c_4
      refine lv_iload_n hx hb dX6_makeProduct_16 rfl (lv_at hl 2 rfl) ?_
      refine W.widen (k := 0) (n := 0) (by omega) (by omega) ?_
      exact W.iret (v := b1) hx hb hr (fun t9 ht9 hW9 => ⟨⟨b1, (), rfl, Or.inr ⟨by omega, rfl⟩, by show va_P (dC, dI) vwCl _ t9.heap; rw [ht9]; exact hP⟩, hS.F ht9⟩) hS.2.2 dX6_makeProduct_17
    · have c_4 := mt (k_iLE (a := 0) (b := za) (show nI 0 = iI 0 from by decide) ha1 (by omega) (by omega)).mpr c_4
      refine lv_iload_n hx hb dX6_makeProduct_12 rfl (lv_at hl 1 rfl) ?_
      refine lv_goto (tgt := 17) hx hb dX6_makeProduct_13 (by decide) ?_
      refine W.widen (k := 0) (n := 0) (by omega) (by omega) ?_
      exact W.iret (v := a1) hx hb hr (fun t9 ht9 hW9 => ⟨⟨a1, (), rfl, Or.inl ⟨by omega, rfl⟩, by show va_P (dC, dI) vwCl _ t9.heap; rw [ht9]; exact hP⟩, hS.F ht9⟩) hS.2.2 dX6_makeProduct_17
def wd_V6_makeNegative : List Cond := .code yX6_makeNegative cX6_makeNegative 2 (some .int) :: (([.methodLink RX6 101 yX6_makeWhole, .instanceMethod yX6_makeWhole, .selects RX6 yX6_makeWhole yX6_makeWhole, .initialized RX6, .methodLink RX6 109 yX6_makeProduct, .instanceMethod yX6_makeProduct, .selects RX6 yX6_makeProduct yX6_makeProduct] : List Cond) ++ (wd_V6_makeWhole ++ (wd_V6_prdN ++ (wd_V6_makeProduct ++ ([])))))
theorem gw_V6_makeNegative : wd_V6_makeNegative.all goodWord = true := k_allc rfl (k_all (by decide +kernel) (k_all (gw_V6_makeWhole) (k_all (gw_V6_prdN) (k_all (gw_V6_makeProduct) (rfl)))))
set_option maxHeartbeats 4000000 in
set_option maxRecDepth 100000 in
theorem c_V6_makeNegative (l : Launch) (dC : Nat → ClassId) (dI : Nat → Nat → Nat) (A : Nat → Prop) (ad : Nat → Nat) (cA : Nat → ClassId) (g : Nat → va_E) (L : List PD) (x1 : Nat) (hC : CS ad cA g L) (hWf : WFL L) (ix : x1 < L.length) : Met l yX6_makeNegative wd_V6_makeNegative ({ frames := 60, cells := 0, slots := 0, locals := 1200 }) (va_Pc [.ref (ad 2080), .int (nI x1)] (PR NSc tyc dC dI A ad cA g)) (va_Qi (fun (r : Int32) => fun (u : Nat → va_E) => match u with | g2 => (∀ k, (14 ≤ k ∧ k < 76) ∨ (876 ≤ k ∧ k < 2080) ∨ (2081 ≤ k ∧ k < 2117) → g2 k = g k) ∧ CMK ad cA g2 (negL L x1) r) (fun (u : Nat → va_E) (t : State) => va_P (dC, dI) vwCl (wo ad NSc u) t.heap) A) (0) (0) A := by
  refine Met.ofW (cc := cX6_makeNegative) (maxL := 2) (ret := (some .int)) (by decide) rfl ?_
  intro p e s m args below meth c s₁ B hml hv
  obtain ⟨rfl, hA, hP, hL⟩ := hv
  have hx := B.exec
  have hb := B.bytes
  have hr := B.returns
  have hts := atoms_spec (ws := wd_V6_makeNegative) B.pre
  have hown : s.vm.findClass RX6 = some m.cls := findClass_of_methodNamed B.named
  have hlocks := B.notSynchronized
  have hK := hL.1
  have hD : ∀ g, va_D A (wo ad NSc g) := fun g => wo_D hL.2.1 hL.2.2 g
  have hS : va_S A s.heap s.heap [] := va_S.rf
  have bk0 : ∀ w ∈ wd_V6_makeWhole, w ∈ wd_V6_makeNegative := fun _ h => List.mem_cons_of_mem _ (List.mem_append_right _ (List.mem_append_left _ h))
  have bk1 : ∀ w ∈ wd_V6_prdN, w ∈ wd_V6_makeNegative := fun _ h => List.mem_cons_of_mem _ (List.mem_append_right _ (List.mem_append_right _ (List.mem_append_left _ h)))
  have bk2 : ∀ w ∈ wd_V6_makeProduct, w ∈ wd_V6_makeNegative := fun _ h => List.mem_cons_of_mem _ (List.mem_append_right _ (List.mem_append_right _ (List.mem_append_right _ (List.mem_append_left _ h))))
  have hl := lv_entry ([.ref (ad 2080), .int (nI x1)]) (n := 2) (Nat.le_of_ble_eq_true rfl)
  rw [lg_entry_eq]
  generalize (lg_sl ([.ref (ad 2080), .int (nI x1)]) ++ List.replicate (2 - (lg_sl ([.ref (ad 2080), .int (nI x1)])).length) Slot.unset).toArray = ls at hl ⊢
  have hl : lv_has ls 2 [(0, .ref (ad 2080)), (1, .int (nI x1))] := hl
  have hC0 := hC
  obtain ⟨hLn, hW, ⟨hAr, hWk, hPa, hFr⟩, hO, pt, hPt, hM⟩ := hC0
  unfold CSO at hO
  have hpb := hPt.2
  refine lv_iload_n hx hb dX6_makeNegative_0 rfl (lv_at hl 1 rfl) ?_
  refine lv_if_ge (tgt := 6) hx hb dX6_makeNegative_1 (by decide) (fun c_1 => ?_) (fun c_1 => absurd (mt (nI_leI (a := 0) (b := x1) (by decide) (by omega)).mpr c_1) (by omega))
  refine lv_aload_n hx hb dX6_makeNegative_6 rfl (lv_at hl 0 rfl) ?_
  refine lv_aload_n hx hb dX6_makeNegative_7 rfl (lv_at hl 0 rfl) ?_
  refine lv_iconst (v := -1) hx hb dX6_makeNegative_8 (by decide +kernel) ?_
  refine va_calli (va_runV (As := [.int (-1)]) (rest := [.ref (ad 2080)]) ⟨hx, hb, hml, hown, hts⟩ (c_V6_makeWhole l dC dI A ad cA g L (-1) (-1) hC (by decide)) (cwV 1 hts (goodIn_app (goodIn_r [Cond.methodLink RX6 101 yX6_makeWhole, Cond.instanceMethod yX6_makeWhole, Cond.selects RX6 yX6_makeWhole yX6_makeWhole, Cond.initialized RX6] [1, 2, 3, 4] rfl rfl) (goodIn_sub (fun w9 h9 => bk0 w9 h9) gw_V6_makeWhole)) rfl rfl rfl (by decide +kernel) ⟨Nat.le_of_ble_eq_true rfl, Nat.le_of_ble_eq_true rfl⟩) ⟨fun a U g mk q => ⟨q.1, q.2.1, q.2.2.1, LY.moved (u := U) (U := U.calling g mk a) (Vm.Alike.refl U.vm) q.2.2.2⟩, va_recv hK hP (ci := 9) (q0 := 2080) rfl (wo_at (by decide) hO), fun U hU hW => ⟨rfl, by rw [hU]; exact fun q h => hA q (Nat.le_trans hS.1 h), by rw [hU]; exact hP, LY.moved hW.alike hL⟩⟩ rfl rfl hl.1 rfl (lv_room (Nat.le_of_ble_eq_true rfl)) dX6_makeNegative_9 ⟨(Nat.le_of_ble_eq_true rfl), (Nat.le_of_ble_eq_true rfl)⟩) hS (fun q _ h => h) (fun q h => h) (fun r_2 u8 t8 H1 locs ht8 hvm8 hw_3 hB hz1 hk1 hS => ?_)
  obtain ⟨g_4, rfl⟩ : ∃ z, z = u8 := ⟨_, rfl⟩
  try dsimp only at hw_3 hB
  rw [ht8] at hB
  have hP := hB
  generalize H1 = H at hP hS ⊢
  obtain ⟨fr_5, hKK1⟩ := hw_3
  obtain ⟨K1, heK1⟩ : ∃ z : Int × List PD, z = numL L (-1) 1 := ⟨_, rfl⟩
  rw [← heK1] at hKK1
  have hokK1 : OKK L K1 := by rw [heK1]; exact OKK.num hWf ⟨by decide, by decide⟩
  have hleK1 := hokK1.2.1.1
  have hcK1 := hKK1.2.1
  have hloK1 := hKK1.2.2.1
  have hhiK1 := hKK1.2.2.2
  have hrK1 := hKK1.1
  have hlnK1 := hcK1.1
  rcases Int.lt_or_le K1.1 0 with hnK1 | hnK1
  · skip
    have hdK1 := hcK1
    obtain ⟨hLnK1, hWK1, ⟨hArK1, hWkK1, hPaK1, hFrK1⟩, hOK1, ptK1, hPtK1, hMK1⟩ := hdK1
    unfold CSO at hOK1
    have hpbK1 := hPtK1.2
    refine lv_iload_n hx hb dX6_makeNegative_12 rfl (lv_at hl 1 rfl) ?_
    refine va_calli (va_runV (As := [.int r_2, .int (nI x1)]) (rest := []) ⟨hx, hb, hml, hown, hts⟩ (c_V6_prdN l dC dI A ad cA g_4 r_2 (nI x1) K1.1 ((x1 : Nat) : Int) hrK1 (nI_iI x1) (by omega) (by omega) (by omega)) (cwV 2 hts (goodIn_app (goodIn_r [Cond.methodLink RX6 109 yX6_makeProduct, Cond.instanceMethod yX6_makeProduct, Cond.selects RX6 yX6_makeProduct yX6_makeProduct, Cond.initialized RX6] [5, 6, 7, 4] rfl rfl) (goodIn_sub (fun w9 h9 => bk1 w9 h9) gw_V6_prdN)) rfl rfl rfl (by decide +kernel) ⟨Nat.le_of_ble_eq_true rfl, Nat.le_of_ble_eq_true rfl⟩) ⟨fun a U g mk q => ⟨q.1, q.2.1, q.2.2.1, LY.moved (u := U) (U := U.calling g mk a) (Vm.Alike.refl U.vm) q.2.2.2⟩, va_recv hK hP (ci := 9) (q0 := 2080) rfl (wo_at (by decide) hOK1), fun U hU hW => ⟨rfl, by rw [hU]; exact fun q h => hA q (Nat.le_trans hS.1 h), by rw [hU]; exact hP, LY.moved hW.alike hL⟩⟩ rfl rfl hl.1 rfl (lv_room (Nat.le_of_ble_eq_true rfl)) dX6_makeNegative_13 ⟨(Nat.le_of_ble_eq_true rfl), (Nat.le_of_ble_eq_true rfl)⟩) hS (fun q _ h => h) (fun q h => h) (fun r_6 u8 t8 H1 locs ht8 hvm8 hw_7 hB hz1 hk1 hS => ?_)
    obtain ⟨⟩ := u8
    try dsimp only at hw_7 hB
    rw [ht8] at hB
    have hP := hB
    generalize H1 = H at hP hS ⊢
    have hrr : r_6 = r_2 := by rcases hw_7 with ⟨h8, h9⟩ | ⟨h8, h9⟩; exact h9; omega
    clear hw_7
    rw [hrr]
    refine W.widen (k := 0) (n := 0) (by omega) (by omega) ?_
    exact W.iret (v := r_2) hx hb hr (fun t9 ht9 hW9 => ⟨⟨r_2, g_4, rfl, ⟨(fun (k : Nat) (hk : (14 ≤ k ∧ k < 76) ∨ (876 ≤ k ∧ k < 2080) ∨ (2081 ≤ k ∧ k < 2117)) => (fr_5 k (by omega)).trans (rfl)), hKK1.to (by unfold negL; rw [← heK1]; exact seq_n hnK1) rfl⟩, by show va_P (dC, dI) vwCl _ t9.heap; rw [ht9]; exact hP⟩, hS.F ht9⟩) hS.2.2 dX6_makeNegative_16
  · skip
    have hdK1 := hcK1
    obtain ⟨hLnK1, hWK1, ⟨hArK1, hWkK1, hPaK1, hFrK1⟩, hOK1, ptK1, hPtK1, hMK1⟩ := hdK1
    unfold CSO at hOK1
    have hpbK1 := hPtK1.2
    obtain ⟨nK1, hiK1⟩ : ∃ z : Nat, K1.1 = (z : Int) := ⟨K1.1.toNat, by omega⟩
    have hsK1 : r_2 = nI nK1 := by rw [hrK1, hiK1]; exact (nI_iI _).symm
    rw [hsK1]
    refine lv_iload_n hx hb dX6_makeNegative_12 rfl (lv_at hl 1 rfl) ?_
    refine va_calli (va_runV (As := [.int (nI nK1), .int (nI x1)]) (rest := []) ⟨hx, hb, hml, hown, hts⟩ (c_V6_makeProduct l dC dI A ad cA g_4 K1.2 nK1 x1 hcK1 hokK1.1 (by omega) (by omega)) (cwV 2 hts (goodIn_app (goodIn_r [Cond.methodLink RX6 109 yX6_makeProduct, Cond.instanceMethod yX6_makeProduct, Cond.selects RX6 yX6_makeProduct yX6_makeProduct, Cond.initialized RX6] [5, 6, 7, 4] rfl rfl) (goodIn_sub (fun w9 h9 => bk2 w9 h9) gw_V6_makeProduct)) rfl rfl rfl (by decide +kernel) ⟨Nat.le_of_ble_eq_true rfl, Nat.le_of_ble_eq_true rfl⟩) ⟨fun a U g mk q => ⟨q.1, q.2.1, q.2.2.1, LY.moved (u := U) (U := U.calling g mk a) (Vm.Alike.refl U.vm) q.2.2.2⟩, va_recv hK hP (ci := 9) (q0 := 2080) rfl (wo_at (by decide) hOK1), fun U hU hW => ⟨rfl, by rw [hU]; exact fun q h => hA q (Nat.le_trans hS.1 h), by rw [hU]; exact hP, LY.moved hW.alike hL⟩⟩ rfl rfl hl.1 rfl (lv_room (Nat.le_of_ble_eq_true rfl)) dX6_makeNegative_13 ⟨(Nat.le_of_ble_eq_true rfl), (Nat.le_of_ble_eq_true rfl)⟩) hS (fun q _ h => h) (fun q h => h) (fun r_8 u8 t8 H1 locs ht8 hvm8 hw_9 hB hz1 hk1 hS => ?_)
    obtain ⟨g_10, rfl⟩ : ∃ z, z = u8 := ⟨_, rfl⟩
    try dsimp only at hw_9 hB
    rw [ht8] at hB
    have hP := hB
    generalize H1 = H at hP hS ⊢
    obtain ⟨fr_11, hKK2⟩ := hw_9
    obtain ⟨K2, heK2⟩ : ∃ z : Int × List PD, z = prdL K1.2 nK1 x1 := ⟨_, rfl⟩
    rw [← heK2] at hKK2
    have hokK2 : OKK K1.2 K2 := by rw [heK2]; exact OKK.prd hokK1.1 (by omega) (by omega)
    have hleK2 := hokK2.2.1.1
    have hcK2 := hKK2.2.1
    have hloK2 := hKK2.2.2.1
    have hhiK2 := hKK2.2.2.2
    have hrK2 := hKK2.1
    have hlnK2 := hcK2.1
    rcases Int.lt_or_le K2.1 0 with hnK2 | hnK2
    · skip
      have hdK2 := hcK2
      obtain ⟨hLnK2, hWK2, ⟨hArK2, hWkK2, hPaK2, hFrK2⟩, hOK2, ptK2, hPtK2, hMK2⟩ := hdK2
      unfold CSO at hOK2
      have hpbK2 := hPtK2.2
      refine W.widen (k := 0) (n := 0) (by omega) (by omega) ?_
      exact W.iret (v := r_8) hx hb hr (fun t9 ht9 hW9 => ⟨⟨r_8, g_10, rfl, ⟨(fun (k : Nat) (hk : (14 ≤ k ∧ k < 76) ∨ (876 ≤ k ∧ k < 2080) ∨ (2081 ≤ k ∧ k < 2117)) => (fr_11 k (by omega)).trans ((fr_5 k (by omega)).trans (rfl))), hKK2.to (by unfold negL; rw [← heK1, heK2]; exact seq_p hiK1) rfl⟩, by show va_P (dC, dI) vwCl _ t9.heap; rw [ht9]; exact hP⟩, hS.F ht9⟩) hS.2.2 dX6_makeNegative_16
    · skip
      have hdK2 := hcK2
      obtain ⟨hLnK2, hWK2, ⟨hArK2, hWkK2, hPaK2, hFrK2⟩, hOK2, ptK2, hPtK2, hMK2⟩ := hdK2
      unfold CSO at hOK2
      have hpbK2 := hPtK2.2
      obtain ⟨nK2, hiK2⟩ : ∃ z : Nat, K2.1 = (z : Int) := ⟨K2.1.toNat, by omega⟩
      have hsK2 : r_8 = nI nK2 := by rw [hrK2, hiK2]; exact (nI_iI _).symm
      rw [hsK2]
      refine W.widen (k := 0) (n := 0) (by omega) (by omega) ?_
      exact W.iret (v := nI nK2) hx hb hr (fun t9 ht9 hW9 => ⟨⟨nI nK2, g_10, rfl, ⟨(fun (k : Nat) (hk : (14 ≤ k ∧ k < 76) ∨ (876 ≤ k ∧ k < 2080) ∨ (2081 ≤ k ∧ k < 2117)) => (fr_11 k (by omega)).trans ((fr_5 k (by omega)).trans (rfl))), hKK2.to (by unfold negL; rw [← heK1, heK2]; exact seq_p hiK1) hsK2.symm⟩, by show va_P (dC, dI) vwCl _ t9.heap; rw [ht9]; exact hP⟩, hS.F ht9⟩) hS.2.2 dX6_makeNegative_16
