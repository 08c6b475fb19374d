def wd_X10_put : List Cond := .code yX10_put cX10_put 2 none :: (([.fieldLink RX10 278 "GradientDeskModel" "count" "I", .fieldLink RX10 65 "GradientDeskModel" "draft" "[I"] : List Cond) ++ (u_ws RX10 TX10 29 ++ ([])))
theorem gw_X10_put : wd_X10_put.all goodWord = true := k_allc rfl (k_all (by decide +kernel) (k_all (gu_X10) (rfl)))
set_option maxHeartbeats 4000000 in
set_option maxRecDepth 100000 in
theorem c_X10_put (l : Launch) (dC : Nat → ClassId) (dI : Nat → Nat → Nat) (A : Nat → Prop) (ad : Nat → Nat) (cA : Nat → ClassId) (g : Nat → va_E) (x : Nat → Int32) (f17 : Nat → Int) (cn : Nat) (c1 : Int) (h0 : g 0 = .inr (13, Rob ad x)) (h17 : g 17 = .inl (cA 17, 256, .inl (fun j => iI (f17 j)))) (h9 : x 9 = nI cn) (hcn : cn ≤ 100000) : Met l yX10_put wd_X10_put ({ frames := 10, cells := 0, slots := 0, locals := 200 }) (va_Pc [.ref (ad 0), .int (iI c1)] (PR NSr tyr dC dI A ad cA g)) (va_Qv (fun (u : Nat → va_E) => match u with | g2 => (∀ k, k ≠ 0 ∧ k ≠ 17 → g2 k = g k) ∧ g2 0 = .inr (13, Rob ad (va_up x 9 (nI (cn + 1)))) ∧ g2 17 = .inl (cA 17, 256, .inl (fun j => iI ((if cn < 250 then va_up f17 cn c1 else f17) j)))) (fun (u : Nat → va_E) (t : State) => va_P (dC, dI) vwCl (wo ad NSr u) t.heap) A) (0) (0) A := by
  refine Met.ofW (cc := cX10_put) (maxL := 2) (ret := none) (by decide) rfl ?_
  intro p e s m args below meth c s₁ B hml hv
  obtain ⟨rfl, hA, hP, hL⟩ := hv
  have hx := B.exec
  have hb := B.bytes
  have hr := B.returns
  have hts := atoms_spec (ws := wd_X10_put) B.pre
  have hown : s.vm.findClass RX10 = some m.cls := findClass_of_methodNamed B.named
  have hlocks := B.notSynchronized
  have hK := hL.1
  have hD : ∀ g, va_D A (wo ad NSr g) := fun g => wo_D hL.2.1 hL.2.2 g
  have hS : va_S A s.heap s.heap [] := va_S.rf
  have bk0 : ∀ w ∈ u_ws RX10 TX10 29, w ∈ wd_X10_put := fun _ h => List.mem_cons_of_mem _ (List.mem_append_right _ (List.mem_append_left _ h))
  have hl := lv_entry ([.ref (ad 0), .int (iI c1)]) (n := 2) (Nat.le_of_ble_eq_true rfl)
  rw [lg_entry_eq]
  generalize (lg_sl ([.ref (ad 0), .int (iI c1)]) ++ List.replicate (2 - (lg_sl ([.ref (ad 0), .int (iI c1)])).length) Slot.unset).toArray = ls at hl ⊢
  have hl : lv_has ls 2 [(0, .ref (ad 0)), (1, .int (iI c1))] := hl
  refine lv_aload_n hx hb dX10_put_0 rfl (lv_at hl 0 rfl) ?_
  refine m_get (D := (dC, dI)) (v := .int (nI cn)) (C := RX10) (T := TX10) (N := 29) hx hb hts bk0 hown hK hP 0 (by decide) h0 rfl 28 (by decide) (hts (.fieldLink RX10 278 "GradientDeskModel" "count" "I") (List.mem_of_getElem? (i := 1) rfl)) (fun _ h9 => h9) (congrArg (fun z => some (Value.int z)) h9) dX10_put_1 ?_
  refine lv_sipush (v := nI 250) hx hb dX10_put_4 (by decide +kernel) ?_
  refine lv_icmp_ge (tgt := 20) hx hb dX10_put_7 (by decide) (fun c_1 => ?_) (fun c_1 => ?_)
  · have c_1 := (nI_leI (a := 250) (b := cn) (by decide) (by omega)).mp c_1
    refine lv_aload_n hx hb dX10_put_20 rfl (lv_at hl 0 rfl) ?_
    refine lv_dup hx hb dX10_put_21 rfl ?_
    refine m_get (D := (dC, dI)) (v := .int (nI cn)) (C := RX10) (T := TX10) (N := 29) hx hb hts bk0 hown hK hP 0 (by decide) h0 rfl 28 (by decide) (hts (.fieldLink RX10 278 "GradientDeskModel" "count" "I") (List.mem_of_getElem? (i := 1) rfl)) (fun _ h9 => h9) (congrArg (fun z => some (Value.int z)) h9) dX10_put_22 ?_
    refine lv_iconst (v := nI 1) hx hb dX10_put_25 (by decide +kernel) ?_
    refine lv_iadd hx hb dX10_put_26 ?_
    refine lv_topi (fun x_2 e_3 => ?_)
    obtain rfl : x_2 = nI (cn + 1) := e_3.trans (nI_add cn 1)
    refine m_put (D := (dC, dI)) (v := .int (nI (cn + 1))) (tv := .int) (C := RX10) (T := TX10) (N := 29) hx hb hts bk0 tyX10 tyX10_ok nmX10 hown hK hP hD hS 0 (by decide) h0 rfl 28 (by decide) (hts (.fieldLink RX10 278 "GradientDeskModel" "count" "I") (List.mem_of_getElem? (i := 1) rfl)) (fun _ h9 => h9) rfl (by decide +kernel) rfl rfl (Nat.le_of_ble_eq_true rfl) dX10_put_27 (fun H locs g_4 f_5 fr_6 hP hS => ?_)
    have f_5 : g_4 0 = .inr (13, Rob ad (va_up x 9 (nI (cn + 1)))) := f_5
    have f_7 : g_4 17 = .inl (cA 17, 256, .inl (fun j => iI (f17 j))) := (fr_6 17 (by omega)).trans h17
    refine W.widen (k := 0) (n := 0) (by omega) (by omega) ?_
    exact W.vret hx hb hr (fun t9 ht9 hW9 => ⟨⟨g_4, rfl, ⟨(fun (k : Nat) (hk : k ≠ 0 ∧ k ≠ 17) => (fr_6 k (by omega)).trans (rfl)), f_5, by rw [if_neg (by omega)]; exact f_7⟩, by show va_P (dC, dI) vwCl _ t9.heap; rw [ht9]; exact hP⟩, hS.F ht9⟩) hS.2.2 dX10_put_30
  · have c_1 := mt (nI_leI (a := 250) (b := cn) (by decide) (by omega)).mpr c_1
    refine lv_aload_n hx hb dX10_put_10 rfl (lv_at hl 0 rfl) ?_
    refine m_get (D := (dC, dI)) (v := .ref (ad 17)) (C := RX10) (T := TX10) (N := 29) hx hb hts bk0 hown hK hP 0 (by decide) h0 rfl 24 (by decide) (hts (.fieldLink RX10 65 "GradientDeskModel" "draft" "[I") (List.mem_of_getElem? (i := 2) rfl)) (fun _ h9 => h9) rfl dX10_put_11 ?_
    refine lv_aload_n hx hb dX10_put_14 rfl (lv_at hl 0 rfl) ?_
    refine m_get (D := (dC, dI)) (v := .int (nI cn)) (C := RX10) (T := TX10) (N := 29) hx hb hts bk0 hown hK hP 0 (by decide) h0 rfl 28 (by decide) (hts (.fieldLink RX10 278 "GradientDeskModel" "count" "I") (List.mem_of_getElem? (i := 1) rfl)) (fun _ h9 => h9) (congrArg (fun z => some (Value.int z)) h9) dX10_put_15 ?_
    refine lv_iload_n hx hb dX10_put_18 rfl (lv_at hl 1 rfl) ?_
    refine m_iast hx hb hK hP hD hS 17 (by decide) rfl h17 (i := cn) (x := iI c1) (by omega) (by decide) dX10_put_19 (fun H locs g_8 f_9 fr_10 hP hS => ?_)
    rw [k_updZ] at f_9
    have f_9 : g_8 17 = .inl (cA 17, 256, .inl (fun j => iI ((va_up f17 cn c1) j))) := f_9
    refine lv_aload_n hx hb dX10_put_20 rfl (lv_at hl 0 rfl) ?_
    refine lv_dup hx hb dX10_put_21 rfl ?_
    have f_11 : g_8 0 = .inr (13, Rob ad x) := (fr_10 0 (by omega)).trans h0
    refine m_get (D := (dC, dI)) (v := .int (nI cn)) (C := RX10) (T := TX10) (N := 29) hx hb hts bk0 hown hK hP 0 (by decide) f_11 rfl 28 (by decide) (hts (.fieldLink RX10 278 "GradientDeskModel" "count" "I") (List.mem_of_getElem? (i := 1) rfl)) (fun _ h9 => h9) (congrArg (fun z => some (Value.int z)) h9) dX10_put_22 ?_
    refine lv_iconst (v := nI 1) hx hb dX10_put_25 (by decide +kernel) ?_
    refine lv_iadd hx hb dX10_put_26 ?_
    refine lv_topi (fun x_12 e_13 => ?_)
    obtain rfl : x_12 = nI (cn + 1) := e_13.trans (nI_add cn 1)
    refine m_put (D := (dC, dI)) (v := .int (nI (cn + 1))) (tv := .int) (C := RX10) (T := TX10) (N := 29) hx hb hts bk0 tyX10 tyX10_ok nmX10 hown hK hP hD hS 0 (by decide) f_11 rfl 28 (by decide) (hts (.fieldLink RX10 278 "GradientDeskModel" "count" "I") (List.mem_of_getElem? (i := 1) rfl)) (fun _ h9 => h9) rfl (by decide +kernel) rfl rfl (Nat.le_of_ble_eq_true rfl) dX10_put_27 (fun H locs g_14 f_15 fr_16 hP hS => ?_)
    have f_15 : g_14 0 = .inr (13, Rob ad (va_up x 9 (nI (cn + 1)))) := f_15
    have f_17 : g_14 17 = .inl (cA 17, 256, .inl (fun j => iI ((va_up f17 cn c1) j))) := (fr_16 17 (by omega)).trans f_9
    refine W.widen (k := 0) (n := 0) (by omega) (by omega) ?_
    exact W.vret hx hb hr (fun t9 ht9 hW9 => ⟨⟨g_14, rfl, ⟨(fun (k : Nat) (hk : k ≠ 0 ∧ k ≠ 17) => (fr_16 k (by omega)).trans ((fr_10 k (by omega)).trans (rfl))), f_15, by rw [if_pos (by omega)]; exact f_17⟩, by show va_P (dC, dI) vwCl _ t9.heap; rw [ht9]; exact hP⟩, hS.F ht9⟩) hS.2.2 dX10_put_30
def wd_X10_putSize : List Cond := .code yX10_putSize cX10_putSize 8 none :: (([.methodLink RX10 92 yX10_copy, .instanceMethod yX10_copy, .selects RX10 yX10_copy yX10_copy, .initialized RX10, .fieldLink RX10 14 "GradientDeskModel" "length" "[I", .fieldLink RX10 18 "GradientDeskModel" "below" "[Z", .methodLink RX10 83 yX10_trim, .instanceMethod yX10_trim, .selects RX10 yX10_trim yX10_trim, .fieldLink RX10 68 "GradientDeskModel" "digits" "[I", .fieldLink RX10 8 "GradientDeskModel" "pieces" "[J", .constant RX10 281 (164960), .constantLong RX10 282 (10), .methodLink RX10 284 yX10_put, .instanceMethod yX10_put, .selects RX10 yX10_put yX10_put] : List Cond) ++ (wd_X10_copy ++ (u_ws RX10 TX10 29 ++ (wd_X10_trim ++ (wd_X10_put ++ ([]))))))
theorem gw_X10_putSize : wd_X10_putSize.all goodWord = true := k_allc rfl (k_all (by decide +kernel) (k_all (gw_X10_copy) (k_all (gu_X10) (k_all (gw_X10_trim) (k_all (gw_X10_put) (rfl))))))
set_option maxHeartbeats 4000000 in
set_option maxRecDepth 100000 in
theorem c_X10_putSize (l : Launch) (dC : Nat → ClassId) (dI : Nat → Nat → Nat) (A : Nat → Prop) (ad : Nat → Nat) (cA : Nat → ClassId) (g : Nat → va_E) (x : Nat → Int32) (vf : Nat → Int) (t : Nat) (f17 : Nat → Int) (f18 : Nat → Int) (cn : Nat) (hV : RV ad cA g x vf) (ht : t < 2060) (hvb : (vf t).natAbs < 2 ^ 410) (h17 : g 17 = .inl (cA 17, 256, .inl (fun j => iI (f17 j)))) (h18 : g 18 = .inl (cA 18, 200, .inl (fun j => iI (f18 j)))) (hx9c : x 9 = nI cn) (hcn : cn ≤ 50000) : Met l yX10_putSize wd_X10_putSize ({ frames := 20, cells := 0, slots := 0, locals := 400 }) (va_Pc [.ref (ad 0), .int (nI t)] (PR NSr tyr dC dI A ad cA g)) (va_Qv (fun (u : (Nat → va_E) × (Nat → Int) × (Nat → Int)) => match u with | (g2, vf2, f3) => (∀ k, k ≠ 0 ∧ k ≠ 1 ∧ k ≠ 2 ∧ k ≠ 3 ∧ k ≠ 17 ∧ k ≠ 18 → g2 k = g k) ∧ RV ad cA g2 (va_up x 9 (nI (cn + (decL (vf t).natAbs).length))) vf2 ∧ (∀ j, j < 2060 → vf2 j = vf j) ∧ g2 17 = .inl (cA 17, 256, .inl (fun j => iI (dwr f17 cn (decL (vf t).natAbs) j))) ∧ g2 18 = .inl (cA 18, 200, .inl (fun j => iI (f3 j))) ∧ (decL (vf t).natAbs).length ≤ 131) (fun (u : (Nat → va_E) × (Nat → Int) × (Nat → Int)) (t : State) => va_P (dC, dI) vwCl (wo ad NSr u.1) t.heap) A) (0) (0) A := by
  refine Met.ofW (cc := cX10_putSize) (maxL := 8) (ret := none) (by decide) rfl ?_
  intro p e s m args below meth c s₁ B hml hv
  obtain ⟨rfl, hA, hP, hL⟩ := hv
  have hx := B.exec
  have hb := B.bytes
  have hr := B.returns
  have hts := atoms_spec (ws := wd_X10_putSize) B.pre
  have hown : s.vm.findClass RX10 = some m.cls := findClass_of_methodNamed B.named
  have hlocks := B.notSynchronized
  have hK := hL.1
  have hD : ∀ g, va_D A (wo ad NSr g) := fun g => wo_D hL.2.1 hL.2.2 g
  have hS : va_S A s.heap s.heap [] := va_S.rf
  have bk0 : ∀ w ∈ wd_X10_copy, w ∈ wd_X10_putSize := fun _ h => List.mem_cons_of_mem _ (List.mem_append_right _ (List.mem_append_left _ h))
  have bk1 : ∀ w ∈ u_ws RX10 TX10 29, w ∈ wd_X10_putSize := fun _ h => List.mem_cons_of_mem _ (List.mem_append_right _ (List.mem_append_right _ (List.mem_append_left _ h)))
  have bk2 : ∀ w ∈ wd_X10_trim, w ∈ wd_X10_putSize := fun _ h => List.mem_cons_of_mem _ (List.mem_append_right _ (List.mem_append_right _ (List.mem_append_right _ (List.mem_append_left _ h))))
  have bk3 : ∀ w ∈ wd_X10_put, w ∈ wd_X10_putSize := fun _ h => List.mem_cons_of_mem _ (List.mem_append_right _ (List.mem_append_right _ (List.mem_append_right _ (List.mem_append_right _ (List.mem_append_left _ h)))))
  have hl := lv_entry ([.ref (ad 0), .int (nI t)]) (n := 8) (Nat.le_of_ble_eq_true rfl)
  rw [lg_entry_eq]
  generalize (lg_sl ([.ref (ad 0), .int (nI t)]) ++ List.replicate (8 - (lg_sl ([.ref (ad 0), .int (nI t)])).length) Slot.unset).toArray = ls at hl ⊢
  have hl : lv_has ls 8 [(0, .ref (ad 0)), (1, .int (nI t))] := hl
  have hc_1 := hV
  obtain ⟨pnz_2, lnz_2, bnz_2, hRz_2, hvz_2⟩ := hc_1
  obtain ⟨r_3, r_4, r_5, r_6, r_7, r_8, r_9⟩ := hRz_2
  refine lv_aload_n hx hb dX10_putSize_0 rfl (lv_at hl 0 rfl) ?_
  refine lv_sipush (v := nI 2062) hx hb dX10_putSize_1 (by decide +kernel) ?_
  refine lv_iload_n hx hb dX10_putSize_4 rfl (lv_at hl 1 rfl) ?_
  have hc_10 := hV
  obtain ⟨pnz_11, lnz_11, bnz_11, hRz_11, hvz_11⟩ := hc_10
  obtain ⟨r_12, r_13, r_14, r_15, r_16, r_17, r_18⟩ := hRz_11
  have l80 := (hvz_11 t (by omega)).1
  have hR_22 : RN ad cA g x pnz_11 lnz_11 bnz_11 := ⟨r_12, r_13, r_14, r_15, r_16, r_17, r_18⟩
  refine va_callv (va_runV (As := [.int (nI 2062), .int (nI t)]) (rest := []) ⟨hx, hb, hml, hown, hts⟩ (c_X10_copy l dC dI A ad cA g x pnz_11 lnz_11 bnz_11 2062 t hR_22 (by omega) (by omega) l80) (cwV 2 hts (goodIn_app (goodIn_r [Cond.methodLink RX10 92 yX10_copy, Cond.instanceMethod yX10_copy, Cond.selects RX10 yX10_copy yX10_copy, Cond.initialized RX10] [1, 2, 3, 4] rfl rfl) (goodIn_sub (fun w9 h9 => bk0 w9 h9) gw_X10_copy)) rfl rfl rfl (by decide +kernel) ⟨Nat.le_of_ble_eq_true rfl, Nat.le_of_ble_eq_true rfl⟩) ⟨fun a U g mk q => ⟨q.1, q.2.1, q.2.2.1, LY.moved (u := U) (U := U.calling g mk a) (Vm.Alike.refl U.vm) q.2.2.2⟩, va_recv hK hP (ci := 13) (q0 := 0) rfl (wo_at (by decide) r_12), fun U hU hW => ⟨rfl, by rw [hU]; exact fun q h => hA q (Nat.le_trans hS.1 h), by rw [hU]; exact hP, LY.moved hW.alike hL⟩⟩ rfl rfl hl.1 rfl (lv_room (Nat.le_of_ble_eq_true rfl)) dX10_putSize_5 ⟨(Nat.le_of_ble_eq_true rfl), (Nat.le_of_ble_eq_true rfl)⟩) hS (fun q _ h => h) (fun q h => h) (fun u8 t8 H1 locs ht8 hvm8 hw_23 hB hz1 hk1 hS => ?_)
  obtain ⟨g_24, pn2_25⟩ := u8
  try dsimp only at hw_23 hB
  rw [ht8] at hB
  have hP := hB
  generalize H1 = H at hP hS ⊢
  obtain ⟨fr_26, hR_19, h_20, h_21⟩ := hw_23
  have hV_27 : RV ad cA g_24 x (va_up vf 2062 (vf t)) := RV.copy hR_19 hvz_11 (by omega) h_20 h_21
  obtain ⟨vf_28, evf_28⟩ : ∃ z9, z9 = va_up vf 2062 (vf t) := ⟨_, rfl⟩
  rw [← evf_28] at hV_27
  have uvf_28 : vf_28 2062 = vf t := by rw [evf_28]; exact va_up_self _ _ _
  have ovf_28 : ∀ j, j ≠ 2062 → vf_28 j = vf j := fun j hj => by rw [evf_28]; exact va_up_ne _ _ hj
  have hc_29 := hV_27
  obtain ⟨pnz_30, lnz_30, bnz_30, hRz_30, hvz_30⟩ := hc_29
  obtain ⟨r_31, r_32, r_33, r_34, r_35, r_36, r_37⟩ := hRz_30
  refine lv_iconst (v := nI 0) hx hb dX10_putSize_8 (by decide +kernel) ?_
  refine lv_istore_n (lv' := [(2, .int (nI 0)), (0, .ref (ad 0)), (1, .int (nI t))]) hx hb dX10_putSize_9 rfl hl (by decide) rfl (fun ls hl => ?_)
  have loop_38 : ∀ (k9 : Nat) (n : Nat) (vfn : Nat → Int) (fd : Nat → Int) (g_40 : Nat → va_E) (fr_41 : ∀ k, (k ≠ 1 ∧ k ≠ 2 ∧ k ≠ 3 ∧ k ≠ 18) → g_40 k = g_24 k), 200 - n < k9 → (n ≤ 131) → (n = 0 ∨ n = 1 ∨ (vf t).natAbs / 10 ^ (n - 1) ≠ 0) → ((vfn 2062).natAbs = (vf t).natAbs / 10 ^ n) → (∀ j, j < 2060 → vfn j = vf j) → (∀ j, j < n → fd j = (((vf t).natAbs / 10 ^ j % 10 : Nat) : Int)) → (g_40 18 = .inl (cA 18, 200, .inl (fun j => iI (fd j)))) → (RV ad cA g_40 x vfn) → ∀ (H : Heap) (locs : List Loc) (ls : Array Slot), va_P (dC, dI) vwCl (wo ad NSr g_40) H → va_S A s.heap H locs → lv_has ls 8 [(0, .ref (ad 0)), (1, .int (nI t)), (2, .int (nI n))] → W p l e (headSpec wd_X10_putSize ({ frames := 20, cells := 0, slots := 0, locals := 400 })).room s m ([.ref (ad 0), .int (nI t)] : List Value).toArray below meth c H locs (0) (0) (MQ below (va_Qv (fun (u : (Nat → va_E) × (Nat → Int) × (Nat → Int)) => match u with | (g2, vf2, f3) => (∀ k, k ≠ 0 ∧ k ≠ 1 ∧ k ≠ 2 ∧ k ≠ 3 ∧ k ≠ 17 ∧ k ≠ 18 → g2 k = g k) ∧ RV ad cA g2 (va_up x 9 (nI (cn + (decL (vf t).natAbs).length))) vf2 ∧ (∀ j, j < 2060 → vf2 j = vf j) ∧ g2 17 = .inl (cA 17, 256, .inl (fun j => iI (dwr f17 cn (decL (vf t).natAbs) j))) ∧ g2 18 = .inl (cA 18, 200, .inl (fun j => iI (f3 j))) ∧ (decL (vf t).natAbs).length ≤ 131) (fun (u : (Nat → va_E) × (Nat → Int) × (Nat → Int)) (t : State) => va_P (dC, dI) vwCl (wo ad NSr u.1) t.heap) A) ([.ref (ad 0), .int (nI t)] : List Value).toArray s (0) (0) A) (F0 m 10 ls []) := by
    intro k9
    induction k9 with
    | zero => intro n vfn fd g_40 fr_41 h9; exact absurd h9 (Nat.not_lt_zero _)
    | succ k9 ih_39 =>
      intro n vfn fd g_40 fr_41 h9 hn hnw hrv hvo hdd f_42 hVL H locs ls hP hS hl
      have hc_43 := hVL
      obtain ⟨pnz_44, lnz_44, bnz_44, hRz_44, hvz_44⟩ := hc_43
      obtain ⟨r_45, r_46, r_47, r_48, r_49, r_50, r_51⟩ := hRz_44
      have hv0 := hvz_44 2062 (by decide)
      have hz0 := hv0.zero
      have hl0 := hv0.1
      refine lv_aload_n hx hb dX10_putSize_10 rfl (lv_at hl 0 rfl) ?_
      refine m_get (D := (dC, dI)) (v := .ref (ad 2)) (C := RX10) (T := TX10) (N := 29) hx hb hts bk1 hown hK hP 0 (by decide) r_45 rfl 2 (by decide) (hts (.fieldLink RX10 14 "GradientDeskModel" "length" "[I") (List.mem_of_getElem? (i := 5) rfl)) (fun _ h9 => h9) rfl dX10_putSize_11 ?_
      refine lv_sipush (v := nI 2062) hx hb dX10_putSize_14 (by decide +kernel) ?_
      refine m_iald hx hb hK hP 2 (by decide) rfl r_47 (i := 2062) (by decide) (by decide) dX10_putSize_17 ?_
      have b_52 := r_50 2062
      refine lv_if_gt (tgt := 25) hx hb dX10_putSize_18 (by decide) (fun c_53 => ?_) (fun c_53 => ?_)
      · have c_53 := (nI_ltI (a := 0) (b := (lnz_44 2062)) (by decide) (by omega)).mp c_53
        have hnz : 0 < n → (vf t).natAbs / 10 ^ n ≠ 0 := fun h9 => by rw [← hrv]; omega
        have hn9 : n ≤ 130 := by rcases Nat.eq_zero_or_pos n with h9 | h9; omega; have := k_d410 hvb (hnz h9); omega
        obtain ⟨X9, hX9⟩ : ∃ z9, z9 = (vfn 2062).natAbs := ⟨_, rfl⟩
        have hlen := r_50 2062
        refine lv_lconst (v := lN 0) hx hb dX10_putSize_25 (by decide +kernel) ?_
        refine lv_lstore_n (lv' := [(3, .long (lN 0)), (0, .ref (ad 0)), (1, .int (nI t)), (2, .int (nI n))]) hx hb dX10_putSize_26 rfl hl (by decide) rfl (fun ls hl => ?_)
        refine lv_aload_n hx hb dX10_putSize_27 rfl (lv_at hl 1 rfl) ?_
        refine m_get (D := (dC, dI)) (v := .ref (ad 2)) (C := RX10) (T := TX10) (N := 29) hx hb hts bk1 hown hK hP 0 (by decide) r_45 rfl 2 (by decide) (hts (.fieldLink RX10 14 "GradientDeskModel" "length" "[I") (List.mem_of_getElem? (i := 5) rfl)) (fun _ h9 => h9) rfl dX10_putSize_28 ?_
        refine lv_sipush (v := nI 2062) hx hb dX10_putSize_31 (by decide +kernel) ?_
        refine m_iald hx hb hK hP 2 (by decide) rfl r_47 (i := 2062) (by decide) (by decide) dX10_putSize_34 ?_
        have b_54 := r_50 2062
        refine lv_iconst (v := nI 1) hx hb dX10_putSize_35 (by decide +kernel) ?_
        refine lv_isub hx hb dX10_putSize_36 ?_
        refine lv_istore (lv' := [(5, .int (nI (lnz_44 2062) - nI 1)), (3, .long (lN 0)), (0, .ref (ad 0)), (1, .int (nI t)), (2, .int (nI n))]) hx hb dX10_putSize_37 hl (by decide) rfl (fun ls hl => ?_)
        have loop_55 : ∀ (k9 : Nat) (d : Nat) (q : Nat → Nat) (rs : Nat) (g_57 : Nat → va_E) (fr_58 : ∀ k, (k ≠ 1) → g_57 k = g_40 k), d < k9 → (d ≤ lnz_44 2062) → (∀ j, q j < 4294967296) → (rs = X9 / 4294967296 ^ d % 10) → (∀ j, ¬ (164960 + d ≤ j ∧ j < 164960 + (lnz_44 2062)) → q j = pnz_44 j) → (∀ j, d ≤ j → j < lnz_44 2062 → q (164960 + j) = dgt (X9 / 10) j) → (g_57 1 = .inl (cA 1, 165440, .inr (.inl (fun j => lN (q j))))) → ∀ (H : Heap) (locs : List Loc) (ls : Array Slot), va_P (dC, dI) vwCl (wo ad NSr g_57) H → va_S A s.heap H locs → lv_has ls 8 [(0, .ref (ad 0)), (1, .int (nI t)), (2, .int (nI n)), (3, .long (lN rs)), (5, .int (nI d - nI 1))] → W p l e (headSpec wd_X10_putSize ({ frames := 20, cells := 0, slots := 0, locals := 400 })).room s m ([.ref (ad 0), .int (nI t)] : List Value).toArray below meth c H locs (0) (0) (MQ below (va_Qv (fun (u : (Nat → va_E) × (Nat → Int) × (Nat → Int)) => match u with | (g2, vf2, f3) => (∀ k, k ≠ 0 ∧ k ≠ 1 ∧ k ≠ 2 ∧ k ≠ 3 ∧ k ≠ 17 ∧ k ≠ 18 → g2 k = g k) ∧ RV ad cA g2 (va_up x 9 (nI (cn + (decL (vf t).natAbs).length))) vf2 ∧ (∀ j, j < 2060 → vf2 j = vf j) ∧ g2 17 = .inl (cA 17, 256, .inl (fun j => iI (dwr f17 cn (decL (vf t).natAbs) j))) ∧ g2 18 = .inl (cA 18, 200, .inl (fun j => iI (f3 j))) ∧ (decL (vf t).natAbs).length ≤ 131) (fun (u : (Nat → va_E) × (Nat → Int) × (Nat → Int)) (t : State) => va_P (dC, dI) vwCl (wo ad NSr u.1) t.heap) A) ([.ref (ad 0), .int (nI t)] : List Value).toArray s (0) (0) A) (F0 m 39 ls []) := by
          intro k9
          induction k9 with
          | zero => intro d q rs g_57 fr_58 h9; exact absurd h9 (Nat.not_lt_zero _)
          | succ k9 ih_56 =>
            intro d q rs g_57 fr_58 h9 hd hqb hr9 hqo hqd f_59 H locs ls hP hS hl
            refine lv_iload hx hb dX10_putSize_39 (lv_at hl 4 rfl) ?_
            refine lv_if_lt (tgt := 92) hx hb dX10_putSize_41 (by decide) (fun c_60 => ?_) (fun c_60 => ?_)
            · have c_60 := (k_m1lt (d := d) (by omega)).mp c_60
              have hd0 : d = 0 := by omega
              rw [hd0] at hqd hr9
              have hrs : rs = (vf t).natAbs / 10 ^ n % 10 := by rw [hr9, Nat.pow_zero, Nat.div_one, hX9, hrv]
              refine lv_aload_n hx hb dX10_putSize_92 rfl (lv_at hl 0 rfl) ?_
              have f_61 : g_57 0 = .inr (13, Rob ad x) := (fr_58 0 (by omega)).trans r_45
              refine m_get (D := (dC, dI)) (v := .ref (ad 3)) (C := RX10) (T := TX10) (N := 29) hx hb hts bk1 hown hK hP 0 (by decide) f_61 rfl 3 (by decide) (hts (.fieldLink RX10 18 "GradientDeskModel" "below" "[Z") (List.mem_of_getElem? (i := 6) rfl)) (fun _ h9 => h9) rfl dX10_putSize_93 ?_
              refine lv_sipush (v := nI 2062) hx hb dX10_putSize_96 (by decide +kernel) ?_
              refine lv_iconst (v := nI 0) hx hb dX10_putSize_99 (by decide +kernel) ?_
              have f_62 : g_57 3 = .inl (cA 3, 2068, .inl (fun j => nI (bnz_44 j))) := (fr_58 3 (by omega)).trans r_48
              refine m_zast hx hb hK hP hD hS 3 (by decide) rfl f_62 (i := 2062) (x := nI 0) (y := nI 0) (by decide +kernel) (by decide) (by decide) dX10_putSize_100 (fun H locs g_63 f_64 fr_65 hP hS => ?_)
              rw [k_updI] at f_64
              have b_66 : ∀ j, (va_up bnz_44 2062 0) j < 2 := k_up_lt r_51 (by omega)
              have f_64 : g_63 3 = .inl (cA 3, 2068, .inl (fun j => nI ((va_up bnz_44 2062 0) j))) := f_64
              refine lv_aload_n hx hb dX10_putSize_101 rfl (lv_at hl 0 rfl) ?_
              refine lv_sipush (v := nI 2062) hx hb dX10_putSize_102 (by decide +kernel) ?_
              have f_67 : g_63 0 = .inr (13, Rob ad x) := (fr_65 0 (by omega)).trans f_61
              have f_68 : g_63 1 = .inl (cA 1, 165440, .inr (.inl (fun j => lN (q j)))) := (fr_65 1 (by omega)).trans f_59
              have f_69 : g_63 2 = .inl (cA 2, 2068, .inl (fun j => nI (lnz_44 j))) := (fr_65 2 (by omega)).trans ((fr_58 2 (by omega)).trans r_47)
              have hR_70 : RN ad cA g_63 x q lnz_44 (va_up bnz_44 2062 0) := ⟨f_67, f_68, f_69, f_64, hqb, r_50, b_66⟩
              refine va_callv (va_runV (As := [.int (nI 2062)]) (rest := []) ⟨hx, hb, hml, hown, hts⟩ (c_X10_trim l dC dI A ad cA g_63 x q lnz_44 (va_up bnz_44 2062 0) 2062 hR_70 (by decide)) (cwV 1 hts (goodIn_app (goodIn_r [Cond.methodLink RX10 83 yX10_trim, Cond.instanceMethod yX10_trim, Cond.selects RX10 yX10_trim yX10_trim, Cond.initialized RX10] [7, 8, 9, 4] rfl rfl) (goodIn_sub (fun w9 h9 => bk2 w9 h9) gw_X10_trim)) rfl rfl rfl (by decide +kernel) ⟨Nat.le_of_ble_eq_true rfl, Nat.le_of_ble_eq_true rfl⟩) ⟨fun a U g mk q => ⟨q.1, q.2.1, q.2.2.1, LY.moved (u := U) (U := U.calling g mk a) (Vm.Alike.refl U.vm) q.2.2.2⟩, va_recv hK hP (ci := 13) (q0 := 0) rfl (wo_at (by decide) f_67), fun U hU hW => ⟨rfl, by rw [hU]; exact fun q h => hA q (Nat.le_trans hS.1 h), by rw [hU]; exact hP, LY.moved hW.alike hL⟩⟩ rfl rfl hl.1 rfl (lv_room (Nat.le_of_ble_eq_true rfl)) dX10_putSize_105 ⟨(Nat.le_of_ble_eq_true rfl), (Nat.le_of_ble_eq_true rfl)⟩) hS (fun q _ h => h) (fun q h => h) (fun u8 t8 H1 locs ht8 hvm8 hw_71 hB hz1 hk1 hS => ?_)
              obtain ⟨g_72, m9_73⟩ := u8
              try dsimp only at hw_71 hB
              rw [ht8] at hB
              have hP := hB
              generalize H1 = H at hP hS ⊢
              obtain ⟨fr_74, hRt, hmt, hzt, htt⟩ := hw_71
              have hrp : Rp (fun k => q (80 * 2062 + k)) m9_73 (X9 / 10) := Rp.fin (n := lnz_44 2062) (fun i hi => hqd i (Nat.zero_le _) hi) (Nat.lt_of_le_of_lt (Nat.div_le_self _ _) (by rw [hX9]; exact hv0.lt)) hmt hzt htt
              have hV_75 : RV ad cA g_72 x (va_up vfn 2062 (((vfn 2062).natAbs / 10 : Nat) : Int)) := RV.up hRt hvz_44 (fun j hj hne => ⟨va_up_ne _ _ hne, (va_up_ne _ _ hne).trans (va_up_ne _ _ hne), fun k hk => hqo _ (by omega)⟩) ⟨by rw [va_up_self]; omega, by rw [va_up_self, Int.natAbs_natCast, ← hX9]; exact hrp, by rw [va_up_self]; have h9 : va_up bnz_44 2062 0 2062 = 0 := va_up_self _ _ _; rw [h9]; split <;> omega⟩
              obtain ⟨vf_76, evf_76⟩ : ∃ z9, z9 = va_up vfn 2062 (((vfn 2062).natAbs / 10 : Nat) : Int) := ⟨_, rfl⟩
              rw [← evf_76] at hV_75
              have uvf_76 : vf_76 2062 = (((vfn 2062).natAbs / 10 : Nat) : Int) := by rw [evf_76]; exact va_up_self _ _ _
              have ovf_76 : ∀ j, j ≠ 2062 → vf_76 j = vfn j := fun j hj => by rw [evf_76]; exact va_up_ne _ _ hj
              have hc_77 := hV_75
              obtain ⟨pnz_78, lnz_78, bnz_78, hRz_78, hvz_78⟩ := hc_77
              obtain ⟨r_79, r_80, r_81, r_82, r_83, r_84, r_85⟩ := hRz_78
              refine lv_aload_n hx hb dX10_putSize_108 rfl (lv_at hl 0 rfl) ?_
              refine m_get (D := (dC, dI)) (v := .ref (ad 18)) (C := RX10) (T := TX10) (N := 29) hx hb hts bk1 hown hK hP 0 (by decide) r_79 rfl 26 (by decide) (hts (.fieldLink RX10 68 "GradientDeskModel" "digits" "[I") (List.mem_of_getElem? (i := 10) rfl)) (fun _ h9 => h9) rfl dX10_putSize_109 ?_
              refine lv_iload_n hx hb dX10_putSize_112 rfl (lv_at hl 2 rfl) ?_
              refine lv_lload_n hx hb dX10_putSize_113 rfl (lv_at hl 3 rfl) ?_
              refine lv_l2i hx hb dX10_putSize_114 rfl ?_
              refine lv_topi (fun x_86 e_87 => ?_)
              obtain rfl : x_86 = nI rs := e_87.trans (lN_i rs)
              have f_88 : g_72 18 = .inl (cA 18, 200, .inl (fun j => iI (fd j))) := (fr_74 18 (by omega)).trans ((fr_65 18 (by omega)).trans ((fr_58 18 (by omega)).trans f_42))
              refine m_iast hx hb hK hP hD hS 18 (by decide) rfl f_88 (i := n) (x := nI rs) (by omega) (by decide) dX10_putSize_115 (fun H locs g_89 f_90 fr_91 hP hS => ?_)
              rw [(nI_iI rs), k_updZ] at f_90
              have f_90 : g_89 18 = .inl (cA 18, 200, .inl (fun j => iI ((va_up fd n ((rs : Nat) : Int)) j))) := f_90
              refine lv_iinc (v := nI (n + 1)) (lv' := [(2, .int (nI (n + 1))), (0, .ref (ad 0)), (1, .int (nI t)), (3, .long (lN rs)), (5, .int (nI d - nI 1))]) hx hb dX10_putSize_116 hl (k := 2) rfl (nI_add n 1) (by decide) rfl (fun ls hl => ?_)
              refine lv_goto (tgt := 10) hx hb dX10_putSize_119 (by decide) ?_
              have f_94 : g_89 0 = .inr (13, Rob ad x) := (fr_91 0 (by omega)).trans r_79
              exact ih_39 (n + 1) vf_76 (va_up fd n ((rs : Nat) : Int)) g_89 (fun (k : Nat) (hk : k ≠ 1 ∧ k ≠ 2 ∧ k ≠ 3 ∧ k ≠ 18) => (fr_91 k (by omega)).trans ((fr_74 k (by omega)).trans ((fr_65 k (by omega)).trans ((fr_58 k (by omega)).trans ((fr_41 k (by omega)).trans (rfl)))))) (by omega) (by omega) (by rcases Nat.eq_zero_or_pos n with h9 | h9; exact Or.inr (Or.inl (by omega)); exact Or.inr (Or.inr (by rw [Nat.add_sub_cancel]; exact hnz h9))) (by rw [uvf_76, Int.natAbs_natCast, hrv, dv_s]) (fun j hj => (ovf_76 j (by omega)).trans (hvo j hj)) (fun j hj => by by_cases h9 : j = n; rw [h9, va_up_self, hrs]; rw [va_up_ne _ _ h9]; exact hdd j (by omega)) f_90 (hV_75.setx (fun (k : Nat) (hk : k = 1 ∨ k = 2 ∨ k = 3) => (fr_91 k (by omega)).trans (rfl)) f_94) _ _ _ hP hS (lv_sub (l' := [(0, .ref (ad 0)), (1, .int (nI t)), (2, .int (nI (n + 1)))]) hl [1, 2, 0] rfl)
            · have c_60 := mt (k_m1lt (d := d) (by omega)).mpr c_60
              have e_95 : nI d - nI 1 = nI (d - 1) := pk_sub (by omega)
              rw [e_95] at hl
              have hr10 : rs < 10 := by rw [hr9]; exact Nat.mod_lt _ (by decide)
              have hpd : q (164960 + (d - 1)) = dgt X9 (d - 1) := by rw [hqo _ (by omega), hX9]; exact hv0.dg (by omega)
              refine lv_lload_n hx hb dX10_putSize_44 rfl (lv_at hl 3 rfl) ?_
              refine lv_bipush (v := nI 32) hx hb dX10_putSize_45 (by decide +kernel) ?_
              refine lv_lshl hx hb dX10_putSize_47 rfl ?_
              refine lv_topl (fun y_96 e_97 => ?_)
              obtain rfl : y_96 = lN (rs * 4294967296) := e_97.trans ((wb_shl rs (k := 32) (by decide)).trans rfl)
              refine lv_aload_n hx hb dX10_putSize_48 rfl (lv_at hl 0 rfl) ?_
              have f_98 : g_57 0 = .inr (13, Rob ad x) := (fr_58 0 (by omega)).trans r_45
              refine m_get (D := (dC, dI)) (v := .ref (ad 1)) (C := RX10) (T := TX10) (N := 29) hx hb hts bk1 hown hK hP 0 (by decide) f_98 rfl 1 (by decide) (hts (.fieldLink RX10 8 "GradientDeskModel" "pieces" "[J") (List.mem_of_getElem? (i := 11) rfl)) (fun _ h9 => h9) rfl dX10_putSize_49 ?_
              refine lv_ldcw (v := 164960) hx hb hown (hts (.constant RX10 281 (164960)) (List.mem_of_getElem? (i := 12) rfl)) dX10_putSize_52 ?_
              refine lv_topi (fun x_99 e_100 => ?_)
              obtain rfl : x_99 = nI 164960 := e_100.trans (by decide)
              refine lv_iload hx hb dX10_putSize_55 (lv_at hl 4 rfl) ?_
              refine lv_iadd hx hb dX10_putSize_57 ?_
              refine lv_topi (fun x_101 e_102 => ?_)
              obtain rfl : x_101 = nI (164960 + (d - 1)) := e_102.trans (nI_add 164960 (d - 1))
              refine m_lald hx hb hK hP 1 (by decide) rfl f_59 (i := 164960 + (d - 1)) (by omega) (by decide) dX10_putSize_58 ?_
              have b_103 := hqb (164960 + (d - 1))
              refine lv_lor hx hb dX10_putSize_59 ?_
              refine lv_topl (fun y_104 e_105 => ?_)
              obtain rfl : y_104 = lN (rs * 4294967296 + q (164960 + (d - 1))) := e_105.trans ((wb_or (a := (rs * 4294967296)) (b := (q (164960 + (d - 1)))) (by omega) (by omega)).trans (congrArg lN (k_or32 (by omega))))
              refine lv_lstore (lv' := [(6, .long (lN (rs * 4294967296 + q (164960 + (d - 1))))), (0, .ref (ad 0)), (1, .int (nI t)), (2, .int (nI n)), (3, .long (lN rs)), (5, .int (nI (d - 1)))]) hx hb dX10_putSize_60 hl (by decide) rfl (fun ls hl => ?_)
              refine lv_aload_n hx hb dX10_putSize_62 rfl (lv_at hl 1 rfl) ?_
              refine m_get (D := (dC, dI)) (v := .ref (ad 1)) (C := RX10) (T := TX10) (N := 29) hx hb hts bk1 hown hK hP 0 (by decide) f_98 rfl 1 (by decide) (hts (.fieldLink RX10 8 "GradientDeskModel" "pieces" "[J") (List.mem_of_getElem? (i := 11) rfl)) (fun _ h9 => h9) rfl dX10_putSize_63 ?_
              refine lv_ldcw (v := 164960) hx hb hown (hts (.constant RX10 281 (164960)) (List.mem_of_getElem? (i := 12) rfl)) dX10_putSize_66 ?_
              refine lv_topi (fun x_106 e_107 => ?_)
              obtain rfl : x_106 = nI 164960 := e_107.trans (by decide)
              refine lv_iload hx hb dX10_putSize_69 (lv_at hl 5 rfl) ?_
              refine lv_iadd hx hb dX10_putSize_71 ?_
              refine lv_topi (fun x_108 e_109 => ?_)
              obtain rfl : x_108 = nI (164960 + (d - 1)) := e_109.trans (nI_add 164960 (d - 1))
              refine lv_lload hx hb dX10_putSize_72 (lv_at hl 0 rfl) ?_
              refine lv_ldc2 (v := 10) hx hb hown (hts (.constantLong RX10 282 (10)) (List.mem_of_getElem? (i := 13) rfl)) dX10_putSize_74 ?_
              refine lv_topl (fun y_110 e_111 => ?_)
              obtain rfl : y_110 = lN 10 := e_111
              refine lv_ldiv hx hb dX10_putSize_77 (by decide) ?_
              refine lv_topl (fun y_112 e_113 => ?_)
              obtain rfl : y_112 = lN ((rs * 4294967296 + q (164960 + (d - 1))) / 10) := e_113.trans (pk_lDiv (by omega) (by decide) (by decide))
              refine m_last hx hb hK hP hD hS 1 (by decide) rfl f_59 (i := 164960 + (d - 1)) (x := lN ((rs * 4294967296 + q (164960 + (d - 1))) / 10)) (by omega) (by decide) dX10_putSize_78 (fun H locs g_114 f_115 fr_116 hP hS => ?_)
              rw [k_updL] at f_115
              have b_117 : ∀ j, (va_up q (164960 + (d - 1)) ((rs * 4294967296 + q (164960 + (d - 1))) / 10)) j < 4294967296 := k_up_lt hqb (by omega)
              have f_115 : g_114 1 = .inl (cA 1, 165440, .inr (.inl (fun j => lN ((va_up q (164960 + (d - 1)) ((rs * 4294967296 + q (164960 + (d - 1))) / 10)) j)))) := f_115
              refine lv_lload hx hb dX10_putSize_79 (lv_at hl 0 rfl) ?_
              refine lv_ldc2 (v := 10) hx hb hown (hts (.constantLong RX10 282 (10)) (List.mem_of_getElem? (i := 13) rfl)) dX10_putSize_81 ?_
              refine lv_topl (fun y_118 e_119 => ?_)
              obtain rfl : y_118 = lN 10 := e_119
              refine lv_lrem hx hb dX10_putSize_84 (by decide) ?_
              refine lv_topl (fun y_120 e_121 => ?_)
              obtain rfl : y_120 = lN ((rs * 4294967296 + q (164960 + (d - 1))) % 10) := e_121.trans (pk_lRem (by omega) (by decide) (by decide))
              refine lv_lstore_n (lv' := [(3, .long (lN ((rs * 4294967296 + q (164960 + (d - 1))) % 10))), (6, .long (lN (rs * 4294967296 + q (164960 + (d - 1))))), (0, .ref (ad 0)), (1, .int (nI t)), (2, .int (nI n)), (5, .int (nI (d - 1)))]) hx hb dX10_putSize_85 rfl hl (by decide) rfl (fun ls hl => ?_)
              refine lv_iinc (v := nI (d - 1) - nI 1) (lv' := [(5, .int (nI (d - 1) - nI 1)), (3, .long (lN ((rs * 4294967296 + q (164960 + (d - 1))) % 10))), (6, .long (lN (rs * 4294967296 + q (164960 + (d - 1))))), (0, .ref (ad 0)), (1, .int (nI t)), (2, .int (nI n))]) hx hb dX10_putSize_86 hl (k := 5) rfl ((show nI (d - 1) + Int32.ofInt (-1) = nI (d - 1) - nI 1 from by rw [show Int32.ofInt (-1) = -nI 1 from by decide, ← Int32.sub_eq_add_neg])) (by decide) rfl (fun ls hl => ?_)
              refine lv_goto (tgt := 39) hx hb dX10_putSize_89 (by decide) ?_
              exact ih_56 (d - 1) (va_up q (164960 + (d - 1)) ((rs * 4294967296 + q (164960 + (d - 1))) / 10)) ((rs * 4294967296 + q (164960 + (d - 1))) % 10) g_114 (fun (k : Nat) (hk : k ≠ 1) => (fr_116 k (by omega)).trans ((fr_58 k (by omega)).trans (rfl))) (by omega) (by omega) b_117 (by rw [(dgt_d10 X9 (d - 1)).2, show d - 1 + 1 = d by omega, ← hr9, hpd]) (fun j hj => by rw [va_up_ne _ _ (by omega)]; exact hqo j (by omega)) (fun j h1 h2 => by by_cases h9 : j = d - 1; rw [h9, va_up_self, (dgt_d10 X9 (d - 1)).1, show d - 1 + 1 = d by omega, ← hr9, hpd]; rw [va_up_ne _ _ (by omega)]; exact hqd j (by omega) h2) f_115 _ _ _ hP hS (lv_sub (l' := [(0, .ref (ad 0)), (1, .int (nI t)), (2, .int (nI n)), (3, .long (lN ((rs * 4294967296 + q (164960 + (d - 1))) % 10))), (5, .int (nI (d - 1) - nI 1))]) hl [3, 4, 5, 1, 0] rfl)
        exact loop_55 _ (lnz_44 2062) pnz_44 0 g_40 (fun (k : Nat) (hk : k ≠ 1) => rfl) (Nat.lt_succ_self _) (by omega) r_49 (by rw [Nat.div_eq_of_lt (by rw [hX9]; exact hv0.lt)]) (fun _ _ => rfl) (fun j h1 h2 => absurd h1 (by omega)) r_46 _ _ _ hP hS (lv_sub (l' := [(0, .ref (ad 0)), (1, .int (nI t)), (2, .int (nI n)), (3, .long (lN 0)), (5, .int (nI (lnz_44 2062) - nI 1))]) hl [2, 3, 4, 1, 0] rfl)
      · have c_53 := mt (nI_ltI (a := 0) (b := (lnz_44 2062)) (by decide) (by omega)).mpr c_53
        refine lv_iload_n hx hb dX10_putSize_21 rfl (lv_at hl 2 rfl) ?_
        refine lv_if_ne (tgt := 122) hx hb dX10_putSize_22 (by decide) (fun c_124 => ?_) (fun c_124 => ?_)
        · have c_124 := mt (nI_eq (a := n) (b := 0) (by omega) (by decide)).mpr c_124
          have hzr : (vf t).natAbs / 10 ^ n = 0 := by rw [← hrv]; omega
          have hnd : isND (vf t).natAbs n := ⟨by omega, hzr, by omega⟩
          have hdl := decL_len hnd
          have hdc := decL_of hnd
          refine lv_iload_n hx hb dX10_putSize_122 rfl (lv_at hl 2 rfl) ?_
          refine lv_iconst (v := nI 1) hx hb dX10_putSize_123 (by decide +kernel) ?_
          refine lv_isub hx hb dX10_putSize_124 ?_
          refine lv_istore_n (lv' := [(3, .int (nI n - nI 1)), (0, .ref (ad 0)), (1, .int (nI t)), (2, .int (nI n))]) hx hb dX10_putSize_125 rfl hl (by decide) rfl (fun ls hl => ?_)
          have loop_125 : ∀ (k9 : Nat) (d : Nat) (ff : Nat → Int) (xx : Nat → Int32) (g_127 : Nat → va_E) (fr_128 : ∀ k, (k ≠ 0 ∧ k ≠ 17) → g_127 k = g_40 k), d < k9 → (d ≤ n) → (xx 9 = nI (cn + (n - d))) → (∀ j, j ≠ 9 → xx j = x j) → (dwr ff (cn + (n - d)) (dgs (vf t).natAbs d) = dwr f17 cn (dgs (vf t).natAbs n)) → (g_127 0 = .inr (13, Rob ad xx)) → (g_127 17 = .inl (cA 17, 256, .inl (fun j => iI (ff j)))) → ∀ (H : Heap) (locs : List Loc) (ls : Array Slot), va_P (dC, dI) vwCl (wo ad NSr g_127) H → va_S A s.heap H locs → lv_has ls 8 [(0, .ref (ad 0)), (1, .int (nI t)), (2, .int (nI n)), (3, .int (nI d - nI 1))] → W p l e (headSpec wd_X10_putSize ({ frames := 20, cells := 0, slots := 0, locals := 400 })).room s m ([.ref (ad 0), .int (nI t)] : List Value).toArray below meth c H locs (0) (0) (MQ below (va_Qv (fun (u : (Nat → va_E) × (Nat → Int) × (Nat → Int)) => match u with | (g2, vf2, f3) => (∀ k, k ≠ 0 ∧ k ≠ 1 ∧ k ≠ 2 ∧ k ≠ 3 ∧ k ≠ 17 ∧ k ≠ 18 → g2 k = g k) ∧ RV ad cA g2 (va_up x 9 (nI (cn + (decL (vf t).natAbs).length))) vf2 ∧ (∀ j, j < 2060 → vf2 j = vf j) ∧ g2 17 = .inl (cA 17, 256, .inl (fun j => iI (dwr f17 cn (decL (vf t).natAbs) j))) ∧ g2 18 = .inl (cA 18, 200, .inl (fun j => iI (f3 j))) ∧ (decL (vf t).natAbs).length ≤ 131) (fun (u : (Nat → va_E) × (Nat → Int) × (Nat → Int)) (t : State) => va_P (dC, dI) vwCl (wo ad NSr u.1) t.heap) A) ([.ref (ad 0), .int (nI t)] : List Value).toArray s (0) (0) A) (F0 m 126 ls []) := by
            intro k9
            induction k9 with
            | zero => intro d ff xx g_127 fr_128 h9; exact absurd h9 (Nat.not_lt_zero _)
            | succ k9 ih_126 =>
              intro d ff xx g_127 fr_128 h9 hdn hx9 hxo hdw f_129 f_130 H locs ls hP hS hl
              refine lv_iload_n hx hb dX10_putSize_126 rfl (lv_at hl 3 rfl) ?_
              refine lv_if_lt (tgt := 149) hx hb dX10_putSize_127 (by decide) (fun c_131 => ?_) (fun c_131 => ?_)
              · have c_131 := (k_m1lt (d := d) (by omega)).mp c_131
                have hd0 : d = 0 := by omega
                rw [hd0] at hdw hx9
                have hxe : xx = va_up x 9 (nI (cn + (decL (vf t).natAbs).length)) := by funext j; by_cases h8 : j = 9; rw [h8, va_up_self, hx9, hdl]; rfl; rw [va_up_ne _ _ h8]; exact hxo j h8
                have hdw2 : ff = dwr f17 cn (decL (vf t).natAbs) := by rw [← hdc]; exact hdw
                have hVe : RV ad cA g_127 xx vfn := hVL.setx (fun (k : Nat) (hk : k = 1 ∨ k = 2 ∨ k = 3) => (fr_128 k (by omega)).trans (rfl)) f_129
                rw [hxe] at hVe
                have h177e := f_130
                rw [hdw2] at h177e
                have f_132 : g_127 18 = .inl (cA 18, 200, .inl (fun j => iI (fd j))) := (fr_128 18 (by omega)).trans f_42
                refine W.widen (k := 0) (n := 0) (by omega) (by omega) ?_
                exact W.vret hx hb hr (fun t9 ht9 hW9 => ⟨⟨(g_127, vfn, fd), rfl, ⟨(fun (k : Nat) (hk : k ≠ 0 ∧ k ≠ 1 ∧ k ≠ 2 ∧ k ≠ 3 ∧ k ≠ 17 ∧ k ≠ 18) => (fr_128 k (by omega)).trans ((fr_41 k (by omega)).trans ((fr_26 k (by omega)).trans (rfl)))), hVe, hvo, h177e, f_132, by omega⟩, by show va_P (dC, dI) vwCl _ t9.heap; rw [ht9]; exact hP⟩, hS.F ht9⟩) hS.2.2 dX10_putSize_149
              · have c_131 := mt (k_m1lt (d := d) (by omega)).mpr c_131
                have e_133 : nI d - nI 1 = nI (d - 1) := pk_sub (by omega)
                rw [e_133] at hl
                refine lv_aload_n hx hb dX10_putSize_130 rfl (lv_at hl 0 rfl) ?_
                refine lv_bipush (v := nI 48) hx hb dX10_putSize_131 (by decide +kernel) ?_
                refine lv_aload_n hx hb dX10_putSize_133 rfl (lv_at hl 0 rfl) ?_
                refine m_get (D := (dC, dI)) (v := .ref (ad 18)) (C := RX10) (T := TX10) (N := 29) hx hb hts bk1 hown hK hP 0 (by decide) f_129 rfl 26 (by decide) (hts (.fieldLink RX10 68 "GradientDeskModel" "digits" "[I") (List.mem_of_getElem? (i := 10) rfl)) (fun _ h9 => h9) rfl dX10_putSize_134 ?_
                refine lv_iload_n hx hb dX10_putSize_137 rfl (lv_at hl 3 rfl) ?_
                have f_134 : g_127 18 = .inl (cA 18, 200, .inl (fun j => iI (fd j))) := (fr_128 18 (by omega)).trans f_42
                refine m_iald hx hb hK hP 18 (by decide) rfl f_134 (i := d - 1) (by omega) (by decide) dX10_putSize_138 ?_
                refine lv_iadd hx hb dX10_putSize_139 ?_
                refine lv_topi (fun x_135 e_136 => ?_)
                obtain rfl : x_135 = iI (48 + (fd (d - 1))) := e_136.trans (iI_addP (show nI 48 = iI 48 from by decide) rfl)
                have hdb := hdd (d - 1) (by omega)
                refine va_callv (va_runV (As := [.int (iI (48 + (fd (d - 1))))]) (rest := []) ⟨hx, hb, hml, hown, hts⟩ (c_X10_put l dC dI A ad cA g_127 xx ff (cn + (n - d)) (48 + fd (d - 1)) f_129 f_130 hx9 (by omega)) (cwV 1 hts (goodIn_app (goodIn_r [Cond.methodLink RX10 284 yX10_put, Cond.instanceMethod yX10_put, Cond.selects RX10 yX10_put yX10_put, Cond.initialized RX10] [14, 15, 16, 4] rfl rfl) (goodIn_sub (fun w9 h9 => bk3 w9 h9) gw_X10_put)) rfl rfl rfl (by decide +kernel) ⟨Nat.le_of_ble_eq_true rfl, Nat.le_of_ble_eq_true rfl⟩) ⟨fun a U g mk q => ⟨q.1, q.2.1, q.2.2.1, LY.moved (u := U) (U := U.calling g mk a) (Vm.Alike.refl U.vm) q.2.2.2⟩, va_recv hK hP (ci := 13) (q0 := 0) rfl (wo_at (by decide) f_129), fun U hU hW => ⟨rfl, by rw [hU]; exact fun q h => hA q (Nat.le_trans hS.1 h), by rw [hU]; exact hP, LY.moved hW.alike hL⟩⟩ rfl rfl hl.1 rfl (lv_room (Nat.le_of_ble_eq_true rfl)) dX10_putSize_140 ⟨(Nat.le_of_ble_eq_true rfl), (Nat.le_of_ble_eq_true rfl)⟩) hS (fun q _ h => h) (fun q h => h) (fun u8 t8 H1 locs ht8 hvm8 hw_137 hB hz1 hk1 hS => ?_)
                obtain ⟨g_138, rfl⟩ : ∃ z, z = u8 := ⟨_, rfl⟩
                try dsimp only at hw_137 hB
                rw [ht8] at hB
                have hP := hB
                generalize H1 = H at hP hS ⊢
                obtain ⟨fr_139, hob7, h177⟩ := hw_137
                refine lv_iinc (v := nI (d - 1) - nI 1) (lv' := [(3, .int (nI (d - 1) - nI 1)), (0, .ref (ad 0)), (1, .int (nI t)), (2, .int (nI n))]) hx hb dX10_putSize_143 hl (k := 3) rfl ((show nI (d - 1) + Int32.ofInt (-1) = nI (d - 1) - nI 1 from by rw [show Int32.ofInt (-1) = -nI 1 from by decide, ← Int32.sub_eq_add_neg])) (by decide) rfl (fun ls hl => ?_)
                refine lv_goto (tgt := 126) hx hb dX10_putSize_146 (by decide) ?_
                exact ih_126 (d - 1) (if cn + (n - d) < 250 then va_up ff (cn + (n - d)) (48 + fd (d - 1)) else ff) (va_up xx 9 (nI (cn + (n - d) + 1))) g_138 (fun (k : Nat) (hk : k ≠ 0 ∧ k ≠ 17) => (fr_139 k (by omega)).trans ((fr_128 k (by omega)).trans (rfl))) (by omega) (by omega) ((va_up_self _ _ _).trans (congrArg nI (by omega))) (fun j hj => (va_up_ne _ _ hj).trans (hxo j hj)) (by rw [← hdw, show dgs (vf t).natAbs d = (48 + (((vf t).natAbs / 10 ^ (d - 1) % 10 : Nat) : Int)) :: dgs (vf t).natAbs (d - 1) by rw [show dgs (vf t).natAbs d = dgs (vf t).natAbs ((d - 1) + 1) by rw [show d - 1 + 1 = d by omega]]; rfl, hdd (d - 1) (by omega), show cn + (n - (d - 1)) = cn + (n - d) + 1 by omega]; rfl) hob7 h177 _ _ _ hP hS (lv_sub (l' := [(0, .ref (ad 0)), (1, .int (nI t)), (2, .int (nI n)), (3, .int (nI (d - 1) - nI 1))]) hl [1, 2, 3, 0] rfl)
          have f_142 : g_40 17 = .inl (cA 17, 256, .inl (fun j => iI (f17 j))) := (fr_41 17 (by omega)).trans ((fr_26 17 (by omega)).trans h17)
          exact loop_125 _ n f17 x g_40 (fun (k : Nat) (hk : k ≠ 0 ∧ k ≠ 17) => rfl) (Nat.lt_succ_self _) (by omega) (hx9c.trans (congrArg nI (by omega))) (fun _ _ => rfl) (by rw [Nat.sub_self]; rfl) r_45 f_142 _ _ _ hP hS (lv_sub (l' := [(0, .ref (ad 0)), (1, .int (nI t)), (2, .int (nI n)), (3, .int (nI n - nI 1))]) hl [1, 2, 3, 0] rfl)
        · have c_124 := (nI_eq (a := n) (b := 0) (by omega) (by decide)).mp c_124
          have hnz : 0 < n → (vf t).natAbs / 10 ^ n ≠ 0 := fun h9 => by rw [← hrv]; omega
          have hn9 : n ≤ 130 := by rcases Nat.eq_zero_or_pos n with h9 | h9; omega; have := k_d410 hvb (hnz h9); omega
          obtain ⟨X9, hX9⟩ : ∃ z9, z9 = (vfn 2062).natAbs := ⟨_, rfl⟩
          have hlen := r_50 2062
          refine lv_lconst (v := lN 0) hx hb dX10_putSize_25 (by decide +kernel) ?_
          refine lv_lstore_n (lv' := [(3, .long (lN 0)), (0, .ref (ad 0)), (1, .int (nI t)), (2, .int (nI n))]) hx hb dX10_putSize_26 rfl hl (by decide) rfl (fun ls hl => ?_)
          refine lv_aload_n hx hb dX10_putSize_27 rfl (lv_at hl 1 rfl) ?_
          refine m_get (D := (dC, dI)) (v := .ref (ad 2)) (C := RX10) (T := TX10) (N := 29) hx hb hts bk1 hown hK hP 0 (by decide) r_45 rfl 2 (by decide) (hts (.fieldLink RX10 14 "GradientDeskModel" "length" "[I") (List.mem_of_getElem? (i := 5) rfl)) (fun _ h9 => h9) rfl dX10_putSize_28 ?_
          refine lv_sipush (v := nI 2062) hx hb dX10_putSize_31 (by decide +kernel) ?_
          refine m_iald hx hb hK hP 2 (by decide) rfl r_47 (i := 2062) (by decide) (by decide) dX10_putSize_34 ?_
          have b_143 := r_50 2062
          refine lv_iconst (v := nI 1) hx hb dX10_putSize_35 (by decide +kernel) ?_
          refine lv_isub hx hb dX10_putSize_36 ?_
          refine lv_istore (lv' := [(5, .int (nI (lnz_44 2062) - nI 1)), (3, .long (lN 0)), (0, .ref (ad 0)), (1, .int (nI t)), (2, .int (nI n))]) hx hb dX10_putSize_37 hl (by decide) rfl (fun ls hl => ?_)
          have loop_144 : ∀ (k9 : Nat) (d : Nat) (q : Nat → Nat) (rs : Nat) (g_146 : Nat → va_E) (fr_147 : ∀ k, (k ≠ 1) → g_146 k = g_40 k), d < k9 → (d ≤ lnz_44 2062) → (∀ j, q j < 4294967296) → (rs = X9 / 4294967296 ^ d % 10) → (∀ j, ¬ (164960 + d ≤ j ∧ j < 164960 + (lnz_44 2062)) → q j = pnz_44 j) → (∀ j, d ≤ j → j < lnz_44 2062 → q (164960 + j) = dgt (X9 / 10) j) → (g_146 1 = .inl (cA 1, 165440, .inr (.inl (fun j => lN (q j))))) → ∀ (H : Heap) (locs : List Loc) (ls : Array Slot), va_P (dC, dI) vwCl (wo ad NSr g_146) H → va_S A s.heap H locs → lv_has ls 8 [(0, .ref (ad 0)), (1, .int (nI t)), (2, .int (nI n)), (3, .long (lN rs)), (5, .int (nI d - nI 1))] → W p l e (headSpec wd_X10_putSize ({ frames := 20, cells := 0, slots := 0, locals := 400 })).room s m ([.ref (ad 0), .int (nI t)] : List Value).toArray below meth c H locs (0) (0) (MQ below (va_Qv (fun (u : (Nat → va_E) × (Nat → Int) × (Nat → Int)) => match u with | (g2, vf2, f3) => (∀ k, k ≠ 0 ∧ k ≠ 1 ∧ k ≠ 2 ∧ k ≠ 3 ∧ k ≠ 17 ∧ k ≠ 18 → g2 k = g k) ∧ RV ad cA g2 (va_up x 9 (nI (cn + (decL (vf t).natAbs).length))) vf2 ∧ (∀ j, j < 2060 → vf2 j = vf j) ∧ g2 17 = .inl (cA 17, 256, .inl (fun j => iI (dwr f17 cn (decL (vf t).natAbs) j))) ∧ g2 18 = .inl (cA 18, 200, .inl (fun j => iI (f3 j))) ∧ (decL (vf t).natAbs).length ≤ 131) (fun (u : (Nat → va_E) × (Nat → Int) × (Nat → Int)) (t : State) => va_P (dC, dI) vwCl (wo ad NSr u.1) t.heap) A) ([.ref (ad 0), .int (nI t)] : List Value).toArray s (0) (0) A) (F0 m 39 ls []) := by
            intro k9
            induction k9 with
            | zero => intro d q rs g_146 fr_147 h9; exact absurd h9 (Nat.not_lt_zero _)
            | succ k9 ih_145 =>
              intro d q rs g_146 fr_147 h9 hd hqb hr9 hqo hqd f_148 H locs ls hP hS hl
              refine lv_iload hx hb dX10_putSize_39 (lv_at hl 4 rfl) ?_
              refine lv_if_lt (tgt := 92) hx hb dX10_putSize_41 (by decide) (fun c_149 => ?_) (fun c_149 => ?_)
              · have c_149 := (k_m1lt (d := d) (by omega)).mp c_149
                have hd0 : d = 0 := by omega
                rw [hd0] at hqd hr9
                have hrs : rs = (vf t).natAbs / 10 ^ n % 10 := by rw [hr9, Nat.pow_zero, Nat.div_one, hX9, hrv]
                refine lv_aload_n hx hb dX10_putSize_92 rfl (lv_at hl 0 rfl) ?_
                have f_150 : g_146 0 = .inr (13, Rob ad x) := (fr_147 0 (by omega)).trans r_45
                refine m_get (D := (dC, dI)) (v := .ref (ad 3)) (C := RX10) (T := TX10) (N := 29) hx hb hts bk1 hown hK hP 0 (by decide) f_150 rfl 3 (by decide) (hts (.fieldLink RX10 18 "GradientDeskModel" "below" "[Z") (List.mem_of_getElem? (i := 6) rfl)) (fun _ h9 => h9) rfl dX10_putSize_93 ?_
                refine lv_sipush (v := nI 2062) hx hb dX10_putSize_96 (by decide +kernel) ?_
                refine lv_iconst (v := nI 0) hx hb dX10_putSize_99 (by decide +kernel) ?_
                have f_151 : g_146 3 = .inl (cA 3, 2068, .inl (fun j => nI (bnz_44 j))) := (fr_147 3 (by omega)).trans r_48
                refine m_zast hx hb hK hP hD hS 3 (by decide) rfl f_151 (i := 2062) (x := nI 0) (y := nI 0) (by decide +kernel) (by decide) (by decide) dX10_putSize_100 (fun H locs g_152 f_153 fr_154 hP hS => ?_)
                rw [k_updI] at f_153
                have b_155 : ∀ j, (va_up bnz_44 2062 0) j < 2 := k_up_lt r_51 (by omega)
                have f_153 : g_152 3 = .inl (cA 3, 2068, .inl (fun j => nI ((va_up bnz_44 2062 0) j))) := f_153
                refine lv_aload_n hx hb dX10_putSize_101 rfl (lv_at hl 0 rfl) ?_
                refine lv_sipush (v := nI 2062) hx hb dX10_putSize_102 (by decide +kernel) ?_
                have f_156 : g_152 0 = .inr (13, Rob ad x) := (fr_154 0 (by omega)).trans f_150
                have f_157 : g_152 1 = .inl (cA 1, 165440, .inr (.inl (fun j => lN (q j)))) := (fr_154 1 (by omega)).trans f_148
                have f_158 : g_152 2 = .inl (cA 2, 2068, .inl (fun j => nI (lnz_44 j))) := (fr_154 2 (by omega)).trans ((fr_147 2 (by omega)).trans r_47)
                have hR_159 : RN ad cA g_152 x q lnz_44 (va_up bnz_44 2062 0) := ⟨f_156, f_157, f_158, f_153, hqb, r_50, b_155⟩
                refine va_callv (va_runV (As := [.int (nI 2062)]) (rest := []) ⟨hx, hb, hml, hown, hts⟩ (c_X10_trim l dC dI A ad cA g_152 x q lnz_44 (va_up bnz_44 2062 0) 2062 hR_159 (by decide)) (cwV 1 hts (goodIn_app (goodIn_r [Cond.methodLink RX10 83 yX10_trim, Cond.instanceMethod yX10_trim, Cond.selects RX10 yX10_trim yX10_trim, Cond.initialized RX10] [7, 8, 9, 4] rfl rfl) (goodIn_sub (fun w9 h9 => bk2 w9 h9) gw_X10_trim)) rfl rfl rfl (by decide +kernel) ⟨Nat.le_of_ble_eq_true rfl, Nat.le_of_ble_eq_true rfl⟩) ⟨fun a U g mk q => ⟨q.1, q.2.1, q.2.2.1, LY.moved (u := U) (U := U.calling g mk a) (Vm.Alike.refl U.vm) q.2.2.2⟩, va_recv hK hP (ci := 13) (q0 := 0) rfl (wo_at (by decide) f_156), fun U hU hW => ⟨rfl, by rw [hU]; exact fun q h => hA q (Nat.le_trans hS.1 h), by rw [hU]; exact hP, LY.moved hW.alike hL⟩⟩ rfl rfl hl.1 rfl (lv_room (Nat.le_of_ble_eq_true rfl)) dX10_putSize_105 ⟨(Nat.le_of_ble_eq_true rfl), (Nat.le_of_ble_eq_true rfl)⟩) hS (fun q _ h => h) (fun q h => h) (fun u8 t8 H1 locs ht8 hvm8 hw_160 hB hz1 hk1 hS => ?_)
                obtain ⟨g_161, m9_162⟩ := u8
                try dsimp only at hw_160 hB
                rw [ht8] at hB
                have hP := hB
                generalize H1 = H at hP hS ⊢
                obtain ⟨fr_163, hRt, hmt, hzt, htt⟩ := hw_160
                have hrp : Rp (fun k => q (80 * 2062 + k)) m9_162 (X9 / 10) := Rp.fin (n := lnz_44 2062) (fun i hi => hqd i (Nat.zero_le _) hi) (Nat.lt_of_le_of_lt (Nat.div_le_self _ _) (by rw [hX9]; exact hv0.lt)) hmt hzt htt
                have hV_164 : RV ad cA g_161 x (va_up vfn 2062 (((vfn 2062).natAbs / 10 : Nat) : Int)) := RV.up hRt hvz_44 (fun j hj hne => ⟨va_up_ne _ _ hne, (va_up_ne _ _ hne).trans (va_up_ne _ _ hne), fun k hk => hqo _ (by omega)⟩) ⟨by rw [va_up_self]; omega, by rw [va_up_self, Int.natAbs_natCast, ← hX9]; exact hrp, by rw [va_up_self]; have h9 : va_up bnz_44 2062 0 2062 = 0 := va_up_self _ _ _; rw [h9]; split <;> omega⟩
                obtain ⟨vf_165, evf_165⟩ : ∃ z9, z9 = va_up vfn 2062 (((vfn 2062).natAbs / 10 : Nat) : Int) := ⟨_, rfl⟩
                rw [← evf_165] at hV_164
                have uvf_165 : vf_165 2062 = (((vfn 2062).natAbs / 10 : Nat) : Int) := by rw [evf_165]; exact va_up_self _ _ _
                have ovf_165 : ∀ j, j ≠ 2062 → vf_165 j = vfn j := fun j hj => by rw [evf_165]; exact va_up_ne _ _ hj
                have hc_166 := hV_164
                obtain ⟨pnz_167, lnz_167, bnz_167, hRz_167, hvz_167⟩ := hc_166
                obtain ⟨r_168, r_169, r_170, r_171, r_172, r_173, r_174⟩ := hRz_167
                refine lv_aload_n hx hb dX10_putSize_108 rfl (lv_at hl 0 rfl) ?_
                refine m_get (D := (dC, dI)) (v := .ref (ad 18)) (C := RX10) (T := TX10) (N := 29) hx hb hts bk1 hown hK hP 0 (by decide) r_168 rfl 26 (by decide) (hts (.fieldLink RX10 68 "GradientDeskModel" "digits" "[I") (List.mem_of_getElem? (i := 10) rfl)) (fun _ h9 => h9) rfl dX10_putSize_109 ?_
                refine lv_iload_n hx hb dX10_putSize_112 rfl (lv_at hl 2 rfl) ?_
                refine lv_lload_n hx hb dX10_putSize_113 rfl (lv_at hl 3 rfl) ?_
                refine lv_l2i hx hb dX10_putSize_114 rfl ?_
                refine lv_topi (fun x_175 e_176 => ?_)
                obtain rfl : x_175 = nI rs := e_176.trans (lN_i rs)
                have f_177 : g_161 18 = .inl (cA 18, 200, .inl (fun j => iI (fd j))) := (fr_163 18 (by omega)).trans ((fr_154 18 (by omega)).trans ((fr_147 18 (by omega)).trans f_42))
                refine m_iast hx hb hK hP hD hS 18 (by decide) rfl f_177 (i := n) (x := nI rs) (by omega) (by decide) dX10_putSize_115 (fun H locs g_178 f_179 fr_180 hP hS => ?_)
                rw [(nI_iI rs), k_updZ] at f_179
                have f_179 : g_178 18 = .inl (cA 18, 200, .inl (fun j => iI ((va_up fd n ((rs : Nat) : Int)) j))) := f_179
                refine lv_iinc (v := nI (n + 1)) (lv' := [(2, .int (nI (n + 1))), (0, .ref (ad 0)), (1, .int (nI t)), (3, .long (lN rs)), (5, .int (nI d - nI 1))]) hx hb dX10_putSize_116 hl (k := 2) rfl (nI_add n 1) (by decide) rfl (fun ls hl => ?_)
                refine lv_goto (tgt := 10) hx hb dX10_putSize_119 (by decide) ?_
                have f_183 : g_178 0 = .inr (13, Rob ad x) := (fr_180 0 (by omega)).trans r_168
                exact ih_39 (n + 1) vf_165 (va_up fd n ((rs : Nat) : Int)) g_178 (fun (k : Nat) (hk : k ≠ 1 ∧ k ≠ 2 ∧ k ≠ 3 ∧ k ≠ 18) => (fr_180 k (by omega)).trans ((fr_163 k (by omega)).trans ((fr_154 k (by omega)).trans ((fr_147 k (by omega)).trans ((fr_41 k (by omega)).trans (rfl)))))) (by omega) (by omega) (by rcases Nat.eq_zero_or_pos n with h9 | h9; exact Or.inr (Or.inl (by omega)); exact Or.inr (Or.inr (by rw [Nat.add_sub_cancel]; exact hnz h9))) (by rw [uvf_165, Int.natAbs_natCast, hrv, dv_s]) (fun j hj => (ovf_165 j (by omega)).trans (hvo j hj)) (fun j hj => by by_cases h9 : j = n; rw [h9, va_up_self, hrs]; rw [va_up_ne _ _ h9]; exact hdd j (by omega)) f_179 (hV_164.setx (fun (k : Nat) (hk : k = 1 ∨ k = 2 ∨ k = 3) => (fr_180 k (by omega)).trans (rfl)) f_183) _ _ _ hP hS (lv_sub (l' := [(0, .ref (ad 0)), (1, .int (nI t)), (2, .int (nI (n + 1)))]) hl [1, 2, 0] rfl)
              · have c_149 := mt (k_m1lt (d := d) (by omega)).mpr c_149
                have e_184 : nI d - nI 1 = nI (d - 1) := pk_sub (by omega)
                rw [e_184] at hl
                have hr10 : rs < 10 := by rw [hr9]; exact Nat.mod_lt _ (by decide)
                have hpd : q (164960 + (d - 1)) = dgt X9 (d - 1) := by rw [hqo _ (by omega), hX9]; exact hv0.dg (by omega)
                refine lv_lload_n hx hb dX10_putSize_44 rfl (lv_at hl 3 rfl) ?_
                refine lv_bipush (v := nI 32) hx hb dX10_putSize_45 (by decide +kernel) ?_
                refine lv_lshl hx hb dX10_putSize_47 rfl ?_
                refine lv_topl (fun y_185 e_186 => ?_)
                obtain rfl : y_185 = lN (rs * 4294967296) := e_186.trans ((wb_shl rs (k := 32) (by decide)).trans rfl)
                refine lv_aload_n hx hb dX10_putSize_48 rfl (lv_at hl 0 rfl) ?_
                have f_187 : g_146 0 = .inr (13, Rob ad x) := (fr_147 0 (by omega)).trans r_45
                refine m_get (D := (dC, dI)) (v := .ref (ad 1)) (C := RX10) (T := TX10) (N := 29) hx hb hts bk1 hown hK hP 0 (by decide) f_187 rfl 1 (by decide) (hts (.fieldLink RX10 8 "GradientDeskModel" "pieces" "[J") (List.mem_of_getElem? (i := 11) rfl)) (fun _ h9 => h9) rfl dX10_putSize_49 ?_
                refine lv_ldcw (v := 164960) hx hb hown (hts (.constant RX10 281 (164960)) (List.mem_of_getElem? (i := 12) rfl)) dX10_putSize_52 ?_
                refine lv_topi (fun x_188 e_189 => ?_)
                obtain rfl : x_188 = nI 164960 := e_189.trans (by decide)
                refine lv_iload hx hb dX10_putSize_55 (lv_at hl 4 rfl) ?_
                refine lv_iadd hx hb dX10_putSize_57 ?_
                refine lv_topi (fun x_190 e_191 => ?_)
                obtain rfl : x_190 = nI (164960 + (d - 1)) := e_191.trans (nI_add 164960 (d - 1))
                refine m_lald hx hb hK hP 1 (by decide) rfl f_148 (i := 164960 + (d - 1)) (by omega) (by decide) dX10_putSize_58 ?_
                have b_192 := hqb (164960 + (d - 1))
                refine lv_lor hx hb dX10_putSize_59 ?_
                refine lv_topl (fun y_193 e_194 => ?_)
                obtain rfl : y_193 = lN (rs * 4294967296 + q (164960 + (d - 1))) := e_194.trans ((wb_or (a := (rs * 4294967296)) (b := (q (164960 + (d - 1)))) (by omega) (by omega)).trans (congrArg lN (k_or32 (by omega))))
                refine lv_lstore (lv' := [(6, .long (lN (rs * 4294967296 + q (164960 + (d - 1))))), (0, .ref (ad 0)), (1, .int (nI t)), (2, .int (nI n)), (3, .long (lN rs)), (5, .int (nI (d - 1)))]) hx hb dX10_putSize_60 hl (by decide) rfl (fun ls hl => ?_)
                refine lv_aload_n hx hb dX10_putSize_62 rfl (lv_at hl 1 rfl) ?_
                refine m_get (D := (dC, dI)) (v := .ref (ad 1)) (C := RX10) (T := TX10) (N := 29) hx hb hts bk1 hown hK hP 0 (by decide) f_187 rfl 1 (by decide) (hts (.fieldLink RX10 8 "GradientDeskModel" "pieces" "[J") (List.mem_of_getElem? (i := 11) rfl)) (fun _ h9 => h9) rfl dX10_putSize_63 ?_
                refine lv_ldcw (v := 164960) hx hb hown (hts (.constant RX10 281 (164960)) (List.mem_of_getElem? (i := 12) rfl)) dX10_putSize_66 ?_
                refine lv_topi (fun x_195 e_196 => ?_)
                obtain rfl : x_195 = nI 164960 := e_196.trans (by decide)
                refine lv_iload hx hb dX10_putSize_69 (lv_at hl 5 rfl) ?_
                refine lv_iadd hx hb dX10_putSize_71 ?_
                refine lv_topi (fun x_197 e_198 => ?_)
                obtain rfl : x_197 = nI (164960 + (d - 1)) := e_198.trans (nI_add 164960 (d - 1))
                refine lv_lload hx hb dX10_putSize_72 (lv_at hl 0 rfl) ?_
                refine lv_ldc2 (v := 10) hx hb hown (hts (.constantLong RX10 282 (10)) (List.mem_of_getElem? (i := 13) rfl)) dX10_putSize_74 ?_
                refine lv_topl (fun y_199 e_200 => ?_)
                obtain rfl : y_199 = lN 10 := e_200
                refine lv_ldiv hx hb dX10_putSize_77 (by decide) ?_
                refine lv_topl (fun y_201 e_202 => ?_)
                obtain rfl : y_201 = lN ((rs * 4294967296 + q (164960 + (d - 1))) / 10) := e_202.trans (pk_lDiv (by omega) (by decide) (by decide))
                refine m_last hx hb hK hP hD hS 1 (by decide) rfl f_148 (i := 164960 + (d - 1)) (x := lN ((rs * 4294967296 + q (164960 + (d - 1))) / 10)) (by omega) (by decide) dX10_putSize_78 (fun H locs g_203 f_204 fr_205 hP hS => ?_)
                rw [k_updL] at f_204
                have b_206 : ∀ j, (va_up q (164960 + (d - 1)) ((rs * 4294967296 + q (164960 + (d - 1))) / 10)) j < 4294967296 := k_up_lt hqb (by omega)
                have f_204 : g_203 1 = .inl (cA 1, 165440, .inr (.inl (fun j => lN ((va_up q (164960 + (d - 1)) ((rs * 4294967296 + q (164960 + (d - 1))) / 10)) j)))) := f_204
                refine lv_lload hx hb dX10_putSize_79 (lv_at hl 0 rfl) ?_
                refine lv_ldc2 (v := 10) hx hb hown (hts (.constantLong RX10 282 (10)) (List.mem_of_getElem? (i := 13) rfl)) dX10_putSize_81 ?_
                refine lv_topl (fun y_207 e_208 => ?_)
                obtain rfl : y_207 = lN 10 := e_208
                refine lv_lrem hx hb dX10_putSize_84 (by decide) ?_
                refine lv_topl (fun y_209 e_210 => ?_)
                obtain rfl : y_209 = lN ((rs * 4294967296 + q (164960 + (d - 1))) % 10) := e_210.trans (pk_lRem (by omega) (by decide) (by decide))
                refine lv_lstore_n (lv' := [(3, .long (lN ((rs * 4294967296 + q (164960 + (d - 1))) % 10))), (6, .long (lN (rs * 4294967296 + q (164960 + (d - 1))))), (0, .ref (ad 0)), (1, .int (nI t)), (2, .int (nI n)), (5, .int (nI (d - 1)))]) hx hb dX10_putSize_85 rfl hl (by decide) rfl (fun ls hl => ?_)
                refine lv_iinc (v := nI (d - 1) - nI 1) (lv' := [(5, .int (nI (d - 1) - nI 1)), (3, .long (lN ((rs * 4294967296 + q (164960 + (d - 1))) % 10))), (6, .long (lN (rs * 4294967296 + q (164960 + (d - 1))))), (0, .ref (ad 0)), (1, .int (nI t)), (2, .int (nI n))]) hx hb dX10_putSize_86 hl (k := 5) rfl ((show nI (d - 1) + Int32.ofInt (-1) = nI (d - 1) - nI 1 from by rw [show Int32.ofInt (-1) = -nI 1 from by decide, ← Int32.sub_eq_add_neg])) (by decide) rfl (fun ls hl => ?_)
                refine lv_goto (tgt := 39) hx hb dX10_putSize_89 (by decide) ?_
                exact ih_145 (d - 1) (va_up q (164960 + (d - 1)) ((rs * 4294967296 + q (164960 + (d - 1))) / 10)) ((rs * 4294967296 + q (164960 + (d - 1))) % 10) g_203 (fun (k : Nat) (hk : k ≠ 1) => (fr_205 k (by omega)).trans ((fr_147 k (by omega)).trans (rfl))) (by omega) (by omega) b_206 (by rw [(dgt_d10 X9 (d - 1)).2, show d - 1 + 1 = d by omega, ← hr9, hpd]) (fun j hj => by rw [va_up_ne _ _ (by omega)]; exact hqo j (by omega)) (fun j h1 h2 => by by_cases h9 : j = d - 1; rw [h9, va_up_self, (dgt_d10 X9 (d - 1)).1, show d - 1 + 1 = d by omega, ← hr9, hpd]; rw [va_up_ne _ _ (by omega)]; exact hqd j (by omega) h2) f_204 _ _ _ hP hS (lv_sub (l' := [(0, .ref (ad 0)), (1, .int (nI t)), (2, .int (nI n)), (3, .long (lN ((rs * 4294967296 + q (164960 + (d - 1))) % 10))), (5, .int (nI (d - 1) - nI 1))]) hl [3, 4, 5, 1, 0] rfl)
          exact loop_144 _ (lnz_44 2062) pnz_44 0 g_40 (fun (k : Nat) (hk : k ≠ 1) => rfl) (Nat.lt_succ_self _) (by omega) r_49 (by rw [Nat.div_eq_of_lt (by rw [hX9]; exact hv0.lt)]) (fun _ _ => rfl) (fun j h1 h2 => absurd h1 (by omega)) r_46 _ _ _ hP hS (lv_sub (l' := [(0, .ref (ad 0)), (1, .int (nI t)), (2, .int (nI n)), (3, .long (lN 0)), (5, .int (nI (lnz_44 2062) - nI 1))]) hl [2, 3, 4, 1, 0] rfl)
  have f_213 : g_24 18 = .inl (cA 18, 200, .inl (fun j => iI (f18 j))) := (fr_26 18 (by omega)).trans h18
  exact loop_38 _ 0 vf_28 f18 g_24 (fun (k : Nat) (hk : k ≠ 1 ∧ k ≠ 2 ∧ k ≠ 3 ∧ k ≠ 18) => rfl) (Nat.lt_succ_self _) (by omega) (Or.inl rfl) (by rw [uvf_28, Nat.pow_zero, Nat.div_one]) (fun j hj => ovf_28 j (by omega)) (fun j hj => absurd hj (by omega)) f_213 hV_27 _ _ _ hP hS (lv_sub (l' := [(0, .ref (ad 0)), (1, .int (nI t)), (2, .int (nI 0))]) hl [1, 2, 0] rfl)
