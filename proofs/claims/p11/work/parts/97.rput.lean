section
def wd_X10_put : List Cond := .code yX10_put cX10_put 2 none :: (([.fieldLink RX10 278 "GradientDeskModel" "count" "I", .fieldLink RX10 65 "GradientDeskModel" "draft" "[I"] : List Cond) ++ (u_ws RX10 TX10 29 ++ ([])))
theorem gw_X10_put : wd_X10_put.all goodWord = true := k_allc rfl (k_all (by decide +kernel) (k_all (gu_X10) (rfl)))
set_option maxHeartbeats 4000000 in
set_option maxRecDepth 100000 in
theorem c_X10_put (l : Launch) (dC : Nat → ClassId) (dI : Nat → Nat → Nat) (A : Nat → Prop) (ad : Nat → Nat) (cA : Nat → ClassId) (g : Nat → va_E) (x : Nat → Int32) (f17 : Nat → Int) (cn : Nat) (c1 : Int) (h0 : g 0 = .inr (13, Rob ad x)) (h17 : g 17 = .inl (cA 17, 256, .inl (fun j => iI (f17 j)))) (h9 : x 9 = nI cn) (hcn : cn ≤ 100000) : Met l yX10_put wd_X10_put ({ frames := 10, cells := 0, slots := 0, locals := 200 }) (va_Pc [.ref (ad 0), .int (iI c1)] (PR NSr tyr dC dI A ad cA g)) (va_Qv (fun (u : Nat → va_E) => match u with | g2 => (∀ k, k ≠ 0 ∧ k ≠ 17 → g2 k = g k) ∧ g2 0 = .inr (13, Rob ad (va_up x 9 (nI (cn + 1)))) ∧ g2 17 = .inl (cA 17, 256, .inl (fun j => iI ((if cn < 250 then va_up f17 cn c1 else f17) j)))) (fun (u : Nat → va_E) (t : State) => va_P (dC, dI) vwCl (wo ad NSr u) t.heap) A) (0) (0) A := by
  refine Met.ofW (cc := cX10_put) (maxL := 2) (ret := none) (by decide) rfl ?_
  intro p e s m args below meth c s₁ B hml hv
  obtain ⟨rfl, hA, hP, hL⟩ := hv
  have hx := B.exec
  have hb := B.bytes
  have hr := B.returns
  have hts := atoms_spec (ws := wd_X10_put) B.pre
  have hown : s.vm.findClass RX10 = some m.cls := findClass_of_methodNamed B.named
  have hlocks := B.notSynchronized
  have hK := hL.1
  have hD : ∀ g, va_D A (wo ad NSr g) := fun g => wo_D hL.2.1 hL.2.2 g
  have hS : va_S A s.heap s.heap [] := va_S.rf
  have bk0 : ∀ w ∈ u_ws RX10 TX10 29, w ∈ wd_X10_put := fun _ h => List.mem_cons_of_mem _ (List.mem_append_right _ (List.mem_append_left _ h))
  have hl := lv_entry ([.ref (ad 0), .int (iI c1)]) (n := 2) (Nat.le_of_ble_eq_true rfl)
  rw [lg_entry_eq]
  generalize (lg_sl ([.ref (ad 0), .int (iI c1)]) ++ List.replicate (2 - (lg_sl ([.ref (ad 0), .int (iI c1)])).length) Slot.unset).toArray = ls at hl ⊢
  have hl : lv_has ls 2 [(0, .ref (ad 0)), (1, .int (iI c1))] := hl
  refine lv_aload_n hx hb dX10_put_0 rfl (lv_at hl 0 rfl) ?_
  refine m_get (D := (dC, dI)) (v := .int (nI cn)) (C := RX10) (T := TX10) (N := 29) hx hb hts bk0 hown hK hP 0 (by decide) h0 rfl 28 (by decide) (hts (.fieldLink RX10 278 "GradientDeskModel" "count" "I") (List.mem_of_getElem? (i := 1) rfl)) (fun _ h9 => h9) (congrArg (fun z => some (Value.int z)) h9) dX10_put_1 ?_
  refine lv_sipush (v := nI 250) hx hb dX10_put_4 (by decide +kernel) ?_
  refine lv_icmp_ge (tgt := 20) hx hb dX10_put_7 (by decide) (fun c_1 => ?_) (fun c_1 => ?_)
  · have c_1 := (nI_leI (a := 250) (b := cn) (by decide) (by omega)).mp c_1
    refine lv_aload_n hx hb dX10_put_20 rfl (lv_at hl 0 rfl) ?_
    refine lv_dup hx hb dX10_put_21 rfl ?_
    refine m_get (D := (dC, dI)) (v := .int (nI cn)) (C := RX10) (T := TX10) (N := 29) hx hb hts bk0 hown hK hP 0 (by decide) h0 rfl 28 (by decide) (hts (.fieldLink RX10 278 "GradientDeskModel" "count" "I") (List.mem_of_getElem? (i := 1) rfl)) (fun _ h9 => h9) (congrArg (fun z => some (Value.int z)) h9) dX10_put_22 ?_
    refine lv_iconst (v := nI 1) hx hb dX10_put_25 (by decide +kernel) ?_
    refine lv_iadd hx hb dX10_put_26 ?_
    refine lv_topi (fun x_2 e_3 => ?_)
    obtain rfl : x_2 = nI (cn + 1) := e_3.trans (nI_add cn 1)
    refine m_put (D := (dC, dI)) (v := .int (nI (cn + 1))) (tv := .int) (C := RX10) (T := TX10) (N := 29) hx hb hts bk0 tyX10 tyX10_ok nmX10 hown hK hP hD hS 0 (by decide) h0 rfl 28 (by decide) (hts (.fieldLink RX10 278 "GradientDeskModel" "count" "I") (List.mem_of_getElem? (i := 1) rfl)) (fun _ h9 => h9) rfl (by decide +kernel) rfl rfl (Nat.le_of_ble_eq_true rfl) dX10_put_27 (fun H locs g_4 f_5 fr_6 hP hS => ?_)
    have f_5 : g_4 0 = .inr (13, Rob ad (va_up x 9 (nI (cn + 1)))) := f_5
    have f_7 : g_4 17 = .inl (cA 17, 256, .inl (fun j => iI (f17 j))) := (fr_6 17 (by omega)).trans h17
    refine W.widen (k := 0) (n := 0) (by omega) (by omega) ?_
    exact W.vret hx hb hr (fun t9 ht9 hW9 => ⟨⟨g_4, rfl, ⟨(fun (k : Nat) (hk : k ≠ 0 ∧ k ≠ 17) => (fr_6 k (by omega)).trans (rfl)), f_5, by rw [if_neg (by omega)]; exact f_7⟩, by show va_P (dC, dI) vwCl _ t9.heap; rw [ht9]; exact hP⟩, hS.F ht9⟩) hS.2.2 dX10_put_30
  · have c_1 := mt (nI_leI (a := 250) (b := cn) (by decide) (by omega)).mpr c_1
    refine lv_aload_n hx hb dX10_put_10 rfl (lv_at hl 0 rfl) ?_
    refine m_get (D := (dC, dI)) (v := .ref (ad 17)) (C := RX10) (T := TX10) (N := 29) hx hb hts bk0 hown hK hP 0 (by decide) h0 rfl 24 (by decide) (hts (.fieldLink RX10 65 "GradientDeskModel" "draft" "[I") (List.mem_of_getElem? (i := 2) rfl)) (fun _ h9 => h9) rfl dX10_put_11 ?_
    refine lv_aload_n hx hb dX10_put_14 rfl (lv_at hl 0 rfl) ?_
    refine m_get (D := (dC, dI)) (v := .int (nI cn)) (C := RX10) (T := TX10) (N := 29) hx hb hts bk0 hown hK hP 0 (by decide) h0 rfl 28 (by decide) (hts (.fieldLink RX10 278 "GradientDeskModel" "count" "I") (List.mem_of_getElem? (i := 1) rfl)) (fun _ h9 => h9) (congrArg (fun z => some (Value.int z)) h9) dX10_put_15 ?_
    refine lv_iload_n hx hb dX10_put_18 rfl (lv_at hl 1 rfl) ?_
    refine m_iast hx hb hK hP hD hS 17 (by decide) rfl h17 (i := cn) (x := iI c1) (by omega) (by decide) dX10_put_19 (fun H locs g_8 f_9 fr_10 hP hS => ?_)
    rw [k_updZ] at f_9
    have f_9 : g_8 17 = .inl (cA 17, 256, .inl (fun j => iI ((va_up f17 cn c1) j))) := f_9
    refine lv_aload_n hx hb dX10_put_20 rfl (lv_at hl 0 rfl) ?_
    refine lv_dup hx hb dX10_put_21 rfl ?_
    have f_11 : g_8 0 = .inr (13, Rob ad x) := (fr_10 0 (by omega)).trans h0
    refine m_get (D := (dC, dI)) (v := .int (nI cn)) (C := RX10) (T := TX10) (N := 29) hx hb hts bk0 hown hK hP 0 (by decide) f_11 rfl 28 (by decide) (hts (.fieldLink RX10 278 "GradientDeskModel" "count" "I") (List.mem_of_getElem? (i := 1) rfl)) (fun _ h9 => h9) (congrArg (fun z => some (Value.int z)) h9) dX10_put_22 ?_
    refine lv_iconst (v := nI 1) hx hb dX10_put_25 (by decide +kernel) ?_
    refine lv_iadd hx hb dX10_put_26 ?_
    refine lv_topi (fun x_12 e_13 => ?_)
    obtain rfl : x_12 = nI (cn + 1) := e_13.trans (nI_add cn 1)
    refine m_put (D := (dC, dI)) (v := .int (nI (cn + 1))) (tv := .int) (C := RX10) (T := TX10) (N := 29) hx hb hts bk0 tyX10 tyX10_ok nmX10 hown hK hP hD hS 0 (by decide) f_11 rfl 28 (by decide) (hts (.fieldLink RX10 278 "GradientDeskModel" "count" "I") (List.mem_of_getElem? (i := 1) rfl)) (fun _ h9 => h9) rfl (by decide +kernel) rfl rfl (Nat.le_of_ble_eq_true rfl) dX10_put_27 (fun H locs g_14 f_15 fr_16 hP hS => ?_)
    have f_15 : g_14 0 = .inr (13, Rob ad (va_up x 9 (nI (cn + 1)))) := f_15
    have f_17 : g_14 17 = .inl (cA 17, 256, .inl (fun j => iI ((va_up f17 cn c1) j))) := (fr_16 17 (by omega)).trans f_9
    refine W.widen (k := 0) (n := 0) (by omega) (by omega) ?_
    exact W.vret hx hb hr (fun t9 ht9 hW9 => ⟨⟨g_14, rfl, ⟨(fun (k : Nat) (hk : k ≠ 0 ∧ k ≠ 17) => (fr_16 k (by omega)).trans ((fr_10 k (by omega)).trans (rfl))), f_15, by rw [if_pos (by omega)]; exact f_17⟩, by show va_P (dC, dI) vwCl _ t9.heap; rw [ht9]; exact hP⟩, hS.F ht9⟩) hS.2.2 dX10_put_30
def wd_X10_putSize : List Cond := .code yX10_putSize cX10_putSize 8 none :: (([.methodLink RX10 92 yX10_copy, .instanceMethod yX10_copy, .selects RX10 yX10_copy yX10_copy, .initialized RX10, .fieldLink RX10 14 "GradientDeskModel" "length" "[I", .fieldLink RX10 18 "GradientDeskModel" "below" "[Z", .methodLink RX10 83 yX10_trim, .instanceMethod yX10_trim, .selects RX10 yX10_trim yX10_trim, .fieldLink RX10 68 "GradientDeskModel" "digits" "[I", .fieldLink RX10 8 "GradientDeskModel" "pieces" "[J", .constant RX10 281 (164960), .constantLong RX10 282 (10), .methodLink RX10 284 yX10_put, .instanceMethod yX10_put, .selects RX10 yX10_put yX10_put] : List Cond) ++ (wd_X10_copy ++ (u_ws RX10 TX10 29 ++ (wd_X10_trim ++ (wd_X10_put ++ ([]))))))
theorem gw_X10_putSize : wd_X10_putSize.all goodWord = true := k_allc rfl (k_all (by decide +kernel) (k_all (gw_X10_copy) (k_all (gu_X10) (k_all (gw_X10_trim) (k_all (gw_X10_put) (rfl))))))
set_option maxHeartbeats 4000000 in
set_option maxRecDepth 100000 in
theorem c_X10_putSize (l : Launch) (dC : Nat → ClassId) (dI : Nat → Nat → Nat) (A : Nat → Prop) (ad : Nat → Nat) (cA : Nat → ClassId) (g : Nat → va_E) (x : Nat → Int32) (vf : Nat → Int) (t : Nat) (f17 : Nat → Int) (f18 : Nat → Int) (cn : Nat) (hV : RV ad cA g x vf) (ht : t < 2060) (hvb : (vf t).natAbs < 2 ^ 410) (h17 : g 17 = .inl (cA 17, 256, .inl (fun j => iI (f17 j)))) (h18 : g 18 = .inl (cA 18, 200, .inl (fun j => iI (f18 j)))) (hx9c : x 9 = nI cn) (hcn : cn ≤ 50000) : Met l yX10_putSize wd_X10_putSize ({ frames := 20, cells := 0, slots := 0, locals := 400 }) (va_Pc [.ref (ad 0), .int (nI t)] (PR NSr tyr dC dI A ad cA g)) (va_Qv (fun (u : (Nat → va_E) × (Nat → Int) × (Nat → Int)) => match u with | (g2, vf2, f3) => (∀ k, k ≠ 0 ∧ k ≠ 1 ∧ k ≠ 2 ∧ k ≠ 3 ∧ k ≠ 17 ∧ k ≠ 18 → g2 k = g k) ∧ RV ad cA g2 (va_up x 9 (nI (cn + (decL (vf t).natAbs).length))) vf2 ∧ (∀ j, j < 2060 → vf2 j = vf j) ∧ g2 17 = .inl (cA 17, 256, .inl (fun j => iI (dwr f17 cn (decL (vf t).natAbs) j))) ∧ g2 18 = .inl (cA 18, 200, .inl (fun j => iI (f3 j))) ∧ (decL (vf t).natAbs).length ≤ 131) (fun (u : (Nat → va_E) × (Nat → Int) × (Nat → Int)) (t : State) => va_P (dC, dI) vwCl (wo ad NSr u.1) t.heap) A) (0) (0) A := by
  refine Met.ofW (cc := cX10_putSize) (maxL := 8) (ret := none) (by decide) rfl ?_
  intro p e s m args below meth c s₁ B hml hv
  obtain ⟨rfl, hA, hP, hL⟩ := hv
  have hx := B.exec
  have hb := B.bytes
  have hr := B.returns
  have hts := atoms_spec (ws := wd_X10_putSize) B.pre
  have hown : s.vm.findClass RX10 = some m.cls := findClass_of_methodNamed B.named
  have hlocks := B.notSynchronized
  have hK := hL.1
  have hD : ∀ g, va_D A (wo ad NSr g) := fun g => wo_D hL.2.1 hL.2.2 g
  have hS : va_S A s.heap s.heap [] := va_S.rf
  have bk0 : ∀ w ∈ wd_X10_copy, w ∈ wd_X10_putSize := fun _ h => List.mem_cons_of_mem _ (List.mem_append_right _ (List.mem_append_left _ h))
  have bk1 : ∀ w ∈ u_ws RX10 TX10 29, w ∈ wd_X10_putSize := fun _ h => List.mem_cons_of_mem _ (List.mem_append_right _ (List.mem_append_right _ (List.mem_append_left _ h)))
  have bk2 : ∀ w ∈ wd_X10_trim, w ∈ wd_X10_putSize := fun _ h => List.mem_cons_of_mem _ (List.mem_append_right _ (List.mem_append_right _ (List.mem_append_right _ (List.mem_append_left _ h))))
  have bk3 : ∀ w ∈ wd_X10_put, w ∈ wd_X10_putSize := fun _ h => List.mem_cons_of_mem _ (List.mem_append_right _ (List.mem_append_right _ (List.mem_append_right _ (List.mem_append_right _ (List.mem_append_left _ h)))))
  have hl := lv_entry ([.ref (ad 0), .int (nI t)]) (n := 8) (Nat.le_of_ble_eq_true rfl)
  rw [lg_entry_eq]
  generalize (lg_sl ([.ref (ad 0), .int (nI t)]) ++ List.replicate (8 - (lg_sl ([.ref (ad 0), .int (nI t)])).length) Slot.unset).toArray = ls at hl ⊢
  have hl : lv_has ls 8 [(0, .ref (ad 0)), (1, .int (nI t))] := hl
  have hc_1 := hV
  obtain ⟨pnz_2, lnz_2, bnz_2, hRz_2, hvz_2⟩ := hc_1
  obtain ⟨r_3, r_4, r_5, r_6, r_7, r_8, r_9⟩ := hRz_2
  refine lv_aload_n hx hb dX10_putSize_0 rfl (lv_at hl 0 rfl) ?_
  refine lv_sipush (v := nI 2062) hx hb dX10_putSize_1 (by decide +kernel) ?_
  refine lv_iload_n hx hb dX10_putSize_4 rfl (lv_at hl 1 rfl) ?_
  have hc_10 := hV
  obtain ⟨pnz_11, lnz_11, bnz_11, hRz_11, hvz_11⟩ := hc_10
  obtain ⟨r_12, r_13, r_14, r_15, r_16, r_17, r_18⟩ := hRz_11
  have l80 := (hvz_11 t (by omega)).1
  have hR_22 : RN ad cA g x pnz_11 lnz_11 bnz_11 := ⟨r_12, r_13, r_14, r_15, r_16, r_17, r_18⟩
  refine va_callv (va_runV (As := [.int (nI 2062), .int (nI t)]) (rest := []) ⟨hx, hb, hml, hown, hts⟩ (c_X10_copy l dC dI A ad cA g x pnz_11 lnz_11 bnz_11 2062 t hR_22 (by omega) (by omega) l80) (cwV 2 hts (goodIn_app (goodIn_r [Cond.methodLink RX10 92 yX10_copy, Cond.instanceMethod yX10_copy, Cond.selects RX10 yX10_copy yX10_copy, Cond.initialized RX10] [1, 2, 3, 4] rfl rfl) (goodIn_sub (fun w9 h9 => bk0 w9 h9) gw_X10_copy)) rfl rfl rfl (by decide +kernel) ⟨Nat.le_of_ble_eq_true rfl, Nat.le_of_ble_eq_true rfl⟩) ⟨fun a U g mk q => ⟨q.1, q.2.1, q.2.2.1, LY.moved (u := U) (U := U.calling g mk a) (Vm.Alike.refl U.vm) q.2.2.2⟩, va_recv hK hP (ci := 13) (q0 := 0) rfl (wo_at (by decide) r_12), fun U hU hW => ⟨rfl, by rw [hU]; exact fun q h => hA q (Nat.le_trans hS.1 h), by rw [hU]; exact hP, LY.moved hW.alike hL⟩⟩ rfl rfl hl.1 rfl (lv_room (Nat.le_of_ble_eq_true rfl)) dX10_putSize_5 ⟨(Nat.le_of_ble_eq_true rfl), (Nat.le_of_ble_eq_true rfl)⟩) hS (fun q _ h => h) (fun q h => h) (fun u8 t8 H1 locs ht8 hvm8 hw_23 hB hz1 hk1 hS => ?_)
  obtain ⟨g_24, pn2_25⟩ := u8
  try dsimp only at hw_23 hB
  rw [ht8] at hB
  have hP := hB
  generalize H1 = H at hP hS ⊢
  obtain ⟨fr_26, hR_19, h_20, h_21⟩ := hw_23
  have hV_27 : RV ad cA g_24 x (va_up vf 2062 (vf t)) := RV.copy hR_19 hvz_11 (by omega) h_20 h_21
  obtain ⟨vf_28, evf_28⟩ : ∃ z9, z9 = va_up vf 2062 (vf t) := ⟨_, rfl⟩
  rw [← evf_28] at hV_27
  have uvf_28 : vf_28 2062 = vf t := by rw [evf_28]; exact va_up_self _ _ _
  have ovf_28 : ∀ j, j ≠ 2062 → vf_28 j = vf j := fun j hj => by rw [evf_28]; exact va_up_ne _ _ hj
  have hc_29 := hV_27
  obtain ⟨pnz_30, lnz_30, bnz_30, hRz_30, hvz_30⟩ := hc_29
  obtain ⟨r_31, r_32, r_33, r_34, r_35, r_36, r_37⟩ := hRz_30
  refine lv_iconst (v := nI 0) hx hb dX10_putSize_8 (by decide +kernel) ?_
  refine lv_istore_n (lv' := [(2, .int (nI 0)), (0, .ref (ad 0)), (1, .int (nI t))]) hx hb dX10_putSize_9 rfl hl (by decide) rfl (fun ls hl => ?_)
  have loop_38 : ∀ (k9 : Nat) (n : Nat) (vfn : Nat → Int) (fd : Nat → Int) (g_40 : Nat → va_E) (fr_41 : ∀ k, (k ≠ 1 ∧ k ≠ 2 ∧ k ≠ 3 ∧ k ≠ 18) → g_40 k = g_24 k), 200 - n < k9 → (n ≤ 131) → (n = 0 ∨ n = 1 ∨ (vf t).natAbs / 10 ^ (n - 1) ≠ 0) → ((vfn 2062).natAbs = (vf t).natAbs / 10 ^ n) → (∀ j, j < 2060 → vfn j = vf j) → (∀ j, j < n → fd j = (((vf t).natAbs / 10 ^ j % 10 : Nat) : Int)) → (g_40 18 = .inl (cA 18, 200, .inl (fun j => iI (fd j)))) → (RV ad cA g_40 x vfn) → ∀ (H : Heap) (locs : List Loc) (ls : Array Slot), va_P (dC, dI) vwCl (wo ad NSr g_40) H → va_S A s.heap H locs → lv_has ls 8 [(0, .ref (ad 0)), (1, .int (nI t)), (2, .int (nI n))] → W p l e (headSpec wd_X10_putSize ({ frames := 20, cells := 0, slots := 0, locals := 400 })).room s m ([.ref (ad 0), .int (nI t)] : List Value).toArray below meth c H locs (0) (0) (MQ below (va_Qv (fun (u : (Nat → va_E) × (Nat → Int) × (Nat → Int)) => match u with | (g2, vf2, f3) => (∀ k, k ≠ 0 ∧ k ≠ 1 ∧ k ≠ 2 ∧ k ≠ 3 ∧ k ≠ 17 ∧ k ≠ 18 → g2 k = g k) ∧ RV ad cA g2 (va_up x 9 (nI (cn + (decL (vf t).natAbs).length))) vf2 ∧ (∀ j, j < 2060 → vf2 j = vf j) ∧ g2 17 = .inl (cA 17, 256, .inl (fun j => iI (dwr f17 cn (decL (vf t).natAbs) j))) ∧ g2 18 = .inl (cA 18, 200, .inl (fun j => iI (f3 j))) ∧ (decL (vf t).natAbs).length ≤ 131) (fun (u : (Nat → va_E) × (Nat → Int) × (Nat → Int)) (t : State) => va_P (dC, dI) vwCl (wo ad NSr u.1) t.heap) A) ([.ref (ad 0), .int (nI t)] : List Value).toArray s (0) (0) A) (F0 m 10 ls []) := by
    intro k9
    induction k9 with
    | zero => intro n vfn fd g_40 fr_41 h9; exact absurd h9 (Nat.not_lt_zero _)
    | succ k9 ih_39 =>
      intro n vfn fd g_40 fr_41 h9 hn hnw hrv hvo hdd f_42 hVL H locs ls hP hS hl
      have hc_43 := hVL
      obtain ⟨pnz_44, lnz_44, bnz_44, hRz_44, hvz_44⟩ := hc_43
      obtain ⟨r_45, r_46, r_47, r_48, r_49, r_50, r_51⟩ := hRz_44
      have hv0 := hvz_44 2062 (by decide)
      have hz0 := hv0.zero
      have hl0 := hv0.1
      refine lv_aload_n hx hb dX10_putSize_10 rfl (lv_at hl 0 rfl) ?_
      refine m_get (D := (dC, dI)) (v := .ref (ad 2)) (C := RX10) (T := TX10) (N := 29) hx hb hts bk1 hown hK hP 0 (by decide) r_45 rfl 2 (by decide) (hts (.fieldLink RX10 14 "GradientDeskModel" "length" "[I") (List.mem_of_getElem? (i := 5) rfl)) (fun _ h9 => h9) rfl dX10_putSize_11 ?_
      refine lv_sipush (v := nI 2062) hx hb dX10_putSize_14 (by decide +kernel) ?_
      refine m_iald hx hb hK hP 2 (by decide) rfl r_47 (i := 2062) (by decide) (by decide) dX10_putSize_17 ?_
      have b_52 := r_50 2062
      refine lv_if_gt (tgt := 25) hx hb dX10_putSize_18 (by decide) (fun c_53 => ?_) (fun c_53 => ?_)
      · have c_53 := (nI_ltI (a := 0) (b := (lnz_44 2062)) (by decide) (by omega)).mp c_53
        have hnz : 0 < n → (vf t).natAbs / 10 ^ n ≠ 0 := fun h9 => by rw [← hrv]; omega
        have hn9 : n ≤ 130 := by rcases Nat.eq_zero_or_pos n with h9 | h9; omega; have := k_d410 hvb (hnz h9); omega
        obtain ⟨X9, hX9⟩ : ∃ z9, z9 = (vfn 2062).natAbs := ⟨_, rfl⟩
        have hlen := r_50 2062
        refine lv_lconst (v := lN 0) hx hb dX10_putSize_25 (by decide +kernel) ?_
        refine lv_lstore_n (lv' := [(3, .long (lN 0)), (0, .ref (ad 0)), (1, .int (nI t)), (2, .int (nI n))]) hx hb dX10_putSize_26 rfl hl (by decide) rfl (fun ls hl => ?_)
        refine lv_aload_n hx hb dX10_putSize_27 rfl (lv_at hl 1 rfl) ?_
        refine m_get (D := (dC, dI)) (v := .ref (ad 2)) (C := RX10) (T := TX10) (N := 29) hx hb hts bk1 hown hK hP 0 (by decide) r_45 rfl 2 (by decide) (hts (.fieldLink RX10 14 "GradientDeskModel" "length" "[I") (List.mem_of_getElem? (i := 5) rfl)) (fun _ h9 => h9) rfl dX10_putSize_28 ?_
        refine lv_sipush (v := nI 2062) hx hb dX10_putSize_31 (by decide +kernel) ?_
        refine m_iald hx hb hK hP 2 (by decide) rfl r_47 (i := 2062) (by decide) (by decide) dX10_putSize_34 ?_
        have b_54 := r_50 2062
        refine lv_iconst (v := nI 1) hx hb dX10_putSize_35 (by decide +kernel) ?_
        refine lv_isub hx hb dX10_putSize_36 ?_
        refine lv_istore (lv' := [(5, .int (nI (lnz_44 2062) - nI 1)), (3, .long (lN 0)), (0, .ref (ad 0)), (1, .int (nI t)), (2, .int (nI n))]) hx hb dX10_putSize_37 hl (by decide) rfl (fun ls hl => ?_)
        have loop_55 : ∀ (k9 : Nat) (d : Nat) (q : Nat → Nat) (rs : Nat) (g_57 : Nat → va_E) (fr_58 : ∀ k, (k ≠ 1) → g_57 k = g_40 k), d < k9 → (d ≤ lnz_44 2062) → (∀ j, q j < 4294967296) → (rs = X9 / 4294967296 ^ d % 10) → (∀ j, ¬ (164960 + d ≤ j ∧ j < 164960 + (lnz_44 2062)) → q j = pnz_44 j) → (∀ j, d ≤ j → j < lnz_44 2062 → q (164960 + j) = dgt (X9 / 10) j) → (g_57 1 = .inl (cA 1, 165440, .inr (.inl (fun j => lN (q j))))) → ∀ (H : Heap) (locs : List Loc) (ls : Array Slot), va_P (dC, dI) vwCl (wo ad NSr g_57) H → va_S A s.heap H locs → lv_has ls 8 [(0, .ref (ad 0)), (1, .int (nI t)), (2, .int (nI n)), (3, .long (lN rs)), (5, .int (nI d - nI 1))] → W p l e (headSpec wd_X10_putSize ({ frames := 20, cells := 0, slots := 0, locals := 400 })).room s m ([.ref (ad 0), .int (nI t)] : List Value).toArray below meth c H locs (0) (0) (MQ below (va_Qv (fun (u : (Nat → va_E) × (Nat → Int) × (Nat → Int)) => match u with | (g2, vf2, f3) => (∀ k, k ≠ 0 ∧ k ≠ 1 ∧ k ≠ 2 ∧ k ≠ 3 ∧ k ≠ 17 ∧ k ≠ 18 → g2 k = g k) ∧ RV ad cA g2 (va_up x 9 (nI (cn + (decL (vf t).natAbs).length))) vf2 ∧ (∀ j, j < 2060 → vf2 j = vf j) ∧ g2 17 = .inl (cA 17, 256, .inl (fun j => iI (dwr f17 cn (decL (vf t).natAbs) j))) ∧ g2 18 = .inl (cA 18, 200, .inl (fun j => iI (f3 j))) ∧ (decL (vf t).natAbs).length ≤ 131) (fun (u : (Nat → va_E) × (Nat → Int) × (Nat → Int)) (t : State) => va_P (dC, dI) vwCl (wo ad NSr u.1) t.heap) A) ([.ref (ad 0), .int (nI t)] : List Value).toArray s (0) (0) A) (F0 m 39 ls []) := by
          intro k9
          induction k9 with
          | zero => intro d q rs g_57 fr_58 h9; exact absurd h9 (Nat.not_lt_zero _)
          | succ k9 ih_56 =>
            intro d q rs g_57 fr_58 h9 hd hqb hr9 hqo hqd f_59 H locs ls hP hS hl
            refine lv_iload hx hb dX10_putSize_39 (lv_at hl 4 rfl) ?_
            refine lv_if_lt (tgt := 92) hx hb dX10_putSize_41 (by decide) (fun c_60 => ?_) (fun c_60 => ?_)
            · have c_60 := (k_m1lt (d := d) (by omega)).mp c_60
              have hd0 : d = 0 := by omega
              rw [hd0] at hqd hr9
              have hrs : rs = (vf t).natAbs / 10 ^ n % 10 := by rw [hr9, Nat.pow_zero, Nat.div_one, hX9, hrv]
              refine lv_aload_n hx hb dX10_putSize_92 rfl (lv_at hl 0 rfl) ?_
              have f_61 : g_57 0 = .inr (13, Rob ad x) := (fr_58 0 (by omega)).trans r_45
              refine m_get (D := (dC, dI)) (v := .ref (ad 3)) (C := RX10) (T := TX10) (N := 29) hx hb hts bk1 hown hK hP 0 (by decide) f_61 rfl 3 (by decide) (hts (.fieldLink RX10 18 "GradientDeskModel" "below" "[Z") (List.mem_of_getElem? (i := 6) rfl)) (fun _ h9 => h9) rfl dX10_putSize_93 ?_
              refine lv_sipush (v := nI 2062) hx hb dX10_putSize_96 (by decide +kernel) ?_
              refine lv_iconst (v := nI 0) hx hb dX10_putSize_99 (by decide +kernel) ?_
              have f_62 : g_57 3 = .inl (cA 3, 2068, .inl (fun j => nI (bnz_44 j))) := (fr_58 3 (by omega)).trans r_48
              refine m_zast hx hb hK hP hD hS 3 (by decide) rfl f_62 (i := 2062) (x := nI 0) (y := nI 0) (by decide +kernel) (by decide) (by decide) dX10_putSize_100 (fun H locs g_63 f_64 fr_65 hP hS => ?_)
              rw [k_updI] at f_64
              have b_66 : ∀ j, (va_up bnz_44 2062 0) j < 2 := k_up_lt r_51 (by omega)
              have f_64 : g_63 3 = .inl (cA 3, 2068, .inl (fun j => nI ((va_up bnz_44 2062 0) j))) := f_64
              refine lv_aload_n hx hb dX10_putSize_101 rfl (lv_at hl 0 rfl) ?_
              refine lv_sipush (v := nI 2062) hx hb dX10_putSize_102 (by decide +kernel) ?_
              have f_67 : g_63 0 = .inr (13, Rob ad x) := (fr_65 0 (by omega)).trans f_61
              have f_68 : g_63 1 = .inl (cA 1, 165440, .inr (.inl (fun j => lN (q j)))) := (fr_65 1 (by omega)).trans f_59
              have f_69 : g_63 2 = .inl (cA 2, 2068, .inl (fun j => nI (lnz_44 j))) := (fr_65 2 (by omega)).trans ((fr_58 2 (by omega)).trans r_47)
              have hR_70 : RN ad cA g_63 x q lnz_44 (va_up bnz_44 2062 0) := ⟨f_67, f_68, f_69, f_64, hqb, r_50, b_66⟩
              refine va_callv (va_runV (As := [.int (nI 2062)]) (rest := []) ⟨hx, hb, hml, hown, hts⟩ (c_X10_trim l dC dI A ad cA g_63 x q lnz_44 (va_up bnz_44 2062 0) 2062 hR_70 (by decide)) (cwV 1 hts (goodIn_app (goodIn_r [Cond.methodLink RX10 83 yX10_trim, Cond.instanceMethod yX10_trim, Cond.selects RX10 yX10_trim yX10_trim, Cond.initialized RX10] [7, 8, 9, 4] rfl rfl) (goodIn_sub (fun w9 h9 => bk2 w9 h9) gw_X10_trim)) rfl rfl rfl (by decide +kernel) ⟨Nat.le_of_ble_eq_true rfl, Nat.le_of_ble_eq_true rfl⟩) ⟨fun a U g mk q => ⟨q.1, q.2.1, q.2.2.1, LY.moved (u := U) (U := U.calling g mk a) (Vm.Alike.refl U.vm) q.2.2.2⟩, va_recv hK hP (ci := 13) (q0 := 0) rfl (wo_at (by decide) f_67), fun U hU hW => ⟨rfl, by rw [hU]; exact fun q h => hA q (Nat.le_trans hS.1 h), by rw [hU]; exact hP, LY.moved hW.alike hL⟩⟩ rfl rfl hl.1 rfl (lv_room (Nat.le_of_ble_eq_true rfl)) dX10_putSize_105 ⟨(Nat.le_of_ble_eq_true rfl), (Nat.le_of_ble_eq_true rfl)⟩) hS (fun q _ h => h) (fun q h => h) (fun u8 t8 H1 locs ht8 hvm8 hw_71 hB hz1 hk1 hS => ?_)
              obtain ⟨g_72, m9_73⟩ := u8
              try dsimp only at hw_71 hB
              rw [ht8] at hB
              have hP := hB
              generalize H1 = H at hP hS ⊢
              obtain ⟨fr_74, hRt, hmt, hzt, htt⟩ := hw_71
              have hrp : Rp (fun k => q (80 * 2062 + k)) m9_73 (X9 / 10) := Rp.fin (n := lnz_44 2062) (fun i hi => hqd i (Nat.zero_le _) hi) (Nat.lt_of_le_of_lt (Nat.div_le_self _ _) (by rw [hX9]; exact hv0.lt)) hmt hzt htt
              have hV_75 : RV ad cA g_72 x (va_up vfn 2062 (((vfn 2062).natAbs / 10 : Nat) : Int)) := RV.up hRt hvz_44 (fun j hj hne => ⟨va_up_ne _ _ hne, (va_up_ne _ _ hne).trans (va_up_ne _ _ hne), fun k hk => hqo _ (by omega)⟩) ⟨by rw [va_up_self]; omega, by rw [va_up_self, Int.natAbs_natCast, ← hX9]; exact hrp, by rw [va_up_self]; have h9 : va_up bnz_44 2062 0 2062 = 0 := va_up_self _ _ _; rw [h9]; split <;> omega⟩
              obtain ⟨vf_76, evf_76⟩ : ∃ z9, z9 = va_up vfn 2062 (((vfn 2062).natAbs / 10 : Nat) : Int) := ⟨_, rfl⟩
              rw [← evf_76] at hV_75
              have uvf_76 : vf_76 2062 = (((vfn 2062).natAbs / 10 : Nat) : Int) := by rw [evf_76]; exact va_up_self _ _ _
              have ovf_76 : ∀ j, j ≠ 2062 → vf_76 j = vfn j := fun j hj => by rw [evf_76]; exact va_up_ne _ _ hj
              have hc_77 := hV_75
              obtain ⟨pnz_78, lnz_78, bnz_78, hRz_78, hvz_78⟩ := hc_77
              obtain ⟨r_79, r_80, r_81, r_82, r_83, r_84, r_85⟩ := hRz_78
              refine lv_aload_n hx hb dX10_putSize_108 rfl (lv_at hl 0 rfl) ?_
              refine m_get (D := (dC, dI)) (v := .ref (ad 18)) (C := RX10) (T := TX10) (N := 29) hx hb hts bk1 hown hK hP 0 (by decide) r_79 rfl 26 (by decide) (hts (.fieldLink RX10 68 "GradientDeskModel" "digits" "[I") (List.mem_of_getElem? (i := 10) rfl)) (fun _ h9 => h9) rfl dX10_putSize_109 ?_
              refine lv_iload_n hx hb dX10_putSize_112 rfl (lv_at hl 2 rfl) ?_
              refine lv_lload_n hx hb dX10_putSize_113 rfl (lv_at hl 3 rfl) ?_
              refine lv_l2i hx hb dX10_putSize_114 rfl ?_
              refine lv_topi (fun x_86 e_87 => ?_)
              obtain rfl : x_86 = nI rs := e_87.trans (lN_i rs)
              have f_88 : g_72 18 = .inl (cA 18, 200, .inl (fun j => iI (fd j))) := (fr_74 18 (by omega)).trans ((fr_65 18 (by omega)).trans ((fr_58 18 (by omega)).trans f_42))
              refine m_iast hx hb hK hP hD hS 18 (by decide) rfl f_88 (i := n) (x := nI rs) (by omega) (by decide) dX10_putSize_115 (fun H locs g_89 f_90 fr_91 hP hS => ?_)
              rw [(nI_iI rs), k_updZ] at f_90
              have f_90 : g_89 18 = .inl (cA 18, 200, .inl (fun j => iI ((va_up fd n ((rs : Nat) : Int)) j))) := f_90
              refine lv_iinc (v := nI (n + 1)) (lv' := [(2, .int (nI (n + 1))), (0, .ref (ad 0)), (1, .int (nI t)), (3, .long (lN rs)), (5, .int (nI d - nI 1))]) hx hb dX10_putSize_116 hl (k := 2) rfl (nI_add n 1) (by decide) rfl (fun ls hl => ?_)
              refine lv_goto (tgt := 10) hx hb dX10_putSize_119 (by decide) ?_
              have f_94 : g_89 0 = .inr (13, Rob ad x) := (fr_91 0 (by omega)).trans r_79
              exact ih_39 (n + 1) vf_76 (va_up fd n ((rs : Nat) : Int)) g_89 (fun (k : Nat) (hk : k ≠ 1 ∧ k ≠ 2 ∧ k ≠ 3 ∧ k ≠ 18) => (fr_91 k (by omega)).trans ((fr_74 k (by omega)).trans ((fr_65 k (by omega)).trans ((fr_58 k (by omega)).trans ((fr_41 k (by omega)).trans (rfl)))))) (by omega) (by omega) (by rcases Nat.eq_zero_or_pos n with h9 | h9; exact Or.inr (Or.inl (by omega)); exact Or.inr (Or.inr (by rw [Nat.add_sub_cancel]; exact hnz h9))) (by rw [uvf_76, Int.natAbs_natCast, hrv, dv_s]) (fun j hj => (ovf_76 j (by omega)).trans (hvo j hj)) (fun j hj => by by_cases h9 : j = n; rw [h9, va_up_self, hrs]; rw [va_up_ne _ _ h9]; exact hdd j (by omega)) f_90 (hV_75.setx (fun (k : Nat) (hk : k = 1 ∨ k = 2 ∨ k = 3) => (fr_91 k (by omega)).trans (rfl)) f_94) _ _ _ hP hS (lv_sub (l' := [(0, .ref (ad 0)), (1, .int (nI t)), (2, .int (nI (n + 1)))]) hl [1, 2, 0] rfl)
            · have c_60 := mt (k_m1lt (d := d) (by omega)).mpr c_60
              have e_95 : nI d - nI 1 = nI (d - 1) := pk_sub (by omega)
              rw [e_95] at hl
              have hr10 : rs < 10 := by rw [hr9]; exact Nat.mod_lt _ (by decide)
              have hpd : q (164960 + (d - 1)) = dgt X9 (d - 1) := by rw [hqo _ (by omega), hX9]; exact hv0.dg (by omega)
              refine lv_lload_n hx hb dX10_putSize_44 rfl (lv_at hl 3 rfl) ?_
              refine lv_bipush (v := nI 32) hx hb dX10_putSize_45 (by decide +kernel) ?_
              refine lv_lshl hx hb dX10_putSize_47 rfl ?_
              refine lv_topl (fun y_96 e_97 => ?_)
              obtain rfl : y_96 = lN (rs * 4294967296) := e_97.trans ((wb_shl rs (k := 32) (by decide)).trans rfl)
              refine lv_aload_n hx hb dX10_putSize_48 rfl (lv_at hl 0 rfl) ?_
              have f_98 : g_57 0 = .inr (13, Rob ad x) := (fr_58 0 (by omega)).trans r_45
              refine m_get (D := (dC, dI)) (v := .ref (ad 1)) (C := RX10) (T := TX10) (N := 29) hx hb hts bk1 hown hK hP 0 (by decide) f_98 rfl 1 (by decide) (hts (.fieldLink RX10 8 "GradientDeskModel" "pieces" "[J") (List.mem_of_getElem? (i := 11) rfl)) (fun _ h9 => h9) rfl dX10_putSize_49 ?_
              refine lv_ldcw (v := 164960) hx hb hown (hts (.constant RX10 281 (164960)) (List.mem_of_getElem? (i := 12) rfl)) dX10_putSize_52 ?_
              refine lv_topi (fun x_99 e_100 => ?_)
              obtain rfl : x_99 = nI 164960 := e_100.trans (by decide)
              refine lv_iload hx hb dX10_putSize_55 (lv_at hl 4 rfl) ?_
              refine lv_iadd hx hb dX10_putSize_57 ?_
              refine lv_topi (fun x_101 e_102 => ?_)
              obtain rfl : x_101 = nI (164960 + (d - 1)) := e_102.trans (nI_add 164960 (d - 1))
              refine m_lald hx hb hK hP 1 (by decide) rfl f_59 (i := 164960 + (d - 1)) (by omega) (by decide) dX10_putSize_58 ?_
              have b_103 := hqb (164960 + (d - 1))
              refine lv_lor hx hb dX10_putSize_59 ?_
              refine lv_topl (fun y_104 e_105 => ?_)
              obtain rfl : y_104 = lN (rs * 4294967296 + q (164960 + (d - 1))) := e_105.trans ((wb_or (a := (rs * 4294967296)) (b := (q (164960 + (d - 1)))) (by omega) (by omega)).trans (congrArg lN (k_or32 (by omega))))
              refine lv_lstore (lv' := [(6, .long (lN (rs * 4294967296 + q (164960 + (d - 1))))), (0, .ref (ad 0)), (1, .int (nI t)), (2, .int (nI n)), (3, .long (lN rs)), (5, .int (nI (d - 1)))]) hx hb dX10_putSize_60 hl (by decide) rfl (fun ls hl => ?_)
              refine lv_aload_n hx hb dX10_putSize_62 rfl (lv_at hl 1 rfl) ?_
              refine m_get (D := (dC, dI)) (v := .ref (ad 1)) (C := RX10) (T := TX10) (N := 29) hx hb hts bk1 hown hK hP 0 (by decide) f_98 rfl 1 (by decide) (hts (.fieldLink RX10 8 "GradientDeskModel" "pieces" "[J") (List.mem_of_getElem? (i := 11) rfl)) (fun _ h9 => h9) rfl dX10_putSize_63 ?_
              refine lv_ldcw (v := 164960) hx hb hown (hts (.constant RX10 281 (164960)) (List.mem_of_getElem? (i := 12) rfl)) dX10_putSize_66 ?_
              refine lv_topi (fun x_106 e_107 => ?_)
              obtain rfl : x_106 = nI 164960 := e_107.trans (by decide)
              refine lv_iload hx hb dX10_putSize_69 (lv_at hl 5 rfl) ?_
              refine lv_iadd hx hb dX10_putSize_71 ?_
              refine lv_topi (fun x_108 e_109 => ?_)
              obtain rfl : x_108 = nI (164960 + (d - 1)) := e_109.trans (nI_add 164960 (d - 1))
              refine lv_lload hx hb dX10_putSize_72 (lv_at hl 0 rfl) ?_
              refine lv_ldc2 (v := 10) hx hb hown (hts (.constantLong RX10 282 (10)) (List.mem_of_getElem? (i := 13) rfl)) dX10_putSize_74 ?_
              refine lv_topl (fun y_110 e_111 => ?_)
              obtain rfl : y_110 = lN 10 := e_111
              refine lv_ldiv hx hb dX10_putSize_77 (by decide) ?_
              refine lv_topl (fun y_112 e_113 => ?_)
              obtain rfl : y_112 = lN ((rs * 4294967296 + q (164960 + (d - 1))) / 10) := e_113.trans (pk_lDiv (by omega) (by decide) (by decide))
              refine m_last hx hb hK hP hD hS 1 (by decide) rfl f_59 (i := 164960 + (d - 1)) (x := lN ((rs * 4294967296 + q (164960 + (d - 1))) / 10)) (by omega) (by decide) dX10_putSize_78 (fun H locs g_114 f_115 fr_116 hP hS => ?_)
              rw [k_updL] at f_115
              have b_117 : ∀ j, (va_up q (164960 + (d - 1)) ((rs * 4294967296 + q (164960 + (d - 1))) / 10)) j < 4294967296 := k_up_lt hqb (by omega)
              have f_115 : g_114 1 = .inl (cA 1, 165440, .inr (.inl (fun j => lN ((va_up q (164960 + (d - 1)) ((rs * 4294967296 + q (164960 + (d - 1))) / 10)) j)))) := f_115
              refine lv_lload hx hb dX10_putSize_79 (lv_at hl 0 rfl) ?_
              refine lv_ldc2 (v := 10) hx hb hown (hts (.constantLong RX10 282 (10)) (List.mem_of_getElem? (i := 13) rfl)) dX10_putSize_81 ?_
              refine lv_topl (fun y_118 e_119 => ?_)
              obtain rfl : y_118 = lN 10 := e_119
              refine lv_lrem hx hb dX10_putSize_84 (by decide) ?_
              refine lv_topl (fun y_120 e_121 => ?_)
              obtain rfl : y_120 = lN ((rs * 4294967296 + q (164960 + (d - 1))) % 10) := e_121.trans (pk_lRem (by omega) (by decide) (by decide))
              refine lv_lstore_n (lv' := [(3, .long (lN ((rs * 4294967296 + q (164960 + (d - 1))) % 10))), (6, .long (lN (rs * 4294967296 + q (164960 + (d - 1))))), (0, .ref (ad 0)), (1, .int (nI t)), (2, .int (nI n)), (5, .int (nI (d - 1)))]) hx hb dX10_putSize_85 rfl hl (by decide) rfl (fun ls hl => ?_)
              refine lv_iinc (v := nI (d - 1) - nI 1) (lv' := [(5, .int (nI (d - 1) - nI 1)), (3, .long (lN ((rs * 4294967296 + q (164960 + (d - 1))) % 10))), (6, .long (lN (rs * 4294967296 + q (164960 + (d - 1))))), (0, .ref (ad 0)), (1, .int (nI t)), (2, .int (nI n))]) hx hb dX10_putSize_86 hl (k := 5) rfl ((show nI (d - 1) + Int32.ofInt (-1) = nI (d - 1) - nI 1 from by rw [show Int32.ofInt (-1) = -nI 1 from by decide, ← Int32.sub_eq_add_neg])) (by decide) rfl (fun ls hl => ?_)
              refine lv_goto (tgt := 39) hx hb dX10_putSize_89 (by decide) ?_
              exact ih_56 (d - 1) (va_up q (164960 + (d - 1)) ((rs * 4294967296 + q (164960 + (d - 1))) / 10)) ((rs * 4294967296 + q (164960 + (d - 1))) % 10) g_114 (fun (k : Nat) (hk : k ≠ 1) => (fr_116 k (by omega)).trans ((fr_58 k (by omega)).trans (rfl))) (by omega) (by omega) b_117 (by rw [(dgt_d10 X9 (d - 1)).2, show d - 1 + 1 = d by omega, ← hr9, hpd]) (fun j hj => by rw [va_up_ne _ _ (by omega)]; exact hqo j (by omega)) (fun j h1 h2 => by by_cases h9 : j = d - 1; rw [h9, va_up_self, (dgt_d10 X9 (d - 1)).1, show d - 1 + 1 = d by omega, ← hr9, hpd]; rw [va_up_ne _ _ (by omega)]; exact hqd j (by omega) h2) f_115 _ _ _ hP hS (lv_sub (l' := [(0, .ref (ad 0)), (1, .int (nI t)), (2, .int (nI n)), (3, .long (lN ((rs * 4294967296 + q (164960 + (d - 1))) % 10))), (5, .int (nI (d - 1) - nI 1))]) hl [3, 4, 5, 1, 0] rfl)
        exact loop_55 _ (lnz_44 2062) pnz_44 0 g_40 (fun (k : Nat) (hk : k ≠ 1) => rfl) (Nat.lt_succ_self _) (by omega) r_49 (by rw [Nat.div_eq_of_lt (by rw [hX9]; exact hv0.lt)]) (fun _ _ => rfl) (fun j h1 h2 => absurd h1 (by omega)) r_46 _ _ _ hP hS (lv_sub (l' := [(0, .ref (ad 0)), (1, .int (nI t)), (2, .int (nI n)), (3, .long (lN 0)), (5, .int (nI (lnz_44 2062) - nI 1))]) hl [2, 3, 4, 1, 0] rfl)
      · have c_53 := mt (nI_ltI (a := 0) (b := (lnz_44 2062)) (by decide) (by omega)).mpr c_53
        refine lv_iload_n hx hb dX10_putSize_21 rfl (lv_at hl 2 rfl) ?_
        refine lv_if_ne (tgt := 122) hx hb dX10_putSize_22 (by decide) (fun c_124 => ?_) (fun c_124 => ?_)
        · have c_124 := mt (nI_eq (a := n) (b := 0) (by omega) (by decide)).mpr c_124
          have hzr : (vf t).natAbs / 10 ^ n = 0 := by rw [← hrv]; omega
          have hnd : isND (vf t).natAbs n := ⟨by omega, hzr, by omega⟩
          have hdl := decL_len hnd
          have hdc := decL_of hnd
          refine lv_iload_n hx hb dX10_putSize_122 rfl (lv_at hl 2 rfl) ?_
          refine lv_iconst (v := nI 1) hx hb dX10_putSize_123 (by decide +kernel) ?_
          refine lv_isub hx hb dX10_putSize_124 ?_
          refine lv_istore_n (lv' := [(3, .int (nI n - nI 1)), (0, .ref (ad 0)), (1, .int (nI t)), (2, .int (nI n))]) hx hb dX10_putSize_125 rfl hl (by decide) rfl (fun ls hl => ?_)
          have loop_125 : ∀ (k9 : Nat) (d : Nat) (ff : Nat → Int) (xx : Nat → Int32) (g_127 : Nat → va_E) (fr_128 : ∀ k, (k ≠ 0 ∧ k ≠ 17) → g_127 k = g_40 k), d < k9 → (d ≤ n) → (xx 9 = nI (cn + (n - d))) → (∀ j, j ≠ 9 → xx j = x j) → (dwr ff (cn + (n - d)) (dgs (vf t).natAbs d) = dwr f17 cn (dgs (vf t).natAbs n)) → (g_127 0 = .inr (13, Rob ad xx)) → (g_127 17 = .inl (cA 17, 256, .inl (fun j => iI (ff j)))) → ∀ (H : Heap) (locs : List Loc) (ls : Array Slot), va_P (dC, dI) vwCl (wo ad NSr g_127) H → va_S A s.heap H locs → lv_has ls 8 [(0, .ref (ad 0)), (1, .int (nI t)), (2, .int (nI n)), (3, .int (nI d - nI 1))] → W p l e (headSpec wd_X10_putSize ({ frames := 20, cells := 0, slots := 0, locals := 400 })).room s m ([.ref (ad 0), .int (nI t)] : List Value).toArray below meth c H locs (0) (0) (MQ below (va_Qv (fun (u : (Nat → va_E) × (Nat → Int) × (Nat → Int)) => match u with | (g2, vf2, f3) => (∀ k, k ≠ 0 ∧ k ≠ 1 ∧ k ≠ 2 ∧ k ≠ 3 ∧ k ≠ 17 ∧ k ≠ 18 → g2 k = g k) ∧ RV ad cA g2 (va_up x 9 (nI (cn + (decL (vf t).natAbs).length))) vf2 ∧ (∀ j, j < 2060 → vf2 j = vf j) ∧ g2 17 = .inl (cA 17, 256, .inl (fun j => iI (dwr f17 cn (decL (vf t).natAbs) j))) ∧ g2 18 = .inl (cA 18, 200, .inl (fun j => iI (f3 j))) ∧ (decL (vf t).natAbs).length ≤ 131) (fun (u : (Nat → va_E) × (Nat → Int) × (Nat → Int)) (t : State) => va_P (dC, dI) vwCl (wo ad NSr u.1) t.heap) A) ([.ref (ad 0), .int (nI t)] : List Value).toArray s (0) (0) A) (F0 m 126 ls []) := by
            intro k9
            induction k9 with
            | zero => intro d ff xx g_127 fr_128 h9; exact absurd h9 (Nat.not_lt_zero _)
            | succ k9 ih_126 =>
              intro d ff xx g_127 fr_128 h9 hdn hx9 hxo hdw f_129 f_130 H locs ls hP hS hl
              refine lv_iload_n hx hb dX10_putSize_126 rfl (lv_at hl 3 rfl) ?_
              refine lv_if_lt (tgt := 149) hx hb dX10_putSize_127 (by decide) (fun c_131 => ?_) (fun c_131 => ?_)
              · have c_131 := (k_m1lt (d := d) (by omega)).mp c_131
                have hd0 : d = 0 := by omega
                rw [hd0] at hdw hx9
                have hxe : xx = va_up x 9 (nI (cn + (decL (vf t).natAbs).length)) := by funext j; by_cases h8 : j = 9; rw [h8, va_up_self, hx9, hdl]; rfl; rw [va_up_ne _ _ h8]; exact hxo j h8
                have hdw2 : ff = dwr f17 cn (decL (vf t).natAbs) := by rw [← hdc]; exact hdw
                have hVe : RV ad cA g_127 xx vfn := hVL.setx (fun (k : Nat) (hk : k = 1 ∨ k = 2 ∨ k = 3) => (fr_128 k (by omega)).trans (rfl)) f_129
                rw [hxe] at hVe
                have h177e := f_130
                rw [hdw2] at h177e
                have f_132 : g_127 18 = .inl (cA 18, 200, .inl (fun j => iI (fd j))) := (fr_128 18 (by omega)).trans f_42
                refine W.widen (k := 0) (n := 0) (by omega) (by omega) ?_
                exact W.vret hx hb hr (fun t9 ht9 hW9 => ⟨⟨(g_127, vfn, fd), rfl, ⟨(fun (k : Nat) (hk : k ≠ 0 ∧ k ≠ 1 ∧ k ≠ 2 ∧ k ≠ 3 ∧ k ≠ 17 ∧ k ≠ 18) => (fr_128 k (by omega)).trans ((fr_41 k (by omega)).trans ((fr_26 k (by omega)).trans (rfl)))), hVe, hvo, h177e, f_132, by omega⟩, by show va_P (dC, dI) vwCl _ t9.heap; rw [ht9]; exact hP⟩, hS.F ht9⟩) hS.2.2 dX10_putSize_149
              · have c_131 := mt (k_m1lt (d := d) (by omega)).mpr c_131
                have e_133 : nI d - nI 1 = nI (d - 1) := pk_sub (by omega)
                rw [e_133] at hl
                refine lv_aload_n hx hb dX10_putSize_130 rfl (lv_at hl 0 rfl) ?_
                refine lv_bipush (v := nI 48) hx hb dX10_putSize_131 (by decide +kernel) ?_
                refine lv_aload_n hx hb dX10_putSize_133 rfl (lv_at hl 0 rfl) ?_
                refine m_get (D := (dC, dI)) (v := .ref (ad 18)) (C := RX10) (T := TX10) (N := 29) hx hb hts bk1 hown hK hP 0 (by decide) f_129 rfl 26 (by decide) (hts (.fieldLink RX10 68 "GradientDeskModel" "digits" "[I") (List.mem_of_getElem? (i := 10) rfl)) (fun _ h9 => h9) rfl dX10_putSize_134 ?_
                refine lv_iload_n hx hb dX10_putSize_137 rfl (lv_at hl 3 rfl) ?_
                have f_134 : g_127 18 = .inl (cA 18, 200, .inl (fun j => iI (fd j))) := (fr_128 18 (by omega)).trans f_42
                refine m_iald hx hb hK hP 18 (by decide) rfl f_134 (i := d - 1) (by omega) (by decide) dX10_putSize_138 ?_
                refine lv_iadd hx hb dX10_putSize_139 ?_
                refine lv_topi (fun x_135 e_136 => ?_)
                obtain rfl : x_135 = iI (48 + (fd (d - 1))) := e_136.trans (iI_addP (show nI 48 = iI 48 from by decide) rfl)
                have hdb := hdd (d - 1) (by omega)
                refine va_callv (va_runV (As := [.int (iI (48 + (fd (d - 1))))]) (rest := []) ⟨hx, hb, hml, hown, hts⟩ (c_X10_put l dC dI A ad cA g_127 xx ff (cn + (n - d)) (48 + fd (d - 1)) f_129 f_130 hx9 (by omega)) (cwV 1 hts (goodIn_app (goodIn_r [Cond.methodLink RX10 284 yX10_put, Cond.instanceMethod yX10_put, Cond.selects RX10 yX10_put yX10_put, Cond.initialized RX10] [14, 15, 16, 4] rfl rfl) (goodIn_sub (fun w9 h9 => bk3 w9 h9) gw_X10_put)) rfl rfl rfl (by decide +kernel) ⟨Nat.le_of_ble_eq_true rfl, Nat.le_of_ble_eq_true rfl⟩) ⟨fun a U g mk q => ⟨q.1, q.2.1, q.2.2.1, LY.moved (u := U) (U := U.calling g mk a) (Vm.Alike.refl U.vm) q.2.2.2⟩, va_recv hK hP (ci := 13) (q0 := 0) rfl (wo_at (by decide) f_129), fun U hU hW => ⟨rfl, by rw [hU]; exact fun q h => hA q (Nat.le_trans hS.1 h), by rw [hU]; exact hP, LY.moved hW.alike hL⟩⟩ rfl rfl hl.1 rfl (lv_room (Nat.le_of_ble_eq_true rfl)) dX10_putSize_140 ⟨(Nat.le_of_ble_eq_true rfl), (Nat.le_of_ble_eq_true rfl)⟩) hS (fun q _ h => h) (fun q h => h) (fun u8 t8 H1 locs ht8 hvm8 hw_137 hB hz1 hk1 hS => ?_)
                obtain ⟨g_138, rfl⟩ : ∃ z, z = u8 := ⟨_, rfl⟩
                try dsimp only at hw_137 hB
                rw [ht8] at hB
                have hP := hB
                generalize H1 = H at hP hS ⊢
                obtain ⟨fr_139, hob7, h177⟩ := hw_137
                refine lv_iinc (v := nI (d - 1) - nI 1) (lv' := [(3, .int (nI (d - 1) - nI 1)), (0, .ref (ad 0)), (1, .int (nI t)), (2, .int (nI n))]) hx hb dX10_putSize_143 hl (k := 3) rfl ((show nI (d - 1) + Int32.ofInt (-1) = nI (d - 1) - nI 1 from by rw [show Int32.ofInt (-1) = -nI 1 from by decide, ← Int32.sub_eq_add_neg])) (by decide) rfl (fun ls hl => ?_)
                refine lv_goto (tgt := 126) hx hb dX10_putSize_146 (by decide) ?_
                exact ih_126 (d - 1) (if cn + (n - d) < 250 then va_up ff (cn + (n - d)) (48 + fd (d - 1)) else ff) (va_up xx 9 (nI (cn + (n - d) + 1))) g_138 (fun (k : Nat) (hk : k ≠ 0 ∧ k ≠ 17) => (fr_139 k (by omega)).trans ((fr_128 k (by omega)).trans (rfl))) (by omega) (by omega) ((va_up_self _ _ _).trans (congrArg nI (by omega))) (fun j hj => (va_up_ne _ _ hj).trans (hxo j hj)) (by rw [← hdw, show dgs (vf t).natAbs d = (48 + (((vf t).natAbs / 10 ^ (d - 1) % 10 : Nat) : Int)) :: dgs (vf t).natAbs (d - 1) by rw [show dgs (vf t).natAbs d = dgs (vf t).natAbs ((d - 1) + 1) by rw [show d - 1 + 1 = d by omega]]; rfl, hdd (d - 1) (by omega), show cn + (n - (d - 1)) = cn + (n - d) + 1 by omega]; rfl) hob7 h177 _ _ _ hP hS (lv_sub (l' := [(0, .ref (ad 0)), (1, .int (nI t)), (2, .int (nI n)), (3, .int (nI (d - 1) - nI 1))]) hl [1, 2, 3, 0] rfl)
          have f_142 : g_40 17 = .inl (cA 17, 256, .inl (fun j => iI (f17 j))) := (fr_41 17 (by omega)).trans ((fr_26 17 (by omega)).trans h17)
          exact loop_125 _ n f17 x g_40 (fun (k : Nat) (hk : k ≠ 0 ∧ k ≠ 17) => rfl) (Nat.lt_succ_self _) (by omega) (hx9c.trans (congrArg nI (by omega))) (fun _ _ => rfl) (by rw [Nat.sub_self]; rfl) r_45 f_142 _ _ _ hP hS (lv_sub (l' := [(0, .ref (ad 0)), (1, .int (nI t)), (2, .int (nI n)), (3, .int (nI n - nI 1))]) hl [1, 2, 3, 0] rfl)
        · have c_124 := (nI_eq (a := n) (b := 0) (by omega) (by decide)).mp c_124
          have hnz : 0 < n → (vf t).natAbs / 10 ^ n ≠ 0 := fun h9 => by rw [← hrv]; omega
          have hn9 : n ≤ 130 := by rcases Nat.eq_zero_or_pos n with h9 | h9; omega; have := k_d410 hvb (hnz h9); omega
          obtain ⟨X9, hX9⟩ : ∃ z9, z9 = (vfn 2062).natAbs := ⟨_, rfl⟩
          have hlen := r_50 2062
          refine lv_lconst (v := lN 0) hx hb dX10_putSize_25 (by decide +kernel) ?_
          refine lv_lstore_n (lv' := [(3, .long (lN 0)), (0, .ref (ad 0)), (1, .int (nI t)), (2, .int (nI n))]) hx hb dX10_putSize_26 rfl hl (by decide) rfl (fun ls hl => ?_)
          refine lv_aload_n hx hb dX10_putSize_27 rfl (lv_at hl 1 rfl) ?_
          refine m_get (D := (dC, dI)) (v := .ref (ad 2)) (C := RX10) (T := TX10) (N := 29) hx hb hts bk1 hown hK hP 0 (by decide) r_45 rfl 2 (by decide) (hts (.fieldLink RX10 14 "GradientDeskModel" "length" "[I") (List.mem_of_getElem? (i := 5) rfl)) (fun _ h9 => h9) rfl dX10_putSize_28 ?_
          refine lv_sipush (v := nI 2062) hx hb dX10_putSize_31 (by decide +kernel) ?_
          refine m_iald hx hb hK hP 2 (by decide) rfl r_47 (i := 2062) (by decide) (by decide) dX10_putSize_34 ?_
          have b_143 := r_50 2062
          refine lv_iconst (v := nI 1) hx hb dX10_putSize_35 (by decide +kernel) ?_
          refine lv_isub hx hb dX10_putSize_36 ?_
          refine lv_istore (lv' := [(5, .int (nI (lnz_44 2062) - nI 1)), (3, .long (lN 0)), (0, .ref (ad 0)), (1, .int (nI t)), (2, .int (nI n))]) hx hb dX10_putSize_37 hl (by decide) rfl (fun ls hl => ?_)
          have loop_144 : ∀ (k9 : Nat) (d : Nat) (q : Nat → Nat) (rs : Nat) (g_146 : Nat → va_E) (fr_147 : ∀ k, (k ≠ 1) → g_146 k = g_40 k), d < k9 → (d ≤ lnz_44 2062) → (∀ j, q j < 4294967296) → (rs = X9 / 4294967296 ^ d % 10) → (∀ j, ¬ (164960 + d ≤ j ∧ j < 164960 + (lnz_44 2062)) → q j = pnz_44 j) → (∀ j, d ≤ j → j < lnz_44 2062 → q (164960 + j) = dgt (X9 / 10) j) → (g_146 1 = .inl (cA 1, 165440, .inr (.inl (fun j => lN (q j))))) → ∀ (H : Heap) (locs : List Loc) (ls : Array Slot), va_P (dC, dI) vwCl (wo ad NSr g_146) H → va_S A s.heap H locs → lv_has ls 8 [(0, .ref (ad 0)), (1, .int (nI t)), (2, .int (nI n)), (3, .long (lN rs)), (5, .int (nI d - nI 1))] → W p l e (headSpec wd_X10_putSize ({ frames := 20, cells := 0, slots := 0, locals := 400 })).room s m ([.ref (ad 0), .int (nI t)] : List Value).toArray below meth c H locs (0) (0) (MQ below (va_Qv (fun (u : (Nat → va_E) × (Nat → Int) × (Nat → Int)) => match u with | (g2, vf2, f3) => (∀ k, k ≠ 0 ∧ k ≠ 1 ∧ k ≠ 2 ∧ k ≠ 3 ∧ k ≠ 17 ∧ k ≠ 18 → g2 k = g k) ∧ RV ad cA g2 (va_up x 9 (nI (cn + (decL (vf t).natAbs).length))) vf2 ∧ (∀ j, j < 2060 → vf2 j = vf j) ∧ g2 17 = .inl (cA 17, 256, .inl (fun j => iI (dwr f17 cn (decL (vf t).natAbs) j))) ∧ g2 18 = .inl (cA 18, 200, .inl (fun j => iI (f3 j))) ∧ (decL (vf t).natAbs).length ≤ 131) (fun (u : (Nat → va_E) × (Nat → Int) × (Nat → Int)) (t : State) => va_P (dC, dI) vwCl (wo ad NSr u.1) t.heap) A) ([.ref (ad 0), .int (nI t)] : List Value).toArray s (0) (0) A) (F0 m 39 ls []) := by
            intro k9
            induction k9 with
            | zero => intro d q rs g_146 fr_147 h9; exact absurd h9 (Nat.not_lt_zero _)
            | succ k9 ih_145 =>
              intro d q rs g_146 fr_147 h9 hd hqb hr9 hqo hqd f_148 H locs ls hP hS hl
              refine lv_iload hx hb dX10_putSize_39 (lv_at hl 4 rfl) ?_
              refine lv_if_lt (tgt := 92) hx hb dX10_putSize_41 (by decide) (fun c_149 => ?_) (fun c_149 => ?_)
              · have c_149 := (k_m1lt (d := d) (by omega)).mp c_149
                have hd0 : d = 0 := by omega
                rw [hd0] at hqd hr9
                have hrs : rs = (vf t).natAbs / 10 ^ n % 10 := by rw [hr9, Nat.pow_zero, Nat.div_one, hX9, hrv]
                refine lv_aload_n hx hb dX10_putSize_92 rfl (lv_at hl 0 rfl) ?_
                have f_150 : g_146 0 = .inr (13, Rob ad x) := (fr_147 0 (by omega)).trans r_45
                refine m_get (D := (dC, dI)) (v := .ref (ad 3)) (C := RX10) (T := TX10) (N := 29) hx hb hts bk1 hown hK hP 0 (by decide) f_150 rfl 3 (by decide) (hts (.fieldLink RX10 18 "GradientDeskModel" "below" "[Z") (List.mem_of_getElem? (i := 6) rfl)) (fun _ h9 => h9) rfl dX10_putSize_93 ?_
                refine lv_sipush (v := nI 2062) hx hb dX10_putSize_96 (by decide +kernel) ?_
                refine lv_iconst (v := nI 0) hx hb dX10_putSize_99 (by decide +kernel) ?_
                have f_151 : g_146 3 = .inl (cA 3, 2068, .inl (fun j => nI (bnz_44 j))) := (fr_147 3 (by omega)).trans r_48
                refine m_zast hx hb hK hP hD hS 3 (by decide) rfl f_151 (i := 2062) (x := nI 0) (y := nI 0) (by decide +kernel) (by decide) (by decide) dX10_putSize_100 (fun H locs g_152 f_153 fr_154 hP hS => ?_)
                rw [k_updI] at f_153
                have b_155 : ∀ j, (va_up bnz_44 2062 0) j < 2 := k_up_lt r_51 (by omega)
                have f_153 : g_152 3 = .inl (cA 3, 2068, .inl (fun j => nI ((va_up bnz_44 2062 0) j))) := f_153
                refine lv_aload_n hx hb dX10_putSize_101 rfl (lv_at hl 0 rfl) ?_
                refine lv_sipush (v := nI 2062) hx hb dX10_putSize_102 (by decide +kernel) ?_
                have f_156 : g_152 0 = .inr (13, Rob ad x) := (fr_154 0 (by omega)).trans f_150
                have f_157 : g_152 1 = .inl (cA 1, 165440, .inr (.inl (fun j => lN (q j)))) := (fr_154 1 (by omega)).trans f_148
                have f_158 : g_152 2 = .inl (cA 2, 2068, .inl (fun j => nI (lnz_44 j))) := (fr_154 2 (by omega)).trans ((fr_147 2 (by omega)).trans r_47)
                have hR_159 : RN ad cA g_152 x q lnz_44 (va_up bnz_44 2062 0) := ⟨f_156, f_157, f_158, f_153, hqb, r_50, b_155⟩
                refine va_callv (va_runV (As := [.int (nI 2062)]) (rest := []) ⟨hx, hb, hml, hown, hts⟩ (c_X10_trim l dC dI A ad cA g_152 x q lnz_44 (va_up bnz_44 2062 0) 2062 hR_159 (by decide)) (cwV 1 hts (goodIn_app (goodIn_r [Cond.methodLink RX10 83 yX10_trim, Cond.instanceMethod yX10_trim, Cond.selects RX10 yX10_trim yX10_trim, Cond.initialized RX10] [7, 8, 9, 4] rfl rfl) (goodIn_sub (fun w9 h9 => bk2 w9 h9) gw_X10_trim)) rfl rfl rfl (by decide +kernel) ⟨Nat.le_of_ble_eq_true rfl, Nat.le_of_ble_eq_true rfl⟩) ⟨fun a U g mk q => ⟨q.1, q.2.1, q.2.2.1, LY.moved (u := U) (U := U.calling g mk a) (Vm.Alike.refl U.vm) q.2.2.2⟩, va_recv hK hP (ci := 13) (q0 := 0) rfl (wo_at (by decide) f_156), fun U hU hW => ⟨rfl, by rw [hU]; exact fun q h => hA q (Nat.le_trans hS.1 h), by rw [hU]; exact hP, LY.moved hW.alike hL⟩⟩ rfl rfl hl.1 rfl (lv_room (Nat.le_of_ble_eq_true rfl)) dX10_putSize_105 ⟨(Nat.le_of_ble_eq_true rfl), (Nat.le_of_ble_eq_true rfl)⟩) hS (fun q _ h => h) (fun q h => h) (fun u8 t8 H1 locs ht8 hvm8 hw_160 hB hz1 hk1 hS => ?_)
                obtain ⟨g_161, m9_162⟩ := u8
                try dsimp only at hw_160 hB
                rw [ht8] at hB
                have hP := hB
                generalize H1 = H at hP hS ⊢
                obtain ⟨fr_163, hRt, hmt, hzt, htt⟩ := hw_160
                have hrp : Rp (fun k => q (80 * 2062 + k)) m9_162 (X9 / 10) := Rp.fin (n := lnz_44 2062) (fun i hi => hqd i (Nat.zero_le _) hi) (Nat.lt_of_le_of_lt (Nat.div_le_self _ _) (by rw [hX9]; exact hv0.lt)) hmt hzt htt
                have hV_164 : RV ad cA g_161 x (va_up vfn 2062 (((vfn 2062).natAbs / 10 : Nat) : Int)) := RV.up hRt hvz_44 (fun j hj hne => ⟨va_up_ne _ _ hne, (va_up_ne _ _ hne).trans (va_up_ne _ _ hne), fun k hk => hqo _ (by omega)⟩) ⟨by rw [va_up_self]; omega, by rw [va_up_self, Int.natAbs_natCast, ← hX9]; exact hrp, by rw [va_up_self]; have h9 : va_up bnz_44 2062 0 2062 = 0 := va_up_self _ _ _; rw [h9]; split <;> omega⟩
                obtain ⟨vf_165, evf_165⟩ : ∃ z9, z9 = va_up vfn 2062 (((vfn 2062).natAbs / 10 : Nat) : Int) := ⟨_, rfl⟩
                rw [← evf_165] at hV_164
                have uvf_165 : vf_165 2062 = (((vfn 2062).natAbs / 10 : Nat) : Int) := by rw [evf_165]; exact va_up_self _ _ _
                have ovf_165 : ∀ j, j ≠ 2062 → vf_165 j = vfn j := fun j hj => by rw [evf_165]; exact va_up_ne _ _ hj
                have hc_166 := hV_164
                obtain ⟨pnz_167, lnz_167, bnz_167, hRz_167, hvz_167⟩ := hc_166
                obtain ⟨r_168, r_169, r_170, r_171, r_172, r_173, r_174⟩ := hRz_167
                refine lv_aload_n hx hb dX10_putSize_108 rfl (lv_at hl 0 rfl) ?_
                refine m_get (D := (dC, dI)) (v := .ref (ad 18)) (C := RX10) (T := TX10) (N := 29) hx hb hts bk1 hown hK hP 0 (by decide) r_168 rfl 26 (by decide) (hts (.fieldLink RX10 68 "GradientDeskModel" "digits" "[I") (List.mem_of_getElem? (i := 10) rfl)) (fun _ h9 => h9) rfl dX10_putSize_109 ?_
                refine lv_iload_n hx hb dX10_putSize_112 rfl (lv_at hl 2 rfl) ?_
                refine lv_lload_n hx hb dX10_putSize_113 rfl (lv_at hl 3 rfl) ?_
                refine lv_l2i hx hb dX10_putSize_114 rfl ?_
                refine lv_topi (fun x_175 e_176 => ?_)
                obtain rfl : x_175 = nI rs := e_176.trans (lN_i rs)
                have f_177 : g_161 18 = .inl (cA 18, 200, .inl (fun j => iI (fd j))) := (fr_163 18 (by omega)).trans ((fr_154 18 (by omega)).trans ((fr_147 18 (by omega)).trans f_42))
                refine m_iast hx hb hK hP hD hS 18 (by decide) rfl f_177 (i := n) (x := nI rs) (by omega) (by decide) dX10_putSize_115 (fun H locs g_178 f_179 fr_180 hP hS => ?_)
                rw [(nI_iI rs), k_updZ] at f_179
                have f_179 : g_178 18 = .inl (cA 18, 200, .inl (fun j => iI ((va_up fd n ((rs : Nat) : Int)) j))) := f_179
                refine lv_iinc (v := nI (n + 1)) (lv' := [(2, .int (nI (n + 1))), (0, .ref (ad 0)), (1, .int (nI t)), (3, .long (lN rs)), (5, .int (nI d - nI 1))]) hx hb dX10_putSize_116 hl (k := 2) rfl (nI_add n 1) (by decide) rfl (fun ls hl => ?_)
                refine lv_goto (tgt := 10) hx hb dX10_putSize_119 (by decide) ?_
                have f_183 : g_178 0 = .inr (13, Rob ad x) := (fr_180 0 (by omega)).trans r_168
                exact ih_39 (n + 1) vf_165 (va_up fd n ((rs : Nat) : Int)) g_178 (fun (k : Nat) (hk : k ≠ 1 ∧ k ≠ 2 ∧ k ≠ 3 ∧ k ≠ 18) => (fr_180 k (by omega)).trans ((fr_163 k (by omega)).trans ((fr_154 k (by omega)).trans ((fr_147 k (by omega)).trans ((fr_41 k (by omega)).trans (rfl)))))) (by omega) (by omega) (by rcases Nat.eq_zero_or_pos n with h9 | h9; exact Or.inr (Or.inl (by omega)); exact Or.inr (Or.inr (by rw [Nat.add_sub_cancel]; exact hnz h9))) (by rw [uvf_165, Int.natAbs_natCast, hrv, dv_s]) (fun j hj => (ovf_165 j (by omega)).trans (hvo j hj)) (fun j hj => by by_cases h9 : j = n; rw [h9, va_up_self, hrs]; rw [va_up_ne _ _ h9]; exact hdd j (by omega)) f_179 (hV_164.setx (fun (k : Nat) (hk : k = 1 ∨ k = 2 ∨ k = 3) => (fr_180 k (by omega)).trans (rfl)) f_183) _ _ _ hP hS (lv_sub (l' := [(0, .ref (ad 0)), (1, .int (nI t)), (2, .int (nI (n + 1)))]) hl [1, 2, 0] rfl)
              · have c_149 := mt (k_m1lt (d := d) (by omega)).mpr c_149
                have e_184 : nI d - nI 1 = nI (d - 1) := pk_sub (by omega)
                rw [e_184] at hl
                have hr10 : rs < 10 := by rw [hr9]; exact Nat.mod_lt _ (by decide)
                have hpd : q (164960 + (d - 1)) = dgt X9 (d - 1) := by rw [hqo _ (by omega), hX9]; exact hv0.dg (by omega)
                refine lv_lload_n hx hb dX10_putSize_44 rfl (lv_at hl 3 rfl) ?_
                refine lv_bipush (v := nI 32) hx hb dX10_putSize_45 (by decide +kernel) ?_
                refine lv_lshl hx hb dX10_putSize_47 rfl ?_
                refine lv_topl (fun y_185 e_186 => ?_)
                obtain rfl : y_185 = lN (rs * 4294967296) := e_186.trans ((wb_shl rs (k := 32) (by decide)).trans rfl)
                refine lv_aload_n hx hb dX10_putSize_48 rfl (lv_at hl 0 rfl) ?_
                have f_187 : g_146 0 = .inr (13, Rob ad x) := (fr_147 0 (by omega)).trans r_45
                refine m_get (D := (dC, dI)) (v := .ref (ad 1)) (C := RX10) (T := TX10) (N := 29) hx hb hts bk1 hown hK hP 0 (by decide) f_187 rfl 1 (by decide) (hts (.fieldLink RX10 8 "GradientDeskModel" "pieces" "[J") (List.mem_of_getElem? (i := 11) rfl)) (fun _ h9 => h9) rfl dX10_putSize_49 ?_
                refine lv_ldcw (v := 164960) hx hb hown (hts (.constant RX10 281 (164960)) (List.mem_of_getElem? (i := 12) rfl)) dX10_putSize_52 ?_
                refine lv_topi (fun x_188 e_189 => ?_)
                obtain rfl : x_188 = nI 164960 := e_189.trans (by decide)
                refine lv_iload hx hb dX10_putSize_55 (lv_at hl 4 rfl) ?_
                refine lv_iadd hx hb dX10_putSize_57 ?_
                refine lv_topi (fun x_190 e_191 => ?_)
                obtain rfl : x_190 = nI (164960 + (d - 1)) := e_191.trans (nI_add 164960 (d - 1))
                refine m_lald hx hb hK hP 1 (by decide) rfl f_148 (i := 164960 + (d - 1)) (by omega) (by decide) dX10_putSize_58 ?_
                have b_192 := hqb (164960 + (d - 1))
                refine lv_lor hx hb dX10_putSize_59 ?_
                refine lv_topl (fun y_193 e_194 => ?_)
                obtain rfl : y_193 = lN (rs * 4294967296 + q (164960 + (d - 1))) := e_194.trans ((wb_or (a := (rs * 4294967296)) (b := (q (164960 + (d - 1)))) (by omega) (by omega)).trans (congrArg lN (k_or32 (by omega))))
                refine lv_lstore (lv' := [(6, .long (lN (rs * 4294967296 + q (164960 + (d - 1))))), (0, .ref (ad 0)), (1, .int (nI t)), (2, .int (nI n)), (3, .long (lN rs)), (5, .int (nI (d - 1)))]) hx hb dX10_putSize_60 hl (by decide) rfl (fun ls hl => ?_)
                refine lv_aload_n hx hb dX10_putSize_62 rfl (lv_at hl 1 rfl) ?_
                refine m_get (D := (dC, dI)) (v := .ref (ad 1)) (C := RX10) (T := TX10) (N := 29) hx hb hts bk1 hown hK hP 0 (by decide) f_187 rfl 1 (by decide) (hts (.fieldLink RX10 8 "GradientDeskModel" "pieces" "[J") (List.mem_of_getElem? (i := 11) rfl)) (fun _ h9 => h9) rfl dX10_putSize_63 ?_
                refine lv_ldcw (v := 164960) hx hb hown (hts (.constant RX10 281 (164960)) (List.mem_of_getElem? (i := 12) rfl)) dX10_putSize_66 ?_
                refine lv_topi (fun x_195 e_196 => ?_)
                obtain rfl : x_195 = nI 164960 := e_196.trans (by decide)
                refine lv_iload hx hb dX10_putSize_69 (lv_at hl 5 rfl) ?_
                refine lv_iadd hx hb dX10_putSize_71 ?_
                refine lv_topi (fun x_197 e_198 => ?_)
                obtain rfl : x_197 = nI (164960 + (d - 1)) := e_198.trans (nI_add 164960 (d - 1))
                refine lv_lload hx hb dX10_putSize_72 (lv_at hl 0 rfl) ?_
                refine lv_ldc2 (v := 10) hx hb hown (hts (.constantLong RX10 282 (10)) (List.mem_of_getElem? (i := 13) rfl)) dX10_putSize_74 ?_
                refine lv_topl (fun y_199 e_200 => ?_)
                obtain rfl : y_199 = lN 10 := e_200
                refine lv_ldiv hx hb dX10_putSize_77 (by decide) ?_
                refine lv_topl (fun y_201 e_202 => ?_)
                obtain rfl : y_201 = lN ((rs * 4294967296 + q (164960 + (d - 1))) / 10) := e_202.trans (pk_lDiv (by omega) (by decide) (by decide))
                refine m_last hx hb hK hP hD hS 1 (by decide) rfl f_148 (i := 164960 + (d - 1)) (x := lN ((rs * 4294967296 + q (164960 + (d - 1))) / 10)) (by omega) (by decide) dX10_putSize_78 (fun H locs g_203 f_204 fr_205 hP hS => ?_)
                rw [k_updL] at f_204
                have b_206 : ∀ j, (va_up q (164960 + (d - 1)) ((rs * 4294967296 + q (164960 + (d - 1))) / 10)) j < 4294967296 := k_up_lt hqb (by omega)
                have f_204 : g_203 1 = .inl (cA 1, 165440, .inr (.inl (fun j => lN ((va_up q (164960 + (d - 1)) ((rs * 4294967296 + q (164960 + (d - 1))) / 10)) j)))) := f_204
                refine lv_lload hx hb dX10_putSize_79 (lv_at hl 0 rfl) ?_
                refine lv_ldc2 (v := 10) hx hb hown (hts (.constantLong RX10 282 (10)) (List.mem_of_getElem? (i := 13) rfl)) dX10_putSize_81 ?_
                refine lv_topl (fun y_207 e_208 => ?_)
                obtain rfl : y_207 = lN 10 := e_208
                refine lv_lrem hx hb dX10_putSize_84 (by decide) ?_
                refine lv_topl (fun y_209 e_210 => ?_)
                obtain rfl : y_209 = lN ((rs * 4294967296 + q (164960 + (d - 1))) % 10) := e_210.trans (pk_lRem (by omega) (by decide) (by decide))
                refine lv_lstore_n (lv' := [(3, .long (lN ((rs * 4294967296 + q (164960 + (d - 1))) % 10))), (6, .long (lN (rs * 4294967296 + q (164960 + (d - 1))))), (0, .ref (ad 0)), (1, .int (nI t)), (2, .int (nI n)), (5, .int (nI (d - 1)))]) hx hb dX10_putSize_85 rfl hl (by decide) rfl (fun ls hl => ?_)
                refine lv_iinc (v := nI (d - 1) - nI 1) (lv' := [(5, .int (nI (d - 1) - nI 1)), (3, .long (lN ((rs * 4294967296 + q (164960 + (d - 1))) % 10))), (6, .long (lN (rs * 4294967296 + q (164960 + (d - 1))))), (0, .ref (ad 0)), (1, .int (nI t)), (2, .int (nI n))]) hx hb dX10_putSize_86 hl (k := 5) rfl ((show nI (d - 1) + Int32.ofInt (-1) = nI (d - 1) - nI 1 from by rw [show Int32.ofInt (-1) = -nI 1 from by decide, ← Int32.sub_eq_add_neg])) (by decide) rfl (fun ls hl => ?_)
                refine lv_goto (tgt := 39) hx hb dX10_putSize_89 (by decide) ?_
                exact ih_145 (d - 1) (va_up q (164960 + (d - 1)) ((rs * 4294967296 + q (164960 + (d - 1))) / 10)) ((rs * 4294967296 + q (164960 + (d - 1))) % 10) g_203 (fun (k : Nat) (hk : k ≠ 1) => (fr_205 k (by omega)).trans ((fr_147 k (by omega)).trans (rfl))) (by omega) (by omega) b_206 (by rw [(dgt_d10 X9 (d - 1)).2, show d - 1 + 1 = d by omega, ← hr9, hpd]) (fun j hj => by rw [va_up_ne _ _ (by omega)]; exact hqo j (by omega)) (fun j h1 h2 => by by_cases h9 : j = d - 1; rw [h9, va_up_self, (dgt_d10 X9 (d - 1)).1, show d - 1 + 1 = d by omega, ← hr9, hpd]; rw [va_up_ne _ _ (by omega)]; exact hqd j (by omega) h2) f_204 _ _ _ hP hS (lv_sub (l' := [(0, .ref (ad 0)), (1, .int (nI t)), (2, .int (nI n)), (3, .long (lN ((rs * 4294967296 + q (164960 + (d - 1))) % 10))), (5, .int (nI (d - 1) - nI 1))]) hl [3, 4, 5, 1, 0] rfl)
          exact loop_144 _ (lnz_44 2062) pnz_44 0 g_40 (fun (k : Nat) (hk : k ≠ 1) => rfl) (Nat.lt_succ_self _) (by omega) r_49 (by rw [Nat.div_eq_of_lt (by rw [hX9]; exact hv0.lt)]) (fun _ _ => rfl) (fun j h1 h2 => absurd h1 (by omega)) r_46 _ _ _ hP hS (lv_sub (l' := [(0, .ref (ad 0)), (1, .int (nI t)), (2, .int (nI n)), (3, .long (lN 0)), (5, .int (nI (lnz_44 2062) - nI 1))]) hl [2, 3, 4, 1, 0] rfl)
  have f_213 : g_24 18 = .inl (cA 18, 200, .inl (fun j => iI (f18 j))) := (fr_26 18 (by omega)).trans h18
  exact loop_38 _ 0 vf_28 f18 g_24 (fun (k : Nat) (hk : k ≠ 1 ∧ k ≠ 2 ∧ k ≠ 3 ∧ k ≠ 18) => rfl) (Nat.lt_succ_self _) (by omega) (Or.inl rfl) (by rw [uvf_28, Nat.pow_zero, Nat.div_one]) (fun j hj => ovf_28 j (by omega)) (fun j hj => absurd hj (by omega)) f_213 hV_27 _ _ _ hP hS (lv_sub (l' := [(0, .ref (ad 0)), (1, .int (nI t)), (2, .int (nI 0))]) hl [1, 2, 0] rfl)
end
section
theorem decL_1 (v : Nat) : 1 ≤ (decL v).length := by rw [decL_len (ndg_is v)]; exact (ndg_is v).1
theorem ptL_n {d : PD} (h : d.1 = 0) : ptL d = ((if d.2.2.2.2.2.2.1 < 0 then [45] else []) ++ decL d.2.2.2.2.2.2.1.natAbs) ++ (if d.2.2.2.2.2.2.2 = 1 then [] else 47 :: decL d.2.2.2.2.2.2.2) := if_pos h
/-! a whole expression as it is written -/
def wrF (L : List PD) : Nat → Nat → List Int
  | 0, _ => []
  | f + 1, k => if (gd L k).1 < 2 then ptL (gd L k) else if (gd L k).1 = 4 then wrF L f (gd L k).2.1.toNat ++ [94, 48 + (gd L k).2.2.1] else 40 :: (wrF L f (gd L k).2.1.toNat ++ ((if (gd L k).1 = 2 then 43 else 42) :: (wrF L f (gd L k).2.2.1.toNat ++ [41])))
theorem wrF_s (L : List PD) (f k : Nat) : wrF L (f + 1) k = if (gd L k).1 < 2 then ptL (gd L k) else if (gd L k).1 = 4 then wrF L f (gd L k).2.1.toNat ++ [94, 48 + (gd L k).2.2.1] else 40 :: (wrF L f (gd L k).2.1.toNat ++ ((if (gd L k).1 = 2 then 43 else 42) :: (wrF L f (gd L k).2.2.1.toNat ++ [41]))) := rfl
def wrL (L : List PD) (k : Nat) : List Int := wrF L (k + 1) k
theorem wrF_st {L : List PD} (hW : WFL L) : ∀ k, k < L.length → ∀ f, k < f → wrF L f k = wrL L k := by
  intro k
  induction k using Nat.strongRecOn with
  | ind k ih =>
    intro hk f hf
    obtain ⟨f2, rfl⟩ : ∃ j, f = j + 1 := ⟨f - 1, by omega⟩
    unfold wrL
    rw [wrF_s, wrF_s]
    have w1 := (hW k hk).1
    by_cases h2 : (gd L k).1 < 2
    · rw [if_pos h2, if_pos h2]
    · obtain ⟨a, ha, ea⟩ := hW.op1 hk (by omega)
      rw [if_neg h2, if_neg h2, ea, Int.toNat_natCast, ih a ha (by omega) f2 (by omega), ih a ha (by omega) k ha]
      by_cases h4 : (gd L k).1 = 4
      · rw [if_pos h4, if_pos h4]
      · obtain ⟨b, hb, eb⟩ := hW.op2 hk (by omega)
        rw [if_neg h4, if_neg h4, eb, Int.toNat_natCast, ih b hb (by omega) f2 (by omega), ih b hb (by omega) k hb]
theorem wrL_l {L : List PD} {k : Nat} (h : (gd L k).1 < 2) : wrL L k = ptL (gd L k) := by unfold wrL; rw [wrF_s, if_pos h]
theorem wrL_p {L : List PD} {k a e1 : Nat} (hW : WFL L) (hk : k < L.length) (h : (gd L k).1 = 4) (ha : a < k) (ea : (gd L k).2.1 = (a : Int)) (ee : (gd L k).2.2.1 = (e1 : Int)) : wrL L k = wrL L a ++ [94, 48 + (e1 : Int)] := by
  have e : wrL L k = wrF L (k + 1) k := rfl
  rw [e, wrF_s, if_neg (by omega), if_pos h, ea, ee, Int.toNat_natCast, wrF_st hW a (by omega) k ha]
theorem wrL_b {L : List PD} {k a b : Nat} (hW : WFL L) (hk : k < L.length) (h : (gd L k).1 = 2 ∨ (gd L k).1 = 3) (ha : a < k) (hb : b < k) (ea : (gd L k).2.1 = (a : Int)) (eb : (gd L k).2.2.1 = (b : Int)) : wrL L k = 40 :: (wrL L a ++ ((if (gd L k).1 = 2 then 43 else 42) :: (wrL L b ++ [41]))) := by
  have e : wrL L k = wrF L (k + 1) k := rfl
  rw [e, wrF_s, if_neg (by omega), if_neg (by omega), ea, eb, Int.toNat_natCast, Int.toNat_natCast, wrF_st hW a (by omega) k ha, wrF_st hW b (by omega) k hb]
/-! the row of what waits: the top first -/
def SKI (f : Nat → Int) : List Int → Prop
  | [] => True
  | z :: q => f q.length = z ∧ SKI f q
theorem SKI.congr {f h : Nat → Int} : ∀ {q : List Int}, SKI f q → (∀ k, k < q.length → h k = f k) → SKI h q := by
  intro q
  induction q with
  | nil => intro _ _; trivial
  | cons v q ih => intro hs hk; exact ⟨(hk q.length (Nat.lt_succ_self _)).trans hs.1, ih hs.2 (fun k h9 => hk k (Nat.lt_succ_of_lt h9))⟩
theorem SKI.push {f : Nat → Int} {q : List Int} (h : SKI f q) {n : Nat} (hn : n = q.length) {z v : Int} (hz : z = v) : SKI (va_up f n z) (v :: q) := by
  subst hn; subst hz
  exact ⟨va_up_self _ _ _, h.congr (fun k hk => va_up_ne _ _ (by omega))⟩
def itL (L : List PD) (z : Int) : List Int := if z < 0 then [-1 - z] else wrL L z.toNat
def flL (L : List PD) : List Int → List Int
  | [] => []
  | z :: q => itL L z ++ flL L q
def lgd (d : Nat) : Nat := if 8 ≤ d then 6 else if 4 ≤ d then 4 else if 2 ≤ d then 2 else 0
def PB (L : List PD) (n : Nat) : List Int → Prop
  | [] => True
  | z :: q => ((0 ≤ z → z < L.length ∧ q.length + 1 + lgd (gd L z.toNat).2.2.2.1 ≤ 3 * n + 7) ∧ -200 ≤ z) ∧ PB L n q
theorem PB.mono {L : List PD} {n m : Nat} (h : n ≤ m) : ∀ {q : List Int}, PB L n q → PB L m q := by
  intro q
  induction q with
  | nil => intro _; trivial
  | cons z q ih => intro hq; exact ⟨⟨fun h0 => ⟨(hq.1.1 h0).1, by have := (hq.1.1 h0).2; omega⟩, hq.1.2⟩, ih hq.2⟩
theorem lgd_le {a b : Nat} (h : a ≤ b) : lgd a ≤ lgd b := by unfold lgd; split <;> split <;> (try split) <;> (try split) <;> (try split) <;> (try split) <;> omega
theorem lgd_6 (a : Nat) : lgd a ≤ 6 := by unfold lgd; split; omega; split; omega; split <;> omega
theorem lgd_2 {a b : Nat} (h0 : 1 ≤ a) (h : 2 * a ≤ b) : lgd a + 2 ≤ lgd b ∨ 8 < b := by
  by_cases h8 : 8 < b
  · exact Or.inr h8
  · left
    unfold lgd
    rw [if_neg (show ¬ 8 ≤ a by omega)]
    by_cases h4 : 4 ≤ a
    · rw [if_pos h4, if_pos (show 8 ≤ b by omega)]; decide
    · rw [if_neg h4]
      by_cases h2 : 2 ≤ a
      · rw [if_pos h2]
        split
        · omega
        · rw [if_pos (show 4 ≤ b by omega)]; decide
      · rw [if_neg h2]
        split
        · omega
        · split
          · omega
          · rw [if_pos (show 2 ≤ b by omega)]; decide
def rkz (L : List PD) (z : Int) : Nat := if z < 0 then 0 else 1 + lgd (gd L z.toNat).2.2.2.1
theorem rkz_neg {L : List PD} {z : Int} (h : z < 0) : rkz L z = 0 := if_pos h
theorem rkz_nat {L : List PD} {k : Nat} : rkz L (k : Int) = 1 + lgd (gd L k).2.2.2.1 := by unfold rkz; rw [if_neg (by omega), Int.toNat_natCast]
theorem rkz_le {L : List PD} {z : Int} : rkz L z ≤ 7 := by
  unfold rkz; split
  · omega
  · have := lgd_6 (gd L z.toNat).2.2.2.1; omega
theorem itL_neg {L : List PD} {z : Int} (h : z < 0) : itL L z = [-1 - z] := if_pos h
theorem itL_nat {L : List PD} {k : Nat} : itL L (k : Int) = wrL L k := by unfold itL; rw [if_neg (by omega), Int.toNat_natCast]
theorem fl_p {L : List PD} {k a e1 : Nat} {q : List Int} (hW : WFL L) (hk : k < L.length) (h : (gd L k).1 = 4) (ha : a < k) (ea : (gd L k).2.1 = (a : Int)) (ee : (gd L k).2.2.1 = (e1 : Int)) : flL L (((k : Nat) : Int) :: q) = flL L (((a : Nat) : Int) :: (-95) :: (-49 - (e1 : Int)) :: q) := by
  show itL L _ ++ flL L q = itL L _ ++ (itL L (-95) ++ (itL L (-49 - (e1 : Int)) ++ flL L q))
  rw [itL_nat, itL_nat, wrL_p hW hk h ha ea ee, itL_neg (by omega), itL_neg (by omega), List.append_assoc, show (-1 : Int) - -95 = 94 from rfl, show (-1 : Int) - (-49 - (e1 : Int)) = 48 + (e1 : Int) by omega]
  rfl
theorem fl_b {L : List PD} {k a b : Nat} {q : List Int} {op : Int} (hW : WFL L) (hk : k < L.length) (h : (gd L k).1 = 2 ∨ (gd L k).1 = 3) (ha : a < k) (hb : b < k) (ea : (gd L k).2.1 = (a : Int)) (eb : (gd L k).2.2.1 = (b : Int)) (hop : op = if (gd L k).1 = 2 then -44 else -43) : flL L (((k : Nat) : Int) :: q) = flL L ((-41) :: ((a : Nat) : Int) :: op :: ((b : Nat) : Int) :: (-42) :: q) := by
  show itL L _ ++ flL L q = itL L (-41) ++ (itL L _ ++ (itL L op ++ (itL L _ ++ (itL L (-42) ++ flL L q))))
  have h1 : op < 0 := by rw [hop]; split <;> decide
  have h2 : -1 - op = if (gd L k).1 = 2 then 43 else 42 := by rw [hop]; split <;> rfl
  rw [itL_nat, itL_nat, itL_nat, wrL_b hW hk h ha hb ea eb, itL_neg (show (-41 : Int) < 0 by decide), itL_neg (show (-42 : Int) < 0 by decide), itL_neg h1, h2, show (-1 : Int) - -41 = 40 from rfl, show (-1 : Int) - -42 = 41 from rfl]
  simp only [List.cons_append, List.append_assoc, List.nil_append]
/-- what write does: T the whole expression -/
def WRR (nm : Nat → Int) (L : List PD) (wr : List Int) (v th r : Int32) (wr2 : List Int) : Prop :=
  (r = nI 0 ∧ wr2 = wr ∧ ((¬ (0 ≤ v.toInt ∧ v.toInt ≤ 7) ∧ th = nI 1) ∨ (∃ a : Nat, v = nI a ∧ a ≤ 7 ∧ nm a < 0 ∧ th = nI 2))) ∨
  (th = nI 0 ∧ ∃ a t : Nat, v = nI a ∧ a ≤ 7 ∧ nm a = (t : Int) ∧ ((250 < (wrL L t).length ∧ r = -3 ∧ wr2 = wr) ∨ ((wrL L t).length ≤ 250 ∧ r = nI (wrL L t).length ∧ wr2 = wrL L t)))
theorem VO.wr {cA : Nat → ClassId} {g g2 : Nat → va_E} {f6 f7 f8 f9 : Nat → Int} (h : VO cA g) (h16 : g2 16 = .inl (cA 16, 256, .inl (fun j => iI (f6 j)))) (h17 : g2 17 = .inl (cA 17, 256, .inl (fun j => iI (f7 j)))) (h18 : g2 18 = .inl (cA 18, 200, .inl (fun j => iI (f8 j)))) (h19 : g2 19 = .inl (cA 19, 1200, .inl (fun j => iI (f9 j)))) (hf : ∀ k, 12 ≤ k ∧ k ≤ 15 → g2 k = g k) : VO cA g2 := by
  obtain ⟨⟨f0, a0, b0⟩, ⟨f1, a1⟩, ⟨f2, a2⟩, ⟨f3, a3⟩, -, -, -, -⟩ := h
  exact ⟨⟨f0, (hf _ (by decide)).trans a0, b0⟩, ⟨f1, (hf _ (by decide)).trans a1⟩, ⟨f2, (hf _ (by decide)).trans a2⟩, ⟨f3, (hf _ (by decide)).trans a3⟩, ⟨_, h16⟩, ⟨_, h17⟩, ⟨_, h18⟩, ⟨_, h19⟩⟩
theorem RI.wr9 {ad : Nat → Nat} {cA : Nat → ClassId} {g g2 : Nat → va_E} {x x2 : Nat → Int32} {L : List PD} {nm : Nat → Int} {tx : Nat → Nat} {ty : Nat} {wr wr2 : List Int} {pf : Nat → Int} {qf : Nat → Nat} {pt : Nat → Nat → Int} (h : RI ad cA g x L nm tx ty wr pf qf pt) (hF : RF ad cA g2 x2 pf qf) (hf : ∀ k, 4 ≤ k ∧ k ≤ 11 → g2 k = g k) (hV : VO cA g2) (h1 : x2 1 = x 1) (h3 : x2 3 = x 3) (h8 : x2 8 = nI wr2.length) (hw : wr2.length ≤ 250) (ho : OUT cA g2 wr2) : RIE ad cA g2 x2 L nm tx ty wr2 := by
  obtain ⟨-, a2, a3, a4, a5, a6, a7, a8, a9, a10, a11, a12, a13⟩ := h
  exact ⟨pf, qf, pt, hF, a2.same (fun k hk => hf k (by omega)), a3, a4, a5, h3.trans a6, a7.same (hf 4 (by decide)) (hf 11 (by decide)), h1.trans a8, a9, h8, ⟨hw, ho⟩, hV, a13⟩
theorem RV.obj {ad : Nat → Nat} {cA : Nat → ClassId} {g : Nat → va_E} {x : Nat → Int32} {vf : Nat → Int} (h : RV ad cA g x vf) : g 0 = .inr (13, Rob ad x) := by
  obtain ⟨pn, ln, bn, hN, -⟩ := h
  exact hN.1
theorem bl_gt1 {q b : Nat} (hb : b = bl q) (h : ¬ b ≤ 1) : ¬ q = 1 := by
  intro e1
  subst e1
  have : bl 1 = 1 := by decide
  omega
theorem pw_nn {f : Nat → Int} {n : Nat} {a : List Int} : dwr f n (([] ++ a) ++ []) = dwr f n a := by rw [List.append_nil, List.nil_append]
theorem pw_sn {f : Nat → Int} {n : Nat} {a : List Int} : dwr f n (([45] ++ a) ++ []) = dwr (dwr f n [45]) (n + 1) a := by rw [List.append_nil, dwr_app]; rfl
theorem pw_nd {f : Nat → Int} {n : Nat} {a b : List Int} : dwr f n (([] ++ a) ++ (47 :: b)) = dwr (dwr (dwr f n a) (n + a.length) [47]) (n + a.length + 1) b := by rw [List.nil_append, dwr_app]; rfl
theorem pw_sd {f : Nat → Int} {n : Nat} {a b : List Int} : dwr f n (([45] ++ a) ++ (47 :: b)) = dwr (dwr (dwr (dwr f n [45]) (n + 1) a) (n + 1 + a.length) [47]) (n + 1 + a.length + 1) b := by
  rw [dwr_app, dwr_app, List.length_append, ← Nat.add_assoc]; rfl
end
section
def wd_X10_putPart : List Cond := .code yX10_putPart cX10_putPart 2 none :: (([.fieldLink RX10 29 "GradientDeskModel" "sort" "[I", .fieldLink RX10 32 "GradientDeskModel" "first" "[I", .methodLink RX10 284 yX10_put, .instanceMethod yX10_put, .selects RX10 yX10_put yX10_put, .initialized RX10, .fieldLink RX10 18 "GradientDeskModel" "below" "[Z", .methodLink RX10 287 yX10_putSize, .instanceMethod yX10_putSize, .selects RX10 yX10_putSize yX10_putSize, .methodLink RX10 117 yX10_bitsOf, .instanceMethod yX10_bitsOf, .selects RX10 yX10_bitsOf yX10_bitsOf] : List Cond) ++ (u_ws RX10 TX10 29 ++ (wd_X10_put ++ (wd_X10_putSize ++ (wd_X10_bitsOf ++ ([]))))))
theorem gw_X10_putPart : wd_X10_putPart.all goodWord = true := k_allc rfl (k_all (by decide +kernel) (k_all (gu_X10) (k_all (gw_X10_put) (k_all (gw_X10_putSize) (k_all (gw_X10_bitsOf) (rfl))))))
set_option maxHeartbeats 4000000 in
set_option maxRecDepth 100000 in
theorem c_X10_putPart (l : Launch) (dC : Nat → ClassId) (dI : Nat → Nat → Nat) (A : Nat → Prop) (ad : Nat → Nat) (cA : Nat → ClassId) (g : Nat → va_E) (x : Nat → Int32) (pf : Nat → Int) (qf : Nat → Nat) (pt : Nat → Nat → Int) (L : List PD) (k1 : Nat) (f17 : Nat → Int) (f18 : Nat → Int) (cn : Nat) (hF : RF ad cA g x pf qf) (hPt : PTF cA g pt) (hM : MT L pt pf qf) (hL2 : L.length ≤ 200) (hW : WFL L) (ik : k1 < L.length) (hso : (gd L k1).1 < 2) (h17 : g 17 = .inl (cA 17, 256, .inl (fun j => iI (f17 j)))) (h18 : g 18 = .inl (cA 18, 200, .inl (fun j => iI (f18 j)))) (hx9c : x 9 = nI cn) (hcn : cn ≤ 40000) : Met l yX10_putPart wd_X10_putPart ({ frames := 30, cells := 0, slots := 0, locals := 600 }) (va_Pc [.ref (ad 0), .int (nI k1)] (PR NSr tyr dC dI A ad cA g)) (va_Qv (fun (u : (Nat → va_E) × (Nat → Int)) => match u with | (g2, f3) => (∀ k, k ≠ 0 ∧ k ≠ 1 ∧ k ≠ 2 ∧ k ≠ 3 ∧ k ≠ 17 ∧ k ≠ 18 → g2 k = g k) ∧ RF ad cA g2 (va_up x 9 (nI (cn + (ptL (gd L k1)).length))) pf qf ∧ g2 17 = .inl (cA 17, 256, .inl (fun j => iI (dwr f17 cn (ptL (gd L k1)) j))) ∧ g2 18 = .inl (cA 18, 200, .inl (fun j => iI (f3 j))) ∧ 1 ≤ (ptL (gd L k1)).length ∧ (ptL (gd L k1)).length ≤ 300) (fun (u : (Nat → va_E) × (Nat → Int)) (t : State) => va_P (dC, dI) vwCl (wo ad NSr u.1) t.heap) A) (0) (0) A := by
  refine Met.ofW (cc := cX10_putPart) (maxL := 2) (ret := none) (by decide) rfl ?_
  intro p e s m args below meth c s₁ B hml hv
  obtain ⟨rfl, hA, hP, hL⟩ := hv
  have hx := B.exec
  have hb := B.bytes
  have hr := B.returns
  have hts := atoms_spec (ws := wd_X10_putPart) B.pre
  have hown : s.vm.findClass RX10 = some m.cls := findClass_of_methodNamed B.named
  have hlocks := B.notSynchronized
  have hK := hL.1
  have hD : ∀ g, va_D A (wo ad NSr g) := fun g => wo_D hL.2.1 hL.2.2 g
  have hS : va_S A s.heap s.heap [] := va_S.rf
  have bk0 : ∀ w ∈ u_ws RX10 TX10 29, w ∈ wd_X10_putPart := fun _ h => List.mem_cons_of_mem _ (List.mem_append_right _ (List.mem_append_left _ h))
  have bk1 : ∀ w ∈ wd_X10_put, w ∈ wd_X10_putPart := fun _ h => List.mem_cons_of_mem _ (List.mem_append_right _ (List.mem_append_right _ (List.mem_append_left _ h)))
  have bk2 : ∀ w ∈ wd_X10_putSize, w ∈ wd_X10_putPart := fun _ h => List.mem_cons_of_mem _ (List.mem_append_right _ (List.mem_append_right _ (List.mem_append_right _ (List.mem_append_left _ h))))
  have bk3 : ∀ w ∈ wd_X10_bitsOf, w ∈ wd_X10_putPart := fun _ h => List.mem_cons_of_mem _ (List.mem_append_right _ (List.mem_append_right _ (List.mem_append_right _ (List.mem_append_right _ (List.mem_append_left _ h)))))
  have hl := lv_entry ([.ref (ad 0), .int (nI k1)]) (n := 2) (Nat.le_of_ble_eq_true rfl)
  rw [lg_entry_eq]
  generalize (lg_sl ([.ref (ad 0), .int (nI k1)]) ++ List.replicate (2 - (lg_sl ([.ref (ad 0), .int (nI k1)])).length) Slot.unset).toArray = ls at hl ⊢
  have hl : lv_has ls 2 [(0, .ref (ad 0)), (1, .int (nI k1))] := hl
  have hF0 := hF
  obtain ⟨vf, hV, hq⟩ := hF
  have hc_1 := hV
  obtain ⟨pnz_2, lnz_2, bnz_2, hRz_2, hvz_2⟩ := hc_1
  obtain ⟨r_3, r_4, r_5, r_6, r_7, r_8, r_9⟩ := hRz_2
  obtain ⟨p_10, p_11, p_12, p_13, p_14, p_15, hpt_16⟩ := hPt
  obtain ⟨m0, m1, -, -, -, -, m6⟩ := hM k1 ik
  obtain ⟨-, -, -, w4, w5, -, w7, w8, -⟩ := hW k1 ik
  have sg9 := (hvz_2 (2 * k1) (by omega)).2.2
  have sb9 := r_9 (2 * k1)
  refine lv_aload_n hx hb dX10_putPart_0 rfl (lv_at hl 0 rfl) ?_
  refine m_get (D := (dC, dI)) (v := .ref (ad 5)) (C := RX10) (T := TX10) (N := 29) hx hb hts bk0 hown hK hP 0 (by decide) r_3 rfl 7 (by decide) (hts (.fieldLink RX10 29 "GradientDeskModel" "sort" "[I") (List.mem_of_getElem? (i := 1) rfl)) (fun _ h9 => h9) rfl dX10_putPart_1 ?_
  refine lv_iload_n hx hb dX10_putPart_4 rfl (lv_at hl 1 rfl) ?_
  refine m_iald hx hb hK hP 5 (by decide) rfl p_10 (i := k1) (by omega) (by decide) dX10_putPart_5 ?_
  have b_17 := (hpt_16 0) k1
  refine lv_if_ne (tgt := 64) hx hb dX10_putPart_6 (by decide) (fun c_18 => ?_) (fun c_18 => ?_)
  · have c_18 := mt (k_iEQ (a := (pt 0) k1) (b := 0) rfl (show nI 0 = iI 0 from by decide) (by omega) (by omega)).mpr c_18
    refine lv_aload_n hx hb dX10_putPart_64 rfl (lv_at hl 0 rfl) ?_
    refine lv_bipush (v := nI 97) hx hb dX10_putPart_65 (by decide +kernel) ?_
    refine lv_aload_n hx hb dX10_putPart_67 rfl (lv_at hl 0 rfl) ?_
    refine m_get (D := (dC, dI)) (v := .ref (ad 6)) (C := RX10) (T := TX10) (N := 29) hx hb hts bk0 hown hK hP 0 (by decide) r_3 rfl 8 (by decide) (hts (.fieldLink RX10 32 "GradientDeskModel" "first" "[I") (List.mem_of_getElem? (i := 2) rfl)) (fun _ h9 => h9) rfl dX10_putPart_68 ?_
    refine lv_iload_n hx hb dX10_putPart_71 rfl (lv_at hl 1 rfl) ?_
    refine m_iald hx hb hK hP 6 (by decide) rfl p_11 (i := k1) (by omega) (by decide) dX10_putPart_72 ?_
    have b_19 := (hpt_16 1) k1
    refine lv_iadd hx hb dX10_putPart_73 ?_
    refine lv_topi (fun x_20 e_21 => ?_)
    obtain rfl : x_20 = iI (97 + ((pt 1) k1)) := e_21.trans (iI_addP (show nI 97 = iI 97 from by decide) rfl)
    obtain ⟨v1, hv1, ev1, -⟩ := w8 (by omega)
    refine va_callv (va_runV (As := [.int (iI (97 + ((pt 1) k1)))]) (rest := []) ⟨hx, hb, hml, hown, hts⟩ (c_X10_put l dC dI A ad cA g x f17 cn (97 + pt 1 k1) r_3 h17 hx9c (by omega)) (cwV 1 hts (goodIn_app (goodIn_r [Cond.methodLink RX10 284 yX10_put, Cond.instanceMethod yX10_put, Cond.selects RX10 yX10_put yX10_put, Cond.initialized RX10] [3, 4, 5, 6] rfl rfl) (goodIn_sub (fun w9 h9 => bk1 w9 h9) gw_X10_put)) rfl rfl rfl (by decide +kernel) ⟨Nat.le_of_ble_eq_true rfl, Nat.le_of_ble_eq_true rfl⟩) ⟨fun a U g mk q => ⟨q.1, q.2.1, q.2.2.1, LY.moved (u := U) (U := U.calling g mk a) (Vm.Alike.refl U.vm) q.2.2.2⟩, va_recv hK hP (ci := 13) (q0 := 0) rfl (wo_at (by decide) r_3), fun U hU hW => ⟨rfl, by rw [hU]; exact fun q h => hA q (Nat.le_trans hS.1 h), by rw [hU]; exact hP, LY.moved hW.alike hL⟩⟩ rfl rfl hl.1 rfl (lv_room (Nat.le_of_ble_eq_true rfl)) dX10_putPart_74 ⟨(Nat.le_of_ble_eq_true rfl), (Nat.le_of_ble_eq_true rfl)⟩) hS (fun q _ h => h) (fun q h => h) (fun u8 t8 H1 locs ht8 hvm8 hw_22 hB hz1 hk1 hS => ?_)
    obtain ⟨g_23, rfl⟩ : ∃ z, z = u8 := ⟨_, rfl⟩
    try dsimp only at hw_22 hB
    rw [ht8] at hB
    have hP := hB
    generalize H1 = H at hP hS ⊢
    obtain ⟨fr_24, hobv, h17v⟩ := hw_22
    rw [m1] at h17v
    have hpl : ptL (gd L k1) = [97 + (gd L k1).2.1] := if_neg (by omega)
    have hFv : RF ad cA g_23 (va_up x 9 (nI (cn + 1))) pf qf := hF0.setx (fun (k : Nat) (hk : k = 1 ∨ k = 2 ∨ k = 3) => (fr_24 k (by omega)).trans (rfl)) hobv rfl
    rw [hpl]
    have f_25 : g_23 18 = .inl (cA 18, 200, .inl (fun j => iI (f18 j))) := (fr_24 18 (by omega)).trans h18
    refine W.widen (k := 0) (n := 0) (by omega) (by omega) ?_
    exact W.vret hx hb hr (fun t9 ht9 hW9 => ⟨⟨(g_23, f18), rfl, ⟨(fun (k : Nat) (hk : k ≠ 0 ∧ k ≠ 1 ∧ k ≠ 2 ∧ k ≠ 3 ∧ k ≠ 17 ∧ k ≠ 18) => (fr_24 k (by omega)).trans (rfl)), hFv, h17v, f_25, Nat.le_refl _, (show 1 ≤ 300 by decide)⟩, by show va_P (dC, dI) vwCl _ t9.heap; rw [ht9]; exact hP⟩, hS.F ht9⟩) hS.2.2 dX10_putPart_77
  · have c_18 := (k_iEQ (a := (pt 0) k1) (b := 0) rfl (show nI 0 = iI 0 from by decide) (by omega) (by omega)).mp c_18
    have s0 : (gd L k1).1 = 0 := by omega
    obtain ⟨n1, n2⟩ := m6 s0
    obtain ⟨d0, b1, b2, b3⟩ := w7 s0
    obtain ⟨z1, z2, -⟩ := hq k1 (by omega)
    have hp9 : vf (2 * k1) = (gd L k1).2.2.2.2.2.2.1 := z1.trans n1
    have hq9 : vf (2 * k1 + 1) = (((gd L k1).2.2.2.2.2.2.2 : Nat) : Int) := by rw [z2, n2]
    have hpb : (gd L k1).2.2.2.2.2.2.1.natAbs < 2 ^ 410 := bl_le.mp (by omega)
    have hqb : (gd L k1).2.2.2.2.2.2.2 < 2 ^ 410 := by rcases b2 with h | h; rw [h]; exact Nat.one_lt_two_pow (by decide); exact bl_le.mp (by omega)
    have hq0 := b3.1
    refine lv_aload_n hx hb dX10_putPart_9 rfl (lv_at hl 0 rfl) ?_
    refine m_get (D := (dC, dI)) (v := .ref (ad 3)) (C := RX10) (T := TX10) (N := 29) hx hb hts bk0 hown hK hP 0 (by decide) r_3 rfl 3 (by decide) (hts (.fieldLink RX10 18 "GradientDeskModel" "below" "[Z") (List.mem_of_getElem? (i := 7) rfl)) (fun _ h9 => h9) rfl dX10_putPart_10 ?_
    refine lv_iconst (v := nI 2) hx hb dX10_putPart_13 (by decide +kernel) ?_
    refine lv_iload_n hx hb dX10_putPart_14 rfl (lv_at hl 1 rfl) ?_
    refine lv_imul hx hb dX10_putPart_15 ?_
    refine lv_topi (fun x_26 e_27 => ?_)
    obtain rfl : x_26 = nI (2 * k1) := e_27.trans (pk_mul 2 k1)
    refine m_zald hx hb hK hP 3 (by decide) rfl r_6 (i := 2 * k1) (by omega) (by decide) dX10_putPart_16 ?_
    have b_28 := r_9 (2 * k1)
    refine lv_if_eq (tgt := 26) hx hb dX10_putPart_17 (by decide) (fun c_29 => ?_) (fun c_29 => ?_)
    · have c_29 := (nI_eq (a := (bnz_2 (2 * k1))) (b := 0) (by omega) (by decide)).mp c_29
      refine lv_aload_n hx hb dX10_putPart_26 rfl (lv_at hl 0 rfl) ?_
      refine lv_iconst (v := nI 2) hx hb dX10_putPart_27 (by decide +kernel) ?_
      refine lv_iload_n hx hb dX10_putPart_28 rfl (lv_at hl 1 rfl) ?_
      refine lv_imul hx hb dX10_putPart_29 ?_
      refine lv_topi (fun x_30 e_31 => ?_)
      obtain rfl : x_30 = nI (2 * k1) := e_31.trans (pk_mul 2 k1)
      have ep : (vf (2 * k1)).natAbs = (gd L k1).2.2.2.2.2.2.1.natAbs := by rw [hp9]
      refine va_callv (va_runV (As := [.int (nI (2 * k1))]) (rest := []) ⟨hx, hb, hml, hown, hts⟩ (c_X10_putSize l dC dI A ad cA g x vf (2 * k1) f17 f18 cn hV (by omega) (by rw [ep]; exact hpb) h17 h18 hx9c (by omega)) (cwV 1 hts (goodIn_app (goodIn_r [Cond.methodLink RX10 287 yX10_putSize, Cond.instanceMethod yX10_putSize, Cond.selects RX10 yX10_putSize yX10_putSize, Cond.initialized RX10] [8, 9, 10, 6] rfl rfl) (goodIn_sub (fun w9 h9 => bk2 w9 h9) gw_X10_putSize)) rfl rfl rfl (by decide +kernel) ⟨Nat.le_of_ble_eq_true rfl, Nat.le_of_ble_eq_true rfl⟩) ⟨fun a U g mk q => ⟨q.1, q.2.1, q.2.2.1, LY.moved (u := U) (U := U.calling g mk a) (Vm.Alike.refl U.vm) q.2.2.2⟩, va_recv hK hP (ci := 13) (q0 := 0) rfl (wo_at (by decide) r_3), fun U hU hW => ⟨rfl, by rw [hU]; exact fun q h => hA q (Nat.le_trans hS.1 h), by rw [hU]; exact hP, LY.moved hW.alike hL⟩⟩ rfl rfl hl.1 rfl (lv_room (Nat.le_of_ble_eq_true rfl)) dX10_putPart_30 ⟨(Nat.le_of_ble_eq_true rfl), (Nat.le_of_ble_eq_true rfl)⟩) hS (fun q _ h => h) (fun q h => h) (fun u8 t8 H1 locs ht8 hvm8 hw_32 hB hz1 hk1 hS => ?_)
      obtain ⟨g_33, vf2_34, f3_35⟩ := u8
      try dsimp only at hw_32 hB
      rw [ht8] at hB
      have hP := hB
      generalize H1 = H at hP hS ⊢
      obtain ⟨fr_36, hVp, hvop, h17p, h18p, hlbp⟩ := hw_32
      rw [ep] at hVp h17p hlbp
      have h1p := decL_1 ((gd L k1).2.2.2.2.2.2.1.natAbs)
      have hvop : ∀ j, j < 2060 → vf2_34 j = vf j := fun j hj => (hvop j hj)
      have hobp : g_33 0 = .inr (13, Rob ad (va_up x 9 (nI (cn + (decL ((gd L k1).2.2.2.2.2.2.1.natAbs)).length)))) := hVp.obj
      refine lv_aload_n hx hb dX10_putPart_33 rfl (lv_at hl 0 rfl) ?_
      refine lv_iconst (v := nI 2) hx hb dX10_putPart_34 (by decide +kernel) ?_
      refine lv_iload_n hx hb dX10_putPart_35 rfl (lv_at hl 1 rfl) ?_
      refine lv_imul hx hb dX10_putPart_36 ?_
      refine lv_topi (fun x_37 e_38 => ?_)
      obtain rfl : x_37 = nI (2 * k1) := e_38.trans (pk_mul 2 k1)
      refine lv_iconst (v := nI 1) hx hb dX10_putPart_37 (by decide +kernel) ?_
      refine lv_iadd hx hb dX10_putPart_38 ?_
      refine lv_topi (fun x_39 e_40 => ?_)
      obtain rfl : x_39 = nI (2 * k1 + 1) := e_40.trans (nI_add (2 * k1) 1)
      refine va_calli (va_runV (As := [.int (nI (2 * k1 + 1))]) (rest := []) ⟨hx, hb, hml, hown, hts⟩ (c_X10_bitsOf l dC dI A ad cA g_33 (va_up x 9 (nI (cn + (decL ((gd L k1).2.2.2.2.2.2.1.natAbs)).length))) vf2_34 (2 * k1 + 1) hVp (by omega)) (cwV 1 hts (goodIn_app (goodIn_r [Cond.methodLink RX10 117 yX10_bitsOf, Cond.instanceMethod yX10_bitsOf, Cond.selects RX10 yX10_bitsOf yX10_bitsOf, Cond.initialized RX10] [11, 12, 13, 6] rfl rfl) (goodIn_sub (fun w9 h9 => bk3 w9 h9) gw_X10_bitsOf)) rfl rfl rfl (by decide +kernel) ⟨Nat.le_of_ble_eq_true rfl, Nat.le_of_ble_eq_true rfl⟩) ⟨fun a U g mk q => ⟨q.1, q.2.1, q.2.2.1, LY.moved (u := U) (U := U.calling g mk a) (Vm.Alike.refl U.vm) q.2.2.2⟩, va_recv hK hP (ci := 13) (q0 := 0) rfl (wo_at (by decide) hobp), fun U hU hW => ⟨rfl, by rw [hU]; exact fun q h => hA q (Nat.le_trans hS.1 h), by rw [hU]; exact hP, LY.moved hW.alike hL⟩⟩ rfl rfl hl.1 rfl (lv_room (Nat.le_of_ble_eq_true rfl)) dX10_putPart_39 ⟨(Nat.le_of_ble_eq_true rfl), (Nat.le_of_ble_eq_true rfl)⟩) hS (fun q _ h => h) (fun q h => h) (fun r_41 u8 t8 H1 locs ht8 hvm8 hw_42 hB hz1 hk1 hS => ?_)
      obtain ⟨⟩ := u8
      try dsimp only at hw_42 hB
      rw [ht8] at hB
      have hP := hB
      generalize H1 = H at hP hS ⊢
      obtain rfl := hw_42
      have eb : (vf2_34 (2 * k1 + 1)).natAbs = (gd L k1).2.2.2.2.2.2.2 := by rw [hvop _ (by omega), hq9]; exact Int.natAbs_natCast _
      rw [eb]
      obtain ⟨bq, hbq⟩ : ∃ z9, z9 = bl (gd L k1).2.2.2.2.2.2.2 := ⟨_, rfl⟩
      rw [← hbq]
      have lbq : bq ≤ 410 := by rw [hbq]; exact bl_le.mpr hqb
      refine lv_iconst (v := nI 1) hx hb dX10_putPart_42 (by decide +kernel) ?_
      refine lv_icmp_le (tgt := 77) hx hb dX10_putPart_43 (by decide) (fun c_43 => ?_) (fun c_43 => ?_)
      · have c_43 := (nI_leI (a := bq) (b := 1) (by omega) (by decide)).mp c_43
        have hpl : ptL (gd L k1) = (([] ++ decL (gd L k1).2.2.2.2.2.2.1.natAbs) ++ ([] : List Int)) := by rw [ptL_n s0, if_neg (by omega), if_pos (bl_one (by have := bl_pos.mpr hq0; omega))]
        have hll : (ptL (gd L k1)).length = 0 + (decL (gd L k1).2.2.2.2.2.2.1.natAbs).length + 0 := by rw [hpl]; simp only [List.length_append, List.length_cons, List.length_nil]
        have hdw : (dwr f17 (cn) (decL ((gd L k1).2.2.2.2.2.2.1.natAbs))) = dwr f17 cn (ptL (gd L k1)) := by rw [hpl]; exact pw_nn.symm
        have hxx : (va_up x 9 (nI (cn + (decL ((gd L k1).2.2.2.2.2.2.1.natAbs)).length))) = va_up x 9 (nI (cn + (ptL (gd L k1)).length)) := by rw [hll]; funext j; by_cases h8 : j = 9; rw [h8, va_up_self, va_up_self]; congr 1; omega; simp only [va_up_ne _ _ h8]
        have hFe : RF ad cA g_33 (va_up x 9 (nI (cn + (decL ((gd L k1).2.2.2.2.2.2.1.natAbs)).length))) pf qf := ⟨vf2_34, hVp, fun f hf => by rw [hvop (2 * f) (by omega), hvop (2 * f + 1) (by omega)]; exact hq f hf⟩
        rw [hxx] at hFe
        have h17e := h17p
        rw [hdw] at h17e
        refine W.widen (k := 0) (n := 0) (by omega) (by omega) ?_
        exact W.vret hx hb hr (fun t9 ht9 hW9 => ⟨⟨(g_33, f3_35), rfl, ⟨(fun (k : Nat) (hk : k ≠ 0 ∧ k ≠ 1 ∧ k ≠ 2 ∧ k ≠ 3 ∧ k ≠ 17 ∧ k ≠ 18) => (fr_36 k (by omega)).trans (rfl)), hFe, h17e, h18p, by omega, by omega⟩, by show va_P (dC, dI) vwCl _ t9.heap; rw [ht9]; exact hP⟩, hS.F ht9⟩) hS.2.2 dX10_putPart_77
      · have c_43 := mt (nI_leI (a := bq) (b := 1) (by omega) (by decide)).mpr c_43
        refine lv_aload_n hx hb dX10_putPart_46 rfl (lv_at hl 0 rfl) ?_
        refine lv_bipush (v := nI 47) hx hb dX10_putPart_47 (by decide +kernel) ?_
        rw [show nI 47 = iI 47 from by decide]
        refine va_callv (va_runV (As := [.int (iI 47)]) (rest := []) ⟨hx, hb, hml, hown, hts⟩ (c_X10_put l dC dI A ad cA g_33 (va_up x 9 (nI (cn + (decL ((gd L k1).2.2.2.2.2.2.1.natAbs)).length))) (dwr f17 (cn) (decL ((gd L k1).2.2.2.2.2.2.1.natAbs))) (cn + (decL ((gd L k1).2.2.2.2.2.2.1.natAbs)).length) 47 hobp h17p (va_up_self _ _ _) (by omega)) (cwV 1 hts (goodIn_app (goodIn_r [Cond.methodLink RX10 284 yX10_put, Cond.instanceMethod yX10_put, Cond.selects RX10 yX10_put yX10_put, Cond.initialized RX10] [3, 4, 5, 6] rfl rfl) (goodIn_sub (fun w9 h9 => bk1 w9 h9) gw_X10_put)) rfl rfl rfl (by decide +kernel) ⟨Nat.le_of_ble_eq_true rfl, Nat.le_of_ble_eq_true rfl⟩) ⟨fun a U g mk q => ⟨q.1, q.2.1, q.2.2.1, LY.moved (u := U) (U := U.calling g mk a) (Vm.Alike.refl U.vm) q.2.2.2⟩, va_recv hK hP (ci := 13) (q0 := 0) rfl (wo_at (by decide) hobp), fun U hU hW => ⟨rfl, by rw [hU]; exact fun q h => hA q (Nat.le_trans hS.1 h), by rw [hU]; exact hP, LY.moved hW.alike hL⟩⟩ rfl rfl hl.1 rfl (lv_room (Nat.le_of_ble_eq_true rfl)) dX10_putPart_49 ⟨(Nat.le_of_ble_eq_true rfl), (Nat.le_of_ble_eq_true rfl)⟩) hS (fun q _ h => h) (fun q h => h) (fun u8 t8 H1 locs ht8 hvm8 hw_44 hB hz1 hk1 hS => ?_)
        obtain ⟨g_45, rfl⟩ : ∃ z, z = u8 := ⟨_, rfl⟩
        try dsimp only at hw_44 hB
        rw [ht8] at hB
        have hP := hB
        generalize H1 = H at hP hS ⊢
        obtain ⟨fr_46, hob47, h1747⟩ := hw_44
        have h1747 : g_45 17 = .inl (cA 17, 256, .inl (fun j => iI ((dwr (dwr f17 (cn) (decL ((gd L k1).2.2.2.2.2.2.1.natAbs))) (cn + (decL ((gd L k1).2.2.2.2.2.2.1.natAbs)).length) [47]) j))) := h1747
        have hV_47 : RV ad cA g_45 (va_up (va_up x 9 (nI (cn + (decL ((gd L k1).2.2.2.2.2.2.1.natAbs)).length))) 9 (nI (cn + (decL ((gd L k1).2.2.2.2.2.2.1.natAbs)).length + 1))) vf2_34 := hVp.setx (fun (k : Nat) (hk : k = 1 ∨ k = 2 ∨ k = 3) => (fr_46 k (by omega)).trans (rfl)) hob47
        refine lv_aload_n hx hb dX10_putPart_52 rfl (lv_at hl 0 rfl) ?_
        refine lv_iconst (v := nI 2) hx hb dX10_putPart_53 (by decide +kernel) ?_
        refine lv_iload_n hx hb dX10_putPart_54 rfl (lv_at hl 1 rfl) ?_
        refine lv_imul hx hb dX10_putPart_55 ?_
        refine lv_topi (fun x_48 e_49 => ?_)
        obtain rfl : x_48 = nI (2 * k1) := e_49.trans (pk_mul 2 k1)
        refine lv_iconst (v := nI 1) hx hb dX10_putPart_56 (by decide +kernel) ?_
        refine lv_iadd hx hb dX10_putPart_57 ?_
        refine lv_topi (fun x_50 e_51 => ?_)
        obtain rfl : x_50 = nI (2 * k1 + 1) := e_51.trans (nI_add (2 * k1) 1)
        have eq : (vf2_34 (2 * k1 + 1)).natAbs = (gd L k1).2.2.2.2.2.2.2 := by rw [hvop _ (by omega), hq9]; exact Int.natAbs_natCast _
        have f_52 : g_45 18 = .inl (cA 18, 200, .inl (fun j => iI (f3_35 j))) := (fr_46 18 (by omega)).trans h18p
        refine va_callv (va_runV (As := [.int (nI (2 * k1 + 1))]) (rest := []) ⟨hx, hb, hml, hown, hts⟩ (c_X10_putSize l dC dI A ad cA g_45 (va_up (va_up x 9 (nI (cn + (decL ((gd L k1).2.2.2.2.2.2.1.natAbs)).length))) 9 (nI (cn + (decL ((gd L k1).2.2.2.2.2.2.1.natAbs)).length + 1))) vf2_34 (2 * k1 + 1) (dwr (dwr f17 (cn) (decL ((gd L k1).2.2.2.2.2.2.1.natAbs))) (cn + (decL ((gd L k1).2.2.2.2.2.2.1.natAbs)).length) [47]) f3_35 (cn + (decL ((gd L k1).2.2.2.2.2.2.1.natAbs)).length + 1) hV_47 (by omega) (by rw [eq]; exact hqb) h1747 f_52 (va_up_self _ _ _) (by omega)) (cwV 1 hts (goodIn_app (goodIn_r [Cond.methodLink RX10 287 yX10_putSize, Cond.instanceMethod yX10_putSize, Cond.selects RX10 yX10_putSize yX10_putSize, Cond.initialized RX10] [8, 9, 10, 6] rfl rfl) (goodIn_sub (fun w9 h9 => bk2 w9 h9) gw_X10_putSize)) rfl rfl rfl (by decide +kernel) ⟨Nat.le_of_ble_eq_true rfl, Nat.le_of_ble_eq_true rfl⟩) ⟨fun a U g mk q => ⟨q.1, q.2.1, q.2.2.1, LY.moved (u := U) (U := U.calling g mk a) (Vm.Alike.refl U.vm) q.2.2.2⟩, va_recv hK hP (ci := 13) (q0 := 0) rfl (wo_at (by decide) hob47), fun U hU hW => ⟨rfl, by rw [hU]; exact fun q h => hA q (Nat.le_trans hS.1 h), by rw [hU]; exact hP, LY.moved hW.alike hL⟩⟩ rfl rfl hl.1 rfl (lv_room (Nat.le_of_ble_eq_true rfl)) dX10_putPart_58 ⟨(Nat.le_of_ble_eq_true rfl), (Nat.le_of_ble_eq_true rfl)⟩) hS (fun q _ h => h) (fun q h => h) (fun u8 t8 H1 locs ht8 hvm8 hw_53 hB hz1 hk1 hS => ?_)
        obtain ⟨g_54, vf2_55, f3_56⟩ := u8
        try dsimp only at hw_53 hB
        rw [ht8] at hB
        have hP := hB
        generalize H1 = H at hP hS ⊢
        obtain ⟨fr_57, hVq, hvoq, h17q, h18q, hlbq⟩ := hw_53
        rw [eq] at hVq h17q hlbq
        have h1q := decL_1 ((gd L k1).2.2.2.2.2.2.2)
        have hvoq : ∀ j, j < 2060 → vf2_55 j = vf j := fun j hj => (hvoq j hj).trans (hvop j hj)
        have hobq : g_54 0 = .inr (13, Rob ad (va_up (va_up (va_up x 9 (nI (cn + (decL ((gd L k1).2.2.2.2.2.2.1.natAbs)).length))) 9 (nI (cn + (decL ((gd L k1).2.2.2.2.2.2.1.natAbs)).length + 1))) 9 (nI (cn + (decL ((gd L k1).2.2.2.2.2.2.1.natAbs)).length + 1 + (decL ((gd L k1).2.2.2.2.2.2.2)).length)))) := hVq.obj
        refine lv_goto (tgt := 77) hx hb dX10_putPart_61 (by decide) ?_
        have hpl : ptL (gd L k1) = (([] ++ decL (gd L k1).2.2.2.2.2.2.1.natAbs) ++ (47 :: decL (gd L k1).2.2.2.2.2.2.2 : List Int)) := by rw [ptL_n s0, if_neg (by omega), if_neg (bl_gt1 hbq (by omega))]
        have hll : (ptL (gd L k1)).length = 0 + (decL (gd L k1).2.2.2.2.2.2.1.natAbs).length + ((decL (gd L k1).2.2.2.2.2.2.2).length + 1) := by rw [hpl]; simp only [List.length_append, List.length_cons, List.length_nil]
        have hdw : (dwr (dwr (dwr f17 (cn) (decL ((gd L k1).2.2.2.2.2.2.1.natAbs))) (cn + (decL ((gd L k1).2.2.2.2.2.2.1.natAbs)).length) [47]) (cn + (decL ((gd L k1).2.2.2.2.2.2.1.natAbs)).length + 1) (decL ((gd L k1).2.2.2.2.2.2.2))) = dwr f17 cn (ptL (gd L k1)) := by rw [hpl]; exact pw_nd.symm
        have hxx : (va_up (va_up (va_up x 9 (nI (cn + (decL ((gd L k1).2.2.2.2.2.2.1.natAbs)).length))) 9 (nI (cn + (decL ((gd L k1).2.2.2.2.2.2.1.natAbs)).length + 1))) 9 (nI (cn + (decL ((gd L k1).2.2.2.2.2.2.1.natAbs)).length + 1 + (decL ((gd L k1).2.2.2.2.2.2.2)).length))) = va_up x 9 (nI (cn + (ptL (gd L k1)).length)) := by rw [hll]; funext j; by_cases h8 : j = 9; rw [h8, va_up_self, va_up_self]; congr 1; omega; simp only [va_up_ne _ _ h8]
        have hFe : RF ad cA g_54 (va_up (va_up (va_up x 9 (nI (cn + (decL ((gd L k1).2.2.2.2.2.2.1.natAbs)).length))) 9 (nI (cn + (decL ((gd L k1).2.2.2.2.2.2.1.natAbs)).length + 1))) 9 (nI (cn + (decL ((gd L k1).2.2.2.2.2.2.1.natAbs)).length + 1 + (decL ((gd L k1).2.2.2.2.2.2.2)).length))) pf qf := ⟨vf2_55, hVq, fun f hf => by rw [hvoq (2 * f) (by omega), hvoq (2 * f + 1) (by omega)]; exact hq f hf⟩
        rw [hxx] at hFe
        have h17e := h17q
        rw [hdw] at h17e
        refine W.widen (k := 0) (n := 0) (by omega) (by omega) ?_
        exact W.vret hx hb hr (fun t9 ht9 hW9 => ⟨⟨(g_54, f3_56), rfl, ⟨(fun (k : Nat) (hk : k ≠ 0 ∧ k ≠ 1 ∧ k ≠ 2 ∧ k ≠ 3 ∧ k ≠ 17 ∧ k ≠ 18) => (fr_57 k (by omega)).trans ((fr_46 k (by omega)).trans ((fr_36 k (by omega)).trans (rfl)))), hFe, h17e, h18q, by omega, by omega⟩, by show va_P (dC, dI) vwCl _ t9.heap; rw [ht9]; exact hP⟩, hS.F ht9⟩) hS.2.2 dX10_putPart_77
    · have c_29 := mt (nI_eq (a := (bnz_2 (2 * k1))) (b := 0) (by omega) (by decide)).mpr c_29
      refine lv_aload_n hx hb dX10_putPart_20 rfl (lv_at hl 0 rfl) ?_
      refine lv_bipush (v := nI 45) hx hb dX10_putPart_21 (by decide +kernel) ?_
      rw [show nI 45 = iI 45 from by decide]
      refine va_callv (va_runV (As := [.int (iI 45)]) (rest := []) ⟨hx, hb, hml, hown, hts⟩ (c_X10_put l dC dI A ad cA g x f17 cn 45 r_3 h17 hx9c (by omega)) (cwV 1 hts (goodIn_app (goodIn_r [Cond.methodLink RX10 284 yX10_put, Cond.instanceMethod yX10_put, Cond.selects RX10 yX10_put yX10_put, Cond.initialized RX10] [3, 4, 5, 6] rfl rfl) (goodIn_sub (fun w9 h9 => bk1 w9 h9) gw_X10_put)) rfl rfl rfl (by decide +kernel) ⟨Nat.le_of_ble_eq_true rfl, Nat.le_of_ble_eq_true rfl⟩) ⟨fun a U g mk q => ⟨q.1, q.2.1, q.2.2.1, LY.moved (u := U) (U := U.calling g mk a) (Vm.Alike.refl U.vm) q.2.2.2⟩, va_recv hK hP (ci := 13) (q0 := 0) rfl (wo_at (by decide) r_3), fun U hU hW => ⟨rfl, by rw [hU]; exact fun q h => hA q (Nat.le_trans hS.1 h), by rw [hU]; exact hP, LY.moved hW.alike hL⟩⟩ rfl rfl hl.1 rfl (lv_room (Nat.le_of_ble_eq_true rfl)) dX10_putPart_23 ⟨(Nat.le_of_ble_eq_true rfl), (Nat.le_of_ble_eq_true rfl)⟩) hS (fun q _ h => h) (fun q h => h) (fun u8 t8 H1 locs ht8 hvm8 hw_58 hB hz1 hk1 hS => ?_)
      obtain ⟨g_59, rfl⟩ : ∃ z, z = u8 := ⟨_, rfl⟩
      try dsimp only at hw_58 hB
      rw [ht8] at hB
      have hP := hB
      generalize H1 = H at hP hS ⊢
      obtain ⟨fr_60, hob45, h1745⟩ := hw_58
      have h1745 : g_59 17 = .inl (cA 17, 256, .inl (fun j => iI ((dwr f17 (cn) [45]) j))) := h1745
      have hV_61 : RV ad cA g_59 (va_up x 9 (nI (cn + 1))) vf := hV.setx (fun (k : Nat) (hk : k = 1 ∨ k = 2 ∨ k = 3) => (fr_60 k (by omega)).trans (rfl)) hob45
      refine lv_aload_n hx hb dX10_putPart_26 rfl (lv_at hl 0 rfl) ?_
      refine lv_iconst (v := nI 2) hx hb dX10_putPart_27 (by decide +kernel) ?_
      refine lv_iload_n hx hb dX10_putPart_28 rfl (lv_at hl 1 rfl) ?_
      refine lv_imul hx hb dX10_putPart_29 ?_
      refine lv_topi (fun x_62 e_63 => ?_)
      obtain rfl : x_62 = nI (2 * k1) := e_63.trans (pk_mul 2 k1)
      have ep : (vf (2 * k1)).natAbs = (gd L k1).2.2.2.2.2.2.1.natAbs := by rw [hp9]
      have f_64 : g_59 18 = .inl (cA 18, 200, .inl (fun j => iI (f18 j))) := (fr_60 18 (by omega)).trans h18
      refine va_callv (va_runV (As := [.int (nI (2 * k1))]) (rest := []) ⟨hx, hb, hml, hown, hts⟩ (c_X10_putSize l dC dI A ad cA g_59 (va_up x 9 (nI (cn + 1))) vf (2 * k1) (dwr f17 (cn) [45]) f18 (cn + 1) hV_61 (by omega) (by rw [ep]; exact hpb) h1745 f_64 (va_up_self _ _ _) (by omega)) (cwV 1 hts (goodIn_app (goodIn_r [Cond.methodLink RX10 287 yX10_putSize, Cond.instanceMethod yX10_putSize, Cond.selects RX10 yX10_putSize yX10_putSize, Cond.initialized RX10] [8, 9, 10, 6] rfl rfl) (goodIn_sub (fun w9 h9 => bk2 w9 h9) gw_X10_putSize)) rfl rfl rfl (by decide +kernel) ⟨Nat.le_of_ble_eq_true rfl, Nat.le_of_ble_eq_true rfl⟩) ⟨fun a U g mk q => ⟨q.1, q.2.1, q.2.2.1, LY.moved (u := U) (U := U.calling g mk a) (Vm.Alike.refl U.vm) q.2.2.2⟩, va_recv hK hP (ci := 13) (q0 := 0) rfl (wo_at (by decide) hob45), fun U hU hW => ⟨rfl, by rw [hU]; exact fun q h => hA q (Nat.le_trans hS.1 h), by rw [hU]; exact hP, LY.moved hW.alike hL⟩⟩ rfl rfl hl.1 rfl (lv_room (Nat.le_of_ble_eq_true rfl)) dX10_putPart_30 ⟨(Nat.le_of_ble_eq_true rfl), (Nat.le_of_ble_eq_true rfl)⟩) hS (fun q _ h => h) (fun q h => h) (fun u8 t8 H1 locs ht8 hvm8 hw_65 hB hz1 hk1 hS => ?_)
      obtain ⟨g_66, vf2_67, f3_68⟩ := u8
      try dsimp only at hw_65 hB
      rw [ht8] at hB
      have hP := hB
      generalize H1 = H at hP hS ⊢
      obtain ⟨fr_69, hVp, hvop, h17p, h18p, hlbp⟩ := hw_65
      rw [ep] at hVp h17p hlbp
      have h1p := decL_1 ((gd L k1).2.2.2.2.2.2.1.natAbs)
      have hvop : ∀ j, j < 2060 → vf2_67 j = vf j := fun j hj => (hvop j hj)
      have hobp : g_66 0 = .inr (13, Rob ad (va_up (va_up x 9 (nI (cn + 1))) 9 (nI (cn + 1 + (decL ((gd L k1).2.2.2.2.2.2.1.natAbs)).length)))) := hVp.obj
      refine lv_aload_n hx hb dX10_putPart_33 rfl (lv_at hl 0 rfl) ?_
      refine lv_iconst (v := nI 2) hx hb dX10_putPart_34 (by decide +kernel) ?_
      refine lv_iload_n hx hb dX10_putPart_35 rfl (lv_at hl 1 rfl) ?_
      refine lv_imul hx hb dX10_putPart_36 ?_
      refine lv_topi (fun x_70 e_71 => ?_)
      obtain rfl : x_70 = nI (2 * k1) := e_71.trans (pk_mul 2 k1)
      refine lv_iconst (v := nI 1) hx hb dX10_putPart_37 (by decide +kernel) ?_
      refine lv_iadd hx hb dX10_putPart_38 ?_
      refine lv_topi (fun x_72 e_73 => ?_)
      obtain rfl : x_72 = nI (2 * k1 + 1) := e_73.trans (nI_add (2 * k1) 1)
      refine va_calli (va_runV (As := [.int (nI (2 * k1 + 1))]) (rest := []) ⟨hx, hb, hml, hown, hts⟩ (c_X10_bitsOf l dC dI A ad cA g_66 (va_up (va_up x 9 (nI (cn + 1))) 9 (nI (cn + 1 + (decL ((gd L k1).2.2.2.2.2.2.1.natAbs)).length))) vf2_67 (2 * k1 + 1) hVp (by omega)) (cwV 1 hts (goodIn_app (goodIn_r [Cond.methodLink RX10 117 yX10_bitsOf, Cond.instanceMethod yX10_bitsOf, Cond.selects RX10 yX10_bitsOf yX10_bitsOf, Cond.initialized RX10] [11, 12, 13, 6] rfl rfl) (goodIn_sub (fun w9 h9 => bk3 w9 h9) gw_X10_bitsOf)) rfl rfl rfl (by decide +kernel) ⟨Nat.le_of_ble_eq_true rfl, Nat.le_of_ble_eq_true rfl⟩) ⟨fun a U g mk q => ⟨q.1, q.2.1, q.2.2.1, LY.moved (u := U) (U := U.calling g mk a) (Vm.Alike.refl U.vm) q.2.2.2⟩, va_recv hK hP (ci := 13) (q0 := 0) rfl (wo_at (by decide) hobp), fun U hU hW => ⟨rfl, by rw [hU]; exact fun q h => hA q (Nat.le_trans hS.1 h), by rw [hU]; exact hP, LY.moved hW.alike hL⟩⟩ rfl rfl hl.1 rfl (lv_room (Nat.le_of_ble_eq_true rfl)) dX10_putPart_39 ⟨(Nat.le_of_ble_eq_true rfl), (Nat.le_of_ble_eq_true rfl)⟩) hS (fun q _ h => h) (fun q h => h) (fun r_74 u8 t8 H1 locs ht8 hvm8 hw_75 hB hz1 hk1 hS => ?_)
      obtain ⟨⟩ := u8
      try dsimp only at hw_75 hB
      rw [ht8] at hB
      have hP := hB
      generalize H1 = H at hP hS ⊢
      obtain rfl := hw_75
      have eb : (vf2_67 (2 * k1 + 1)).natAbs = (gd L k1).2.2.2.2.2.2.2 := by rw [hvop _ (by omega), hq9]; exact Int.natAbs_natCast _
      rw [eb]
      obtain ⟨bq, hbq⟩ : ∃ z9, z9 = bl (gd L k1).2.2.2.2.2.2.2 := ⟨_, rfl⟩
      rw [← hbq]
      have lbq : bq ≤ 410 := by rw [hbq]; exact bl_le.mpr hqb
      refine lv_iconst (v := nI 1) hx hb dX10_putPart_42 (by decide +kernel) ?_
      refine lv_icmp_le (tgt := 77) hx hb dX10_putPart_43 (by decide) (fun c_76 => ?_) (fun c_76 => ?_)
      · have c_76 := (nI_leI (a := bq) (b := 1) (by omega) (by decide)).mp c_76
        have hpl : ptL (gd L k1) = (([45] ++ decL (gd L k1).2.2.2.2.2.2.1.natAbs) ++ ([] : List Int)) := by rw [ptL_n s0, if_pos (by omega), if_pos (bl_one (by have := bl_pos.mpr hq0; omega))]
        have hll : (ptL (gd L k1)).length = 1 + (decL (gd L k1).2.2.2.2.2.2.1.natAbs).length + 0 := by rw [hpl]; simp only [List.length_append, List.length_cons, List.length_nil]
        have hdw : (dwr (dwr f17 (cn) [45]) (cn + 1) (decL ((gd L k1).2.2.2.2.2.2.1.natAbs))) = dwr f17 cn (ptL (gd L k1)) := by rw [hpl]; exact pw_sn.symm
        have hxx : (va_up (va_up x 9 (nI (cn + 1))) 9 (nI (cn + 1 + (decL ((gd L k1).2.2.2.2.2.2.1.natAbs)).length))) = va_up x 9 (nI (cn + (ptL (gd L k1)).length)) := by rw [hll]; funext j; by_cases h8 : j = 9; rw [h8, va_up_self, va_up_self]; congr 1; omega; simp only [va_up_ne _ _ h8]
        have hFe : RF ad cA g_66 (va_up (va_up x 9 (nI (cn + 1))) 9 (nI (cn + 1 + (decL ((gd L k1).2.2.2.2.2.2.1.natAbs)).length))) pf qf := ⟨vf2_67, hVp, fun f hf => by rw [hvop (2 * f) (by omega), hvop (2 * f + 1) (by omega)]; exact hq f hf⟩
        rw [hxx] at hFe
        have h17e := h17p
        rw [hdw] at h17e
        refine W.widen (k := 0) (n := 0) (by omega) (by omega) ?_
        exact W.vret hx hb hr (fun t9 ht9 hW9 => ⟨⟨(g_66, f3_68), rfl, ⟨(fun (k : Nat) (hk : k ≠ 0 ∧ k ≠ 1 ∧ k ≠ 2 ∧ k ≠ 3 ∧ k ≠ 17 ∧ k ≠ 18) => (fr_69 k (by omega)).trans ((fr_60 k (by omega)).trans (rfl))), hFe, h17e, h18p, by omega, by omega⟩, by show va_P (dC, dI) vwCl _ t9.heap; rw [ht9]; exact hP⟩, hS.F ht9⟩) hS.2.2 dX10_putPart_77
      · have c_76 := mt (nI_leI (a := bq) (b := 1) (by omega) (by decide)).mpr c_76
        refine lv_aload_n hx hb dX10_putPart_46 rfl (lv_at hl 0 rfl) ?_
        refine lv_bipush (v := nI 47) hx hb dX10_putPart_47 (by decide +kernel) ?_
        rw [show nI 47 = iI 47 from by decide]
        refine va_callv (va_runV (As := [.int (iI 47)]) (rest := []) ⟨hx, hb, hml, hown, hts⟩ (c_X10_put l dC dI A ad cA g_66 (va_up (va_up x 9 (nI (cn + 1))) 9 (nI (cn + 1 + (decL ((gd L k1).2.2.2.2.2.2.1.natAbs)).length))) (dwr (dwr f17 (cn) [45]) (cn + 1) (decL ((gd L k1).2.2.2.2.2.2.1.natAbs))) (cn + 1 + (decL ((gd L k1).2.2.2.2.2.2.1.natAbs)).length) 47 hobp h17p (va_up_self _ _ _) (by omega)) (cwV 1 hts (goodIn_app (goodIn_r [Cond.methodLink RX10 284 yX10_put, Cond.instanceMethod yX10_put, Cond.selects RX10 yX10_put yX10_put, Cond.initialized RX10] [3, 4, 5, 6] rfl rfl) (goodIn_sub (fun w9 h9 => bk1 w9 h9) gw_X10_put)) rfl rfl rfl (by decide +kernel) ⟨Nat.le_of_ble_eq_true rfl, Nat.le_of_ble_eq_true rfl⟩) ⟨fun a U g mk q => ⟨q.1, q.2.1, q.2.2.1, LY.moved (u := U) (U := U.calling g mk a) (Vm.Alike.refl U.vm) q.2.2.2⟩, va_recv hK hP (ci := 13) (q0 := 0) rfl (wo_at (by decide) hobp), fun U hU hW => ⟨rfl, by rw [hU]; exact fun q h => hA q (Nat.le_trans hS.1 h), by rw [hU]; exact hP, LY.moved hW.alike hL⟩⟩ rfl rfl hl.1 rfl (lv_room (Nat.le_of_ble_eq_true rfl)) dX10_putPart_49 ⟨(Nat.le_of_ble_eq_true rfl), (Nat.le_of_ble_eq_true rfl)⟩) hS (fun q _ h => h) (fun q h => h) (fun u8 t8 H1 locs ht8 hvm8 hw_77 hB hz1 hk1 hS => ?_)
        obtain ⟨g_78, rfl⟩ : ∃ z, z = u8 := ⟨_, rfl⟩
        try dsimp only at hw_77 hB
        rw [ht8] at hB
        have hP := hB
        generalize H1 = H at hP hS ⊢
        obtain ⟨fr_79, hob47, h1747⟩ := hw_77
        have h1747 : g_78 17 = .inl (cA 17, 256, .inl (fun j => iI ((dwr (dwr (dwr f17 (cn) [45]) (cn + 1) (decL ((gd L k1).2.2.2.2.2.2.1.natAbs))) (cn + 1 + (decL ((gd L k1).2.2.2.2.2.2.1.natAbs)).length) [47]) j))) := h1747
        have hV_80 : RV ad cA g_78 (va_up (va_up (va_up x 9 (nI (cn + 1))) 9 (nI (cn + 1 + (decL ((gd L k1).2.2.2.2.2.2.1.natAbs)).length))) 9 (nI (cn + 1 + (decL ((gd L k1).2.2.2.2.2.2.1.natAbs)).length + 1))) vf2_67 := hVp.setx (fun (k : Nat) (hk : k = 1 ∨ k = 2 ∨ k = 3) => (fr_79 k (by omega)).trans (rfl)) hob47
        refine lv_aload_n hx hb dX10_putPart_52 rfl (lv_at hl 0 rfl) ?_
        refine lv_iconst (v := nI 2) hx hb dX10_putPart_53 (by decide +kernel) ?_
        refine lv_iload_n hx hb dX10_putPart_54 rfl (lv_at hl 1 rfl) ?_
        refine lv_imul hx hb dX10_putPart_55 ?_
        refine lv_topi (fun x_81 e_82 => ?_)
        obtain rfl : x_81 = nI (2 * k1) := e_82.trans (pk_mul 2 k1)
        refine lv_iconst (v := nI 1) hx hb dX10_putPart_56 (by decide +kernel) ?_
        refine lv_iadd hx hb dX10_putPart_57 ?_
        refine lv_topi (fun x_83 e_84 => ?_)
        obtain rfl : x_83 = nI (2 * k1 + 1) := e_84.trans (nI_add (2 * k1) 1)
        have eq : (vf2_67 (2 * k1 + 1)).natAbs = (gd L k1).2.2.2.2.2.2.2 := by rw [hvop _ (by omega), hq9]; exact Int.natAbs_natCast _
        have f_85 : g_78 18 = .inl (cA 18, 200, .inl (fun j => iI (f3_68 j))) := (fr_79 18 (by omega)).trans h18p
        refine va_callv (va_runV (As := [.int (nI (2 * k1 + 1))]) (rest := []) ⟨hx, hb, hml, hown, hts⟩ (c_X10_putSize l dC dI A ad cA g_78 (va_up (va_up (va_up x 9 (nI (cn + 1))) 9 (nI (cn + 1 + (decL ((gd L k1).2.2.2.2.2.2.1.natAbs)).length))) 9 (nI (cn + 1 + (decL ((gd L k1).2.2.2.2.2.2.1.natAbs)).length + 1))) vf2_67 (2 * k1 + 1) (dwr (dwr (dwr f17 (cn) [45]) (cn + 1) (decL ((gd L k1).2.2.2.2.2.2.1.natAbs))) (cn + 1 + (decL ((gd L k1).2.2.2.2.2.2.1.natAbs)).length) [47]) f3_68 (cn + 1 + (decL ((gd L k1).2.2.2.2.2.2.1.natAbs)).length + 1) hV_80 (by omega) (by rw [eq]; exact hqb) h1747 f_85 (va_up_self _ _ _) (by omega)) (cwV 1 hts (goodIn_app (goodIn_r [Cond.methodLink RX10 287 yX10_putSize, Cond.instanceMethod yX10_putSize, Cond.selects RX10 yX10_putSize yX10_putSize, Cond.initialized RX10] [8, 9, 10, 6] rfl rfl) (goodIn_sub (fun w9 h9 => bk2 w9 h9) gw_X10_putSize)) rfl rfl rfl (by decide +kernel) ⟨Nat.le_of_ble_eq_true rfl, Nat.le_of_ble_eq_true rfl⟩) ⟨fun a U g mk q => ⟨q.1, q.2.1, q.2.2.1, LY.moved (u := U) (U := U.calling g mk a) (Vm.Alike.refl U.vm) q.2.2.2⟩, va_recv hK hP (ci := 13) (q0 := 0) rfl (wo_at (by decide) hob47), fun U hU hW => ⟨rfl, by rw [hU]; exact fun q h => hA q (Nat.le_trans hS.1 h), by rw [hU]; exact hP, LY.moved hW.alike hL⟩⟩ rfl rfl hl.1 rfl (lv_room (Nat.le_of_ble_eq_true rfl)) dX10_putPart_58 ⟨(Nat.le_of_ble_eq_true rfl), (Nat.le_of_ble_eq_true rfl)⟩) hS (fun q _ h => h) (fun q h => h) (fun u8 t8 H1 locs ht8 hvm8 hw_86 hB hz1 hk1 hS => ?_)
        obtain ⟨g_87, vf2_88, f3_89⟩ := u8
        try dsimp only at hw_86 hB
        rw [ht8] at hB
        have hP := hB
        generalize H1 = H at hP hS ⊢
        obtain ⟨fr_90, hVq, hvoq, h17q, h18q, hlbq⟩ := hw_86
        rw [eq] at hVq h17q hlbq
        have h1q := decL_1 ((gd L k1).2.2.2.2.2.2.2)
        have hvoq : ∀ j, j < 2060 → vf2_88 j = vf j := fun j hj => (hvoq j hj).trans (hvop j hj)
        have hobq : g_87 0 = .inr (13, Rob ad (va_up (va_up (va_up (va_up x 9 (nI (cn + 1))) 9 (nI (cn + 1 + (decL ((gd L k1).2.2.2.2.2.2.1.natAbs)).length))) 9 (nI (cn + 1 + (decL ((gd L k1).2.2.2.2.2.2.1.natAbs)).length + 1))) 9 (nI (cn + 1 + (decL ((gd L k1).2.2.2.2.2.2.1.natAbs)).length + 1 + (decL ((gd L k1).2.2.2.2.2.2.2)).length)))) := hVq.obj
        refine lv_goto (tgt := 77) hx hb dX10_putPart_61 (by decide) ?_
        have hpl : ptL (gd L k1) = (([45] ++ decL (gd L k1).2.2.2.2.2.2.1.natAbs) ++ (47 :: decL (gd L k1).2.2.2.2.2.2.2 : List Int)) := by rw [ptL_n s0, if_pos (by omega), if_neg (bl_gt1 hbq (by omega))]
        have hll : (ptL (gd L k1)).length = 1 + (decL (gd L k1).2.2.2.2.2.2.1.natAbs).length + ((decL (gd L k1).2.2.2.2.2.2.2).length + 1) := by rw [hpl]; simp only [List.length_append, List.length_cons, List.length_nil]
        have hdw : (dwr (dwr (dwr (dwr f17 (cn) [45]) (cn + 1) (decL ((gd L k1).2.2.2.2.2.2.1.natAbs))) (cn + 1 + (decL ((gd L k1).2.2.2.2.2.2.1.natAbs)).length) [47]) (cn + 1 + (decL ((gd L k1).2.2.2.2.2.2.1.natAbs)).length + 1) (decL ((gd L k1).2.2.2.2.2.2.2))) = dwr f17 cn (ptL (gd L k1)) := by rw [hpl]; exact pw_sd.symm
        have hxx : (va_up (va_up (va_up (va_up x 9 (nI (cn + 1))) 9 (nI (cn + 1 + (decL ((gd L k1).2.2.2.2.2.2.1.natAbs)).length))) 9 (nI (cn + 1 + (decL ((gd L k1).2.2.2.2.2.2.1.natAbs)).length + 1))) 9 (nI (cn + 1 + (decL ((gd L k1).2.2.2.2.2.2.1.natAbs)).length + 1 + (decL ((gd L k1).2.2.2.2.2.2.2)).length))) = va_up x 9 (nI (cn + (ptL (gd L k1)).length)) := by rw [hll]; funext j; by_cases h8 : j = 9; rw [h8, va_up_self, va_up_self]; congr 1; omega; simp only [va_up_ne _ _ h8]
        have hFe : RF ad cA g_87 (va_up (va_up (va_up (va_up x 9 (nI (cn + 1))) 9 (nI (cn + 1 + (decL ((gd L k1).2.2.2.2.2.2.1.natAbs)).length))) 9 (nI (cn + 1 + (decL ((gd L k1).2.2.2.2.2.2.1.natAbs)).length + 1))) 9 (nI (cn + 1 + (decL ((gd L k1).2.2.2.2.2.2.1.natAbs)).length + 1 + (decL ((gd L k1).2.2.2.2.2.2.2)).length))) pf qf := ⟨vf2_88, hVq, fun f hf => by rw [hvoq (2 * f) (by omega), hvoq (2 * f + 1) (by omega)]; exact hq f hf⟩
        rw [hxx] at hFe
        have h17e := h17q
        rw [hdw] at h17e
        refine W.widen (k := 0) (n := 0) (by omega) (by omega) ?_
        exact W.vret hx hb hr (fun t9 ht9 hW9 => ⟨⟨(g_87, f3_89), rfl, ⟨(fun (k : Nat) (hk : k ≠ 0 ∧ k ≠ 1 ∧ k ≠ 2 ∧ k ≠ 3 ∧ k ≠ 17 ∧ k ≠ 18) => (fr_90 k (by omega)).trans ((fr_79 k (by omega)).trans ((fr_69 k (by omega)).trans ((fr_60 k (by omega)).trans (rfl))))), hFe, h17e, h18q, by omega, by omega⟩, by show va_P (dC, dI) vwCl _ t9.heap; rw [ht9]; exact hP⟩, hS.F ht9⟩) hS.2.2 dX10_putPart_77
end
section
theorem lis_cons {q : List Int} (h : 0 < q.length) : ∃ v t, q = v :: t := by
  cases q with
  | nil => exact absurd h (Nat.lt_irrefl 0)
  | cons v q => exact ⟨v, q, rfl⟩
theorem deg_op {L : List PD} {k a b : Nat} (hW : WFL L) (hk : k < L.length) (h : (gd L k).1 = 2 ∨ (gd L k).1 = 3) (ea : (gd L k).2.1 = (a : Int)) (eb : (gd L k).2.2.1 = (b : Int)) : (gd L a).2.2.2.1 ≤ (gd L k).2.2.2.1 ∧ (gd L b).2.2.2.1 ≤ (gd L k).2.2.2.1 := by
  obtain ⟨-, -, -, -, -, -, -, -, w9, w10, -⟩ := hW k hk
  rcases h with h | h
  · obtain ⟨a2, b2, ha, hb, e1, e2, e3, -⟩ := w9 h
    rw [e1] at ea; rw [e2] at eb
    obtain rfl : a2 = a := by omega
    obtain rfl : b2 = b := by omega
    omega
  · obtain ⟨a2, b2, ha, hb, e1, e2, e3, -⟩ := w10 h
    rw [e1] at ea; rw [e2] at eb
    obtain rfl : a2 = a := by omega
    obtain rfl : b2 = b := by omega
    omega
end
section
def wd_X10_write : List Cond := .code yX10_write cX10_write 4 (some .int) :: (([.methodLink RX10 263 yX10_noName, .instanceMethod yX10_noName, .selects RX10 yX10_noName yX10_noName, .initialized RX10, .fieldLink RX10 71 "GradientDeskModel" "waiting" "[I", .fieldLink RX10 47 "GradientDeskModel" "names" "[I", .fieldLink RX10 278 "GradientDeskModel" "count" "I", .fieldLink RX10 293 "GradientDeskModel" "written" "I", .fieldLink RX10 62 "GradientDeskModel" "out" "[I", .fieldLink RX10 65 "GradientDeskModel" "draft" "[I", .fieldLink RX10 29 "GradientDeskModel" "sort" "[I", .fieldLink RX10 35 "GradientDeskModel" "second" "[I", .fieldLink RX10 32 "GradientDeskModel" "first" "[I", .methodLink RX10 290 yX10_putPart, .instanceMethod yX10_putPart, .selects RX10 yX10_putPart yX10_putPart, .methodLink RX10 284 yX10_put, .instanceMethod yX10_put, .selects RX10 yX10_put yX10_put] : List Cond) ++ (wd_X10_noName ++ (u_ws RX10 TX10 29 ++ (wd_X10_putPart ++ (wd_X10_put ++ ([]))))))
theorem gw_X10_write : wd_X10_write.all goodWord = true := k_allc rfl (k_all (by decide +kernel) (k_all (gw_X10_noName) (k_all (gu_X10) (k_all (gw_X10_putPart) (k_all (gw_X10_put) (rfl))))))
set_option maxHeartbeats 4000000 in
set_option maxRecDepth 100000 in
theorem c_X10_write (l : Launch) (dC : Nat → ClassId) (dI : Nat → Nat → Nat) (A : Nat → Prop) (ad : Nat → Nat) (cA : Nat → ClassId) (g : Nat → va_E) (x : Nat → Int32) (L : List PD) (nm : Nat → Int) (tx : Nat → Nat) (ty : Nat) (wr : List Int) (v : Int32) (hI : RIE ad cA g x L nm tx ty wr) : Met l yX10_write wd_X10_write ({ frames := 50, cells := 0, slots := 0, locals := 1000 }) (va_Pc [.ref (ad 0), .int v] (PR NSr tyr dC dI A ad cA g)) (va_Qi (fun (r : Int32) => fun (u : (Nat → va_E) × (Nat → Int32) × (List Int)) => match u with | (g2, x2, wr2) => RIE ad cA g2 x2 L nm tx ty wr2 ∧ x2 2 = x 2 ∧ WRR nm L wr v (x2 0) r wr2) (fun (u : (Nat → va_E) × (Nat → Int32) × (List Int)) (t : State) => va_P (dC, dI) vwCl (wo ad NSr u.1) t.heap) A) (0) (0) A := by
  refine Met.ofW (cc := cX10_write) (maxL := 4) (ret := (some .int)) (by decide) rfl ?_
  intro p e s m args below meth c s₁ B hml hv
  obtain ⟨rfl, hA, hP, hL⟩ := hv
  have hx := B.exec
  have hb := B.bytes
  have hr := B.returns
  have hts := atoms_spec (ws := wd_X10_write) B.pre
  have hown : s.vm.findClass RX10 = some m.cls := findClass_of_methodNamed B.named
  have hlocks := B.notSynchronized
  have hK := hL.1
  have hD : ∀ g, va_D A (wo ad NSr g) := fun g => wo_D hL.2.1 hL.2.2 g
  have hS : va_S A s.heap s.heap [] := va_S.rf
  have bk0 : ∀ w ∈ wd_X10_noName, w ∈ wd_X10_write := fun _ h => List.mem_cons_of_mem _ (List.mem_append_right _ (List.mem_append_left _ h))
  have bk1 : ∀ w ∈ u_ws RX10 TX10 29, w ∈ wd_X10_write := fun _ h => List.mem_cons_of_mem _ (List.mem_append_right _ (List.mem_append_right _ (List.mem_append_left _ h)))
  have bk2 : ∀ w ∈ wd_X10_putPart, w ∈ wd_X10_write := fun _ h => List.mem_cons_of_mem _ (List.mem_append_right _ (List.mem_append_right _ (List.mem_append_right _ (List.mem_append_left _ h))))
  have bk3 : ∀ w ∈ wd_X10_put, w ∈ wd_X10_write := fun _ h => List.mem_cons_of_mem _ (List.mem_append_right _ (List.mem_append_right _ (List.mem_append_right _ (List.mem_append_right _ (List.mem_append_left _ h)))))
  have hl := lv_entry ([.ref (ad 0), .int v]) (n := 4) (Nat.le_of_ble_eq_true rfl)
  rw [lg_entry_eq]
  generalize (lg_sl ([.ref (ad 0), .int v]) ++ List.replicate (4 - (lg_sl ([.ref (ad 0), .int v])).length) Slot.unset).toArray = ls at hl ⊢
  have hl : lv_has ls 4 [(0, .ref (ad 0)), (1, .int v)] := hl
  have hIk := hI
  obtain ⟨pf, qf, pt, hI0⟩ := hIk
  have hF := hI0.1
  have h0o := hF.obj
  obtain ⟨t4, t4b, t11, t11b, t11c⟩ := hI0.2.2.2.2.2.2.1
  refine lv_aload_n hx hb dX10_write_0 rfl (lv_at hl 0 rfl) ?_
  refine lv_iload_n hx hb dX10_write_1 rfl (lv_at hl 1 rfl) ?_
  refine va_calli (va_runV (As := [.int v]) (rest := []) ⟨hx, hb, hml, hown, hts⟩ (c_X10_noName l dC dI A ad cA g x L nm tx ty wr v hI) (cwV 1 hts (goodIn_app (goodIn_r [Cond.methodLink RX10 263 yX10_noName, Cond.instanceMethod yX10_noName, Cond.selects RX10 yX10_noName yX10_noName, Cond.initialized RX10] [1, 2, 3, 4] rfl rfl) (goodIn_sub (fun w9 h9 => bk0 w9 h9) gw_X10_noName)) rfl rfl rfl (by decide +kernel) ⟨Nat.le_of_ble_eq_true rfl, Nat.le_of_ble_eq_true rfl⟩) ⟨fun a U g mk q => ⟨q.1, q.2.1, q.2.2.1, LY.moved (u := U) (U := U.calling g mk a) (Vm.Alike.refl U.vm) q.2.2.2⟩, va_recv hK hP (ci := 13) (q0 := 0) rfl (wo_at (by decide) h0o), fun U hU hW => ⟨rfl, by rw [hU]; exact fun q h => hA q (Nat.le_trans hS.1 h), by rw [hU]; exact hP, LY.moved hW.alike hL⟩⟩ rfl rfl hl.1 rfl (lv_room (Nat.le_of_ble_eq_true rfl)) dX10_write_2 ⟨(Nat.le_of_ble_eq_true rfl), (Nat.le_of_ble_eq_true rfl)⟩) hS (fun q _ h => h) (fun q h => h) (fun r_1 u8 t8 H1 locs ht8 hvm8 hw_2 hB hz1 hk1 hS => ?_)
  obtain ⟨g_3, x2_4⟩ := u8
  try dsimp only at hw_2 hB
  rw [ht8] at hB
  have hP := hB
  generalize H1 = H at hP hS ⊢
  have fr_5 := hw_2
  obtain ⟨hR2, hx22, hcc⟩ := hw_2
  rcases hcc with ⟨rfl, hx20, vn, hvv, hvn, hnv⟩ | ⟨rfl, hx20⟩
  · skip
    rw [hvv] at hl
    obtain ⟨pf2, qf2, pt2, hI2⟩ := hR2
    have hI3 := hI2
    obtain ⟨hF2, hPt2, hM2, hW2, hL22, hmd2, hTx2, hty_2, hty2_2, hwr_2, hwr2_2, hVO2, hBd2⟩ := hI3
    have hVO20 := hVO2
    have hPt20 := hPt2
    have hF20 := hF2
    have hTx20 := hTx2
    obtain ⟨u4, u4b, u11, u11b, u11c⟩ := hTx2
    obtain ⟨⟨rc9, y12, y12b⟩, yy⟩ := hVO2
    have hob2 := hF2.obj
    refine lv_if_eq (tgt := 10) hx hb dX10_write_5 (by decide) (fun c_6 => ?_) (fun c_6 => absurd c_6 (by decide))
    obtain ⟨⟨f13, y13⟩, ⟨f14, y14⟩, ⟨f15, y15⟩, ⟨f16, y16⟩, ⟨f17, y17⟩, ⟨f18, y18⟩, ⟨f19, y19⟩⟩ := yy
    have hPt2c := hPt20
    obtain ⟨p_7, p_8, p_9, p_10, p_11, p_12, hpt_13⟩ := hPt2c
    refine lv_iconst (v := nI 1) hx hb dX10_write_10 (by decide +kernel) ?_
    refine lv_istore_n (lv' := [(2, .int (nI 1)), (0, .ref (ad 0)), (1, .int (nI vn))]) hx hb dX10_write_11 rfl hl (by decide) rfl (fun ls hl => ?_)
    refine lv_aload_n hx hb dX10_write_12 rfl (lv_at hl 1 rfl) ?_
    refine m_get (D := (dC, dI)) (v := .ref (ad 19)) (C := RX10) (T := TX10) (N := 29) hx hb hts bk1 hown hK hP 0 (by decide) hob2 rfl 27 (by decide) (hts (.fieldLink RX10 71 "GradientDeskModel" "waiting" "[I") (List.mem_of_getElem? (i := 5) rfl)) (fun _ h9 => h9) rfl dX10_write_13 ?_
    refine lv_iconst (v := nI 0) hx hb dX10_write_16 (by decide +kernel) ?_
    refine lv_aload_n hx hb dX10_write_17 rfl (lv_at hl 1 rfl) ?_
    refine m_get (D := (dC, dI)) (v := .ref (ad 11)) (C := RX10) (T := TX10) (N := 29) hx hb hts bk1 hown hK hP 0 (by decide) hob2 rfl 15 (by decide) (hts (.fieldLink RX10 47 "GradientDeskModel" "names" "[I") (List.mem_of_getElem? (i := 6) rfl)) (fun _ h9 => h9) rfl dX10_write_18 ?_
    refine lv_iload_n hx hb dX10_write_21 rfl (lv_at hl 2 rfl) ?_
    refine m_iald hx hb hK hP 11 (by decide) rfl u11 (i := vn) (by omega) (by decide) dX10_write_22 ?_
    have b_14 := u11b vn
    obtain ⟨rt, hrt⟩ : ∃ z9 : Nat, nm vn = (z9 : Int) := ⟨(nm vn).toNat, by omega⟩
    have hr9 := t11c vn (by omega)
    have hrl : rt < L.length := by omega
    rw [hrt, ← nI_iI]
    refine m_iast hx hb hK hP hD hS 19 (by decide) rfl y19 (i := 0) (x := nI rt) (by decide) (by decide) dX10_write_23 (fun H locs g_15 f_16 fr_17 hP hS => ?_)
    rw [(nI_iI rt), k_updZ] at f_16
    have f_16 : g_15 19 = .inl (cA 19, 1200, .inl (fun j => iI ((va_up f19 0 ((rt : Nat) : Int)) j))) := f_16
    refine lv_aload_n hx hb dX10_write_24 rfl (lv_at hl 1 rfl) ?_
    refine lv_iconst (v := nI 0) hx hb dX10_write_25 (by decide +kernel) ?_
    have f_18 : g_15 0 = .inr (13, Rob ad x2_4) := (fr_17 0 (by omega)).trans hob2
    refine m_put (D := (dC, dI)) (v := .int (nI 0)) (tv := .int) (C := RX10) (T := TX10) (N := 29) hx hb hts bk1 tyX10 tyX10_ok nmX10 hown hK hP hD hS 0 (by decide) f_18 rfl 28 (by decide) (hts (.fieldLink RX10 278 "GradientDeskModel" "count" "I") (List.mem_of_getElem? (i := 7) rfl)) (fun _ h9 => h9) rfl (by decide +kernel) rfl rfl (Nat.le_of_ble_eq_true rfl) dX10_write_26 (fun H locs g_19 f_20 fr_21 hP hS => ?_)
    have f_20 : g_19 0 = .inr (13, Rob ad (va_up x2_4 9 (nI 0))) := f_20
    have loop_22 : ∀ (k9 : Nat) (ws : List Int) (em : List Int) (m9 : Nat) (n : Nat) (fA : Nat → Int) (fB : Nat → Int) (fC : Nat → Int) (xx : Nat → Int32) (g_24 : Nat → va_E) (fr_25 : ∀ k, (k ≠ 0 ∧ k ≠ 1 ∧ k ≠ 2 ∧ k ≠ 3 ∧ k ≠ 17 ∧ k ≠ 18 ∧ k ≠ 19) → g_24 k = g_19 k), 20 * (1000 - em.length) + rkz L (ws.headD (-1)) < k9 → (n = ws.length) → (SKI fC ws) → (xx 9 = nI em.length) → (∀ j, j ≠ 9 → xx j = x2_4 j) → (em ++ flL L ws = wrL L rt) → (fA = dwr f17 0 em) → (PB L (em.length + m9) ws) → (m9 ≤ 1) → (m9 = 1 → ws.headD (-1) < 0) → (n ≤ 800) → (em.length ≤ 600) → (g_24 0 = .inr (13, Rob ad xx)) → (g_24 17 = .inl (cA 17, 256, .inl (fun j => iI (fA j)))) → (g_24 18 = .inl (cA 18, 200, .inl (fun j => iI (fB j)))) → (g_24 19 = .inl (cA 19, 1200, .inl (fun j => iI (fC j)))) → (RF ad cA g_24 xx pf2 qf2) → ∀ (H : Heap) (locs : List Loc) (ls : Array Slot), va_P (dC, dI) vwCl (wo ad NSr g_24) H → va_S A s.heap H locs → lv_has ls 4 [(0, .ref (ad 0)), (1, .int (nI vn)), (2, .int (nI n))] → W p l e (headSpec wd_X10_write ({ frames := 50, cells := 0, slots := 0, locals := 1000 })).room s m ([.ref (ad 0), .int v] : List Value).toArray below meth c H locs (0) (0) (MQ below (va_Qi (fun (r : Int32) => fun (u : (Nat → va_E) × (Nat → Int32) × (List Int)) => match u with | (g2, x2, wr2) => RIE ad cA g2 x2 L nm tx ty wr2 ∧ x2 2 = x 2 ∧ WRR nm L wr v (x2 0) r wr2) (fun (u : (Nat → va_E) × (Nat → Int32) × (List Int)) (t : State) => va_P (dC, dI) vwCl (wo ad NSr u.1) t.heap) A) ([.ref (ad 0), .int v] : List Value).toArray s (0) (0) A) (F0 m 29 ls []) := by
      intro k9
      induction k9 with
      | zero => intro ws em m9 n fA fB fC xx g_24 fr_25 h9; exact absurd h9 (Nat.not_lt_zero _)
      | succ k9 ih_23 =>
        intro ws em m9 n fA fB fC xx g_24 fr_25 h9 hn hski hx9 hxo hT hdr hpb hm9 hm1 hnl hel f_26 f_27 f_28 f_29 hFL H locs ls hP hS hl
        refine lv_iload_n hx hb dX10_write_29 rfl (lv_at hl 2 rfl) ?_
        refine lv_if_le (tgt := 217) hx hb dX10_write_30 (by decide) (fun c_30 => ?_) (fun c_30 => ?_)
        · have c_30 := (nI_leI (a := n) (b := 0) (by omega) (by decide)).mp c_30
          have hTl : (wrL L rt).length = em.length + (flL L ws).length := by rw [← hT, List.length_append]
          have hwe : ws = [] := List.length_eq_zero_iff.mp (by omega)
          have hfe : (flL L ws).length = 0 := by rw [hwe]; rfl
          refine lv_aload_n hx hb dX10_write_217 rfl (lv_at hl 0 rfl) ?_
          refine m_get (D := (dC, dI)) (v := .int (nI em.length)) (C := RX10) (T := TX10) (N := 29) hx hb hts bk1 hown hK hP 0 (by decide) f_26 rfl 28 (by decide) (hts (.fieldLink RX10 278 "GradientDeskModel" "count" "I") (List.mem_of_getElem? (i := 7) rfl)) (fun _ h9 => h9) (congrArg (fun z => some (Value.int z)) hx9) dX10_write_218 ?_
          refine lv_sipush (v := nI 250) hx hb dX10_write_221 (by decide +kernel) ?_
          refine lv_icmp_le (tgt := 230) hx hb dX10_write_224 (by decide) (fun c_31 => ?_) (fun c_31 => ?_)
          · have c_31 := (nI_leI (a := em.length) (b := 250) (by omega) (by decide)).mp c_31
            refine lv_iconst (v := nI 0) hx hb dX10_write_230 (by decide +kernel) ?_
            refine lv_istore_n (lv' := [(3, .int (nI 0)), (0, .ref (ad 0)), (1, .int (nI vn)), (2, .int (nI n))]) hx hb dX10_write_231 rfl hl (by decide) rfl (fun ls hl => ?_)
            have loop_32 : ∀ (k9 : Nat) (i : Nat) (fo : Nat → Int) (g_34 : Nat → va_E) (fr_35 : ∀ k, (k ≠ 16) → g_34 k = g_24 k), 300 - i < k9 → (i ≤ em.length) → (∀ j, j < i → fo j = fA j) → (g_34 16 = .inl (cA 16, 256, .inl (fun j => iI (fo j)))) → ∀ (H : Heap) (locs : List Loc) (ls : Array Slot), va_P (dC, dI) vwCl (wo ad NSr g_34) H → va_S A s.heap H locs → lv_has ls 4 [(0, .ref (ad 0)), (1, .int (nI vn)), (3, .int (nI i))] → W p l e (headSpec wd_X10_write ({ frames := 50, cells := 0, slots := 0, locals := 1000 })).room s m ([.ref (ad 0), .int v] : List Value).toArray below meth c H locs (0) (0) (MQ below (va_Qi (fun (r : Int32) => fun (u : (Nat → va_E) × (Nat → Int32) × (List Int)) => match u with | (g2, x2, wr2) => RIE ad cA g2 x2 L nm tx ty wr2 ∧ x2 2 = x 2 ∧ WRR nm L wr v (x2 0) r wr2) (fun (u : (Nat → va_E) × (Nat → Int32) × (List Int)) (t : State) => va_P (dC, dI) vwCl (wo ad NSr u.1) t.heap) A) ([.ref (ad 0), .int v] : List Value).toArray s (0) (0) A) (F0 m 232 ls []) := by
              intro k9
              induction k9 with
              | zero => intro i fo g_34 fr_35 h9; exact absurd h9 (Nat.not_lt_zero _)
              | succ k9 ih_33 =>
                intro i fo g_34 fr_35 h9 hi hfo f_36 H locs ls hP hS hl
                refine lv_iload_n hx hb dX10_write_232 rfl (lv_at hl 2 rfl) ?_
                refine lv_aload_n hx hb dX10_write_233 rfl (lv_at hl 0 rfl) ?_
                have f_37 : g_34 0 = .inr (13, Rob ad xx) := (fr_35 0 (by omega)).trans f_26
                refine m_get (D := (dC, dI)) (v := .int (nI em.length)) (C := RX10) (T := TX10) (N := 29) hx hb hts bk1 hown hK hP 0 (by decide) f_37 rfl 28 (by decide) (hts (.fieldLink RX10 278 "GradientDeskModel" "count" "I") (List.mem_of_getElem? (i := 7) rfl)) (fun _ h9 => h9) (congrArg (fun z => some (Value.int z)) hx9) dX10_write_234 ?_
                refine lv_icmp_ge (tgt := 258) hx hb dX10_write_237 (by decide) (fun c_38 => ?_) (fun c_38 => ?_)
                · have c_38 := (nI_leI (a := em.length) (b := i) (by omega) (by omega)).mp c_38
                  refine lv_aload_n hx hb dX10_write_258 rfl (lv_at hl 0 rfl) ?_
                  refine lv_aload_n hx hb dX10_write_259 rfl (lv_at hl 0 rfl) ?_
                  refine m_get (D := (dC, dI)) (v := .int (nI em.length)) (C := RX10) (T := TX10) (N := 29) hx hb hts bk1 hown hK hP 0 (by decide) f_37 rfl 28 (by decide) (hts (.fieldLink RX10 278 "GradientDeskModel" "count" "I") (List.mem_of_getElem? (i := 7) rfl)) (fun _ h9 => h9) (congrArg (fun z => some (Value.int z)) hx9) dX10_write_260 ?_
                  refine m_put (D := (dC, dI)) (v := .int (nI em.length)) (tv := .int) (C := RX10) (T := TX10) (N := 29) hx hb hts bk1 tyX10 tyX10_ok nmX10 hown hK hP hD hS 0 (by decide) f_37 rfl 25 (by decide) (hts (.fieldLink RX10 293 "GradientDeskModel" "written" "I") (List.mem_of_getElem? (i := 8) rfl)) (fun _ h9 => h9) rfl (by decide +kernel) rfl rfl (Nat.le_of_ble_eq_true rfl) dX10_write_263 (fun H locs g_39 f_40 fr_41 hP hS => ?_)
                  have f_40 : g_39 0 = .inr (13, Rob ad (va_up xx 8 (nI em.length))) := f_40
                  refine lv_aload_n hx hb dX10_write_266 rfl (lv_at hl 0 rfl) ?_
                  refine m_get (D := (dC, dI)) (v := .int (nI em.length)) (C := RX10) (T := TX10) (N := 29) hx hb hts bk1 hown hK hP 0 (by decide) f_40 rfl 25 (by decide) (hts (.fieldLink RX10 293 "GradientDeskModel" "written" "I") (List.mem_of_getElem? (i := 8) rfl)) (fun _ h9 => h9) (congrArg (fun z => some (Value.int z)) (show (va_up xx 8 (nI em.length)) 8 = (nI em.length) from rfl)) dX10_write_267 ?_
                  have f_42 : g_39 16 = .inl (cA 16, 256, .inl (fun j => iI (fo j))) := (fr_41 16 (by omega)).trans f_36
                  have f_43 : g_39 17 = .inl (cA 17, 256, .inl (fun j => iI (fA j))) := (fr_41 17 (by omega)).trans ((fr_35 17 (by omega)).trans f_27)
                  have f_44 : g_39 18 = .inl (cA 18, 200, .inl (fun j => iI (fB j))) := (fr_41 18 (by omega)).trans ((fr_35 18 (by omega)).trans f_28)
                  have f_45 : g_39 19 = .inl (cA 19, 1200, .inl (fun j => iI (fC j))) := (fr_41 19 (by omega)).trans ((fr_35 19 (by omega)).trans f_29)
                  have hem9 : em = wrL L rt := by rw [← hT, hwe]; exact (List.append_nil em).symm
                  have hel9 : em.length = (wrL L rt).length := congrArg List.length hem9
                  have hou : OUT cA g_39 (wrL L rt) := ⟨_, f_42, fun k hk => by rw [hfo k (by omega), hdr, ((dwr_get em f17 0 k).2 (Nat.zero_le _) (by omega)), if_pos (by omega), Nat.sub_zero, hem9]⟩
                  refine W.widen (k := 0) (n := 0) (by omega) (by omega) ?_
                  exact W.iret (v := nI em.length) hx hb hr (fun t9 ht9 hW9 => ⟨⟨nI em.length, (g_39, va_up xx 8 (nI em.length), (wrL L rt)), rfl, ⟨RI.wr9 hI2 (hFL.setx (fun (k : Nat) (hk : k = 1 ∨ k = 2 ∨ k = 3) => (fr_41 k (by omega)).trans ((fr_35 k (by omega)).trans (rfl))) f_40 rfl) (fun (k : Nat) (hk : 4 ≤ k ∧ k ≤ 11) => (fr_41 k (by omega)).trans ((fr_35 k (by omega)).trans ((fr_25 k (by omega)).trans ((fr_21 k (by omega)).trans ((fr_17 k (by omega)).trans (rfl)))))) (VO.wr hVO20 f_42 f_43 f_44 f_45 (fun (k : Nat) (hk : 12 ≤ k ∧ k ≤ 15) => (fr_41 k (by omega)).trans ((fr_35 k (by omega)).trans ((fr_25 k (by omega)).trans ((fr_21 k (by omega)).trans ((fr_17 k (by omega)).trans (rfl))))))) ((va_up_ne _ _ (by decide)).trans (hxo 1 (by decide))) ((va_up_ne _ _ (by decide)).trans (hxo 3 (by decide))) ((va_up_self _ _ _).trans (congrArg nI hel9)) (by omega) hou, ((va_up_ne _ _ (by decide)).trans (hxo 2 (by decide))).trans hx22, Or.inr ⟨((va_up_ne _ _ (by decide)).trans (hxo 0 (by decide))).trans hx20, vn, rt, hvv, hvn, hrt, Or.inr ⟨by omega, congrArg nI (by omega), rfl⟩⟩⟩, by show va_P (dC, dI) vwCl _ t9.heap; rw [ht9]; exact hP⟩, hS.F ht9⟩) hS.2.2 dX10_write_270
                · have c_38 := mt (nI_leI (a := em.length) (b := i) (by omega) (by omega)).mpr c_38
                  refine lv_aload_n hx hb dX10_write_240 rfl (lv_at hl 0 rfl) ?_
                  refine m_get (D := (dC, dI)) (v := .ref (ad 16)) (C := RX10) (T := TX10) (N := 29) hx hb hts bk1 hown hK hP 0 (by decide) f_37 rfl 23 (by decide) (hts (.fieldLink RX10 62 "GradientDeskModel" "out" "[I") (List.mem_of_getElem? (i := 9) rfl)) (fun _ h9 => h9) rfl dX10_write_241 ?_
                  refine lv_iload_n hx hb dX10_write_244 rfl (lv_at hl 2 rfl) ?_
                  refine lv_aload_n hx hb dX10_write_245 rfl (lv_at hl 0 rfl) ?_
                  refine m_get (D := (dC, dI)) (v := .ref (ad 17)) (C := RX10) (T := TX10) (N := 29) hx hb hts bk1 hown hK hP 0 (by decide) f_37 rfl 24 (by decide) (hts (.fieldLink RX10 65 "GradientDeskModel" "draft" "[I") (List.mem_of_getElem? (i := 10) rfl)) (fun _ h9 => h9) rfl dX10_write_246 ?_
                  refine lv_iload_n hx hb dX10_write_249 rfl (lv_at hl 2 rfl) ?_
                  have f_46 : g_34 17 = .inl (cA 17, 256, .inl (fun j => iI (fA j))) := (fr_35 17 (by omega)).trans f_27
                  refine m_iald hx hb hK hP 17 (by decide) rfl f_46 (i := i) (by omega) (by decide) dX10_write_250 ?_
                  refine m_iast hx hb hK hP hD hS 16 (by decide) rfl f_36 (i := i) (x := iI (fA i)) (by omega) (by decide) dX10_write_251 (fun H locs g_47 f_48 fr_49 hP hS => ?_)
                  rw [k_updZ] at f_48
                  have f_48 : g_47 16 = .inl (cA 16, 256, .inl (fun j => iI ((va_up fo i (fA i)) j))) := f_48
                  refine lv_iinc (v := nI (i + 1)) (lv' := [(3, .int (nI (i + 1))), (0, .ref (ad 0)), (1, .int (nI vn))]) hx hb dX10_write_252 hl (k := 2) rfl (nI_add i 1) (by decide) rfl (fun ls hl => ?_)
                  refine lv_goto (tgt := 232) hx hb dX10_write_255 (by decide) ?_
                  exact ih_33 (i + 1) (va_up fo i (fA i)) g_47 (fun (k : Nat) (hk : k ≠ 16) => (fr_49 k (by omega)).trans ((fr_35 k (by omega)).trans (rfl))) (by omega) (by omega) (fun j hj => by by_cases h8 : j = i; rw [h8, va_up_self]; rw [va_up_ne _ _ h8]; exact hfo j (by omega)) f_48 _ _ _ hP hS (lv_sub (l' := [(0, .ref (ad 0)), (1, .int (nI vn)), (3, .int (nI (i + 1)))]) hl [1, 2, 0] rfl)
            have f_52 : g_24 16 = .inl (cA 16, 256, .inl (fun j => iI (f16 j))) := (fr_25 16 (by omega)).trans ((fr_21 16 (by omega)).trans ((fr_17 16 (by omega)).trans y16))
            exact loop_32 _ 0 f16 g_24 (fun (k : Nat) (hk : k ≠ 16) => rfl) (Nat.lt_succ_self _) (by omega) (fun j hj => absurd hj (by omega)) f_52 _ _ _ hP hS (lv_sub (l' := [(0, .ref (ad 0)), (1, .int (nI vn)), (3, .int (nI 0))]) hl [1, 2, 0] rfl)
          · have c_31 := mt (nI_leI (a := em.length) (b := 250) (by omega) (by decide)).mpr c_31
            refine lv_bipush (v := -3) hx hb dX10_write_227 (by decide +kernel) ?_
            have f_53 : g_24 16 = .inl (cA 16, 256, .inl (fun j => iI (f16 j))) := (fr_25 16 (by omega)).trans ((fr_21 16 (by omega)).trans ((fr_17 16 (by omega)).trans y16))
            refine W.widen (k := 0) (n := 0) (by omega) (by omega) ?_
            exact W.iret (v := -3) hx hb hr (fun t9 ht9 hW9 => ⟨⟨-3, (g_24, xx, wr), rfl, ⟨RI.wr9 hI2 (hFL.setx (fun (k : Nat) (hk : k = 1 ∨ k = 2 ∨ k = 3) => rfl) f_26 rfl) (fun (k : Nat) (hk : 4 ≤ k ∧ k ≤ 11) => (fr_25 k (by omega)).trans ((fr_21 k (by omega)).trans ((fr_17 k (by omega)).trans (rfl)))) (VO.wr hVO20 f_53 f_27 f_28 f_29 (fun (k : Nat) (hk : 12 ≤ k ∧ k ≤ 15) => (fr_25 k (by omega)).trans ((fr_21 k (by omega)).trans ((fr_17 k (by omega)).trans (rfl))))) (hxo 1 (by decide)) (hxo 3 (by decide)) ((hxo 8 (by decide)).trans hwr_2) hwr2_2.1 (hwr2_2.2.same ((fun (k : Nat) (hk : k = 16) => (fr_25 k (by omega)).trans ((fr_21 k (by omega)).trans ((fr_17 k (by omega)).trans (rfl)))) 16 rfl)), (hxo 2 (by decide)).trans hx22, Or.inr ⟨(hxo 0 (by decide)).trans hx20, vn, rt, hvv, hvn, hrt, Or.inl ⟨by omega, rfl, rfl⟩⟩⟩, by show va_P (dC, dI) vwCl _ t9.heap; rw [ht9]; exact hP⟩, hS.F ht9⟩) hS.2.2 dX10_write_229
        · have c_30 := mt (nI_leI (a := n) (b := 0) (by omega) (by decide)).mpr c_30
          refine lv_aload_n hx hb dX10_write_33 rfl (lv_at hl 0 rfl) ?_
          refine m_get (D := (dC, dI)) (v := .int (nI em.length)) (C := RX10) (T := TX10) (N := 29) hx hb hts bk1 hown hK hP 0 (by decide) f_26 rfl 28 (by decide) (hts (.fieldLink RX10 278 "GradientDeskModel" "count" "I") (List.mem_of_getElem? (i := 7) rfl)) (fun _ h9 => h9) (congrArg (fun z => some (Value.int z)) hx9) dX10_write_34 ?_
          refine lv_sipush (v := nI 250) hx hb dX10_write_37 (by decide +kernel) ?_
          refine lv_icmp_gt (tgt := 217) hx hb dX10_write_40 (by decide) (fun c_54 => ?_) (fun c_54 => ?_)
          · have c_54 := (nI_ltI (a := 250) (b := em.length) (by decide) (by omega)).mp c_54
            have hTl : (wrL L rt).length = em.length + (flL L ws).length := by rw [← hT, List.length_append]
            refine lv_aload_n hx hb dX10_write_217 rfl (lv_at hl 0 rfl) ?_
            refine m_get (D := (dC, dI)) (v := .int (nI em.length)) (C := RX10) (T := TX10) (N := 29) hx hb hts bk1 hown hK hP 0 (by decide) f_26 rfl 28 (by decide) (hts (.fieldLink RX10 278 "GradientDeskModel" "count" "I") (List.mem_of_getElem? (i := 7) rfl)) (fun _ h9 => h9) (congrArg (fun z => some (Value.int z)) hx9) dX10_write_218 ?_
            refine lv_sipush (v := nI 250) hx hb dX10_write_221 (by decide +kernel) ?_
            refine lv_icmp_le (tgt := 230) hx hb dX10_write_224 (by decide) (fun c_55 => absurd ((nI_leI (a := em.length) (b := 250) (by omega) (by decide)).mp c_55) (by omega)) (fun c_55 => ?_)
            refine lv_bipush (v := -3) hx hb dX10_write_227 (by decide +kernel) ?_
            have f_56 : g_24 16 = .inl (cA 16, 256, .inl (fun j => iI (f16 j))) := (fr_25 16 (by omega)).trans ((fr_21 16 (by omega)).trans ((fr_17 16 (by omega)).trans y16))
            refine W.widen (k := 0) (n := 0) (by omega) (by omega) ?_
            exact W.iret (v := -3) hx hb hr (fun t9 ht9 hW9 => ⟨⟨-3, (g_24, xx, wr), rfl, ⟨RI.wr9 hI2 (hFL.setx (fun (k : Nat) (hk : k = 1 ∨ k = 2 ∨ k = 3) => rfl) f_26 rfl) (fun (k : Nat) (hk : 4 ≤ k ∧ k ≤ 11) => (fr_25 k (by omega)).trans ((fr_21 k (by omega)).trans ((fr_17 k (by omega)).trans (rfl)))) (VO.wr hVO20 f_56 f_27 f_28 f_29 (fun (k : Nat) (hk : 12 ≤ k ∧ k ≤ 15) => (fr_25 k (by omega)).trans ((fr_21 k (by omega)).trans ((fr_17 k (by omega)).trans (rfl))))) (hxo 1 (by decide)) (hxo 3 (by decide)) ((hxo 8 (by decide)).trans hwr_2) hwr2_2.1 (hwr2_2.2.same ((fun (k : Nat) (hk : k = 16) => (fr_25 k (by omega)).trans ((fr_21 k (by omega)).trans ((fr_17 k (by omega)).trans (rfl)))) 16 rfl)), (hxo 2 (by decide)).trans hx22, Or.inr ⟨(hxo 0 (by decide)).trans hx20, vn, rt, hvv, hvn, hrt, Or.inl ⟨by omega, rfl, rfl⟩⟩⟩, by show va_P (dC, dI) vwCl _ t9.heap; rw [ht9]; exact hP⟩, hS.F ht9⟩) hS.2.2 dX10_write_229
          · have c_54 := mt (nI_ltI (a := 250) (b := em.length) (by decide) (by omega)).mpr c_54
            refine lv_iinc (v := nI (n - 1)) (lv' := [(2, .int (nI (n - 1))), (0, .ref (ad 0)), (1, .int (nI vn))]) hx hb dX10_write_43 hl (k := 2) rfl ((show nI n + Int32.ofInt (-1) = nI (n - 1) from by rw [show Int32.ofInt (-1) = -nI 1 from by decide, ← Int32.sub_eq_add_neg, pk_sub (by omega)])) (by decide) rfl (fun ls hl => ?_)
            refine lv_aload_n hx hb dX10_write_46 rfl (lv_at hl 1 rfl) ?_
            refine m_get (D := (dC, dI)) (v := .ref (ad 19)) (C := RX10) (T := TX10) (N := 29) hx hb hts bk1 hown hK hP 0 (by decide) f_26 rfl 27 (by decide) (hts (.fieldLink RX10 71 "GradientDeskModel" "waiting" "[I") (List.mem_of_getElem? (i := 5) rfl)) (fun _ h9 => h9) rfl dX10_write_47 ?_
            refine lv_iload_n hx hb dX10_write_50 rfl (lv_at hl 0 rfl) ?_
            refine m_iald hx hb hK hP 19 (by decide) rfl f_29 (i := n - 1) (by omega) (by decide) dX10_write_51 ?_
            obtain ⟨z9, q9, hws⟩ := lis_cons (q := ws) (by omega)
            have hl9 : ws.length = q9.length + 1 := by rw [hws]; rfl
            rw [hws] at hski hT hpb hm1 h9
            have hz9 : fC (n - 1) = z9 := by rw [show n - 1 = q9.length by omega]; exact hski.1
            have hsk9 : SKI fC q9 := hski.2
            obtain ⟨⟨hp1, hp2⟩, hp3⟩ := hpb
            have hT9 : em ++ (itL L z9 ++ flL L q9) = wrL L rt := hT
            have hm2 : m9 = 1 → z9 < 0 := hm1
            have h9 : 20 * (1000 - em.length) + rkz L z9 < k9 + 1 := h9
            have hzu : z9 < 1000 := by rcases Int.lt_or_le z9 0 with h8 | h8; omega; have := (hp1 h8).1; omega
            rw [hz9]
            have hrh := rkz_le (L := L) (z := q9.headD (-1))
            refine lv_istore_n (lv' := [(3, .int (iI z9)), (2, .int (nI (n - 1))), (0, .ref (ad 0)), (1, .int (nI vn))]) hx hb dX10_write_52 rfl hl (by decide) rfl (fun ls hl => ?_)
            refine lv_iload_n hx hb dX10_write_53 rfl (lv_at hl 0 rfl) ?_
            refine lv_if_ge (tgt := 67) hx hb dX10_write_54 (by decide) (fun c_59 => ?_) (fun c_59 => ?_)
            · have c_59 := (k_iLE (a := 0) (b := z9) (show nI 0 = iI 0 from by decide) rfl (by omega) (by omega)).mp c_59
              obtain ⟨k9n, hk9⟩ : ∃ z8 : Nat, z9 = (z8 : Int) := ⟨z9.toNat, by omega⟩
              obtain ⟨hp4, hp5⟩ := hp1 (by omega)
              rw [hk9] at hp5
              rw [Int.toNat_natCast] at hp5
              have hk8 : k9n < L.length := by omega
              rw [hk9, ← nI_iI] at hl
              obtain ⟨m0, m1, m2, -, -, -, -⟩ := hM2 k9n hk8
              obtain ⟨w1, w2, -, -, -, w6, -, -, w9, w10, w11⟩ := hW2 k9n hk8
              have hm0 : m9 = 0 := by rcases Nat.eq_zero_or_pos m9 with h8 | h8; exact h8; exact absurd (hm2 (by omega)) (by omega)
              rw [hk9, rkz_nat] at h9
              refine lv_aload_n hx hb dX10_write_67 rfl (lv_at hl 2 rfl) ?_
              refine m_get (D := (dC, dI)) (v := .ref (ad 5)) (C := RX10) (T := TX10) (N := 29) hx hb hts bk1 hown hK hP 0 (by decide) f_26 rfl 7 (by decide) (hts (.fieldLink RX10 29 "GradientDeskModel" "sort" "[I") (List.mem_of_getElem? (i := 11) rfl)) (fun _ h9 => h9) rfl dX10_write_68 ?_
              refine lv_iload_n hx hb dX10_write_71 rfl (lv_at hl 0 rfl) ?_
              have f_60 : g_24 5 = .inl (cA 5, 201, .inl (fun j => iI ((pt2 0) j))) := (fr_25 5 (by omega)).trans ((fr_21 5 (by omega)).trans ((fr_17 5 (by omega)).trans p_7))
              refine m_iald hx hb hK hP 5 (by decide) rfl f_60 (i := k9n) (by omega) (by decide) dX10_write_72 ?_
              have b_61 := (hpt_13 0) k9n
              refine lv_iconst (v := nI 2) hx hb dX10_write_73 (by decide +kernel) ?_
              refine lv_icmp_ge (tgt := 85) hx hb dX10_write_74 (by decide) (fun c_62 => ?_) (fun c_62 => ?_)
              · have c_62 := (k_iLE (a := 2) (b := (pt2 0) k9n) (show nI 2 = iI 2 from by decide) rfl (by omega) (by omega)).mp c_62
                refine lv_aload_n hx hb dX10_write_85 rfl (lv_at hl 2 rfl) ?_
                refine m_get (D := (dC, dI)) (v := .ref (ad 5)) (C := RX10) (T := TX10) (N := 29) hx hb hts bk1 hown hK hP 0 (by decide) f_26 rfl 7 (by decide) (hts (.fieldLink RX10 29 "GradientDeskModel" "sort" "[I") (List.mem_of_getElem? (i := 11) rfl)) (fun _ h9 => h9) rfl dX10_write_86 ?_
                refine lv_iload_n hx hb dX10_write_89 rfl (lv_at hl 0 rfl) ?_
                refine m_iald hx hb hK hP 5 (by decide) rfl f_60 (i := k9n) (by omega) (by decide) dX10_write_90 ?_
                have b_63 := (hpt_13 0) k9n
                refine lv_iconst (v := nI 4) hx hb dX10_write_91 (by decide +kernel) ?_
                refine lv_icmp_ne (tgt := 140) hx hb dX10_write_92 (by decide) (fun c_64 => ?_) (fun c_64 => ?_)
                · have c_64 := mt (k_iEQ (a := (pt2 0) k9n) (b := 4) rfl (show nI 4 = iI 4 from by decide) (by omega) (by omega)).mpr c_64
                  obtain ⟨a9, ha9, ea9⟩ := hW2.op1 (k := k9n) hk8 (by omega)
                  obtain ⟨b9, hb9, eb9⟩ := hW2.op2 (k := k9n) hk8 (by omega)
                  have pa : pt2 1 k9n = ((a9 : Nat) : Int) := m1.trans ea9
                  have pe : pt2 2 k9n = ((b9 : Nat) : Int) := m2.trans eb9
                  have hda : (gd L a9).2.2.2.1 ≤ (gd L k9n).2.2.2.1 ∧ (gd L b9).2.2.2.1 ≤ (gd L k9n).2.2.2.1 := deg_op hW2 hk8 (by omega) ea9 eb9
                  have hg1 := lgd_le hda.1
                  have hg2 := lgd_le hda.2
                  refine lv_aload_n hx hb dX10_write_140 rfl (lv_at hl 2 rfl) ?_
                  refine m_get (D := (dC, dI)) (v := .ref (ad 19)) (C := RX10) (T := TX10) (N := 29) hx hb hts bk1 hown hK hP 0 (by decide) f_26 rfl 27 (by decide) (hts (.fieldLink RX10 71 "GradientDeskModel" "waiting" "[I") (List.mem_of_getElem? (i := 5) rfl)) (fun _ h9 => h9) rfl dX10_write_141 ?_
                  refine lv_iload_n hx hb dX10_write_144 rfl (lv_at hl 1 rfl) ?_
                  refine lv_bipush (v := -42) hx hb dX10_write_145 (by decide +kernel) ?_
                  refine m_iast hx hb hK hP hD hS 19 (by decide) rfl f_29 (i := n - 1) (x := -42) (by omega) (by decide) dX10_write_147 (fun H locs g_65 f_66 fr_67 hP hS => ?_)
                  rw [(show (-42 : Int32) = iI (-42) from by decide), k_updZ] at f_66
                  have f_66 : g_65 19 = .inl (cA 19, 1200, .inl (fun j => iI ((va_up fC (n - 1) (-42)) j))) := f_66
                  refine lv_aload_n hx hb dX10_write_148 rfl (lv_at hl 2 rfl) ?_
                  have f_68 : g_65 0 = .inr (13, Rob ad xx) := (fr_67 0 (by omega)).trans f_26
                  refine m_get (D := (dC, dI)) (v := .ref (ad 19)) (C := RX10) (T := TX10) (N := 29) hx hb hts bk1 hown hK hP 0 (by decide) f_68 rfl 27 (by decide) (hts (.fieldLink RX10 71 "GradientDeskModel" "waiting" "[I") (List.mem_of_getElem? (i := 5) rfl)) (fun _ h9 => h9) rfl dX10_write_149 ?_
                  refine lv_iload_n hx hb dX10_write_152 rfl (lv_at hl 1 rfl) ?_
                  refine lv_iconst (v := nI 1) hx hb dX10_write_153 (by decide +kernel) ?_
                  refine lv_iadd hx hb dX10_write_154 ?_
                  refine lv_topi (fun x_69 e_70 => ?_)
                  obtain rfl : x_69 = nI (n - 1 + 1) := e_70.trans (nI_add (n - 1) 1)
                  refine lv_aload_n hx hb dX10_write_155 rfl (lv_at hl 2 rfl) ?_
                  refine m_get (D := (dC, dI)) (v := .ref (ad 7)) (C := RX10) (T := TX10) (N := 29) hx hb hts bk1 hown hK hP 0 (by decide) f_68 rfl 9 (by decide) (hts (.fieldLink RX10 35 "GradientDeskModel" "second" "[I") (List.mem_of_getElem? (i := 12) rfl)) (fun _ h9 => h9) rfl dX10_write_156 ?_
                  refine lv_iload_n hx hb dX10_write_159 rfl (lv_at hl 0 rfl) ?_
                  have f_71 : g_65 7 = .inl (cA 7, 201, .inl (fun j => iI ((pt2 2) j))) := (fr_67 7 (by omega)).trans ((fr_25 7 (by omega)).trans ((fr_21 7 (by omega)).trans ((fr_17 7 (by omega)).trans p_9)))
                  refine m_iald hx hb hK hP 7 (by decide) rfl f_71 (i := k9n) (by omega) (by decide) dX10_write_160 ?_
                  have b_72 := (hpt_13 2) k9n
                  refine m_iast hx hb hK hP hD hS 19 (by decide) rfl f_66 (i := n - 1 + 1) (x := iI ((pt2 2) k9n)) (by omega) (by decide) dX10_write_161 (fun H locs g_73 f_74 fr_75 hP hS => ?_)
                  rw [k_updZ] at f_74
                  have f_74 : g_73 19 = .inl (cA 19, 1200, .inl (fun j => iI ((va_up (va_up fC (n - 1) (-42)) (n - 1 + 1) ((pt2 2) k9n)) j))) := f_74
                  refine lv_aload_n hx hb dX10_write_162 rfl (lv_at hl 2 rfl) ?_
                  have f_76 : g_73 0 = .inr (13, Rob ad xx) := (fr_75 0 (by omega)).trans f_68
                  refine m_get (D := (dC, dI)) (v := .ref (ad 19)) (C := RX10) (T := TX10) (N := 29) hx hb hts bk1 hown hK hP 0 (by decide) f_76 rfl 27 (by decide) (hts (.fieldLink RX10 71 "GradientDeskModel" "waiting" "[I") (List.mem_of_getElem? (i := 5) rfl)) (fun _ h9 => h9) rfl dX10_write_163 ?_
                  refine lv_iload_n hx hb dX10_write_166 rfl (lv_at hl 1 rfl) ?_
                  refine lv_iconst (v := nI 2) hx hb dX10_write_167 (by decide +kernel) ?_
                  refine lv_iadd hx hb dX10_write_168 ?_
                  refine lv_topi (fun x_77 e_78 => ?_)
                  obtain rfl : x_77 = nI (n - 1 + 2) := e_78.trans (nI_add (n - 1) 2)
                  refine lv_aload_n hx hb dX10_write_169 rfl (lv_at hl 2 rfl) ?_
                  refine m_get (D := (dC, dI)) (v := .ref (ad 5)) (C := RX10) (T := TX10) (N := 29) hx hb hts bk1 hown hK hP 0 (by decide) f_76 rfl 7 (by decide) (hts (.fieldLink RX10 29 "GradientDeskModel" "sort" "[I") (List.mem_of_getElem? (i := 11) rfl)) (fun _ h9 => h9) rfl dX10_write_170 ?_
                  refine lv_iload_n hx hb dX10_write_173 rfl (lv_at hl 0 rfl) ?_
                  have f_79 : g_73 5 = .inl (cA 5, 201, .inl (fun j => iI ((pt2 0) j))) := (fr_75 5 (by omega)).trans ((fr_67 5 (by omega)).trans f_60)
                  refine m_iald hx hb hK hP 5 (by decide) rfl f_79 (i := k9n) (by omega) (by decide) dX10_write_174 ?_
                  have b_80 := (hpt_13 0) k9n
                  refine lv_iconst (v := nI 2) hx hb dX10_write_175 (by decide +kernel) ?_
                  refine lv_icmp_ne (tgt := 184) hx hb dX10_write_176 (by decide) (fun c_81 => ?_) (fun c_81 => ?_)
                  · have c_81 := mt (k_iEQ (a := (pt2 0) k9n) (b := 2) rfl (show nI 2 = iI 2 from by decide) (by omega) (by omega)).mpr c_81
                    refine lv_bipush (v := -43) hx hb dX10_write_184 (by decide +kernel) ?_
                    refine m_iast hx hb hK hP hD hS 19 (by decide) rfl f_74 (i := n - 1 + 2) (x := -43) (by omega) (by decide) dX10_write_186 (fun H locs g_82 f_83 fr_84 hP hS => ?_)
                    rw [(show (-43 : Int32) = iI (-43) from by decide), k_updZ] at f_83
                    have f_83 : g_82 19 = .inl (cA 19, 1200, .inl (fun j => iI ((va_up (va_up (va_up fC (n - 1) (-42)) (n - 1 + 1) ((pt2 2) k9n)) (n - 1 + 2) (-43)) j))) := f_83
                    refine lv_aload_n hx hb dX10_write_187 rfl (lv_at hl 2 rfl) ?_
                    have f_85 : g_82 0 = .inr (13, Rob ad xx) := (fr_84 0 (by omega)).trans f_76
                    refine m_get (D := (dC, dI)) (v := .ref (ad 19)) (C := RX10) (T := TX10) (N := 29) hx hb hts bk1 hown hK hP 0 (by decide) f_85 rfl 27 (by decide) (hts (.fieldLink RX10 71 "GradientDeskModel" "waiting" "[I") (List.mem_of_getElem? (i := 5) rfl)) (fun _ h9 => h9) rfl dX10_write_188 ?_
                    refine lv_iload_n hx hb dX10_write_191 rfl (lv_at hl 1 rfl) ?_
                    refine lv_iconst (v := nI 3) hx hb dX10_write_192 (by decide +kernel) ?_
                    refine lv_iadd hx hb dX10_write_193 ?_
                    refine lv_topi (fun x_86 e_87 => ?_)
                    obtain rfl : x_86 = nI (n - 1 + 3) := e_87.trans (nI_add (n - 1) 3)
                    refine lv_aload_n hx hb dX10_write_194 rfl (lv_at hl 2 rfl) ?_
                    refine m_get (D := (dC, dI)) (v := .ref (ad 6)) (C := RX10) (T := TX10) (N := 29) hx hb hts bk1 hown hK hP 0 (by decide) f_85 rfl 8 (by decide) (hts (.fieldLink RX10 32 "GradientDeskModel" "first" "[I") (List.mem_of_getElem? (i := 13) rfl)) (fun _ h9 => h9) rfl dX10_write_195 ?_
                    refine lv_iload_n hx hb dX10_write_198 rfl (lv_at hl 0 rfl) ?_
                    have f_88 : g_82 6 = .inl (cA 6, 201, .inl (fun j => iI ((pt2 1) j))) := (fr_84 6 (by omega)).trans ((fr_75 6 (by omega)).trans ((fr_67 6 (by omega)).trans ((fr_25 6 (by omega)).trans ((fr_21 6 (by omega)).trans ((fr_17 6 (by omega)).trans p_8)))))
                    refine m_iald hx hb hK hP 6 (by decide) rfl f_88 (i := k9n) (by omega) (by decide) dX10_write_199 ?_
                    have b_89 := (hpt_13 1) k9n
                    refine m_iast hx hb hK hP hD hS 19 (by decide) rfl f_83 (i := n - 1 + 3) (x := iI ((pt2 1) k9n)) (by omega) (by decide) dX10_write_200 (fun H locs g_90 f_91 fr_92 hP hS => ?_)
                    rw [k_updZ] at f_91
                    have f_91 : g_90 19 = .inl (cA 19, 1200, .inl (fun j => iI ((va_up (va_up (va_up (va_up fC (n - 1) (-42)) (n - 1 + 1) ((pt2 2) k9n)) (n - 1 + 2) (-43)) (n - 1 + 3) ((pt2 1) k9n)) j))) := f_91
                    refine lv_aload_n hx hb dX10_write_201 rfl (lv_at hl 2 rfl) ?_
                    have f_93 : g_90 0 = .inr (13, Rob ad xx) := (fr_92 0 (by omega)).trans f_85
                    refine m_get (D := (dC, dI)) (v := .ref (ad 19)) (C := RX10) (T := TX10) (N := 29) hx hb hts bk1 hown hK hP 0 (by decide) f_93 rfl 27 (by decide) (hts (.fieldLink RX10 71 "GradientDeskModel" "waiting" "[I") (List.mem_of_getElem? (i := 5) rfl)) (fun _ h9 => h9) rfl dX10_write_202 ?_
                    refine lv_iload_n hx hb dX10_write_205 rfl (lv_at hl 1 rfl) ?_
                    refine lv_iconst (v := nI 4) hx hb dX10_write_206 (by decide +kernel) ?_
                    refine lv_iadd hx hb dX10_write_207 ?_
                    refine lv_topi (fun x_94 e_95 => ?_)
                    obtain rfl : x_94 = nI (n - 1 + 4) := e_95.trans (nI_add (n - 1) 4)
                    refine lv_bipush (v := -41) hx hb dX10_write_208 (by decide +kernel) ?_
                    refine m_iast hx hb hK hP hD hS 19 (by decide) rfl f_91 (i := n - 1 + 4) (x := -41) (by omega) (by decide) dX10_write_210 (fun H locs g_96 f_97 fr_98 hP hS => ?_)
                    rw [(show (-41 : Int32) = iI (-41) from by decide), k_updZ] at f_97
                    have f_97 : g_96 19 = .inl (cA 19, 1200, .inl (fun j => iI ((va_up (va_up (va_up (va_up (va_up fC (n - 1) (-42)) (n - 1 + 1) ((pt2 2) k9n)) (n - 1 + 2) (-43)) (n - 1 + 3) ((pt2 1) k9n)) (n - 1 + 4) (-41)) j))) := f_97
                    refine lv_iinc (v := nI (n - 1 + 5)) (lv' := [(2, .int (nI (n - 1 + 5))), (3, .int (nI k9n)), (0, .ref (ad 0)), (1, .int (nI vn))]) hx hb dX10_write_211 hl (k := 1) rfl (nI_add (n - 1) 5) (by decide) rfl (fun ls hl => ?_)
                    have f_101 : g_96 0 = .inr (13, Rob ad xx) := (fr_98 0 (by omega)).trans f_93
                    refine lv_goto (tgt := 29) hx hb dX10_write_214 (by decide) ?_
                    have f_102 : g_96 17 = .inl (cA 17, 256, .inl (fun j => iI (fA j))) := (fr_98 17 (by omega)).trans ((fr_92 17 (by omega)).trans ((fr_84 17 (by omega)).trans ((fr_75 17 (by omega)).trans ((fr_67 17 (by omega)).trans f_27))))
                    have f_103 : g_96 18 = .inl (cA 18, 200, .inl (fun j => iI (fB j))) := (fr_98 18 (by omega)).trans ((fr_92 18 (by omega)).trans ((fr_84 18 (by omega)).trans ((fr_75 18 (by omega)).trans ((fr_67 18 (by omega)).trans f_28))))
                    exact ih_23 ((-41) :: ((a9 : Nat) : Int) :: (-43) :: ((b9 : Nat) : Int) :: (-42) :: q9) em 1 (n - 1 + 5) fA fB (va_up (va_up (va_up (va_up (va_up fC (n - 1) (-42)) (n - 1 + 1) ((pt2 2) k9n)) (n - 1 + 2) (-43)) (n - 1 + 3) ((pt2 1) k9n)) (n - 1 + 4) (-41)) xx g_96 (fun (k : Nat) (hk : k ≠ 0 ∧ k ≠ 1 ∧ k ≠ 2 ∧ k ≠ 3 ∧ k ≠ 17 ∧ k ≠ 18 ∧ k ≠ 19) => (fr_98 k (by omega)).trans ((fr_92 k (by omega)).trans ((fr_84 k (by omega)).trans ((fr_75 k (by omega)).trans ((fr_67 k (by omega)).trans ((fr_25 k (by omega)).trans (rfl))))))) (by show 20 * (1000 - em.length) + rkz L (-41) < k9; rw [rkz_neg (by decide)]; omega) (by show n - 1 + 5 = q9.length + 1 + 1 + 1 + 1 + 1; omega) (((((hsk9.push (by omega) rfl).push (show n - 1 + 1 = q9.length + 1 by omega) pe).push (show n - 1 + 2 = q9.length + 1 + 1 by omega) rfl).push (show n - 1 + 3 = q9.length + 1 + 1 + 1 by omega) pa).push (show n - 1 + 4 = q9.length + 1 + 1 + 1 + 1 by omega) rfl) hx9 hxo (by rw [← hT, hk9, fl_b (op := -43) hW2 hk8 (by omega) ha9 hb9 ea9 eb9 (by rw [if_neg (by omega)])]) hdr (⟨⟨fun h8 => absurd h8 (by decide), by decide⟩, ⟨fun _ => ⟨by omega, by rw [Int.toNat_natCast]; show q9.length + 1 + 1 + 1 + 1 + _ ≤ _; omega⟩, by omega⟩, ⟨fun h8 => absurd h8 (by decide), by decide⟩, ⟨fun _ => ⟨by omega, by rw [Int.toNat_natCast]; show q9.length + 1 + 1 + _ ≤ _; omega⟩, by omega⟩, ⟨fun h8 => absurd h8 (by decide), by decide⟩, hp3.mono (by omega)⟩) (by decide) (fun _ => (by decide : (-41 : Int) < 0)) (by omega) hel f_101 f_102 f_103 f_97 (hFL.setx (fun (k : Nat) (hk : k = 1 ∨ k = 2 ∨ k = 3) => (fr_98 k (by omega)).trans ((fr_92 k (by omega)).trans ((fr_84 k (by omega)).trans ((fr_75 k (by omega)).trans ((fr_67 k (by omega)).trans (rfl)))))) f_101 rfl) _ _ _ hP hS (lv_sub (l' := [(0, .ref (ad 0)), (1, .int (nI vn)), (2, .int (nI (n - 1 + 5)))]) hl [2, 3, 0] rfl)
                  · have c_81 := (k_iEQ (a := (pt2 0) k9n) (b := 2) rfl (show nI 2 = iI 2 from by decide) (by omega) (by omega)).mp c_81
                    refine lv_bipush (v := -44) hx hb dX10_write_179 (by decide +kernel) ?_
                    refine lv_goto (tgt := 186) hx hb dX10_write_181 (by decide) ?_
                    refine m_iast hx hb hK hP hD hS 19 (by decide) rfl f_74 (i := n - 1 + 2) (x := -44) (by omega) (by decide) dX10_write_186 (fun H locs g_104 f_105 fr_106 hP hS => ?_)
                    rw [(show (-44 : Int32) = iI (-44) from by decide), k_updZ] at f_105
                    have f_105 : g_104 19 = .inl (cA 19, 1200, .inl (fun j => iI ((va_up (va_up (va_up fC (n - 1) (-42)) (n - 1 + 1) ((pt2 2) k9n)) (n - 1 + 2) (-44)) j))) := f_105
                    refine lv_aload_n hx hb dX10_write_187 rfl (lv_at hl 2 rfl) ?_
                    have f_107 : g_104 0 = .inr (13, Rob ad xx) := (fr_106 0 (by omega)).trans f_76
                    refine m_get (D := (dC, dI)) (v := .ref (ad 19)) (C := RX10) (T := TX10) (N := 29) hx hb hts bk1 hown hK hP 0 (by decide) f_107 rfl 27 (by decide) (hts (.fieldLink RX10 71 "GradientDeskModel" "waiting" "[I") (List.mem_of_getElem? (i := 5) rfl)) (fun _ h9 => h9) rfl dX10_write_188 ?_
                    refine lv_iload_n hx hb dX10_write_191 rfl (lv_at hl 1 rfl) ?_
                    refine lv_iconst (v := nI 3) hx hb dX10_write_192 (by decide +kernel) ?_
                    refine lv_iadd hx hb dX10_write_193 ?_
                    refine lv_topi (fun x_108 e_109 => ?_)
                    obtain rfl : x_108 = nI (n - 1 + 3) := e_109.trans (nI_add (n - 1) 3)
                    refine lv_aload_n hx hb dX10_write_194 rfl (lv_at hl 2 rfl) ?_
                    refine m_get (D := (dC, dI)) (v := .ref (ad 6)) (C := RX10) (T := TX10) (N := 29) hx hb hts bk1 hown hK hP 0 (by decide) f_107 rfl 8 (by decide) (hts (.fieldLink RX10 32 "GradientDeskModel" "first" "[I") (List.mem_of_getElem? (i := 13) rfl)) (fun _ h9 => h9) rfl dX10_write_195 ?_
                    refine lv_iload_n hx hb dX10_write_198 rfl (lv_at hl 0 rfl) ?_
                    have f_110 : g_104 6 = .inl (cA 6, 201, .inl (fun j => iI ((pt2 1) j))) := (fr_106 6 (by omega)).trans ((fr_75 6 (by omega)).trans ((fr_67 6 (by omega)).trans ((fr_25 6 (by omega)).trans ((fr_21 6 (by omega)).trans ((fr_17 6 (by omega)).trans p_8)))))
                    refine m_iald hx hb hK hP 6 (by decide) rfl f_110 (i := k9n) (by omega) (by decide) dX10_write_199 ?_
                    have b_111 := (hpt_13 1) k9n
                    refine m_iast hx hb hK hP hD hS 19 (by decide) rfl f_105 (i := n - 1 + 3) (x := iI ((pt2 1) k9n)) (by omega) (by decide) dX10_write_200 (fun H locs g_112 f_113 fr_114 hP hS => ?_)
                    rw [k_updZ] at f_113
                    have f_113 : g_112 19 = .inl (cA 19, 1200, .inl (fun j => iI ((va_up (va_up (va_up (va_up fC (n - 1) (-42)) (n - 1 + 1) ((pt2 2) k9n)) (n - 1 + 2) (-44)) (n - 1 + 3) ((pt2 1) k9n)) j))) := f_113
                    refine lv_aload_n hx hb dX10_write_201 rfl (lv_at hl 2 rfl) ?_
                    have f_115 : g_112 0 = .inr (13, Rob ad xx) := (fr_114 0 (by omega)).trans f_107
                    refine m_get (D := (dC, dI)) (v := .ref (ad 19)) (C := RX10) (T := TX10) (N := 29) hx hb hts bk1 hown hK hP 0 (by decide) f_115 rfl 27 (by decide) (hts (.fieldLink RX10 71 "GradientDeskModel" "waiting" "[I") (List.mem_of_getElem? (i := 5) rfl)) (fun _ h9 => h9) rfl dX10_write_202 ?_
                    refine lv_iload_n hx hb dX10_write_205 rfl (lv_at hl 1 rfl) ?_
                    refine lv_iconst (v := nI 4) hx hb dX10_write_206 (by decide +kernel) ?_
                    refine lv_iadd hx hb dX10_write_207 ?_
                    refine lv_topi (fun x_116 e_117 => ?_)
                    obtain rfl : x_116 = nI (n - 1 + 4) := e_117.trans (nI_add (n - 1) 4)
                    refine lv_bipush (v := -41) hx hb dX10_write_208 (by decide +kernel) ?_
                    refine m_iast hx hb hK hP hD hS 19 (by decide) rfl f_113 (i := n - 1 + 4) (x := -41) (by omega) (by decide) dX10_write_210 (fun H locs g_118 f_119 fr_120 hP hS => ?_)
                    rw [(show (-41 : Int32) = iI (-41) from by decide), k_updZ] at f_119
                    have f_119 : g_118 19 = .inl (cA 19, 1200, .inl (fun j => iI ((va_up (va_up (va_up (va_up (va_up fC (n - 1) (-42)) (n - 1 + 1) ((pt2 2) k9n)) (n - 1 + 2) (-44)) (n - 1 + 3) ((pt2 1) k9n)) (n - 1 + 4) (-41)) j))) := f_119
                    refine lv_iinc (v := nI (n - 1 + 5)) (lv' := [(2, .int (nI (n - 1 + 5))), (3, .int (nI k9n)), (0, .ref (ad 0)), (1, .int (nI vn))]) hx hb dX10_write_211 hl (k := 1) rfl (nI_add (n - 1) 5) (by decide) rfl (fun ls hl => ?_)
                    have f_123 : g_118 0 = .inr (13, Rob ad xx) := (fr_120 0 (by omega)).trans f_115
                    refine lv_goto (tgt := 29) hx hb dX10_write_214 (by decide) ?_
                    have f_124 : g_118 17 = .inl (cA 17, 256, .inl (fun j => iI (fA j))) := (fr_120 17 (by omega)).trans ((fr_114 17 (by omega)).trans ((fr_106 17 (by omega)).trans ((fr_75 17 (by omega)).trans ((fr_67 17 (by omega)).trans f_27))))
                    have f_125 : g_118 18 = .inl (cA 18, 200, .inl (fun j => iI (fB j))) := (fr_120 18 (by omega)).trans ((fr_114 18 (by omega)).trans ((fr_106 18 (by omega)).trans ((fr_75 18 (by omega)).trans ((fr_67 18 (by omega)).trans f_28))))
                    exact ih_23 ((-41) :: ((a9 : Nat) : Int) :: (-44) :: ((b9 : Nat) : Int) :: (-42) :: q9) em 1 (n - 1 + 5) fA fB (va_up (va_up (va_up (va_up (va_up fC (n - 1) (-42)) (n - 1 + 1) ((pt2 2) k9n)) (n - 1 + 2) (-44)) (n - 1 + 3) ((pt2 1) k9n)) (n - 1 + 4) (-41)) xx g_118 (fun (k : Nat) (hk : k ≠ 0 ∧ k ≠ 1 ∧ k ≠ 2 ∧ k ≠ 3 ∧ k ≠ 17 ∧ k ≠ 18 ∧ k ≠ 19) => (fr_120 k (by omega)).trans ((fr_114 k (by omega)).trans ((fr_106 k (by omega)).trans ((fr_75 k (by omega)).trans ((fr_67 k (by omega)).trans ((fr_25 k (by omega)).trans (rfl))))))) (by show 20 * (1000 - em.length) + rkz L (-41) < k9; rw [rkz_neg (by decide)]; omega) (by show n - 1 + 5 = q9.length + 1 + 1 + 1 + 1 + 1; omega) (((((hsk9.push (by omega) rfl).push (show n - 1 + 1 = q9.length + 1 by omega) pe).push (show n - 1 + 2 = q9.length + 1 + 1 by omega) rfl).push (show n - 1 + 3 = q9.length + 1 + 1 + 1 by omega) pa).push (show n - 1 + 4 = q9.length + 1 + 1 + 1 + 1 by omega) rfl) hx9 hxo (by rw [← hT, hk9, fl_b (op := -44) hW2 hk8 (by omega) ha9 hb9 ea9 eb9 (by rw [if_pos (by omega)])]) hdr (⟨⟨fun h8 => absurd h8 (by decide), by decide⟩, ⟨fun _ => ⟨by omega, by rw [Int.toNat_natCast]; show q9.length + 1 + 1 + 1 + 1 + _ ≤ _; omega⟩, by omega⟩, ⟨fun h8 => absurd h8 (by decide), by decide⟩, ⟨fun _ => ⟨by omega, by rw [Int.toNat_natCast]; show q9.length + 1 + 1 + _ ≤ _; omega⟩, by omega⟩, ⟨fun h8 => absurd h8 (by decide), by decide⟩, hp3.mono (by omega)⟩) (by decide) (fun _ => (by decide : (-41 : Int) < 0)) (by omega) hel f_123 f_124 f_125 f_119 (hFL.setx (fun (k : Nat) (hk : k = 1 ∨ k = 2 ∨ k = 3) => (fr_120 k (by omega)).trans ((fr_114 k (by omega)).trans ((fr_106 k (by omega)).trans ((fr_75 k (by omega)).trans ((fr_67 k (by omega)).trans (rfl)))))) f_123 rfl) _ _ _ hP hS (lv_sub (l' := [(0, .ref (ad 0)), (1, .int (nI vn)), (2, .int (nI (n - 1 + 5)))]) hl [2, 3, 0] rfl)
                · have c_64 := (k_iEQ (a := (pt2 0) k9n) (b := 4) rfl (show nI 4 = iI 4 from by decide) (by omega) (by omega)).mp c_64
                  obtain ⟨a9, e9, ha9, he2, he9, ea9, ee9, hna9, ed9, -, -⟩ := w11 (by omega)
                  have pa : pt2 1 k9n = ((a9 : Nat) : Int) := m1.trans ea9
                  have pe : pt2 2 k9n = ((e9 : Nat) : Int) := m2.trans ee9
                  have wa := (hW2 a9 (by omega)).2.2.2.2.2.1
                  refine lv_aload_n hx hb dX10_write_95 rfl (lv_at hl 2 rfl) ?_
                  refine m_get (D := (dC, dI)) (v := .ref (ad 19)) (C := RX10) (T := TX10) (N := 29) hx hb hts bk1 hown hK hP 0 (by decide) f_26 rfl 27 (by decide) (hts (.fieldLink RX10 71 "GradientDeskModel" "waiting" "[I") (List.mem_of_getElem? (i := 5) rfl)) (fun _ h9 => h9) rfl dX10_write_96 ?_
                  refine lv_iload_n hx hb dX10_write_99 rfl (lv_at hl 1 rfl) ?_
                  refine lv_bipush (v := -49) hx hb dX10_write_100 (by decide +kernel) ?_
                  refine lv_aload_n hx hb dX10_write_102 rfl (lv_at hl 2 rfl) ?_
                  refine m_get (D := (dC, dI)) (v := .ref (ad 7)) (C := RX10) (T := TX10) (N := 29) hx hb hts bk1 hown hK hP 0 (by decide) f_26 rfl 9 (by decide) (hts (.fieldLink RX10 35 "GradientDeskModel" "second" "[I") (List.mem_of_getElem? (i := 12) rfl)) (fun _ h9 => h9) rfl dX10_write_103 ?_
                  refine lv_iload_n hx hb dX10_write_106 rfl (lv_at hl 0 rfl) ?_
                  have f_126 : g_24 7 = .inl (cA 7, 201, .inl (fun j => iI ((pt2 2) j))) := (fr_25 7 (by omega)).trans ((fr_21 7 (by omega)).trans ((fr_17 7 (by omega)).trans p_9))
                  refine m_iald hx hb hK hP 7 (by decide) rfl f_126 (i := k9n) (by omega) (by decide) dX10_write_107 ?_
                  have b_127 := (hpt_13 2) k9n
                  refine lv_isub hx hb dX10_write_108 ?_
                  refine lv_topi (fun x_128 e_129 => ?_)
                  obtain rfl : x_128 = iI ((-49) - ((pt2 2) k9n)) := e_129.trans (iI_subP (show (-49 : Int32) = iI (-49) from by decide) rfl)
                  refine m_iast hx hb hK hP hD hS 19 (by decide) rfl f_29 (i := n - 1) (x := iI ((-49) - ((pt2 2) k9n))) (by omega) (by decide) dX10_write_109 (fun H locs g_130 f_131 fr_132 hP hS => ?_)
                  rw [k_updZ] at f_131
                  have f_131 : g_130 19 = .inl (cA 19, 1200, .inl (fun j => iI ((va_up fC (n - 1) ((-49) - ((pt2 2) k9n))) j))) := f_131
                  refine lv_aload_n hx hb dX10_write_110 rfl (lv_at hl 2 rfl) ?_
                  have f_133 : g_130 0 = .inr (13, Rob ad xx) := (fr_132 0 (by omega)).trans f_26
                  refine m_get (D := (dC, dI)) (v := .ref (ad 19)) (C := RX10) (T := TX10) (N := 29) hx hb hts bk1 hown hK hP 0 (by decide) f_133 rfl 27 (by decide) (hts (.fieldLink RX10 71 "GradientDeskModel" "waiting" "[I") (List.mem_of_getElem? (i := 5) rfl)) (fun _ h9 => h9) rfl dX10_write_111 ?_
                  refine lv_iload_n hx hb dX10_write_114 rfl (lv_at hl 1 rfl) ?_
                  refine lv_iconst (v := nI 1) hx hb dX10_write_115 (by decide +kernel) ?_
                  refine lv_iadd hx hb dX10_write_116 ?_
                  refine lv_topi (fun x_134 e_135 => ?_)
                  obtain rfl : x_134 = nI (n - 1 + 1) := e_135.trans (nI_add (n - 1) 1)
                  refine lv_bipush (v := -95) hx hb dX10_write_117 (by decide +kernel) ?_
                  refine m_iast hx hb hK hP hD hS 19 (by decide) rfl f_131 (i := n - 1 + 1) (x := -95) (by omega) (by decide) dX10_write_119 (fun H locs g_136 f_137 fr_138 hP hS => ?_)
                  rw [(show (-95 : Int32) = iI (-95) from by decide), k_updZ] at f_137
                  have f_137 : g_136 19 = .inl (cA 19, 1200, .inl (fun j => iI ((va_up (va_up fC (n - 1) ((-49) - ((pt2 2) k9n))) (n - 1 + 1) (-95)) j))) := f_137
                  refine lv_aload_n hx hb dX10_write_120 rfl (lv_at hl 2 rfl) ?_
                  have f_139 : g_136 0 = .inr (13, Rob ad xx) := (fr_138 0 (by omega)).trans f_133
                  refine m_get (D := (dC, dI)) (v := .ref (ad 19)) (C := RX10) (T := TX10) (N := 29) hx hb hts bk1 hown hK hP 0 (by decide) f_139 rfl 27 (by decide) (hts (.fieldLink RX10 71 "GradientDeskModel" "waiting" "[I") (List.mem_of_getElem? (i := 5) rfl)) (fun _ h9 => h9) rfl dX10_write_121 ?_
                  refine lv_iload_n hx hb dX10_write_124 rfl (lv_at hl 1 rfl) ?_
                  refine lv_iconst (v := nI 2) hx hb dX10_write_125 (by decide +kernel) ?_
                  refine lv_iadd hx hb dX10_write_126 ?_
                  refine lv_topi (fun x_140 e_141 => ?_)
                  obtain rfl : x_140 = nI (n - 1 + 2) := e_141.trans (nI_add (n - 1) 2)
                  refine lv_aload_n hx hb dX10_write_127 rfl (lv_at hl 2 rfl) ?_
                  refine m_get (D := (dC, dI)) (v := .ref (ad 6)) (C := RX10) (T := TX10) (N := 29) hx hb hts bk1 hown hK hP 0 (by decide) f_139 rfl 8 (by decide) (hts (.fieldLink RX10 32 "GradientDeskModel" "first" "[I") (List.mem_of_getElem? (i := 13) rfl)) (fun _ h9 => h9) rfl dX10_write_128 ?_
                  refine lv_iload_n hx hb dX10_write_131 rfl (lv_at hl 0 rfl) ?_
                  have f_142 : g_136 6 = .inl (cA 6, 201, .inl (fun j => iI ((pt2 1) j))) := (fr_138 6 (by omega)).trans ((fr_132 6 (by omega)).trans ((fr_25 6 (by omega)).trans ((fr_21 6 (by omega)).trans ((fr_17 6 (by omega)).trans p_8))))
                  refine m_iald hx hb hK hP 6 (by decide) rfl f_142 (i := k9n) (by omega) (by decide) dX10_write_132 ?_
                  have b_143 := (hpt_13 1) k9n
                  refine m_iast hx hb hK hP hD hS 19 (by decide) rfl f_137 (i := n - 1 + 2) (x := iI ((pt2 1) k9n)) (by omega) (by decide) dX10_write_133 (fun H locs g_144 f_145 fr_146 hP hS => ?_)
                  rw [k_updZ] at f_145
                  have f_145 : g_144 19 = .inl (cA 19, 1200, .inl (fun j => iI ((va_up (va_up (va_up fC (n - 1) ((-49) - ((pt2 2) k9n))) (n - 1 + 1) (-95)) (n - 1 + 2) ((pt2 1) k9n)) j))) := f_145
                  refine lv_iinc (v := nI (n - 1 + 3)) (lv' := [(2, .int (nI (n - 1 + 3))), (3, .int (nI k9n)), (0, .ref (ad 0)), (1, .int (nI vn))]) hx hb dX10_write_134 hl (k := 1) rfl (nI_add (n - 1) 3) (by decide) rfl (fun ls hl => ?_)
                  have hda : 1 ≤ (gd L a9).2.2.2.1 := wa hna9
                  have hlg : lgd (gd L a9).2.2.2.1 + 2 ≤ lgd (gd L k9n).2.2.2.1 := (lgd_2 hda (by rw [ed9]; exact Nat.mul_le_mul_right _ he2)).resolve_right (by omega)
                  have f_149 : g_144 0 = .inr (13, Rob ad xx) := (fr_146 0 (by omega)).trans f_139
                  refine lv_goto (tgt := 214) hx hb dX10_write_137 (by decide) ?_
                  refine lv_goto (tgt := 29) hx hb dX10_write_214 (by decide) ?_
                  have f_150 : g_144 17 = .inl (cA 17, 256, .inl (fun j => iI (fA j))) := (fr_146 17 (by omega)).trans ((fr_138 17 (by omega)).trans ((fr_132 17 (by omega)).trans f_27))
                  have f_151 : g_144 18 = .inl (cA 18, 200, .inl (fun j => iI (fB j))) := (fr_146 18 (by omega)).trans ((fr_138 18 (by omega)).trans ((fr_132 18 (by omega)).trans f_28))
                  exact ih_23 (((a9 : Nat) : Int) :: (-95) :: (-49 - ((e9 : Nat) : Int)) :: q9) em 0 (n - 1 + 3) fA fB (va_up (va_up (va_up fC (n - 1) ((-49) - ((pt2 2) k9n))) (n - 1 + 1) (-95)) (n - 1 + 2) ((pt2 1) k9n)) xx g_144 (fun (k : Nat) (hk : k ≠ 0 ∧ k ≠ 1 ∧ k ≠ 2 ∧ k ≠ 3 ∧ k ≠ 17 ∧ k ≠ 18 ∧ k ≠ 19) => (fr_146 k (by omega)).trans ((fr_138 k (by omega)).trans ((fr_132 k (by omega)).trans ((fr_25 k (by omega)).trans (rfl))))) (by show 20 * (1000 - em.length) + rkz L ((a9 : Nat) : Int) < k9; rw [rkz_nat]; omega) (by show n - 1 + 3 = q9.length + 1 + 1 + 1; omega) (((hsk9.push (by omega) (by rw [pe])).push (show n - 1 + 1 = q9.length + 1 by omega) rfl).push (show n - 1 + 2 = q9.length + 1 + 1 by omega) pa) hx9 hxo (by rw [← hT, hk9, fl_p hW2 hk8 (by omega) ha9 ea9 ee9]) hdr (⟨⟨fun _ => ⟨by omega, by rw [Int.toNat_natCast]; show q9.length + 1 + 1 + 1 + _ ≤ _; omega⟩, by omega⟩, ⟨fun h8 => absurd h8 (by decide), by decide⟩, ⟨fun h8 => absurd h8 (by omega), by omega⟩, hp3.mono (by omega)⟩) (by decide) (fun h8 => absurd h8 (by decide)) (by omega) hel f_149 f_150 f_151 f_145 (hFL.setx (fun (k : Nat) (hk : k = 1 ∨ k = 2 ∨ k = 3) => (fr_146 k (by omega)).trans ((fr_138 k (by omega)).trans ((fr_132 k (by omega)).trans (rfl)))) f_149 rfl) _ _ _ hP hS (lv_sub (l' := [(0, .ref (ad 0)), (1, .int (nI vn)), (2, .int (nI (n - 1 + 3)))]) hl [2, 3, 0] rfl)
              · have c_62 := mt (k_iLE (a := 2) (b := (pt2 0) k9n) (show nI 2 = iI 2 from by decide) rfl (by omega) (by omega)).mpr c_62
                refine lv_aload_n hx hb dX10_write_77 rfl (lv_at hl 2 rfl) ?_
                refine lv_iload_n hx hb dX10_write_78 rfl (lv_at hl 0 rfl) ?_
                have hso : (gd L k9n).1 < 2 := by omega
                clear w9 w10 w11
                refine va_callv (va_runV (As := [.int (nI k9n)]) (rest := []) ⟨hx, hb, hml, hown, hts⟩ (c_X10_putPart l dC dI A ad cA g_24 xx pf2 qf2 pt2 L k9n fA fB em.length hFL (hPt20.same (fun (k : Nat) (hk : 5 ≤ k ∧ k ≤ 10) => (fr_25 k (by omega)).trans ((fr_21 k (by omega)).trans ((fr_17 k (by omega)).trans (rfl))))) hM2 hL22 hW2 hk8 hso f_27 f_28 hx9 (by omega)) (cwV 1 hts (goodIn_app (goodIn_r [Cond.methodLink RX10 290 yX10_putPart, Cond.instanceMethod yX10_putPart, Cond.selects RX10 yX10_putPart yX10_putPart, Cond.initialized RX10] [14, 15, 16, 4] rfl rfl) (goodIn_sub (fun w9 h9 => bk2 w9 h9) gw_X10_putPart)) rfl rfl rfl (by decide +kernel) ⟨Nat.le_of_ble_eq_true rfl, Nat.le_of_ble_eq_true rfl⟩) ⟨fun a U g mk q => ⟨q.1, q.2.1, q.2.2.1, LY.moved (u := U) (U := U.calling g mk a) (Vm.Alike.refl U.vm) q.2.2.2⟩, va_recv hK hP (ci := 13) (q0 := 0) rfl (wo_at (by decide) f_26), fun U hU hW => ⟨rfl, by rw [hU]; exact fun q h => hA q (Nat.le_trans hS.1 h), by rw [hU]; exact hP, LY.moved hW.alike hL⟩⟩ rfl rfl hl.1 rfl (lv_room (Nat.le_of_ble_eq_true rfl)) dX10_write_79 ⟨(Nat.le_of_ble_eq_true rfl), (Nat.le_of_ble_eq_true rfl)⟩) hS (fun q _ h => h) (fun q h => h) (fun u8 t8 H1 locs ht8 hvm8 hw_152 hB hz1 hk1 hS => ?_)
                obtain ⟨g_153, f3_154⟩ := u8
                try dsimp only at hw_152 hB
                rw [ht8] at hB
                have hP := hB
                generalize H1 = H at hP hS ⊢
                obtain ⟨fr_155, hF5, h175, h185, hb1, hb2⟩ := hw_152
                have hob5 := hF5.obj
                have hal : (em ++ ptL (gd L k9n)).length = em.length + (ptL (gd L k9n)).length := List.length_append
                refine lv_goto (tgt := 214) hx hb dX10_write_82 (by decide) ?_
                refine lv_goto (tgt := 29) hx hb dX10_write_214 (by decide) ?_
                have f_156 : g_153 19 = .inl (cA 19, 1200, .inl (fun j => iI (fC j))) := (fr_155 19 (by omega)).trans f_29
                exact ih_23 q9 (em ++ ptL (gd L k9n)) 0 (n - 1) (dwr fA em.length (ptL (gd L k9n))) f3_154 fC (va_up xx 9 (nI (em.length + (ptL (gd L k9n)).length))) g_153 (fun (k : Nat) (hk : k ≠ 0 ∧ k ≠ 1 ∧ k ≠ 2 ∧ k ≠ 3 ∧ k ≠ 17 ∧ k ≠ 18 ∧ k ≠ 19) => (fr_155 k (by omega)).trans ((fr_25 k (by omega)).trans (rfl))) (by rw [hal]; omega) (by omega) hsk9 ((va_up_self _ _ _).trans (congrArg nI hal.symm)) (fun j hj => (va_up_ne _ _ hj).trans (hxo j hj)) (by rw [← hT9, hk9, itL_nat, wrL_l hso, List.append_assoc]) (by rw [dwr_app, ← hdr, Nat.zero_add]) (hp3.mono (by omega)) (by decide) (fun h8 => absurd h8 (by decide)) (by omega) (by omega) hob5 h175 h185 f_156 hF5 _ _ _ hP hS (lv_sub (l' := [(0, .ref (ad 0)), (1, .int (nI vn)), (2, .int (nI (n - 1)))]) hl [2, 3, 1] rfl)
            · have c_59 := mt (k_iLE (a := 0) (b := z9) (show nI 0 = iI 0 from by decide) rfl (by omega) (by omega)).mpr c_59
              refine lv_aload_n hx hb dX10_write_57 rfl (lv_at hl 2 rfl) ?_
              refine lv_iconst (v := -1) hx hb dX10_write_58 (by decide +kernel) ?_
              refine lv_iload_n hx hb dX10_write_59 rfl (lv_at hl 0 rfl) ?_
              refine lv_isub hx hb dX10_write_60 ?_
              refine lv_topi (fun x_157 e_158 => ?_)
              obtain rfl : x_157 = iI ((-1) - z9) := e_158.trans (iI_subP (show (-1 : Int32) = iI (-1) from by decide) rfl)
              refine va_callv (va_runV (As := [.int (iI ((-1) - z9))]) (rest := []) ⟨hx, hb, hml, hown, hts⟩ (c_X10_put l dC dI A ad cA g_24 xx fA em.length ((-1) - z9) f_26 f_27 hx9 (by omega)) (cwV 1 hts (goodIn_app (goodIn_r [Cond.methodLink RX10 284 yX10_put, Cond.instanceMethod yX10_put, Cond.selects RX10 yX10_put yX10_put, Cond.initialized RX10] [17, 18, 19, 4] rfl rfl) (goodIn_sub (fun w9 h9 => bk3 w9 h9) gw_X10_put)) rfl rfl rfl (by decide +kernel) ⟨Nat.le_of_ble_eq_true rfl, Nat.le_of_ble_eq_true rfl⟩) ⟨fun a U g mk q => ⟨q.1, q.2.1, q.2.2.1, LY.moved (u := U) (U := U.calling g mk a) (Vm.Alike.refl U.vm) q.2.2.2⟩, va_recv hK hP (ci := 13) (q0 := 0) rfl (wo_at (by decide) f_26), fun U hU hW => ⟨rfl, by rw [hU]; exact fun q h => hA q (Nat.le_trans hS.1 h), by rw [hU]; exact hP, LY.moved hW.alike hL⟩⟩ rfl rfl hl.1 rfl (lv_room (Nat.le_of_ble_eq_true rfl)) dX10_write_61 ⟨(Nat.le_of_ble_eq_true rfl), (Nat.le_of_ble_eq_true rfl)⟩) hS (fun q _ h => h) (fun q h => h) (fun u8 t8 H1 locs ht8 hvm8 hw_159 hB hz1 hk1 hS => ?_)
              obtain ⟨g_160, rfl⟩ : ∃ z, z = u8 := ⟨_, rfl⟩
              try dsimp only at hw_159 hB
              rw [ht8] at hB
              have hP := hB
              generalize H1 = H at hP hS ⊢
              obtain ⟨fr_161, hob4, h174⟩ := hw_159
              have hal : (em ++ [-1 - z9]).length = em.length + 1 := by rw [List.length_append]; rfl
              refine lv_goto (tgt := 214) hx hb dX10_write_64 (by decide) ?_
              refine lv_goto (tgt := 29) hx hb dX10_write_214 (by decide) ?_
              have f_162 : g_160 18 = .inl (cA 18, 200, .inl (fun j => iI (fB j))) := (fr_161 18 (by omega)).trans f_28
              have f_163 : g_160 19 = .inl (cA 19, 1200, .inl (fun j => iI (fC j))) := (fr_161 19 (by omega)).trans f_29
              exact ih_23 q9 (em ++ [-1 - z9]) 0 (n - 1) (if em.length < 250 then va_up fA em.length ((-1) - z9) else fA) fB fC (va_up xx 9 (nI (em.length + 1))) g_160 (fun (k : Nat) (hk : k ≠ 0 ∧ k ≠ 1 ∧ k ≠ 2 ∧ k ≠ 3 ∧ k ≠ 17 ∧ k ≠ 18 ∧ k ≠ 19) => (fr_161 k (by omega)).trans ((fr_25 k (by omega)).trans (rfl))) (by rw [hal]; omega) (by omega) hsk9 ((va_up_self _ _ _).trans (congrArg nI hal.symm)) (fun j hj => (va_up_ne _ _ hj).trans (hxo j hj)) (by rw [← hT9, itL_neg (by omega), List.append_assoc]) (by rw [dwr_app, ← hdr, Nat.zero_add]; rfl) (hp3.mono (by omega)) (by decide) (fun h8 => absurd h8 (by decide)) (by omega) (by omega) hob4 h174 f_162 f_163 (hFL.setx (fun (k : Nat) (hk : k = 1 ∨ k = 2 ∨ k = 3) => (fr_161 k (by omega)).trans (rfl)) hob4 rfl) _ _ _ hP hS (lv_sub (l' := [(0, .ref (ad 0)), (1, .int (nI vn)), (2, .int (nI (n - 1)))]) hl [2, 3, 1] rfl)
    have f_164 : g_19 17 = .inl (cA 17, 256, .inl (fun j => iI (f17 j))) := (fr_21 17 (by omega)).trans ((fr_17 17 (by omega)).trans y17)
    have f_165 : g_19 18 = .inl (cA 18, 200, .inl (fun j => iI (f18 j))) := (fr_21 18 (by omega)).trans ((fr_17 18 (by omega)).trans y18)
    have f_166 : g_19 19 = .inl (cA 19, 1200, .inl (fun j => iI ((va_up f19 0 ((rt : Nat) : Int)) j))) := (fr_21 19 (by omega)).trans f_16
    exact loop_22 _ ([((rt : Nat) : Int)]) ([]) 0 1 f17 f18 (va_up f19 0 ((rt : Nat) : Int)) (va_up x2_4 9 (nI 0)) g_19 (fun (k : Nat) (hk : k ≠ 0 ∧ k ≠ 1 ∧ k ≠ 2 ∧ k ≠ 3 ∧ k ≠ 17 ∧ k ≠ 18 ∧ k ≠ 19) => rfl) (Nat.lt_succ_self _) rfl (⟨va_up_self _ _ _, trivial⟩) (va_up_self _ _ _) (fun j hj => va_up_ne _ _ hj) (by show itL L _ ++ [] = _; rw [itL_nat, List.append_nil]) rfl (⟨⟨fun _ => ⟨by omega, by have := lgd_6 (gd L ((rt : Nat) : Int).toNat).2.2.2.1; show 0 + 1 + _ ≤ 3 * 0 + 7; omega⟩, by omega⟩, trivial⟩) (by decide) (fun h9 => absurd h9 (by decide)) (by decide) (by decide) f_20 f_164 f_165 f_166 (hF20.setx (fun (k : Nat) (hk : k = 1 ∨ k = 2 ∨ k = 3) => (fr_21 k (by omega)).trans ((fr_17 k (by omega)).trans (rfl))) f_20 rfl) _ _ _ hP hS (lv_sub (l' := [(0, .ref (ad 0)), (1, .int (nI vn)), (2, .int (nI 1))]) hl [1, 2, 0] rfl)
  · skip
    refine lv_if_eq (tgt := 10) hx hb dX10_write_5 (by decide) (fun c_167 => absurd c_167 (by decide)) (fun c_167 => ?_)
    refine lv_iconst (v := nI 0) hx hb dX10_write_8 (by decide +kernel) ?_
    refine W.widen (k := 0) (n := 0) (by omega) (by omega) ?_
    exact W.iret (v := nI 0) hx hb hr (fun t9 ht9 hW9 => ⟨⟨nI 0, (g_3, x2_4, wr), rfl, ⟨hR2, hx22, Or.inl ⟨rfl, rfl, hx20⟩⟩, by show va_P (dC, dI) vwCl _ t9.heap; rw [ht9]; exact hP⟩, hS.F ht9⟩) hS.2.2 dX10_write_9
end
section
/-! the class's wholes with their numbers -/
def WN (ad : Nat → Nat) (cA : Nat → ClassId) (g : Nat → va_E) (i s n : Nat) (fn : Nat → Nat) : Prop :=
  g (2 * i) = .inr (11, [.ref (ad (2 * i + 1)), .int (nI s), .int (nI n)]) ∧ g (2 * i + 1) = .inl (cA (2 * i + 1), rmc i, .inl (fun j => nI (fn j))) ∧ (∀ j, fn j < 4294967296) ∧ s ≤ rmc i ∧ n < 2
def WV (ad : Nat → Nat) (cA : Nat → ClassId) (g : Nat → va_E) (i : Nat) (v : Int) : Prop := ∃ s n fn, WN ad cA g i s n fn ∧ Rp fn s v.natAbs ∧ (n = 1 ↔ v < 0)
section WNS
variable {ad : Nat → Nat} {cA : Nat → ClassId} {g g2 : Nat → va_E} {i s n : Nat} {fn : Nat → Nat} {v : Int}
theorem AW.wn (h : AW ad cA g) (hi : i < 1038) : ∃ s n fn, WN ad cA g i s n fn := by
  obtain ⟨m, s, n, f, a, b, c1, d, e1⟩ := h i hi
  subst d
  refine ⟨s, n, fun j => Classical.choose (wb_of32 (f j)), a, ?_, fun j => (Classical.choose_spec (wb_of32 (f j))).1, c1, e1⟩
  rw [b]
  have : f = fun j => nI (Classical.choose (wb_of32 (f j))) := funext (fun j => (Classical.choose_spec (wb_of32 (f j))).2)
  rw [← this]
theorem WN.aw (h : AW ad cA g) (hf : ∀ k, k ≠ 2 * i ∧ k ≠ 2 * i + 1 → g2 k = g k) (hw : WN ad cA g2 i s n fn) : AW ad cA g2 := AW.put (t := i) h hf ⟨hw.1, hw.2.1, hw.2.2.2.1, rfl, hw.2.2.2.2⟩
theorem WV.same (h : WV ad cA g i v) (h1 : g2 (2 * i) = g (2 * i)) (h2 : g2 (2 * i + 1) = g (2 * i + 1)) : WV ad cA g2 i v := by
  obtain ⟨s, n, fn, ⟨a, b, c1⟩, d⟩ := h
  exact ⟨s, n, fn, ⟨h1.trans a, h2.trans b, c1⟩, d⟩
end WNS
theorem rp_one {f : Nat → Nat} {s V : Nat} (h : Rp f s V) : V = 1 ↔ s = 1 ∧ f 0 = 1 := by
  constructor
  · intro e1
    have hs : s = 1 := by
      have h1 := h.le_of (m := 1) (by rw [e1]; decide)
      have h2 := h.zero
      omega
    refine ⟨hs, ?_⟩
    have h3 := h.2.2
    rw [hs, nv_s] at h3
    rw [e1, show nv f 0 = 0 from rfl, Nat.pow_zero] at h3
    omega
  · rintro ⟨hs, hf⟩
    rw [← h.2.2, hs, nv_s, show nv f 0 = 0 from rfl, Nat.pow_zero, hf]
theorem rp_eq {f h : Nat → Nat} {s V W : Nat} (h1 : Rp f s V) (h2 : Rp h s W) (he : ∀ j, j < s → f j = h j) : V = W := by rw [← h1.2.2, ← h2.2.2]; exact nv_congr he
theorem rp_ne {f h : Nat → Nat} {s V W j : Nat} (h1 : Rp f s V) (h2 : Rp h s W) (hj : j < s) (hn : f j ≠ h j) : V ≠ W := by
  intro e1
  apply hn
  rw [h1.dg hj, h2.dg hj, e1]
theorem rp_lt {f h : Nat → Nat} {s t V W : Nat} (h1 : Rp f s V) (h2 : Rp h t W) (hl : s < t) : V < W := by
  have a := h1.lt
  have b := h2.ge (by omega)
  have d : 4294967296 ^ s ≤ 4294967296 ^ (t - 1) := Nat.pow_le_pow_right (by decide) (by omega)
  omega
theorem rp_ltd {f h : Nat → Nat} {s V W j : Nat} (h1 : Rp f s V) (h2 : Rp h s W) (hj : j < s) (he : ∀ k, j < k → k < s → f k = h k) (hl : f j < h j) : V < W := by
  rw [← h1.2.2, ← h2.2.2]; exact nv_cmp hj h1.1 h2.1 he hl
theorem rp_put {f : Nat → Nat} {V : Nat} (hV : V < 18446744073709551616) {s : Nat} (hs : s = if V = 0 then 0 else if V < 4294967296 then 1 else 2) (h0 : 0 < s → f 0 = V % 4294967296) (h1 : 1 < s → f 1 = V / 4294967296) (hb : ∀ j, f j < 4294967296) : Rp f s V := by
  by_cases z0 : V = 0
  · rw [if_pos z0] at hs; subst hs; exact ⟨fun j h => absurd h (Nat.not_lt_zero _), Or.inl rfl, z0.symm⟩
  · by_cases z1 : V < 4294967296
    · rw [if_neg z0, if_pos z1] at hs; subst hs
      have := h0 (by decide)
      exact Rp.small z1 (by omega) (by omega)
    · rw [if_neg z0, if_neg z1] at hs; subst hs
      have a0 := h0 (by decide)
      have a1 := h1 (by decide)
      refine ⟨fun j _ => hb j, Or.inr (by show f 1 ≠ 0; omega), ?_⟩
      rw [nv_s, nv_s, show nv f 0 = 0 from rfl, Nat.pow_zero, Nat.pow_one]
      omega
theorem k_labs {v : Int64} {z : Int} (hz : v.toInt = z) (hb : z.natAbs < 2 ^ 62) : (if 0 < v then v else -v) = lN z.natAbs := by
  have e0 : (0 : Int64) < v ↔ 0 < z := by rw [Int64.lt_iff_toInt_lt, hz]; exact Iff.rfl
  by_cases h : lN 0 ≤ v
  · obtain ⟨h1, h2⟩ := k_vpos hz h hb
    by_cases h0 : (0 : Int64) < v
    · rw [if_pos h0]; exact h1
    · have hz0 : z = 0 := by have := mt e0.mpr h0; omega
      rw [if_neg h0, h1, hz0]; decide
  · obtain ⟨h1, h2⟩ := k_vneg hz h hb
    rw [if_neg (fun h8 => by have := e0.mp h8; omega)]; exact h1
theorem nI_md (n : Nat) : nI n = nI (n % 4294967296) := by
  apply Int32.toBitVec_inj.mp
  show BitVec.ofNat 32 n = BitVec.ofNat 32 (n % 4294967296)
  apply BitVec.eq_of_toNat_eq
  rw [BitVec.toNat_ofNat, BitVec.toNat_ofNat]
  show n % 4294967296 = n % 4294967296 % 4294967296
  omega
theorem rp_dg {f : Nat → Nat} {n V : Nat} (hd : ∀ j, j < n → f j = dgt V j) (hn : n = 0 ∨ V / 4294967296 ^ (n - 1) ≠ 0) (hV : V < 4294967296 ^ n) : Rp f n V := by
  refine Rp.fin hd hV (Nat.le_refl _) (fun i h1 h2 => absurd h1 (by omega)) ?_
  rcases hn with h | h
  · exact Or.inl h
  · right
    have hp : n ≠ 0 := by
      rintro rfl
      rw [Nat.pow_zero] at hV
      apply h
      show V / 4294967296 ^ 0 = 0
      rw [Nat.pow_zero, Nat.div_one]; omega
    rw [hd (n - 1) (by omega)]
    unfold dgt
    have h1 : V / 4294967296 ^ (n - 1) < 4294967296 := by
      apply Nat.div_lt_of_lt_mul
      rw [← Nat.pow_succ, show (n - 1).succ = n by omega]; exact hV
    rw [Nat.mod_eq_of_lt h1]; exact h
theorem pt_end9 {f : Nat → Nat} {i s V a : Nat} (hs : s = i) (hd : ∀ j, j < i → f j = dgt V j) (hn : i = 0 ∨ V / 4294967296 ^ (i - 1) ≠ 0) (hl : a = V / 4294967296 ^ i) (h : a = 0 ∨ (i = 2 ∧ V < 2 ^ 62)) : Rp f s V := by
  subst hs
  refine rp_dg hd hn ?_
  rcases h with h | ⟨h, h9⟩
  · rw [h] at hl
    rcases Nat.lt_or_ge V (4294967296 ^ s) with h8 | h8
    · exact h8
    · have := Nat.div_pos h8 (Nat.pow_pos (by decide)); omega
  · rw [h]; exact Nat.lt_trans h9 (by decide)
theorem cpy_n {a b : Nat → Nat} {n : Nat} : va_cpy (fun j => nI (a j)) (fun j => nI (b j)) 0 0 n = fun j => nI (if j < n then a j else b j) := by
  funext j
  by_cases h : j < n
  · rw [pk_cpy_in (by omega) (by omega), if_pos h]; simp
  · rw [pk_cpy_out (by omega), if_neg h]
end
