def wd_X10_next : List Cond := .code yX10_next cX10_next 1 (some .int) :: (([.fieldLink RX10 184 "GradientDeskModel" "at" "I", .fieldLink RX10 187 "GradientDeskModel" "typed" "I", .fieldLink RX10 22 "GradientDeskModel" "text" "[I"] : List Cond) ++ (u_ws RX10 TX10 29 ++ ([])))
theorem gw_X10_next : wd_X10_next.all goodWord = true := k_allc rfl (k_all (by decide +kernel) (k_all (gu_X10) (rfl)))
set_option maxHeartbeats 4000000 in
set_option maxRecDepth 100000 in
theorem c_X10_next (l : Launch) (dC : Nat → ClassId) (dI : Nat → Nat → Nat) (A : Nat → Prop) (ad : Nat → Nat) (cA : Nat → ClassId) (g : Nat → va_E) (x : Nat → Int32) (tx : Nat → Nat) (ty : Nat) (a1 : Nat) (h0 : g 0 = .inr (13, Rob ad x)) (h4 : g 4 = .inl (cA 4, 64, .inl (fun j => nI (tx j)))) (h4b : ∀ j, tx j < 127) (hty : x 1 = nI ty) (hty2 : ty ≤ 64) (hat : x 7 = nI a1) (ha1 : a1 ≤ 64) : Met l yX10_next wd_X10_next ({ frames := 10, cells := 0, slots := 0, locals := 200 }) (va_Pc [.ref (ad 0)] (PR NSr tyr dC dI A ad cA g)) (va_Qi (fun (r : Int32) => fun (u : Unit) => match u with | () => r = nI (nx tx ty a1)) (fun (u : Unit) (t : State) => va_P (dC, dI) vwCl (wo ad NSr g) t.heap) A) (0) (0) A := by
  refine Met.ofW (cc := cX10_next) (maxL := 1) (ret := (some .int)) (by decide) rfl ?_
  intro p e s m args below meth c s₁ B hml hv
  obtain ⟨rfl, hA, hP, hL⟩ := hv
  have hx := B.exec
  have hb := B.bytes
  have hr := B.returns
  have hts := atoms_spec (ws := wd_X10_next) B.pre
  have hown : s.vm.findClass RX10 = some m.cls := findClass_of_methodNamed B.named
  have hlocks := B.notSynchronized
  have hK := hL.1
  have hD : ∀ g, va_D A (wo ad NSr g) := fun g => wo_D hL.2.1 hL.2.2 g
  have hS : va_S A s.heap s.heap [] := va_S.rf
  have bk0 : ∀ w ∈ u_ws RX10 TX10 29, w ∈ wd_X10_next := fun _ h => List.mem_cons_of_mem _ (List.mem_append_right _ (List.mem_append_left _ h))
  have hl := lv_entry ([.ref (ad 0)]) (n := 1) (Nat.le_of_ble_eq_true rfl)
  rw [lg_entry_eq]
  generalize (lg_sl ([.ref (ad 0)]) ++ List.replicate (1 - (lg_sl ([.ref (ad 0)])).length) Slot.unset).toArray = ls at hl ⊢
  have hl : lv_has ls 1 [(0, .ref (ad 0))] := hl
  refine lv_aload_n hx hb dX10_next_0 rfl (lv_at hl 0 rfl) ?_
  refine m_get (D := (dC, dI)) (v := .int (nI a1)) (C := RX10) (T := TX10) (N := 29) hx hb hts bk0 hown hK hP 0 (by decide) h0 rfl 22 (by decide) (hts (.fieldLink RX10 184 "GradientDeskModel" "at" "I") (List.mem_of_getElem? (i := 1) rfl)) (fun _ h9 => h9) (congrArg (fun z => some (Value.int z)) hat) dX10_next_1 ?_
  refine lv_aload_n hx hb dX10_next_4 rfl (lv_at hl 0 rfl) ?_
  refine m_get (D := (dC, dI)) (v := .int (nI ty)) (C := RX10) (T := TX10) (N := 29) hx hb hts bk0 hown hK hP 0 (by decide) h0 rfl 5 (by decide) (hts (.fieldLink RX10 187 "GradientDeskModel" "typed" "I") (List.mem_of_getElem? (i := 2) rfl)) (fun _ h9 => h9) (congrArg (fun z => some (Value.int z)) hty) dX10_next_5 ?_
  refine lv_icmp_ge (tgt := 23) hx hb dX10_next_8 (by decide) (fun c_1 => ?_) (fun c_1 => ?_)
  · have c_1 := (nI_leI (a := ty) (b := a1) (by omega) (by omega)).mp c_1
    refine lv_iconst (v := nI 0) hx hb dX10_next_23 (by decide +kernel) ?_
    refine W.widen (k := 0) (n := 0) (by omega) (by omega) ?_
    exact W.iret (v := nI 0) hx hb hr (fun t9 ht9 hW9 => ⟨⟨nI 0, (), rfl, congrArg nI (show _ = nx tx ty a1 by unfold nx; rw [if_neg (by omega)]), by show va_P (dC, dI) vwCl _ t9.heap; rw [ht9]; exact hP⟩, hS.F ht9⟩) hS.2.2 dX10_next_24
  · have c_1 := mt (nI_leI (a := ty) (b := a1) (by omega) (by omega)).mpr c_1
    refine lv_aload_n hx hb dX10_next_11 rfl (lv_at hl 0 rfl) ?_
    refine m_get (D := (dC, dI)) (v := .ref (ad 4)) (C := RX10) (T := TX10) (N := 29) hx hb hts bk0 hown hK hP 0 (by decide) h0 rfl 4 (by decide) (hts (.fieldLink RX10 22 "GradientDeskModel" "text" "[I") (List.mem_of_getElem? (i := 3) rfl)) (fun _ h9 => h9) rfl dX10_next_12 ?_
    refine lv_aload_n hx hb dX10_next_15 rfl (lv_at hl 0 rfl) ?_
    refine m_get (D := (dC, dI)) (v := .int (nI a1)) (C := RX10) (T := TX10) (N := 29) hx hb hts bk0 hown hK hP 0 (by decide) h0 rfl 22 (by decide) (hts (.fieldLink RX10 184 "GradientDeskModel" "at" "I") (List.mem_of_getElem? (i := 1) rfl)) (fun _ h9 => h9) (congrArg (fun z => some (Value.int z)) hat) dX10_next_16 ?_
    refine m_iald hx hb hK hP 4 (by decide) rfl h4 (i := a1) (by omega) (by decide) dX10_next_19 ?_
    have b_2 := h4b a1
    refine lv_goto (tgt := 24) hx hb dX10_next_20 (by decide) ?_
    refine W.widen (k := 0) (n := 0) (by omega) (by omega) ?_
    exact W.iret (v := nI (tx a1)) hx hb hr (fun t9 ht9 hW9 => ⟨⟨nI (tx a1), (), rfl, congrArg nI (show _ = nx tx ty a1 by unfold nx; rw [if_pos (by omega)]), by show va_P (dC, dI) vwCl _ t9.heap; rw [ht9]; exact hP⟩, hS.F ht9⟩) hS.2.2 dX10_next_24
