section
def wd_X8_signum : List Cond := .code yX8_signum cX8_signum 1 (some .int) :: (([.fieldLink RX8 15 "GradientDesk$Whole" "size" "I", .fieldLink RX8 19 "GradientDesk$Whole" "below" "Z"] : List Cond) ++ (u_ws RX8 TX8 3 ++ ([])))
theorem gw_X8_signum : wd_X8_signum.all goodWord = true := k_allc rfl (k_all (by decide +kernel) (k_all (gu_X8) (rfl)))
set_option maxHeartbeats 4000000 in
set_option maxRecDepth 100000 in
theorem c_X8_signum (l : Launch) (dC : Nat → ClassId) (dI : Nat → Nat → Nat) (A : Nat → Prop) (ad : Nat → Nat) (cA : Nat → ClassId) (g : Nat → va_E) (t : Nat) (hAW : AW ad cA g) (it : t < 1038) : Met l yX8_signum wd_X8_signum ({ frames := 10, cells := 0, slots := 0, locals := 200 }) (va_Pc [.ref (ad (2 * t))] (PR NSc tyc dC dI A ad cA g)) (va_Qi (fun (r : Int32) => fun (u : Unit) => match u with | () => True) (fun (u : Unit) (t : State) => va_P (dC, dI) vwCl (wo ad NSc g) t.heap) A) (0) (0) A := by
  refine Met.ofW (cc := cX8_signum) (maxL := 1) (ret := (some .int)) (by decide) rfl ?_
  intro p e s m args below meth c s₁ B hml hv
  obtain ⟨rfl, hA, hP, hL⟩ := hv
  have hx := B.exec
  have hb := B.bytes
  have hr := B.returns
  have hts := atoms_spec (ws := wd_X8_signum) B.pre
  have hown : s.vm.findClass RX8 = some m.cls := findClass_of_methodNamed B.named
  have hlocks := B.notSynchronized
  have hK := hL.1
  have hD : ∀ g, va_D A (wo ad NSc g) := fun g => wo_D hL.2.1 hL.2.2 g
  have hS : va_S A s.heap s.heap [] := va_S.rf
  have bk0 : ∀ w ∈ u_ws RX8 TX8 3, w ∈ wd_X8_signum := fun _ h => List.mem_cons_of_mem _ (List.mem_append_right _ (List.mem_append_left _ h))
  have hl := lv_entry ([.ref (ad (2 * t))]) (n := 1) (Nat.le_of_ble_eq_true rfl)
  rw [lg_entry_eq]
  generalize (lg_sl ([.ref (ad (2 * t))]) ++ List.replicate (1 - (lg_sl ([.ref (ad (2 * t))])).length) Slot.unset).toArray = ls at hl ⊢
  have hl : lv_has ls 1 [(0, .ref (ad (2 * t)))] := hl
  obtain ⟨mt9, st9, nt9, ft9, at9, bt9, ct9, dt9, et9⟩ := hAW t it
  have qt9 : mt9 ≤ 4096 := by rw [dt9]; exact rmc_le _
  refine lv_aload_n hx hb dX8_signum_0 rfl (lv_at hl 0 rfl) ?_
  refine m_get (D := (dC, dI)) (v := .int (nI st9)) (C := RX8) (T := TX8) (N := 3) hx hb hts bk0 hown hK hP (2 * t) (ns_w (by omega)) at9 rfl 1 (by decide) (hts (.fieldLink RX8 15 "GradientDesk$Whole" "size" "I") (List.mem_of_getElem? (i := 1) rfl)) (fun _ h9 => h9) rfl dX8_signum_1 ?_
  refine lv_if_ne (tgt := 9) hx hb dX8_signum_4 (by decide) (fun c_1 => ?_) (fun c_1 => ?_)
  · have c_1 := mt (nI_eq (a := st9) (b := 0) (by omega) (by decide)).mpr c_1
    refine lv_aload_n hx hb dX8_signum_9 rfl (lv_at hl 0 rfl) ?_
    refine m_get (D := (dC, dI)) (v := .int (nI nt9)) (C := RX8) (T := TX8) (N := 3) hx hb hts bk0 hown hK hP (2 * t) (ns_w (by omega)) at9 rfl 2 (by decide) (hts (.fieldLink RX8 19 "GradientDesk$Whole" "below" "Z") (List.mem_of_getElem? (i := 2) rfl)) (fun _ h9 => h9) rfl dX8_signum_10 ?_
    refine lv_if_eq (tgt := 20) hx hb dX8_signum_13 (by decide) (fun c_2 => ?_) (fun c_2 => ?_)
    · have c_2 := (nI_eq (a := nt9) (b := 0) (by omega) (by decide)).mp c_2
      refine lv_iconst (v := nI 1) hx hb dX8_signum_20 (by decide +kernel) ?_
      refine W.widen (k := 0) (n := 0) (by omega) (by omega) ?_
      exact W.iret (v := nI 1) hx hb hr (fun t9 ht9 hW9 => ⟨⟨nI 1, (), rfl, trivial, by show va_P (dC, dI) vwCl _ t9.heap; rw [ht9]; exact hP⟩, hS.F ht9⟩) hS.2.2 dX8_signum_21
    · have c_2 := mt (nI_eq (a := nt9) (b := 0) (by omega) (by decide)).mpr c_2
      refine lv_iconst (v := -1) hx hb dX8_signum_16 (by decide +kernel) ?_
      refine lv_goto (tgt := 21) hx hb dX8_signum_17 (by decide) ?_
      refine W.widen (k := 0) (n := 0) (by omega) (by omega) ?_
      exact W.iret (v := -1) hx hb hr (fun t9 ht9 hW9 => ⟨⟨-1, (), rfl, trivial, by show va_P (dC, dI) vwCl _ t9.heap; rw [ht9]; exact hP⟩, hS.F ht9⟩) hS.2.2 dX8_signum_21
  · have c_1 := (nI_eq (a := st9) (b := 0) (by omega) (by decide)).mp c_1
    refine lv_iconst (v := nI 0) hx hb dX8_signum_7 (by decide +kernel) ?_
    refine W.widen (k := 0) (n := 0) (by omega) (by omega) ?_
    exact W.iret (v := nI 0) hx hb hr (fun t9 ht9 hW9 => ⟨⟨nI 0, (), rfl, trivial, by show va_P (dC, dI) vwCl _ t9.heap; rw [ht9]; exact hP⟩, hS.F ht9⟩) hS.2.2 dX8_signum_8
def wd_X8_isOne : List Cond := .code yX8_isOne cX8_isOne 1 (some .boolean) :: (([.fieldLink RX8 15 "GradientDesk$Whole" "size" "I", .fieldLink RX8 9 "GradientDesk$Whole" "words" "[I", .fieldLink RX8 19 "GradientDesk$Whole" "below" "Z"] : List Cond) ++ (u_ws RX8 TX8 3 ++ ([])))
theorem gw_X8_isOne : wd_X8_isOne.all goodWord = true := k_allc rfl (k_all (by decide +kernel) (k_all (gu_X8) (rfl)))
set_option maxHeartbeats 4000000 in
set_option maxRecDepth 100000 in
theorem c_X8_isOne (l : Launch) (dC : Nat → ClassId) (dI : Nat → Nat → Nat) (A : Nat → Prop) (ad : Nat → Nat) (cA : Nat → ClassId) (g : Nat → va_E) (t : Nat) (hAW : AW ad cA g) (it : t < 1038) : Met l yX8_isOne wd_X8_isOne ({ frames := 10, cells := 0, slots := 0, locals := 200 }) (va_Pc [.ref (ad (2 * t))] (PR NSc tyc dC dI A ad cA g)) (va_Qi (fun (r : Int32) => fun (u : Unit) => match u with | () => ∃ b, b < 2 ∧ r = nI b) (fun (u : Unit) (t : State) => va_P (dC, dI) vwCl (wo ad NSc g) t.heap) A) (0) (0) A := by
  refine Met.ofW (cc := cX8_isOne) (maxL := 1) (ret := (some .boolean)) (by decide) rfl ?_
  intro p e s m args below meth c s₁ B hml hv
  obtain ⟨rfl, hA, hP, hL⟩ := hv
  have hx := B.exec
  have hb := B.bytes
  have hr := B.returns
  have hts := atoms_spec (ws := wd_X8_isOne) B.pre
  have hown : s.vm.findClass RX8 = some m.cls := findClass_of_methodNamed B.named
  have hlocks := B.notSynchronized
  have hK := hL.1
  have hD : ∀ g, va_D A (wo ad NSc g) := fun g => wo_D hL.2.1 hL.2.2 g
  have hS : va_S A s.heap s.heap [] := va_S.rf
  have bk0 : ∀ w ∈ u_ws RX8 TX8 3, w ∈ wd_X8_isOne := fun _ h => List.mem_cons_of_mem _ (List.mem_append_right _ (List.mem_append_left _ h))
  have hl := lv_entry ([.ref (ad (2 * t))]) (n := 1) (Nat.le_of_ble_eq_true rfl)
  rw [lg_entry_eq]
  generalize (lg_sl ([.ref (ad (2 * t))]) ++ List.replicate (1 - (lg_sl ([.ref (ad (2 * t))])).length) Slot.unset).toArray = ls at hl ⊢
  have hl : lv_has ls 1 [(0, .ref (ad (2 * t)))] := hl
  obtain ⟨mt9, st9, nt9, ft9, at9, bt9, ct9, dt9, et9⟩ := hAW t it
  have qt9 : mt9 ≤ 4096 := by rw [dt9]; exact rmc_le _
  refine lv_aload_n hx hb dX8_isOne_0 rfl (lv_at hl 0 rfl) ?_
  refine m_get (D := (dC, dI)) (v := .int (nI st9)) (C := RX8) (T := TX8) (N := 3) hx hb hts bk0 hown hK hP (2 * t) (ns_w (by omega)) at9 rfl 1 (by decide) (hts (.fieldLink RX8 15 "GradientDesk$Whole" "size" "I") (List.mem_of_getElem? (i := 1) rfl)) (fun _ h9 => h9) rfl dX8_isOne_1 ?_
  refine lv_iconst (v := nI 1) hx hb dX8_isOne_4 (by decide +kernel) ?_
  refine lv_icmp_ne (tgt := 29) hx hb dX8_isOne_5 (by decide) (fun c_1 => ?_) (fun c_1 => ?_)
  · have c_1 := mt (nI_eq (a := st9) (b := 1) (by omega) (by decide)).mpr c_1
    refine lv_iconst (v := nI 0) hx hb dX8_isOne_29 (by decide +kernel) ?_
    refine W.widen (k := 0) (n := 0) (by omega) (by omega) ?_
    exact W.zret (v := nI 0) hx hb hr (by decide +kernel) (fun t9 ht9 hW9 => ⟨⟨nI 0, (), rfl, ⟨0, by decide, rfl⟩, by show va_P (dC, dI) vwCl _ t9.heap; rw [ht9]; exact hP⟩, hS.F ht9⟩) hS.2.2 dX8_isOne_30
  · have c_1 := (nI_eq (a := st9) (b := 1) (by omega) (by decide)).mp c_1
    refine lv_aload_n hx hb dX8_isOne_8 rfl (lv_at hl 0 rfl) ?_
    refine m_get (D := (dC, dI)) (v := .ref (ad (2 * t + 1))) (C := RX8) (T := TX8) (N := 3) hx hb hts bk0 hown hK hP (2 * t) (ns_w (by omega)) at9 rfl 0 (by decide) (hts (.fieldLink RX8 9 "GradientDesk$Whole" "words" "[I") (List.mem_of_getElem? (i := 2) rfl)) (fun _ h9 => h9) rfl dX8_isOne_9 ?_
    refine lv_iconst (v := nI 0) hx hb dX8_isOne_12 (by decide +kernel) ?_
    refine m_iald hx hb hK hP (2 * t + 1) (ns_w (by omega)) (tyc_w (by omega)) bt9 (i := 0) (by omega) (by omega) dX8_isOne_13 ?_
    refine lv_topi (fun x_2 e_3 => ?_)
    refine lv_iconst (v := nI 1) hx hb dX8_isOne_14 (by decide +kernel) ?_
    refine lv_icmp_ne (tgt := 29) hx hb dX8_isOne_15 (by decide) (fun c_4 => ?_) (fun c_4 => ?_)
    · clear c_4
      refine lv_iconst (v := nI 0) hx hb dX8_isOne_29 (by decide +kernel) ?_
      refine W.widen (k := 0) (n := 0) (by omega) (by omega) ?_
      exact W.zret (v := nI 0) hx hb hr (by decide +kernel) (fun t9 ht9 hW9 => ⟨⟨nI 0, (), rfl, ⟨0, by decide, rfl⟩, by show va_P (dC, dI) vwCl _ t9.heap; rw [ht9]; exact hP⟩, hS.F ht9⟩) hS.2.2 dX8_isOne_30
    · clear c_4
      refine lv_aload_n hx hb dX8_isOne_18 rfl (lv_at hl 0 rfl) ?_
      refine m_get (D := (dC, dI)) (v := .int (nI nt9)) (C := RX8) (T := TX8) (N := 3) hx hb hts bk0 hown hK hP (2 * t) (ns_w (by omega)) at9 rfl 2 (by decide) (hts (.fieldLink RX8 19 "GradientDesk$Whole" "below" "Z") (List.mem_of_getElem? (i := 3) rfl)) (fun _ h9 => h9) rfl dX8_isOne_19 ?_
      refine lv_if_ne (tgt := 29) hx hb dX8_isOne_22 (by decide) (fun c_5 => ?_) (fun c_5 => ?_)
      · have c_5 := mt (nI_eq (a := nt9) (b := 0) (by omega) (by decide)).mpr c_5
        refine lv_iconst (v := nI 0) hx hb dX8_isOne_29 (by decide +kernel) ?_
        refine W.widen (k := 0) (n := 0) (by omega) (by omega) ?_
        exact W.zret (v := nI 0) hx hb hr (by decide +kernel) (fun t9 ht9 hW9 => ⟨⟨nI 0, (), rfl, ⟨0, by decide, rfl⟩, by show va_P (dC, dI) vwCl _ t9.heap; rw [ht9]; exact hP⟩, hS.F ht9⟩) hS.2.2 dX8_isOne_30
      · have c_5 := (nI_eq (a := nt9) (b := 0) (by omega) (by decide)).mp c_5
        refine lv_iconst (v := nI 1) hx hb dX8_isOne_25 (by decide +kernel) ?_
        refine lv_goto (tgt := 30) hx hb dX8_isOne_26 (by decide) ?_
        refine W.widen (k := 0) (n := 0) (by omega) (by omega) ?_
        exact W.zret (v := nI 1) hx hb hr (by decide +kernel) (fun t9 ht9 hW9 => ⟨⟨nI 1, (), rfl, ⟨1, by decide, rfl⟩, by show va_P (dC, dI) vwCl _ t9.heap; rw [ht9]; exact hP⟩, hS.F ht9⟩) hS.2.2 dX8_isOne_30
def wd_X8_turn : List Cond := .code yX8_turn cX8_turn 1 none :: (([.fieldLink RX8 15 "GradientDesk$Whole" "size" "I", .fieldLink RX8 19 "GradientDesk$Whole" "below" "Z"] : List Cond) ++ (u_ws RX8 TX8 3 ++ ([])))
theorem gw_X8_turn : wd_X8_turn.all goodWord = true := k_allc rfl (k_all (by decide +kernel) (k_all (gu_X8) (rfl)))
set_option maxHeartbeats 4000000 in
set_option maxRecDepth 100000 in
theorem c_X8_turn (l : Launch) (dC : Nat → ClassId) (dI : Nat → Nat → Nat) (A : Nat → Prop) (ad : Nat → Nat) (cA : Nat → ClassId) (g : Nat → va_E) (t : Nat) (hAW : AW ad cA g) (it : t < 1038) : Met l yX8_turn wd_X8_turn ({ frames := 10, cells := 0, slots := 0, locals := 200 }) (va_Pc [.ref (ad (2 * t))] (PR NSc tyc dC dI A ad cA g)) (va_Qv (fun (u : Nat → va_E) => match u with | g2 => (∀ k, k ≠ 2 * t ∧ k ≠ 2 * t + 1 → g2 k = g k) ∧ AW ad cA g2) (fun (u : Nat → va_E) (t : State) => va_P (dC, dI) vwCl (wo ad NSc u) t.heap) A) (0) (0) A := by
  refine Met.ofW (cc := cX8_turn) (maxL := 1) (ret := none) (by decide) rfl ?_
  intro p e s m args below meth c s₁ B hml hv
  obtain ⟨rfl, hA, hP, hL⟩ := hv
  have hx := B.exec
  have hb := B.bytes
  have hr := B.returns
  have hts := atoms_spec (ws := wd_X8_turn) B.pre
  have hown : s.vm.findClass RX8 = some m.cls := findClass_of_methodNamed B.named
  have hlocks := B.notSynchronized
  have hK := hL.1
  have hD : ∀ g, va_D A (wo ad NSc g) := fun g => wo_D hL.2.1 hL.2.2 g
  have hS : va_S A s.heap s.heap [] := va_S.rf
  have bk0 : ∀ w ∈ u_ws RX8 TX8 3, w ∈ wd_X8_turn := fun _ h => List.mem_cons_of_mem _ (List.mem_append_right _ (List.mem_append_left _ h))
  have hl := lv_entry ([.ref (ad (2 * t))]) (n := 1) (Nat.le_of_ble_eq_true rfl)
  rw [lg_entry_eq]
  generalize (lg_sl ([.ref (ad (2 * t))]) ++ List.replicate (1 - (lg_sl ([.ref (ad (2 * t))])).length) Slot.unset).toArray = ls at hl ⊢
  have hl : lv_has ls 1 [(0, .ref (ad (2 * t)))] := hl
  obtain ⟨mt9, st9, nt9, ft9, at9, bt9, ct9, dt9, et9⟩ := hAW t it
  have qt9 : mt9 ≤ 4096 := by rw [dt9]; exact rmc_le _
  refine lv_aload_n hx hb dX8_turn_0 rfl (lv_at hl 0 rfl) ?_
  refine lv_aload_n hx hb dX8_turn_1 rfl (lv_at hl 0 rfl) ?_
  refine m_get (D := (dC, dI)) (v := .int (nI st9)) (C := RX8) (T := TX8) (N := 3) hx hb hts bk0 hown hK hP (2 * t) (ns_w (by omega)) at9 rfl 1 (by decide) (hts (.fieldLink RX8 15 "GradientDesk$Whole" "size" "I") (List.mem_of_getElem? (i := 1) rfl)) (fun _ h9 => h9) rfl dX8_turn_2 ?_
  refine lv_if_le (tgt := 19) hx hb dX8_turn_5 (by decide) (fun c_1 => ?_) (fun c_1 => ?_)
  · have c_1 := (nI_leI (a := st9) (b := 0) (by omega) (by decide)).mp c_1
    refine lv_iconst (v := nI 0) hx hb dX8_turn_19 (by decide +kernel) ?_
    refine m_put (D := (dC, dI)) (v := .int (nI 0)) (tv := .boolean) (C := RX8) (T := TX8) (N := 3) hx hb hts bk0 tyX8 tyX8_ok nmX8 hown hK hP hD hS (2 * t) (ns_w (by omega)) at9 rfl 2 (by decide) (hts (.fieldLink RX8 19 "GradientDesk$Whole" "below" "Z") (List.mem_of_getElem? (i := 2) rfl)) (fun _ h9 => h9) rfl (by decide +kernel) (by decide +kernel) (by decide +kernel) (Nat.le_of_ble_eq_true rfl) dX8_turn_20 (fun H locs g_2 f_3 fr_4 hP hS => ?_)
    have f_3 : g_2 (2 * t) = .inr (11, [.ref (ad (2 * t + 1)), .int (nI st9), .int (nI 0)]) := f_3
    have f_5 : g_2 (2 * t + 1) = .inl (cA (2 * t + 1), mt9, .inl ft9) := (fr_4 (2 * t + 1) (by omega)).trans bt9
    refine W.widen (k := 0) (n := 0) (by omega) (by omega) ?_
    exact W.vret hx hb hr (fun t9 ht9 hW9 => ⟨⟨g_2, rfl, ⟨(fun (k : Nat) (hk : k ≠ 2 * t ∧ k ≠ 2 * t + 1) => (fr_4 k (by omega)).trans (rfl)), AW.put (t := t) hAW (fun (k : Nat) (hk : k ≠ 2 * t ∧ k ≠ 2 * t + 1) => (fr_4 k (by omega)).trans (rfl)) ⟨f_3, f_5, by omega, by omega, by omega⟩⟩, by show va_P (dC, dI) vwCl _ t9.heap; rw [ht9]; exact hP⟩, hS.F ht9⟩) hS.2.2 dX8_turn_23
  · have c_1 := mt (nI_leI (a := st9) (b := 0) (by omega) (by decide)).mpr c_1
    refine lv_aload_n hx hb dX8_turn_8 rfl (lv_at hl 0 rfl) ?_
    refine m_get (D := (dC, dI)) (v := .int (nI nt9)) (C := RX8) (T := TX8) (N := 3) hx hb hts bk0 hown hK hP (2 * t) (ns_w (by omega)) at9 rfl 2 (by decide) (hts (.fieldLink RX8 19 "GradientDesk$Whole" "below" "Z") (List.mem_of_getElem? (i := 2) rfl)) (fun _ h9 => h9) rfl dX8_turn_9 ?_
    refine lv_if_ne (tgt := 19) hx hb dX8_turn_12 (by decide) (fun c_6 => ?_) (fun c_6 => ?_)
    · have c_6 := mt (nI_eq (a := nt9) (b := 0) (by omega) (by decide)).mpr c_6
      refine lv_iconst (v := nI 0) hx hb dX8_turn_19 (by decide +kernel) ?_
      refine m_put (D := (dC, dI)) (v := .int (nI 0)) (tv := .boolean) (C := RX8) (T := TX8) (N := 3) hx hb hts bk0 tyX8 tyX8_ok nmX8 hown hK hP hD hS (2 * t) (ns_w (by omega)) at9 rfl 2 (by decide) (hts (.fieldLink RX8 19 "GradientDesk$Whole" "below" "Z") (List.mem_of_getElem? (i := 2) rfl)) (fun _ h9 => h9) rfl (by decide +kernel) (by decide +kernel) (by decide +kernel) (Nat.le_of_ble_eq_true rfl) dX8_turn_20 (fun H locs g_7 f_8 fr_9 hP hS => ?_)
      have f_8 : g_7 (2 * t) = .inr (11, [.ref (ad (2 * t + 1)), .int (nI st9), .int (nI 0)]) := f_8
      have f_10 : g_7 (2 * t + 1) = .inl (cA (2 * t + 1), mt9, .inl ft9) := (fr_9 (2 * t + 1) (by omega)).trans bt9
      refine W.widen (k := 0) (n := 0) (by omega) (by omega) ?_
      exact W.vret hx hb hr (fun t9 ht9 hW9 => ⟨⟨g_7, rfl, ⟨(fun (k : Nat) (hk : k ≠ 2 * t ∧ k ≠ 2 * t + 1) => (fr_9 k (by omega)).trans (rfl)), AW.put (t := t) hAW (fun (k : Nat) (hk : k ≠ 2 * t ∧ k ≠ 2 * t + 1) => (fr_9 k (by omega)).trans (rfl)) ⟨f_8, f_10, by omega, by omega, by omega⟩⟩, by show va_P (dC, dI) vwCl _ t9.heap; rw [ht9]; exact hP⟩, hS.F ht9⟩) hS.2.2 dX8_turn_23
    · have c_6 := (nI_eq (a := nt9) (b := 0) (by omega) (by decide)).mp c_6
      refine lv_iconst (v := nI 1) hx hb dX8_turn_15 (by decide +kernel) ?_
      refine lv_goto (tgt := 20) hx hb dX8_turn_16 (by decide) ?_
      refine m_put (D := (dC, dI)) (v := .int (nI 1)) (tv := .boolean) (C := RX8) (T := TX8) (N := 3) hx hb hts bk0 tyX8 tyX8_ok nmX8 hown hK hP hD hS (2 * t) (ns_w (by omega)) at9 rfl 2 (by decide) (hts (.fieldLink RX8 19 "GradientDesk$Whole" "below" "Z") (List.mem_of_getElem? (i := 2) rfl)) (fun _ h9 => h9) rfl (by decide +kernel) (by decide +kernel) (by decide +kernel) (Nat.le_of_ble_eq_true rfl) dX8_turn_20 (fun H locs g_11 f_12 fr_13 hP hS => ?_)
      have f_12 : g_11 (2 * t) = .inr (11, [.ref (ad (2 * t + 1)), .int (nI st9), .int (nI 1)]) := f_12
      have f_14 : g_11 (2 * t + 1) = .inl (cA (2 * t + 1), mt9, .inl ft9) := (fr_13 (2 * t + 1) (by omega)).trans bt9
      refine W.widen (k := 0) (n := 0) (by omega) (by omega) ?_
      exact W.vret hx hb hr (fun t9 ht9 hW9 => ⟨⟨g_11, rfl, ⟨(fun (k : Nat) (hk : k ≠ 2 * t ∧ k ≠ 2 * t + 1) => (fr_13 k (by omega)).trans (rfl)), AW.put (t := t) hAW (fun (k : Nat) (hk : k ≠ 2 * t ∧ k ≠ 2 * t + 1) => (fr_13 k (by omega)).trans (rfl)) ⟨f_12, f_14, by omega, by omega, by omega⟩⟩, by show va_P (dC, dI) vwCl _ t9.heap; rw [ht9]; exact hP⟩, hS.F ht9⟩) hS.2.2 dX8_turn_23
def wd_X8_become : List Cond := .code yX8_become cX8_become 2 none :: (([.fieldLink RX8 15 "GradientDesk$Whole" "size" "I", .fieldLink RX8 9 "GradientDesk$Whole" "words" "[I", .methodLink RX8 29 Lib.Math.min.name, .static Lib.Math.min.name, .initialized "java/lang/Math", .code Lib.Math.min.name Lib.Math.min.code 2 (some .int), .methodLink RX8 33 arraycopyName, .native arraycopyName, .static arraycopyName, .initialized "java/lang/System", .fieldLink RX8 19 "GradientDesk$Whole" "below" "Z"] : List Cond) ++ (u_ws RX8 TX8 3 ++ ([])))
theorem gw_X8_become : wd_X8_become.all goodWord = true := k_allc rfl (k_all (by decide +kernel) (k_all (gu_X8) (rfl)))
set_option maxHeartbeats 4000000 in
set_option maxRecDepth 100000 in
theorem c_X8_become (l : Launch) (dC : Nat → ClassId) (dI : Nat → Nat → Nat) (A : Nat → Prop) (ad : Nat → Nat) (cA : Nat → ClassId) (g : Nat → va_E) (t : Nat) (x : Nat) (hAW : AW ad cA g) (it : t < 1038) (ix : x < 1038) (hne : t ≠ x) : Met l yX8_become wd_X8_become ({ frames := 10, cells := 0, slots := 0, locals := 200 }) (va_Pc [.ref (ad (2 * t)), .ref (ad (2 * x))] (PR NSc tyc dC dI A ad cA g)) (va_Qv (fun (u : Nat → va_E) => match u with | g2 => (∀ k, k ≠ 2 * t ∧ k ≠ 2 * t + 1 → g2 k = g k) ∧ AW ad cA g2) (fun (u : Nat → va_E) (t : State) => va_P (dC, dI) vwCl (wo ad NSc u) t.heap) A) (0) (0) A := by
  refine Met.ofW (cc := cX8_become) (maxL := 2) (ret := none) (by decide) rfl ?_
  intro p e s m args below meth c s₁ B hml hv
  obtain ⟨rfl, hA, hP, hL⟩ := hv
  have hx := B.exec
  have hb := B.bytes
  have hr := B.returns
  have hts := atoms_spec (ws := wd_X8_become) B.pre
  have hown : s.vm.findClass RX8 = some m.cls := findClass_of_methodNamed B.named
  have hlocks := B.notSynchronized
  have hK := hL.1
  have hD : ∀ g, va_D A (wo ad NSc g) := fun g => wo_D hL.2.1 hL.2.2 g
  have hS : va_S A s.heap s.heap [] := va_S.rf
  have bk0 : ∀ w ∈ u_ws RX8 TX8 3, w ∈ wd_X8_become := fun _ h => List.mem_cons_of_mem _ (List.mem_append_right _ (List.mem_append_left _ h))
  have hl := lv_entry ([.ref (ad (2 * t)), .ref (ad (2 * x))]) (n := 2) (Nat.le_of_ble_eq_true rfl)
  rw [lg_entry_eq]
  generalize (lg_sl ([.ref (ad (2 * t)), .ref (ad (2 * x))]) ++ List.replicate (2 - (lg_sl ([.ref (ad (2 * t)), .ref (ad (2 * x))])).length) Slot.unset).toArray = ls at hl ⊢
  have hl : lv_has ls 2 [(0, .ref (ad (2 * t))), (1, .ref (ad (2 * x)))] := hl
  obtain ⟨mt9, st9, nt9, ft9, at9, bt9, ct9, dt9, et9⟩ := hAW t it
  have qt9 : mt9 ≤ 4096 := by rw [dt9]; exact rmc_le _
  obtain ⟨mx9, sx9, nx9, fx9, ax9, bx9, cx9, dx9, ex9⟩ := hAW x ix
  have qx9 : mx9 ≤ 4096 := by rw [dx9]; exact rmc_le _
  refine lv_aload_n hx hb dX8_become_0 rfl (lv_at hl 0 rfl) ?_
  refine lv_aload_n hx hb dX8_become_1 rfl (lv_at hl 1 rfl) ?_
  refine m_get (D := (dC, dI)) (v := .int (nI sx9)) (C := RX8) (T := TX8) (N := 3) hx hb hts bk0 hown hK hP (2 * x) (ns_w (by omega)) ax9 rfl 1 (by decide) (hts (.fieldLink RX8 15 "GradientDesk$Whole" "size" "I") (List.mem_of_getElem? (i := 1) rfl)) (fun _ h9 => h9) rfl dX8_become_2 ?_
  refine lv_aload_n hx hb dX8_become_5 rfl (lv_at hl 0 rfl) ?_
  refine m_get (D := (dC, dI)) (v := .ref (ad (2 * t + 1))) (C := RX8) (T := TX8) (N := 3) hx hb hts bk0 hown hK hP (2 * t) (ns_w (by omega)) at9 rfl 0 (by decide) (hts (.fieldLink RX8 9 "GradientDesk$Whole" "words" "[I") (List.mem_of_getElem? (i := 2) rfl)) (fun _ h9 => h9) rfl dX8_become_6 ?_
  refine m_alen hx hb hK hP (2 * t + 1) (ns_w (by omega)) bt9 dX8_become_9 ?_
  refine va_mmin hx hb (by rw [hml]; exact hl.1.symm) hown (hts (.methodLink RX8 29 Lib.Math.min.name) (List.mem_of_getElem? (i := 3) rfl)) (hts (.static Lib.Math.min.name) (List.mem_of_getElem? (i := 4) rfl)) (hts (.initialized "java/lang/Math") (List.mem_of_getElem? (i := 5) rfl)) (hts (.code Lib.Math.min.name Lib.Math.min.code 2 (some .int)) (List.mem_of_getElem? (i := 6) rfl)) (Nat.le_of_ble_eq_true rfl) (Nat.le_of_ble_eq_true rfl) (Nat.le_of_ble_eq_true rfl) (Nat.le_of_ble_eq_true rfl) dX8_become_10 ?_
  refine lv_topi (fun x_2 e_3 => ?_)
  obtain ⟨q_1, hq_1, eq_1⟩ : ∃ z : Nat, z = min sx9 mt9 ∧ x_2 = nI z := ⟨_, rfl, by rw [e_3]; exact k_min (by omega) (by omega)⟩
  subst eq_1
  refine m_put (D := (dC, dI)) (v := .int (nI q_1)) (tv := .int) (C := RX8) (T := TX8) (N := 3) hx hb hts bk0 tyX8 tyX8_ok nmX8 hown hK hP hD hS (2 * t) (ns_w (by omega)) at9 rfl 1 (by decide) (hts (.fieldLink RX8 15 "GradientDesk$Whole" "size" "I") (List.mem_of_getElem? (i := 1) rfl)) (fun _ h9 => h9) rfl (by decide +kernel) rfl rfl (Nat.le_of_ble_eq_true rfl) dX8_become_13 (fun H locs g_4 f_5 fr_6 hP hS => ?_)
  have f_5 : g_4 (2 * t) = .inr (11, [.ref (ad (2 * t + 1)), .int (nI q_1), .int (nI nt9)]) := f_5
  refine lv_aload_n hx hb dX8_become_16 rfl (lv_at hl 1 rfl) ?_
  have f_7 : g_4 (2 * x) = .inr (11, [.ref (ad (2 * x + 1)), .int (nI sx9), .int (nI nx9)]) := (fr_6 (2 * x) (by omega)).trans ax9
  refine m_get (D := (dC, dI)) (v := .ref (ad (2 * x + 1))) (C := RX8) (T := TX8) (N := 3) hx hb hts bk0 hown hK hP (2 * x) (ns_w (by omega)) f_7 rfl 0 (by decide) (hts (.fieldLink RX8 9 "GradientDesk$Whole" "words" "[I") (List.mem_of_getElem? (i := 2) rfl)) (fun _ h9 => h9) rfl dX8_become_17 ?_
  refine lv_iconst (v := nI 0) hx hb dX8_become_20 (by decide +kernel) ?_
  refine lv_aload_n hx hb dX8_become_21 rfl (lv_at hl 0 rfl) ?_
  refine m_get (D := (dC, dI)) (v := .ref (ad (2 * t + 1))) (C := RX8) (T := TX8) (N := 3) hx hb hts bk0 hown hK hP (2 * t) (ns_w (by omega)) f_5 rfl 0 (by decide) (hts (.fieldLink RX8 9 "GradientDesk$Whole" "words" "[I") (List.mem_of_getElem? (i := 2) rfl)) (fun _ h9 => h9) rfl dX8_become_22 ?_
  refine lv_iconst (v := nI 0) hx hb dX8_become_25 (by decide +kernel) ?_
  refine lv_aload_n hx hb dX8_become_26 rfl (lv_at hl 0 rfl) ?_
  refine m_get (D := (dC, dI)) (v := .int (nI q_1)) (C := RX8) (T := TX8) (N := 3) hx hb hts bk0 hown hK hP (2 * t) (ns_w (by omega)) f_5 rfl 1 (by decide) (hts (.fieldLink RX8 15 "GradientDesk$Whole" "size" "I") (List.mem_of_getElem? (i := 1) rfl)) (fun _ h9 => h9) rfl dX8_become_27 ?_
  have f_8 : g_4 (2 * x + 1) = .inl (cA (2 * x + 1), mx9, .inl fx9) := (fr_6 (2 * x + 1) (by omega)).trans bx9
  have f_9 : g_4 (2 * t + 1) = .inl (cA (2 * t + 1), mt9, .inl ft9) := (fr_6 (2 * t + 1) (by omega)).trans bt9
  refine m_copyi hx hb (by rw [hml]; exact hl.1.symm) hown (hts (.methodLink RX8 33 arraycopyName) (List.mem_of_getElem? (i := 7) rfl)) (hts (.native arraycopyName) (List.mem_of_getElem? (i := 8) rfl)) (hts (.static arraycopyName) (List.mem_of_getElem? (i := 9) rfl)) (hts (.initialized "java/lang/System") (List.mem_of_getElem? (i := 10) rfl)) hK hP hD hS (2 * x + 1) (2 * t + 1) (ns_w (by omega)) (ns_w (by omega)) (tyc_w (by omega)) (tyc_w (by omega)) f_8 f_9 (z := q_1) (by omega) (by omega) (by omega) (Nat.le_of_ble_eq_true rfl) (Nat.le_of_ble_eq_true rfl) dX8_become_30 (fun H locs g_10 f_11 fr_12 hP hS => ?_)
  refine lv_aload_n hx hb dX8_become_33 rfl (lv_at hl 0 rfl) ?_
  refine lv_aload_n hx hb dX8_become_34 rfl (lv_at hl 1 rfl) ?_
  have f_13 : g_10 (2 * x) = .inr (11, [.ref (ad (2 * x + 1)), .int (nI sx9), .int (nI nx9)]) := (fr_12 (2 * x) (by omega)).trans f_7
  refine m_get (D := (dC, dI)) (v := .int (nI nx9)) (C := RX8) (T := TX8) (N := 3) hx hb hts bk0 hown hK hP (2 * x) (ns_w (by omega)) f_13 rfl 2 (by decide) (hts (.fieldLink RX8 19 "GradientDesk$Whole" "below" "Z") (List.mem_of_getElem? (i := 11) rfl)) (fun _ h9 => h9) rfl dX8_become_35 ?_
  have f_14 : g_10 (2 * t) = .inr (11, [.ref (ad (2 * t + 1)), .int (nI q_1), .int (nI nt9)]) := (fr_12 (2 * t) (by omega)).trans f_5
  refine m_put (D := (dC, dI)) (v := .int (nI nx9)) (tv := .boolean) (C := RX8) (T := TX8) (N := 3) hx hb hts bk0 tyX8 tyX8_ok nmX8 hown hK hP hD hS (2 * t) (ns_w (by omega)) f_14 rfl 2 (by decide) (hts (.fieldLink RX8 19 "GradientDesk$Whole" "below" "Z") (List.mem_of_getElem? (i := 11) rfl)) (fun _ h9 => h9) rfl (by decide +kernel) (k_narZ2 (by omega)) (k_fitZ2 (by omega)) (Nat.le_of_ble_eq_true rfl) dX8_become_38 (fun H locs g_15 f_16 fr_17 hP hS => ?_)
  have f_16 : g_15 (2 * t) = .inr (11, [.ref (ad (2 * t + 1)), .int (nI q_1), .int (nI nx9)]) := f_16
  have f_18 : g_15 (2 * t + 1) = .inl (cA (2 * t + 1), mt9, .inl (va_cpy fx9 ft9 0 0 q_1)) := (fr_17 (2 * t + 1) (by omega)).trans f_11
  refine W.widen (k := 0) (n := 0) (by omega) (by omega) ?_
  exact W.vret hx hb hr (fun t9 ht9 hW9 => ⟨⟨g_15, rfl, ⟨(fun (k : Nat) (hk : k ≠ 2 * t ∧ k ≠ 2 * t + 1) => (fr_17 k (by omega)).trans ((fr_12 k (by omega)).trans ((fr_6 k (by omega)).trans (rfl)))), AW.put (t := t) hAW (fun (k : Nat) (hk : k ≠ 2 * t ∧ k ≠ 2 * t + 1) => (fr_17 k (by omega)).trans ((fr_12 k (by omega)).trans ((fr_6 k (by omega)).trans (rfl)))) ⟨f_16, f_18, by omega, by omega, by omega⟩⟩, by show va_P (dC, dI) vwCl _ t9.heap; rw [ht9]; exact hP⟩, hS.F ht9⟩) hS.2.2 dX8_become_41
def wd_X8_put : List Cond := .code yX8_put cX8_put 6 none :: (([.methodLink RX8 23 Lib.MathLoose.abs_long.x, .static Lib.MathLoose.abs_long.x, .initialized "java/lang/Math", .code Lib.MathLoose.abs_long.x Lib.MathLoose.abs_long.code 2 (some .long), .fieldLink RX8 19 "GradientDesk$Whole" "below" "Z", .fieldLink RX8 15 "GradientDesk$Whole" "size" "I", .fieldLink RX8 9 "GradientDesk$Whole" "words" "[I"] : List Cond) ++ (u_ws RX8 TX8 3 ++ ([])))
theorem gw_X8_put : wd_X8_put.all goodWord = true := k_allc rfl (k_all (by decide +kernel) (k_all (gu_X8) (rfl)))
set_option maxHeartbeats 4000000 in
set_option maxRecDepth 100000 in
theorem c_X8_put (l : Launch) (dC : Nat → ClassId) (dI : Nat → Nat → Nat) (A : Nat → Prop) (ad : Nat → Nat) (cA : Nat → ClassId) (g : Nat → va_E) (t : Nat) (v : Int64) (hAW : AW ad cA g) (it : t < 1038) : Met l yX8_put wd_X8_put ({ frames := 20, cells := 0, slots := 0, locals := 400 }) (va_Pc [.ref (ad (2 * t)), .long v] (PR NSc tyc dC dI A ad cA g)) (va_Qv (fun (u : Nat → va_E) => match u with | g2 => (∀ k, k ≠ 2 * t ∧ k ≠ 2 * t + 1 → g2 k = g k) ∧ AW ad cA g2) (fun (u : Nat → va_E) (t : State) => va_P (dC, dI) vwCl (wo ad NSc u) t.heap) A) (0) (0) A := by
  refine Met.ofW (cc := cX8_put) (maxL := 6) (ret := none) (by decide) rfl ?_
  intro p e s m args below meth c s₁ B hml hv
  obtain ⟨rfl, hA, hP, hL⟩ := hv
  have hx := B.exec
  have hb := B.bytes
  have hr := B.returns
  have hts := atoms_spec (ws := wd_X8_put) B.pre
  have hown : s.vm.findClass RX8 = some m.cls := findClass_of_methodNamed B.named
  have hlocks := B.notSynchronized
  have hK := hL.1
  have hD : ∀ g, va_D A (wo ad NSc g) := fun g => wo_D hL.2.1 hL.2.2 g
  have hS : va_S A s.heap s.heap [] := va_S.rf
  have bk0 : ∀ w ∈ u_ws RX8 TX8 3, w ∈ wd_X8_put := fun _ h => List.mem_cons_of_mem _ (List.mem_append_right _ (List.mem_append_left _ h))
  have hl := lv_entry ([.ref (ad (2 * t)), .long v]) (n := 6) (Nat.le_of_ble_eq_true rfl)
  rw [lg_entry_eq]
  generalize (lg_sl ([.ref (ad (2 * t)), .long v]) ++ List.replicate (6 - (lg_sl ([.ref (ad (2 * t)), .long v])).length) Slot.unset).toArray = ls at hl ⊢
  have hl : lv_has ls 6 [(0, .ref (ad (2 * t))), (1, .long v)] := hl
  obtain ⟨mt9, st9, nt9, ft9, at9, bt9, ct9, dt9, et9⟩ := hAW t it
  have qt9 : mt9 ≤ 4096 := by rw [dt9]; exact rmc_le _
  refine lv_lload_n hx hb dX8_put_0 rfl (lv_at hl 1 rfl) ?_
  refine va_mabs_long hx hb (by rw [hml]; exact hl.1.symm) hown (hts (.methodLink RX8 23 Lib.MathLoose.abs_long.x) (List.mem_of_getElem? (i := 1) rfl)) (hts (.static Lib.MathLoose.abs_long.x) (List.mem_of_getElem? (i := 2) rfl)) (hts (.initialized "java/lang/Math") (List.mem_of_getElem? (i := 3) rfl)) (hts (.code Lib.MathLoose.abs_long.x Lib.MathLoose.abs_long.code 2 (some .long)) (List.mem_of_getElem? (i := 4) rfl)) (Nat.le_of_ble_eq_true rfl) (Nat.le_of_ble_eq_true rfl) (Nat.le_of_ble_eq_true rfl) (Nat.le_of_ble_eq_true rfl) dX8_put_1 ?_
  refine lv_topl (fun y_1 e_2 => ?_)
  refine lv_lstore_n (lv' := [(3, .long y_1), (0, .ref (ad (2 * t))), (1, .long v)]) hx hb dX8_put_4 rfl hl (by decide) rfl (fun ls hl => ?_)
  have loop_3 : ∀ (bb : Nat) (ab : Int64), (bb < 2) → ∀ (H : Heap) (locs : List Loc) (ls : Array Slot), va_P (dC, dI) vwCl (wo ad NSc g) H → va_S A s.heap H locs → lv_has ls 6 [(3, .long ab), (0, .ref (ad (2 * t)))] → W p l e (headSpec wd_X8_put ({ frames := 20, cells := 0, slots := 0, locals := 400 })).room s m ([.ref (ad (2 * t)), .long v] : List Value).toArray below meth c H locs (0) (0) (MQ below (va_Qv (fun (u : Nat → va_E) => match u with | g2 => (∀ k, k ≠ 2 * t ∧ k ≠ 2 * t + 1 → g2 k = g k) ∧ AW ad cA g2) (fun (u : Nat → va_E) (t : State) => va_P (dC, dI) vwCl (wo ad NSc u) t.heap) A) ([.ref (ad (2 * t)), .long v] : List Value).toArray s (0) (0) A) (F0 m 17 ls [.int (nI bb), .ref (ad (2 * t))]) := by
    intro bb ab hbb H locs ls hP hS hl
    refine m_put (D := (dC, dI)) (v := .int (nI bb)) (tv := .boolean) (C := RX8) (T := TX8) (N := 3) hx hb hts bk0 tyX8 tyX8_ok nmX8 hown hK hP hD hS (2 * t) (ns_w (by omega)) at9 rfl 2 (by decide) (hts (.fieldLink RX8 19 "GradientDesk$Whole" "below" "Z") (List.mem_of_getElem? (i := 5) rfl)) (fun _ h9 => h9) rfl (by decide +kernel) (k_narZ2 (by omega)) (k_fitZ2 (by omega)) (Nat.le_of_ble_eq_true rfl) dX8_put_17 (fun H locs g_7 f_8 fr_9 hP hS => ?_)
    have f_8 : g_7 (2 * t) = .inr (11, [.ref (ad (2 * t + 1)), .int (nI st9), .int (nI bb)]) := f_8
    refine lv_aload_n hx hb dX8_put_20 rfl (lv_at hl 1 rfl) ?_
    refine lv_iconst (v := nI 0) hx hb dX8_put_21 (by decide +kernel) ?_
    refine m_put (D := (dC, dI)) (v := .int (nI 0)) (tv := .int) (C := RX8) (T := TX8) (N := 3) hx hb hts bk0 tyX8 tyX8_ok nmX8 hown hK hP hD hS (2 * t) (ns_w (by omega)) f_8 rfl 1 (by decide) (hts (.fieldLink RX8 15 "GradientDesk$Whole" "size" "I") (List.mem_of_getElem? (i := 6) rfl)) (fun _ h9 => h9) rfl (by decide +kernel) rfl rfl (Nat.le_of_ble_eq_true rfl) dX8_put_22 (fun H locs g_10 f_11 fr_12 hP hS => ?_)
    have f_11 : g_10 (2 * t) = .inr (11, [.ref (ad (2 * t + 1)), .int (nI 0), .int (nI bb)]) := f_11
    refine lv_iconst (v := nI 0) hx hb dX8_put_25 (by decide +kernel) ?_
    refine lv_istore (lv' := [(5, .int (nI 0)), (3, .long ab), (0, .ref (ad (2 * t)))]) hx hb dX8_put_26 hl (by decide) rfl (fun ls hl => ?_)
    have loop_13 : ∀ (k9 : Nat) (i : Nat) (sz : Nat) (ff : Nat → Int32) (lf : Int64) (g_15 : Nat → va_E) (fr_16 : ∀ k, (k ≠ 2 * t ∧ k ≠ 2 * t + 1) → g_15 k = g_10 k), 2 - i < k9 → (sz ≤ mt9) → (i ≤ 2) → (g_15 (2 * t) = .inr (11, [.ref (ad (2 * t + 1)), .int (nI sz), .int (nI bb)])) → (g_15 (2 * t + 1) = .inl (cA (2 * t + 1), mt9, .inl ff)) → ∀ (H : Heap) (locs : List Loc) (ls : Array Slot), va_P (dC, dI) vwCl (wo ad NSc g_15) H → va_S A s.heap H locs → lv_has ls 6 [(5, .int (nI i)), (3, .long lf), (0, .ref (ad (2 * t)))] → W p l e (headSpec wd_X8_put ({ frames := 20, cells := 0, slots := 0, locals := 400 })).room s m ([.ref (ad (2 * t)), .long v] : List Value).toArray below meth c H locs (0) (0) (MQ below (va_Qv (fun (u : Nat → va_E) => match u with | g2 => (∀ k, k ≠ 2 * t ∧ k ≠ 2 * t + 1 → g2 k = g k) ∧ AW ad cA g2) (fun (u : Nat → va_E) (t : State) => va_P (dC, dI) vwCl (wo ad NSc u) t.heap) A) ([.ref (ad (2 * t)), .long v] : List Value).toArray s (0) (0) A) (F0 m 28 ls []) := by
      intro k9
      induction k9 with
      | zero => intro i sz ff lf g_15 fr_16 h9; exact absurd h9 (Nat.not_lt_zero _)
      | succ k9 ih_14 =>
        intro i sz ff lf g_15 fr_16 h9 hsz hi f_17 f_18 H locs ls hP hS hl
        refine lv_iload hx hb dX8_put_28 (lv_at hl 0 rfl) ?_
        refine lv_iconst (v := nI 2) hx hb dX8_put_30 (by decide +kernel) ?_
        refine lv_icmp_ge (tgt := 78) hx hb dX8_put_31 (by decide) (fun c_19 => ?_) (fun c_19 => ?_)
        · have c_19 := (nI_leI (a := 2) (b := i) (by decide) (by omega)).mp c_19
          refine W.widen (k := 0) (n := 0) (by omega) (by omega) ?_
          exact W.vret hx hb hr (fun t9 ht9 hW9 => ⟨⟨g_15, rfl, ⟨(fun (k : Nat) (hk : k ≠ 2 * t ∧ k ≠ 2 * t + 1) => (fr_16 k (by omega)).trans ((fr_12 k (by omega)).trans ((fr_9 k (by omega)).trans (rfl)))), AW.put (t := t) hAW (fun (k : Nat) (hk : k ≠ 2 * t ∧ k ≠ 2 * t + 1) => (fr_16 k (by omega)).trans ((fr_12 k (by omega)).trans ((fr_9 k (by omega)).trans (rfl)))) ⟨f_17, f_18, by omega, by omega, by omega⟩⟩, by show va_P (dC, dI) vwCl _ t9.heap; rw [ht9]; exact hP⟩, hS.F ht9⟩) hS.2.2 dX8_put_78
        · have c_19 := mt (nI_leI (a := 2) (b := i) (by decide) (by omega)).mpr c_19
          refine lv_iload hx hb dX8_put_34 (lv_at hl 0 rfl) ?_
          refine lv_aload_n hx hb dX8_put_36 rfl (lv_at hl 2 rfl) ?_
          refine m_get (D := (dC, dI)) (v := .ref (ad (2 * t + 1))) (C := RX8) (T := TX8) (N := 3) hx hb hts bk0 hown hK hP (2 * t) (ns_w (by omega)) f_17 rfl 0 (by decide) (hts (.fieldLink RX8 9 "GradientDesk$Whole" "words" "[I") (List.mem_of_getElem? (i := 7) rfl)) (fun _ h9 => h9) rfl dX8_put_37 ?_
          refine m_alen hx hb hK hP (2 * t + 1) (ns_w (by omega)) f_18 dX8_put_40 ?_
          refine lv_icmp_ge (tgt := 78) hx hb dX8_put_41 (by decide) (fun c_20 => ?_) (fun c_20 => ?_)
          · have c_20 := (nI_leI (a := mt9) (b := i) (by omega) (by omega)).mp c_20
            refine W.widen (k := 0) (n := 0) (by omega) (by omega) ?_
            exact W.vret hx hb hr (fun t9 ht9 hW9 => ⟨⟨g_15, rfl, ⟨(fun (k : Nat) (hk : k ≠ 2 * t ∧ k ≠ 2 * t + 1) => (fr_16 k (by omega)).trans ((fr_12 k (by omega)).trans ((fr_9 k (by omega)).trans (rfl)))), AW.put (t := t) hAW (fun (k : Nat) (hk : k ≠ 2 * t ∧ k ≠ 2 * t + 1) => (fr_16 k (by omega)).trans ((fr_12 k (by omega)).trans ((fr_9 k (by omega)).trans (rfl)))) ⟨f_17, f_18, by omega, by omega, by omega⟩⟩, by show va_P (dC, dI) vwCl _ t9.heap; rw [ht9]; exact hP⟩, hS.F ht9⟩) hS.2.2 dX8_put_78
          · have c_20 := mt (nI_leI (a := mt9) (b := i) (by omega) (by omega)).mpr c_20
            refine lv_lload_n hx hb dX8_put_44 rfl (lv_at hl 1 rfl) ?_
            refine lv_lconst (v := lN 0) hx hb dX8_put_45 (by decide +kernel) ?_
            refine W.lcmp hx hb dX8_put_46 ?_
            refine lv_if_eq (tgt := 78) hx hb dX8_put_47 (by decide) (fun c_21 => ?_) (fun c_21 => ?_)
            · clear c_21
              refine W.widen (k := 0) (n := 0) (by omega) (by omega) ?_
              exact W.vret hx hb hr (fun t9 ht9 hW9 => ⟨⟨g_15, rfl, ⟨(fun (k : Nat) (hk : k ≠ 2 * t ∧ k ≠ 2 * t + 1) => (fr_16 k (by omega)).trans ((fr_12 k (by omega)).trans ((fr_9 k (by omega)).trans (rfl)))), AW.put (t := t) hAW (fun (k : Nat) (hk : k ≠ 2 * t ∧ k ≠ 2 * t + 1) => (fr_16 k (by omega)).trans ((fr_12 k (by omega)).trans ((fr_9 k (by omega)).trans (rfl)))) ⟨f_17, f_18, by omega, by omega, by omega⟩⟩, by show va_P (dC, dI) vwCl _ t9.heap; rw [ht9]; exact hP⟩, hS.F ht9⟩) hS.2.2 dX8_put_78
            · clear c_21
              refine lv_aload_n hx hb dX8_put_50 rfl (lv_at hl 2 rfl) ?_
              refine m_get (D := (dC, dI)) (v := .ref (ad (2 * t + 1))) (C := RX8) (T := TX8) (N := 3) hx hb hts bk0 hown hK hP (2 * t) (ns_w (by omega)) f_17 rfl 0 (by decide) (hts (.fieldLink RX8 9 "GradientDesk$Whole" "words" "[I") (List.mem_of_getElem? (i := 7) rfl)) (fun _ h9 => h9) rfl dX8_put_51 ?_
              refine lv_iload hx hb dX8_put_54 (lv_at hl 0 rfl) ?_
              refine lv_lload_n hx hb dX8_put_56 rfl (lv_at hl 1 rfl) ?_
              refine lv_l2i hx hb dX8_put_57 rfl ?_
              refine lv_topi (fun x_22 e_23 => ?_)
              refine m_iast hx hb hK hP hD hS (2 * t + 1) (ns_w (by omega)) (tyc_w (by omega)) f_18 (i := i) (x := x_22) (by omega) (by omega) dX8_put_58 (fun H locs g_24 f_25 fr_26 hP hS => ?_)
              have f_25 : g_24 (2 * t + 1) = .inl (cA (2 * t + 1), mt9, .inl (upd ff i x_22)) := f_25
              refine lv_lload_n hx hb dX8_put_59 rfl (lv_at hl 1 rfl) ?_
              refine lv_bipush (v := nI 32) hx hb dX8_put_60 (by decide +kernel) ?_
              refine lv_lushr hx hb dX8_put_62 rfl ?_
              refine lv_topl (fun y_27 e_28 => ?_)
              refine lv_lstore_n (lv' := [(3, .long y_27), (5, .int (nI i)), (0, .ref (ad (2 * t)))]) hx hb dX8_put_63 rfl hl (by decide) rfl (fun ls hl => ?_)
              refine lv_aload_n hx hb dX8_put_64 rfl (lv_at hl 2 rfl) ?_
              refine lv_iload hx hb dX8_put_65 (lv_at hl 1 rfl) ?_
              refine lv_iconst (v := nI 1) hx hb dX8_put_67 (by decide +kernel) ?_
              refine lv_iadd hx hb dX8_put_68 ?_
              refine lv_topi (fun x_29 e_30 => ?_)
              obtain rfl : x_29 = nI (i + 1) := e_30.trans (nI_add i 1)
              have f_31 : g_24 (2 * t) = .inr (11, [.ref (ad (2 * t + 1)), .int (nI sz), .int (nI bb)]) := (fr_26 (2 * t) (by omega)).trans f_17
              refine m_put (D := (dC, dI)) (v := .int (nI (i + 1))) (tv := .int) (C := RX8) (T := TX8) (N := 3) hx hb hts bk0 tyX8 tyX8_ok nmX8 hown hK hP hD hS (2 * t) (ns_w (by omega)) f_31 rfl 1 (by decide) (hts (.fieldLink RX8 15 "GradientDesk$Whole" "size" "I") (List.mem_of_getElem? (i := 6) rfl)) (fun _ h9 => h9) rfl (by decide +kernel) rfl rfl (Nat.le_of_ble_eq_true rfl) dX8_put_69 (fun H locs g_32 f_33 fr_34 hP hS => ?_)
              have f_33 : g_32 (2 * t) = .inr (11, [.ref (ad (2 * t + 1)), .int (nI (i + 1)), .int (nI bb)]) := f_33
              refine lv_iinc (v := nI (i + 1)) (lv' := [(5, .int (nI (i + 1))), (3, .long y_27), (0, .ref (ad (2 * t)))]) hx hb dX8_put_72 hl (k := 1) rfl (nI_add i 1) (by decide) rfl (fun ls hl => ?_)
              refine lv_goto (tgt := 28) hx hb dX8_put_75 (by decide) ?_
              have f_37 : g_32 (2 * t + 1) = .inl (cA (2 * t + 1), mt9, .inl (upd ff i x_22)) := (fr_34 (2 * t + 1) (by omega)).trans f_25
              exact ih_14 (i + 1) (i + 1) (upd ff i x_22) y_27 g_32 (fun (k : Nat) (hk : k ≠ 2 * t ∧ k ≠ 2 * t + 1) => (fr_34 k (by omega)).trans ((fr_26 k (by omega)).trans ((fr_16 k (by omega)).trans (rfl)))) (by omega) (by omega) (by omega) f_33 f_37 _ _ _ hP hS (lv_sub (l' := [(5, .int (nI (i + 1))), (3, .long y_27), (0, .ref (ad (2 * t)))]) hl [0, 1, 2] rfl)
    have f_38 : g_10 (2 * t + 1) = .inl (cA (2 * t + 1), mt9, .inl ft9) := (fr_12 (2 * t + 1) (by omega)).trans ((fr_9 (2 * t + 1) (by omega)).trans bt9)
    exact loop_13 _ 0 0 ft9 ab g_10 (fun (k : Nat) (hk : k ≠ 2 * t ∧ k ≠ 2 * t + 1) => rfl) (Nat.lt_succ_self _) (by omega) (by omega) f_11 f_38 _ _ _ hP hS (lv_sub (l' := [(5, .int (nI 0)), (3, .long ab), (0, .ref (ad (2 * t)))]) hl [0, 1, 2] rfl)
  refine lv_aload_n hx hb dX8_put_5 rfl (lv_at hl 1 rfl) ?_
  refine lv_lload_n hx hb dX8_put_6 rfl (lv_at hl 2 rfl) ?_
  refine lv_lconst (v := lN 0) hx hb dX8_put_7 (by decide +kernel) ?_
  refine W.lcmp hx hb dX8_put_8 ?_
  refine lv_if_ge (tgt := 16) hx hb dX8_put_9 (by decide) (fun c_39 => ?_) (fun c_39 => ?_)
  · clear c_39
    refine lv_iconst (v := nI 0) hx hb dX8_put_16 (by decide +kernel) ?_
    exact loop_3 0 y_1 (by decide) _ _ _ hP hS (lv_sub (l' := [(3, .long y_1), (0, .ref (ad (2 * t)))]) hl [0, 1] rfl)
  · clear c_39
    refine lv_iconst (v := nI 1) hx hb dX8_put_12 (by decide +kernel) ?_
    refine lv_goto (tgt := 17) hx hb dX8_put_13 (by decide) ?_
    exact loop_3 1 y_1 (by decide) _ _ _ hP hS (lv_sub (l' := [(3, .long y_1), (0, .ref (ad (2 * t)))]) hl [0, 1] rfl)
def wd_J_range : List Cond := .code yJ7_rangeCheck_23922 cJ7_rangeCheck_23922 3 none :: (([] : List Cond) ++ ([]))
theorem gw_J_range : wd_J_range.all goodWord = true := k_allc rfl (k_all (by decide +kernel) (rfl))
set_option maxHeartbeats 4000000 in
set_option maxRecDepth 100000 in
theorem c_J_range (l : Launch) (dC : Nat → ClassId) (dI : Nat → Nat → Nat) (A : Nat → Prop) (ad : Nat → Nat) (cA : Nat → ClassId) (g : Nat → va_E) (n : Nat) (a : Nat) (b : Nat) (h1 : a ≤ b) (h2 : b ≤ n) (h3 : n < 2 ^ 31) : Met l yJ7_rangeCheck_23922 wd_J_range ({ frames := 10, cells := 0, slots := 0, locals := 200 }) (va_Pc [.int (nI n), .int (nI a), .int (nI b)] (PR NSc tyc dC dI A ad cA g)) (va_Qv (fun (u : Unit) => match u with | () => True) (fun (u : Unit) (t : State) => va_P (dC, dI) vwCl (wo ad NSc g) t.heap) A) (0) (0) A := by
  refine Met.ofW (cc := cJ7_rangeCheck_23922) (maxL := 3) (ret := none) (by decide) rfl ?_
  intro p e s m args below meth c s₁ B hml hv
  obtain ⟨rfl, hA, hP, hL⟩ := hv
  have hx := B.exec
  have hb := B.bytes
  have hr := B.returns
  have hts := atoms_spec (ws := wd_J_range) B.pre
  have hown : s.vm.findClass RJ7 = some m.cls := findClass_of_methodNamed B.named
  have hlocks := B.notSynchronized
  have hK := hL.1
  have hD : ∀ g, va_D A (wo ad NSc g) := fun g => wo_D hL.2.1 hL.2.2 g
  have hS : va_S A s.heap s.heap [] := va_S.rf
  have hl := lv_entry ([.int (nI n), .int (nI a), .int (nI b)]) (n := 3) (Nat.le_of_ble_eq_true rfl)
  rw [lg_entry_eq]
  generalize (lg_sl ([.int (nI n), .int (nI a), .int (nI b)]) ++ List.replicate (3 - (lg_sl ([.int (nI n), .int (nI a), .int (nI b)])).length) Slot.unset).toArray = ls at hl ⊢
  have hl : lv_has ls 3 [(0, .int (nI n)), (1, .int (nI a)), (2, .int (nI b))] := hl
  refine lv_iload_n hx hb dJ7_rangeCheck_23922_0 rfl (lv_at hl 1 rfl) ?_
  refine lv_iload_n hx hb dJ7_rangeCheck_23922_1 rfl (lv_at hl 2 rfl) ?_
  refine lv_icmp_le (tgt := 46) hx hb dJ7_rangeCheck_23922_2 (by decide) (fun c_1 => ?_) (fun c_1 => absurd (mt (nI_leI (a := a) (b := b) (by omega) (by omega)).mpr c_1) (by omega))
  refine lv_iload_n hx hb dJ7_rangeCheck_23922_46 rfl (lv_at hl 1 rfl) ?_
  refine lv_if_ge (tgt := 59) hx hb dJ7_rangeCheck_23922_47 (by decide) (fun c_2 => ?_) (fun c_2 => absurd (nI_pos (show a < 2 ^ 31 by omega)) (fun h9 => h9 (Int32.not_le.mp c_2)))
  refine lv_iload_n hx hb dJ7_rangeCheck_23922_59 rfl (lv_at hl 2 rfl) ?_
  refine lv_iload_n hx hb dJ7_rangeCheck_23922_60 rfl (lv_at hl 0 rfl) ?_
  refine lv_icmp_le (tgt := 73) hx hb dJ7_rangeCheck_23922_61 (by decide) (fun c_3 => ?_) (fun c_3 => absurd (mt (nI_leI (a := b) (b := n) (by omega) (by omega)).mpr c_3) (by omega))
  refine W.widen (k := 0) (n := 0) (by omega) (by omega) ?_
  exact W.vret hx hb hr (fun t9 ht9 hW9 => ⟨⟨(), rfl, trivial, by show va_P (dC, dI) vwCl _ t9.heap; rw [ht9]; exact hP⟩, hS.F ht9⟩) hS.2.2 dJ7_rangeCheck_23922_73
def wd_J_fill : List Cond := .code yJ7_fill_fda19 cJ7_fill_fda19 5 none :: (([.methodLink RJ7 13 yJ7_rangeCheck_23922, .static yJ7_rangeCheck_23922, .initialized RJ7] : List Cond) ++ (wd_J_range ++ ([])))
theorem gw_J_fill : wd_J_fill.all goodWord = true := k_allc rfl (k_all (by decide +kernel) (k_all (gw_J_range) (rfl)))
set_option maxHeartbeats 4000000 in
set_option maxRecDepth 100000 in
theorem c_J_fill (l : Launch) (dC : Nat → ClassId) (dI : Nat → Nat → Nat) (A : Nat → Prop) (ad : Nat → Nat) (cA : Nat → ClassId) (g : Nat → va_E) (t : Nat) (n : Nat) (f : Nat → Int32) (b : Nat) (v : Int32) (it : t < 1038) (hg : g (2 * t + 1) = .inl (cA (2 * t + 1), n, .inl f)) (hb9 : b ≤ n) (hn : n ≤ 4096) : Met l yJ7_fill_fda19 wd_J_fill ({ frames := 20, cells := 0, slots := 0, locals := 400 }) (va_Pc [.ref (ad (2 * t + 1)), .int (nI 0), .int (nI b), .int v] (PR NSc tyc dC dI A ad cA g)) (va_Qv (fun (u : (Nat → va_E) × (Nat → Int32)) => match u with | (g2, f2) => (∀ k, k ≠ 2 * t + 1 → g2 k = g k) ∧ g2 (2 * t + 1) = .inl (cA (2 * t + 1), n, .inl f2)) (fun (u : (Nat → va_E) × (Nat → Int32)) (t : State) => va_P (dC, dI) vwCl (wo ad NSc u.1) t.heap) A) (0) (0) A := by
  refine Met.ofW (cc := cJ7_fill_fda19) (maxL := 5) (ret := none) (by decide) rfl ?_
  intro p e s m args below meth c s₁ B hml hv
  obtain ⟨rfl, hA, hP, hL⟩ := hv
  have hx := B.exec
  have hb := B.bytes
  have hr := B.returns
  have hts := atoms_spec (ws := wd_J_fill) B.pre
  have hown : s.vm.findClass RJ7 = some m.cls := findClass_of_methodNamed B.named
  have hlocks := B.notSynchronized
  have hK := hL.1
  have hD : ∀ g, va_D A (wo ad NSc g) := fun g => wo_D hL.2.1 hL.2.2 g
  have hS : va_S A s.heap s.heap [] := va_S.rf
  have bk0 : ∀ w ∈ wd_J_range, w ∈ wd_J_fill := fun _ h => List.mem_cons_of_mem _ (List.mem_append_right _ (List.mem_append_left _ h))
  have hl := lv_entry ([.ref (ad (2 * t + 1)), .int (nI 0), .int (nI b), .int v]) (n := 5) (Nat.le_of_ble_eq_true rfl)
  rw [lg_entry_eq]
  generalize (lg_sl ([.ref (ad (2 * t + 1)), .int (nI 0), .int (nI b), .int v]) ++ List.replicate (5 - (lg_sl ([.ref (ad (2 * t + 1)), .int (nI 0), .int (nI b), .int v])).length) Slot.unset).toArray = ls at hl ⊢
  have hl : lv_has ls 5 [(0, .ref (ad (2 * t + 1))), (1, .int (nI 0)), (2, .int (nI b)), (3, .int v)] := hl
  refine lv_aload_n hx hb dJ7_fill_fda19_0 rfl (lv_at hl 0 rfl) ?_
  refine m_alen hx hb hK hP (2 * t + 1) (ns_w (by omega)) hg dJ7_fill_fda19_1 ?_
  refine lv_iload_n hx hb dJ7_fill_fda19_2 rfl (lv_at hl 1 rfl) ?_
  refine lv_iload_n hx hb dJ7_fill_fda19_3 rfl (lv_at hl 2 rfl) ?_
  refine va_callv (va_runS (As := [.int (nI n), .int (nI 0), .int (nI b)]) (rest := []) ⟨hx, hb, hml, hown, hts⟩ (c_J_range l dC dI A ad cA g n 0 b (Nat.zero_le _) hb9 (by omega)) (va_cwS 3 hts (goodIn_app (goodIn_r [Cond.methodLink RJ7 13 yJ7_rangeCheck_23922, Cond.static yJ7_rangeCheck_23922, Cond.initialized RJ7] [1, 2, 3] rfl rfl) (goodIn_sub (fun w9 h9 => bk0 w9 h9) gw_J_range)) rfl rfl rfl (by decide +kernel) ⟨Nat.le_of_ble_eq_true rfl, Nat.le_of_ble_eq_true rfl⟩) ⟨fun a U g mk q => ⟨q.1, q.2.1, q.2.2.1, LY.moved (u := U) (U := U.calling g mk a) (Vm.Alike.refl U.vm) q.2.2.2⟩, fun U hU hW => ⟨rfl, by rw [hU]; exact fun q h => hA q (Nat.le_trans hS.1 h), by rw [hU]; exact hP, LY.moved hW.alike hL⟩⟩ rfl rfl hl.1 rfl (lv_room (Nat.le_of_ble_eq_true rfl)) dJ7_fill_fda19_4 ⟨(Nat.le_of_ble_eq_true rfl), (Nat.le_of_ble_eq_true rfl)⟩) hS (fun q _ h => h) (fun q h => h) (fun u8 t8 H1 locs ht8 hvm8 hw_1 hB hz1 hk1 hS => ?_)
  obtain ⟨⟩ := u8
  try dsimp only at hw_1 hB
  rw [ht8] at hB
  have hP := hB
  generalize H1 = H at hP hS ⊢
  refine lv_iload_n hx hb dJ7_fill_fda19_7 rfl (lv_at hl 1 rfl) ?_
  refine lv_istore (lv' := [(4, .int (nI 0)), (0, .ref (ad (2 * t + 1))), (1, .int (nI 0)), (2, .int (nI b)), (3, .int v)]) hx hb dJ7_fill_fda19_8 hl (by decide) rfl (fun ls hl => ?_)
  have loop_2 : ∀ (k9 : Nat) (i : Nat) (ff : Nat → Int32) (g_4 : Nat → va_E) (fr_5 : ∀ k, (k ≠ 2 * t + 1) → g_4 k = g k), b - i < k9 → (i ≤ b) → (g_4 (2 * t + 1) = .inl (cA (2 * t + 1), n, .inl ff)) → ∀ (H : Heap) (locs : List Loc) (ls : Array Slot), va_P (dC, dI) vwCl (wo ad NSc g_4) H → va_S A s.heap H locs → lv_has ls 5 [(4, .int (nI i)), (0, .ref (ad (2 * t + 1))), (2, .int (nI b)), (3, .int v)] → W p l e (headSpec wd_J_fill ({ frames := 20, cells := 0, slots := 0, locals := 400 })).room s m ([.ref (ad (2 * t + 1)), .int (nI 0), .int (nI b), .int v] : List Value).toArray below meth c H locs (0) (0) (MQ below (va_Qv (fun (u : (Nat → va_E) × (Nat → Int32)) => match u with | (g2, f2) => (∀ k, k ≠ 2 * t + 1 → g2 k = g k) ∧ g2 (2 * t + 1) = .inl (cA (2 * t + 1), n, .inl f2)) (fun (u : (Nat → va_E) × (Nat → Int32)) (t : State) => va_P (dC, dI) vwCl (wo ad NSc u.1) t.heap) A) ([.ref (ad (2 * t + 1)), .int (nI 0), .int (nI b), .int v] : List Value).toArray s (0) (0) A) (F0 m 10 ls []) := by
    intro k9
    induction k9 with
    | zero => intro i ff g_4 fr_5 h9; exact absurd h9 (Nat.not_lt_zero _)
    | succ k9 ih_3 =>
      intro i ff g_4 fr_5 h9 hi f_6 H locs ls hP hS hl
      refine lv_iload hx hb dJ7_fill_fda19_10 (lv_at hl 0 rfl) ?_
      refine lv_iload_n hx hb dJ7_fill_fda19_12 rfl (lv_at hl 2 rfl) ?_
      refine lv_icmp_ge (tgt := 27) hx hb dJ7_fill_fda19_13 (by decide) (fun c_7 => ?_) (fun c_7 => ?_)
      · have c_7 := (nI_leI (a := b) (b := i) (by omega) (by omega)).mp c_7
        refine W.widen (k := 0) (n := 0) (by omega) (by omega) ?_
        exact W.vret hx hb hr (fun t9 ht9 hW9 => ⟨⟨(g_4, ff), rfl, ⟨(fun (k : Nat) (hk : k ≠ 2 * t + 1) => (fr_5 k (by omega)).trans (rfl)), f_6⟩, by show va_P (dC, dI) vwCl _ t9.heap; rw [ht9]; exact hP⟩, hS.F ht9⟩) hS.2.2 dJ7_fill_fda19_27
      · have c_7 := mt (nI_leI (a := b) (b := i) (by omega) (by omega)).mpr c_7
        refine lv_aload_n hx hb dJ7_fill_fda19_16 rfl (lv_at hl 1 rfl) ?_
        refine lv_iload hx hb dJ7_fill_fda19_17 (lv_at hl 0 rfl) ?_
        refine lv_iload_n hx hb dJ7_fill_fda19_19 rfl (lv_at hl 3 rfl) ?_
        refine m_iast hx hb hK hP hD hS (2 * t + 1) (ns_w (by omega)) (tyc_w (by omega)) f_6 (i := i) (x := v) (by omega) (by omega) dJ7_fill_fda19_20 (fun H locs g_8 f_9 fr_10 hP hS => ?_)
        have f_9 : g_8 (2 * t + 1) = .inl (cA (2 * t + 1), n, .inl (upd ff i v)) := f_9
        refine lv_iinc (v := nI (i + 1)) (lv' := [(4, .int (nI (i + 1))), (0, .ref (ad (2 * t + 1))), (2, .int (nI b)), (3, .int v)]) hx hb dJ7_fill_fda19_21 hl (k := 0) rfl (nI_add i 1) (by decide) rfl (fun ls hl => ?_)
        refine lv_goto (tgt := 10) hx hb dJ7_fill_fda19_24 (by decide) ?_
        exact ih_3 (i + 1) (upd ff i v) g_8 (fun (k : Nat) (hk : k ≠ 2 * t + 1) => (fr_10 k (by omega)).trans ((fr_5 k (by omega)).trans (rfl))) (by omega) (by omega) f_9 _ _ _ hP hS (lv_sub (l' := [(4, .int (nI (i + 1))), (0, .ref (ad (2 * t + 1))), (2, .int (nI b)), (3, .int v)]) hl [0, 1, 2, 3] rfl)
  exact loop_2 _ 0 f g (fun (k : Nat) (hk : k ≠ 2 * t + 1) => rfl) (Nat.lt_succ_self _) (by omega) hg _ _ _ hP hS (lv_sub (l' := [(4, .int (nI 0)), (0, .ref (ad (2 * t + 1))), (2, .int (nI b)), (3, .int v)]) hl [0, 1, 3, 4] rfl)
def wd_X8_multiply : List Cond := .code yX8_multiply cX8_multiply 10 none :: (([.fieldLink RX8 19 "GradientDesk$Whole" "below" "Z", .fieldLink RX8 15 "GradientDesk$Whole" "size" "I", .fieldLink RX8 9 "GradientDesk$Whole" "words" "[I", .methodLink RX8 58 yJ7_fill_fda19, .static yJ7_fill_fda19, .initialized RJ7, .constantLong RX8 48 (4294967295), .methodLink RX8 29 Lib.Math.min.name, .static Lib.Math.min.name, .initialized "java/lang/Math", .code Lib.Math.min.name Lib.Math.min.code 2 (some .int)] : List Cond) ++ (u_ws RX8 TX8 3 ++ (wd_J_fill ++ ([]))))
theorem gw_X8_multiply : wd_X8_multiply.all goodWord = true := k_allc rfl (k_all (by decide +kernel) (k_all (gu_X8) (k_all (gw_J_fill) (rfl))))
set_option maxHeartbeats 4000000 in
set_option maxRecDepth 100000 in
theorem c_X8_multiply (l : Launch) (dC : Nat → ClassId) (dI : Nat → Nat → Nat) (A : Nat → Prop) (ad : Nat → Nat) (cA : Nat → ClassId) (g : Nat → va_E) (t : Nat) (x : Nat) (y : Nat) (hAW : AW ad cA g) (it : t < 1038) (ix : x < 1038) (iy : y < 1038) (htx : t ≠ x) (hty : t ≠ y) : Met l yX8_multiply wd_X8_multiply ({ frames := 30, cells := 0, slots := 0, locals := 600 }) (va_Pc [.ref (ad (2 * t)), .ref (ad (2 * x)), .ref (ad (2 * y))] (PR NSc tyc dC dI A ad cA g)) (va_Qv (fun (u : Nat → va_E) => match u with | g2 => (∀ k, k ≠ 2 * t ∧ k ≠ 2 * t + 1 → g2 k = g k) ∧ AW ad cA g2) (fun (u : Nat → va_E) (t : State) => va_P (dC, dI) vwCl (wo ad NSc u) t.heap) A) (0) (0) A := by
  refine Met.ofW (cc := cX8_multiply) (maxL := 10) (ret := none) (by decide) rfl ?_
  intro p e s m args below meth c s₁ B hml hv
  obtain ⟨rfl, hA, hP, hL⟩ := hv
  have hx := B.exec
  have hb := B.bytes
  have hr := B.returns
  have hts := atoms_spec (ws := wd_X8_multiply) B.pre
  have hown : s.vm.findClass RX8 = some m.cls := findClass_of_methodNamed B.named
  have hlocks := B.notSynchronized
  have hK := hL.1
  have hD : ∀ g, va_D A (wo ad NSc g) := fun g => wo_D hL.2.1 hL.2.2 g
  have hS : va_S A s.heap s.heap [] := va_S.rf
  have bk0 : ∀ w ∈ u_ws RX8 TX8 3, w ∈ wd_X8_multiply := fun _ h => List.mem_cons_of_mem _ (List.mem_append_right _ (List.mem_append_left _ h))
  have bk1 : ∀ w ∈ wd_J_fill, w ∈ wd_X8_multiply := fun _ h => List.mem_cons_of_mem _ (List.mem_append_right _ (List.mem_append_right _ (List.mem_append_left _ h)))
  have hl := lv_entry ([.ref (ad (2 * t)), .ref (ad (2 * x)), .ref (ad (2 * y))]) (n := 10) (Nat.le_of_ble_eq_true rfl)
  rw [lg_entry_eq]
  generalize (lg_sl ([.ref (ad (2 * t)), .ref (ad (2 * x)), .ref (ad (2 * y))]) ++ List.replicate (10 - (lg_sl ([.ref (ad (2 * t)), .ref (ad (2 * x)), .ref (ad (2 * y))])).length) Slot.unset).toArray = ls at hl ⊢
  have hl : lv_has ls 10 [(0, .ref (ad (2 * t))), (1, .ref (ad (2 * x))), (2, .ref (ad (2 * y)))] := hl
  obtain ⟨mt9, st9, nt9, ft9, at9, bt9, ct9, dt9, et9⟩ := hAW t it
  have qt9 : mt9 ≤ 4096 := by rw [dt9]; exact rmc_le _
  obtain ⟨mx9, sx9, nx9, fx9, ax9, bx9, cx9, dx9, ex9⟩ := hAW x ix
  have qx9 : mx9 ≤ 4096 := by rw [dx9]; exact rmc_le _
  obtain ⟨my9, sy9, ny9, fy9, ay9, by9, cy9, dy9, ey9⟩ := hAW y iy
  have qy9 : my9 ≤ 4096 := by rw [dy9]; exact rmc_le _
  have loop_1 : ∀ (b9 : Nat) (z8 : Nat) (ff : Nat → Int32) (g_3 : Nat → va_E) (fr_4 : ∀ k, (k ≠ 2 * t ∧ k ≠ 2 * t + 1) → g_3 k = g k), (b9 < 2) → (z8 ≤ mt9) → (g_3 (2 * t) = .inr (11, [.ref (ad (2 * t + 1)), .int (nI z8), .int (nI nt9)])) → (g_3 (2 * t + 1) = .inl (cA (2 * t + 1), mt9, .inl ff)) → ∀ (H : Heap) (locs : List Loc) (ls : Array Slot), va_P (dC, dI) vwCl (wo ad NSc g_3) H → va_S A s.heap H locs → lv_has ls 10 [(0, .ref (ad (2 * t)))] → W p l e (headSpec wd_X8_multiply ({ frames := 30, cells := 0, slots := 0, locals := 600 })).room s m ([.ref (ad (2 * t)), .ref (ad (2 * x)), .ref (ad (2 * y))] : List Value).toArray below meth c H locs (0) (0) (MQ below (va_Qv (fun (u : Nat → va_E) => match u with | g2 => (∀ k, k ≠ 2 * t ∧ k ≠ 2 * t + 1 → g2 k = g k) ∧ AW ad cA g2) (fun (u : Nat → va_E) (t : State) => va_P (dC, dI) vwCl (wo ad NSc u) t.heap) A) ([.ref (ad (2 * t)), .ref (ad (2 * x)), .ref (ad (2 * y))] : List Value).toArray s (0) (0) A) (F0 m 246 ls [.int (nI b9), .ref (ad (2 * t))]) := by
    intro b9 z8 ff g_3 fr_4 hb9 hz8 f_5 f_6 H locs ls hP hS hl
    refine m_put (D := (dC, dI)) (v := .int (nI b9)) (tv := .boolean) (C := RX8) (T := TX8) (N := 3) hx hb hts bk0 tyX8 tyX8_ok nmX8 hown hK hP hD hS (2 * t) (ns_w (by omega)) f_5 rfl 2 (by decide) (hts (.fieldLink RX8 19 "GradientDesk$Whole" "below" "Z") (List.mem_of_getElem? (i := 1) rfl)) (fun _ h9 => h9) rfl (by decide +kernel) (k_narZ2 (by omega)) (k_fitZ2 (by omega)) (Nat.le_of_ble_eq_true rfl) dX8_multiply_246 (fun H locs g_7 f_8 fr_9 hP hS => ?_)
    have f_8 : g_7 (2 * t) = .inr (11, [.ref (ad (2 * t + 1)), .int (nI z8), .int (nI b9)]) := f_8
    have f_10 : g_7 (2 * t + 1) = .inl (cA (2 * t + 1), mt9, .inl ff) := (fr_9 (2 * t + 1) (by omega)).trans f_6
    refine W.widen (k := 0) (n := 0) (by omega) (by omega) ?_
    exact W.vret hx hb hr (fun t9 ht9 hW9 => ⟨⟨g_7, rfl, ⟨(fun (k : Nat) (hk : k ≠ 2 * t ∧ k ≠ 2 * t + 1) => (fr_9 k (by omega)).trans ((fr_4 k (by omega)).trans (rfl))), AW.put (t := t) hAW (fun (k : Nat) (hk : k ≠ 2 * t ∧ k ≠ 2 * t + 1) => (fr_9 k (by omega)).trans ((fr_4 k (by omega)).trans (rfl))) ⟨f_8, f_10, by omega, by omega, by omega⟩⟩, by show va_P (dC, dI) vwCl _ t9.heap; rw [ht9]; exact hP⟩, hS.F ht9⟩) hS.2.2 dX8_multiply_249
  have loop_11 : ∀ (z9 : Nat) (ff : Nat → Int32) (g_13 : Nat → va_E) (fr_14 : ∀ k, (k ≠ 2 * t ∧ k ≠ 2 * t + 1) → g_13 k = g k), (z9 ≤ mt9) → (g_13 (2 * t) = .inr (11, [.ref (ad (2 * t + 1)), .int (nI st9), .int (nI nt9)])) → (g_13 (2 * t + 1) = .inl (cA (2 * t + 1), mt9, .inl ff)) → ∀ (H : Heap) (locs : List Loc) (ls : Array Slot), va_P (dC, dI) vwCl (wo ad NSc g_13) H → va_S A s.heap H locs → lv_has ls 10 [(0, .ref (ad (2 * t))), (1, .ref (ad (2 * x))), (2, .ref (ad (2 * y)))] → W p l e (headSpec wd_X8_multiply ({ frames := 30, cells := 0, slots := 0, locals := 600 })).room s m ([.ref (ad (2 * t)), .ref (ad (2 * x)), .ref (ad (2 * y))] : List Value).toArray below meth c H locs (0) (0) (MQ below (va_Qv (fun (u : Nat → va_E) => match u with | g2 => (∀ k, k ≠ 2 * t ∧ k ≠ 2 * t + 1 → g2 k = g k) ∧ AW ad cA g2) (fun (u : Nat → va_E) (t : State) => va_P (dC, dI) vwCl (wo ad NSc u) t.heap) A) ([.ref (ad (2 * t)), .ref (ad (2 * x)), .ref (ad (2 * y))] : List Value).toArray s (0) (0) A) (F0 m 219 ls [.int (nI z9), .ref (ad (2 * t))]) := by
    intro z9 ff g_13 fr_14 hz9 f_15 f_16 H locs ls hP hS hl
    refine m_put (D := (dC, dI)) (v := .int (nI z9)) (tv := .int) (C := RX8) (T := TX8) (N := 3) hx hb hts bk0 tyX8 tyX8_ok nmX8 hown hK hP hD hS (2 * t) (ns_w (by omega)) f_15 rfl 1 (by decide) (hts (.fieldLink RX8 15 "GradientDesk$Whole" "size" "I") (List.mem_of_getElem? (i := 2) rfl)) (fun _ h9 => h9) rfl (by decide +kernel) rfl rfl (Nat.le_of_ble_eq_true rfl) dX8_multiply_219 (fun H locs g_17 f_18 fr_19 hP hS => ?_)
    have f_18 : g_17 (2 * t) = .inr (11, [.ref (ad (2 * t + 1)), .int (nI z9), .int (nI nt9)]) := f_18
    refine lv_aload_n hx hb dX8_multiply_222 rfl (lv_at hl 0 rfl) ?_
    refine lv_aload_n hx hb dX8_multiply_223 rfl (lv_at hl 0 rfl) ?_
    refine m_get (D := (dC, dI)) (v := .int (nI z9)) (C := RX8) (T := TX8) (N := 3) hx hb hts bk0 hown hK hP (2 * t) (ns_w (by omega)) f_18 rfl 1 (by decide) (hts (.fieldLink RX8 15 "GradientDesk$Whole" "size" "I") (List.mem_of_getElem? (i := 2) rfl)) (fun _ h9 => h9) rfl dX8_multiply_224 ?_
    refine lv_if_le (tgt := 245) hx hb dX8_multiply_227 (by decide) (fun c_20 => ?_) (fun c_20 => ?_)
    · have c_20 := (nI_leI (a := z9) (b := 0) (by omega) (by decide)).mp c_20
      refine lv_iconst (v := nI 0) hx hb dX8_multiply_245 (by decide +kernel) ?_
      have f_21 : g_17 (2 * t + 1) = .inl (cA (2 * t + 1), mt9, .inl ff) := (fr_19 (2 * t + 1) (by omega)).trans f_16
      exact loop_1 0 z9 ff g_17 (fun (k : Nat) (hk : k ≠ 2 * t ∧ k ≠ 2 * t + 1) => (fr_19 k (by omega)).trans ((fr_14 k (by omega)).trans (rfl))) (by omega) (by omega) f_18 f_21 _ _ _ hP hS (lv_sub (l' := [(0, .ref (ad (2 * t)))]) hl [0] rfl)
    · have c_20 := mt (nI_leI (a := z9) (b := 0) (by omega) (by decide)).mpr c_20
      refine lv_aload_n hx hb dX8_multiply_230 rfl (lv_at hl 1 rfl) ?_
      have f_22 : g_17 (2 * x) = .inr (11, [.ref (ad (2 * x + 1)), .int (nI sx9), .int (nI nx9)]) := (fr_19 (2 * x) (by omega)).trans ((fr_14 (2 * x) (by omega)).trans ax9)
      refine m_get (D := (dC, dI)) (v := .int (nI nx9)) (C := RX8) (T := TX8) (N := 3) hx hb hts bk0 hown hK hP (2 * x) (ns_w (by omega)) f_22 rfl 2 (by decide) (hts (.fieldLink RX8 19 "GradientDesk$Whole" "below" "Z") (List.mem_of_getElem? (i := 1) rfl)) (fun _ h9 => h9) rfl dX8_multiply_231 ?_
      refine lv_aload_n hx hb dX8_multiply_234 rfl (lv_at hl 2 rfl) ?_
      have f_23 : g_17 (2 * y) = .inr (11, [.ref (ad (2 * y + 1)), .int (nI sy9), .int (nI ny9)]) := (fr_19 (2 * y) (by omega)).trans ((fr_14 (2 * y) (by omega)).trans ay9)
      refine m_get (D := (dC, dI)) (v := .int (nI ny9)) (C := RX8) (T := TX8) (N := 3) hx hb hts bk0 hown hK hP (2 * y) (ns_w (by omega)) f_23 rfl 2 (by decide) (hts (.fieldLink RX8 19 "GradientDesk$Whole" "below" "Z") (List.mem_of_getElem? (i := 1) rfl)) (fun _ h9 => h9) rfl dX8_multiply_235 ?_
      refine lv_icmp_eq (tgt := 245) hx hb dX8_multiply_238 (by decide) (fun c_24 => ?_) (fun c_24 => ?_)
      · have c_24 := (nI_eq (a := nx9) (b := ny9) (by omega) (by omega)).mp c_24
        refine lv_iconst (v := nI 0) hx hb dX8_multiply_245 (by decide +kernel) ?_
        have f_25 : g_17 (2 * t + 1) = .inl (cA (2 * t + 1), mt9, .inl ff) := (fr_19 (2 * t + 1) (by omega)).trans f_16
        exact loop_1 0 z9 ff g_17 (fun (k : Nat) (hk : k ≠ 2 * t ∧ k ≠ 2 * t + 1) => (fr_19 k (by omega)).trans ((fr_14 k (by omega)).trans (rfl))) (by omega) (by omega) f_18 f_25 _ _ _ hP hS (lv_sub (l' := [(0, .ref (ad (2 * t)))]) hl [0] rfl)
      · have c_24 := mt (nI_eq (a := nx9) (b := ny9) (by omega) (by omega)).mpr c_24
        refine lv_iconst (v := nI 1) hx hb dX8_multiply_241 (by decide +kernel) ?_
        refine lv_goto (tgt := 246) hx hb dX8_multiply_242 (by decide) ?_
        have f_26 : g_17 (2 * t + 1) = .inl (cA (2 * t + 1), mt9, .inl ff) := (fr_19 (2 * t + 1) (by omega)).trans f_16
        exact loop_1 1 z9 ff g_17 (fun (k : Nat) (hk : k ≠ 2 * t ∧ k ≠ 2 * t + 1) => (fr_19 k (by omega)).trans ((fr_14 k (by omega)).trans (rfl))) (by omega) (by omega) f_18 f_26 _ _ _ hP hS (lv_sub (l' := [(0, .ref (ad (2 * t)))]) hl [0] rfl)
  have loop_27 : ∀ (rm : Nat), (rm ≤ mt9) → ∀ (H : Heap) (locs : List Loc) (ls : Array Slot), va_P (dC, dI) vwCl (wo ad NSc g) H → va_S A s.heap H locs → lv_has ls 10 [(0, .ref (ad (2 * t))), (1, .ref (ad (2 * x))), (2, .ref (ad (2 * y)))] → W p l e (headSpec wd_X8_multiply ({ frames := 30, cells := 0, slots := 0, locals := 600 })).room s m ([.ref (ad (2 * t)), .ref (ad (2 * x)), .ref (ad (2 * y))] : List Value).toArray below meth c H locs (0) (0) (MQ below (va_Qv (fun (u : Nat → va_E) => match u with | g2 => (∀ k, k ≠ 2 * t ∧ k ≠ 2 * t + 1 → g2 k = g k) ∧ AW ad cA g2) (fun (u : Nat → va_E) (t : State) => va_P (dC, dI) vwCl (wo ad NSc u) t.heap) A) ([.ref (ad (2 * t)), .ref (ad (2 * x)), .ref (ad (2 * y))] : List Value).toArray s (0) (0) A) (F0 m 35 ls [.int (nI rm)]) := by
    intro rm hrm H locs ls hP hS hl
    refine lv_istore_n (lv' := [(3, .int (nI rm)), (0, .ref (ad (2 * t))), (1, .ref (ad (2 * x))), (2, .ref (ad (2 * y)))]) hx hb dX8_multiply_35 rfl hl (by decide) rfl (fun ls hl => ?_)
    have loop_31 : ∀ (ff : Nat → Int32) (g_33 : Nat → va_E) (fr_34 : ∀ k, (k ≠ 2 * t + 1) → g_33 k = g k), (g_33 (2 * t + 1) = .inl (cA (2 * t + 1), mt9, .inl ff)) → ∀ (H : Heap) (locs : List Loc) (ls : Array Slot), va_P (dC, dI) vwCl (wo ad NSc g_33) H → va_S A s.heap H locs → lv_has ls 10 [(0, .ref (ad (2 * t))), (1, .ref (ad (2 * x))), (2, .ref (ad (2 * y))), (3, .int (nI rm))] → W p l e (headSpec wd_X8_multiply ({ frames := 30, cells := 0, slots := 0, locals := 600 })).room s m ([.ref (ad (2 * t)), .ref (ad (2 * x)), .ref (ad (2 * y))] : List Value).toArray below meth c H locs (0) (0) (MQ below (va_Qv (fun (u : Nat → va_E) => match u with | g2 => (∀ k, k ≠ 2 * t ∧ k ≠ 2 * t + 1 → g2 k = g k) ∧ AW ad cA g2) (fun (u : Nat → va_E) (t : State) => va_P (dC, dI) vwCl (wo ad NSc u) t.heap) A) ([.ref (ad (2 * t)), .ref (ad (2 * x)), .ref (ad (2 * y))] : List Value).toArray s (0) (0) A) (F0 m 196 ls []) := by
      intro ff g_33 fr_34 f_35 H locs ls hP hS hl
      refine lv_aload_n hx hb dX8_multiply_196 rfl (lv_at hl 0 rfl) ?_
      refine lv_iload_n hx hb dX8_multiply_197 rfl (lv_at hl 3 rfl) ?_
      refine lv_if_le (tgt := 218) hx hb dX8_multiply_198 (by decide) (fun c_36 => ?_) (fun c_36 => ?_)
      · have c_36 := (nI_leI (a := rm) (b := 0) (by omega) (by decide)).mp c_36
        refine lv_iload_n hx hb dX8_multiply_218 rfl (lv_at hl 3 rfl) ?_
        have f_37 : g_33 (2 * t) = .inr (11, [.ref (ad (2 * t + 1)), .int (nI st9), .int (nI nt9)]) := (fr_34 (2 * t) (by omega)).trans at9
        exact loop_11 rm ff g_33 (fun (k : Nat) (hk : k ≠ 2 * t ∧ k ≠ 2 * t + 1) => (fr_34 k (by omega)).trans (rfl)) (by omega) f_37 f_35 _ _ _ hP hS (lv_sub (l' := [(0, .ref (ad (2 * t))), (1, .ref (ad (2 * x))), (2, .ref (ad (2 * y)))]) hl [0, 1, 2] rfl)
      · have c_36 := mt (nI_leI (a := rm) (b := 0) (by omega) (by decide)).mpr c_36
        refine lv_aload_n hx hb dX8_multiply_201 rfl (lv_at hl 0 rfl) ?_
        have f_38 : g_33 (2 * t) = .inr (11, [.ref (ad (2 * t + 1)), .int (nI st9), .int (nI nt9)]) := (fr_34 (2 * t) (by omega)).trans at9
        refine m_get (D := (dC, dI)) (v := .ref (ad (2 * t + 1))) (C := RX8) (T := TX8) (N := 3) hx hb hts bk0 hown hK hP (2 * t) (ns_w (by omega)) f_38 rfl 0 (by decide) (hts (.fieldLink RX8 9 "GradientDesk$Whole" "words" "[I") (List.mem_of_getElem? (i := 3) rfl)) (fun _ h9 => h9) rfl dX8_multiply_202 ?_
        refine lv_iload_n hx hb dX8_multiply_205 rfl (lv_at hl 3 rfl) ?_
        refine lv_iconst (v := nI 1) hx hb dX8_multiply_206 (by decide +kernel) ?_
        refine lv_isub hx hb dX8_multiply_207 ?_
        refine lv_topi (fun x_39 e_40 => ?_)
        obtain rfl : x_39 = nI (rm - 1) := e_40.trans (pk_sub (show 1 ≤ rm by omega))
        refine m_iald hx hb hK hP (2 * t + 1) (ns_w (by omega)) (tyc_w (by omega)) f_35 (i := rm - 1) (by omega) (by omega) dX8_multiply_208 ?_
        refine lv_topi (fun x_41 e_42 => ?_)
        refine lv_if_ne (tgt := 218) hx hb dX8_multiply_209 (by decide) (fun c_43 => ?_) (fun c_43 => ?_)
        · clear c_43
          refine lv_iload_n hx hb dX8_multiply_218 rfl (lv_at hl 3 rfl) ?_
          exact loop_11 rm ff g_33 (fun (k : Nat) (hk : k ≠ 2 * t ∧ k ≠ 2 * t + 1) => (fr_34 k (by omega)).trans (rfl)) (by omega) f_38 f_35 _ _ _ hP hS (lv_sub (l' := [(0, .ref (ad (2 * t))), (1, .ref (ad (2 * x))), (2, .ref (ad (2 * y)))]) hl [0, 1, 2] rfl)
        · clear c_43
          refine lv_iload_n hx hb dX8_multiply_212 rfl (lv_at hl 3 rfl) ?_
          refine lv_iconst (v := nI 1) hx hb dX8_multiply_213 (by decide +kernel) ?_
          refine lv_isub hx hb dX8_multiply_214 ?_
          refine lv_topi (fun x_44 e_45 => ?_)
          obtain rfl : x_44 = nI (rm - 1) := e_45.trans (pk_sub (show 1 ≤ rm by omega))
          refine lv_goto (tgt := 219) hx hb dX8_multiply_215 (by decide) ?_
          exact loop_11 (rm - 1) ff g_33 (fun (k : Nat) (hk : k ≠ 2 * t ∧ k ≠ 2 * t + 1) => (fr_34 k (by omega)).trans (rfl)) (by omega) f_38 f_35 _ _ _ hP hS (lv_sub (l' := [(0, .ref (ad (2 * t))), (1, .ref (ad (2 * x))), (2, .ref (ad (2 * y)))]) hl [0, 1, 2] rfl)
    refine lv_aload_n hx hb dX8_multiply_36 rfl (lv_at hl 1 rfl) ?_
    refine m_get (D := (dC, dI)) (v := .ref (ad (2 * t + 1))) (C := RX8) (T := TX8) (N := 3) hx hb hts bk0 hown hK hP (2 * t) (ns_w (by omega)) at9 rfl 0 (by decide) (hts (.fieldLink RX8 9 "GradientDesk$Whole" "words" "[I") (List.mem_of_getElem? (i := 3) rfl)) (fun _ h9 => h9) rfl dX8_multiply_37 ?_
    refine lv_iconst (v := nI 0) hx hb dX8_multiply_40 (by decide +kernel) ?_
    refine lv_iload_n hx hb dX8_multiply_41 rfl (lv_at hl 0 rfl) ?_
    refine lv_iconst (v := nI 0) hx hb dX8_multiply_42 (by decide +kernel) ?_
    refine va_callv (va_runS (As := [.ref (ad (2 * t + 1)), .int (nI 0), .int (nI rm), .int (nI 0)]) (rest := []) ⟨hx, hb, hml, hown, hts⟩ (c_J_fill l dC dI A ad cA g t mt9 ft9 rm (nI 0) it bt9 (by omega) (by omega)) (va_cwS 4 hts (goodIn_app (goodIn_r [Cond.methodLink RX8 58 yJ7_fill_fda19, Cond.static yJ7_fill_fda19, Cond.initialized RJ7] [4, 5, 6] rfl rfl) (goodIn_sub (fun w9 h9 => bk1 w9 h9) gw_J_fill)) rfl rfl rfl (by decide +kernel) ⟨Nat.le_of_ble_eq_true rfl, Nat.le_of_ble_eq_true rfl⟩) ⟨fun a U g mk q => ⟨q.1, q.2.1, q.2.2.1, LY.moved (u := U) (U := U.calling g mk a) (Vm.Alike.refl U.vm) q.2.2.2⟩, fun U hU hW => ⟨rfl, by rw [hU]; exact fun q h => hA q (Nat.le_trans hS.1 h), by rw [hU]; exact hP, LY.moved hW.alike hL⟩⟩ rfl rfl hl.1 rfl (lv_room (Nat.le_of_ble_eq_true rfl)) dX8_multiply_43 ⟨(Nat.le_of_ble_eq_true rfl), (Nat.le_of_ble_eq_true rfl)⟩) hS (fun q _ h => h) (fun q h => h) (fun u8 t8 H1 locs ht8 hvm8 hw_46 hB hz1 hk1 hS => ?_)
    obtain ⟨g_47, f2_48⟩ := u8
    try dsimp only at hw_46 hB
    rw [ht8] at hB
    have hP := hB
    generalize H1 = H at hP hS ⊢
    obtain ⟨fr_49, hfill⟩ := hw_46
    refine lv_iconst (v := nI 0) hx hb dX8_multiply_46 (by decide +kernel) ?_
    refine lv_istore (lv' := [(4, .int (nI 0)), (3, .int (nI rm)), (0, .ref (ad (2 * t))), (1, .ref (ad (2 * x))), (2, .ref (ad (2 * y)))]) hx hb dX8_multiply_47 hl (by decide) rfl (fun ls hl => ?_)
    have loop_50 : ∀ (k9 : Nat) (i : Nat) (ff : Nat → Int32) (g_52 : Nat → va_E) (fr_53 : ∀ k, (k ≠ 2 * t + 1) → g_52 k = g_47 k), 4096 - i < k9 → (i ≤ 4096) → (g_52 (2 * t + 1) = .inl (cA (2 * t + 1), mt9, .inl ff)) → ∀ (H : Heap) (locs : List Loc) (ls : Array Slot), va_P (dC, dI) vwCl (wo ad NSc g_52) H → va_S A s.heap H locs → lv_has ls 10 [(0, .ref (ad (2 * t))), (1, .ref (ad (2 * x))), (2, .ref (ad (2 * y))), (3, .int (nI rm)), (4, .int (nI i))] → W p l e (headSpec wd_X8_multiply ({ frames := 30, cells := 0, slots := 0, locals := 600 })).room s m ([.ref (ad (2 * t)), .ref (ad (2 * x)), .ref (ad (2 * y))] : List Value).toArray below meth c H locs (0) (0) (MQ below (va_Qv (fun (u : Nat → va_E) => match u with | g2 => (∀ k, k ≠ 2 * t ∧ k ≠ 2 * t + 1 → g2 k = g k) ∧ AW ad cA g2) (fun (u : Nat → va_E) (t : State) => va_P (dC, dI) vwCl (wo ad NSc u) t.heap) A) ([.ref (ad (2 * t)), .ref (ad (2 * x)), .ref (ad (2 * y))] : List Value).toArray s (0) (0) A) (F0 m 49 ls []) := by
      intro k9
      induction k9 with
      | zero => intro i ff g_52 fr_53 h9; exact absurd h9 (Nat.not_lt_zero _)
      | succ k9 ih_51 =>
        intro i ff g_52 fr_53 h9 hi f_54 H locs ls hP hS hl
        refine lv_iload hx hb dX8_multiply_49 (lv_at hl 4 rfl) ?_
        refine lv_aload_n hx hb dX8_multiply_51 rfl (lv_at hl 1 rfl) ?_
        have f_55 : g_52 (2 * x) = .inr (11, [.ref (ad (2 * x + 1)), .int (nI sx9), .int (nI nx9)]) := (fr_53 (2 * x) (by omega)).trans ((fr_49 (2 * x) (by omega)).trans ax9)
        refine m_get (D := (dC, dI)) (v := .int (nI sx9)) (C := RX8) (T := TX8) (N := 3) hx hb hts bk0 hown hK hP (2 * x) (ns_w (by omega)) f_55 rfl 1 (by decide) (hts (.fieldLink RX8 15 "GradientDesk$Whole" "size" "I") (List.mem_of_getElem? (i := 2) rfl)) (fun _ h9 => h9) rfl dX8_multiply_52 ?_
        refine lv_icmp_ge (tgt := 196) hx hb dX8_multiply_55 (by decide) (fun c_56 => ?_) (fun c_56 => ?_)
        · have c_56 := (nI_leI (a := sx9) (b := i) (by omega) (by omega)).mp c_56
          exact loop_31 ff g_52 (fun (k : Nat) (hk : k ≠ 2 * t + 1) => (fr_53 k (by omega)).trans ((fr_49 k (by omega)).trans (rfl))) f_54 _ _ _ hP hS (lv_sub (l' := [(0, .ref (ad (2 * t))), (1, .ref (ad (2 * x))), (2, .ref (ad (2 * y))), (3, .int (nI rm))]) hl [0, 1, 2, 3] rfl)
        · have c_56 := mt (nI_leI (a := sx9) (b := i) (by omega) (by omega)).mpr c_56
          refine lv_iload hx hb dX8_multiply_58 (lv_at hl 4 rfl) ?_
          refine lv_iload_n hx hb dX8_multiply_60 rfl (lv_at hl 3 rfl) ?_
          refine lv_icmp_ge (tgt := 196) hx hb dX8_multiply_61 (by decide) (fun c_57 => ?_) (fun c_57 => ?_)
          · have c_57 := (nI_leI (a := rm) (b := i) (by omega) (by omega)).mp c_57
            exact loop_31 ff g_52 (fun (k : Nat) (hk : k ≠ 2 * t + 1) => (fr_53 k (by omega)).trans ((fr_49 k (by omega)).trans (rfl))) f_54 _ _ _ hP hS (lv_sub (l' := [(0, .ref (ad (2 * t))), (1, .ref (ad (2 * x))), (2, .ref (ad (2 * y))), (3, .int (nI rm))]) hl [0, 1, 2, 3] rfl)
          · have c_57 := mt (nI_leI (a := rm) (b := i) (by omega) (by omega)).mpr c_57
            refine lv_aload_n hx hb dX8_multiply_64 rfl (lv_at hl 1 rfl) ?_
            refine m_get (D := (dC, dI)) (v := .ref (ad (2 * x + 1))) (C := RX8) (T := TX8) (N := 3) hx hb hts bk0 hown hK hP (2 * x) (ns_w (by omega)) f_55 rfl 0 (by decide) (hts (.fieldLink RX8 9 "GradientDesk$Whole" "words" "[I") (List.mem_of_getElem? (i := 3) rfl)) (fun _ h9 => h9) rfl dX8_multiply_65 ?_
            refine lv_iload hx hb dX8_multiply_68 (lv_at hl 4 rfl) ?_
            have f_58 : g_52 (2 * x + 1) = .inl (cA (2 * x + 1), mx9, .inl fx9) := (fr_53 (2 * x + 1) (by omega)).trans ((fr_49 (2 * x + 1) (by omega)).trans bx9)
            refine m_iald hx hb hK hP (2 * x + 1) (ns_w (by omega)) (tyc_w (by omega)) f_58 (i := i) (by omega) (by omega) dX8_multiply_70 ?_
            refine lv_topi (fun x_59 e_60 => ?_)
            refine lv_i2l hx hb dX8_multiply_71 rfl ?_
            refine lv_topl (fun y_61 e_62 => ?_)
            refine lv_ldc2 (v := 4294967295) hx hb hown (hts (.constantLong RX8 48 (4294967295)) (List.mem_of_getElem? (i := 7) rfl)) dX8_multiply_72 ?_
            refine lv_topl (fun y_63 e_64 => ?_)
            obtain rfl : y_63 = lN 4294967295 := e_64
            refine lv_land hx hb dX8_multiply_75 ?_
            refine lv_topl (fun y_65 e_66 => ?_)
            refine lv_lstore (lv' := [(5, .long y_65), (0, .ref (ad (2 * t))), (1, .ref (ad (2 * x))), (2, .ref (ad (2 * y))), (3, .int (nI rm)), (4, .int (nI i))]) hx hb dX8_multiply_76 hl (by decide) rfl (fun ls hl => ?_)
            refine lv_lconst (v := lN 0) hx hb dX8_multiply_78 (by decide +kernel) ?_
            refine lv_lstore (lv' := [(7, .long (lN 0)), (5, .long y_65), (0, .ref (ad (2 * t))), (1, .ref (ad (2 * x))), (2, .ref (ad (2 * y))), (3, .int (nI rm)), (4, .int (nI i))]) hx hb dX8_multiply_79 hl (by decide) rfl (fun ls hl => ?_)
            obtain ⟨fa, hfa⟩ : ∃ z, z = y_65 := ⟨_, rfl⟩
            rw [← hfa] at hl
            refine lv_iconst (v := nI 0) hx hb dX8_multiply_81 (by decide +kernel) ?_
            refine lv_istore (lv' := [(9, .int (nI 0)), (7, .long (lN 0)), (5, .long fa), (0, .ref (ad (2 * t))), (1, .ref (ad (2 * x))), (2, .ref (ad (2 * y))), (3, .int (nI rm)), (4, .int (nI i))]) hx hb dX8_multiply_82 hl (by decide) rfl (fun ls hl => ?_)
            have loop_67 : ∀ (k9 : Nat) (j : Nat) (f1 : Nat → Int32) (ca : Int64) (g_69 : Nat → va_E) (fr_70 : ∀ k, (k ≠ 2 * t + 1) → g_69 k = g_52 k), 4096 - j < k9 → (j ≤ 4096) → (g_69 (2 * t + 1) = .inl (cA (2 * t + 1), mt9, .inl f1)) → ∀ (H : Heap) (locs : List Loc) (ls : Array Slot), va_P (dC, dI) vwCl (wo ad NSc g_69) H → va_S A s.heap H locs → lv_has ls 10 [(0, .ref (ad (2 * t))), (1, .ref (ad (2 * x))), (2, .ref (ad (2 * y))), (3, .int (nI rm)), (4, .int (nI i)), (7, .long ca), (9, .int (nI j)), (5, .long fa)] → W p l e (headSpec wd_X8_multiply ({ frames := 30, cells := 0, slots := 0, locals := 600 })).room s m ([.ref (ad (2 * t)), .ref (ad (2 * x)), .ref (ad (2 * y))] : List Value).toArray below meth c H locs (0) (0) (MQ below (va_Qv (fun (u : Nat → va_E) => match u with | g2 => (∀ k, k ≠ 2 * t ∧ k ≠ 2 * t + 1 → g2 k = g k) ∧ AW ad cA g2) (fun (u : Nat → va_E) (t : State) => va_P (dC, dI) vwCl (wo ad NSc u) t.heap) A) ([.ref (ad (2 * t)), .ref (ad (2 * x)), .ref (ad (2 * y))] : List Value).toArray s (0) (0) A) (F0 m 84 ls []) := by
              intro k9
              induction k9 with
              | zero => intro j f1 ca g_69 fr_70 h9; exact absurd h9 (Nat.not_lt_zero _)
              | succ k9 ih_68 =>
                intro j f1 ca g_69 fr_70 h9 hj f_71 H locs ls hP hS hl
                refine lv_iload hx hb dX8_multiply_84 (lv_at hl 6 rfl) ?_
                refine lv_aload_n hx hb dX8_multiply_86 rfl (lv_at hl 2 rfl) ?_
                have f_72 : g_69 (2 * y) = .inr (11, [.ref (ad (2 * y + 1)), .int (nI sy9), .int (nI ny9)]) := (fr_70 (2 * y) (by omega)).trans ((fr_53 (2 * y) (by omega)).trans ((fr_49 (2 * y) (by omega)).trans ay9))
                refine m_get (D := (dC, dI)) (v := .int (nI sy9)) (C := RX8) (T := TX8) (N := 3) hx hb hts bk0 hown hK hP (2 * y) (ns_w (by omega)) f_72 rfl 1 (by decide) (hts (.fieldLink RX8 15 "GradientDesk$Whole" "size" "I") (List.mem_of_getElem? (i := 2) rfl)) (fun _ h9 => h9) rfl dX8_multiply_87 ?_
                refine lv_icmp_ge (tgt := 164) hx hb dX8_multiply_90 (by decide) (fun c_73 => ?_) (fun c_73 => ?_)
                · have c_73 := (nI_leI (a := sy9) (b := j) (by omega) (by omega)).mp c_73
                  refine lv_iload hx hb dX8_multiply_164 (lv_at hl 4 rfl) ?_
                  refine lv_aload_n hx hb dX8_multiply_166 rfl (lv_at hl 2 rfl) ?_
                  refine m_get (D := (dC, dI)) (v := .int (nI sy9)) (C := RX8) (T := TX8) (N := 3) hx hb hts bk0 hown hK hP (2 * y) (ns_w (by omega)) f_72 rfl 1 (by decide) (hts (.fieldLink RX8 15 "GradientDesk$Whole" "size" "I") (List.mem_of_getElem? (i := 2) rfl)) (fun _ h9 => h9) rfl dX8_multiply_167 ?_
                  refine lv_iadd hx hb dX8_multiply_170 ?_
                  refine lv_topi (fun x_74 e_75 => ?_)
                  obtain rfl : x_74 = nI (i + sy9) := e_75.trans (nI_add i sy9)
                  refine lv_iload_n hx hb dX8_multiply_171 rfl (lv_at hl 3 rfl) ?_
                  refine lv_icmp_ge (tgt := 190) hx hb dX8_multiply_172 (by decide) (fun c_76 => ?_) (fun c_76 => ?_)
                  · have c_76 := (nI_leI (a := rm) (b := (i + sy9)) (by omega) (by omega)).mp c_76
                    refine lv_iinc (v := nI (i + 1)) (lv' := [(4, .int (nI (i + 1))), (0, .ref (ad (2 * t))), (1, .ref (ad (2 * x))), (2, .ref (ad (2 * y))), (3, .int (nI rm)), (7, .long ca), (9, .int (nI j)), (5, .long fa)]) hx hb dX8_multiply_190 hl (k := 4) rfl (nI_add i 1) (by decide) rfl (fun ls hl => ?_)
                    refine lv_goto (tgt := 49) hx hb dX8_multiply_193 (by decide) ?_
                    exact ih_51 (i + 1) f1 g_69 (fun (k : Nat) (hk : k ≠ 2 * t + 1) => (fr_70 k (by omega)).trans ((fr_53 k (by omega)).trans (rfl))) (by omega) (by omega) f_71 _ _ _ hP hS (lv_sub (l' := [(0, .ref (ad (2 * t))), (1, .ref (ad (2 * x))), (2, .ref (ad (2 * y))), (3, .int (nI rm)), (4, .int (nI (i + 1)))]) hl [1, 2, 3, 4, 0] rfl)
                  · have c_76 := mt (nI_leI (a := rm) (b := (i + sy9)) (by omega) (by omega)).mpr c_76
                    refine lv_aload_n hx hb dX8_multiply_175 rfl (lv_at hl 0 rfl) ?_
                    have f_79 : g_69 (2 * t) = .inr (11, [.ref (ad (2 * t + 1)), .int (nI st9), .int (nI nt9)]) := (fr_70 (2 * t) (by omega)).trans ((fr_53 (2 * t) (by omega)).trans ((fr_49 (2 * t) (by omega)).trans at9))
                    refine m_get (D := (dC, dI)) (v := .ref (ad (2 * t + 1))) (C := RX8) (T := TX8) (N := 3) hx hb hts bk0 hown hK hP (2 * t) (ns_w (by omega)) f_79 rfl 0 (by decide) (hts (.fieldLink RX8 9 "GradientDesk$Whole" "words" "[I") (List.mem_of_getElem? (i := 3) rfl)) (fun _ h9 => h9) rfl dX8_multiply_176 ?_
                    refine lv_iload hx hb dX8_multiply_179 (lv_at hl 4 rfl) ?_
                    refine lv_aload_n hx hb dX8_multiply_181 rfl (lv_at hl 2 rfl) ?_
                    refine m_get (D := (dC, dI)) (v := .int (nI sy9)) (C := RX8) (T := TX8) (N := 3) hx hb hts bk0 hown hK hP (2 * y) (ns_w (by omega)) f_72 rfl 1 (by decide) (hts (.fieldLink RX8 15 "GradientDesk$Whole" "size" "I") (List.mem_of_getElem? (i := 2) rfl)) (fun _ h9 => h9) rfl dX8_multiply_182 ?_
                    refine lv_iadd hx hb dX8_multiply_185 ?_
                    refine lv_topi (fun x_80 e_81 => ?_)
                    obtain rfl : x_80 = nI (i + sy9) := e_81.trans (nI_add i sy9)
                    refine lv_lload hx hb dX8_multiply_186 (lv_at hl 5 rfl) ?_
                    refine lv_l2i hx hb dX8_multiply_188 rfl ?_
                    refine lv_topi (fun x_82 e_83 => ?_)
                    refine m_iast hx hb hK hP hD hS (2 * t + 1) (ns_w (by omega)) (tyc_w (by omega)) f_71 (i := i + sy9) (x := x_82) (by omega) (by omega) dX8_multiply_189 (fun H locs g_84 f_85 fr_86 hP hS => ?_)
                    have f_85 : g_84 (2 * t + 1) = .inl (cA (2 * t + 1), mt9, .inl (upd f1 (i + sy9) x_82)) := f_85
                    refine lv_iinc (v := nI (i + 1)) (lv' := [(4, .int (nI (i + 1))), (0, .ref (ad (2 * t))), (1, .ref (ad (2 * x))), (2, .ref (ad (2 * y))), (3, .int (nI rm)), (7, .long ca), (9, .int (nI j)), (5, .long fa)]) hx hb dX8_multiply_190 hl (k := 4) rfl (nI_add i 1) (by decide) rfl (fun ls hl => ?_)
                    refine lv_goto (tgt := 49) hx hb dX8_multiply_193 (by decide) ?_
                    exact ih_51 (i + 1) (upd f1 (i + sy9) x_82) g_84 (fun (k : Nat) (hk : k ≠ 2 * t + 1) => (fr_86 k (by omega)).trans ((fr_70 k (by omega)).trans ((fr_53 k (by omega)).trans (rfl)))) (by omega) (by omega) f_85 _ _ _ hP hS (lv_sub (l' := [(0, .ref (ad (2 * t))), (1, .ref (ad (2 * x))), (2, .ref (ad (2 * y))), (3, .int (nI rm)), (4, .int (nI (i + 1)))]) hl [1, 2, 3, 4, 0] rfl)
                · have c_73 := mt (nI_leI (a := sy9) (b := j) (by omega) (by omega)).mpr c_73
                  refine lv_iload hx hb dX8_multiply_93 (lv_at hl 4 rfl) ?_
                  refine lv_iload hx hb dX8_multiply_95 (lv_at hl 6 rfl) ?_
                  refine lv_iadd hx hb dX8_multiply_97 ?_
                  refine lv_topi (fun x_89 e_90 => ?_)
                  obtain rfl : x_89 = nI (i + j) := e_90.trans (nI_add i j)
                  refine lv_iload_n hx hb dX8_multiply_98 rfl (lv_at hl 3 rfl) ?_
                  refine lv_icmp_ge (tgt := 164) hx hb dX8_multiply_99 (by decide) (fun c_91 => ?_) (fun c_91 => ?_)
                  · have c_91 := (nI_leI (a := rm) (b := (i + j)) (by omega) (by omega)).mp c_91
                    refine lv_iload hx hb dX8_multiply_164 (lv_at hl 4 rfl) ?_
                    refine lv_aload_n hx hb dX8_multiply_166 rfl (lv_at hl 2 rfl) ?_
                    refine m_get (D := (dC, dI)) (v := .int (nI sy9)) (C := RX8) (T := TX8) (N := 3) hx hb hts bk0 hown hK hP (2 * y) (ns_w (by omega)) f_72 rfl 1 (by decide) (hts (.fieldLink RX8 15 "GradientDesk$Whole" "size" "I") (List.mem_of_getElem? (i := 2) rfl)) (fun _ h9 => h9) rfl dX8_multiply_167 ?_
                    refine lv_iadd hx hb dX8_multiply_170 ?_
                    refine lv_topi (fun x_92 e_93 => ?_)
                    obtain rfl : x_92 = nI (i + sy9) := e_93.trans (nI_add i sy9)
                    refine lv_iload_n hx hb dX8_multiply_171 rfl (lv_at hl 3 rfl) ?_
                    refine lv_icmp_ge (tgt := 190) hx hb dX8_multiply_172 (by decide) (fun c_94 => ?_) (fun c_94 => ?_)
                    · have c_94 := (nI_leI (a := rm) (b := (i + sy9)) (by omega) (by omega)).mp c_94
                      refine lv_iinc (v := nI (i + 1)) (lv' := [(4, .int (nI (i + 1))), (0, .ref (ad (2 * t))), (1, .ref (ad (2 * x))), (2, .ref (ad (2 * y))), (3, .int (nI rm)), (7, .long ca), (9, .int (nI j)), (5, .long fa)]) hx hb dX8_multiply_190 hl (k := 4) rfl (nI_add i 1) (by decide) rfl (fun ls hl => ?_)
                      refine lv_goto (tgt := 49) hx hb dX8_multiply_193 (by decide) ?_
                      exact ih_51 (i + 1) f1 g_69 (fun (k : Nat) (hk : k ≠ 2 * t + 1) => (fr_70 k (by omega)).trans ((fr_53 k (by omega)).trans (rfl))) (by omega) (by omega) f_71 _ _ _ hP hS (lv_sub (l' := [(0, .ref (ad (2 * t))), (1, .ref (ad (2 * x))), (2, .ref (ad (2 * y))), (3, .int (nI rm)), (4, .int (nI (i + 1)))]) hl [1, 2, 3, 4, 0] rfl)
                    · have c_94 := mt (nI_leI (a := rm) (b := (i + sy9)) (by omega) (by omega)).mpr c_94
                      refine lv_aload_n hx hb dX8_multiply_175 rfl (lv_at hl 0 rfl) ?_
                      have f_97 : g_69 (2 * t) = .inr (11, [.ref (ad (2 * t + 1)), .int (nI st9), .int (nI nt9)]) := (fr_70 (2 * t) (by omega)).trans ((fr_53 (2 * t) (by omega)).trans ((fr_49 (2 * t) (by omega)).trans at9))
                      refine m_get (D := (dC, dI)) (v := .ref (ad (2 * t + 1))) (C := RX8) (T := TX8) (N := 3) hx hb hts bk0 hown hK hP (2 * t) (ns_w (by omega)) f_97 rfl 0 (by decide) (hts (.fieldLink RX8 9 "GradientDesk$Whole" "words" "[I") (List.mem_of_getElem? (i := 3) rfl)) (fun _ h9 => h9) rfl dX8_multiply_176 ?_
                      refine lv_iload hx hb dX8_multiply_179 (lv_at hl 4 rfl) ?_
                      refine lv_aload_n hx hb dX8_multiply_181 rfl (lv_at hl 2 rfl) ?_
                      refine m_get (D := (dC, dI)) (v := .int (nI sy9)) (C := RX8) (T := TX8) (N := 3) hx hb hts bk0 hown hK hP (2 * y) (ns_w (by omega)) f_72 rfl 1 (by decide) (hts (.fieldLink RX8 15 "GradientDesk$Whole" "size" "I") (List.mem_of_getElem? (i := 2) rfl)) (fun _ h9 => h9) rfl dX8_multiply_182 ?_
                      refine lv_iadd hx hb dX8_multiply_185 ?_
                      refine lv_topi (fun x_98 e_99 => ?_)
                      obtain rfl : x_98 = nI (i + sy9) := e_99.trans (nI_add i sy9)
                      refine lv_lload hx hb dX8_multiply_186 (lv_at hl 5 rfl) ?_
                      refine lv_l2i hx hb dX8_multiply_188 rfl ?_
                      refine lv_topi (fun x_100 e_101 => ?_)
                      refine m_iast hx hb hK hP hD hS (2 * t + 1) (ns_w (by omega)) (tyc_w (by omega)) f_71 (i := i + sy9) (x := x_100) (by omega) (by omega) dX8_multiply_189 (fun H locs g_102 f_103 fr_104 hP hS => ?_)
                      have f_103 : g_102 (2 * t + 1) = .inl (cA (2 * t + 1), mt9, .inl (upd f1 (i + sy9) x_100)) := f_103
                      refine lv_iinc (v := nI (i + 1)) (lv' := [(4, .int (nI (i + 1))), (0, .ref (ad (2 * t))), (1, .ref (ad (2 * x))), (2, .ref (ad (2 * y))), (3, .int (nI rm)), (7, .long ca), (9, .int (nI j)), (5, .long fa)]) hx hb dX8_multiply_190 hl (k := 4) rfl (nI_add i 1) (by decide) rfl (fun ls hl => ?_)
                      refine lv_goto (tgt := 49) hx hb dX8_multiply_193 (by decide) ?_
                      exact ih_51 (i + 1) (upd f1 (i + sy9) x_100) g_102 (fun (k : Nat) (hk : k ≠ 2 * t + 1) => (fr_104 k (by omega)).trans ((fr_70 k (by omega)).trans ((fr_53 k (by omega)).trans (rfl)))) (by omega) (by omega) f_103 _ _ _ hP hS (lv_sub (l' := [(0, .ref (ad (2 * t))), (1, .ref (ad (2 * x))), (2, .ref (ad (2 * y))), (3, .int (nI rm)), (4, .int (nI (i + 1)))]) hl [1, 2, 3, 4, 0] rfl)
                  · have c_91 := mt (nI_leI (a := rm) (b := (i + j)) (by omega) (by omega)).mpr c_91
                    refine lv_lload hx hb dX8_multiply_102 (lv_at hl 5 rfl) ?_
                    refine lv_lload hx hb dX8_multiply_104 (lv_at hl 7 rfl) ?_
                    refine lv_aload_n hx hb dX8_multiply_106 rfl (lv_at hl 2 rfl) ?_
                    refine m_get (D := (dC, dI)) (v := .ref (ad (2 * y + 1))) (C := RX8) (T := TX8) (N := 3) hx hb hts bk0 hown hK hP (2 * y) (ns_w (by omega)) f_72 rfl 0 (by decide) (hts (.fieldLink RX8 9 "GradientDesk$Whole" "words" "[I") (List.mem_of_getElem? (i := 3) rfl)) (fun _ h9 => h9) rfl dX8_multiply_107 ?_
                    refine lv_iload hx hb dX8_multiply_110 (lv_at hl 6 rfl) ?_
                    have f_107 : g_69 (2 * y + 1) = .inl (cA (2 * y + 1), my9, .inl fy9) := (fr_70 (2 * y + 1) (by omega)).trans ((fr_53 (2 * y + 1) (by omega)).trans ((fr_49 (2 * y + 1) (by omega)).trans by9))
                    refine m_iald hx hb hK hP (2 * y + 1) (ns_w (by omega)) (tyc_w (by omega)) f_107 (i := j) (by omega) (by omega) dX8_multiply_112 ?_
                    refine lv_topi (fun x_108 e_109 => ?_)
                    refine lv_i2l hx hb dX8_multiply_113 rfl ?_
                    refine lv_topl (fun y_110 e_111 => ?_)
                    refine lv_ldc2 (v := 4294967295) hx hb hown (hts (.constantLong RX8 48 (4294967295)) (List.mem_of_getElem? (i := 7) rfl)) dX8_multiply_114 ?_
                    refine lv_topl (fun y_112 e_113 => ?_)
                    obtain rfl : y_112 = lN 4294967295 := e_113
                    refine lv_land hx hb dX8_multiply_117 ?_
                    refine lv_topl (fun y_114 e_115 => ?_)
                    refine lv_lmul hx hb dX8_multiply_118 ?_
                    refine lv_topl (fun y_116 e_117 => ?_)
                    refine lv_aload_n hx hb dX8_multiply_119 rfl (lv_at hl 0 rfl) ?_
                    have f_118 : g_69 (2 * t) = .inr (11, [.ref (ad (2 * t + 1)), .int (nI st9), .int (nI nt9)]) := (fr_70 (2 * t) (by omega)).trans ((fr_53 (2 * t) (by omega)).trans ((fr_49 (2 * t) (by omega)).trans at9))
                    refine m_get (D := (dC, dI)) (v := .ref (ad (2 * t + 1))) (C := RX8) (T := TX8) (N := 3) hx hb hts bk0 hown hK hP (2 * t) (ns_w (by omega)) f_118 rfl 0 (by decide) (hts (.fieldLink RX8 9 "GradientDesk$Whole" "words" "[I") (List.mem_of_getElem? (i := 3) rfl)) (fun _ h9 => h9) rfl dX8_multiply_120 ?_
                    refine lv_iload hx hb dX8_multiply_123 (lv_at hl 4 rfl) ?_
                    refine lv_iload hx hb dX8_multiply_125 (lv_at hl 6 rfl) ?_
                    refine lv_iadd hx hb dX8_multiply_127 ?_
                    refine lv_topi (fun x_119 e_120 => ?_)
                    obtain rfl : x_119 = nI (i + j) := e_120.trans (nI_add i j)
                    refine m_iald hx hb hK hP (2 * t + 1) (ns_w (by omega)) (tyc_w (by omega)) f_71 (i := i + j) (by omega) (by omega) dX8_multiply_128 ?_
                    refine lv_topi (fun x_121 e_122 => ?_)
                    refine lv_i2l hx hb dX8_multiply_129 rfl ?_
                    refine lv_topl (fun y_123 e_124 => ?_)
                    refine lv_ldc2 (v := 4294967295) hx hb hown (hts (.constantLong RX8 48 (4294967295)) (List.mem_of_getElem? (i := 7) rfl)) dX8_multiply_130 ?_
                    refine lv_topl (fun y_125 e_126 => ?_)
                    obtain rfl : y_125 = lN 4294967295 := e_126
                    refine lv_land hx hb dX8_multiply_133 ?_
                    refine lv_topl (fun y_127 e_128 => ?_)
                    refine lv_ladd hx hb dX8_multiply_134 ?_
                    refine lv_topl (fun y_129 e_130 => ?_)
                    refine lv_ladd hx hb dX8_multiply_135 ?_
                    refine lv_topl (fun y_131 e_132 => ?_)
                    refine lv_lstore (lv' := [(7, .long y_131), (0, .ref (ad (2 * t))), (1, .ref (ad (2 * x))), (2, .ref (ad (2 * y))), (3, .int (nI rm)), (4, .int (nI i)), (9, .int (nI j)), (5, .long fa)]) hx hb dX8_multiply_136 hl (by decide) rfl (fun ls hl => ?_)
                    refine lv_aload_n hx hb dX8_multiply_138 rfl (lv_at hl 1 rfl) ?_
                    refine m_get (D := (dC, dI)) (v := .ref (ad (2 * t + 1))) (C := RX8) (T := TX8) (N := 3) hx hb hts bk0 hown hK hP (2 * t) (ns_w (by omega)) f_118 rfl 0 (by decide) (hts (.fieldLink RX8 9 "GradientDesk$Whole" "words" "[I") (List.mem_of_getElem? (i := 3) rfl)) (fun _ h9 => h9) rfl dX8_multiply_139 ?_
                    refine lv_iload hx hb dX8_multiply_142 (lv_at hl 5 rfl) ?_
                    refine lv_iload hx hb dX8_multiply_144 (lv_at hl 6 rfl) ?_
                    refine lv_iadd hx hb dX8_multiply_146 ?_
                    refine lv_topi (fun x_133 e_134 => ?_)
                    obtain rfl : x_133 = nI (i + j) := e_134.trans (nI_add i j)
                    refine lv_lload hx hb dX8_multiply_147 (lv_at hl 0 rfl) ?_
                    refine lv_l2i hx hb dX8_multiply_149 rfl ?_
                    refine lv_topi (fun x_135 e_136 => ?_)
                    refine m_iast hx hb hK hP hD hS (2 * t + 1) (ns_w (by omega)) (tyc_w (by omega)) f_71 (i := i + j) (x := x_135) (by omega) (by omega) dX8_multiply_150 (fun H locs g_137 f_138 fr_139 hP hS => ?_)
                    have f_138 : g_137 (2 * t + 1) = .inl (cA (2 * t + 1), mt9, .inl (upd f1 (i + j) x_135)) := f_138
                    refine lv_lload hx hb dX8_multiply_151 (lv_at hl 0 rfl) ?_
                    refine lv_bipush (v := nI 32) hx hb dX8_multiply_153 (by decide +kernel) ?_
                    refine lv_lushr hx hb dX8_multiply_155 rfl ?_
                    refine lv_topl (fun y_140 e_141 => ?_)
                    refine lv_lstore (lv' := [(7, .long y_140), (0, .ref (ad (2 * t))), (1, .ref (ad (2 * x))), (2, .ref (ad (2 * y))), (3, .int (nI rm)), (4, .int (nI i)), (9, .int (nI j)), (5, .long fa)]) hx hb dX8_multiply_156 hl (by decide) rfl (fun ls hl => ?_)
                    refine lv_iinc (v := nI (j + 1)) (lv' := [(9, .int (nI (j + 1))), (7, .long y_140), (0, .ref (ad (2 * t))), (1, .ref (ad (2 * x))), (2, .ref (ad (2 * y))), (3, .int (nI rm)), (4, .int (nI i)), (5, .long fa)]) hx hb dX8_multiply_158 hl (k := 6) rfl (nI_add j 1) (by decide) rfl (fun ls hl => ?_)
                    refine lv_goto (tgt := 84) hx hb dX8_multiply_161 (by decide) ?_
                    exact ih_68 (j + 1) (upd f1 (i + j) x_135) y_140 g_137 (fun (k : Nat) (hk : k ≠ 2 * t + 1) => (fr_139 k (by omega)).trans ((fr_70 k (by omega)).trans (rfl))) (by omega) (by omega) f_138 _ _ _ hP hS (lv_sub (l' := [(0, .ref (ad (2 * t))), (1, .ref (ad (2 * x))), (2, .ref (ad (2 * y))), (3, .int (nI rm)), (4, .int (nI i)), (7, .long y_140), (9, .int (nI (j + 1))), (5, .long fa)]) hl [2, 3, 4, 5, 6, 1, 0, 7] rfl)
            exact loop_67 _ 0 ff (lN 0) g_52 (fun (k : Nat) (hk : k ≠ 2 * t + 1) => rfl) (Nat.lt_succ_self _) (by omega) f_54 _ _ _ hP hS (lv_sub (l' := [(0, .ref (ad (2 * t))), (1, .ref (ad (2 * x))), (2, .ref (ad (2 * y))), (3, .int (nI rm)), (4, .int (nI i)), (7, .long (lN 0)), (9, .int (nI 0)), (5, .long fa)]) hl [3, 4, 5, 6, 7, 1, 0, 2] rfl)
    exact loop_50 _ 0 f2_48 g_47 (fun (k : Nat) (hk : k ≠ 2 * t + 1) => rfl) (Nat.lt_succ_self _) (by omega) hfill _ _ _ hP hS (lv_sub (l' := [(0, .ref (ad (2 * t))), (1, .ref (ad (2 * x))), (2, .ref (ad (2 * y))), (3, .int (nI rm)), (4, .int (nI 0))]) hl [2, 3, 4, 1, 0] rfl)
  refine lv_aload_n hx hb dX8_multiply_0 rfl (lv_at hl 1 rfl) ?_
  refine m_get (D := (dC, dI)) (v := .int (nI sx9)) (C := RX8) (T := TX8) (N := 3) hx hb hts bk0 hown hK hP (2 * x) (ns_w (by omega)) ax9 rfl 1 (by decide) (hts (.fieldLink RX8 15 "GradientDesk$Whole" "size" "I") (List.mem_of_getElem? (i := 2) rfl)) (fun _ h9 => h9) rfl dX8_multiply_1 ?_
  refine lv_if_eq (tgt := 14) hx hb dX8_multiply_4 (by decide) (fun c_144 => ?_) (fun c_144 => ?_)
  · have c_144 := (nI_eq (a := sx9) (b := 0) (by omega) (by decide)).mp c_144
    refine lv_iconst (v := nI 0) hx hb dX8_multiply_14 (by decide +kernel) ?_
    refine lv_goto (tgt := 35) hx hb dX8_multiply_15 (by decide) ?_
    exact loop_27 0 (by omega) _ _ _ hP hS (lv_sub (l' := [(0, .ref (ad (2 * t))), (1, .ref (ad (2 * x))), (2, .ref (ad (2 * y)))]) hl [0, 1, 2] rfl)
  · have c_144 := mt (nI_eq (a := sx9) (b := 0) (by omega) (by decide)).mpr c_144
    refine lv_aload_n hx hb dX8_multiply_7 rfl (lv_at hl 2 rfl) ?_
    refine m_get (D := (dC, dI)) (v := .int (nI sy9)) (C := RX8) (T := TX8) (N := 3) hx hb hts bk0 hown hK hP (2 * y) (ns_w (by omega)) ay9 rfl 1 (by decide) (hts (.fieldLink RX8 15 "GradientDesk$Whole" "size" "I") (List.mem_of_getElem? (i := 2) rfl)) (fun _ h9 => h9) rfl dX8_multiply_8 ?_
    refine lv_if_ne (tgt := 18) hx hb dX8_multiply_11 (by decide) (fun c_145 => ?_) (fun c_145 => ?_)
    · have c_145 := mt (nI_eq (a := sy9) (b := 0) (by omega) (by decide)).mpr c_145
      refine lv_aload_n hx hb dX8_multiply_18 rfl (lv_at hl 0 rfl) ?_
      refine m_get (D := (dC, dI)) (v := .ref (ad (2 * t + 1))) (C := RX8) (T := TX8) (N := 3) hx hb hts bk0 hown hK hP (2 * t) (ns_w (by omega)) at9 rfl 0 (by decide) (hts (.fieldLink RX8 9 "GradientDesk$Whole" "words" "[I") (List.mem_of_getElem? (i := 3) rfl)) (fun _ h9 => h9) rfl dX8_multiply_19 ?_
      refine m_alen hx hb hK hP (2 * t + 1) (ns_w (by omega)) bt9 dX8_multiply_22 ?_
      refine lv_aload_n hx hb dX8_multiply_23 rfl (lv_at hl 1 rfl) ?_
      refine m_get (D := (dC, dI)) (v := .int (nI sx9)) (C := RX8) (T := TX8) (N := 3) hx hb hts bk0 hown hK hP (2 * x) (ns_w (by omega)) ax9 rfl 1 (by decide) (hts (.fieldLink RX8 15 "GradientDesk$Whole" "size" "I") (List.mem_of_getElem? (i := 2) rfl)) (fun _ h9 => h9) rfl dX8_multiply_24 ?_
      refine lv_aload_n hx hb dX8_multiply_27 rfl (lv_at hl 2 rfl) ?_
      refine m_get (D := (dC, dI)) (v := .int (nI sy9)) (C := RX8) (T := TX8) (N := 3) hx hb hts bk0 hown hK hP (2 * y) (ns_w (by omega)) ay9 rfl 1 (by decide) (hts (.fieldLink RX8 15 "GradientDesk$Whole" "size" "I") (List.mem_of_getElem? (i := 2) rfl)) (fun _ h9 => h9) rfl dX8_multiply_28 ?_
      refine lv_iadd hx hb dX8_multiply_31 ?_
      refine lv_topi (fun x_146 e_147 => ?_)
      obtain rfl : x_146 = nI (sx9 + sy9) := e_147.trans (nI_add sx9 sy9)
      refine va_mmin hx hb (by rw [hml]; exact hl.1.symm) hown (hts (.methodLink RX8 29 Lib.Math.min.name) (List.mem_of_getElem? (i := 8) rfl)) (hts (.static Lib.Math.min.name) (List.mem_of_getElem? (i := 9) rfl)) (hts (.initialized "java/lang/Math") (List.mem_of_getElem? (i := 10) rfl)) (hts (.code Lib.Math.min.name Lib.Math.min.code 2 (some .int)) (List.mem_of_getElem? (i := 11) rfl)) (Nat.le_of_ble_eq_true rfl) (Nat.le_of_ble_eq_true rfl) (Nat.le_of_ble_eq_true rfl) (Nat.le_of_ble_eq_true rfl) dX8_multiply_32 ?_
      refine lv_topi (fun x_149 e_150 => ?_)
      obtain ⟨q_148, hq_148, eq_148⟩ : ∃ z : Nat, z = min mt9 (sx9 + sy9) ∧ x_149 = nI z := ⟨_, rfl, by rw [e_150]; exact k_min (by omega) (by omega)⟩
      subst eq_148
      exact loop_27 q_148 (by omega) _ _ _ hP hS (lv_sub (l' := [(0, .ref (ad (2 * t))), (1, .ref (ad (2 * x))), (2, .ref (ad (2 * y)))]) hl [0, 1, 2] rfl)
    · have c_145 := (nI_eq (a := sy9) (b := 0) (by omega) (by decide)).mp c_145
      refine lv_iconst (v := nI 0) hx hb dX8_multiply_14 (by decide +kernel) ?_
      refine lv_goto (tgt := 35) hx hb dX8_multiply_15 (by decide) ?_
      exact loop_27 0 (by omega) _ _ _ hP hS (lv_sub (l' := [(0, .ref (ad (2 * t))), (1, .ref (ad (2 * x))), (2, .ref (ad (2 * y)))]) hl [0, 1, 2] rfl)
end
section
def wd_J_nlz : List Cond := .code yJ6_numberOfLeadingZeros_0f7a4 cJ6_numberOfLeadingZeros_0f7a4 2 (some .int) :: (([.constant RJ6 264 (65536)] : List Cond) ++ ([]))
theorem gw_J_nlz : wd_J_nlz.all goodWord = true := k_allc rfl (k_all (by decide +kernel) (rfl))
set_option maxHeartbeats 4000000 in
set_option maxRecDepth 100000 in
theorem c_J_nlz (l : Launch) (dC : Nat → ClassId) (dI : Nat → Nat → Nat) (A : Nat → Prop) (ad : Nat → Nat) (cA : Nat → ClassId) (g : Nat → va_E) (w : Nat) (hw : w < 4294967296) : Met l yJ6_numberOfLeadingZeros_0f7a4 wd_J_nlz ({ frames := 10, cells := 0, slots := 0, locals := 200 }) (va_Pc [.int (nI w)] (PR NSc tyc dC dI A ad cA g)) (va_Qi (fun (r : Int32) => fun (u : Unit) => match u with | () => r = nI (32 - bl w)) (fun (u : Unit) (t : State) => va_P (dC, dI) vwCl (wo ad NSc g) t.heap) A) (0) (0) A := by
  refine Met.ofW (cc := cJ6_numberOfLeadingZeros_0f7a4) (maxL := 2) (ret := (some .int)) (by decide) rfl ?_
  intro p e s m args below meth c s₁ B hml hv
  obtain ⟨rfl, hA, hP, hL⟩ := hv
  have hx := B.exec
  have hb := B.bytes
  have hr := B.returns
  have hts := atoms_spec (ws := wd_J_nlz) B.pre
  have hown : s.vm.findClass RJ6 = some m.cls := findClass_of_methodNamed B.named
  have hlocks := B.notSynchronized
  have hK := hL.1
  have hD : ∀ g, va_D A (wo ad NSc g) := fun g => wo_D hL.2.1 hL.2.2 g
  have hS : va_S A s.heap s.heap [] := va_S.rf
  have hl := lv_entry ([.int (nI w)]) (n := 2) (Nat.le_of_ble_eq_true rfl)
  rw [lg_entry_eq]
  generalize (lg_sl ([.int (nI w)]) ++ List.replicate (2 - (lg_sl ([.int (nI w)])).length) Slot.unset).toArray = ls at hl ⊢
  have hl : lv_has ls 2 [(0, .int (nI w))] := hl
  by_cases hs : w < 2147483648
  · skip
    refine lv_iload_n hx hb dJ6_numberOfLeadingZeros_0f7a4_0 rfl (lv_at hl 0 rfl) ?_
    refine lv_if_gt (tgt := 15) hx hb dJ6_numberOfLeadingZeros_0f7a4_1 (by decide) (fun c_1 => ?_) (fun c_1 => ?_)
    · have c_1 := (nI_ltI (a := 0) (b := w) (by decide) (by omega)).mp c_1
      refine lv_bipush (v := nI 31) hx hb dJ6_numberOfLeadingZeros_0f7a4_15 (by decide +kernel) ?_
      have loop_2 : ∀ (n : Nat) (j : Nat), (15 ≤ n ∧ n ≤ 31) → (j = w / 2 ^ (31 - n)) → (0 < j) → (j < 65536) → ∀ (H : Heap) (locs : List Loc) (ls : Array Slot), va_P (dC, dI) vwCl (wo ad NSc g) H → va_S A s.heap H locs → lv_has ls 2 [(0, .int (nI j)), (1, .int (nI n))] → W p l e (headSpec wd_J_nlz ({ frames := 10, cells := 0, slots := 0, locals := 200 })).room s m ([.int (nI w)] : List Value).toArray below meth c H locs (0) (0) (MQ below (va_Qi (fun (r : Int32) => fun (u : Unit) => match u with | () => r = nI (32 - bl w)) (fun (u : Unit) (t : State) => va_P (dC, dI) vwCl (wo ad NSc g) t.heap) A) ([.int (nI w)] : List Value).toArray s (0) (0) A) (F0 m 33 ls []) := by
        intro n j h0 h2 h3 h4 H locs ls hP hS hl
        refine lv_iload_n hx hb dJ6_numberOfLeadingZeros_0f7a4_33 rfl (lv_at hl 0 rfl) ?_
        have loop_6 : ∀ (n : Nat) (j : Nat), (7 ≤ n ∧ n ≤ 31) → (j = w / 2 ^ (31 - n)) → (0 < j) → (j < 256) → ∀ (H : Heap) (locs : List Loc) (ls : Array Slot), va_P (dC, dI) vwCl (wo ad NSc g) H → va_S A s.heap H locs → lv_has ls 2 [(0, .int (nI j)), (1, .int (nI n))] → W p l e (headSpec wd_J_nlz ({ frames := 10, cells := 0, slots := 0, locals := 200 })).room s m ([.int (nI w)] : List Value).toArray below meth c H locs (0) (0) (MQ below (va_Qi (fun (r : Int32) => fun (u : Unit) => match u with | () => r = nI (32 - bl w)) (fun (u : Unit) (t : State) => va_P (dC, dI) vwCl (wo ad NSc g) t.heap) A) ([.int (nI w)] : List Value).toArray s (0) (0) A) (F0 m 48 ls []) := by
          intro n j h0 h2 h3 h4 H locs ls hP hS hl
          refine lv_iload_n hx hb dJ6_numberOfLeadingZeros_0f7a4_48 rfl (lv_at hl 0 rfl) ?_
          have loop_10 : ∀ (n : Nat) (j : Nat), (3 ≤ n ∧ n ≤ 31) → (j = w / 2 ^ (31 - n)) → (0 < j) → (j < 16) → ∀ (H : Heap) (locs : List Loc) (ls : Array Slot), va_P (dC, dI) vwCl (wo ad NSc g) H → va_S A s.heap H locs → lv_has ls 2 [(0, .int (nI j)), (1, .int (nI n))] → W p l e (headSpec wd_J_nlz ({ frames := 10, cells := 0, slots := 0, locals := 200 })).room s m ([.int (nI w)] : List Value).toArray below meth c H locs (0) (0) (MQ below (va_Qi (fun (r : Int32) => fun (u : Unit) => match u with | () => r = nI (32 - bl w)) (fun (u : Unit) (t : State) => va_P (dC, dI) vwCl (wo ad NSc g) t.heap) A) ([.int (nI w)] : List Value).toArray s (0) (0) A) (F0 m 61 ls []) := by
            intro n j h0 h2 h3 h4 H locs ls hP hS hl
            refine lv_iload_n hx hb dJ6_numberOfLeadingZeros_0f7a4_61 rfl (lv_at hl 0 rfl) ?_
            have loop_14 : ∀ (n : Nat) (j : Nat), (1 ≤ n ∧ n ≤ 31) → (j = w / 2 ^ (31 - n)) → (0 < j) → (j < 4) → ∀ (H : Heap) (locs : List Loc) (ls : Array Slot), va_P (dC, dI) vwCl (wo ad NSc g) H → va_S A s.heap H locs → lv_has ls 2 [(0, .int (nI j)), (1, .int (nI n))] → W p l e (headSpec wd_J_nlz ({ frames := 10, cells := 0, slots := 0, locals := 200 })).room s m ([.int (nI w)] : List Value).toArray below meth c H locs (0) (0) (MQ below (va_Qi (fun (r : Int32) => fun (u : Unit) => match u with | () => r = nI (32 - bl w)) (fun (u : Unit) (t : State) => va_P (dC, dI) vwCl (wo ad NSc g) t.heap) A) ([.int (nI w)] : List Value).toArray s (0) (0) A) (F0 m 73 ls []) := by
              intro n j h0 h2 h3 h4 H locs ls hP hS hl
              refine lv_iload_n hx hb dJ6_numberOfLeadingZeros_0f7a4_73 rfl (lv_at hl 1 rfl) ?_
              refine lv_iload_n hx hb dJ6_numberOfLeadingZeros_0f7a4_74 rfl (lv_at hl 0 rfl) ?_
              refine lv_iconst (v := nI 1) hx hb dJ6_numberOfLeadingZeros_0f7a4_75 (by decide +kernel) ?_
              refine lv_iushr hx hb dJ6_numberOfLeadingZeros_0f7a4_76 rfl ?_
              refine lv_topi (fun x_18 e_19 => ?_)
              obtain rfl : x_18 = nI (j / 2) := e_19.trans ((pk_ushrN (n := j) (by omega) (nI 1) 1 (by decide +kernel)).trans rfl)
              refine lv_isub hx hb dJ6_numberOfLeadingZeros_0f7a4_77 ?_
              refine lv_topi (fun x_20 e_21 => ?_)
              obtain rfl : x_20 = nI (n - (j / 2)) := e_21.trans (pk_sub (show j / 2 ≤ n by omega))
              refine W.widen (k := 0) (n := 0) (by omega) (by omega) ?_
              exact W.iret (v := nI (n - (j / 2))) hx hb hr (fun t9 ht9 hW9 => ⟨⟨nI (n - (j / 2)), (), rfl, (congrArg nI (k_nlz (n := n) (j := j) h0.2 h2 h3 h4)), by show va_P (dC, dI) vwCl _ t9.heap; rw [ht9]; exact hP⟩, hS.F ht9⟩) hS.2.2 dJ6_numberOfLeadingZeros_0f7a4_78
            refine lv_iconst (v := nI 4) hx hb dJ6_numberOfLeadingZeros_0f7a4_62 (by decide +kernel) ?_
            refine lv_icmp_lt (tgt := 73) hx hb dJ6_numberOfLeadingZeros_0f7a4_63 (by decide) (fun c_22 => ?_) (fun c_22 => ?_)
            · have c_22 := (nI_ltI (a := j) (b := 4) (by omega) (by decide)).mp c_22
              exact loop_14 n j (by omega) h2 (by omega) (by omega) _ _ _ hP hS (lv_sub (l' := [(0, .int (nI j)), (1, .int (nI n))]) hl [0, 1] rfl)
            · have c_22 := mt (nI_ltI (a := j) (b := 4) (by omega) (by decide)).mpr c_22
              refine lv_iinc (v := nI (n - 2)) (lv' := [(1, .int (nI (n - 2))), (0, .int (nI j))]) hx hb dJ6_numberOfLeadingZeros_0f7a4_66 hl (k := 1) rfl ((show nI n + Int32.ofInt (-2) = nI (n - 2) from by rw [show Int32.ofInt (-2) = -nI 2 from by decide, ← Int32.sub_eq_add_neg, pk_sub (by omega)])) (by decide) rfl (fun ls hl => ?_)
              refine lv_iload_n hx hb dJ6_numberOfLeadingZeros_0f7a4_69 rfl (lv_at hl 1 rfl) ?_
              refine lv_iconst (v := nI 2) hx hb dJ6_numberOfLeadingZeros_0f7a4_70 (by decide +kernel) ?_
              refine lv_iushr hx hb dJ6_numberOfLeadingZeros_0f7a4_71 rfl ?_
              refine lv_topi (fun x_25 e_26 => ?_)
              obtain rfl : x_25 = nI (j / 4) := e_26.trans ((pk_ushrN (n := j) (by omega) (nI 2) 2 (by decide +kernel)).trans rfl)
              refine lv_istore_n (lv' := [(0, .int (nI (j / 4))), (1, .int (nI (n - 2)))]) hx hb dJ6_numberOfLeadingZeros_0f7a4_72 rfl hl (by decide) rfl (fun ls hl => ?_)
              exact loop_14 (n - 2) (j / 4) (by omega) (by rw [h2]; exact k_sh (b := 2) (by omega)) (by omega) (by omega) _ _ _ hP hS (lv_sub (l' := [(0, .int (nI (j / 4))), (1, .int (nI (n - 2)))]) hl [0, 1] rfl)
          refine lv_bipush (v := nI 16) hx hb dJ6_numberOfLeadingZeros_0f7a4_49 (by decide +kernel) ?_
          refine lv_icmp_lt (tgt := 61) hx hb dJ6_numberOfLeadingZeros_0f7a4_51 (by decide) (fun c_27 => ?_) (fun c_27 => ?_)
          · have c_27 := (nI_ltI (a := j) (b := 16) (by omega) (by decide)).mp c_27
            exact loop_10 n j (by omega) h2 (by omega) (by omega) _ _ _ hP hS (lv_sub (l' := [(0, .int (nI j)), (1, .int (nI n))]) hl [0, 1] rfl)
          · have c_27 := mt (nI_ltI (a := j) (b := 16) (by omega) (by decide)).mpr c_27
            refine lv_iinc (v := nI (n - 4)) (lv' := [(1, .int (nI (n - 4))), (0, .int (nI j))]) hx hb dJ6_numberOfLeadingZeros_0f7a4_54 hl (k := 1) rfl ((show nI n + Int32.ofInt (-4) = nI (n - 4) from by rw [show Int32.ofInt (-4) = -nI 4 from by decide, ← Int32.sub_eq_add_neg, pk_sub (by omega)])) (by decide) rfl (fun ls hl => ?_)
            refine lv_iload_n hx hb dJ6_numberOfLeadingZeros_0f7a4_57 rfl (lv_at hl 1 rfl) ?_
            refine lv_iconst (v := nI 4) hx hb dJ6_numberOfLeadingZeros_0f7a4_58 (by decide +kernel) ?_
            refine lv_iushr hx hb dJ6_numberOfLeadingZeros_0f7a4_59 rfl ?_
            refine lv_topi (fun x_30 e_31 => ?_)
            obtain rfl : x_30 = nI (j / 16) := e_31.trans ((pk_ushrN (n := j) (by omega) (nI 4) 4 (by decide +kernel)).trans rfl)
            refine lv_istore_n (lv' := [(0, .int (nI (j / 16))), (1, .int (nI (n - 4)))]) hx hb dJ6_numberOfLeadingZeros_0f7a4_60 rfl hl (by decide) rfl (fun ls hl => ?_)
            exact loop_10 (n - 4) (j / 16) (by omega) (by rw [h2]; exact k_sh (b := 4) (by omega)) (by omega) (by omega) _ _ _ hP hS (lv_sub (l' := [(0, .int (nI (j / 16))), (1, .int (nI (n - 4)))]) hl [0, 1] rfl)
        refine lv_sipush (v := nI 256) hx hb dJ6_numberOfLeadingZeros_0f7a4_34 (by decide +kernel) ?_
        refine lv_icmp_lt (tgt := 48) hx hb dJ6_numberOfLeadingZeros_0f7a4_37 (by decide) (fun c_32 => ?_) (fun c_32 => ?_)
        · have c_32 := (nI_ltI (a := j) (b := 256) (by omega) (by decide)).mp c_32
          exact loop_6 n j (by omega) h2 (by omega) (by omega) _ _ _ hP hS (lv_sub (l' := [(0, .int (nI j)), (1, .int (nI n))]) hl [0, 1] rfl)
        · have c_32 := mt (nI_ltI (a := j) (b := 256) (by omega) (by decide)).mpr c_32
          refine lv_iinc (v := nI (n - 8)) (lv' := [(1, .int (nI (n - 8))), (0, .int (nI j))]) hx hb dJ6_numberOfLeadingZeros_0f7a4_40 hl (k := 1) rfl ((show nI n + Int32.ofInt (-8) = nI (n - 8) from by rw [show Int32.ofInt (-8) = -nI 8 from by decide, ← Int32.sub_eq_add_neg, pk_sub (by omega)])) (by decide) rfl (fun ls hl => ?_)
          refine lv_iload_n hx hb dJ6_numberOfLeadingZeros_0f7a4_43 rfl (lv_at hl 1 rfl) ?_
          refine lv_bipush (v := nI 8) hx hb dJ6_numberOfLeadingZeros_0f7a4_44 (by decide +kernel) ?_
          refine lv_iushr hx hb dJ6_numberOfLeadingZeros_0f7a4_46 rfl ?_
          refine lv_topi (fun x_35 e_36 => ?_)
          obtain rfl : x_35 = nI (j / 256) := e_36.trans ((pk_ushrN (n := j) (by omega) (nI 8) 8 (by decide +kernel)).trans rfl)
          refine lv_istore_n (lv' := [(0, .int (nI (j / 256))), (1, .int (nI (n - 8)))]) hx hb dJ6_numberOfLeadingZeros_0f7a4_47 rfl hl (by decide) rfl (fun ls hl => ?_)
          exact loop_6 (n - 8) (j / 256) (by omega) (by rw [h2]; exact k_sh (b := 8) (by omega)) (by omega) (by omega) _ _ _ hP hS (lv_sub (l' := [(0, .int (nI (j / 256))), (1, .int (nI (n - 8)))]) hl [0, 1] rfl)
      refine lv_istore_n (lv' := [(1, .int (nI 31)), (0, .int (nI w))]) hx hb dJ6_numberOfLeadingZeros_0f7a4_17 rfl hl (by decide) rfl (fun ls hl => ?_)
      refine lv_iload_n hx hb dJ6_numberOfLeadingZeros_0f7a4_18 rfl (lv_at hl 1 rfl) ?_
      refine lv_ldcw (v := 65536) hx hb hown (hts (.constant RJ6 264 (65536)) (List.mem_of_getElem? (i := 1) rfl)) dJ6_numberOfLeadingZeros_0f7a4_19 ?_
      refine lv_topi (fun x_37 e_38 => ?_)
      obtain rfl : x_37 = nI 65536 := e_38.trans (by decide)
      refine lv_icmp_lt (tgt := 33) hx hb dJ6_numberOfLeadingZeros_0f7a4_22 (by decide) (fun c_39 => ?_) (fun c_39 => ?_)
      · have c_39 := (nI_ltI (a := w) (b := 65536) (by omega) (by decide)).mp c_39
        exact loop_2 31 w (by omega) ((Nat.div_one w).symm) (by omega) (by omega) _ _ _ hP hS (lv_sub (l' := [(0, .int (nI w)), (1, .int (nI 31))]) hl [1, 0] rfl)
      · have c_39 := mt (nI_ltI (a := w) (b := 65536) (by omega) (by decide)).mpr c_39
        refine lv_iinc (v := nI 15) (lv' := [(1, .int (nI 15)), (0, .int (nI w))]) hx hb dJ6_numberOfLeadingZeros_0f7a4_25 hl (k := 0) rfl ((show nI 31 + Int32.ofInt (-16) = nI 15 from by rw [show Int32.ofInt (-16) = -nI 16 from by decide, ← Int32.sub_eq_add_neg, pk_sub (by omega)])) (by decide) rfl (fun ls hl => ?_)
        refine lv_iload_n hx hb dJ6_numberOfLeadingZeros_0f7a4_28 rfl (lv_at hl 1 rfl) ?_
        refine lv_bipush (v := nI 16) hx hb dJ6_numberOfLeadingZeros_0f7a4_29 (by decide +kernel) ?_
        refine lv_iushr hx hb dJ6_numberOfLeadingZeros_0f7a4_31 rfl ?_
        refine lv_topi (fun x_42 e_43 => ?_)
        obtain rfl : x_42 = nI (w / 65536) := e_43.trans ((pk_ushrN (n := w) (by omega) (nI 16) 16 (by decide +kernel)).trans rfl)
        refine lv_istore_n (lv' := [(0, .int (nI (w / 65536))), (1, .int (nI 15))]) hx hb dJ6_numberOfLeadingZeros_0f7a4_32 rfl hl (by decide) rfl (fun ls hl => ?_)
        exact loop_2 15 (w / 65536) (by omega) (by rw [show w / 65536 = w / 2 ^ 16 from rfl]) (by omega) (by omega) _ _ _ hP hS (lv_sub (l' := [(0, .int (nI (w / 65536))), (1, .int (nI 15))]) hl [0, 1] rfl)
    · have c_1 := mt (nI_ltI (a := 0) (b := w) (by decide) (by omega)).mpr c_1
      refine lv_iload_n hx hb dJ6_numberOfLeadingZeros_0f7a4_4 rfl (lv_at hl 0 rfl) ?_
      refine lv_if_ne (tgt := 13) hx hb dJ6_numberOfLeadingZeros_0f7a4_5 (by decide) (fun c_44 => ?_) (fun c_44 => ?_)
      · have c_44 := mt (nI_eq (a := w) (b := 0) (by omega) (by decide)).mpr c_44
        refine lv_iconst (v := nI 0) hx hb dJ6_numberOfLeadingZeros_0f7a4_13 (by decide +kernel) ?_
        refine W.widen (k := 0) (n := 0) (by omega) (by omega) ?_
        exact W.iret (v := nI 0) hx hb hr (fun t9 ht9 hW9 => ⟨⟨nI 0, (), rfl, (by have h9 : bl w = 32 := bl_of (k := 31) (by omega) (by omega); rw [h9]), by show va_P (dC, dI) vwCl _ t9.heap; rw [ht9]; exact hP⟩, hS.F ht9⟩) hS.2.2 dJ6_numberOfLeadingZeros_0f7a4_14
      · have c_44 := (nI_eq (a := w) (b := 0) (by omega) (by decide)).mp c_44
        refine lv_bipush (v := nI 32) hx hb dJ6_numberOfLeadingZeros_0f7a4_8 (by decide +kernel) ?_
        refine lv_goto (tgt := 14) hx hb dJ6_numberOfLeadingZeros_0f7a4_10 (by decide) ?_
        refine W.widen (k := 0) (n := 0) (by omega) (by omega) ?_
        exact W.iret (v := nI 32) hx hb hr (fun t9 ht9 hW9 => ⟨⟨nI 32, (), rfl, (by rw [show w = 0 by omega, bl_zero]), by show va_P (dC, dI) vwCl _ t9.heap; rw [ht9]; exact hP⟩, hS.F ht9⟩) hS.2.2 dJ6_numberOfLeadingZeros_0f7a4_14
  · have hneg : nI w < 0 := k_big (by omega) hw
    refine lv_iload_n hx hb dJ6_numberOfLeadingZeros_0f7a4_0 rfl (lv_at hl 0 rfl) ?_
    refine lv_if_gt (tgt := 15) hx hb dJ6_numberOfLeadingZeros_0f7a4_1 (by decide) (fun c_45 => (Int32.lt_irrefl (Int32.lt_trans c_45 hneg)).elim) (fun c_45 => ?_)
    refine lv_iload_n hx hb dJ6_numberOfLeadingZeros_0f7a4_4 rfl (lv_at hl 0 rfl) ?_
    refine lv_if_ne (tgt := 13) hx hb dJ6_numberOfLeadingZeros_0f7a4_5 (by decide) (fun c_46 => ?_) (fun c_46 => (by rw [c_46] at hneg; exact absurd hneg (by decide)))
    refine lv_iconst (v := nI 0) hx hb dJ6_numberOfLeadingZeros_0f7a4_13 (by decide +kernel) ?_
    refine W.widen (k := 0) (n := 0) (by omega) (by omega) ?_
    exact W.iret (v := nI 0) hx hb hr (fun t9 ht9 hW9 => ⟨⟨nI 0, (), rfl, (by have h9 : bl w = 32 := bl_of (k := 31) (by omega) (by omega); rw [h9]), by show va_P (dC, dI) vwCl _ t9.heap; rw [ht9]; exact hP⟩, hS.F ht9⟩) hS.2.2 dJ6_numberOfLeadingZeros_0f7a4_14
def wd_J_ntz : List Cond := .code yJ6_numberOfTrailingZeros_0f7a4 cJ6_numberOfTrailingZeros_0f7a4 2 (some .int) :: (([.constant RJ6 264 (65536)] : List Cond) ++ ([]))
theorem gw_J_ntz : wd_J_ntz.all goodWord = true := k_allc rfl (k_all (by decide +kernel) (rfl))
set_option maxHeartbeats 4000000 in
set_option maxRecDepth 100000 in
theorem c_J_ntz (l : Launch) (dC : Nat → ClassId) (dI : Nat → Nat → Nat) (A : Nat → Prop) (ad : Nat → Nat) (cA : Nat → ClassId) (g : Nat → va_E) (v : Int32) : Met l yJ6_numberOfTrailingZeros_0f7a4 wd_J_ntz ({ frames := 10, cells := 0, slots := 0, locals := 200 }) (va_Pc [.int v] (PR NSc tyc dC dI A ad cA g)) (va_Qi (fun (r : Int32) => fun (u : Unit) => match u with | () => ∃ z, z ≤ 40 ∧ r = nI z) (fun (u : Unit) (t : State) => va_P (dC, dI) vwCl (wo ad NSc g) t.heap) A) (0) (0) A := by
  refine Met.ofW (cc := cJ6_numberOfTrailingZeros_0f7a4) (maxL := 2) (ret := (some .int)) (by decide) rfl ?_
  intro p e s m args below meth c s₁ B hml hv
  obtain ⟨rfl, hA, hP, hL⟩ := hv
  have hx := B.exec
  have hb := B.bytes
  have hr := B.returns
  have hts := atoms_spec (ws := wd_J_ntz) B.pre
  have hown : s.vm.findClass RJ6 = some m.cls := findClass_of_methodNamed B.named
  have hlocks := B.notSynchronized
  have hK := hL.1
  have hD : ∀ g, va_D A (wo ad NSc g) := fun g => wo_D hL.2.1 hL.2.2 g
  have hS : va_S A s.heap s.heap [] := va_S.rf
  have hl := lv_entry ([.int v]) (n := 2) (Nat.le_of_ble_eq_true rfl)
  rw [lg_entry_eq]
  generalize (lg_sl ([.int v]) ++ List.replicate (2 - (lg_sl ([.int v])).length) Slot.unset).toArray = ls at hl ⊢
  have hl : lv_has ls 2 [(0, .int v)] := hl
  refine lv_iload_n hx hb dJ6_numberOfTrailingZeros_0f7a4_0 rfl (lv_at hl 0 rfl) ?_
  refine lv_iconst (v := -1) hx hb dJ6_numberOfTrailingZeros_0f7a4_1 (by decide +kernel) ?_
  refine lv_ixor hx hb dJ6_numberOfTrailingZeros_0f7a4_2 ?_
  refine lv_topi (fun x_1 e_2 => ?_)
  refine lv_iload_n hx hb dJ6_numberOfTrailingZeros_0f7a4_3 rfl (lv_at hl 0 rfl) ?_
  refine lv_iconst (v := nI 1) hx hb dJ6_numberOfTrailingZeros_0f7a4_4 (by decide +kernel) ?_
  refine lv_isub hx hb dJ6_numberOfTrailingZeros_0f7a4_5 ?_
  refine lv_topi (fun x_3 e_4 => ?_)
  refine lv_iand hx hb dJ6_numberOfTrailingZeros_0f7a4_6 ?_
  refine lv_topi (fun x_5 e_6 => ?_)
  refine lv_istore_n (lv' := [(0, .int x_5)]) hx hb dJ6_numberOfTrailingZeros_0f7a4_7 rfl hl (by decide) rfl (fun ls hl => ?_)
  refine lv_iload_n hx hb dJ6_numberOfTrailingZeros_0f7a4_8 rfl (lv_at hl 0 rfl) ?_
  refine lv_if_gt (tgt := 17) hx hb dJ6_numberOfTrailingZeros_0f7a4_9 (by decide) (fun c_7 => ?_) (fun c_7 => ?_)
  · have c_7 := (k_lt (nI 0) x_5).mp c_7
    rw [show (nI 0).toInt = 0 from by decide] at c_7
    obtain ⟨j0, hj1, hj2, hj3⟩ := k_nat (x := x_5) (by omega)
    subst hj1
    refine lv_iconst (v := nI 1) hx hb dJ6_numberOfTrailingZeros_0f7a4_17 (by decide +kernel) ?_
    refine lv_istore_n (lv' := [(1, .int (nI 1)), (0, .int (nI j0))]) hx hb dJ6_numberOfTrailingZeros_0f7a4_18 rfl hl (by decide) rfl (fun ls hl => ?_)
    have loop_8 : ∀ (n : Nat) (j : Nat), (n ≤ 17) → (j ≤ 65536) → ∀ (H : Heap) (locs : List Loc) (ls : Array Slot), va_P (dC, dI) vwCl (wo ad NSc g) H → va_S A s.heap H locs → lv_has ls 2 [(0, .int (nI j)), (1, .int (nI n))] → W p l e (headSpec wd_J_ntz ({ frames := 10, cells := 0, slots := 0, locals := 200 })).room s m ([.int v] : List Value).toArray below meth c H locs (0) (0) (MQ below (va_Qi (fun (r : Int32) => fun (u : Unit) => match u with | () => ∃ z, z ≤ 40 ∧ r = nI z) (fun (u : Unit) (t : State) => va_P (dC, dI) vwCl (wo ad NSc g) t.heap) A) ([.int v] : List Value).toArray s (0) (0) A) (F0 m 34 ls []) := by
      intro n j h0 h4 H locs ls hP hS hl
      refine lv_iload_n hx hb dJ6_numberOfTrailingZeros_0f7a4_34 rfl (lv_at hl 0 rfl) ?_
      have loop_12 : ∀ (n : Nat) (j : Nat), (n ≤ 25) → (j ≤ 256) → ∀ (H : Heap) (locs : List Loc) (ls : Array Slot), va_P (dC, dI) vwCl (wo ad NSc g) H → va_S A s.heap H locs → lv_has ls 2 [(0, .int (nI j)), (1, .int (nI n))] → W p l e (headSpec wd_J_ntz ({ frames := 10, cells := 0, slots := 0, locals := 200 })).room s m ([.int v] : List Value).toArray below meth c H locs (0) (0) (MQ below (va_Qi (fun (r : Int32) => fun (u : Unit) => match u with | () => ∃ z, z ≤ 40 ∧ r = nI z) (fun (u : Unit) (t : State) => va_P (dC, dI) vwCl (wo ad NSc g) t.heap) A) ([.int v] : List Value).toArray s (0) (0) A) (F0 m 49 ls []) := by
        intro n j h0 h4 H locs ls hP hS hl
        refine lv_iload_n hx hb dJ6_numberOfTrailingZeros_0f7a4_49 rfl (lv_at hl 0 rfl) ?_
        have loop_16 : ∀ (n : Nat) (j : Nat), (n ≤ 29) → (j ≤ 16) → ∀ (H : Heap) (locs : List Loc) (ls : Array Slot), va_P (dC, dI) vwCl (wo ad NSc g) H → va_S A s.heap H locs → lv_has ls 2 [(0, .int (nI j)), (1, .int (nI n))] → W p l e (headSpec wd_J_ntz ({ frames := 10, cells := 0, slots := 0, locals := 200 })).room s m ([.int v] : List Value).toArray below meth c H locs (0) (0) (MQ below (va_Qi (fun (r : Int32) => fun (u : Unit) => match u with | () => ∃ z, z ≤ 40 ∧ r = nI z) (fun (u : Unit) (t : State) => va_P (dC, dI) vwCl (wo ad NSc g) t.heap) A) ([.int v] : List Value).toArray s (0) (0) A) (F0 m 62 ls []) := by
          intro n j h0 h4 H locs ls hP hS hl
          refine lv_iload_n hx hb dJ6_numberOfTrailingZeros_0f7a4_62 rfl (lv_at hl 0 rfl) ?_
          have loop_20 : ∀ (n : Nat) (j : Nat), (n ≤ 31) → (j ≤ 4) → ∀ (H : Heap) (locs : List Loc) (ls : Array Slot), va_P (dC, dI) vwCl (wo ad NSc g) H → va_S A s.heap H locs → lv_has ls 2 [(0, .int (nI j)), (1, .int (nI n))] → W p l e (headSpec wd_J_ntz ({ frames := 10, cells := 0, slots := 0, locals := 200 })).room s m ([.int v] : List Value).toArray below meth c H locs (0) (0) (MQ below (va_Qi (fun (r : Int32) => fun (u : Unit) => match u with | () => ∃ z, z ≤ 40 ∧ r = nI z) (fun (u : Unit) (t : State) => va_P (dC, dI) vwCl (wo ad NSc g) t.heap) A) ([.int v] : List Value).toArray s (0) (0) A) (F0 m 74 ls []) := by
            intro n j h0 h4 H locs ls hP hS hl
            refine lv_iload_n hx hb dJ6_numberOfTrailingZeros_0f7a4_74 rfl (lv_at hl 1 rfl) ?_
            refine lv_iload_n hx hb dJ6_numberOfTrailingZeros_0f7a4_75 rfl (lv_at hl 0 rfl) ?_
            refine lv_iconst (v := nI 1) hx hb dJ6_numberOfTrailingZeros_0f7a4_76 (by decide +kernel) ?_
            refine lv_iushr hx hb dJ6_numberOfTrailingZeros_0f7a4_77 rfl ?_
            refine lv_topi (fun x_24 e_25 => ?_)
            obtain rfl : x_24 = nI (j / 2) := e_25.trans ((pk_ushrN (n := j) (by omega) (nI 1) 1 (by decide +kernel)).trans rfl)
            refine lv_iadd hx hb dJ6_numberOfTrailingZeros_0f7a4_78 ?_
            refine lv_topi (fun x_26 e_27 => ?_)
            obtain rfl : x_26 = nI (n + (j / 2)) := e_27.trans (nI_add n (j / 2))
            refine W.widen (k := 0) (n := 0) (by omega) (by omega) ?_
            exact W.iret (v := nI (n + (j / 2))) hx hb hr (fun t9 ht9 hW9 => ⟨⟨nI (n + (j / 2)), (), rfl, ⟨_, by omega, rfl⟩, by show va_P (dC, dI) vwCl _ t9.heap; rw [ht9]; exact hP⟩, hS.F ht9⟩) hS.2.2 dJ6_numberOfTrailingZeros_0f7a4_79
          refine lv_iconst (v := nI 4) hx hb dJ6_numberOfTrailingZeros_0f7a4_63 (by decide +kernel) ?_
          refine lv_icmp_le (tgt := 74) hx hb dJ6_numberOfTrailingZeros_0f7a4_64 (by decide) (fun c_28 => ?_) (fun c_28 => ?_)
          · have c_28 := (nI_leI (a := j) (b := 4) (by omega) (by decide)).mp c_28
            exact loop_20 n j (by omega) (by omega) _ _ _ hP hS (lv_sub (l' := [(0, .int (nI j)), (1, .int (nI n))]) hl [0, 1] rfl)
          · have c_28 := mt (nI_leI (a := j) (b := 4) (by omega) (by decide)).mpr c_28
            refine lv_iinc (v := nI (n + 2)) (lv' := [(1, .int (nI (n + 2))), (0, .int (nI j))]) hx hb dJ6_numberOfTrailingZeros_0f7a4_67 hl (k := 1) rfl (nI_add n 2) (by decide) rfl (fun ls hl => ?_)
            refine lv_iload_n hx hb dJ6_numberOfTrailingZeros_0f7a4_70 rfl (lv_at hl 1 rfl) ?_
            refine lv_iconst (v := nI 2) hx hb dJ6_numberOfTrailingZeros_0f7a4_71 (by decide +kernel) ?_
            refine lv_iushr hx hb dJ6_numberOfTrailingZeros_0f7a4_72 rfl ?_
            refine lv_topi (fun x_31 e_32 => ?_)
            obtain rfl : x_31 = nI (j / 4) := e_32.trans ((pk_ushrN (n := j) (by omega) (nI 2) 2 (by decide +kernel)).trans rfl)
            refine lv_istore_n (lv' := [(0, .int (nI (j / 4))), (1, .int (nI (n + 2)))]) hx hb dJ6_numberOfTrailingZeros_0f7a4_73 rfl hl (by decide) rfl (fun ls hl => ?_)
            exact loop_20 (n + 2) (j / 4) (by omega) (by omega) _ _ _ hP hS (lv_sub (l' := [(0, .int (nI (j / 4))), (1, .int (nI (n + 2)))]) hl [0, 1] rfl)
        refine lv_bipush (v := nI 16) hx hb dJ6_numberOfTrailingZeros_0f7a4_50 (by decide +kernel) ?_
        refine lv_icmp_le (tgt := 62) hx hb dJ6_numberOfTrailingZeros_0f7a4_52 (by decide) (fun c_33 => ?_) (fun c_33 => ?_)
        · have c_33 := (nI_leI (a := j) (b := 16) (by omega) (by decide)).mp c_33
          exact loop_16 n j (by omega) (by omega) _ _ _ hP hS (lv_sub (l' := [(0, .int (nI j)), (1, .int (nI n))]) hl [0, 1] rfl)
        · have c_33 := mt (nI_leI (a := j) (b := 16) (by omega) (by decide)).mpr c_33
          refine lv_iinc (v := nI (n + 4)) (lv' := [(1, .int (nI (n + 4))), (0, .int (nI j))]) hx hb dJ6_numberOfTrailingZeros_0f7a4_55 hl (k := 1) rfl (nI_add n 4) (by decide) rfl (fun ls hl => ?_)
          refine lv_iload_n hx hb dJ6_numberOfTrailingZeros_0f7a4_58 rfl (lv_at hl 1 rfl) ?_
          refine lv_iconst (v := nI 4) hx hb dJ6_numberOfTrailingZeros_0f7a4_59 (by decide +kernel) ?_
          refine lv_iushr hx hb dJ6_numberOfTrailingZeros_0f7a4_60 rfl ?_
          refine lv_topi (fun x_36 e_37 => ?_)
          obtain rfl : x_36 = nI (j / 16) := e_37.trans ((pk_ushrN (n := j) (by omega) (nI 4) 4 (by decide +kernel)).trans rfl)
          refine lv_istore_n (lv' := [(0, .int (nI (j / 16))), (1, .int (nI (n + 4)))]) hx hb dJ6_numberOfTrailingZeros_0f7a4_61 rfl hl (by decide) rfl (fun ls hl => ?_)
          exact loop_16 (n + 4) (j / 16) (by omega) (by omega) _ _ _ hP hS (lv_sub (l' := [(0, .int (nI (j / 16))), (1, .int (nI (n + 4)))]) hl [0, 1] rfl)
      refine lv_sipush (v := nI 256) hx hb dJ6_numberOfTrailingZeros_0f7a4_35 (by decide +kernel) ?_
      refine lv_icmp_le (tgt := 49) hx hb dJ6_numberOfTrailingZeros_0f7a4_38 (by decide) (fun c_38 => ?_) (fun c_38 => ?_)
      · have c_38 := (nI_leI (a := j) (b := 256) (by omega) (by decide)).mp c_38
        exact loop_12 n j (by omega) (by omega) _ _ _ hP hS (lv_sub (l' := [(0, .int (nI j)), (1, .int (nI n))]) hl [0, 1] rfl)
      · have c_38 := mt (nI_leI (a := j) (b := 256) (by omega) (by decide)).mpr c_38
        refine lv_iinc (v := nI (n + 8)) (lv' := [(1, .int (nI (n + 8))), (0, .int (nI j))]) hx hb dJ6_numberOfTrailingZeros_0f7a4_41 hl (k := 1) rfl (nI_add n 8) (by decide) rfl (fun ls hl => ?_)
        refine lv_iload_n hx hb dJ6_numberOfTrailingZeros_0f7a4_44 rfl (lv_at hl 1 rfl) ?_
        refine lv_bipush (v := nI 8) hx hb dJ6_numberOfTrailingZeros_0f7a4_45 (by decide +kernel) ?_
        refine lv_iushr hx hb dJ6_numberOfTrailingZeros_0f7a4_47 rfl ?_
        refine lv_topi (fun x_41 e_42 => ?_)
        obtain rfl : x_41 = nI (j / 256) := e_42.trans ((pk_ushrN (n := j) (by omega) (nI 8) 8 (by decide +kernel)).trans rfl)
        refine lv_istore_n (lv' := [(0, .int (nI (j / 256))), (1, .int (nI (n + 8)))]) hx hb dJ6_numberOfTrailingZeros_0f7a4_48 rfl hl (by decide) rfl (fun ls hl => ?_)
        exact loop_12 (n + 8) (j / 256) (by omega) (by omega) _ _ _ hP hS (lv_sub (l' := [(0, .int (nI (j / 256))), (1, .int (nI (n + 8)))]) hl [0, 1] rfl)
    refine lv_iload_n hx hb dJ6_numberOfTrailingZeros_0f7a4_19 rfl (lv_at hl 1 rfl) ?_
    refine lv_ldcw (v := 65536) hx hb hown (hts (.constant RJ6 264 (65536)) (List.mem_of_getElem? (i := 1) rfl)) dJ6_numberOfTrailingZeros_0f7a4_20 ?_
    refine lv_topi (fun x_43 e_44 => ?_)
    obtain rfl : x_43 = nI 65536 := e_44.trans (by decide)
    refine lv_icmp_le (tgt := 34) hx hb dJ6_numberOfTrailingZeros_0f7a4_23 (by decide) (fun c_45 => ?_) (fun c_45 => ?_)
    · have c_45 := (nI_leI (a := j0) (b := 65536) (by omega) (by decide)).mp c_45
      exact loop_8 1 j0 (by omega) (by omega) _ _ _ hP hS (lv_sub (l' := [(0, .int (nI j0)), (1, .int (nI 1))]) hl [1, 0] rfl)
    · have c_45 := mt (nI_leI (a := j0) (b := 65536) (by omega) (by decide)).mpr c_45
      refine lv_iinc (v := nI 17) (lv' := [(1, .int (nI 17)), (0, .int (nI j0))]) hx hb dJ6_numberOfTrailingZeros_0f7a4_26 hl (k := 0) rfl (nI_add 1 16) (by decide) rfl (fun ls hl => ?_)
      refine lv_iload_n hx hb dJ6_numberOfTrailingZeros_0f7a4_29 rfl (lv_at hl 1 rfl) ?_
      refine lv_bipush (v := nI 16) hx hb dJ6_numberOfTrailingZeros_0f7a4_30 (by decide +kernel) ?_
      refine lv_iushr hx hb dJ6_numberOfTrailingZeros_0f7a4_32 rfl ?_
      refine lv_topi (fun x_48 e_49 => ?_)
      obtain rfl : x_48 = nI (j0 / 65536) := e_49.trans ((pk_ushrN (n := j0) (by omega) (nI 16) 16 (by decide +kernel)).trans rfl)
      refine lv_istore_n (lv' := [(0, .int (nI (j0 / 65536))), (1, .int (nI 17))]) hx hb dJ6_numberOfTrailingZeros_0f7a4_33 rfl hl (by decide) rfl (fun ls hl => ?_)
      exact loop_8 17 (j0 / 65536) (by omega) (by omega) _ _ _ hP hS (lv_sub (l' := [(0, .int (nI (j0 / 65536))), (1, .int (nI 17))]) hl [0, 1] rfl)
  · have c_7 := mt (k_lt (nI 0) x_5).mpr c_7
    rw [show (nI 0).toInt = 0 from by decide] at c_7
    refine lv_iload_n hx hb dJ6_numberOfTrailingZeros_0f7a4_12 rfl (lv_at hl 0 rfl) ?_
    refine lv_bipush (v := nI 32) hx hb dJ6_numberOfTrailingZeros_0f7a4_13 (by decide +kernel) ?_
    refine lv_iand hx hb dJ6_numberOfTrailingZeros_0f7a4_15 ?_
    refine lv_topi (fun x_50 e_51 => ?_)
    refine W.widen (k := 0) (n := 0) (by omega) (by omega) ?_
    exact W.iret (v := x_50) hx hb hr (fun t9 ht9 hW9 => ⟨⟨x_50, (), rfl, (by rw [e_51]; obtain ⟨z, h1, h2⟩ := pk_and32 _; exact ⟨z, h1, h2⟩), by show va_P (dC, dI) vwCl _ t9.heap; rw [ht9]; exact hP⟩, hS.F ht9⟩) hS.2.2 dJ6_numberOfTrailingZeros_0f7a4_16
end
