section
def wd_X8_bitLength : List Cond := .code yX8_bitLength cX8_bitLength 1 (some .int) :: (([.fieldLink RX8 15 "GradientDesk$Whole" "size" "I", .fieldLink RX8 9 "GradientDesk$Whole" "words" "[I", .methodLink RX8 39 yJ6_numberOfLeadingZeros_0f7a4, .static yJ6_numberOfLeadingZeros_0f7a4, .initialized RJ6] : List Cond) ++ (u_ws RX8 TX8 3 ++ (wd_J_nlz ++ ([]))))
theorem gw_X8_bitLength : wd_X8_bitLength.all goodWord = true := k_allc rfl (k_all (by decide +kernel) (k_all (gu_X8) (k_all (gw_J_nlz) (rfl))))
set_option maxHeartbeats 4000000 in
set_option maxRecDepth 100000 in
theorem c_X8_bitLength (l : Launch) (dC : Nat → ClassId) (dI : Nat → Nat → Nat) (A : Nat → Prop) (ad : Nat → Nat) (cA : Nat → ClassId) (g : Nat → va_E) (t : Nat) (hAW : AW ad cA g) (it : t < 1038) : Met l yX8_bitLength wd_X8_bitLength ({ frames := 20, cells := 0, slots := 0, locals := 400 }) (va_Pc [.ref (ad (2 * t))] (PR NSc tyc dC dI A ad cA g)) (va_Qi (fun (r : Int32) => fun (u : Unit) => match u with | () => True) (fun (u : Unit) (t : State) => va_P (dC, dI) vwCl (wo ad NSc g) t.heap) A) (0) (0) A := by
  refine Met.ofW (cc := cX8_bitLength) (maxL := 1) (ret := (some .int)) (by decide) rfl ?_
  intro p e s m args below meth c s₁ B hml hv
  obtain ⟨rfl, hA, hP, hL⟩ := hv
  have hx := B.exec
  have hb := B.bytes
  have hr := B.returns
  have hts := atoms_spec (ws := wd_X8_bitLength) B.pre
  have hown : s.vm.findClass RX8 = some m.cls := findClass_of_methodNamed B.named
  have hlocks := B.notSynchronized
  have hK := hL.1
  have hD : ∀ g, va_D A (wo ad NSc g) := fun g => wo_D hL.2.1 hL.2.2 g
  have hS : va_S A s.heap s.heap [] := va_S.rf
  have bk0 : ∀ w ∈ u_ws RX8 TX8 3, w ∈ wd_X8_bitLength := fun _ h => List.mem_cons_of_mem _ (List.mem_append_right _ (List.mem_append_left _ h))
  have bk1 : ∀ w ∈ wd_J_nlz, w ∈ wd_X8_bitLength := fun _ h => List.mem_cons_of_mem _ (List.mem_append_right _ (List.mem_append_right _ (List.mem_append_left _ h)))
  have hl := lv_entry ([.ref (ad (2 * t))]) (n := 1) (Nat.le_of_ble_eq_true rfl)
  rw [lg_entry_eq]
  generalize (lg_sl ([.ref (ad (2 * t))]) ++ List.replicate (1 - (lg_sl ([.ref (ad (2 * t))])).length) Slot.unset).toArray = ls at hl ⊢
  have hl : lv_has ls 1 [(0, .ref (ad (2 * t)))] := hl
  obtain ⟨mt9, st9, nt9, ft9, at9, bt9, ct9, dt9, et9⟩ := hAW t it
  have qt9 : mt9 ≤ 4096 := by rw [dt9]; exact rmc_le _
  refine lv_aload_n hx hb dX8_bitLength_0 rfl (lv_at hl 0 rfl) ?_
  refine m_get (D := (dC, dI)) (v := .int (nI st9)) (C := RX8) (T := TX8) (N := 3) hx hb hts bk0 hown hK hP (2 * t) (ns_w (by omega)) at9 rfl 1 (by decide) (hts (.fieldLink RX8 15 "GradientDesk$Whole" "size" "I") (List.mem_of_getElem? (i := 1) rfl)) (fun _ h9 => h9) rfl dX8_bitLength_1 ?_
  refine lv_if_ne (tgt := 11) hx hb dX8_bitLength_4 (by decide) (fun c_1 => ?_) (fun c_1 => ?_)
  · have c_1 := mt (nI_eq (a := st9) (b := 0) (by omega) (by decide)).mpr c_1
    refine lv_bipush (v := nI 32) hx hb dX8_bitLength_11 (by decide +kernel) ?_
    refine lv_aload_n hx hb dX8_bitLength_13 rfl (lv_at hl 0 rfl) ?_
    refine m_get (D := (dC, dI)) (v := .int (nI st9)) (C := RX8) (T := TX8) (N := 3) hx hb hts bk0 hown hK hP (2 * t) (ns_w (by omega)) at9 rfl 1 (by decide) (hts (.fieldLink RX8 15 "GradientDesk$Whole" "size" "I") (List.mem_of_getElem? (i := 1) rfl)) (fun _ h9 => h9) rfl dX8_bitLength_14 ?_
    refine lv_imul hx hb dX8_bitLength_17 ?_
    refine lv_topi (fun x_2 e_3 => ?_)
    obtain rfl : x_2 = nI (32 * st9) := e_3.trans (pk_mul 32 st9)
    refine lv_aload_n hx hb dX8_bitLength_18 rfl (lv_at hl 0 rfl) ?_
    refine m_get (D := (dC, dI)) (v := .ref (ad (2 * t + 1))) (C := RX8) (T := TX8) (N := 3) hx hb hts bk0 hown hK hP (2 * t) (ns_w (by omega)) at9 rfl 0 (by decide) (hts (.fieldLink RX8 9 "GradientDesk$Whole" "words" "[I") (List.mem_of_getElem? (i := 2) rfl)) (fun _ h9 => h9) rfl dX8_bitLength_19 ?_
    refine lv_aload_n hx hb dX8_bitLength_22 rfl (lv_at hl 0 rfl) ?_
    refine m_get (D := (dC, dI)) (v := .int (nI st9)) (C := RX8) (T := TX8) (N := 3) hx hb hts bk0 hown hK hP (2 * t) (ns_w (by omega)) at9 rfl 1 (by decide) (hts (.fieldLink RX8 15 "GradientDesk$Whole" "size" "I") (List.mem_of_getElem? (i := 1) rfl)) (fun _ h9 => h9) rfl dX8_bitLength_23 ?_
    refine lv_iconst (v := nI 1) hx hb dX8_bitLength_26 (by decide +kernel) ?_
    refine lv_isub hx hb dX8_bitLength_27 ?_
    refine lv_topi (fun x_4 e_5 => ?_)
    obtain rfl : x_4 = nI (st9 - 1) := e_5.trans (pk_sub (show 1 ≤ st9 by omega))
    refine m_iald hx hb hK hP (2 * t + 1) (ns_w (by omega)) (tyc_w (by omega)) bt9 (i := st9 - 1) (by omega) (by omega) dX8_bitLength_28 ?_
    refine lv_topi (fun x_6 e_7 => ?_)
    obtain ⟨w_8, h_9, rfl⟩ := wb_of32 x_6
    refine va_calli (va_runS (As := [.int (nI w_8)]) (rest := [.int (nI (32 * st9))]) ⟨hx, hb, hml, hown, hts⟩ (c_J_nlz l dC dI A ad cA g w_8 h_9) (va_cwS 1 hts (goodIn_app (goodIn_r [Cond.methodLink RX8 39 yJ6_numberOfLeadingZeros_0f7a4, Cond.static yJ6_numberOfLeadingZeros_0f7a4, Cond.initialized RJ6] [3, 4, 5] rfl rfl) (goodIn_sub (fun w9 h9 => bk1 w9 h9) gw_J_nlz)) rfl rfl rfl (by decide +kernel) ⟨Nat.le_of_ble_eq_true rfl, Nat.le_of_ble_eq_true rfl⟩) ⟨fun a U g mk q => ⟨q.1, q.2.1, q.2.2.1, LY.moved (u := U) (U := U.calling g mk a) (Vm.Alike.refl U.vm) q.2.2.2⟩, fun U hU hW => ⟨rfl, by rw [hU]; exact fun q h => hA q (Nat.le_trans hS.1 h), by rw [hU]; exact hP, LY.moved hW.alike hL⟩⟩ rfl rfl hl.1 rfl (lv_room (Nat.le_of_ble_eq_true rfl)) dX8_bitLength_29 ⟨(Nat.le_of_ble_eq_true rfl), (Nat.le_of_ble_eq_true rfl)⟩) hS (fun q _ h => h) (fun q h => h) (fun r_10 u8 t8 H1 locs ht8 hvm8 hw_11 hB hz1 hk1 hS => ?_)
    obtain ⟨⟩ := u8
    try dsimp only at hw_11 hB
    rw [ht8] at hB
    have hP := hB
    generalize H1 = H at hP hS ⊢
    refine lv_isub hx hb dX8_bitLength_32 ?_
    refine lv_topi (fun x_12 e_13 => ?_)
    refine W.widen (k := 0) (n := 0) (by omega) (by omega) ?_
    exact W.iret (v := x_12) hx hb hr (fun t9 ht9 hW9 => ⟨⟨x_12, (), rfl, trivial, by show va_P (dC, dI) vwCl _ t9.heap; rw [ht9]; exact hP⟩, hS.F ht9⟩) hS.2.2 dX8_bitLength_33
  · have c_1 := (nI_eq (a := st9) (b := 0) (by omega) (by decide)).mp c_1
    refine lv_iconst (v := nI 0) hx hb dX8_bitLength_7 (by decide +kernel) ?_
    refine lv_goto (tgt := 33) hx hb dX8_bitLength_8 (by decide) ?_
    refine W.widen (k := 0) (n := 0) (by omega) (by omega) ?_
    exact W.iret (v := nI 0) hx hb hr (fun t9 ht9 hW9 => ⟨⟨nI 0, (), rfl, trivial, by show va_P (dC, dI) vwCl _ t9.heap; rw [ht9]; exact hP⟩, hS.F ht9⟩) hS.2.2 dX8_bitLength_33
def wd_X8_lowZeros : List Cond := .code yX8_lowZeros cX8_lowZeros 2 (some .int) :: (([.fieldLink RX8 15 "GradientDesk$Whole" "size" "I", .fieldLink RX8 9 "GradientDesk$Whole" "words" "[I", .methodLink RX8 45 yJ6_numberOfTrailingZeros_0f7a4, .static yJ6_numberOfTrailingZeros_0f7a4, .initialized RJ6] : List Cond) ++ (u_ws RX8 TX8 3 ++ (wd_J_ntz ++ ([]))))
theorem gw_X8_lowZeros : wd_X8_lowZeros.all goodWord = true := k_allc rfl (k_all (by decide +kernel) (k_all (gu_X8) (k_all (gw_J_ntz) (rfl))))
set_option maxHeartbeats 4000000 in
set_option maxRecDepth 100000 in
theorem c_X8_lowZeros (l : Launch) (dC : Nat → ClassId) (dI : Nat → Nat → Nat) (A : Nat → Prop) (ad : Nat → Nat) (cA : Nat → ClassId) (g : Nat → va_E) (t : Nat) (hAW : AW ad cA g) (it : t < 1038) : Met l yX8_lowZeros wd_X8_lowZeros ({ frames := 20, cells := 0, slots := 0, locals := 400 }) (va_Pc [.ref (ad (2 * t))] (PR NSc tyc dC dI A ad cA g)) (va_Qi (fun (r : Int32) => fun (u : Unit) => match u with | () => ∃ z, z ≤ 200000 ∧ r = nI z) (fun (u : Unit) (t : State) => va_P (dC, dI) vwCl (wo ad NSc g) t.heap) A) (0) (0) A := by
  refine Met.ofW (cc := cX8_lowZeros) (maxL := 2) (ret := (some .int)) (by decide) rfl ?_
  intro p e s m args below meth c s₁ B hml hv
  obtain ⟨rfl, hA, hP, hL⟩ := hv
  have hx := B.exec
  have hb := B.bytes
  have hr := B.returns
  have hts := atoms_spec (ws := wd_X8_lowZeros) B.pre
  have hown : s.vm.findClass RX8 = some m.cls := findClass_of_methodNamed B.named
  have hlocks := B.notSynchronized
  have hK := hL.1
  have hD : ∀ g, va_D A (wo ad NSc g) := fun g => wo_D hL.2.1 hL.2.2 g
  have hS : va_S A s.heap s.heap [] := va_S.rf
  have bk0 : ∀ w ∈ u_ws RX8 TX8 3, w ∈ wd_X8_lowZeros := fun _ h => List.mem_cons_of_mem _ (List.mem_append_right _ (List.mem_append_left _ h))
  have bk1 : ∀ w ∈ wd_J_ntz, w ∈ wd_X8_lowZeros := fun _ h => List.mem_cons_of_mem _ (List.mem_append_right _ (List.mem_append_right _ (List.mem_append_left _ h)))
  have hl := lv_entry ([.ref (ad (2 * t))]) (n := 2) (Nat.le_of_ble_eq_true rfl)
  rw [lg_entry_eq]
  generalize (lg_sl ([.ref (ad (2 * t))]) ++ List.replicate (2 - (lg_sl ([.ref (ad (2 * t))])).length) Slot.unset).toArray = ls at hl ⊢
  have hl : lv_has ls 2 [(0, .ref (ad (2 * t)))] := hl
  obtain ⟨mt9, st9, nt9, ft9, at9, bt9, ct9, dt9, et9⟩ := hAW t it
  have qt9 : mt9 ≤ 4096 := by rw [dt9]; exact rmc_le _
  refine lv_iconst (v := nI 0) hx hb dX8_lowZeros_0 (by decide +kernel) ?_
  refine lv_istore_n (lv' := [(1, .int (nI 0)), (0, .ref (ad (2 * t)))]) hx hb dX8_lowZeros_1 rfl hl (by decide) rfl (fun ls hl => ?_)
  have loop_1 : ∀ (k9 : Nat) (i : Nat), 4096 - i < k9 → (i ≤ 4096) → ∀ (H : Heap) (locs : List Loc) (ls : Array Slot), va_P (dC, dI) vwCl (wo ad NSc g) H → va_S A s.heap H locs → lv_has ls 2 [(0, .ref (ad (2 * t))), (1, .int (nI i))] → W p l e (headSpec wd_X8_lowZeros ({ frames := 20, cells := 0, slots := 0, locals := 400 })).room s m ([.ref (ad (2 * t))] : List Value).toArray below meth c H locs (0) (0) (MQ below (va_Qi (fun (r : Int32) => fun (u : Unit) => match u with | () => ∃ z, z ≤ 200000 ∧ r = nI z) (fun (u : Unit) (t : State) => va_P (dC, dI) vwCl (wo ad NSc g) t.heap) A) ([.ref (ad (2 * t))] : List Value).toArray s (0) (0) A) (F0 m 2 ls []) := by
    intro k9
    induction k9 with
    | zero => intro i h9; exact absurd h9 (Nat.not_lt_zero _)
    | succ k9 ih_2 =>
      intro i h9 hi H locs ls hP hS hl
      refine lv_iload_n hx hb dX8_lowZeros_2 rfl (lv_at hl 1 rfl) ?_
      refine lv_aload_n hx hb dX8_lowZeros_3 rfl (lv_at hl 0 rfl) ?_
      refine m_get (D := (dC, dI)) (v := .int (nI st9)) (C := RX8) (T := TX8) (N := 3) hx hb hts bk0 hown hK hP (2 * t) (ns_w (by omega)) at9 rfl 1 (by decide) (hts (.fieldLink RX8 15 "GradientDesk$Whole" "size" "I") (List.mem_of_getElem? (i := 1) rfl)) (fun _ h9 => h9) rfl dX8_lowZeros_4 ?_
      refine lv_icmp_ge (tgt := 40) hx hb dX8_lowZeros_7 (by decide) (fun c_5 => ?_) (fun c_5 => ?_)
      · have c_5 := (nI_leI (a := st9) (b := i) (by omega) (by omega)).mp c_5
        refine lv_iconst (v := nI 0) hx hb dX8_lowZeros_40 (by decide +kernel) ?_
        refine W.widen (k := 0) (n := 0) (by omega) (by omega) ?_
        exact W.iret (v := nI 0) hx hb hr (fun t9 ht9 hW9 => ⟨⟨nI 0, (), rfl, ⟨_, by omega, rfl⟩, by show va_P (dC, dI) vwCl _ t9.heap; rw [ht9]; exact hP⟩, hS.F ht9⟩) hS.2.2 dX8_lowZeros_41
      · have c_5 := mt (nI_leI (a := st9) (b := i) (by omega) (by omega)).mpr c_5
        refine lv_aload_n hx hb dX8_lowZeros_10 rfl (lv_at hl 0 rfl) ?_
        refine m_get (D := (dC, dI)) (v := .ref (ad (2 * t + 1))) (C := RX8) (T := TX8) (N := 3) hx hb hts bk0 hown hK hP (2 * t) (ns_w (by omega)) at9 rfl 0 (by decide) (hts (.fieldLink RX8 9 "GradientDesk$Whole" "words" "[I") (List.mem_of_getElem? (i := 2) rfl)) (fun _ h9 => h9) rfl dX8_lowZeros_11 ?_
        refine lv_iload_n hx hb dX8_lowZeros_14 rfl (lv_at hl 1 rfl) ?_
        refine m_iald hx hb hK hP (2 * t + 1) (ns_w (by omega)) (tyc_w (by omega)) bt9 (i := i) (by omega) (by omega) dX8_lowZeros_15 ?_
        refine lv_topi (fun x_6 e_7 => ?_)
        refine lv_if_eq (tgt := 34) hx hb dX8_lowZeros_16 (by decide) (fun c_8 => ?_) (fun c_8 => ?_)
        · clear c_8
          refine lv_iinc (v := nI (i + 1)) (lv' := [(1, .int (nI (i + 1))), (0, .ref (ad (2 * t)))]) hx hb dX8_lowZeros_34 hl (k := 1) rfl (nI_add i 1) (by decide) rfl (fun ls hl => ?_)
          refine lv_goto (tgt := 2) hx hb dX8_lowZeros_37 (by decide) ?_
          exact ih_2 (i + 1) (by omega) (by omega) _ _ _ hP hS (lv_sub (l' := [(0, .ref (ad (2 * t))), (1, .int (nI (i + 1)))]) hl [1, 0] rfl)
        · clear c_8
          refine lv_bipush (v := nI 32) hx hb dX8_lowZeros_19 (by decide +kernel) ?_
          refine lv_iload_n hx hb dX8_lowZeros_21 rfl (lv_at hl 1 rfl) ?_
          refine lv_imul hx hb dX8_lowZeros_22 ?_
          refine lv_topi (fun x_11 e_12 => ?_)
          obtain rfl : x_11 = nI (32 * i) := e_12.trans (pk_mul 32 i)
          refine lv_aload_n hx hb dX8_lowZeros_23 rfl (lv_at hl 0 rfl) ?_
          refine m_get (D := (dC, dI)) (v := .ref (ad (2 * t + 1))) (C := RX8) (T := TX8) (N := 3) hx hb hts bk0 hown hK hP (2 * t) (ns_w (by omega)) at9 rfl 0 (by decide) (hts (.fieldLink RX8 9 "GradientDesk$Whole" "words" "[I") (List.mem_of_getElem? (i := 2) rfl)) (fun _ h9 => h9) rfl dX8_lowZeros_24 ?_
          refine lv_iload_n hx hb dX8_lowZeros_27 rfl (lv_at hl 1 rfl) ?_
          refine m_iald hx hb hK hP (2 * t + 1) (ns_w (by omega)) (tyc_w (by omega)) bt9 (i := i) (by omega) (by omega) dX8_lowZeros_28 ?_
          refine lv_topi (fun x_13 e_14 => ?_)
          refine va_calli (va_runS (As := [.int x_13]) (rest := [.int (nI (32 * i))]) ⟨hx, hb, hml, hown, hts⟩ (c_J_ntz l dC dI A ad cA g x_13 ) (va_cwS 1 hts (goodIn_app (goodIn_r [Cond.methodLink RX8 45 yJ6_numberOfTrailingZeros_0f7a4, Cond.static yJ6_numberOfTrailingZeros_0f7a4, Cond.initialized RJ6] [3, 4, 5] rfl rfl) (goodIn_sub (fun w9 h9 => bk1 w9 h9) gw_J_ntz)) rfl rfl rfl (by decide +kernel) ⟨Nat.le_of_ble_eq_true rfl, Nat.le_of_ble_eq_true rfl⟩) ⟨fun a U g mk q => ⟨q.1, q.2.1, q.2.2.1, LY.moved (u := U) (U := U.calling g mk a) (Vm.Alike.refl U.vm) q.2.2.2⟩, fun U hU hW => ⟨rfl, by rw [hU]; exact fun q h => hA q (Nat.le_trans hS.1 h), by rw [hU]; exact hP, LY.moved hW.alike hL⟩⟩ rfl rfl hl.1 rfl (lv_room (Nat.le_of_ble_eq_true rfl)) dX8_lowZeros_29 ⟨(Nat.le_of_ble_eq_true rfl), (Nat.le_of_ble_eq_true rfl)⟩) hS (fun q _ h => h) (fun q h => h) (fun r_15 u8 t8 H1 locs ht8 hvm8 hw_16 hB hz1 hk1 hS => ?_)
          obtain ⟨⟩ := u8
          try dsimp only at hw_16 hB
          rw [ht8] at hB
          have hP := hB
          generalize H1 = H at hP hS ⊢
          obtain ⟨z9, hz9, rfl⟩ := hw_16
          refine lv_iadd hx hb dX8_lowZeros_32 ?_
          refine lv_topi (fun x_17 e_18 => ?_)
          obtain rfl : x_17 = nI (32 * i + z9) := e_18.trans (nI_add (32 * i) z9)
          refine W.widen (k := 0) (n := 0) (by omega) (by omega) ?_
          exact W.iret (v := nI (32 * i + z9)) hx hb hr (fun t9 ht9 hW9 => ⟨⟨nI (32 * i + z9), (), rfl, ⟨_, by omega, rfl⟩, by show va_P (dC, dI) vwCl _ t9.heap; rw [ht9]; exact hP⟩, hS.F ht9⟩) hS.2.2 dX8_lowZeros_33
  exact loop_1 _ 0 (Nat.lt_succ_self _) (by omega) _ _ _ hP hS (lv_sub (l' := [(0, .ref (ad (2 * t))), (1, .int (nI 0))]) hl [1, 0] rfl)
def wd_X8_equalTo : List Cond := .code yX8_equalTo cX8_equalTo 3 (some .boolean) :: (([.fieldLink RX8 19 "GradientDesk$Whole" "below" "Z", .fieldLink RX8 15 "GradientDesk$Whole" "size" "I", .fieldLink RX8 9 "GradientDesk$Whole" "words" "[I"] : List Cond) ++ (u_ws RX8 TX8 3 ++ ([])))
theorem gw_X8_equalTo : wd_X8_equalTo.all goodWord = true := k_allc rfl (k_all (by decide +kernel) (k_all (gu_X8) (rfl)))
set_option maxHeartbeats 4000000 in
set_option maxRecDepth 100000 in
theorem c_X8_equalTo (l : Launch) (dC : Nat → ClassId) (dI : Nat → Nat → Nat) (A : Nat → Prop) (ad : Nat → Nat) (cA : Nat → ClassId) (g : Nat → va_E) (t : Nat) (x : Nat) (hAW : AW ad cA g) (it : t < 1038) (ix : x < 1038) : Met l yX8_equalTo wd_X8_equalTo ({ frames := 10, cells := 0, slots := 0, locals := 200 }) (va_Pc [.ref (ad (2 * t)), .ref (ad (2 * x))] (PR NSc tyc dC dI A ad cA g)) (va_Qi (fun (r : Int32) => fun (u : Unit) => match u with | () => ∃ b, b < 2 ∧ r = nI b) (fun (u : Unit) (t : State) => va_P (dC, dI) vwCl (wo ad NSc g) t.heap) A) (0) (0) A := by
  refine Met.ofW (cc := cX8_equalTo) (maxL := 3) (ret := (some .boolean)) (by decide) rfl ?_
  intro p e s m args below meth c s₁ B hml hv
  obtain ⟨rfl, hA, hP, hL⟩ := hv
  have hx := B.exec
  have hb := B.bytes
  have hr := B.returns
  have hts := atoms_spec (ws := wd_X8_equalTo) B.pre
  have hown : s.vm.findClass RX8 = some m.cls := findClass_of_methodNamed B.named
  have hlocks := B.notSynchronized
  have hK := hL.1
  have hD : ∀ g, va_D A (wo ad NSc g) := fun g => wo_D hL.2.1 hL.2.2 g
  have hS : va_S A s.heap s.heap [] := va_S.rf
  have bk0 : ∀ w ∈ u_ws RX8 TX8 3, w ∈ wd_X8_equalTo := fun _ h => List.mem_cons_of_mem _ (List.mem_append_right _ (List.mem_append_left _ h))
  have hl := lv_entry ([.ref (ad (2 * t)), .ref (ad (2 * x))]) (n := 3) (Nat.le_of_ble_eq_true rfl)
  rw [lg_entry_eq]
  generalize (lg_sl ([.ref (ad (2 * t)), .ref (ad (2 * x))]) ++ List.replicate (3 - (lg_sl ([.ref (ad (2 * t)), .ref (ad (2 * x))])).length) Slot.unset).toArray = ls at hl ⊢
  have hl : lv_has ls 3 [(0, .ref (ad (2 * t))), (1, .ref (ad (2 * x)))] := hl
  obtain ⟨mt9, st9, nt9, ft9, at9, bt9, ct9, dt9, et9⟩ := hAW t it
  have qt9 : mt9 ≤ 4096 := by rw [dt9]; exact rmc_le _
  obtain ⟨mx9, sx9, nx9, fx9, ax9, bx9, cx9, dx9, ex9⟩ := hAW x ix
  have qx9 : mx9 ≤ 4096 := by rw [dx9]; exact rmc_le _
  refine lv_aload_n hx hb dX8_equalTo_0 rfl (lv_at hl 0 rfl) ?_
  refine m_get (D := (dC, dI)) (v := .int (nI nt9)) (C := RX8) (T := TX8) (N := 3) hx hb hts bk0 hown hK hP (2 * t) (ns_w (by omega)) at9 rfl 2 (by decide) (hts (.fieldLink RX8 19 "GradientDesk$Whole" "below" "Z") (List.mem_of_getElem? (i := 1) rfl)) (fun _ h9 => h9) rfl dX8_equalTo_1 ?_
  refine lv_aload_n hx hb dX8_equalTo_4 rfl (lv_at hl 1 rfl) ?_
  refine m_get (D := (dC, dI)) (v := .int (nI nx9)) (C := RX8) (T := TX8) (N := 3) hx hb hts bk0 hown hK hP (2 * x) (ns_w (by omega)) ax9 rfl 2 (by decide) (hts (.fieldLink RX8 19 "GradientDesk$Whole" "below" "Z") (List.mem_of_getElem? (i := 1) rfl)) (fun _ h9 => h9) rfl dX8_equalTo_5 ?_
  refine lv_icmp_ne (tgt := 22) hx hb dX8_equalTo_8 (by decide) (fun c_1 => ?_) (fun c_1 => ?_)
  · have c_1 := mt (nI_eq (a := nt9) (b := nx9) (by omega) (by omega)).mpr c_1
    refine lv_iconst (v := nI 0) hx hb dX8_equalTo_22 (by decide +kernel) ?_
    refine W.widen (k := 0) (n := 0) (by omega) (by omega) ?_
    exact W.zret (v := nI 0) hx hb hr (by decide +kernel) (fun t9 ht9 hW9 => ⟨⟨nI 0, (), rfl, ⟨0, by decide, rfl⟩, by show va_P (dC, dI) vwCl _ t9.heap; rw [ht9]; exact hP⟩, hS.F ht9⟩) hS.2.2 dX8_equalTo_23
  · have c_1 := (nI_eq (a := nt9) (b := nx9) (by omega) (by omega)).mp c_1
    refine lv_aload_n hx hb dX8_equalTo_11 rfl (lv_at hl 0 rfl) ?_
    refine m_get (D := (dC, dI)) (v := .int (nI st9)) (C := RX8) (T := TX8) (N := 3) hx hb hts bk0 hown hK hP (2 * t) (ns_w (by omega)) at9 rfl 1 (by decide) (hts (.fieldLink RX8 15 "GradientDesk$Whole" "size" "I") (List.mem_of_getElem? (i := 2) rfl)) (fun _ h9 => h9) rfl dX8_equalTo_12 ?_
    refine lv_aload_n hx hb dX8_equalTo_15 rfl (lv_at hl 1 rfl) ?_
    refine m_get (D := (dC, dI)) (v := .int (nI sx9)) (C := RX8) (T := TX8) (N := 3) hx hb hts bk0 hown hK hP (2 * x) (ns_w (by omega)) ax9 rfl 1 (by decide) (hts (.fieldLink RX8 15 "GradientDesk$Whole" "size" "I") (List.mem_of_getElem? (i := 2) rfl)) (fun _ h9 => h9) rfl dX8_equalTo_16 ?_
    refine lv_icmp_eq (tgt := 24) hx hb dX8_equalTo_19 (by decide) (fun c_2 => ?_) (fun c_2 => ?_)
    · have c_2 := (nI_eq (a := st9) (b := sx9) (by omega) (by omega)).mp c_2
      refine lv_iconst (v := nI 0) hx hb dX8_equalTo_24 (by decide +kernel) ?_
      refine lv_istore_n (lv' := [(2, .int (nI 0)), (0, .ref (ad (2 * t))), (1, .ref (ad (2 * x)))]) hx hb dX8_equalTo_25 rfl hl (by decide) rfl (fun ls hl => ?_)
      have loop_3 : ∀ (k9 : Nat) (i : Nat), 4096 - i < k9 → (i ≤ 4096) → ∀ (H : Heap) (locs : List Loc) (ls : Array Slot), va_P (dC, dI) vwCl (wo ad NSc g) H → va_S A s.heap H locs → lv_has ls 3 [(0, .ref (ad (2 * t))), (1, .ref (ad (2 * x))), (2, .int (nI i))] → W p l e (headSpec wd_X8_equalTo ({ frames := 10, cells := 0, slots := 0, locals := 200 })).room s m ([.ref (ad (2 * t)), .ref (ad (2 * x))] : List Value).toArray below meth c H locs (0) (0) (MQ below (va_Qi (fun (r : Int32) => fun (u : Unit) => match u with | () => ∃ b, b < 2 ∧ r = nI b) (fun (u : Unit) (t : State) => va_P (dC, dI) vwCl (wo ad NSc g) t.heap) A) ([.ref (ad (2 * t)), .ref (ad (2 * x))] : List Value).toArray s (0) (0) A) (F0 m 26 ls []) := by
        intro k9
        induction k9 with
        | zero => intro i h9; exact absurd h9 (Nat.not_lt_zero _)
        | succ k9 ih_4 =>
          intro i h9 hi H locs ls hP hS hl
          refine lv_iload_n hx hb dX8_equalTo_26 rfl (lv_at hl 2 rfl) ?_
          refine lv_aload_n hx hb dX8_equalTo_27 rfl (lv_at hl 0 rfl) ?_
          refine m_get (D := (dC, dI)) (v := .int (nI st9)) (C := RX8) (T := TX8) (N := 3) hx hb hts bk0 hown hK hP (2 * t) (ns_w (by omega)) at9 rfl 1 (by decide) (hts (.fieldLink RX8 15 "GradientDesk$Whole" "size" "I") (List.mem_of_getElem? (i := 2) rfl)) (fun _ h9 => h9) rfl dX8_equalTo_28 ?_
          refine lv_icmp_ge (tgt := 57) hx hb dX8_equalTo_31 (by decide) (fun c_7 => ?_) (fun c_7 => ?_)
          · have c_7 := (nI_leI (a := st9) (b := i) (by omega) (by omega)).mp c_7
            refine lv_iconst (v := nI 1) hx hb dX8_equalTo_57 (by decide +kernel) ?_
            refine W.widen (k := 0) (n := 0) (by omega) (by omega) ?_
            exact W.zret (v := nI 1) hx hb hr (by decide +kernel) (fun t9 ht9 hW9 => ⟨⟨nI 1, (), rfl, ⟨1, by decide, rfl⟩, by show va_P (dC, dI) vwCl _ t9.heap; rw [ht9]; exact hP⟩, hS.F ht9⟩) hS.2.2 dX8_equalTo_58
          · have c_7 := mt (nI_leI (a := st9) (b := i) (by omega) (by omega)).mpr c_7
            refine lv_aload_n hx hb dX8_equalTo_34 rfl (lv_at hl 0 rfl) ?_
            refine m_get (D := (dC, dI)) (v := .ref (ad (2 * t + 1))) (C := RX8) (T := TX8) (N := 3) hx hb hts bk0 hown hK hP (2 * t) (ns_w (by omega)) at9 rfl 0 (by decide) (hts (.fieldLink RX8 9 "GradientDesk$Whole" "words" "[I") (List.mem_of_getElem? (i := 3) rfl)) (fun _ h9 => h9) rfl dX8_equalTo_35 ?_
            refine lv_iload_n hx hb dX8_equalTo_38 rfl (lv_at hl 2 rfl) ?_
            refine m_iald hx hb hK hP (2 * t + 1) (ns_w (by omega)) (tyc_w (by omega)) bt9 (i := i) (by omega) (by omega) dX8_equalTo_39 ?_
            refine lv_topi (fun x_8 e_9 => ?_)
            refine lv_aload_n hx hb dX8_equalTo_40 rfl (lv_at hl 1 rfl) ?_
            refine m_get (D := (dC, dI)) (v := .ref (ad (2 * x + 1))) (C := RX8) (T := TX8) (N := 3) hx hb hts bk0 hown hK hP (2 * x) (ns_w (by omega)) ax9 rfl 0 (by decide) (hts (.fieldLink RX8 9 "GradientDesk$Whole" "words" "[I") (List.mem_of_getElem? (i := 3) rfl)) (fun _ h9 => h9) rfl dX8_equalTo_41 ?_
            refine lv_iload_n hx hb dX8_equalTo_44 rfl (lv_at hl 2 rfl) ?_
            refine m_iald hx hb hK hP (2 * x + 1) (ns_w (by omega)) (tyc_w (by omega)) bx9 (i := i) (by omega) (by omega) dX8_equalTo_45 ?_
            refine lv_topi (fun x_10 e_11 => ?_)
            refine lv_icmp_eq (tgt := 51) hx hb dX8_equalTo_46 (by decide) (fun c_12 => ?_) (fun c_12 => ?_)
            · clear c_12
              refine lv_iinc (v := nI (i + 1)) (lv' := [(2, .int (nI (i + 1))), (0, .ref (ad (2 * t))), (1, .ref (ad (2 * x)))]) hx hb dX8_equalTo_51 hl (k := 2) rfl (nI_add i 1) (by decide) rfl (fun ls hl => ?_)
              refine lv_goto (tgt := 26) hx hb dX8_equalTo_54 (by decide) ?_
              exact ih_4 (i + 1) (by omega) (by omega) _ _ _ hP hS (lv_sub (l' := [(0, .ref (ad (2 * t))), (1, .ref (ad (2 * x))), (2, .int (nI (i + 1)))]) hl [1, 2, 0] rfl)
            · clear c_12
              refine lv_iconst (v := nI 0) hx hb dX8_equalTo_49 (by decide +kernel) ?_
              refine W.widen (k := 0) (n := 0) (by omega) (by omega) ?_
              exact W.zret (v := nI 0) hx hb hr (by decide +kernel) (fun t9 ht9 hW9 => ⟨⟨nI 0, (), rfl, ⟨0, by decide, rfl⟩, by show va_P (dC, dI) vwCl _ t9.heap; rw [ht9]; exact hP⟩, hS.F ht9⟩) hS.2.2 dX8_equalTo_50
      exact loop_3 _ 0 (Nat.lt_succ_self _) (by omega) _ _ _ hP hS (lv_sub (l' := [(0, .ref (ad (2 * t))), (1, .ref (ad (2 * x))), (2, .int (nI 0))]) hl [1, 2, 0] rfl)
    · have c_2 := mt (nI_eq (a := st9) (b := sx9) (by omega) (by omega)).mpr c_2
      refine lv_iconst (v := nI 0) hx hb dX8_equalTo_22 (by decide +kernel) ?_
      refine W.widen (k := 0) (n := 0) (by omega) (by omega) ?_
      exact W.zret (v := nI 0) hx hb hr (by decide +kernel) (fun t9 ht9 hW9 => ⟨⟨nI 0, (), rfl, ⟨0, by decide, rfl⟩, by show va_P (dC, dI) vwCl _ t9.heap; rw [ht9]; exact hP⟩, hS.F ht9⟩) hS.2.2 dX8_equalTo_23
def wd_X8_orderOfSizes : List Cond := .code yX8_orderOfSizes cX8_orderOfSizes 3 (some .int) :: (([.fieldLink RX8 15 "GradientDesk$Whole" "size" "I", .fieldLink RX8 9 "GradientDesk$Whole" "words" "[I", .constantLong RX8 48 (4294967295)] : List Cond) ++ (u_ws RX8 TX8 3 ++ ([])))
theorem gw_X8_orderOfSizes : wd_X8_orderOfSizes.all goodWord = true := k_allc rfl (k_all (by decide +kernel) (k_all (gu_X8) (rfl)))
set_option maxHeartbeats 4000000 in
set_option maxRecDepth 100000 in
theorem c_X8_orderOfSizes (l : Launch) (dC : Nat → ClassId) (dI : Nat → Nat → Nat) (A : Nat → Prop) (ad : Nat → Nat) (cA : Nat → ClassId) (g : Nat → va_E) (t : Nat) (x : Nat) (hAW : AW ad cA g) (it : t < 1038) (ix : x < 1038) : Met l yX8_orderOfSizes wd_X8_orderOfSizes ({ frames := 10, cells := 0, slots := 0, locals := 200 }) (va_Pc [.ref (ad (2 * t)), .ref (ad (2 * x))] (PR NSc tyc dC dI A ad cA g)) (va_Qi (fun (r : Int32) => fun (u : Unit) => match u with | () => True) (fun (u : Unit) (t : State) => va_P (dC, dI) vwCl (wo ad NSc g) t.heap) A) (0) (0) A := by
  refine Met.ofW (cc := cX8_orderOfSizes) (maxL := 3) (ret := (some .int)) (by decide) rfl ?_
  intro p e s m args below meth c s₁ B hml hv
  obtain ⟨rfl, hA, hP, hL⟩ := hv
  have hx := B.exec
  have hb := B.bytes
  have hr := B.returns
  have hts := atoms_spec (ws := wd_X8_orderOfSizes) B.pre
  have hown : s.vm.findClass RX8 = some m.cls := findClass_of_methodNamed B.named
  have hlocks := B.notSynchronized
  have hK := hL.1
  have hD : ∀ g, va_D A (wo ad NSc g) := fun g => wo_D hL.2.1 hL.2.2 g
  have hS : va_S A s.heap s.heap [] := va_S.rf
  have bk0 : ∀ w ∈ u_ws RX8 TX8 3, w ∈ wd_X8_orderOfSizes := fun _ h => List.mem_cons_of_mem _ (List.mem_append_right _ (List.mem_append_left _ h))
  have hl := lv_entry ([.ref (ad (2 * t)), .ref (ad (2 * x))]) (n := 3) (Nat.le_of_ble_eq_true rfl)
  rw [lg_entry_eq]
  generalize (lg_sl ([.ref (ad (2 * t)), .ref (ad (2 * x))]) ++ List.replicate (3 - (lg_sl ([.ref (ad (2 * t)), .ref (ad (2 * x))])).length) Slot.unset).toArray = ls at hl ⊢
  have hl : lv_has ls 3 [(0, .ref (ad (2 * t))), (1, .ref (ad (2 * x)))] := hl
  obtain ⟨mt9, st9, nt9, ft9, at9, bt9, ct9, dt9, et9⟩ := hAW t it
  have qt9 : mt9 ≤ 4096 := by rw [dt9]; exact rmc_le _
  obtain ⟨mx9, sx9, nx9, fx9, ax9, bx9, cx9, dx9, ex9⟩ := hAW x ix
  have qx9 : mx9 ≤ 4096 := by rw [dx9]; exact rmc_le _
  refine lv_aload_n hx hb dX8_orderOfSizes_0 rfl (lv_at hl 0 rfl) ?_
  refine m_get (D := (dC, dI)) (v := .int (nI st9)) (C := RX8) (T := TX8) (N := 3) hx hb hts bk0 hown hK hP (2 * t) (ns_w (by omega)) at9 rfl 1 (by decide) (hts (.fieldLink RX8 15 "GradientDesk$Whole" "size" "I") (List.mem_of_getElem? (i := 1) rfl)) (fun _ h9 => h9) rfl dX8_orderOfSizes_1 ?_
  refine lv_aload_n hx hb dX8_orderOfSizes_4 rfl (lv_at hl 1 rfl) ?_
  refine m_get (D := (dC, dI)) (v := .int (nI sx9)) (C := RX8) (T := TX8) (N := 3) hx hb hts bk0 hown hK hP (2 * x) (ns_w (by omega)) ax9 rfl 1 (by decide) (hts (.fieldLink RX8 15 "GradientDesk$Whole" "size" "I") (List.mem_of_getElem? (i := 1) rfl)) (fun _ h9 => h9) rfl dX8_orderOfSizes_5 ?_
  refine lv_icmp_eq (tgt := 28) hx hb dX8_orderOfSizes_8 (by decide) (fun c_1 => ?_) (fun c_1 => ?_)
  · have c_1 := (nI_eq (a := st9) (b := sx9) (by omega) (by omega)).mp c_1
    refine lv_aload_n hx hb dX8_orderOfSizes_28 rfl (lv_at hl 0 rfl) ?_
    refine m_get (D := (dC, dI)) (v := .int (nI st9)) (C := RX8) (T := TX8) (N := 3) hx hb hts bk0 hown hK hP (2 * t) (ns_w (by omega)) at9 rfl 1 (by decide) (hts (.fieldLink RX8 15 "GradientDesk$Whole" "size" "I") (List.mem_of_getElem? (i := 1) rfl)) (fun _ h9 => h9) rfl dX8_orderOfSizes_29 ?_
    refine lv_iconst (v := nI 1) hx hb dX8_orderOfSizes_32 (by decide +kernel) ?_
    refine lv_isub hx hb dX8_orderOfSizes_33 ?_
    refine lv_istore_n (lv' := [(2, .int (nI st9 - nI 1)), (0, .ref (ad (2 * t))), (1, .ref (ad (2 * x)))]) hx hb dX8_orderOfSizes_34 rfl hl (by decide) rfl (fun ls hl => ?_)
    have loop_2 : ∀ (k9 : Nat) (d : Nat), d < k9 → (d ≤ st9) → ∀ (H : Heap) (locs : List Loc) (ls : Array Slot), va_P (dC, dI) vwCl (wo ad NSc g) H → va_S A s.heap H locs → lv_has ls 3 [(0, .ref (ad (2 * t))), (1, .ref (ad (2 * x))), (2, .int (nI d - nI 1))] → W p l e (headSpec wd_X8_orderOfSizes ({ frames := 10, cells := 0, slots := 0, locals := 200 })).room s m ([.ref (ad (2 * t)), .ref (ad (2 * x))] : List Value).toArray below meth c H locs (0) (0) (MQ below (va_Qi (fun (r : Int32) => fun (u : Unit) => match u with | () => True) (fun (u : Unit) (t : State) => va_P (dC, dI) vwCl (wo ad NSc g) t.heap) A) ([.ref (ad (2 * t)), .ref (ad (2 * x))] : List Value).toArray s (0) (0) A) (F0 m 35 ls []) := by
      intro k9
      induction k9 with
      | zero => intro d h9; exact absurd h9 (Nat.not_lt_zero _)
      | succ k9 ih_3 =>
        intro d h9 hd H locs ls hP hS hl
        refine lv_iload_n hx hb dX8_orderOfSizes_35 rfl (lv_at hl 2 rfl) ?_
        refine lv_if_lt (tgt := 92) hx hb dX8_orderOfSizes_36 (by decide) (fun c_6 => ?_) (fun c_6 => ?_)
        · have c_6 := (k_m1lt (d := d) (by omega)).mp c_6
          refine lv_iconst (v := nI 0) hx hb dX8_orderOfSizes_92 (by decide +kernel) ?_
          refine W.widen (k := 0) (n := 0) (by omega) (by omega) ?_
          exact W.iret (v := nI 0) hx hb hr (fun t9 ht9 hW9 => ⟨⟨nI 0, (), rfl, trivial, by show va_P (dC, dI) vwCl _ t9.heap; rw [ht9]; exact hP⟩, hS.F ht9⟩) hS.2.2 dX8_orderOfSizes_93
        · have c_6 := mt (k_m1lt (d := d) (by omega)).mpr c_6
          have e_7 : nI d - nI 1 = nI (d - 1) := pk_sub (by omega)
          rw [e_7] at hl
          refine lv_aload_n hx hb dX8_orderOfSizes_39 rfl (lv_at hl 0 rfl) ?_
          refine m_get (D := (dC, dI)) (v := .ref (ad (2 * t + 1))) (C := RX8) (T := TX8) (N := 3) hx hb hts bk0 hown hK hP (2 * t) (ns_w (by omega)) at9 rfl 0 (by decide) (hts (.fieldLink RX8 9 "GradientDesk$Whole" "words" "[I") (List.mem_of_getElem? (i := 2) rfl)) (fun _ h9 => h9) rfl dX8_orderOfSizes_40 ?_
          refine lv_iload_n hx hb dX8_orderOfSizes_43 rfl (lv_at hl 2 rfl) ?_
          refine m_iald hx hb hK hP (2 * t + 1) (ns_w (by omega)) (tyc_w (by omega)) bt9 (i := d - 1) (by omega) (by omega) dX8_orderOfSizes_44 ?_
          refine lv_topi (fun x_8 e_9 => ?_)
          refine lv_aload_n hx hb dX8_orderOfSizes_45 rfl (lv_at hl 1 rfl) ?_
          refine m_get (D := (dC, dI)) (v := .ref (ad (2 * x + 1))) (C := RX8) (T := TX8) (N := 3) hx hb hts bk0 hown hK hP (2 * x) (ns_w (by omega)) ax9 rfl 0 (by decide) (hts (.fieldLink RX8 9 "GradientDesk$Whole" "words" "[I") (List.mem_of_getElem? (i := 2) rfl)) (fun _ h9 => h9) rfl dX8_orderOfSizes_46 ?_
          refine lv_iload_n hx hb dX8_orderOfSizes_49 rfl (lv_at hl 2 rfl) ?_
          refine m_iald hx hb hK hP (2 * x + 1) (ns_w (by omega)) (tyc_w (by omega)) bx9 (i := d - 1) (by omega) (by omega) dX8_orderOfSizes_50 ?_
          refine lv_topi (fun x_10 e_11 => ?_)
          refine lv_icmp_eq (tgt := 86) hx hb dX8_orderOfSizes_51 (by decide) (fun c_12 => ?_) (fun c_12 => ?_)
          · clear c_12
            refine lv_iinc (v := nI (d - 1) - nI 1) (lv' := [(2, .int (nI (d - 1) - nI 1)), (0, .ref (ad (2 * t))), (1, .ref (ad (2 * x)))]) hx hb dX8_orderOfSizes_86 hl (k := 2) rfl ((show nI (d - 1) + Int32.ofInt (-1) = nI (d - 1) - nI 1 from by rw [show Int32.ofInt (-1) = -nI 1 from by decide, ← Int32.sub_eq_add_neg])) (by decide) rfl (fun ls hl => ?_)
            refine lv_goto (tgt := 35) hx hb dX8_orderOfSizes_89 (by decide) ?_
            exact ih_3 (d - 1) (by omega) (by omega) _ _ _ hP hS (lv_sub (l' := [(0, .ref (ad (2 * t))), (1, .ref (ad (2 * x))), (2, .int (nI (d - 1) - nI 1))]) hl [1, 2, 0] rfl)
          · clear c_12
            refine lv_aload_n hx hb dX8_orderOfSizes_54 rfl (lv_at hl 0 rfl) ?_
            refine m_get (D := (dC, dI)) (v := .ref (ad (2 * t + 1))) (C := RX8) (T := TX8) (N := 3) hx hb hts bk0 hown hK hP (2 * t) (ns_w (by omega)) at9 rfl 0 (by decide) (hts (.fieldLink RX8 9 "GradientDesk$Whole" "words" "[I") (List.mem_of_getElem? (i := 2) rfl)) (fun _ h9 => h9) rfl dX8_orderOfSizes_55 ?_
            refine lv_iload_n hx hb dX8_orderOfSizes_58 rfl (lv_at hl 2 rfl) ?_
            refine m_iald hx hb hK hP (2 * t + 1) (ns_w (by omega)) (tyc_w (by omega)) bt9 (i := d - 1) (by omega) (by omega) dX8_orderOfSizes_59 ?_
            refine lv_topi (fun x_15 e_16 => ?_)
            refine lv_i2l hx hb dX8_orderOfSizes_60 rfl ?_
            refine lv_topl (fun y_17 e_18 => ?_)
            refine lv_ldc2 (v := 4294967295) hx hb hown (hts (.constantLong RX8 48 (4294967295)) (List.mem_of_getElem? (i := 3) rfl)) dX8_orderOfSizes_61 ?_
            refine lv_topl (fun y_19 e_20 => ?_)
            obtain rfl : y_19 = lN 4294967295 := e_20
            refine lv_land hx hb dX8_orderOfSizes_64 ?_
            refine lv_topl (fun y_21 e_22 => ?_)
            refine lv_aload_n hx hb dX8_orderOfSizes_65 rfl (lv_at hl 1 rfl) ?_
            refine m_get (D := (dC, dI)) (v := .ref (ad (2 * x + 1))) (C := RX8) (T := TX8) (N := 3) hx hb hts bk0 hown hK hP (2 * x) (ns_w (by omega)) ax9 rfl 0 (by decide) (hts (.fieldLink RX8 9 "GradientDesk$Whole" "words" "[I") (List.mem_of_getElem? (i := 2) rfl)) (fun _ h9 => h9) rfl dX8_orderOfSizes_66 ?_
            refine lv_iload_n hx hb dX8_orderOfSizes_69 rfl (lv_at hl 2 rfl) ?_
            refine m_iald hx hb hK hP (2 * x + 1) (ns_w (by omega)) (tyc_w (by omega)) bx9 (i := d - 1) (by omega) (by omega) dX8_orderOfSizes_70 ?_
            refine lv_topi (fun x_23 e_24 => ?_)
            refine lv_i2l hx hb dX8_orderOfSizes_71 rfl ?_
            refine lv_topl (fun y_25 e_26 => ?_)
            refine lv_ldc2 (v := 4294967295) hx hb hown (hts (.constantLong RX8 48 (4294967295)) (List.mem_of_getElem? (i := 3) rfl)) dX8_orderOfSizes_72 ?_
            refine lv_topl (fun y_27 e_28 => ?_)
            obtain rfl : y_27 = lN 4294967295 := e_28
            refine lv_land hx hb dX8_orderOfSizes_75 ?_
            refine lv_topl (fun y_29 e_30 => ?_)
            refine W.lcmp hx hb dX8_orderOfSizes_76 ?_
            refine lv_if_ge (tgt := 84) hx hb dX8_orderOfSizes_77 (by decide) (fun c_31 => ?_) (fun c_31 => ?_)
            · clear c_31
              refine lv_iconst (v := nI 1) hx hb dX8_orderOfSizes_84 (by decide +kernel) ?_
              refine W.widen (k := 0) (n := 0) (by omega) (by omega) ?_
              exact W.iret (v := nI 1) hx hb hr (fun t9 ht9 hW9 => ⟨⟨nI 1, (), rfl, trivial, by show va_P (dC, dI) vwCl _ t9.heap; rw [ht9]; exact hP⟩, hS.F ht9⟩) hS.2.2 dX8_orderOfSizes_85
            · clear c_31
              refine lv_iconst (v := -1) hx hb dX8_orderOfSizes_80 (by decide +kernel) ?_
              refine lv_goto (tgt := 85) hx hb dX8_orderOfSizes_81 (by decide) ?_
              refine W.widen (k := 0) (n := 0) (by omega) (by omega) ?_
              exact W.iret (v := -1) hx hb hr (fun t9 ht9 hW9 => ⟨⟨-1, (), rfl, trivial, by show va_P (dC, dI) vwCl _ t9.heap; rw [ht9]; exact hP⟩, hS.F ht9⟩) hS.2.2 dX8_orderOfSizes_85
    exact loop_2 _ st9 (Nat.lt_succ_self _) (by omega) _ _ _ hP hS (lv_sub (l' := [(0, .ref (ad (2 * t))), (1, .ref (ad (2 * x))), (2, .int (nI st9 - nI 1))]) hl [1, 2, 0] rfl)
  · have c_1 := mt (nI_eq (a := st9) (b := sx9) (by omega) (by omega)).mpr c_1
    refine lv_aload_n hx hb dX8_orderOfSizes_11 rfl (lv_at hl 0 rfl) ?_
    refine m_get (D := (dC, dI)) (v := .int (nI st9)) (C := RX8) (T := TX8) (N := 3) hx hb hts bk0 hown hK hP (2 * t) (ns_w (by omega)) at9 rfl 1 (by decide) (hts (.fieldLink RX8 15 "GradientDesk$Whole" "size" "I") (List.mem_of_getElem? (i := 1) rfl)) (fun _ h9 => h9) rfl dX8_orderOfSizes_12 ?_
    refine lv_aload_n hx hb dX8_orderOfSizes_15 rfl (lv_at hl 1 rfl) ?_
    refine m_get (D := (dC, dI)) (v := .int (nI sx9)) (C := RX8) (T := TX8) (N := 3) hx hb hts bk0 hown hK hP (2 * x) (ns_w (by omega)) ax9 rfl 1 (by decide) (hts (.fieldLink RX8 15 "GradientDesk$Whole" "size" "I") (List.mem_of_getElem? (i := 1) rfl)) (fun _ h9 => h9) rfl dX8_orderOfSizes_16 ?_
    refine lv_icmp_ge (tgt := 26) hx hb dX8_orderOfSizes_19 (by decide) (fun c_32 => ?_) (fun c_32 => ?_)
    · have c_32 := (nI_leI (a := sx9) (b := st9) (by omega) (by omega)).mp c_32
      refine lv_iconst (v := nI 1) hx hb dX8_orderOfSizes_26 (by decide +kernel) ?_
      refine W.widen (k := 0) (n := 0) (by omega) (by omega) ?_
      exact W.iret (v := nI 1) hx hb hr (fun t9 ht9 hW9 => ⟨⟨nI 1, (), rfl, trivial, by show va_P (dC, dI) vwCl _ t9.heap; rw [ht9]; exact hP⟩, hS.F ht9⟩) hS.2.2 dX8_orderOfSizes_27
    · have c_32 := mt (nI_leI (a := sx9) (b := st9) (by omega) (by omega)).mpr c_32
      refine lv_iconst (v := -1) hx hb dX8_orderOfSizes_22 (by decide +kernel) ?_
      refine lv_goto (tgt := 27) hx hb dX8_orderOfSizes_23 (by decide) ?_
      refine W.widen (k := 0) (n := 0) (by omega) (by omega) ?_
      exact W.iret (v := -1) hx hb hr (fun t9 ht9 hW9 => ⟨⟨-1, (), rfl, trivial, by show va_P (dC, dI) vwCl _ t9.heap; rw [ht9]; exact hP⟩, hS.F ht9⟩) hS.2.2 dX8_orderOfSizes_27
def wd_X8_addSizes : List Cond := .code yX8_addSizes cX8_addSizes 9 none :: (([.fieldLink RX8 15 "GradientDesk$Whole" "size" "I", .fieldLink RX8 9 "GradientDesk$Whole" "words" "[I", .methodLink RX8 71 Lib.Math.max.name, .static Lib.Math.max.name, .initialized "java/lang/Math", .code Lib.Math.max.name Lib.Math.max.code 2 (some .int), .methodLink RX8 29 Lib.Math.min.name, .static Lib.Math.min.name, .code Lib.Math.min.name Lib.Math.min.code 2 (some .int), .constantLong RX8 48 (4294967295)] : List Cond) ++ (u_ws RX8 TX8 3 ++ ([])))
theorem gw_X8_addSizes : wd_X8_addSizes.all goodWord = true := k_allc rfl (k_all (by decide +kernel) (k_all (gu_X8) (rfl)))
set_option maxHeartbeats 4000000 in
set_option maxRecDepth 100000 in
theorem c_X8_addSizes (l : Launch) (dC : Nat → ClassId) (dI : Nat → Nat → Nat) (A : Nat → Prop) (ad : Nat → Nat) (cA : Nat → ClassId) (g : Nat → va_E) (t : Nat) (x : Nat) (y : Nat) (hAW : AW ad cA g) (it : t < 1038) (ix : x < 1038) (iy : y < 1038) (htx : t ≠ x) (hty : t ≠ y) : Met l yX8_addSizes wd_X8_addSizes ({ frames := 10, cells := 0, slots := 0, locals := 200 }) (va_Pc [.ref (ad (2 * t)), .ref (ad (2 * x)), .ref (ad (2 * y))] (PR NSc tyc dC dI A ad cA g)) (va_Qv (fun (u : Nat → va_E) => match u with | g2 => (∀ k, k ≠ 2 * t ∧ k ≠ 2 * t + 1 → g2 k = g k) ∧ AW ad cA g2) (fun (u : Nat → va_E) (t : State) => va_P (dC, dI) vwCl (wo ad NSc u) t.heap) A) (0) (0) A := by
  refine Met.ofW (cc := cX8_addSizes) (maxL := 9) (ret := none) (by decide) rfl ?_
  intro p e s m args below meth c s₁ B hml hv
  obtain ⟨rfl, hA, hP, hL⟩ := hv
  have hx := B.exec
  have hb := B.bytes
  have hr := B.returns
  have hts := atoms_spec (ws := wd_X8_addSizes) B.pre
  have hown : s.vm.findClass RX8 = some m.cls := findClass_of_methodNamed B.named
  have hlocks := B.notSynchronized
  have hK := hL.1
  have hD : ∀ g, va_D A (wo ad NSc g) := fun g => wo_D hL.2.1 hL.2.2 g
  have hS : va_S A s.heap s.heap [] := va_S.rf
  have bk0 : ∀ w ∈ u_ws RX8 TX8 3, w ∈ wd_X8_addSizes := fun _ h => List.mem_cons_of_mem _ (List.mem_append_right _ (List.mem_append_left _ h))
  have hl := lv_entry ([.ref (ad (2 * t)), .ref (ad (2 * x)), .ref (ad (2 * y))]) (n := 9) (Nat.le_of_ble_eq_true rfl)
  rw [lg_entry_eq]
  generalize (lg_sl ([.ref (ad (2 * t)), .ref (ad (2 * x)), .ref (ad (2 * y))]) ++ List.replicate (9 - (lg_sl ([.ref (ad (2 * t)), .ref (ad (2 * x)), .ref (ad (2 * y))])).length) Slot.unset).toArray = ls at hl ⊢
  have hl : lv_has ls 9 [(0, .ref (ad (2 * t))), (1, .ref (ad (2 * x))), (2, .ref (ad (2 * y)))] := hl
  obtain ⟨mt9, st9, nt9, ft9, at9, bt9, ct9, dt9, et9⟩ := hAW t it
  have qt9 : mt9 ≤ 4096 := by rw [dt9]; exact rmc_le _
  obtain ⟨mx9, sx9, nx9, fx9, ax9, bx9, cx9, dx9, ex9⟩ := hAW x ix
  have qx9 : mx9 ≤ 4096 := by rw [dx9]; exact rmc_le _
  obtain ⟨my9, sy9, ny9, fy9, ay9, by9, cy9, dy9, ey9⟩ := hAW y iy
  have qy9 : my9 ≤ 4096 := by rw [dy9]; exact rmc_le _
  have loop_1 : ∀ (z9 : Nat) (ff : Nat → Int32) (g_3 : Nat → va_E) (fr_4 : ∀ k, (k ≠ 2 * t ∧ k ≠ 2 * t + 1) → g_3 k = g k), (z9 ≤ mt9) → (g_3 (2 * t) = .inr (11, [.ref (ad (2 * t + 1)), .int (nI st9), .int (nI nt9)])) → (g_3 (2 * t + 1) = .inl (cA (2 * t + 1), mt9, .inl ff)) → ∀ (H : Heap) (locs : List Loc) (ls : Array Slot), va_P (dC, dI) vwCl (wo ad NSc g_3) H → va_S A s.heap H locs → lv_has ls 9 [(0, .ref (ad (2 * t)))] → W p l e (headSpec wd_X8_addSizes ({ frames := 10, cells := 0, slots := 0, locals := 200 })).room s m ([.ref (ad (2 * t)), .ref (ad (2 * x)), .ref (ad (2 * y))] : List Value).toArray below meth c H locs (0) (0) (MQ below (va_Qv (fun (u : Nat → va_E) => match u with | g2 => (∀ k, k ≠ 2 * t ∧ k ≠ 2 * t + 1 → g2 k = g k) ∧ AW ad cA g2) (fun (u : Nat → va_E) (t : State) => va_P (dC, dI) vwCl (wo ad NSc u) t.heap) A) ([.ref (ad (2 * t)), .ref (ad (2 * x)), .ref (ad (2 * y))] : List Value).toArray s (0) (0) A) (F0 m 143 ls [.int (nI z9), .ref (ad (2 * t))]) := by
    intro z9 ff g_3 fr_4 hz9 f_5 f_6 H locs ls hP hS hl
    refine m_put (D := (dC, dI)) (v := .int (nI z9)) (tv := .int) (C := RX8) (T := TX8) (N := 3) hx hb hts bk0 tyX8 tyX8_ok nmX8 hown hK hP hD hS (2 * t) (ns_w (by omega)) f_5 rfl 1 (by decide) (hts (.fieldLink RX8 15 "GradientDesk$Whole" "size" "I") (List.mem_of_getElem? (i := 1) rfl)) (fun _ h9 => h9) rfl (by decide +kernel) rfl rfl (Nat.le_of_ble_eq_true rfl) dX8_addSizes_143 (fun H locs g_7 f_8 fr_9 hP hS => ?_)
    have f_8 : g_7 (2 * t) = .inr (11, [.ref (ad (2 * t + 1)), .int (nI z9), .int (nI nt9)]) := f_8
    have f_10 : g_7 (2 * t + 1) = .inl (cA (2 * t + 1), mt9, .inl ff) := (fr_9 (2 * t + 1) (by omega)).trans f_6
    refine W.widen (k := 0) (n := 0) (by omega) (by omega) ?_
    exact W.vret hx hb hr (fun t9 ht9 hW9 => ⟨⟨g_7, rfl, ⟨(fun (k : Nat) (hk : k ≠ 2 * t ∧ k ≠ 2 * t + 1) => (fr_9 k (by omega)).trans ((fr_4 k (by omega)).trans (rfl))), AW.put (t := t) hAW (fun (k : Nat) (hk : k ≠ 2 * t ∧ k ≠ 2 * t + 1) => (fr_9 k (by omega)).trans ((fr_4 k (by omega)).trans (rfl))) ⟨f_8, f_10, by omega, by omega, by omega⟩⟩, by show va_P (dC, dI) vwCl _ t9.heap; rw [ht9]; exact hP⟩, hS.F ht9⟩) hS.2.2 dX8_addSizes_146
  refine lv_aload_n hx hb dX8_addSizes_0 rfl (lv_at hl 1 rfl) ?_
  refine m_get (D := (dC, dI)) (v := .int (nI sx9)) (C := RX8) (T := TX8) (N := 3) hx hb hts bk0 hown hK hP (2 * x) (ns_w (by omega)) ax9 rfl 1 (by decide) (hts (.fieldLink RX8 15 "GradientDesk$Whole" "size" "I") (List.mem_of_getElem? (i := 1) rfl)) (fun _ h9 => h9) rfl dX8_addSizes_1 ?_
  refine lv_istore_n (lv' := [(3, .int (nI sx9)), (0, .ref (ad (2 * t))), (1, .ref (ad (2 * x))), (2, .ref (ad (2 * y)))]) hx hb dX8_addSizes_4 rfl hl (by decide) rfl (fun ls hl => ?_)
  refine lv_aload_n hx hb dX8_addSizes_5 rfl (lv_at hl 3 rfl) ?_
  refine m_get (D := (dC, dI)) (v := .int (nI sy9)) (C := RX8) (T := TX8) (N := 3) hx hb hts bk0 hown hK hP (2 * y) (ns_w (by omega)) ay9 rfl 1 (by decide) (hts (.fieldLink RX8 15 "GradientDesk$Whole" "size" "I") (List.mem_of_getElem? (i := 1) rfl)) (fun _ h9 => h9) rfl dX8_addSizes_6 ?_
  refine lv_istore (lv' := [(4, .int (nI sy9)), (3, .int (nI sx9)), (0, .ref (ad (2 * t))), (1, .ref (ad (2 * x))), (2, .ref (ad (2 * y)))]) hx hb dX8_addSizes_9 hl (by decide) rfl (fun ls hl => ?_)
  refine lv_aload_n hx hb dX8_addSizes_11 rfl (lv_at hl 2 rfl) ?_
  refine m_get (D := (dC, dI)) (v := .ref (ad (2 * t + 1))) (C := RX8) (T := TX8) (N := 3) hx hb hts bk0 hown hK hP (2 * t) (ns_w (by omega)) at9 rfl 0 (by decide) (hts (.fieldLink RX8 9 "GradientDesk$Whole" "words" "[I") (List.mem_of_getElem? (i := 2) rfl)) (fun _ h9 => h9) rfl dX8_addSizes_12 ?_
  refine m_alen hx hb hK hP (2 * t + 1) (ns_w (by omega)) bt9 dX8_addSizes_15 ?_
  refine lv_iload_n hx hb dX8_addSizes_16 rfl (lv_at hl 1 rfl) ?_
  refine lv_iload hx hb dX8_addSizes_17 (lv_at hl 0 rfl) ?_
  refine va_mmax hx hb (by rw [hml]; exact hl.1.symm) hown (hts (.methodLink RX8 71 Lib.Math.max.name) (List.mem_of_getElem? (i := 3) rfl)) (hts (.static Lib.Math.max.name) (List.mem_of_getElem? (i := 4) rfl)) (hts (.initialized "java/lang/Math") (List.mem_of_getElem? (i := 5) rfl)) (hts (.code Lib.Math.max.name Lib.Math.max.code 2 (some .int)) (List.mem_of_getElem? (i := 6) rfl)) (Nat.le_of_ble_eq_true rfl) (Nat.le_of_ble_eq_true rfl) (Nat.le_of_ble_eq_true rfl) (Nat.le_of_ble_eq_true rfl) dX8_addSizes_19 ?_
  refine lv_topi (fun x_12 e_13 => ?_)
  obtain ⟨q_11, hq_11, eq_11⟩ : ∃ z : Nat, z = max sx9 sy9 ∧ x_12 = nI z := ⟨_, rfl, by rw [e_13]; exact k_max (by omega) (by omega)⟩
  subst eq_11
  refine lv_iconst (v := nI 1) hx hb dX8_addSizes_22 (by decide +kernel) ?_
  refine lv_iadd hx hb dX8_addSizes_23 ?_
  refine lv_topi (fun x_14 e_15 => ?_)
  obtain rfl : x_14 = nI (q_11 + 1) := e_15.trans (nI_add q_11 1)
  refine va_mmin hx hb (by rw [hml]; exact hl.1.symm) hown (hts (.methodLink RX8 29 Lib.Math.min.name) (List.mem_of_getElem? (i := 7) rfl)) (hts (.static Lib.Math.min.name) (List.mem_of_getElem? (i := 8) rfl)) (hts (.initialized "java/lang/Math") (List.mem_of_getElem? (i := 5) rfl)) (hts (.code Lib.Math.min.name Lib.Math.min.code 2 (some .int)) (List.mem_of_getElem? (i := 9) rfl)) (Nat.le_of_ble_eq_true rfl) (Nat.le_of_ble_eq_true rfl) (Nat.le_of_ble_eq_true rfl) (Nat.le_of_ble_eq_true rfl) dX8_addSizes_24 ?_
  refine lv_topi (fun x_17 e_18 => ?_)
  obtain ⟨q_16, hq_16, eq_16⟩ : ∃ z : Nat, z = min mt9 (q_11 + 1) ∧ x_17 = nI z := ⟨_, rfl, by rw [e_18]; exact k_min (by omega) (by omega)⟩
  subst eq_16
  refine lv_istore (lv' := [(5, .int (nI q_16)), (4, .int (nI sy9)), (3, .int (nI sx9)), (0, .ref (ad (2 * t))), (1, .ref (ad (2 * x))), (2, .ref (ad (2 * y)))]) hx hb dX8_addSizes_27 hl (by decide) rfl (fun ls hl => ?_)
  obtain ⟨rm, hrm⟩ : ∃ z, z = q_16 := ⟨_, rfl⟩
  rw [← hrm] at hl
  refine lv_lconst (v := lN 0) hx hb dX8_addSizes_29 (by decide +kernel) ?_
  refine lv_lstore (lv' := [(6, .long (lN 0)), (5, .int (nI rm)), (4, .int (nI sy9)), (3, .int (nI sx9)), (0, .ref (ad (2 * t))), (1, .ref (ad (2 * x))), (2, .ref (ad (2 * y)))]) hx hb dX8_addSizes_30 hl (by decide) rfl (fun ls hl => ?_)
  refine lv_iconst (v := nI 0) hx hb dX8_addSizes_32 (by decide +kernel) ?_
  refine lv_istore (lv' := [(8, .int (nI 0)), (6, .long (lN 0)), (5, .int (nI rm)), (4, .int (nI sy9)), (3, .int (nI sx9)), (0, .ref (ad (2 * t))), (1, .ref (ad (2 * x))), (2, .ref (ad (2 * y)))]) hx hb dX8_addSizes_33 hl (by decide) rfl (fun ls hl => ?_)
  have loop_19 : ∀ (k9 : Nat) (i : Nat) (ff : Nat → Int32) (ca : Int64) (g_21 : Nat → va_E) (fr_22 : ∀ k, (k ≠ 2 * t + 1) → g_21 k = g k), 4096 - i < k9 → (i ≤ 4096) → (g_21 (2 * t + 1) = .inl (cA (2 * t + 1), mt9, .inl ff)) → ∀ (H : Heap) (locs : List Loc) (ls : Array Slot), va_P (dC, dI) vwCl (wo ad NSc g_21) H → va_S A s.heap H locs → lv_has ls 9 [(0, .ref (ad (2 * t))), (1, .ref (ad (2 * x))), (2, .ref (ad (2 * y))), (3, .int (nI sx9)), (4, .int (nI sy9)), (5, .int (nI rm)), (6, .long ca), (8, .int (nI i))] → W p l e (headSpec wd_X8_addSizes ({ frames := 10, cells := 0, slots := 0, locals := 200 })).room s m ([.ref (ad (2 * t)), .ref (ad (2 * x)), .ref (ad (2 * y))] : List Value).toArray below meth c H locs (0) (0) (MQ below (va_Qv (fun (u : Nat → va_E) => match u with | g2 => (∀ k, k ≠ 2 * t ∧ k ≠ 2 * t + 1 → g2 k = g k) ∧ AW ad cA g2) (fun (u : Nat → va_E) (t : State) => va_P (dC, dI) vwCl (wo ad NSc u) t.heap) A) ([.ref (ad (2 * t)), .ref (ad (2 * x)), .ref (ad (2 * y))] : List Value).toArray s (0) (0) A) (F0 m 35 ls []) := by
    intro k9
    induction k9 with
    | zero => intro i ff ca g_21 fr_22 h9; exact absurd h9 (Nat.not_lt_zero _)
    | succ k9 ih_20 =>
      intro i ff ca g_21 fr_22 h9 hi f_23 H locs ls hP hS hl
      refine lv_iload hx hb dX8_addSizes_35 (lv_at hl 7 rfl) ?_
      refine lv_iload hx hb dX8_addSizes_37 (lv_at hl 5 rfl) ?_
      refine lv_icmp_ge (tgt := 116) hx hb dX8_addSizes_39 (by decide) (fun c_24 => ?_) (fun c_24 => ?_)
      · have c_24 := (nI_leI (a := rm) (b := i) (by omega) (by omega)).mp c_24
        refine lv_aload_n hx hb dX8_addSizes_116 rfl (lv_at hl 0 rfl) ?_
        refine lv_iload hx hb dX8_addSizes_117 (lv_at hl 5 rfl) ?_
        refine lv_if_le (tgt := 141) hx hb dX8_addSizes_119 (by decide) (fun c_25 => ?_) (fun c_25 => ?_)
        · have c_25 := (nI_leI (a := rm) (b := 0) (by omega) (by decide)).mp c_25
          refine lv_iload hx hb dX8_addSizes_141 (lv_at hl 5 rfl) ?_
          have f_26 : g_21 (2 * t) = .inr (11, [.ref (ad (2 * t + 1)), .int (nI st9), .int (nI nt9)]) := (fr_22 (2 * t) (by omega)).trans at9
          exact loop_1 rm ff g_21 (fun (k : Nat) (hk : k ≠ 2 * t ∧ k ≠ 2 * t + 1) => (fr_22 k (by omega)).trans (rfl)) (by omega) f_26 f_23 _ _ _ hP hS (lv_sub (l' := [(0, .ref (ad (2 * t)))]) hl [0] rfl)
        · have c_25 := mt (nI_leI (a := rm) (b := 0) (by omega) (by decide)).mpr c_25
          refine lv_aload_n hx hb dX8_addSizes_122 rfl (lv_at hl 0 rfl) ?_
          have f_27 : g_21 (2 * t) = .inr (11, [.ref (ad (2 * t + 1)), .int (nI st9), .int (nI nt9)]) := (fr_22 (2 * t) (by omega)).trans at9
          refine m_get (D := (dC, dI)) (v := .ref (ad (2 * t + 1))) (C := RX8) (T := TX8) (N := 3) hx hb hts bk0 hown hK hP (2 * t) (ns_w (by omega)) f_27 rfl 0 (by decide) (hts (.fieldLink RX8 9 "GradientDesk$Whole" "words" "[I") (List.mem_of_getElem? (i := 2) rfl)) (fun _ h9 => h9) rfl dX8_addSizes_123 ?_
          refine lv_iload hx hb dX8_addSizes_126 (lv_at hl 5 rfl) ?_
          refine lv_iconst (v := nI 1) hx hb dX8_addSizes_128 (by decide +kernel) ?_
          refine lv_isub hx hb dX8_addSizes_129 ?_
          refine lv_topi (fun x_28 e_29 => ?_)
          obtain rfl : x_28 = nI (rm - 1) := e_29.trans (pk_sub (show 1 ≤ rm by omega))
          refine m_iald hx hb hK hP (2 * t + 1) (ns_w (by omega)) (tyc_w (by omega)) f_23 (i := rm - 1) (by omega) (by omega) dX8_addSizes_130 ?_
          refine lv_topi (fun x_30 e_31 => ?_)
          refine lv_if_ne (tgt := 141) hx hb dX8_addSizes_131 (by decide) (fun c_32 => ?_) (fun c_32 => ?_)
          · clear c_32
            refine lv_iload hx hb dX8_addSizes_141 (lv_at hl 5 rfl) ?_
            exact loop_1 rm ff g_21 (fun (k : Nat) (hk : k ≠ 2 * t ∧ k ≠ 2 * t + 1) => (fr_22 k (by omega)).trans (rfl)) (by omega) f_27 f_23 _ _ _ hP hS (lv_sub (l' := [(0, .ref (ad (2 * t)))]) hl [0] rfl)
          · clear c_32
            refine lv_iload hx hb dX8_addSizes_134 (lv_at hl 5 rfl) ?_
            refine lv_iconst (v := nI 1) hx hb dX8_addSizes_136 (by decide +kernel) ?_
            refine lv_isub hx hb dX8_addSizes_137 ?_
            refine lv_topi (fun x_33 e_34 => ?_)
            obtain rfl : x_33 = nI (rm - 1) := e_34.trans (pk_sub (show 1 ≤ rm by omega))
            refine lv_goto (tgt := 143) hx hb dX8_addSizes_138 (by decide) ?_
            exact loop_1 (rm - 1) ff g_21 (fun (k : Nat) (hk : k ≠ 2 * t ∧ k ≠ 2 * t + 1) => (fr_22 k (by omega)).trans (rfl)) (by omega) f_27 f_23 _ _ _ hP hS (lv_sub (l' := [(0, .ref (ad (2 * t)))]) hl [0] rfl)
      · have c_24 := mt (nI_leI (a := rm) (b := i) (by omega) (by omega)).mpr c_24
        have loop_35 : ∀ (p2 : Int64) (p1 : Int64), ∀ (H : Heap) (locs : List Loc) (ls : Array Slot), va_P (dC, dI) vwCl (wo ad NSc g_21) H → va_S A s.heap H locs → lv_has ls 9 [(0, .ref (ad (2 * t))), (1, .ref (ad (2 * x))), (2, .ref (ad (2 * y))), (3, .int (nI sx9)), (4, .int (nI sy9)), (5, .int (nI rm)), (6, .long ca), (8, .int (nI i))] → W p l e (headSpec wd_X8_addSizes ({ frames := 10, cells := 0, slots := 0, locals := 200 })).room s m ([.ref (ad (2 * t)), .ref (ad (2 * x)), .ref (ad (2 * y))] : List Value).toArray below meth c H locs (0) (0) (MQ below (va_Qv (fun (u : Nat → va_E) => match u with | g2 => (∀ k, k ≠ 2 * t ∧ k ≠ 2 * t + 1 → g2 k = g k) ∧ AW ad cA g2) (fun (u : Nat → va_E) (t : State) => va_P (dC, dI) vwCl (wo ad NSc u) t.heap) A) ([.ref (ad (2 * t)), .ref (ad (2 * x)), .ref (ad (2 * y))] : List Value).toArray s (0) (0) A) (F0 m 89 ls [.long p2, .long p1, .long ca]) := by
          intro p2 p1  H locs ls hP hS hl
          refine lv_ladd hx hb dX8_addSizes_89 ?_
          refine lv_topl (fun y_39 e_40 => ?_)
          refine lv_ladd hx hb dX8_addSizes_90 ?_
          refine lv_topl (fun y_41 e_42 => ?_)
          refine lv_lstore (lv' := [(6, .long y_41), (0, .ref (ad (2 * t))), (1, .ref (ad (2 * x))), (2, .ref (ad (2 * y))), (3, .int (nI sx9)), (4, .int (nI sy9)), (5, .int (nI rm)), (8, .int (nI i))]) hx hb dX8_addSizes_91 hl (by decide) rfl (fun ls hl => ?_)
          refine lv_aload_n hx hb dX8_addSizes_93 rfl (lv_at hl 1 rfl) ?_
          have f_43 : g_21 (2 * t) = .inr (11, [.ref (ad (2 * t + 1)), .int (nI st9), .int (nI nt9)]) := (fr_22 (2 * t) (by omega)).trans at9
          refine m_get (D := (dC, dI)) (v := .ref (ad (2 * t + 1))) (C := RX8) (T := TX8) (N := 3) hx hb hts bk0 hown hK hP (2 * t) (ns_w (by omega)) f_43 rfl 0 (by decide) (hts (.fieldLink RX8 9 "GradientDesk$Whole" "words" "[I") (List.mem_of_getElem? (i := 2) rfl)) (fun _ h9 => h9) rfl dX8_addSizes_94 ?_
          refine lv_iload hx hb dX8_addSizes_97 (lv_at hl 7 rfl) ?_
          refine lv_lload hx hb dX8_addSizes_99 (lv_at hl 0 rfl) ?_
          refine lv_l2i hx hb dX8_addSizes_101 rfl ?_
          refine lv_topi (fun x_44 e_45 => ?_)
          refine m_iast hx hb hK hP hD hS (2 * t + 1) (ns_w (by omega)) (tyc_w (by omega)) f_23 (i := i) (x := x_44) (by omega) (by omega) dX8_addSizes_102 (fun H locs g_46 f_47 fr_48 hP hS => ?_)
          have f_47 : g_46 (2 * t + 1) = .inl (cA (2 * t + 1), mt9, .inl (upd ff i x_44)) := f_47
          refine lv_lload hx hb dX8_addSizes_103 (lv_at hl 0 rfl) ?_
          refine lv_bipush (v := nI 32) hx hb dX8_addSizes_105 (by decide +kernel) ?_
          refine lv_lushr hx hb dX8_addSizes_107 rfl ?_
          refine lv_topl (fun y_49 e_50 => ?_)
          refine lv_lstore (lv' := [(6, .long y_49), (0, .ref (ad (2 * t))), (1, .ref (ad (2 * x))), (2, .ref (ad (2 * y))), (3, .int (nI sx9)), (4, .int (nI sy9)), (5, .int (nI rm)), (8, .int (nI i))]) hx hb dX8_addSizes_108 hl (by decide) rfl (fun ls hl => ?_)
          refine lv_iinc (v := nI (i + 1)) (lv' := [(8, .int (nI (i + 1))), (6, .long y_49), (0, .ref (ad (2 * t))), (1, .ref (ad (2 * x))), (2, .ref (ad (2 * y))), (3, .int (nI sx9)), (4, .int (nI sy9)), (5, .int (nI rm))]) hx hb dX8_addSizes_110 hl (k := 7) rfl (nI_add i 1) (by decide) rfl (fun ls hl => ?_)
          refine lv_goto (tgt := 35) hx hb dX8_addSizes_113 (by decide) ?_
          exact ih_20 (i + 1) (upd ff i x_44) y_49 g_46 (fun (k : Nat) (hk : k ≠ 2 * t + 1) => (fr_48 k (by omega)).trans ((fr_22 k (by omega)).trans (rfl))) (by omega) (by omega) f_47 _ _ _ hP hS (lv_sub (l' := [(0, .ref (ad (2 * t))), (1, .ref (ad (2 * x))), (2, .ref (ad (2 * y))), (3, .int (nI sx9)), (4, .int (nI sy9)), (5, .int (nI rm)), (6, .long y_49), (8, .int (nI (i + 1)))]) hl [2, 3, 4, 5, 6, 7, 1, 0] rfl)
        have loop_53 : ∀ (p1 : Int64), ∀ (H : Heap) (locs : List Loc) (ls : Array Slot), va_P (dC, dI) vwCl (wo ad NSc g_21) H → va_S A s.heap H locs → lv_has ls 9 [(0, .ref (ad (2 * t))), (1, .ref (ad (2 * x))), (2, .ref (ad (2 * y))), (3, .int (nI sx9)), (4, .int (nI sy9)), (5, .int (nI rm)), (6, .long ca), (8, .int (nI i))] → W p l e (headSpec wd_X8_addSizes ({ frames := 10, cells := 0, slots := 0, locals := 200 })).room s m ([.ref (ad (2 * t)), .ref (ad (2 * x)), .ref (ad (2 * y))] : List Value).toArray below meth c H locs (0) (0) (MQ below (va_Qv (fun (u : Nat → va_E) => match u with | g2 => (∀ k, k ≠ 2 * t ∧ k ≠ 2 * t + 1 → g2 k = g k) ∧ AW ad cA g2) (fun (u : Nat → va_E) (t : State) => va_P (dC, dI) vwCl (wo ad NSc u) t.heap) A) ([.ref (ad (2 * t)), .ref (ad (2 * x)), .ref (ad (2 * y))] : List Value).toArray s (0) (0) A) (F0 m 66 ls [.long p1, .long ca]) := by
          intro p1  H locs ls hP hS hl
          refine lv_iload hx hb dX8_addSizes_66 (lv_at hl 7 rfl) ?_
          refine lv_iload hx hb dX8_addSizes_68 (lv_at hl 4 rfl) ?_
          refine lv_icmp_ge (tgt := 88) hx hb dX8_addSizes_70 (by decide) (fun c_57 => ?_) (fun c_57 => ?_)
          · have c_57 := (nI_leI (a := sy9) (b := i) (by omega) (by omega)).mp c_57
            refine lv_lconst (v := lN 0) hx hb dX8_addSizes_88 (by decide +kernel) ?_
            exact loop_35 (lN 0) p1  _ _ _ hP hS (lv_sub (l' := [(0, .ref (ad (2 * t))), (1, .ref (ad (2 * x))), (2, .ref (ad (2 * y))), (3, .int (nI sx9)), (4, .int (nI sy9)), (5, .int (nI rm)), (6, .long ca), (8, .int (nI i))]) hl [0, 1, 2, 3, 4, 5, 6, 7] rfl)
          · have c_57 := mt (nI_leI (a := sy9) (b := i) (by omega) (by omega)).mpr c_57
            refine lv_aload_n hx hb dX8_addSizes_73 rfl (lv_at hl 2 rfl) ?_
            have f_58 : g_21 (2 * y) = .inr (11, [.ref (ad (2 * y + 1)), .int (nI sy9), .int (nI ny9)]) := (fr_22 (2 * y) (by omega)).trans ay9
            refine m_get (D := (dC, dI)) (v := .ref (ad (2 * y + 1))) (C := RX8) (T := TX8) (N := 3) hx hb hts bk0 hown hK hP (2 * y) (ns_w (by omega)) f_58 rfl 0 (by decide) (hts (.fieldLink RX8 9 "GradientDesk$Whole" "words" "[I") (List.mem_of_getElem? (i := 2) rfl)) (fun _ h9 => h9) rfl dX8_addSizes_74 ?_
            refine lv_iload hx hb dX8_addSizes_77 (lv_at hl 7 rfl) ?_
            have f_59 : g_21 (2 * y + 1) = .inl (cA (2 * y + 1), my9, .inl fy9) := (fr_22 (2 * y + 1) (by omega)).trans by9
            refine m_iald hx hb hK hP (2 * y + 1) (ns_w (by omega)) (tyc_w (by omega)) f_59 (i := i) (by omega) (by omega) dX8_addSizes_79 ?_
            refine lv_topi (fun x_60 e_61 => ?_)
            refine lv_i2l hx hb dX8_addSizes_80 rfl ?_
            refine lv_topl (fun y_62 e_63 => ?_)
            refine lv_ldc2 (v := 4294967295) hx hb hown (hts (.constantLong RX8 48 (4294967295)) (List.mem_of_getElem? (i := 10) rfl)) dX8_addSizes_81 ?_
            refine lv_topl (fun y_64 e_65 => ?_)
            obtain rfl : y_64 = lN 4294967295 := e_65
            refine lv_land hx hb dX8_addSizes_84 ?_
            refine lv_topl (fun y_66 e_67 => ?_)
            refine lv_goto (tgt := 89) hx hb dX8_addSizes_85 (by decide) ?_
            exact loop_35 y_66 p1  _ _ _ hP hS (lv_sub (l' := [(0, .ref (ad (2 * t))), (1, .ref (ad (2 * x))), (2, .ref (ad (2 * y))), (3, .int (nI sx9)), (4, .int (nI sy9)), (5, .int (nI rm)), (6, .long ca), (8, .int (nI i))]) hl [0, 1, 2, 3, 4, 5, 6, 7] rfl)
        refine lv_lload hx hb dX8_addSizes_42 (lv_at hl 6 rfl) ?_
        refine lv_iload hx hb dX8_addSizes_44 (lv_at hl 7 rfl) ?_
        refine lv_iload_n hx hb dX8_addSizes_46 rfl (lv_at hl 3 rfl) ?_
        refine lv_icmp_ge (tgt := 65) hx hb dX8_addSizes_47 (by decide) (fun c_68 => ?_) (fun c_68 => ?_)
        · have c_68 := (nI_leI (a := sx9) (b := i) (by omega) (by omega)).mp c_68
          refine lv_lconst (v := lN 0) hx hb dX8_addSizes_65 (by decide +kernel) ?_
          exact loop_53 (lN 0)  _ _ _ hP hS (lv_sub (l' := [(0, .ref (ad (2 * t))), (1, .ref (ad (2 * x))), (2, .ref (ad (2 * y))), (3, .int (nI sx9)), (4, .int (nI sy9)), (5, .int (nI rm)), (6, .long ca), (8, .int (nI i))]) hl [0, 1, 2, 3, 4, 5, 6, 7] rfl)
        · have c_68 := mt (nI_leI (a := sx9) (b := i) (by omega) (by omega)).mpr c_68
          refine lv_aload_n hx hb dX8_addSizes_50 rfl (lv_at hl 1 rfl) ?_
          have f_69 : g_21 (2 * x) = .inr (11, [.ref (ad (2 * x + 1)), .int (nI sx9), .int (nI nx9)]) := (fr_22 (2 * x) (by omega)).trans ax9
          refine m_get (D := (dC, dI)) (v := .ref (ad (2 * x + 1))) (C := RX8) (T := TX8) (N := 3) hx hb hts bk0 hown hK hP (2 * x) (ns_w (by omega)) f_69 rfl 0 (by decide) (hts (.fieldLink RX8 9 "GradientDesk$Whole" "words" "[I") (List.mem_of_getElem? (i := 2) rfl)) (fun _ h9 => h9) rfl dX8_addSizes_51 ?_
          refine lv_iload hx hb dX8_addSizes_54 (lv_at hl 7 rfl) ?_
          have f_70 : g_21 (2 * x + 1) = .inl (cA (2 * x + 1), mx9, .inl fx9) := (fr_22 (2 * x + 1) (by omega)).trans bx9
          refine m_iald hx hb hK hP (2 * x + 1) (ns_w (by omega)) (tyc_w (by omega)) f_70 (i := i) (by omega) (by omega) dX8_addSizes_56 ?_
          refine lv_topi (fun x_71 e_72 => ?_)
          refine lv_i2l hx hb dX8_addSizes_57 rfl ?_
          refine lv_topl (fun y_73 e_74 => ?_)
          refine lv_ldc2 (v := 4294967295) hx hb hown (hts (.constantLong RX8 48 (4294967295)) (List.mem_of_getElem? (i := 10) rfl)) dX8_addSizes_58 ?_
          refine lv_topl (fun y_75 e_76 => ?_)
          obtain rfl : y_75 = lN 4294967295 := e_76
          refine lv_land hx hb dX8_addSizes_61 ?_
          refine lv_topl (fun y_77 e_78 => ?_)
          refine lv_goto (tgt := 66) hx hb dX8_addSizes_62 (by decide) ?_
          exact loop_53 y_77  _ _ _ hP hS (lv_sub (l' := [(0, .ref (ad (2 * t))), (1, .ref (ad (2 * x))), (2, .ref (ad (2 * y))), (3, .int (nI sx9)), (4, .int (nI sy9)), (5, .int (nI rm)), (6, .long ca), (8, .int (nI i))]) hl [0, 1, 2, 3, 4, 5, 6, 7] rfl)
  exact loop_19 _ 0 ft9 (lN 0) g (fun (k : Nat) (hk : k ≠ 2 * t + 1) => rfl) (Nat.lt_succ_self _) (by omega) bt9 _ _ _ hP hS (lv_sub (l' := [(0, .ref (ad (2 * t))), (1, .ref (ad (2 * x))), (2, .ref (ad (2 * y))), (3, .int (nI sx9)), (4, .int (nI sy9)), (5, .int (nI rm)), (6, .long (lN 0)), (8, .int (nI 0))]) hl [5, 6, 7, 4, 3, 2, 1, 0] rfl)
def wd_X8_take3 : List Cond := .code yX8_takeSizes cX8_takeSizes 10 none :: (([.fieldLink RX8 9 "GradientDesk$Whole" "words" "[I", .fieldLink RX8 15 "GradientDesk$Whole" "size" "I", .methodLink RX8 29 Lib.Math.min.name, .static Lib.Math.min.name, .initialized "java/lang/Math", .code Lib.Math.min.name Lib.Math.min.code 2 (some .int), .constantLong RX8 48 (4294967295)] : List Cond) ++ (u_ws RX8 TX8 3 ++ ([])))
theorem gw_X8_take3 : wd_X8_take3.all goodWord = true := k_allc rfl (k_all (by decide +kernel) (k_all (gu_X8) (rfl)))
set_option maxHeartbeats 4000000 in
set_option maxRecDepth 100000 in
theorem c_X8_take3 (l : Launch) (dC : Nat → ClassId) (dI : Nat → Nat → Nat) (A : Nat → Prop) (ad : Nat → Nat) (cA : Nat → ClassId) (g : Nat → va_E) (t : Nat) (x : Nat) (y : Nat) (hAW : AW ad cA g) (it : t < 1038) (ix : x < 1038) (iy : y < 1038) (htx : t ≠ x) (hty : t ≠ y) : Met l yX8_takeSizes wd_X8_take3 ({ frames := 10, cells := 0, slots := 0, locals := 200 }) (va_Pc [.ref (ad (2 * t)), .ref (ad (2 * x)), .ref (ad (2 * y))] (PR NSc tyc dC dI A ad cA g)) (va_Qv (fun (u : Nat → va_E) => match u with | g2 => (∀ k, k ≠ 2 * t ∧ k ≠ 2 * t + 1 → g2 k = g k) ∧ AW ad cA g2) (fun (u : Nat → va_E) (t : State) => va_P (dC, dI) vwCl (wo ad NSc u) t.heap) A) (0) (0) A := by
  refine Met.ofW (cc := cX8_takeSizes) (maxL := 10) (ret := none) (by decide) rfl ?_
  intro p e s m args below meth c s₁ B hml hv
  obtain ⟨rfl, hA, hP, hL⟩ := hv
  have hx := B.exec
  have hb := B.bytes
  have hr := B.returns
  have hts := atoms_spec (ws := wd_X8_take3) B.pre
  have hown : s.vm.findClass RX8 = some m.cls := findClass_of_methodNamed B.named
  have hlocks := B.notSynchronized
  have hK := hL.1
  have hD : ∀ g, va_D A (wo ad NSc g) := fun g => wo_D hL.2.1 hL.2.2 g
  have hS : va_S A s.heap s.heap [] := va_S.rf
  have bk0 : ∀ w ∈ u_ws RX8 TX8 3, w ∈ wd_X8_take3 := fun _ h => List.mem_cons_of_mem _ (List.mem_append_right _ (List.mem_append_left _ h))
  have hl := lv_entry ([.ref (ad (2 * t)), .ref (ad (2 * x)), .ref (ad (2 * y))]) (n := 10) (Nat.le_of_ble_eq_true rfl)
  rw [lg_entry_eq]
  generalize (lg_sl ([.ref (ad (2 * t)), .ref (ad (2 * x)), .ref (ad (2 * y))]) ++ List.replicate (10 - (lg_sl ([.ref (ad (2 * t)), .ref (ad (2 * x)), .ref (ad (2 * y))])).length) Slot.unset).toArray = ls at hl ⊢
  have hl : lv_has ls 10 [(0, .ref (ad (2 * t))), (1, .ref (ad (2 * x))), (2, .ref (ad (2 * y)))] := hl
  obtain ⟨mt9, st9, nt9, ft9, at9, bt9, ct9, dt9, et9⟩ := hAW t it
  have qt9 : mt9 ≤ 4096 := by rw [dt9]; exact rmc_le _
  obtain ⟨mx9, sx9, nx9, fx9, ax9, bx9, cx9, dx9, ex9⟩ := hAW x ix
  have qx9 : mx9 ≤ 4096 := by rw [dx9]; exact rmc_le _
  obtain ⟨my9, sy9, ny9, fy9, ay9, by9, cy9, dy9, ey9⟩ := hAW y iy
  have qy9 : my9 ≤ 4096 := by rw [dy9]; exact rmc_le _
  refine lv_aload_n hx hb dX8_takeSizes_0 rfl (lv_at hl 0 rfl) ?_
  refine m_get (D := (dC, dI)) (v := .ref (ad (2 * t + 1))) (C := RX8) (T := TX8) (N := 3) hx hb hts bk0 hown hK hP (2 * t) (ns_w (by omega)) at9 rfl 0 (by decide) (hts (.fieldLink RX8 9 "GradientDesk$Whole" "words" "[I") (List.mem_of_getElem? (i := 1) rfl)) (fun _ h9 => h9) rfl dX8_takeSizes_1 ?_
  refine m_alen hx hb hK hP (2 * t + 1) (ns_w (by omega)) bt9 dX8_takeSizes_4 ?_
  refine lv_aload_n hx hb dX8_takeSizes_5 rfl (lv_at hl 1 rfl) ?_
  refine m_get (D := (dC, dI)) (v := .int (nI sx9)) (C := RX8) (T := TX8) (N := 3) hx hb hts bk0 hown hK hP (2 * x) (ns_w (by omega)) ax9 rfl 1 (by decide) (hts (.fieldLink RX8 15 "GradientDesk$Whole" "size" "I") (List.mem_of_getElem? (i := 2) rfl)) (fun _ h9 => h9) rfl dX8_takeSizes_6 ?_
  refine va_mmin hx hb (by rw [hml]; exact hl.1.symm) hown (hts (.methodLink RX8 29 Lib.Math.min.name) (List.mem_of_getElem? (i := 3) rfl)) (hts (.static Lib.Math.min.name) (List.mem_of_getElem? (i := 4) rfl)) (hts (.initialized "java/lang/Math") (List.mem_of_getElem? (i := 5) rfl)) (hts (.code Lib.Math.min.name Lib.Math.min.code 2 (some .int)) (List.mem_of_getElem? (i := 6) rfl)) (Nat.le_of_ble_eq_true rfl) (Nat.le_of_ble_eq_true rfl) (Nat.le_of_ble_eq_true rfl) (Nat.le_of_ble_eq_true rfl) dX8_takeSizes_9 ?_
  refine lv_topi (fun x_2 e_3 => ?_)
  obtain ⟨q_1, hq_1, eq_1⟩ : ∃ z : Nat, z = min mt9 sx9 ∧ x_2 = nI z := ⟨_, rfl, by rw [e_3]; exact k_min (by omega) (by omega)⟩
  subst eq_1
  refine lv_istore_n (lv' := [(3, .int (nI q_1)), (0, .ref (ad (2 * t))), (1, .ref (ad (2 * x))), (2, .ref (ad (2 * y)))]) hx hb dX8_takeSizes_12 rfl hl (by decide) rfl (fun ls hl => ?_)
  refine lv_aload_n hx hb dX8_takeSizes_13 rfl (lv_at hl 3 rfl) ?_
  refine m_get (D := (dC, dI)) (v := .int (nI sy9)) (C := RX8) (T := TX8) (N := 3) hx hb hts bk0 hown hK hP (2 * y) (ns_w (by omega)) ay9 rfl 1 (by decide) (hts (.fieldLink RX8 15 "GradientDesk$Whole" "size" "I") (List.mem_of_getElem? (i := 2) rfl)) (fun _ h9 => h9) rfl dX8_takeSizes_14 ?_
  refine lv_istore (lv' := [(4, .int (nI sy9)), (3, .int (nI q_1)), (0, .ref (ad (2 * t))), (1, .ref (ad (2 * x))), (2, .ref (ad (2 * y)))]) hx hb dX8_takeSizes_17 hl (by decide) rfl (fun ls hl => ?_)
  obtain ⟨rm, hrm⟩ : ∃ z, z = q_1 := ⟨_, rfl⟩
  rw [← hrm] at hl
  refine lv_lconst (v := lN 0) hx hb dX8_takeSizes_19 (by decide +kernel) ?_
  refine lv_lstore (lv' := [(5, .long (lN 0)), (4, .int (nI sy9)), (3, .int (nI rm)), (0, .ref (ad (2 * t))), (1, .ref (ad (2 * x))), (2, .ref (ad (2 * y)))]) hx hb dX8_takeSizes_20 hl (by decide) rfl (fun ls hl => ?_)
  refine lv_iconst (v := nI 0) hx hb dX8_takeSizes_22 (by decide +kernel) ?_
  refine lv_istore (lv' := [(7, .int (nI 0)), (5, .long (lN 0)), (4, .int (nI sy9)), (3, .int (nI rm)), (0, .ref (ad (2 * t))), (1, .ref (ad (2 * x))), (2, .ref (ad (2 * y)))]) hx hb dX8_takeSizes_23 hl (by decide) rfl (fun ls hl => ?_)
  have loop_4 : ∀ (k9 : Nat) (i : Nat) (ff : Nat → Int32) (bo : Int64) (g_6 : Nat → va_E) (fr_7 : ∀ k, (k ≠ 2 * t + 1) → g_6 k = g k), 4096 - i < k9 → (i ≤ 4096) → (g_6 (2 * t + 1) = .inl (cA (2 * t + 1), mt9, .inl ff)) → ∀ (H : Heap) (locs : List Loc) (ls : Array Slot), va_P (dC, dI) vwCl (wo ad NSc g_6) H → va_S A s.heap H locs → lv_has ls 10 [(0, .ref (ad (2 * t))), (1, .ref (ad (2 * x))), (2, .ref (ad (2 * y))), (3, .int (nI rm)), (4, .int (nI sy9)), (5, .long bo), (7, .int (nI i))] → W p l e (headSpec wd_X8_take3 ({ frames := 10, cells := 0, slots := 0, locals := 200 })).room s m ([.ref (ad (2 * t)), .ref (ad (2 * x)), .ref (ad (2 * y))] : List Value).toArray below meth c H locs (0) (0) (MQ below (va_Qv (fun (u : Nat → va_E) => match u with | g2 => (∀ k, k ≠ 2 * t ∧ k ≠ 2 * t + 1 → g2 k = g k) ∧ AW ad cA g2) (fun (u : Nat → va_E) (t : State) => va_P (dC, dI) vwCl (wo ad NSc u) t.heap) A) ([.ref (ad (2 * t)), .ref (ad (2 * x)), .ref (ad (2 * y))] : List Value).toArray s (0) (0) A) (F0 m 25 ls []) := by
    intro k9
    induction k9 with
    | zero => intro i ff bo g_6 fr_7 h9; exact absurd h9 (Nat.not_lt_zero _)
    | succ k9 ih_5 =>
      intro i ff bo g_6 fr_7 h9 hi f_8 H locs ls hP hS hl
      refine lv_iload hx hb dX8_takeSizes_25 (lv_at hl 6 rfl) ?_
      refine lv_iload_n hx hb dX8_takeSizes_27 rfl (lv_at hl 3 rfl) ?_
      refine lv_icmp_ge (tgt := 102) hx hb dX8_takeSizes_28 (by decide) (fun c_9 => ?_) (fun c_9 => ?_)
      · have c_9 := (nI_leI (a := rm) (b := i) (by omega) (by omega)).mp c_9
        refine lv_aload_n hx hb dX8_takeSizes_102 rfl (lv_at hl 0 rfl) ?_
        refine lv_iload_n hx hb dX8_takeSizes_103 rfl (lv_at hl 3 rfl) ?_
        have f_10 : g_6 (2 * t) = .inr (11, [.ref (ad (2 * t + 1)), .int (nI st9), .int (nI nt9)]) := (fr_7 (2 * t) (by omega)).trans at9
        refine m_put (D := (dC, dI)) (v := .int (nI rm)) (tv := .int) (C := RX8) (T := TX8) (N := 3) hx hb hts bk0 tyX8 tyX8_ok nmX8 hown hK hP hD hS (2 * t) (ns_w (by omega)) f_10 rfl 1 (by decide) (hts (.fieldLink RX8 15 "GradientDesk$Whole" "size" "I") (List.mem_of_getElem? (i := 2) rfl)) (fun _ h9 => h9) rfl (by decide +kernel) rfl rfl (Nat.le_of_ble_eq_true rfl) dX8_takeSizes_104 (fun H locs g_11 f_12 fr_13 hP hS => ?_)
        have f_12 : g_11 (2 * t) = .inr (11, [.ref (ad (2 * t + 1)), .int (nI rm), .int (nI nt9)]) := f_12
        have loop_14 : ∀ (k9 : Nat) (z : Nat) (g_16 : Nat → va_E) (fr_17 : ∀ k, (k ≠ 2 * t) → g_16 k = g_11 k), z < k9 → (z ≤ mt9) → (g_16 (2 * t) = .inr (11, [.ref (ad (2 * t + 1)), .int (nI z), .int (nI nt9)])) → ∀ (H : Heap) (locs : List Loc) (ls : Array Slot), va_P (dC, dI) vwCl (wo ad NSc g_16) H → va_S A s.heap H locs → lv_has ls 10 [(0, .ref (ad (2 * t)))] → W p l e (headSpec wd_X8_take3 ({ frames := 10, cells := 0, slots := 0, locals := 200 })).room s m ([.ref (ad (2 * t)), .ref (ad (2 * x)), .ref (ad (2 * y))] : List Value).toArray below meth c H locs (0) (0) (MQ below (va_Qv (fun (u : Nat → va_E) => match u with | g2 => (∀ k, k ≠ 2 * t ∧ k ≠ 2 * t + 1 → g2 k = g k) ∧ AW ad cA g2) (fun (u : Nat → va_E) (t : State) => va_P (dC, dI) vwCl (wo ad NSc u) t.heap) A) ([.ref (ad (2 * t)), .ref (ad (2 * x)), .ref (ad (2 * y))] : List Value).toArray s (0) (0) A) (F0 m 107 ls []) := by
          intro k9
          induction k9 with
          | zero => intro z g_16 fr_17 h9; exact absurd h9 (Nat.not_lt_zero _)
          | succ k9 ih_15 =>
            intro z g_16 fr_17 h9 hz f_18 H locs ls hP hS hl
            refine lv_aload_n hx hb dX8_takeSizes_107 rfl (lv_at hl 0 rfl) ?_
            refine m_get (D := (dC, dI)) (v := .int (nI z)) (C := RX8) (T := TX8) (N := 3) hx hb hts bk0 hown hK hP (2 * t) (ns_w (by omega)) f_18 rfl 1 (by decide) (hts (.fieldLink RX8 15 "GradientDesk$Whole" "size" "I") (List.mem_of_getElem? (i := 2) rfl)) (fun _ h9 => h9) rfl dX8_takeSizes_108 ?_
            refine lv_if_le (tgt := 141) hx hb dX8_takeSizes_111 (by decide) (fun c_19 => ?_) (fun c_19 => ?_)
            · have c_19 := (nI_leI (a := z) (b := 0) (by omega) (by decide)).mp c_19
              have f_20 : g_16 (2 * t + 1) = .inl (cA (2 * t + 1), mt9, .inl ff) := (fr_17 (2 * t + 1) (by omega)).trans ((fr_13 (2 * t + 1) (by omega)).trans f_8)
              refine W.widen (k := 0) (n := 0) (by omega) (by omega) ?_
              exact W.vret hx hb hr (fun t9 ht9 hW9 => ⟨⟨g_16, rfl, ⟨(fun (k : Nat) (hk : k ≠ 2 * t ∧ k ≠ 2 * t + 1) => (fr_17 k (by omega)).trans ((fr_13 k (by omega)).trans ((fr_7 k (by omega)).trans (rfl)))), AW.put (t := t) hAW (fun (k : Nat) (hk : k ≠ 2 * t ∧ k ≠ 2 * t + 1) => (fr_17 k (by omega)).trans ((fr_13 k (by omega)).trans ((fr_7 k (by omega)).trans (rfl)))) ⟨f_18, f_20, by omega, by omega, by omega⟩⟩, by show va_P (dC, dI) vwCl _ t9.heap; rw [ht9]; exact hP⟩, hS.F ht9⟩) hS.2.2 dX8_takeSizes_141
            · have c_19 := mt (nI_leI (a := z) (b := 0) (by omega) (by decide)).mpr c_19
              refine lv_aload_n hx hb dX8_takeSizes_114 rfl (lv_at hl 0 rfl) ?_
              refine m_get (D := (dC, dI)) (v := .ref (ad (2 * t + 1))) (C := RX8) (T := TX8) (N := 3) hx hb hts bk0 hown hK hP (2 * t) (ns_w (by omega)) f_18 rfl 0 (by decide) (hts (.fieldLink RX8 9 "GradientDesk$Whole" "words" "[I") (List.mem_of_getElem? (i := 1) rfl)) (fun _ h9 => h9) rfl dX8_takeSizes_115 ?_
              refine lv_aload_n hx hb dX8_takeSizes_118 rfl (lv_at hl 0 rfl) ?_
              refine m_get (D := (dC, dI)) (v := .int (nI z)) (C := RX8) (T := TX8) (N := 3) hx hb hts bk0 hown hK hP (2 * t) (ns_w (by omega)) f_18 rfl 1 (by decide) (hts (.fieldLink RX8 15 "GradientDesk$Whole" "size" "I") (List.mem_of_getElem? (i := 2) rfl)) (fun _ h9 => h9) rfl dX8_takeSizes_119 ?_
              refine lv_iconst (v := nI 1) hx hb dX8_takeSizes_122 (by decide +kernel) ?_
              refine lv_isub hx hb dX8_takeSizes_123 ?_
              refine lv_topi (fun x_21 e_22 => ?_)
              obtain rfl : x_21 = nI (z - 1) := e_22.trans (pk_sub (show 1 ≤ z by omega))
              have f_23 : g_16 (2 * t + 1) = .inl (cA (2 * t + 1), mt9, .inl ff) := (fr_17 (2 * t + 1) (by omega)).trans ((fr_13 (2 * t + 1) (by omega)).trans f_8)
              refine m_iald hx hb hK hP (2 * t + 1) (ns_w (by omega)) (tyc_w (by omega)) f_23 (i := z - 1) (by omega) (by omega) dX8_takeSizes_124 ?_
              refine lv_topi (fun x_24 e_25 => ?_)
              refine lv_if_ne (tgt := 141) hx hb dX8_takeSizes_125 (by decide) (fun c_26 => ?_) (fun c_26 => ?_)
              · clear c_26
                refine W.widen (k := 0) (n := 0) (by omega) (by omega) ?_
                exact W.vret hx hb hr (fun t9 ht9 hW9 => ⟨⟨g_16, rfl, ⟨(fun (k : Nat) (hk : k ≠ 2 * t ∧ k ≠ 2 * t + 1) => (fr_17 k (by omega)).trans ((fr_13 k (by omega)).trans ((fr_7 k (by omega)).trans (rfl)))), AW.put (t := t) hAW (fun (k : Nat) (hk : k ≠ 2 * t ∧ k ≠ 2 * t + 1) => (fr_17 k (by omega)).trans ((fr_13 k (by omega)).trans ((fr_7 k (by omega)).trans (rfl)))) ⟨f_18, f_23, by omega, by omega, by omega⟩⟩, by show va_P (dC, dI) vwCl _ t9.heap; rw [ht9]; exact hP⟩, hS.F ht9⟩) hS.2.2 dX8_takeSizes_141
              · clear c_26
                refine lv_aload_n hx hb dX8_takeSizes_128 rfl (lv_at hl 0 rfl) ?_
                refine lv_dup hx hb dX8_takeSizes_129 rfl ?_
                refine m_get (D := (dC, dI)) (v := .int (nI z)) (C := RX8) (T := TX8) (N := 3) hx hb hts bk0 hown hK hP (2 * t) (ns_w (by omega)) f_18 rfl 1 (by decide) (hts (.fieldLink RX8 15 "GradientDesk$Whole" "size" "I") (List.mem_of_getElem? (i := 2) rfl)) (fun _ h9 => h9) rfl dX8_takeSizes_130 ?_
                refine lv_iconst (v := nI 1) hx hb dX8_takeSizes_133 (by decide +kernel) ?_
                refine lv_isub hx hb dX8_takeSizes_134 ?_
                refine lv_topi (fun x_27 e_28 => ?_)
                obtain rfl : x_27 = nI (z - 1) := e_28.trans (pk_sub (show 1 ≤ z by omega))
                refine m_put (D := (dC, dI)) (v := .int (nI (z - 1))) (tv := .int) (C := RX8) (T := TX8) (N := 3) hx hb hts bk0 tyX8 tyX8_ok nmX8 hown hK hP hD hS (2 * t) (ns_w (by omega)) f_18 rfl 1 (by decide) (hts (.fieldLink RX8 15 "GradientDesk$Whole" "size" "I") (List.mem_of_getElem? (i := 2) rfl)) (fun _ h9 => h9) rfl (by decide +kernel) rfl rfl (Nat.le_of_ble_eq_true rfl) dX8_takeSizes_135 (fun H locs g_29 f_30 fr_31 hP hS => ?_)
                have f_30 : g_29 (2 * t) = .inr (11, [.ref (ad (2 * t + 1)), .int (nI (z - 1)), .int (nI nt9)]) := f_30
                refine lv_goto (tgt := 107) hx hb dX8_takeSizes_138 (by decide) ?_
                exact ih_15 (z - 1) g_29 (fun (k : Nat) (hk : k ≠ 2 * t) => (fr_31 k (by omega)).trans ((fr_17 k (by omega)).trans (rfl))) (by omega) (by omega) f_30 _ _ _ hP hS (lv_sub (l' := [(0, .ref (ad (2 * t)))]) hl [0] rfl)
        exact loop_14 _ rm g_11 (fun (k : Nat) (hk : k ≠ 2 * t) => rfl) (Nat.lt_succ_self _) (by omega) f_12 _ _ _ hP hS (lv_sub (l' := [(0, .ref (ad (2 * t)))]) hl [0] rfl)
      · have c_9 := mt (nI_leI (a := rm) (b := i) (by omega) (by omega)).mpr c_9
        have loop_32 : ∀ (b2 : Int64) (f2 : Nat → Int32) (g_34 : Nat → va_E) (fr_35 : ∀ k, (k ≠ 2 * t + 1) → g_34 k = g_6 k), (g_34 (2 * t + 1) = .inl (cA (2 * t + 1), mt9, .inl f2)) → ∀ (H : Heap) (locs : List Loc) (ls : Array Slot), va_P (dC, dI) vwCl (wo ad NSc g_34) H → va_S A s.heap H locs → lv_has ls 10 [(0, .ref (ad (2 * t))), (1, .ref (ad (2 * x))), (2, .ref (ad (2 * y))), (3, .int (nI rm)), (4, .int (nI sy9)), (7, .int (nI i))] → W p l e (headSpec wd_X8_take3 ({ frames := 10, cells := 0, slots := 0, locals := 200 })).room s m ([.ref (ad (2 * t)), .ref (ad (2 * x)), .ref (ad (2 * y))] : List Value).toArray below meth c H locs (0) (0) (MQ below (va_Qv (fun (u : Nat → va_E) => match u with | g2 => (∀ k, k ≠ 2 * t ∧ k ≠ 2 * t + 1 → g2 k = g k) ∧ AW ad cA g2) (fun (u : Nat → va_E) (t : State) => va_P (dC, dI) vwCl (wo ad NSc u) t.heap) A) ([.ref (ad (2 * t)), .ref (ad (2 * x)), .ref (ad (2 * y))] : List Value).toArray s (0) (0) A) (F0 m 94 ls [.long b2]) := by
          intro b2 f2 g_34 fr_35 f_36 H locs ls hP hS hl
          refine lv_lstore (lv' := [(5, .long b2), (0, .ref (ad (2 * t))), (1, .ref (ad (2 * x))), (2, .ref (ad (2 * y))), (3, .int (nI rm)), (4, .int (nI sy9)), (7, .int (nI i))]) hx hb dX8_takeSizes_94 hl (by decide) rfl (fun ls hl => ?_)
          refine lv_iinc (v := nI (i + 1)) (lv' := [(7, .int (nI (i + 1))), (5, .long b2), (0, .ref (ad (2 * t))), (1, .ref (ad (2 * x))), (2, .ref (ad (2 * y))), (3, .int (nI rm)), (4, .int (nI sy9))]) hx hb dX8_takeSizes_96 hl (k := 6) rfl (nI_add i 1) (by decide) rfl (fun ls hl => ?_)
          refine lv_goto (tgt := 25) hx hb dX8_takeSizes_99 (by decide) ?_
          exact ih_5 (i + 1) f2 b2 g_34 (fun (k : Nat) (hk : k ≠ 2 * t + 1) => (fr_35 k (by omega)).trans ((fr_7 k (by omega)).trans (rfl))) (by omega) (by omega) f_36 _ _ _ hP hS (lv_sub (l' := [(0, .ref (ad (2 * t))), (1, .ref (ad (2 * x))), (2, .ref (ad (2 * y))), (3, .int (nI rm)), (4, .int (nI sy9)), (5, .long b2), (7, .int (nI (i + 1)))]) hl [2, 3, 4, 5, 6, 1, 0] rfl)
        have loop_39 : ∀ (p2 : Int64) (p1 : Int64), ∀ (H : Heap) (locs : List Loc) (ls : Array Slot), va_P (dC, dI) vwCl (wo ad NSc g_6) H → va_S A s.heap H locs → lv_has ls 10 [(0, .ref (ad (2 * t))), (1, .ref (ad (2 * x))), (2, .ref (ad (2 * y))), (3, .int (nI rm)), (4, .int (nI sy9)), (5, .long bo), (7, .int (nI i))] → W p l e (headSpec wd_X8_take3 ({ frames := 10, cells := 0, slots := 0, locals := 200 })).room s m ([.ref (ad (2 * t)), .ref (ad (2 * x)), .ref (ad (2 * y))] : List Value).toArray below meth c H locs (0) (0) (MQ below (va_Qv (fun (u : Nat → va_E) => match u with | g2 => (∀ k, k ≠ 2 * t ∧ k ≠ 2 * t + 1 → g2 k = g k) ∧ AW ad cA g2) (fun (u : Nat → va_E) (t : State) => va_P (dC, dI) vwCl (wo ad NSc u) t.heap) A) ([.ref (ad (2 * t)), .ref (ad (2 * x)), .ref (ad (2 * y))] : List Value).toArray s (0) (0) A) (F0 m 66 ls [.long p2, .long p1]) := by
          intro p2 p1  H locs ls hP hS hl
          refine lv_lsub hx hb dX8_takeSizes_66 ?_
          refine lv_topl (fun y_43 e_44 => ?_)
          refine lv_lload hx hb dX8_takeSizes_67 (lv_at hl 5 rfl) ?_
          refine lv_lsub hx hb dX8_takeSizes_69 ?_
          refine lv_topl (fun y_45 e_46 => ?_)
          refine lv_lstore (lv' := [(8, .long y_45), (0, .ref (ad (2 * t))), (1, .ref (ad (2 * x))), (2, .ref (ad (2 * y))), (3, .int (nI rm)), (4, .int (nI sy9)), (5, .long bo), (7, .int (nI i))]) hx hb dX8_takeSizes_70 hl (by decide) rfl (fun ls hl => ?_)
          refine lv_aload_n hx hb dX8_takeSizes_72 rfl (lv_at hl 1 rfl) ?_
          have f_47 : g_6 (2 * t) = .inr (11, [.ref (ad (2 * t + 1)), .int (nI st9), .int (nI nt9)]) := (fr_7 (2 * t) (by omega)).trans at9
          refine m_get (D := (dC, dI)) (v := .ref (ad (2 * t + 1))) (C := RX8) (T := TX8) (N := 3) hx hb hts bk0 hown hK hP (2 * t) (ns_w (by omega)) f_47 rfl 0 (by decide) (hts (.fieldLink RX8 9 "GradientDesk$Whole" "words" "[I") (List.mem_of_getElem? (i := 1) rfl)) (fun _ h9 => h9) rfl dX8_takeSizes_73 ?_
          refine lv_iload hx hb dX8_takeSizes_76 (lv_at hl 7 rfl) ?_
          refine lv_lload hx hb dX8_takeSizes_78 (lv_at hl 0 rfl) ?_
          refine lv_l2i hx hb dX8_takeSizes_80 rfl ?_
          refine lv_topi (fun x_48 e_49 => ?_)
          refine m_iast hx hb hK hP hD hS (2 * t + 1) (ns_w (by omega)) (tyc_w (by omega)) f_8 (i := i) (x := x_48) (by omega) (by omega) dX8_takeSizes_81 (fun H locs g_50 f_51 fr_52 hP hS => ?_)
          have f_51 : g_50 (2 * t + 1) = .inl (cA (2 * t + 1), mt9, .inl (upd ff i x_48)) := f_51
          refine lv_lload hx hb dX8_takeSizes_82 (lv_at hl 0 rfl) ?_
          refine lv_lconst (v := lN 0) hx hb dX8_takeSizes_84 (by decide +kernel) ?_
          refine W.lcmp hx hb dX8_takeSizes_85 ?_
          refine lv_if_ge (tgt := 93) hx hb dX8_takeSizes_86 (by decide) (fun c_53 => ?_) (fun c_53 => ?_)
          · clear c_53
            refine lv_lconst (v := lN 0) hx hb dX8_takeSizes_93 (by decide +kernel) ?_
            exact loop_32 (lN 0) (upd ff i x_48) g_50 (fun (k : Nat) (hk : k ≠ 2 * t + 1) => (fr_52 k (by omega)).trans (rfl)) f_51 _ _ _ hP hS (lv_sub (l' := [(0, .ref (ad (2 * t))), (1, .ref (ad (2 * x))), (2, .ref (ad (2 * y))), (3, .int (nI rm)), (4, .int (nI sy9)), (7, .int (nI i))]) hl [1, 2, 3, 4, 5, 7] rfl)
          · clear c_53
            refine lv_lconst (v := lN 1) hx hb dX8_takeSizes_89 (by decide +kernel) ?_
            refine lv_goto (tgt := 94) hx hb dX8_takeSizes_90 (by decide) ?_
            exact loop_32 (lN 1) (upd ff i x_48) g_50 (fun (k : Nat) (hk : k ≠ 2 * t + 1) => (fr_52 k (by omega)).trans (rfl)) f_51 _ _ _ hP hS (lv_sub (l' := [(0, .ref (ad (2 * t))), (1, .ref (ad (2 * x))), (2, .ref (ad (2 * y))), (3, .int (nI rm)), (4, .int (nI sy9)), (7, .int (nI i))]) hl [1, 2, 3, 4, 5, 7] rfl)
        refine lv_aload_n hx hb dX8_takeSizes_31 rfl (lv_at hl 1 rfl) ?_
        have f_54 : g_6 (2 * x) = .inr (11, [.ref (ad (2 * x + 1)), .int (nI sx9), .int (nI nx9)]) := (fr_7 (2 * x) (by omega)).trans ax9
        refine m_get (D := (dC, dI)) (v := .ref (ad (2 * x + 1))) (C := RX8) (T := TX8) (N := 3) hx hb hts bk0 hown hK hP (2 * x) (ns_w (by omega)) f_54 rfl 0 (by decide) (hts (.fieldLink RX8 9 "GradientDesk$Whole" "words" "[I") (List.mem_of_getElem? (i := 1) rfl)) (fun _ h9 => h9) rfl dX8_takeSizes_32 ?_
        refine lv_iload hx hb dX8_takeSizes_35 (lv_at hl 6 rfl) ?_
        have f_55 : g_6 (2 * x + 1) = .inl (cA (2 * x + 1), mx9, .inl fx9) := (fr_7 (2 * x + 1) (by omega)).trans bx9
        refine m_iald hx hb hK hP (2 * x + 1) (ns_w (by omega)) (tyc_w (by omega)) f_55 (i := i) (by omega) (by omega) dX8_takeSizes_37 ?_
        refine lv_topi (fun x_56 e_57 => ?_)
        refine lv_i2l hx hb dX8_takeSizes_38 rfl ?_
        refine lv_topl (fun y_58 e_59 => ?_)
        refine lv_ldc2 (v := 4294967295) hx hb hown (hts (.constantLong RX8 48 (4294967295)) (List.mem_of_getElem? (i := 7) rfl)) dX8_takeSizes_39 ?_
        refine lv_topl (fun y_60 e_61 => ?_)
        obtain rfl : y_60 = lN 4294967295 := e_61
        refine lv_land hx hb dX8_takeSizes_42 ?_
        refine lv_topl (fun y_62 e_63 => ?_)
        refine lv_iload hx hb dX8_takeSizes_43 (lv_at hl 6 rfl) ?_
        refine lv_iload hx hb dX8_takeSizes_45 (lv_at hl 4 rfl) ?_
        refine lv_icmp_ge (tgt := 65) hx hb dX8_takeSizes_47 (by decide) (fun c_64 => ?_) (fun c_64 => ?_)
        · have c_64 := (nI_leI (a := sy9) (b := i) (by omega) (by omega)).mp c_64
          refine lv_lconst (v := lN 0) hx hb dX8_takeSizes_65 (by decide +kernel) ?_
          exact loop_39 (lN 0) y_62  _ _ _ hP hS (lv_sub (l' := [(0, .ref (ad (2 * t))), (1, .ref (ad (2 * x))), (2, .ref (ad (2 * y))), (3, .int (nI rm)), (4, .int (nI sy9)), (5, .long bo), (7, .int (nI i))]) hl [0, 1, 2, 3, 4, 5, 6] rfl)
        · have c_64 := mt (nI_leI (a := sy9) (b := i) (by omega) (by omega)).mpr c_64
          refine lv_aload_n hx hb dX8_takeSizes_50 rfl (lv_at hl 2 rfl) ?_
          have f_65 : g_6 (2 * y) = .inr (11, [.ref (ad (2 * y + 1)), .int (nI sy9), .int (nI ny9)]) := (fr_7 (2 * y) (by omega)).trans ay9
          refine m_get (D := (dC, dI)) (v := .ref (ad (2 * y + 1))) (C := RX8) (T := TX8) (N := 3) hx hb hts bk0 hown hK hP (2 * y) (ns_w (by omega)) f_65 rfl 0 (by decide) (hts (.fieldLink RX8 9 "GradientDesk$Whole" "words" "[I") (List.mem_of_getElem? (i := 1) rfl)) (fun _ h9 => h9) rfl dX8_takeSizes_51 ?_
          refine lv_iload hx hb dX8_takeSizes_54 (lv_at hl 6 rfl) ?_
          have f_66 : g_6 (2 * y + 1) = .inl (cA (2 * y + 1), my9, .inl fy9) := (fr_7 (2 * y + 1) (by omega)).trans by9
          refine m_iald hx hb hK hP (2 * y + 1) (ns_w (by omega)) (tyc_w (by omega)) f_66 (i := i) (by omega) (by omega) dX8_takeSizes_56 ?_
          refine lv_topi (fun x_67 e_68 => ?_)
          refine lv_i2l hx hb dX8_takeSizes_57 rfl ?_
          refine lv_topl (fun y_69 e_70 => ?_)
          refine lv_ldc2 (v := 4294967295) hx hb hown (hts (.constantLong RX8 48 (4294967295)) (List.mem_of_getElem? (i := 7) rfl)) dX8_takeSizes_58 ?_
          refine lv_topl (fun y_71 e_72 => ?_)
          obtain rfl : y_71 = lN 4294967295 := e_72
          refine lv_land hx hb dX8_takeSizes_61 ?_
          refine lv_topl (fun y_73 e_74 => ?_)
          refine lv_goto (tgt := 66) hx hb dX8_takeSizes_62 (by decide) ?_
          exact loop_39 y_73 y_62  _ _ _ hP hS (lv_sub (l' := [(0, .ref (ad (2 * t))), (1, .ref (ad (2 * x))), (2, .ref (ad (2 * y))), (3, .int (nI rm)), (4, .int (nI sy9)), (5, .long bo), (7, .int (nI i))]) hl [0, 1, 2, 3, 4, 5, 6] rfl)
  exact loop_4 _ 0 ft9 (lN 0) g (fun (k : Nat) (hk : k ≠ 2 * t + 1) => rfl) (Nat.lt_succ_self _) (by omega) bt9 _ _ _ hP hS (lv_sub (l' := [(0, .ref (ad (2 * t))), (1, .ref (ad (2 * x))), (2, .ref (ad (2 * y))), (3, .int (nI rm)), (4, .int (nI sy9)), (5, .long (lN 0)), (7, .int (nI 0))]) hl [4, 5, 6, 3, 2, 1, 0] rfl)
def wd_X8_take2 : List Cond := .code yX8_takeSizes cX8_takeSizes 10 none :: (([.fieldLink RX8 9 "GradientDesk$Whole" "words" "[I", .fieldLink RX8 15 "GradientDesk$Whole" "size" "I", .methodLink RX8 29 Lib.Math.min.name, .static Lib.Math.min.name, .initialized "java/lang/Math", .code Lib.Math.min.name Lib.Math.min.code 2 (some .int), .constantLong RX8 48 (4294967295)] : List Cond) ++ (u_ws RX8 TX8 3 ++ ([])))
theorem gw_X8_take2 : wd_X8_take2.all goodWord = true := k_allc rfl (k_all (by decide +kernel) (k_all (gu_X8) (rfl)))
set_option maxHeartbeats 4000000 in
set_option maxRecDepth 100000 in
theorem c_X8_take2 (l : Launch) (dC : Nat → ClassId) (dI : Nat → Nat → Nat) (A : Nat → Prop) (ad : Nat → Nat) (cA : Nat → ClassId) (g : Nat → va_E) (t : Nat) (y : Nat) (hAW : AW ad cA g) (it : t < 1038) (iy : y < 1038) (hty : t ≠ y) : Met l yX8_takeSizes wd_X8_take2 ({ frames := 10, cells := 0, slots := 0, locals := 200 }) (va_Pc [.ref (ad (2 * t)), .ref (ad (2 * t)), .ref (ad (2 * y))] (PR NSc tyc dC dI A ad cA g)) (va_Qv (fun (u : Nat → va_E) => match u with | g2 => (∀ k, k ≠ 2 * t ∧ k ≠ 2 * t + 1 → g2 k = g k) ∧ AW ad cA g2) (fun (u : Nat → va_E) (t : State) => va_P (dC, dI) vwCl (wo ad NSc u) t.heap) A) (0) (0) A := by
  refine Met.ofW (cc := cX8_takeSizes) (maxL := 10) (ret := none) (by decide) rfl ?_
  intro p e s m args below meth c s₁ B hml hv
  obtain ⟨rfl, hA, hP, hL⟩ := hv
  have hx := B.exec
  have hb := B.bytes
  have hr := B.returns
  have hts := atoms_spec (ws := wd_X8_take2) B.pre
  have hown : s.vm.findClass RX8 = some m.cls := findClass_of_methodNamed B.named
  have hlocks := B.notSynchronized
  have hK := hL.1
  have hD : ∀ g, va_D A (wo ad NSc g) := fun g => wo_D hL.2.1 hL.2.2 g
  have hS : va_S A s.heap s.heap [] := va_S.rf
  have bk0 : ∀ w ∈ u_ws RX8 TX8 3, w ∈ wd_X8_take2 := fun _ h => List.mem_cons_of_mem _ (List.mem_append_right _ (List.mem_append_left _ h))
  have hl := lv_entry ([.ref (ad (2 * t)), .ref (ad (2 * t)), .ref (ad (2 * y))]) (n := 10) (Nat.le_of_ble_eq_true rfl)
  rw [lg_entry_eq]
  generalize (lg_sl ([.ref (ad (2 * t)), .ref (ad (2 * t)), .ref (ad (2 * y))]) ++ List.replicate (10 - (lg_sl ([.ref (ad (2 * t)), .ref (ad (2 * t)), .ref (ad (2 * y))])).length) Slot.unset).toArray = ls at hl ⊢
  have hl : lv_has ls 10 [(0, .ref (ad (2 * t))), (1, .ref (ad (2 * t))), (2, .ref (ad (2 * y)))] := hl
  obtain ⟨mt9, st9, nt9, ft9, at9, bt9, ct9, dt9, et9⟩ := hAW t it
  have qt9 : mt9 ≤ 4096 := by rw [dt9]; exact rmc_le _
  obtain ⟨my9, sy9, ny9, fy9, ay9, by9, cy9, dy9, ey9⟩ := hAW y iy
  have qy9 : my9 ≤ 4096 := by rw [dy9]; exact rmc_le _
  refine lv_aload_n hx hb dX8_takeSizes_0 rfl (lv_at hl 0 rfl) ?_
  refine m_get (D := (dC, dI)) (v := .ref (ad (2 * t + 1))) (C := RX8) (T := TX8) (N := 3) hx hb hts bk0 hown hK hP (2 * t) (ns_w (by omega)) at9 rfl 0 (by decide) (hts (.fieldLink RX8 9 "GradientDesk$Whole" "words" "[I") (List.mem_of_getElem? (i := 1) rfl)) (fun _ h9 => h9) rfl dX8_takeSizes_1 ?_
  refine m_alen hx hb hK hP (2 * t + 1) (ns_w (by omega)) bt9 dX8_takeSizes_4 ?_
  refine lv_aload_n hx hb dX8_takeSizes_5 rfl (lv_at hl 1 rfl) ?_
  refine m_get (D := (dC, dI)) (v := .int (nI st9)) (C := RX8) (T := TX8) (N := 3) hx hb hts bk0 hown hK hP (2 * t) (ns_w (by omega)) at9 rfl 1 (by decide) (hts (.fieldLink RX8 15 "GradientDesk$Whole" "size" "I") (List.mem_of_getElem? (i := 2) rfl)) (fun _ h9 => h9) rfl dX8_takeSizes_6 ?_
  refine va_mmin hx hb (by rw [hml]; exact hl.1.symm) hown (hts (.methodLink RX8 29 Lib.Math.min.name) (List.mem_of_getElem? (i := 3) rfl)) (hts (.static Lib.Math.min.name) (List.mem_of_getElem? (i := 4) rfl)) (hts (.initialized "java/lang/Math") (List.mem_of_getElem? (i := 5) rfl)) (hts (.code Lib.Math.min.name Lib.Math.min.code 2 (some .int)) (List.mem_of_getElem? (i := 6) rfl)) (Nat.le_of_ble_eq_true rfl) (Nat.le_of_ble_eq_true rfl) (Nat.le_of_ble_eq_true rfl) (Nat.le_of_ble_eq_true rfl) dX8_takeSizes_9 ?_
  refine lv_topi (fun x_2 e_3 => ?_)
  obtain ⟨q_1, hq_1, eq_1⟩ : ∃ z : Nat, z = min mt9 st9 ∧ x_2 = nI z := ⟨_, rfl, by rw [e_3]; exact k_min (by omega) (by omega)⟩
  subst eq_1
  refine lv_istore_n (lv' := [(3, .int (nI q_1)), (0, .ref (ad (2 * t))), (1, .ref (ad (2 * t))), (2, .ref (ad (2 * y)))]) hx hb dX8_takeSizes_12 rfl hl (by decide) rfl (fun ls hl => ?_)
  refine lv_aload_n hx hb dX8_takeSizes_13 rfl (lv_at hl 3 rfl) ?_
  refine m_get (D := (dC, dI)) (v := .int (nI sy9)) (C := RX8) (T := TX8) (N := 3) hx hb hts bk0 hown hK hP (2 * y) (ns_w (by omega)) ay9 rfl 1 (by decide) (hts (.fieldLink RX8 15 "GradientDesk$Whole" "size" "I") (List.mem_of_getElem? (i := 2) rfl)) (fun _ h9 => h9) rfl dX8_takeSizes_14 ?_
  refine lv_istore (lv' := [(4, .int (nI sy9)), (3, .int (nI q_1)), (0, .ref (ad (2 * t))), (1, .ref (ad (2 * t))), (2, .ref (ad (2 * y)))]) hx hb dX8_takeSizes_17 hl (by decide) rfl (fun ls hl => ?_)
  obtain ⟨rm, hrm⟩ : ∃ z, z = q_1 := ⟨_, rfl⟩
  rw [← hrm] at hl
  refine lv_lconst (v := lN 0) hx hb dX8_takeSizes_19 (by decide +kernel) ?_
  refine lv_lstore (lv' := [(5, .long (lN 0)), (4, .int (nI sy9)), (3, .int (nI rm)), (0, .ref (ad (2 * t))), (1, .ref (ad (2 * t))), (2, .ref (ad (2 * y)))]) hx hb dX8_takeSizes_20 hl (by decide) rfl (fun ls hl => ?_)
  refine lv_iconst (v := nI 0) hx hb dX8_takeSizes_22 (by decide +kernel) ?_
  refine lv_istore (lv' := [(7, .int (nI 0)), (5, .long (lN 0)), (4, .int (nI sy9)), (3, .int (nI rm)), (0, .ref (ad (2 * t))), (1, .ref (ad (2 * t))), (2, .ref (ad (2 * y)))]) hx hb dX8_takeSizes_23 hl (by decide) rfl (fun ls hl => ?_)
  have loop_4 : ∀ (k9 : Nat) (i : Nat) (ff : Nat → Int32) (bo : Int64) (g_6 : Nat → va_E) (fr_7 : ∀ k, (k ≠ 2 * t + 1) → g_6 k = g k), 4096 - i < k9 → (i ≤ 4096) → (g_6 (2 * t + 1) = .inl (cA (2 * t + 1), mt9, .inl ff)) → ∀ (H : Heap) (locs : List Loc) (ls : Array Slot), va_P (dC, dI) vwCl (wo ad NSc g_6) H → va_S A s.heap H locs → lv_has ls 10 [(0, .ref (ad (2 * t))), (1, .ref (ad (2 * t))), (2, .ref (ad (2 * y))), (3, .int (nI rm)), (4, .int (nI sy9)), (5, .long bo), (7, .int (nI i))] → W p l e (headSpec wd_X8_take2 ({ frames := 10, cells := 0, slots := 0, locals := 200 })).room s m ([.ref (ad (2 * t)), .ref (ad (2 * t)), .ref (ad (2 * y))] : List Value).toArray below meth c H locs (0) (0) (MQ below (va_Qv (fun (u : Nat → va_E) => match u with | g2 => (∀ k, k ≠ 2 * t ∧ k ≠ 2 * t + 1 → g2 k = g k) ∧ AW ad cA g2) (fun (u : Nat → va_E) (t : State) => va_P (dC, dI) vwCl (wo ad NSc u) t.heap) A) ([.ref (ad (2 * t)), .ref (ad (2 * t)), .ref (ad (2 * y))] : List Value).toArray s (0) (0) A) (F0 m 25 ls []) := by
    intro k9
    induction k9 with
    | zero => intro i ff bo g_6 fr_7 h9; exact absurd h9 (Nat.not_lt_zero _)
    | succ k9 ih_5 =>
      intro i ff bo g_6 fr_7 h9 hi f_8 H locs ls hP hS hl
      refine lv_iload hx hb dX8_takeSizes_25 (lv_at hl 6 rfl) ?_
      refine lv_iload_n hx hb dX8_takeSizes_27 rfl (lv_at hl 3 rfl) ?_
      refine lv_icmp_ge (tgt := 102) hx hb dX8_takeSizes_28 (by decide) (fun c_9 => ?_) (fun c_9 => ?_)
      · have c_9 := (nI_leI (a := rm) (b := i) (by omega) (by omega)).mp c_9
        refine lv_aload_n hx hb dX8_takeSizes_102 rfl (lv_at hl 0 rfl) ?_
        refine lv_iload_n hx hb dX8_takeSizes_103 rfl (lv_at hl 3 rfl) ?_
        have f_10 : g_6 (2 * t) = .inr (11, [.ref (ad (2 * t + 1)), .int (nI st9), .int (nI nt9)]) := (fr_7 (2 * t) (by omega)).trans at9
        refine m_put (D := (dC, dI)) (v := .int (nI rm)) (tv := .int) (C := RX8) (T := TX8) (N := 3) hx hb hts bk0 tyX8 tyX8_ok nmX8 hown hK hP hD hS (2 * t) (ns_w (by omega)) f_10 rfl 1 (by decide) (hts (.fieldLink RX8 15 "GradientDesk$Whole" "size" "I") (List.mem_of_getElem? (i := 2) rfl)) (fun _ h9 => h9) rfl (by decide +kernel) rfl rfl (Nat.le_of_ble_eq_true rfl) dX8_takeSizes_104 (fun H locs g_11 f_12 fr_13 hP hS => ?_)
        have f_12 : g_11 (2 * t) = .inr (11, [.ref (ad (2 * t + 1)), .int (nI rm), .int (nI nt9)]) := f_12
        have loop_14 : ∀ (k9 : Nat) (z : Nat) (g_16 : Nat → va_E) (fr_17 : ∀ k, (k ≠ 2 * t) → g_16 k = g_11 k), z < k9 → (z ≤ mt9) → (g_16 (2 * t) = .inr (11, [.ref (ad (2 * t + 1)), .int (nI z), .int (nI nt9)])) → ∀ (H : Heap) (locs : List Loc) (ls : Array Slot), va_P (dC, dI) vwCl (wo ad NSc g_16) H → va_S A s.heap H locs → lv_has ls 10 [(0, .ref (ad (2 * t)))] → W p l e (headSpec wd_X8_take2 ({ frames := 10, cells := 0, slots := 0, locals := 200 })).room s m ([.ref (ad (2 * t)), .ref (ad (2 * t)), .ref (ad (2 * y))] : List Value).toArray below meth c H locs (0) (0) (MQ below (va_Qv (fun (u : Nat → va_E) => match u with | g2 => (∀ k, k ≠ 2 * t ∧ k ≠ 2 * t + 1 → g2 k = g k) ∧ AW ad cA g2) (fun (u : Nat → va_E) (t : State) => va_P (dC, dI) vwCl (wo ad NSc u) t.heap) A) ([.ref (ad (2 * t)), .ref (ad (2 * t)), .ref (ad (2 * y))] : List Value).toArray s (0) (0) A) (F0 m 107 ls []) := by
          intro k9
          induction k9 with
          | zero => intro z g_16 fr_17 h9; exact absurd h9 (Nat.not_lt_zero _)
          | succ k9 ih_15 =>
            intro z g_16 fr_17 h9 hz f_18 H locs ls hP hS hl
            refine lv_aload_n hx hb dX8_takeSizes_107 rfl (lv_at hl 0 rfl) ?_
            refine m_get (D := (dC, dI)) (v := .int (nI z)) (C := RX8) (T := TX8) (N := 3) hx hb hts bk0 hown hK hP (2 * t) (ns_w (by omega)) f_18 rfl 1 (by decide) (hts (.fieldLink RX8 15 "GradientDesk$Whole" "size" "I") (List.mem_of_getElem? (i := 2) rfl)) (fun _ h9 => h9) rfl dX8_takeSizes_108 ?_
            refine lv_if_le (tgt := 141) hx hb dX8_takeSizes_111 (by decide) (fun c_19 => ?_) (fun c_19 => ?_)
            · have c_19 := (nI_leI (a := z) (b := 0) (by omega) (by decide)).mp c_19
              have f_20 : g_16 (2 * t + 1) = .inl (cA (2 * t + 1), mt9, .inl ff) := (fr_17 (2 * t + 1) (by omega)).trans ((fr_13 (2 * t + 1) (by omega)).trans f_8)
              refine W.widen (k := 0) (n := 0) (by omega) (by omega) ?_
              exact W.vret hx hb hr (fun t9 ht9 hW9 => ⟨⟨g_16, rfl, ⟨(fun (k : Nat) (hk : k ≠ 2 * t ∧ k ≠ 2 * t + 1) => (fr_17 k (by omega)).trans ((fr_13 k (by omega)).trans ((fr_7 k (by omega)).trans (rfl)))), AW.put (t := t) hAW (fun (k : Nat) (hk : k ≠ 2 * t ∧ k ≠ 2 * t + 1) => (fr_17 k (by omega)).trans ((fr_13 k (by omega)).trans ((fr_7 k (by omega)).trans (rfl)))) ⟨f_18, f_20, by omega, by omega, by omega⟩⟩, by show va_P (dC, dI) vwCl _ t9.heap; rw [ht9]; exact hP⟩, hS.F ht9⟩) hS.2.2 dX8_takeSizes_141
            · have c_19 := mt (nI_leI (a := z) (b := 0) (by omega) (by decide)).mpr c_19
              refine lv_aload_n hx hb dX8_takeSizes_114 rfl (lv_at hl 0 rfl) ?_
              refine m_get (D := (dC, dI)) (v := .ref (ad (2 * t + 1))) (C := RX8) (T := TX8) (N := 3) hx hb hts bk0 hown hK hP (2 * t) (ns_w (by omega)) f_18 rfl 0 (by decide) (hts (.fieldLink RX8 9 "GradientDesk$Whole" "words" "[I") (List.mem_of_getElem? (i := 1) rfl)) (fun _ h9 => h9) rfl dX8_takeSizes_115 ?_
              refine lv_aload_n hx hb dX8_takeSizes_118 rfl (lv_at hl 0 rfl) ?_
              refine m_get (D := (dC, dI)) (v := .int (nI z)) (C := RX8) (T := TX8) (N := 3) hx hb hts bk0 hown hK hP (2 * t) (ns_w (by omega)) f_18 rfl 1 (by decide) (hts (.fieldLink RX8 15 "GradientDesk$Whole" "size" "I") (List.mem_of_getElem? (i := 2) rfl)) (fun _ h9 => h9) rfl dX8_takeSizes_119 ?_
              refine lv_iconst (v := nI 1) hx hb dX8_takeSizes_122 (by decide +kernel) ?_
              refine lv_isub hx hb dX8_takeSizes_123 ?_
              refine lv_topi (fun x_21 e_22 => ?_)
              obtain rfl : x_21 = nI (z - 1) := e_22.trans (pk_sub (show 1 ≤ z by omega))
              have f_23 : g_16 (2 * t + 1) = .inl (cA (2 * t + 1), mt9, .inl ff) := (fr_17 (2 * t + 1) (by omega)).trans ((fr_13 (2 * t + 1) (by omega)).trans f_8)
              refine m_iald hx hb hK hP (2 * t + 1) (ns_w (by omega)) (tyc_w (by omega)) f_23 (i := z - 1) (by omega) (by omega) dX8_takeSizes_124 ?_
              refine lv_topi (fun x_24 e_25 => ?_)
              refine lv_if_ne (tgt := 141) hx hb dX8_takeSizes_125 (by decide) (fun c_26 => ?_) (fun c_26 => ?_)
              · clear c_26
                refine W.widen (k := 0) (n := 0) (by omega) (by omega) ?_
                exact W.vret hx hb hr (fun t9 ht9 hW9 => ⟨⟨g_16, rfl, ⟨(fun (k : Nat) (hk : k ≠ 2 * t ∧ k ≠ 2 * t + 1) => (fr_17 k (by omega)).trans ((fr_13 k (by omega)).trans ((fr_7 k (by omega)).trans (rfl)))), AW.put (t := t) hAW (fun (k : Nat) (hk : k ≠ 2 * t ∧ k ≠ 2 * t + 1) => (fr_17 k (by omega)).trans ((fr_13 k (by omega)).trans ((fr_7 k (by omega)).trans (rfl)))) ⟨f_18, f_23, by omega, by omega, by omega⟩⟩, by show va_P (dC, dI) vwCl _ t9.heap; rw [ht9]; exact hP⟩, hS.F ht9⟩) hS.2.2 dX8_takeSizes_141
              · clear c_26
                refine lv_aload_n hx hb dX8_takeSizes_128 rfl (lv_at hl 0 rfl) ?_
                refine lv_dup hx hb dX8_takeSizes_129 rfl ?_
                refine m_get (D := (dC, dI)) (v := .int (nI z)) (C := RX8) (T := TX8) (N := 3) hx hb hts bk0 hown hK hP (2 * t) (ns_w (by omega)) f_18 rfl 1 (by decide) (hts (.fieldLink RX8 15 "GradientDesk$Whole" "size" "I") (List.mem_of_getElem? (i := 2) rfl)) (fun _ h9 => h9) rfl dX8_takeSizes_130 ?_
                refine lv_iconst (v := nI 1) hx hb dX8_takeSizes_133 (by decide +kernel) ?_
                refine lv_isub hx hb dX8_takeSizes_134 ?_
                refine lv_topi (fun x_27 e_28 => ?_)
                obtain rfl : x_27 = nI (z - 1) := e_28.trans (pk_sub (show 1 ≤ z by omega))
                refine m_put (D := (dC, dI)) (v := .int (nI (z - 1))) (tv := .int) (C := RX8) (T := TX8) (N := 3) hx hb hts bk0 tyX8 tyX8_ok nmX8 hown hK hP hD hS (2 * t) (ns_w (by omega)) f_18 rfl 1 (by decide) (hts (.fieldLink RX8 15 "GradientDesk$Whole" "size" "I") (List.mem_of_getElem? (i := 2) rfl)) (fun _ h9 => h9) rfl (by decide +kernel) rfl rfl (Nat.le_of_ble_eq_true rfl) dX8_takeSizes_135 (fun H locs g_29 f_30 fr_31 hP hS => ?_)
                have f_30 : g_29 (2 * t) = .inr (11, [.ref (ad (2 * t + 1)), .int (nI (z - 1)), .int (nI nt9)]) := f_30
                refine lv_goto (tgt := 107) hx hb dX8_takeSizes_138 (by decide) ?_
                exact ih_15 (z - 1) g_29 (fun (k : Nat) (hk : k ≠ 2 * t) => (fr_31 k (by omega)).trans ((fr_17 k (by omega)).trans (rfl))) (by omega) (by omega) f_30 _ _ _ hP hS (lv_sub (l' := [(0, .ref (ad (2 * t)))]) hl [0] rfl)
        exact loop_14 _ rm g_11 (fun (k : Nat) (hk : k ≠ 2 * t) => rfl) (Nat.lt_succ_self _) (by omega) f_12 _ _ _ hP hS (lv_sub (l' := [(0, .ref (ad (2 * t)))]) hl [0] rfl)
      · have c_9 := mt (nI_leI (a := rm) (b := i) (by omega) (by omega)).mpr c_9
        have loop_32 : ∀ (b2 : Int64) (f2 : Nat → Int32) (g_34 : Nat → va_E) (fr_35 : ∀ k, (k ≠ 2 * t + 1) → g_34 k = g_6 k), (g_34 (2 * t + 1) = .inl (cA (2 * t + 1), mt9, .inl f2)) → ∀ (H : Heap) (locs : List Loc) (ls : Array Slot), va_P (dC, dI) vwCl (wo ad NSc g_34) H → va_S A s.heap H locs → lv_has ls 10 [(0, .ref (ad (2 * t))), (1, .ref (ad (2 * t))), (2, .ref (ad (2 * y))), (3, .int (nI rm)), (4, .int (nI sy9)), (7, .int (nI i))] → W p l e (headSpec wd_X8_take2 ({ frames := 10, cells := 0, slots := 0, locals := 200 })).room s m ([.ref (ad (2 * t)), .ref (ad (2 * t)), .ref (ad (2 * y))] : List Value).toArray below meth c H locs (0) (0) (MQ below (va_Qv (fun (u : Nat → va_E) => match u with | g2 => (∀ k, k ≠ 2 * t ∧ k ≠ 2 * t + 1 → g2 k = g k) ∧ AW ad cA g2) (fun (u : Nat → va_E) (t : State) => va_P (dC, dI) vwCl (wo ad NSc u) t.heap) A) ([.ref (ad (2 * t)), .ref (ad (2 * t)), .ref (ad (2 * y))] : List Value).toArray s (0) (0) A) (F0 m 94 ls [.long b2]) := by
          intro b2 f2 g_34 fr_35 f_36 H locs ls hP hS hl
          refine lv_lstore (lv' := [(5, .long b2), (0, .ref (ad (2 * t))), (1, .ref (ad (2 * t))), (2, .ref (ad (2 * y))), (3, .int (nI rm)), (4, .int (nI sy9)), (7, .int (nI i))]) hx hb dX8_takeSizes_94 hl (by decide) rfl (fun ls hl => ?_)
          refine lv_iinc (v := nI (i + 1)) (lv' := [(7, .int (nI (i + 1))), (5, .long b2), (0, .ref (ad (2 * t))), (1, .ref (ad (2 * t))), (2, .ref (ad (2 * y))), (3, .int (nI rm)), (4, .int (nI sy9))]) hx hb dX8_takeSizes_96 hl (k := 6) rfl (nI_add i 1) (by decide) rfl (fun ls hl => ?_)
          refine lv_goto (tgt := 25) hx hb dX8_takeSizes_99 (by decide) ?_
          exact ih_5 (i + 1) f2 b2 g_34 (fun (k : Nat) (hk : k ≠ 2 * t + 1) => (fr_35 k (by omega)).trans ((fr_7 k (by omega)).trans (rfl))) (by omega) (by omega) f_36 _ _ _ hP hS (lv_sub (l' := [(0, .ref (ad (2 * t))), (1, .ref (ad (2 * t))), (2, .ref (ad (2 * y))), (3, .int (nI rm)), (4, .int (nI sy9)), (5, .long b2), (7, .int (nI (i + 1)))]) hl [2, 3, 4, 5, 6, 1, 0] rfl)
        have loop_39 : ∀ (p2 : Int64) (p1 : Int64), ∀ (H : Heap) (locs : List Loc) (ls : Array Slot), va_P (dC, dI) vwCl (wo ad NSc g_6) H → va_S A s.heap H locs → lv_has ls 10 [(0, .ref (ad (2 * t))), (1, .ref (ad (2 * t))), (2, .ref (ad (2 * y))), (3, .int (nI rm)), (4, .int (nI sy9)), (5, .long bo), (7, .int (nI i))] → W p l e (headSpec wd_X8_take2 ({ frames := 10, cells := 0, slots := 0, locals := 200 })).room s m ([.ref (ad (2 * t)), .ref (ad (2 * t)), .ref (ad (2 * y))] : List Value).toArray below meth c H locs (0) (0) (MQ below (va_Qv (fun (u : Nat → va_E) => match u with | g2 => (∀ k, k ≠ 2 * t ∧ k ≠ 2 * t + 1 → g2 k = g k) ∧ AW ad cA g2) (fun (u : Nat → va_E) (t : State) => va_P (dC, dI) vwCl (wo ad NSc u) t.heap) A) ([.ref (ad (2 * t)), .ref (ad (2 * t)), .ref (ad (2 * y))] : List Value).toArray s (0) (0) A) (F0 m 66 ls [.long p2, .long p1]) := by
          intro p2 p1  H locs ls hP hS hl
          refine lv_lsub hx hb dX8_takeSizes_66 ?_
          refine lv_topl (fun y_43 e_44 => ?_)
          refine lv_lload hx hb dX8_takeSizes_67 (lv_at hl 5 rfl) ?_
          refine lv_lsub hx hb dX8_takeSizes_69 ?_
          refine lv_topl (fun y_45 e_46 => ?_)
          refine lv_lstore (lv' := [(8, .long y_45), (0, .ref (ad (2 * t))), (1, .ref (ad (2 * t))), (2, .ref (ad (2 * y))), (3, .int (nI rm)), (4, .int (nI sy9)), (5, .long bo), (7, .int (nI i))]) hx hb dX8_takeSizes_70 hl (by decide) rfl (fun ls hl => ?_)
          refine lv_aload_n hx hb dX8_takeSizes_72 rfl (lv_at hl 1 rfl) ?_
          have f_47 : g_6 (2 * t) = .inr (11, [.ref (ad (2 * t + 1)), .int (nI st9), .int (nI nt9)]) := (fr_7 (2 * t) (by omega)).trans at9
          refine m_get (D := (dC, dI)) (v := .ref (ad (2 * t + 1))) (C := RX8) (T := TX8) (N := 3) hx hb hts bk0 hown hK hP (2 * t) (ns_w (by omega)) f_47 rfl 0 (by decide) (hts (.fieldLink RX8 9 "GradientDesk$Whole" "words" "[I") (List.mem_of_getElem? (i := 1) rfl)) (fun _ h9 => h9) rfl dX8_takeSizes_73 ?_
          refine lv_iload hx hb dX8_takeSizes_76 (lv_at hl 7 rfl) ?_
          refine lv_lload hx hb dX8_takeSizes_78 (lv_at hl 0 rfl) ?_
          refine lv_l2i hx hb dX8_takeSizes_80 rfl ?_
          refine lv_topi (fun x_48 e_49 => ?_)
          refine m_iast hx hb hK hP hD hS (2 * t + 1) (ns_w (by omega)) (tyc_w (by omega)) f_8 (i := i) (x := x_48) (by omega) (by omega) dX8_takeSizes_81 (fun H locs g_50 f_51 fr_52 hP hS => ?_)
          have f_51 : g_50 (2 * t + 1) = .inl (cA (2 * t + 1), mt9, .inl (upd ff i x_48)) := f_51
          refine lv_lload hx hb dX8_takeSizes_82 (lv_at hl 0 rfl) ?_
          refine lv_lconst (v := lN 0) hx hb dX8_takeSizes_84 (by decide +kernel) ?_
          refine W.lcmp hx hb dX8_takeSizes_85 ?_
          refine lv_if_ge (tgt := 93) hx hb dX8_takeSizes_86 (by decide) (fun c_53 => ?_) (fun c_53 => ?_)
          · clear c_53
            refine lv_lconst (v := lN 0) hx hb dX8_takeSizes_93 (by decide +kernel) ?_
            exact loop_32 (lN 0) (upd ff i x_48) g_50 (fun (k : Nat) (hk : k ≠ 2 * t + 1) => (fr_52 k (by omega)).trans (rfl)) f_51 _ _ _ hP hS (lv_sub (l' := [(0, .ref (ad (2 * t))), (1, .ref (ad (2 * t))), (2, .ref (ad (2 * y))), (3, .int (nI rm)), (4, .int (nI sy9)), (7, .int (nI i))]) hl [1, 2, 3, 4, 5, 7] rfl)
          · clear c_53
            refine lv_lconst (v := lN 1) hx hb dX8_takeSizes_89 (by decide +kernel) ?_
            refine lv_goto (tgt := 94) hx hb dX8_takeSizes_90 (by decide) ?_
            exact loop_32 (lN 1) (upd ff i x_48) g_50 (fun (k : Nat) (hk : k ≠ 2 * t + 1) => (fr_52 k (by omega)).trans (rfl)) f_51 _ _ _ hP hS (lv_sub (l' := [(0, .ref (ad (2 * t))), (1, .ref (ad (2 * t))), (2, .ref (ad (2 * y))), (3, .int (nI rm)), (4, .int (nI sy9)), (7, .int (nI i))]) hl [1, 2, 3, 4, 5, 7] rfl)
        refine lv_aload_n hx hb dX8_takeSizes_31 rfl (lv_at hl 1 rfl) ?_
        have f_54 : g_6 (2 * t) = .inr (11, [.ref (ad (2 * t + 1)), .int (nI st9), .int (nI nt9)]) := (fr_7 (2 * t) (by omega)).trans at9
        refine m_get (D := (dC, dI)) (v := .ref (ad (2 * t + 1))) (C := RX8) (T := TX8) (N := 3) hx hb hts bk0 hown hK hP (2 * t) (ns_w (by omega)) f_54 rfl 0 (by decide) (hts (.fieldLink RX8 9 "GradientDesk$Whole" "words" "[I") (List.mem_of_getElem? (i := 1) rfl)) (fun _ h9 => h9) rfl dX8_takeSizes_32 ?_
        refine lv_iload hx hb dX8_takeSizes_35 (lv_at hl 6 rfl) ?_
        refine m_iald hx hb hK hP (2 * t + 1) (ns_w (by omega)) (tyc_w (by omega)) f_8 (i := i) (by omega) (by omega) dX8_takeSizes_37 ?_
        refine lv_topi (fun x_55 e_56 => ?_)
        refine lv_i2l hx hb dX8_takeSizes_38 rfl ?_
        refine lv_topl (fun y_57 e_58 => ?_)
        refine lv_ldc2 (v := 4294967295) hx hb hown (hts (.constantLong RX8 48 (4294967295)) (List.mem_of_getElem? (i := 7) rfl)) dX8_takeSizes_39 ?_
        refine lv_topl (fun y_59 e_60 => ?_)
        obtain rfl : y_59 = lN 4294967295 := e_60
        refine lv_land hx hb dX8_takeSizes_42 ?_
        refine lv_topl (fun y_61 e_62 => ?_)
        refine lv_iload hx hb dX8_takeSizes_43 (lv_at hl 6 rfl) ?_
        refine lv_iload hx hb dX8_takeSizes_45 (lv_at hl 4 rfl) ?_
        refine lv_icmp_ge (tgt := 65) hx hb dX8_takeSizes_47 (by decide) (fun c_63 => ?_) (fun c_63 => ?_)
        · have c_63 := (nI_leI (a := sy9) (b := i) (by omega) (by omega)).mp c_63
          refine lv_lconst (v := lN 0) hx hb dX8_takeSizes_65 (by decide +kernel) ?_
          exact loop_39 (lN 0) y_61  _ _ _ hP hS (lv_sub (l' := [(0, .ref (ad (2 * t))), (1, .ref (ad (2 * t))), (2, .ref (ad (2 * y))), (3, .int (nI rm)), (4, .int (nI sy9)), (5, .long bo), (7, .int (nI i))]) hl [0, 1, 2, 3, 4, 5, 6] rfl)
        · have c_63 := mt (nI_leI (a := sy9) (b := i) (by omega) (by omega)).mpr c_63
          refine lv_aload_n hx hb dX8_takeSizes_50 rfl (lv_at hl 2 rfl) ?_
          have f_64 : g_6 (2 * y) = .inr (11, [.ref (ad (2 * y + 1)), .int (nI sy9), .int (nI ny9)]) := (fr_7 (2 * y) (by omega)).trans ay9
          refine m_get (D := (dC, dI)) (v := .ref (ad (2 * y + 1))) (C := RX8) (T := TX8) (N := 3) hx hb hts bk0 hown hK hP (2 * y) (ns_w (by omega)) f_64 rfl 0 (by decide) (hts (.fieldLink RX8 9 "GradientDesk$Whole" "words" "[I") (List.mem_of_getElem? (i := 1) rfl)) (fun _ h9 => h9) rfl dX8_takeSizes_51 ?_
          refine lv_iload hx hb dX8_takeSizes_54 (lv_at hl 6 rfl) ?_
          have f_65 : g_6 (2 * y + 1) = .inl (cA (2 * y + 1), my9, .inl fy9) := (fr_7 (2 * y + 1) (by omega)).trans by9
          refine m_iald hx hb hK hP (2 * y + 1) (ns_w (by omega)) (tyc_w (by omega)) f_65 (i := i) (by omega) (by omega) dX8_takeSizes_56 ?_
          refine lv_topi (fun x_66 e_67 => ?_)
          refine lv_i2l hx hb dX8_takeSizes_57 rfl ?_
          refine lv_topl (fun y_68 e_69 => ?_)
          refine lv_ldc2 (v := 4294967295) hx hb hown (hts (.constantLong RX8 48 (4294967295)) (List.mem_of_getElem? (i := 7) rfl)) dX8_takeSizes_58 ?_
          refine lv_topl (fun y_70 e_71 => ?_)
          obtain rfl : y_70 = lN 4294967295 := e_71
          refine lv_land hx hb dX8_takeSizes_61 ?_
          refine lv_topl (fun y_72 e_73 => ?_)
          refine lv_goto (tgt := 66) hx hb dX8_takeSizes_62 (by decide) ?_
          exact loop_39 y_72 y_61  _ _ _ hP hS (lv_sub (l' := [(0, .ref (ad (2 * t))), (1, .ref (ad (2 * t))), (2, .ref (ad (2 * y))), (3, .int (nI rm)), (4, .int (nI sy9)), (5, .long bo), (7, .int (nI i))]) hl [0, 1, 2, 3, 4, 5, 6] rfl)
  exact loop_4 _ 0 ft9 (lN 0) g (fun (k : Nat) (hk : k ≠ 2 * t + 1) => rfl) (Nat.lt_succ_self _) (by omega) bt9 _ _ _ hP hS (lv_sub (l' := [(0, .ref (ad (2 * t))), (1, .ref (ad (2 * t))), (2, .ref (ad (2 * y))), (3, .int (nI rm)), (4, .int (nI sy9)), (5, .long (lN 0)), (7, .int (nI 0))]) hl [4, 5, 6, 3, 2, 1, 0] rfl)
end
