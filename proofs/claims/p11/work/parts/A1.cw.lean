def wd_V8_isOne : List Cond := .code yX8_isOne cX8_isOne 1 (some .boolean) :: (([.fieldLink RX8 15 "GradientDesk$Whole" "size" "I", .fieldLink RX8 9 "GradientDesk$Whole" "words" "[I", .fieldLink RX8 19 "GradientDesk$Whole" "below" "Z"] : List Cond) ++ (u_ws RX8 TX8 3 ++ ([])))
theorem gw_V8_isOne : wd_V8_isOne.all goodWord = true := k_allc rfl (k_all (by decide +kernel) (k_all (gu_X8) (rfl)))
set_option maxHeartbeats 4000000 in
set_option maxRecDepth 100000 in
theorem c_V8_isOne (l : Launch) (dC : Nat → ClassId) (dI : Nat → Nat → Nat) (A : Nat → Prop) (ad : Nat → Nat) (cA : Nat → ClassId) (g : Nat → va_E) (t : Nat) (v : Int) (hAW : AW ad cA g) (it : t < 1038) (vt : WV ad cA g t v) : Met l yX8_isOne wd_V8_isOne ({ frames := 10, cells := 0, slots := 0, locals := 200 }) (va_Pc [.ref (ad (2 * t))] (PR NSc tyc dC dI A ad cA g)) (va_Qi (fun (r : Int32) => fun (u : Unit) => match u with | () => (r = nI 1 ∧ v = 1) ∨ (r = nI 0 ∧ v ≠ 1)) (fun (u : Unit) (t : State) => va_P (dC, dI) vwCl (wo ad NSc g) t.heap) A) (0) (0) A := by
  refine Met.ofW (cc := cX8_isOne) (maxL := 1) (ret := (some .boolean)) (by decide) rfl ?_
  intro p e s m args below meth c s₁ B hml hv
  obtain ⟨rfl, hA, hP, hL⟩ := hv
  have hx := B.exec
  have hb := B.bytes
  have hr := B.returns
  have hts := atoms_spec (ws := wd_V8_isOne) B.pre
  have hown : s.vm.findClass RX8 = some m.cls := findClass_of_methodNamed B.named
  have hlocks := B.notSynchronized
  have hK := hL.1
  have hD : ∀ g, va_D A (wo ad NSc g) := fun g => wo_D hL.2.1 hL.2.2 g
  have hS : va_S A s.heap s.heap [] := va_S.rf
  have bk0 : ∀ w ∈ u_ws RX8 TX8 3, w ∈ wd_V8_isOne := fun _ h => List.mem_cons_of_mem _ (List.mem_append_right _ (List.mem_append_left _ h))
  have hl := lv_entry ([.ref (ad (2 * t))]) (n := 1) (Nat.le_of_ble_eq_true rfl)
  rw [lg_entry_eq]
  generalize (lg_sl ([.ref (ad (2 * t))]) ++ List.replicate (1 - (lg_sl ([.ref (ad (2 * t))])).length) Slot.unset).toArray = ls at hl ⊢
  have hl : lv_has ls 1 [(0, .ref (ad (2 * t)))] := hl
  obtain ⟨st9, nt9, ft9, ⟨at9, bt9, ut9, ct9, et9⟩, rt9, gt9⟩ := vt
  have qt9 := rmc_le t
  refine lv_aload_n hx hb dX8_isOne_0 rfl (lv_at hl 0 rfl) ?_
  refine m_get (D := (dC, dI)) (v := .int (nI st9)) (C := RX8) (T := TX8) (N := 3) hx hb hts bk0 hown hK hP (2 * t) (ns_w (by omega)) at9 rfl 1 (by decide) (hts (.fieldLink RX8 15 "GradientDesk$Whole" "size" "I") (List.mem_of_getElem? (i := 1) rfl)) (fun _ h9 => h9) rfl dX8_isOne_1 ?_
  refine lv_iconst (v := nI 1) hx hb dX8_isOne_4 (by decide +kernel) ?_
  refine lv_icmp_ne (tgt := 29) hx hb dX8_isOne_5 (by decide) (fun c_1 => ?_) (fun c_1 => ?_)
  · have c_1 := mt (nI_eq (a := st9) (b := 1) (by omega) (by decide)).mpr c_1
    refine lv_iconst (v := nI 0) hx hb dX8_isOne_29 (by decide +kernel) ?_
    refine W.widen (k := 0) (n := 0) (by omega) (by omega) ?_
    exact W.zret (v := nI 0) hx hb hr (by decide +kernel) (fun t9 ht9 hW9 => ⟨⟨nI 0, (), rfl, Or.inr ⟨rfl, fun h9 => by have h8 := (rp_one rt9).mp (by omega); omega⟩, by show va_P (dC, dI) vwCl _ t9.heap; rw [ht9]; exact hP⟩, hS.F ht9⟩) hS.2.2 dX8_isOne_30
  · have c_1 := (nI_eq (a := st9) (b := 1) (by omega) (by decide)).mp c_1
    refine lv_aload_n hx hb dX8_isOne_8 rfl (lv_at hl 0 rfl) ?_
    refine m_get (D := (dC, dI)) (v := .ref (ad (2 * t + 1))) (C := RX8) (T := TX8) (N := 3) hx hb hts bk0 hown hK hP (2 * t) (ns_w (by omega)) at9 rfl 0 (by decide) (hts (.fieldLink RX8 9 "GradientDesk$Whole" "words" "[I") (List.mem_of_getElem? (i := 2) rfl)) (fun _ h9 => h9) rfl dX8_isOne_9 ?_
    refine lv_iconst (v := nI 0) hx hb dX8_isOne_12 (by decide +kernel) ?_
    refine m_iald hx hb hK hP (2 * t + 1) (ns_w (by omega)) (tyc_w (by omega)) bt9 (i := 0) (by omega) (by omega) dX8_isOne_13 ?_
    have b_2 := ut9 0
    refine lv_iconst (v := nI 1) hx hb dX8_isOne_14 (by decide +kernel) ?_
    refine lv_icmp_ne (tgt := 29) hx hb dX8_isOne_15 (by decide) (fun c_3 => ?_) (fun c_3 => ?_)
    · have c_3 := mt (k_weq (a := (ft9 0)) (b := 1) (by omega) (by decide)).mpr c_3
      refine lv_iconst (v := nI 0) hx hb dX8_isOne_29 (by decide +kernel) ?_
      refine W.widen (k := 0) (n := 0) (by omega) (by omega) ?_
      exact W.zret (v := nI 0) hx hb hr (by decide +kernel) (fun t9 ht9 hW9 => ⟨⟨nI 0, (), rfl, Or.inr ⟨rfl, fun h9 => by have h8 := (rp_one rt9).mp (by omega); omega⟩, by show va_P (dC, dI) vwCl _ t9.heap; rw [ht9]; exact hP⟩, hS.F ht9⟩) hS.2.2 dX8_isOne_30
    · have c_3 := (k_weq (a := (ft9 0)) (b := 1) (by omega) (by decide)).mp c_3
      refine lv_aload_n hx hb dX8_isOne_18 rfl (lv_at hl 0 rfl) ?_
      refine m_get (D := (dC, dI)) (v := .int (nI nt9)) (C := RX8) (T := TX8) (N := 3) hx hb hts bk0 hown hK hP (2 * t) (ns_w (by omega)) at9 rfl 2 (by decide) (hts (.fieldLink RX8 19 "GradientDesk$Whole" "below" "Z") (List.mem_of_getElem? (i := 3) rfl)) (fun _ h9 => h9) rfl dX8_isOne_19 ?_
      refine lv_if_ne (tgt := 29) hx hb dX8_isOne_22 (by decide) (fun c_4 => ?_) (fun c_4 => ?_)
      · have c_4 := mt (nI_eq (a := nt9) (b := 0) (by omega) (by decide)).mpr c_4
        refine lv_iconst (v := nI 0) hx hb dX8_isOne_29 (by decide +kernel) ?_
        refine W.widen (k := 0) (n := 0) (by omega) (by omega) ?_
        exact W.zret (v := nI 0) hx hb hr (by decide +kernel) (fun t9 ht9 hW9 => ⟨⟨nI 0, (), rfl, Or.inr ⟨rfl, fun h9 => by have h8 := (rp_one rt9).mp (by omega); omega⟩, by show va_P (dC, dI) vwCl _ t9.heap; rw [ht9]; exact hP⟩, hS.F ht9⟩) hS.2.2 dX8_isOne_30
      · have c_4 := (nI_eq (a := nt9) (b := 0) (by omega) (by decide)).mp c_4
        refine lv_iconst (v := nI 1) hx hb dX8_isOne_25 (by decide +kernel) ?_
        refine lv_goto (tgt := 30) hx hb dX8_isOne_26 (by decide) ?_
        refine W.widen (k := 0) (n := 0) (by omega) (by omega) ?_
        exact W.zret (v := nI 1) hx hb hr (by decide +kernel) (fun t9 ht9 hW9 => ⟨⟨nI 1, (), rfl, Or.inl ⟨rfl, by have h9 := (rp_one rt9).mpr ⟨by omega, by omega⟩; omega⟩, by show va_P (dC, dI) vwCl _ t9.heap; rw [ht9]; exact hP⟩, hS.F ht9⟩) hS.2.2 dX8_isOne_30
def wd_V8_bitLength : List Cond := .code yX8_bitLength cX8_bitLength 1 (some .int) :: (([.fieldLink RX8 15 "GradientDesk$Whole" "size" "I", .fieldLink RX8 9 "GradientDesk$Whole" "words" "[I", .methodLink RX8 39 yJ6_numberOfLeadingZeros_0f7a4, .static yJ6_numberOfLeadingZeros_0f7a4, .initialized RJ6] : List Cond) ++ (u_ws RX8 TX8 3 ++ (wd_J_nlz ++ ([]))))
theorem gw_V8_bitLength : wd_V8_bitLength.all goodWord = true := k_allc rfl (k_all (by decide +kernel) (k_all (gu_X8) (k_all (gw_J_nlz) (rfl))))
set_option maxHeartbeats 4000000 in
set_option maxRecDepth 100000 in
theorem c_V8_bitLength (l : Launch) (dC : Nat → ClassId) (dI : Nat → Nat → Nat) (A : Nat → Prop) (ad : Nat → Nat) (cA : Nat → ClassId) (g : Nat → va_E) (t : Nat) (v : Int) (hAW : AW ad cA g) (it : t < 1038) (vt : WV ad cA g t v) : Met l yX8_bitLength wd_V8_bitLength ({ frames := 20, cells := 0, slots := 0, locals := 400 }) (va_Pc [.ref (ad (2 * t))] (PR NSc tyc dC dI A ad cA g)) (va_Qi (fun (r : Int32) => fun (u : Unit) => match u with | () => r = nI (bl v.natAbs)) (fun (u : Unit) (t : State) => va_P (dC, dI) vwCl (wo ad NSc g) t.heap) A) (0) (0) A := by
  refine Met.ofW (cc := cX8_bitLength) (maxL := 1) (ret := (some .int)) (by decide) rfl ?_
  intro p e s m args below meth c s₁ B hml hv
  obtain ⟨rfl, hA, hP, hL⟩ := hv
  have hx := B.exec
  have hb := B.bytes
  have hr := B.returns
  have hts := atoms_spec (ws := wd_V8_bitLength) B.pre
  have hown : s.vm.findClass RX8 = some m.cls := findClass_of_methodNamed B.named
  have hlocks := B.notSynchronized
  have hK := hL.1
  have hD : ∀ g, va_D A (wo ad NSc g) := fun g => wo_D hL.2.1 hL.2.2 g
  have hS : va_S A s.heap s.heap [] := va_S.rf
  have bk0 : ∀ w ∈ u_ws RX8 TX8 3, w ∈ wd_V8_bitLength := fun _ h => List.mem_cons_of_mem _ (List.mem_append_right _ (List.mem_append_left _ h))
  have bk1 : ∀ w ∈ wd_J_nlz, w ∈ wd_V8_bitLength := fun _ h => List.mem_cons_of_mem _ (List.mem_append_right _ (List.mem_append_right _ (List.mem_append_left _ h)))
  have hl := lv_entry ([.ref (ad (2 * t))]) (n := 1) (Nat.le_of_ble_eq_true rfl)
  rw [lg_entry_eq]
  generalize (lg_sl ([.ref (ad (2 * t))]) ++ List.replicate (1 - (lg_sl ([.ref (ad (2 * t))])).length) Slot.unset).toArray = ls at hl ⊢
  have hl : lv_has ls 1 [(0, .ref (ad (2 * t)))] := hl
  obtain ⟨st9, nt9, ft9, ⟨at9, bt9, ut9, ct9, et9⟩, rt9, gt9⟩ := vt
  have qt9 := rmc_le t
  refine lv_aload_n hx hb dX8_bitLength_0 rfl (lv_at hl 0 rfl) ?_
  refine m_get (D := (dC, dI)) (v := .int (nI st9)) (C := RX8) (T := TX8) (N := 3) hx hb hts bk0 hown hK hP (2 * t) (ns_w (by omega)) at9 rfl 1 (by decide) (hts (.fieldLink RX8 15 "GradientDesk$Whole" "size" "I") (List.mem_of_getElem? (i := 1) rfl)) (fun _ h9 => h9) rfl dX8_bitLength_1 ?_
  refine lv_if_ne (tgt := 11) hx hb dX8_bitLength_4 (by decide) (fun c_1 => ?_) (fun c_1 => ?_)
  · have c_1 := mt (nI_eq (a := st9) (b := 0) (by omega) (by decide)).mpr c_1
    refine lv_bipush (v := nI 32) hx hb dX8_bitLength_11 (by decide +kernel) ?_
    refine lv_aload_n hx hb dX8_bitLength_13 rfl (lv_at hl 0 rfl) ?_
    refine m_get (D := (dC, dI)) (v := .int (nI st9)) (C := RX8) (T := TX8) (N := 3) hx hb hts bk0 hown hK hP (2 * t) (ns_w (by omega)) at9 rfl 1 (by decide) (hts (.fieldLink RX8 15 "GradientDesk$Whole" "size" "I") (List.mem_of_getElem? (i := 1) rfl)) (fun _ h9 => h9) rfl dX8_bitLength_14 ?_
    refine lv_imul hx hb dX8_bitLength_17 ?_
    refine lv_topi (fun x_2 e_3 => ?_)
    obtain rfl : x_2 = nI (32 * st9) := e_3.trans (pk_mul 32 st9)
    refine lv_aload_n hx hb dX8_bitLength_18 rfl (lv_at hl 0 rfl) ?_
    refine m_get (D := (dC, dI)) (v := .ref (ad (2 * t + 1))) (C := RX8) (T := TX8) (N := 3) hx hb hts bk0 hown hK hP (2 * t) (ns_w (by omega)) at9 rfl 0 (by decide) (hts (.fieldLink RX8 9 "GradientDesk$Whole" "words" "[I") (List.mem_of_getElem? (i := 2) rfl)) (fun _ h9 => h9) rfl dX8_bitLength_19 ?_
    refine lv_aload_n hx hb dX8_bitLength_22 rfl (lv_at hl 0 rfl) ?_
    refine m_get (D := (dC, dI)) (v := .int (nI st9)) (C := RX8) (T := TX8) (N := 3) hx hb hts bk0 hown hK hP (2 * t) (ns_w (by omega)) at9 rfl 1 (by decide) (hts (.fieldLink RX8 15 "GradientDesk$Whole" "size" "I") (List.mem_of_getElem? (i := 1) rfl)) (fun _ h9 => h9) rfl dX8_bitLength_23 ?_
    refine lv_iconst (v := nI 1) hx hb dX8_bitLength_26 (by decide +kernel) ?_
    refine lv_isub hx hb dX8_bitLength_27 ?_
    refine lv_topi (fun x_4 e_5 => ?_)
    obtain rfl : x_4 = nI (st9 - 1) := e_5.trans (pk_sub (show 1 ≤ st9 by omega))
    refine m_iald hx hb hK hP (2 * t + 1) (ns_w (by omega)) (tyc_w (by omega)) bt9 (i := st9 - 1) (by omega) (by omega) dX8_bitLength_28 ?_
    have b_6 := ut9 (st9 - 1)
    refine va_calli (va_runS (As := [.int (nI (ft9 (st9 - 1)))]) (rest := [.int (nI (32 * st9))]) ⟨hx, hb, hml, hown, hts⟩ (c_J_nlz l dC dI A ad cA g (ft9 (st9 - 1)) (by omega)) (va_cwS 1 hts (goodIn_app (goodIn_r [Cond.methodLink RX8 39 yJ6_numberOfLeadingZeros_0f7a4, Cond.static yJ6_numberOfLeadingZeros_0f7a4, Cond.initialized RJ6] [3, 4, 5] rfl rfl) (goodIn_sub (fun w9 h9 => bk1 w9 h9) gw_J_nlz)) rfl rfl rfl (by decide +kernel) ⟨Nat.le_of_ble_eq_true rfl, Nat.le_of_ble_eq_true rfl⟩) ⟨fun a U g mk q => ⟨q.1, q.2.1, q.2.2.1, LY.moved (u := U) (U := U.calling g mk a) (Vm.Alike.refl U.vm) q.2.2.2⟩, fun U hU hW => ⟨rfl, by rw [hU]; exact fun q h => hA q (Nat.le_trans hS.1 h), by rw [hU]; exact hP, LY.moved hW.alike hL⟩⟩ rfl rfl hl.1 rfl (lv_room (Nat.le_of_ble_eq_true rfl)) dX8_bitLength_29 ⟨(Nat.le_of_ble_eq_true rfl), (Nat.le_of_ble_eq_true rfl)⟩) hS (fun q _ h => h) (fun q h => h) (fun r_7 u8 t8 H1 locs ht8 hvm8 hw_8 hB hz1 hk1 hS => ?_)
    obtain ⟨⟩ := u8
    try dsimp only at hw_8 hB
    rw [ht8] at hB
    have hP := hB
    generalize H1 = H at hP hS ⊢
    obtain rfl := hw_8
    have hbw : bl (ft9 (st9 - 1)) ≤ 32 := bl_le.mpr (ut9 _)
    refine lv_isub hx hb dX8_bitLength_32 ?_
    refine lv_topi (fun x_9 e_10 => ?_)
    obtain rfl : x_9 = nI ((32 * st9) - (32 - bl (ft9 (st9 - 1)))) := e_10.trans (pk_sub (show 32 - bl (ft9 (st9 - 1)) ≤ 32 * st9 by omega))
    refine W.widen (k := 0) (n := 0) (by omega) (by omega) ?_
    exact W.iret (v := nI ((32 * st9) - (32 - bl (ft9 (st9 - 1))))) hx hb hr (fun t9 ht9 hW9 => ⟨⟨nI ((32 * st9) - (32 - bl (ft9 (st9 - 1)))), (), rfl, congrArg nI (by rw [rt9.bits (by omega)]; omega), by show va_P (dC, dI) vwCl _ t9.heap; rw [ht9]; exact hP⟩, hS.F ht9⟩) hS.2.2 dX8_bitLength_33
  · have c_1 := (nI_eq (a := st9) (b := 0) (by omega) (by decide)).mp c_1
    refine lv_iconst (v := nI 0) hx hb dX8_bitLength_7 (by decide +kernel) ?_
    refine lv_goto (tgt := 33) hx hb dX8_bitLength_8 (by decide) ?_
    refine W.widen (k := 0) (n := 0) (by omega) (by omega) ?_
    exact W.iret (v := nI 0) hx hb hr (fun t9 ht9 hW9 => ⟨⟨nI 0, (), rfl, congrArg nI (by rw [rt9.zero.mp (by omega)]; rfl), by show va_P (dC, dI) vwCl _ t9.heap; rw [ht9]; exact hP⟩, hS.F ht9⟩) hS.2.2 dX8_bitLength_33
def wd_V8_put : List Cond := .code yX8_put cX8_put 6 none :: (([.methodLink RX8 23 Lib.MathLoose.abs_long.x, .static Lib.MathLoose.abs_long.x, .initialized "java/lang/Math", .code Lib.MathLoose.abs_long.x Lib.MathLoose.abs_long.code 2 (some .long), .fieldLink RX8 19 "GradientDesk$Whole" "below" "Z", .fieldLink RX8 15 "GradientDesk$Whole" "size" "I", .fieldLink RX8 9 "GradientDesk$Whole" "words" "[I"] : List Cond) ++ (u_ws RX8 TX8 3 ++ ([])))
theorem gw_V8_put : wd_V8_put.all goodWord = true := k_allc rfl (k_all (by decide +kernel) (k_all (gu_X8) (rfl)))
set_option maxHeartbeats 4000000 in
set_option maxRecDepth 100000 in
theorem c_V8_put (l : Launch) (dC : Nat → ClassId) (dI : Nat → Nat → Nat) (A : Nat → Prop) (ad : Nat → Nat) (cA : Nat → ClassId) (g : Nat → va_E) (t : Nat) (v : Int64) (z : Int) (hAW : AW ad cA g) (it : t < 1038) (hr2 : 2 ≤ rmc t) (hz : v.toInt = z) (hz2 : z.natAbs < 2 ^ 62) : Met l yX8_put wd_V8_put ({ frames := 20, cells := 0, slots := 0, locals := 400 }) (va_Pc [.ref (ad (2 * t)), .long v] (PR NSc tyc dC dI A ad cA g)) (va_Qv (fun (u : Nat → va_E) => match u with | g2 => (∀ k, k ≠ 2 * t ∧ k ≠ 2 * t + 1 → g2 k = g k) ∧ AW ad cA g2 ∧ WV ad cA g2 t z) (fun (u : Nat → va_E) (t : State) => va_P (dC, dI) vwCl (wo ad NSc u) t.heap) A) (0) (0) A := by
  refine Met.ofW (cc := cX8_put) (maxL := 6) (ret := none) (by decide) rfl ?_
  intro p e s m args below meth c s₁ B hml hv
  obtain ⟨rfl, hA, hP, hL⟩ := hv
  have hx := B.exec
  have hb := B.bytes
  have hr := B.returns
  have hts := atoms_spec (ws := wd_V8_put) B.pre
  have hown : s.vm.findClass RX8 = some m.cls := findClass_of_methodNamed B.named
  have hlocks := B.notSynchronized
  have hK := hL.1
  have hD : ∀ g, va_D A (wo ad NSc g) := fun g => wo_D hL.2.1 hL.2.2 g
  have hS : va_S A s.heap s.heap [] := va_S.rf
  have bk0 : ∀ w ∈ u_ws RX8 TX8 3, w ∈ wd_V8_put := fun _ h => List.mem_cons_of_mem _ (List.mem_append_right _ (List.mem_append_left _ h))
  have hl := lv_entry ([.ref (ad (2 * t)), .long v]) (n := 6) (Nat.le_of_ble_eq_true rfl)
  rw [lg_entry_eq]
  generalize (lg_sl ([.ref (ad (2 * t)), .long v]) ++ List.replicate (6 - (lg_sl ([.ref (ad (2 * t)), .long v])).length) Slot.unset).toArray = ls at hl ⊢
  have hl : lv_has ls 6 [(0, .ref (ad (2 * t))), (1, .long v)] := hl
  obtain ⟨st9, nt9, ft9, at9, bt9, ut9, ct9, et9⟩ := AW.wn hAW it
  have qt9 := rmc_le t
  refine lv_lload_n hx hb dX8_put_0 rfl (lv_at hl 1 rfl) ?_
  refine va_mabs_long hx hb (by rw [hml]; exact hl.1.symm) hown (hts (.methodLink RX8 23 Lib.MathLoose.abs_long.x) (List.mem_of_getElem? (i := 1) rfl)) (hts (.static Lib.MathLoose.abs_long.x) (List.mem_of_getElem? (i := 2) rfl)) (hts (.initialized "java/lang/Math") (List.mem_of_getElem? (i := 3) rfl)) (hts (.code Lib.MathLoose.abs_long.x Lib.MathLoose.abs_long.code 2 (some .long)) (List.mem_of_getElem? (i := 4) rfl)) (Nat.le_of_ble_eq_true rfl) (Nat.le_of_ble_eq_true rfl) (Nat.le_of_ble_eq_true rfl) (Nat.le_of_ble_eq_true rfl) dX8_put_1 ?_
  refine lv_topl (fun y_1 e_2 => ?_)
  obtain rfl : y_1 = lN z.natAbs := e_2.trans (k_labs hz hz2)
  refine lv_lstore_n (lv' := [(3, .long (lN z.natAbs)), (0, .ref (ad (2 * t))), (1, .long v)]) hx hb dX8_put_4 rfl hl (by decide) rfl (fun ls hl => ?_)
  refine lv_aload_n hx hb dX8_put_5 rfl (lv_at hl 1 rfl) ?_
  refine lv_lload_n hx hb dX8_put_6 rfl (lv_at hl 2 rfl) ?_
  refine lv_lconst (v := lN 0) hx hb dX8_put_7 (by decide +kernel) ?_
  refine W.lcmp hx hb dX8_put_8 ?_
  refine lv_if_ge (tgt := 16) hx hb dX8_put_9 (by decide) (fun c_3 => ?_) (fun c_3 => ?_)
  · have c_3 := (k_cmp_ge v (lN 0)).mp c_3
    refine lv_iconst (v := nI 0) hx hb dX8_put_16 (by decide +kernel) ?_
    have hzs : 0 ≤ z := by exact (k_vpos hz c_3 hz2).2
    refine m_put (D := (dC, dI)) (v := .int (nI 0)) (tv := .boolean) (C := RX8) (T := TX8) (N := 3) hx hb hts bk0 tyX8 tyX8_ok nmX8 hown hK hP hD hS (2 * t) (ns_w (by omega)) at9 rfl 2 (by decide) (hts (.fieldLink RX8 19 "GradientDesk$Whole" "below" "Z") (List.mem_of_getElem? (i := 5) rfl)) (fun _ h9 => h9) rfl (by decide +kernel) (k_narZ2 (by omega)) (k_fitZ2 (by omega)) (Nat.le_of_ble_eq_true rfl) dX8_put_17 (fun H locs g_4 f_5 fr_6 hP hS => ?_)
    have f_5 : g_4 (2 * t) = .inr (11, [.ref (ad (2 * t + 1)), .int (nI st9), .int (nI 0)]) := f_5
    refine lv_aload_n hx hb dX8_put_20 rfl (lv_at hl 1 rfl) ?_
    refine lv_iconst (v := nI 0) hx hb dX8_put_21 (by decide +kernel) ?_
    refine m_put (D := (dC, dI)) (v := .int (nI 0)) (tv := .int) (C := RX8) (T := TX8) (N := 3) hx hb hts bk0 tyX8 tyX8_ok nmX8 hown hK hP hD hS (2 * t) (ns_w (by omega)) f_5 rfl 1 (by decide) (hts (.fieldLink RX8 15 "GradientDesk$Whole" "size" "I") (List.mem_of_getElem? (i := 6) rfl)) (fun _ h9 => h9) rfl (by decide +kernel) rfl rfl (Nat.le_of_ble_eq_true rfl) dX8_put_22 (fun H locs g_7 f_8 fr_9 hP hS => ?_)
    have f_8 : g_7 (2 * t) = .inr (11, [.ref (ad (2 * t + 1)), .int (nI 0), .int (nI 0)]) := f_8
    refine lv_iconst (v := nI 0) hx hb dX8_put_25 (by decide +kernel) ?_
    refine lv_istore (lv' := [(5, .int (nI 0)), (3, .long (lN z.natAbs)), (0, .ref (ad (2 * t))), (1, .long v)]) hx hb dX8_put_26 hl (by decide) rfl (fun ls hl => ?_)
    have loop_10 : ∀ (k9 : Nat) (i : Nat) (sz : Nat) (ff : Nat → Nat) (lf : Nat) (g_12 : Nat → va_E) (fr_13 : ∀ k, (k ≠ 2 * t ∧ k ≠ 2 * t + 1) → g_12 k = g_7 k), 2 - i < k9 → (i ≤ 2) → (sz = i) → (∀ j, ff j < 4294967296) → (lf = z.natAbs / 4294967296 ^ i) → (∀ j, j < i → ff j = dgt z.natAbs j) → (i = 0 ∨ z.natAbs / 4294967296 ^ (i - 1) ≠ 0) → (g_12 (2 * t) = .inr (11, [.ref (ad (2 * t + 1)), .int (nI sz), .int (nI 0)])) → (g_12 (2 * t + 1) = .inl (cA (2 * t + 1), rmc t, .inl (fun j => nI (ff j)))) → ∀ (H : Heap) (locs : List Loc) (ls : Array Slot), va_P (dC, dI) vwCl (wo ad NSc g_12) H → va_S A s.heap H locs → lv_has ls 6 [(5, .int (nI i)), (3, .long (lN lf)), (0, .ref (ad (2 * t)))] → W p l e (headSpec wd_V8_put ({ frames := 20, cells := 0, slots := 0, locals := 400 })).room s m ([.ref (ad (2 * t)), .long v] : List Value).toArray below meth c H locs (0) (0) (MQ below (va_Qv (fun (u : Nat → va_E) => match u with | g2 => (∀ k, k ≠ 2 * t ∧ k ≠ 2 * t + 1 → g2 k = g k) ∧ AW ad cA g2 ∧ WV ad cA g2 t z) (fun (u : Nat → va_E) (t : State) => va_P (dC, dI) vwCl (wo ad NSc u) t.heap) A) ([.ref (ad (2 * t)), .long v] : List Value).toArray s (0) (0) A) (F0 m 28 ls []) := by
      intro k9
      induction k9 with
      | zero => intro i sz ff lf g_12 fr_13 h9; exact absurd h9 (Nat.not_lt_zero _)
      | succ k9 ih_11 =>
        intro i sz ff lf g_12 fr_13 h9 hi hsz hub hlf hdd hnz f_14 f_15 H locs ls hP hS hl
        have hlb : lf ≤ z.natAbs := by rw [hlf]; exact Nat.div_le_self _ _
        refine lv_iload hx hb dX8_put_28 (lv_at hl 0 rfl) ?_
        refine lv_iconst (v := nI 2) hx hb dX8_put_30 (by decide +kernel) ?_
        refine lv_icmp_ge (tgt := 78) hx hb dX8_put_31 (by decide) (fun c_16 => ?_) (fun c_16 => ?_)
        · have c_16 := (nI_leI (a := 2) (b := i) (by decide) (by omega)).mp c_16
          have hWN : WN ad cA g_12 t sz 0 (ff) := ⟨f_14, f_15, hub, by omega, by omega⟩
          refine W.widen (k := 0) (n := 0) (by omega) (by omega) ?_
          exact W.vret hx hb hr (fun t9 ht9 hW9 => ⟨⟨g_12, rfl, ⟨(fun (k : Nat) (hk : k ≠ 2 * t ∧ k ≠ 2 * t + 1) => (fr_13 k (by omega)).trans ((fr_9 k (by omega)).trans ((fr_6 k (by omega)).trans (rfl)))), hWN.aw hAW (fun (k : Nat) (hk : k ≠ 2 * t ∧ k ≠ 2 * t + 1) => (fr_13 k (by omega)).trans ((fr_9 k (by omega)).trans ((fr_6 k (by omega)).trans (rfl)))), _, _, _, hWN, pt_end9 hsz hdd hnz hlf (by omega), by omega⟩, by show va_P (dC, dI) vwCl _ t9.heap; rw [ht9]; exact hP⟩, hS.F ht9⟩) hS.2.2 dX8_put_78
        · have c_16 := mt (nI_leI (a := 2) (b := i) (by decide) (by omega)).mpr c_16
          refine lv_iload hx hb dX8_put_34 (lv_at hl 0 rfl) ?_
          refine lv_aload_n hx hb dX8_put_36 rfl (lv_at hl 2 rfl) ?_
          refine m_get (D := (dC, dI)) (v := .ref (ad (2 * t + 1))) (C := RX8) (T := TX8) (N := 3) hx hb hts bk0 hown hK hP (2 * t) (ns_w (by omega)) f_14 rfl 0 (by decide) (hts (.fieldLink RX8 9 "GradientDesk$Whole" "words" "[I") (List.mem_of_getElem? (i := 7) rfl)) (fun _ h9 => h9) rfl dX8_put_37 ?_
          refine m_alen hx hb hK hP (2 * t + 1) (ns_w (by omega)) f_15 dX8_put_40 ?_
          refine lv_icmp_ge (tgt := 78) hx hb dX8_put_41 (by decide) (fun c_17 => ?_) (fun c_17 => ?_)
          · have c_17 := (nI_leI (a := (rmc t)) (b := i) (by omega) (by omega)).mp c_17
            have hWN : WN ad cA g_12 t sz 0 (ff) := ⟨f_14, f_15, hub, by omega, by omega⟩
            refine W.widen (k := 0) (n := 0) (by omega) (by omega) ?_
            exact W.vret hx hb hr (fun t9 ht9 hW9 => ⟨⟨g_12, rfl, ⟨(fun (k : Nat) (hk : k ≠ 2 * t ∧ k ≠ 2 * t + 1) => (fr_13 k (by omega)).trans ((fr_9 k (by omega)).trans ((fr_6 k (by omega)).trans (rfl)))), hWN.aw hAW (fun (k : Nat) (hk : k ≠ 2 * t ∧ k ≠ 2 * t + 1) => (fr_13 k (by omega)).trans ((fr_9 k (by omega)).trans ((fr_6 k (by omega)).trans (rfl)))), _, _, _, hWN, pt_end9 hsz hdd hnz hlf (by omega), by omega⟩, by show va_P (dC, dI) vwCl _ t9.heap; rw [ht9]; exact hP⟩, hS.F ht9⟩) hS.2.2 dX8_put_78
          · have c_17 := mt (nI_leI (a := (rmc t)) (b := i) (by omega) (by omega)).mpr c_17
            refine lv_lload_n hx hb dX8_put_44 rfl (lv_at hl 1 rfl) ?_
            refine lv_lconst (v := lN 0) hx hb dX8_put_45 (by decide +kernel) ?_
            refine W.lcmp hx hb dX8_put_46 ?_
            refine lv_if_eq (tgt := 78) hx hb dX8_put_47 (by decide) (fun c_18 => ?_) (fun c_18 => ?_)
            · have c_18 := (pk_lEQ (a := lf) (b := 0) (by omega) (by decide)).mp ((k_cmp_eq (lN lf) (lN 0)).mp c_18)
              have hWN : WN ad cA g_12 t sz 0 (ff) := ⟨f_14, f_15, hub, by omega, by omega⟩
              refine W.widen (k := 0) (n := 0) (by omega) (by omega) ?_
              exact W.vret hx hb hr (fun t9 ht9 hW9 => ⟨⟨g_12, rfl, ⟨(fun (k : Nat) (hk : k ≠ 2 * t ∧ k ≠ 2 * t + 1) => (fr_13 k (by omega)).trans ((fr_9 k (by omega)).trans ((fr_6 k (by omega)).trans (rfl)))), hWN.aw hAW (fun (k : Nat) (hk : k ≠ 2 * t ∧ k ≠ 2 * t + 1) => (fr_13 k (by omega)).trans ((fr_9 k (by omega)).trans ((fr_6 k (by omega)).trans (rfl)))), _, _, _, hWN, pt_end9 hsz hdd hnz hlf (by omega), by omega⟩, by show va_P (dC, dI) vwCl _ t9.heap; rw [ht9]; exact hP⟩, hS.F ht9⟩) hS.2.2 dX8_put_78
            · have c_18 := mt (pk_lEQ (a := lf) (b := 0) (by omega) (by decide)).mpr (mt (k_cmp_eq (lN lf) (lN 0)).mpr c_18)
              refine lv_aload_n hx hb dX8_put_50 rfl (lv_at hl 2 rfl) ?_
              refine m_get (D := (dC, dI)) (v := .ref (ad (2 * t + 1))) (C := RX8) (T := TX8) (N := 3) hx hb hts bk0 hown hK hP (2 * t) (ns_w (by omega)) f_14 rfl 0 (by decide) (hts (.fieldLink RX8 9 "GradientDesk$Whole" "words" "[I") (List.mem_of_getElem? (i := 7) rfl)) (fun _ h9 => h9) rfl dX8_put_51 ?_
              refine lv_iload hx hb dX8_put_54 (lv_at hl 0 rfl) ?_
              refine lv_lload_n hx hb dX8_put_56 rfl (lv_at hl 1 rfl) ?_
              refine lv_l2i hx hb dX8_put_57 rfl ?_
              refine lv_topi (fun x_19 e_20 => ?_)
              obtain rfl : x_19 = nI lf := e_20.trans (lN_i lf)
              rw [show nI lf = nI (lf % 4294967296) from nI_md _]
              refine m_iast hx hb hK hP hD hS (2 * t + 1) (ns_w (by omega)) (tyc_w (by omega)) f_15 (i := i) (x := nI (lf % 4294967296)) (by omega) (by omega) dX8_put_58 (fun H locs g_21 f_22 fr_23 hP hS => ?_)
              rw [k_updI] at f_22
              have b_24 : ∀ j, (va_up ff i (lf % 4294967296)) j < 4294967296 := k_up_lt hub (by omega)
              have f_22 : g_21 (2 * t + 1) = .inl (cA (2 * t + 1), rmc t, .inl (fun j => nI ((va_up ff i (lf % 4294967296)) j))) := f_22
              refine lv_lload_n hx hb dX8_put_59 rfl (lv_at hl 1 rfl) ?_
              refine lv_bipush (v := nI 32) hx hb dX8_put_60 (by decide +kernel) ?_
              refine lv_lushr hx hb dX8_put_62 rfl ?_
              refine lv_topl (fun y_25 e_26 => ?_)
              obtain rfl : y_25 = lN (lf / 4294967296) := e_26.trans ((wb_shr (n := lf) (k := 32) (by omega) (by decide)).trans rfl)
              refine lv_lstore_n (lv' := [(3, .long (lN (lf / 4294967296))), (5, .int (nI i)), (0, .ref (ad (2 * t)))]) hx hb dX8_put_63 rfl hl (by decide) rfl (fun ls hl => ?_)
              refine lv_aload_n hx hb dX8_put_64 rfl (lv_at hl 2 rfl) ?_
              refine lv_iload hx hb dX8_put_65 (lv_at hl 1 rfl) ?_
              refine lv_iconst (v := nI 1) hx hb dX8_put_67 (by decide +kernel) ?_
              refine lv_iadd hx hb dX8_put_68 ?_
              refine lv_topi (fun x_27 e_28 => ?_)
              obtain rfl : x_27 = nI (i + 1) := e_28.trans (nI_add i 1)
              have f_29 : g_21 (2 * t) = .inr (11, [.ref (ad (2 * t + 1)), .int (nI sz), .int (nI 0)]) := (fr_23 (2 * t) (by omega)).trans f_14
              refine m_put (D := (dC, dI)) (v := .int (nI (i + 1))) (tv := .int) (C := RX8) (T := TX8) (N := 3) hx hb hts bk0 tyX8 tyX8_ok nmX8 hown hK hP hD hS (2 * t) (ns_w (by omega)) f_29 rfl 1 (by decide) (hts (.fieldLink RX8 15 "GradientDesk$Whole" "size" "I") (List.mem_of_getElem? (i := 6) rfl)) (fun _ h9 => h9) rfl (by decide +kernel) rfl rfl (Nat.le_of_ble_eq_true rfl) dX8_put_69 (fun H locs g_30 f_31 fr_32 hP hS => ?_)
              have f_31 : g_30 (2 * t) = .inr (11, [.ref (ad (2 * t + 1)), .int (nI (i + 1)), .int (nI 0)]) := f_31
              refine lv_iinc (v := nI (i + 1)) (lv' := [(5, .int (nI (i + 1))), (3, .long (lN (lf / 4294967296))), (0, .ref (ad (2 * t)))]) hx hb dX8_put_72 hl (k := 1) rfl (nI_add i 1) (by decide) rfl (fun ls hl => ?_)
              refine lv_goto (tgt := 28) hx hb dX8_put_75 (by decide) ?_
              have f_35 : g_30 (2 * t + 1) = .inl (cA (2 * t + 1), rmc t, .inl (fun j => nI ((va_up ff i (lf % 4294967296)) j))) := (fr_32 (2 * t + 1) (by omega)).trans f_22
              exact ih_11 (i + 1) (i + 1) (va_up ff i (lf % 4294967296)) (lf / 4294967296) g_30 (fun (k : Nat) (hk : k ≠ 2 * t ∧ k ≠ 2 * t + 1) => (fr_32 k (by omega)).trans ((fr_23 k (by omega)).trans ((fr_13 k (by omega)).trans (rfl)))) (by omega) (by omega) (by omega) b_24 (by rw [hlf, Nat.pow_succ, Nat.div_div_eq_div_mul]) (fun j hj => by by_cases h9 : j = i; rw [h9, va_up_self, hlf]; rfl; rw [va_up_ne _ _ h9]; exact hdd j (by omega)) (Or.inr (by rw [Nat.add_sub_cancel, ← hlf]; omega)) f_31 f_35 _ _ _ hP hS (lv_sub (l' := [(5, .int (nI (i + 1))), (3, .long (lN (lf / 4294967296))), (0, .ref (ad (2 * t)))]) hl [0, 1, 2] rfl)
    have f_36 : g_7 (2 * t + 1) = .inl (cA (2 * t + 1), rmc t, .inl (fun j => nI (ft9 j))) := (fr_9 (2 * t + 1) (by omega)).trans ((fr_6 (2 * t + 1) (by omega)).trans bt9)
    exact loop_10 _ 0 0 ft9 z.natAbs g_7 (fun (k : Nat) (hk : k ≠ 2 * t ∧ k ≠ 2 * t + 1) => rfl) (Nat.lt_succ_self _) (by omega) rfl ut9 (by rw [Nat.pow_zero, Nat.div_one]) (fun j hj => absurd hj (by omega)) (Or.inl rfl) f_8 f_36 _ _ _ hP hS (lv_sub (l' := [(5, .int (nI 0)), (3, .long (lN z.natAbs)), (0, .ref (ad (2 * t)))]) hl [0, 1, 2] rfl)
  · have c_3 := mt (k_cmp_ge v (lN 0)).mpr c_3
    refine lv_iconst (v := nI 1) hx hb dX8_put_12 (by decide +kernel) ?_
    refine lv_goto (tgt := 17) hx hb dX8_put_13 (by decide) ?_
    have hzs : z < 0 := by exact (k_vneg hz c_3 hz2).2
    refine m_put (D := (dC, dI)) (v := .int (nI 1)) (tv := .boolean) (C := RX8) (T := TX8) (N := 3) hx hb hts bk0 tyX8 tyX8_ok nmX8 hown hK hP hD hS (2 * t) (ns_w (by omega)) at9 rfl 2 (by decide) (hts (.fieldLink RX8 19 "GradientDesk$Whole" "below" "Z") (List.mem_of_getElem? (i := 5) rfl)) (fun _ h9 => h9) rfl (by decide +kernel) (k_narZ2 (by omega)) (k_fitZ2 (by omega)) (Nat.le_of_ble_eq_true rfl) dX8_put_17 (fun H locs g_37 f_38 fr_39 hP hS => ?_)
    have f_38 : g_37 (2 * t) = .inr (11, [.ref (ad (2 * t + 1)), .int (nI st9), .int (nI 1)]) := f_38
    refine lv_aload_n hx hb dX8_put_20 rfl (lv_at hl 1 rfl) ?_
    refine lv_iconst (v := nI 0) hx hb dX8_put_21 (by decide +kernel) ?_
    refine m_put (D := (dC, dI)) (v := .int (nI 0)) (tv := .int) (C := RX8) (T := TX8) (N := 3) hx hb hts bk0 tyX8 tyX8_ok nmX8 hown hK hP hD hS (2 * t) (ns_w (by omega)) f_38 rfl 1 (by decide) (hts (.fieldLink RX8 15 "GradientDesk$Whole" "size" "I") (List.mem_of_getElem? (i := 6) rfl)) (fun _ h9 => h9) rfl (by decide +kernel) rfl rfl (Nat.le_of_ble_eq_true rfl) dX8_put_22 (fun H locs g_40 f_41 fr_42 hP hS => ?_)
    have f_41 : g_40 (2 * t) = .inr (11, [.ref (ad (2 * t + 1)), .int (nI 0), .int (nI 1)]) := f_41
    refine lv_iconst (v := nI 0) hx hb dX8_put_25 (by decide +kernel) ?_
    refine lv_istore (lv' := [(5, .int (nI 0)), (3, .long (lN z.natAbs)), (0, .ref (ad (2 * t))), (1, .long v)]) hx hb dX8_put_26 hl (by decide) rfl (fun ls hl => ?_)
    have loop_43 : ∀ (k9 : Nat) (i : Nat) (sz : Nat) (ff : Nat → Nat) (lf : Nat) (g_45 : Nat → va_E) (fr_46 : ∀ k, (k ≠ 2 * t ∧ k ≠ 2 * t + 1) → g_45 k = g_40 k), 2 - i < k9 → (i ≤ 2) → (sz = i) → (∀ j, ff j < 4294967296) → (lf = z.natAbs / 4294967296 ^ i) → (∀ j, j < i → ff j = dgt z.natAbs j) → (i = 0 ∨ z.natAbs / 4294967296 ^ (i - 1) ≠ 0) → (g_45 (2 * t) = .inr (11, [.ref (ad (2 * t + 1)), .int (nI sz), .int (nI 1)])) → (g_45 (2 * t + 1) = .inl (cA (2 * t + 1), rmc t, .inl (fun j => nI (ff j)))) → ∀ (H : Heap) (locs : List Loc) (ls : Array Slot), va_P (dC, dI) vwCl (wo ad NSc g_45) H → va_S A s.heap H locs → lv_has ls 6 [(5, .int (nI i)), (3, .long (lN lf)), (0, .ref (ad (2 * t)))] → W p l e (headSpec wd_V8_put ({ frames := 20, cells := 0, slots := 0, locals := 400 })).room s m ([.ref (ad (2 * t)), .long v] : List Value).toArray below meth c H locs (0) (0) (MQ below (va_Qv (fun (u : Nat → va_E) => match u with | g2 => (∀ k, k ≠ 2 * t ∧ k ≠ 2 * t + 1 → g2 k = g k) ∧ AW ad cA g2 ∧ WV ad cA g2 t z) (fun (u : Nat → va_E) (t : State) => va_P (dC, dI) vwCl (wo ad NSc u) t.heap) A) ([.ref (ad (2 * t)), .long v] : List Value).toArray s (0) (0) A) (F0 m 28 ls []) := by
      intro k9
      induction k9 with
      | zero => intro i sz ff lf g_45 fr_46 h9; exact absurd h9 (Nat.not_lt_zero _)
      | succ k9 ih_44 =>
        intro i sz ff lf g_45 fr_46 h9 hi hsz hub hlf hdd hnz f_47 f_48 H locs ls hP hS hl
        have hlb : lf ≤ z.natAbs := by rw [hlf]; exact Nat.div_le_self _ _
        refine lv_iload hx hb dX8_put_28 (lv_at hl 0 rfl) ?_
        refine lv_iconst (v := nI 2) hx hb dX8_put_30 (by decide +kernel) ?_
        refine lv_icmp_ge (tgt := 78) hx hb dX8_put_31 (by decide) (fun c_49 => ?_) (fun c_49 => ?_)
        · have c_49 := (nI_leI (a := 2) (b := i) (by decide) (by omega)).mp c_49
          have hWN : WN ad cA g_45 t sz 1 (ff) := ⟨f_47, f_48, hub, by omega, by omega⟩
          refine W.widen (k := 0) (n := 0) (by omega) (by omega) ?_
          exact W.vret hx hb hr (fun t9 ht9 hW9 => ⟨⟨g_45, rfl, ⟨(fun (k : Nat) (hk : k ≠ 2 * t ∧ k ≠ 2 * t + 1) => (fr_46 k (by omega)).trans ((fr_42 k (by omega)).trans ((fr_39 k (by omega)).trans (rfl)))), hWN.aw hAW (fun (k : Nat) (hk : k ≠ 2 * t ∧ k ≠ 2 * t + 1) => (fr_46 k (by omega)).trans ((fr_42 k (by omega)).trans ((fr_39 k (by omega)).trans (rfl)))), _, _, _, hWN, pt_end9 hsz hdd hnz hlf (by omega), by omega⟩, by show va_P (dC, dI) vwCl _ t9.heap; rw [ht9]; exact hP⟩, hS.F ht9⟩) hS.2.2 dX8_put_78
        · have c_49 := mt (nI_leI (a := 2) (b := i) (by decide) (by omega)).mpr c_49
          refine lv_iload hx hb dX8_put_34 (lv_at hl 0 rfl) ?_
          refine lv_aload_n hx hb dX8_put_36 rfl (lv_at hl 2 rfl) ?_
          refine m_get (D := (dC, dI)) (v := .ref (ad (2 * t + 1))) (C := RX8) (T := TX8) (N := 3) hx hb hts bk0 hown hK hP (2 * t) (ns_w (by omega)) f_47 rfl 0 (by decide) (hts (.fieldLink RX8 9 "GradientDesk$Whole" "words" "[I") (List.mem_of_getElem? (i := 7) rfl)) (fun _ h9 => h9) rfl dX8_put_37 ?_
          refine m_alen hx hb hK hP (2 * t + 1) (ns_w (by omega)) f_48 dX8_put_40 ?_
          refine lv_icmp_ge (tgt := 78) hx hb dX8_put_41 (by decide) (fun c_50 => ?_) (fun c_50 => ?_)
          · have c_50 := (nI_leI (a := (rmc t)) (b := i) (by omega) (by omega)).mp c_50
            have hWN : WN ad cA g_45 t sz 1 (ff) := ⟨f_47, f_48, hub, by omega, by omega⟩
            refine W.widen (k := 0) (n := 0) (by omega) (by omega) ?_
            exact W.vret hx hb hr (fun t9 ht9 hW9 => ⟨⟨g_45, rfl, ⟨(fun (k : Nat) (hk : k ≠ 2 * t ∧ k ≠ 2 * t + 1) => (fr_46 k (by omega)).trans ((fr_42 k (by omega)).trans ((fr_39 k (by omega)).trans (rfl)))), hWN.aw hAW (fun (k : Nat) (hk : k ≠ 2 * t ∧ k ≠ 2 * t + 1) => (fr_46 k (by omega)).trans ((fr_42 k (by omega)).trans ((fr_39 k (by omega)).trans (rfl)))), _, _, _, hWN, pt_end9 hsz hdd hnz hlf (by omega), by omega⟩, by show va_P (dC, dI) vwCl _ t9.heap; rw [ht9]; exact hP⟩, hS.F ht9⟩) hS.2.2 dX8_put_78
          · have c_50 := mt (nI_leI (a := (rmc t)) (b := i) (by omega) (by omega)).mpr c_50
            refine lv_lload_n hx hb dX8_put_44 rfl (lv_at hl 1 rfl) ?_
            refine lv_lconst (v := lN 0) hx hb dX8_put_45 (by decide +kernel) ?_
            refine W.lcmp hx hb dX8_put_46 ?_
            refine lv_if_eq (tgt := 78) hx hb dX8_put_47 (by decide) (fun c_51 => ?_) (fun c_51 => ?_)
            · have c_51 := (pk_lEQ (a := lf) (b := 0) (by omega) (by decide)).mp ((k_cmp_eq (lN lf) (lN 0)).mp c_51)
              have hWN : WN ad cA g_45 t sz 1 (ff) := ⟨f_47, f_48, hub, by omega, by omega⟩
              refine W.widen (k := 0) (n := 0) (by omega) (by omega) ?_
              exact W.vret hx hb hr (fun t9 ht9 hW9 => ⟨⟨g_45, rfl, ⟨(fun (k : Nat) (hk : k ≠ 2 * t ∧ k ≠ 2 * t + 1) => (fr_46 k (by omega)).trans ((fr_42 k (by omega)).trans ((fr_39 k (by omega)).trans (rfl)))), hWN.aw hAW (fun (k : Nat) (hk : k ≠ 2 * t ∧ k ≠ 2 * t + 1) => (fr_46 k (by omega)).trans ((fr_42 k (by omega)).trans ((fr_39 k (by omega)).trans (rfl)))), _, _, _, hWN, pt_end9 hsz hdd hnz hlf (by omega), by omega⟩, by show va_P (dC, dI) vwCl _ t9.heap; rw [ht9]; exact hP⟩, hS.F ht9⟩) hS.2.2 dX8_put_78
            · have c_51 := mt (pk_lEQ (a := lf) (b := 0) (by omega) (by decide)).mpr (mt (k_cmp_eq (lN lf) (lN 0)).mpr c_51)
              refine lv_aload_n hx hb dX8_put_50 rfl (lv_at hl 2 rfl) ?_
              refine m_get (D := (dC, dI)) (v := .ref (ad (2 * t + 1))) (C := RX8) (T := TX8) (N := 3) hx hb hts bk0 hown hK hP (2 * t) (ns_w (by omega)) f_47 rfl 0 (by decide) (hts (.fieldLink RX8 9 "GradientDesk$Whole" "words" "[I") (List.mem_of_getElem? (i := 7) rfl)) (fun _ h9 => h9) rfl dX8_put_51 ?_
              refine lv_iload hx hb dX8_put_54 (lv_at hl 0 rfl) ?_
              refine lv_lload_n hx hb dX8_put_56 rfl (lv_at hl 1 rfl) ?_
              refine lv_l2i hx hb dX8_put_57 rfl ?_
              refine lv_topi (fun x_52 e_53 => ?_)
              obtain rfl : x_52 = nI lf := e_53.trans (lN_i lf)
              rw [show nI lf = nI (lf % 4294967296) from nI_md _]
              refine m_iast hx hb hK hP hD hS (2 * t + 1) (ns_w (by omega)) (tyc_w (by omega)) f_48 (i := i) (x := nI (lf % 4294967296)) (by omega) (by omega) dX8_put_58 (fun H locs g_54 f_55 fr_56 hP hS => ?_)
              rw [k_updI] at f_55
              have b_57 : ∀ j, (va_up ff i (lf % 4294967296)) j < 4294967296 := k_up_lt hub (by omega)
              have f_55 : g_54 (2 * t + 1) = .inl (cA (2 * t + 1), rmc t, .inl (fun j => nI ((va_up ff i (lf % 4294967296)) j))) := f_55
              refine lv_lload_n hx hb dX8_put_59 rfl (lv_at hl 1 rfl) ?_
              refine lv_bipush (v := nI 32) hx hb dX8_put_60 (by decide +kernel) ?_
              refine lv_lushr hx hb dX8_put_62 rfl ?_
              refine lv_topl (fun y_58 e_59 => ?_)
              obtain rfl : y_58 = lN (lf / 4294967296) := e_59.trans ((wb_shr (n := lf) (k := 32) (by omega) (by decide)).trans rfl)
              refine lv_lstore_n (lv' := [(3, .long (lN (lf / 4294967296))), (5, .int (nI i)), (0, .ref (ad (2 * t)))]) hx hb dX8_put_63 rfl hl (by decide) rfl (fun ls hl => ?_)
              refine lv_aload_n hx hb dX8_put_64 rfl (lv_at hl 2 rfl) ?_
              refine lv_iload hx hb dX8_put_65 (lv_at hl 1 rfl) ?_
              refine lv_iconst (v := nI 1) hx hb dX8_put_67 (by decide +kernel) ?_
              refine lv_iadd hx hb dX8_put_68 ?_
              refine lv_topi (fun x_60 e_61 => ?_)
              obtain rfl : x_60 = nI (i + 1) := e_61.trans (nI_add i 1)
              have f_62 : g_54 (2 * t) = .inr (11, [.ref (ad (2 * t + 1)), .int (nI sz), .int (nI 1)]) := (fr_56 (2 * t) (by omega)).trans f_47
              refine m_put (D := (dC, dI)) (v := .int (nI (i + 1))) (tv := .int) (C := RX8) (T := TX8) (N := 3) hx hb hts bk0 tyX8 tyX8_ok nmX8 hown hK hP hD hS (2 * t) (ns_w (by omega)) f_62 rfl 1 (by decide) (hts (.fieldLink RX8 15 "GradientDesk$Whole" "size" "I") (List.mem_of_getElem? (i := 6) rfl)) (fun _ h9 => h9) rfl (by decide +kernel) rfl rfl (Nat.le_of_ble_eq_true rfl) dX8_put_69 (fun H locs g_63 f_64 fr_65 hP hS => ?_)
              have f_64 : g_63 (2 * t) = .inr (11, [.ref (ad (2 * t + 1)), .int (nI (i + 1)), .int (nI 1)]) := f_64
              refine lv_iinc (v := nI (i + 1)) (lv' := [(5, .int (nI (i + 1))), (3, .long (lN (lf / 4294967296))), (0, .ref (ad (2 * t)))]) hx hb dX8_put_72 hl (k := 1) rfl (nI_add i 1) (by decide) rfl (fun ls hl => ?_)
              refine lv_goto (tgt := 28) hx hb dX8_put_75 (by decide) ?_
              have f_68 : g_63 (2 * t + 1) = .inl (cA (2 * t + 1), rmc t, .inl (fun j => nI ((va_up ff i (lf % 4294967296)) j))) := (fr_65 (2 * t + 1) (by omega)).trans f_55
              exact ih_44 (i + 1) (i + 1) (va_up ff i (lf % 4294967296)) (lf / 4294967296) g_63 (fun (k : Nat) (hk : k ≠ 2 * t ∧ k ≠ 2 * t + 1) => (fr_65 k (by omega)).trans ((fr_56 k (by omega)).trans ((fr_46 k (by omega)).trans (rfl)))) (by omega) (by omega) (by omega) b_57 (by rw [hlf, Nat.pow_succ, Nat.div_div_eq_div_mul]) (fun j hj => by by_cases h9 : j = i; rw [h9, va_up_self, hlf]; rfl; rw [va_up_ne _ _ h9]; exact hdd j (by omega)) (Or.inr (by rw [Nat.add_sub_cancel, ← hlf]; omega)) f_64 f_68 _ _ _ hP hS (lv_sub (l' := [(5, .int (nI (i + 1))), (3, .long (lN (lf / 4294967296))), (0, .ref (ad (2 * t)))]) hl [0, 1, 2] rfl)
    have f_69 : g_40 (2 * t + 1) = .inl (cA (2 * t + 1), rmc t, .inl (fun j => nI (ft9 j))) := (fr_42 (2 * t + 1) (by omega)).trans ((fr_39 (2 * t + 1) (by omega)).trans bt9)
    exact loop_43 _ 0 0 ft9 z.natAbs g_40 (fun (k : Nat) (hk : k ≠ 2 * t ∧ k ≠ 2 * t + 1) => rfl) (Nat.lt_succ_self _) (by omega) rfl ut9 (by rw [Nat.pow_zero, Nat.div_one]) (fun j hj => absurd hj (by omega)) (Or.inl rfl) f_41 f_69 _ _ _ hP hS (lv_sub (l' := [(5, .int (nI 0)), (3, .long (lN z.natAbs)), (0, .ref (ad (2 * t)))]) hl [0, 1, 2] rfl)
def wd_V8_become : List Cond := .code yX8_become cX8_become 2 none :: (([.fieldLink RX8 15 "GradientDesk$Whole" "size" "I", .fieldLink RX8 9 "GradientDesk$Whole" "words" "[I", .methodLink RX8 29 Lib.Math.min.name, .static Lib.Math.min.name, .initialized "java/lang/Math", .code Lib.Math.min.name Lib.Math.min.code 2 (some .int), .methodLink RX8 33 arraycopyName, .native arraycopyName, .static arraycopyName, .initialized "java/lang/System", .fieldLink RX8 19 "GradientDesk$Whole" "below" "Z"] : List Cond) ++ (u_ws RX8 TX8 3 ++ ([])))
theorem gw_V8_become : wd_V8_become.all goodWord = true := k_allc rfl (k_all (by decide +kernel) (k_all (gu_X8) (rfl)))
set_option maxHeartbeats 4000000 in
set_option maxRecDepth 100000 in
theorem c_V8_become (l : Launch) (dC : Nat → ClassId) (dI : Nat → Nat → Nat) (A : Nat → Prop) (ad : Nat → Nat) (cA : Nat → ClassId) (g : Nat → va_E) (t : Nat) (x : Nat) (v : Int) (hAW : AW ad cA g) (it : t < 1038) (ix : x < 1038) (vx : WV ad cA g x v) (hne : t ≠ x) (hfit : v.natAbs < 4294967296 ^ rmc t) : Met l yX8_become wd_V8_become ({ frames := 10, cells := 0, slots := 0, locals := 200 }) (va_Pc [.ref (ad (2 * t)), .ref (ad (2 * x))] (PR NSc tyc dC dI A ad cA g)) (va_Qv (fun (u : Nat → va_E) => match u with | g2 => (∀ k, k ≠ 2 * t ∧ k ≠ 2 * t + 1 → g2 k = g k) ∧ AW ad cA g2 ∧ WV ad cA g2 t v) (fun (u : Nat → va_E) (t : State) => va_P (dC, dI) vwCl (wo ad NSc u) t.heap) A) (0) (0) A := by
  refine Met.ofW (cc := cX8_become) (maxL := 2) (ret := none) (by decide) rfl ?_
  intro p e s m args below meth c s₁ B hml hv
  obtain ⟨rfl, hA, hP, hL⟩ := hv
  have hx := B.exec
  have hb := B.bytes
  have hr := B.returns
  have hts := atoms_spec (ws := wd_V8_become) B.pre
  have hown : s.vm.findClass RX8 = some m.cls := findClass_of_methodNamed B.named
  have hlocks := B.notSynchronized
  have hK := hL.1
  have hD : ∀ g, va_D A (wo ad NSc g) := fun g => wo_D hL.2.1 hL.2.2 g
  have hS : va_S A s.heap s.heap [] := va_S.rf
  have bk0 : ∀ w ∈ u_ws RX8 TX8 3, w ∈ wd_V8_become := fun _ h => List.mem_cons_of_mem _ (List.mem_append_right _ (List.mem_append_left _ h))
  have hl := lv_entry ([.ref (ad (2 * t)), .ref (ad (2 * x))]) (n := 2) (Nat.le_of_ble_eq_true rfl)
  rw [lg_entry_eq]
  generalize (lg_sl ([.ref (ad (2 * t)), .ref (ad (2 * x))]) ++ List.replicate (2 - (lg_sl ([.ref (ad (2 * t)), .ref (ad (2 * x))])).length) Slot.unset).toArray = ls at hl ⊢
  have hl : lv_has ls 2 [(0, .ref (ad (2 * t))), (1, .ref (ad (2 * x)))] := hl
  obtain ⟨st9, nt9, ft9, at9, bt9, ut9, ct9, et9⟩ := AW.wn hAW it
  have qt9 := rmc_le t
  obtain ⟨sx9, nx9, fx9, ⟨ax9, bx9, ux9, cx9, ex9⟩, rx9, gx9⟩ := vx
  have qx9 := rmc_le x
  refine lv_aload_n hx hb dX8_become_0 rfl (lv_at hl 0 rfl) ?_
  refine lv_aload_n hx hb dX8_become_1 rfl (lv_at hl 1 rfl) ?_
  refine m_get (D := (dC, dI)) (v := .int (nI sx9)) (C := RX8) (T := TX8) (N := 3) hx hb hts bk0 hown hK hP (2 * x) (ns_w (by omega)) ax9 rfl 1 (by decide) (hts (.fieldLink RX8 15 "GradientDesk$Whole" "size" "I") (List.mem_of_getElem? (i := 1) rfl)) (fun _ h9 => h9) rfl dX8_become_2 ?_
  refine lv_aload_n hx hb dX8_become_5 rfl (lv_at hl 0 rfl) ?_
  refine m_get (D := (dC, dI)) (v := .ref (ad (2 * t + 1))) (C := RX8) (T := TX8) (N := 3) hx hb hts bk0 hown hK hP (2 * t) (ns_w (by omega)) at9 rfl 0 (by decide) (hts (.fieldLink RX8 9 "GradientDesk$Whole" "words" "[I") (List.mem_of_getElem? (i := 2) rfl)) (fun _ h9 => h9) rfl dX8_become_6 ?_
  refine m_alen hx hb hK hP (2 * t + 1) (ns_w (by omega)) bt9 dX8_become_9 ?_
  refine va_mmin hx hb (by rw [hml]; exact hl.1.symm) hown (hts (.methodLink RX8 29 Lib.Math.min.name) (List.mem_of_getElem? (i := 3) rfl)) (hts (.static Lib.Math.min.name) (List.mem_of_getElem? (i := 4) rfl)) (hts (.initialized "java/lang/Math") (List.mem_of_getElem? (i := 5) rfl)) (hts (.code Lib.Math.min.name Lib.Math.min.code 2 (some .int)) (List.mem_of_getElem? (i := 6) rfl)) (Nat.le_of_ble_eq_true rfl) (Nat.le_of_ble_eq_true rfl) (Nat.le_of_ble_eq_true rfl) (Nat.le_of_ble_eq_true rfl) dX8_become_10 ?_
  refine lv_topi (fun x_2 e_3 => ?_)
  obtain ⟨q_1, hq_1, eq_1⟩ : ∃ z : Nat, z = min sx9 (rmc t) ∧ x_2 = nI z := ⟨_, rfl, by rw [e_3]; exact k_min (by omega) (by omega)⟩
  subst eq_1
  have hsm : q_1 = sx9 := by have h9 := rx9.le_of hfit; omega
  rw [hsm]
  refine m_put (D := (dC, dI)) (v := .int (nI sx9)) (tv := .int) (C := RX8) (T := TX8) (N := 3) hx hb hts bk0 tyX8 tyX8_ok nmX8 hown hK hP hD hS (2 * t) (ns_w (by omega)) at9 rfl 1 (by decide) (hts (.fieldLink RX8 15 "GradientDesk$Whole" "size" "I") (List.mem_of_getElem? (i := 1) rfl)) (fun _ h9 => h9) rfl (by decide +kernel) rfl rfl (Nat.le_of_ble_eq_true rfl) dX8_become_13 (fun H locs g_4 f_5 fr_6 hP hS => ?_)
  have f_5 : g_4 (2 * t) = .inr (11, [.ref (ad (2 * t + 1)), .int (nI sx9), .int (nI nt9)]) := f_5
  refine lv_aload_n hx hb dX8_become_16 rfl (lv_at hl 1 rfl) ?_
  have f_7 : g_4 (2 * x) = .inr (11, [.ref (ad (2 * x + 1)), .int (nI sx9), .int (nI nx9)]) := (fr_6 (2 * x) (by omega)).trans ax9
  refine m_get (D := (dC, dI)) (v := .ref (ad (2 * x + 1))) (C := RX8) (T := TX8) (N := 3) hx hb hts bk0 hown hK hP (2 * x) (ns_w (by omega)) f_7 rfl 0 (by decide) (hts (.fieldLink RX8 9 "GradientDesk$Whole" "words" "[I") (List.mem_of_getElem? (i := 2) rfl)) (fun _ h9 => h9) rfl dX8_become_17 ?_
  refine lv_iconst (v := nI 0) hx hb dX8_become_20 (by decide +kernel) ?_
  refine lv_aload_n hx hb dX8_become_21 rfl (lv_at hl 0 rfl) ?_
  refine m_get (D := (dC, dI)) (v := .ref (ad (2 * t + 1))) (C := RX8) (T := TX8) (N := 3) hx hb hts bk0 hown hK hP (2 * t) (ns_w (by omega)) f_5 rfl 0 (by decide) (hts (.fieldLink RX8 9 "GradientDesk$Whole" "words" "[I") (List.mem_of_getElem? (i := 2) rfl)) (fun _ h9 => h9) rfl dX8_become_22 ?_
  refine lv_iconst (v := nI 0) hx hb dX8_become_25 (by decide +kernel) ?_
  refine lv_aload_n hx hb dX8_become_26 rfl (lv_at hl 0 rfl) ?_
  refine m_get (D := (dC, dI)) (v := .int (nI sx9)) (C := RX8) (T := TX8) (N := 3) hx hb hts bk0 hown hK hP (2 * t) (ns_w (by omega)) f_5 rfl 1 (by decide) (hts (.fieldLink RX8 15 "GradientDesk$Whole" "size" "I") (List.mem_of_getElem? (i := 1) rfl)) (fun _ h9 => h9) rfl dX8_become_27 ?_
  have f_8 : g_4 (2 * x + 1) = .inl (cA (2 * x + 1), rmc x, .inl (fun j => nI (fx9 j))) := (fr_6 (2 * x + 1) (by omega)).trans bx9
  have f_9 : g_4 (2 * t + 1) = .inl (cA (2 * t + 1), rmc t, .inl (fun j => nI (ft9 j))) := (fr_6 (2 * t + 1) (by omega)).trans bt9
  refine m_copyi hx hb (by rw [hml]; exact hl.1.symm) hown (hts (.methodLink RX8 33 arraycopyName) (List.mem_of_getElem? (i := 7) rfl)) (hts (.native arraycopyName) (List.mem_of_getElem? (i := 8) rfl)) (hts (.static arraycopyName) (List.mem_of_getElem? (i := 9) rfl)) (hts (.initialized "java/lang/System") (List.mem_of_getElem? (i := 10) rfl)) hK hP hD hS (2 * x + 1) (2 * t + 1) (ns_w (by omega)) (ns_w (by omega)) (tyc_w (by omega)) (tyc_w (by omega)) f_8 f_9 (z := sx9) (by omega) (by omega) (by omega) (Nat.le_of_ble_eq_true rfl) (Nat.le_of_ble_eq_true rfl) dX8_become_30 (fun H locs g_10 f_11 fr_12 hP hS => ?_)
  rw [cpy_n] at f_11
  have ub_13 : ∀ j, (fun j => if j < sx9 then fx9 j else ft9 j) j < 4294967296 := fun j => by show (if j < sx9 then fx9 j else ft9 j) < _; split; exact ux9 j; exact ut9 j
  refine lv_aload_n hx hb dX8_become_33 rfl (lv_at hl 0 rfl) ?_
  refine lv_aload_n hx hb dX8_become_34 rfl (lv_at hl 1 rfl) ?_
  have f_14 : g_10 (2 * x) = .inr (11, [.ref (ad (2 * x + 1)), .int (nI sx9), .int (nI nx9)]) := (fr_12 (2 * x) (by omega)).trans f_7
  refine m_get (D := (dC, dI)) (v := .int (nI nx9)) (C := RX8) (T := TX8) (N := 3) hx hb hts bk0 hown hK hP (2 * x) (ns_w (by omega)) f_14 rfl 2 (by decide) (hts (.fieldLink RX8 19 "GradientDesk$Whole" "below" "Z") (List.mem_of_getElem? (i := 11) rfl)) (fun _ h9 => h9) rfl dX8_become_35 ?_
  have f_15 : g_10 (2 * t) = .inr (11, [.ref (ad (2 * t + 1)), .int (nI sx9), .int (nI nt9)]) := (fr_12 (2 * t) (by omega)).trans f_5
  refine m_put (D := (dC, dI)) (v := .int (nI nx9)) (tv := .boolean) (C := RX8) (T := TX8) (N := 3) hx hb hts bk0 tyX8 tyX8_ok nmX8 hown hK hP hD hS (2 * t) (ns_w (by omega)) f_15 rfl 2 (by decide) (hts (.fieldLink RX8 19 "GradientDesk$Whole" "below" "Z") (List.mem_of_getElem? (i := 11) rfl)) (fun _ h9 => h9) rfl (by decide +kernel) (k_narZ2 (by omega)) (k_fitZ2 (by omega)) (Nat.le_of_ble_eq_true rfl) dX8_become_38 (fun H locs g_16 f_17 fr_18 hP hS => ?_)
  have f_17 : g_16 (2 * t) = .inr (11, [.ref (ad (2 * t + 1)), .int (nI sx9), .int (nI nx9)]) := f_17
  have f_19 : g_16 (2 * t + 1) = .inl (cA (2 * t + 1), rmc t, .inl (fun j => nI ((fun j => if j < sx9 then fx9 j else ft9 j) j))) := (fr_18 (2 * t + 1) (by omega)).trans f_11
  have hWN : WN ad cA g_16 t sx9 nx9 (fun j => if j < sx9 then fx9 j else ft9 j) := ⟨f_17, f_19, ub_13, by omega, by omega⟩
  refine W.widen (k := 0) (n := 0) (by omega) (by omega) ?_
  exact W.vret hx hb hr (fun t9 ht9 hW9 => ⟨⟨g_16, rfl, ⟨(fun (k : Nat) (hk : k ≠ 2 * t ∧ k ≠ 2 * t + 1) => (fr_18 k (by omega)).trans ((fr_12 k (by omega)).trans ((fr_6 k (by omega)).trans (rfl)))), hWN.aw hAW (fun (k : Nat) (hk : k ≠ 2 * t ∧ k ≠ 2 * t + 1) => (fr_18 k (by omega)).trans ((fr_12 k (by omega)).trans ((fr_6 k (by omega)).trans (rfl)))), _, _, _, hWN, rx9.congr (fun j hj => if_pos hj), gx9⟩, by show va_P (dC, dI) vwCl _ t9.heap; rw [ht9]; exact hP⟩, hS.F ht9⟩) hS.2.2 dX8_become_41
def wd_V8_equalTo : List Cond := .code yX8_equalTo cX8_equalTo 3 (some .boolean) :: (([.fieldLink RX8 19 "GradientDesk$Whole" "below" "Z", .fieldLink RX8 15 "GradientDesk$Whole" "size" "I", .fieldLink RX8 9 "GradientDesk$Whole" "words" "[I"] : List Cond) ++ (u_ws RX8 TX8 3 ++ ([])))
theorem gw_V8_equalTo : wd_V8_equalTo.all goodWord = true := k_allc rfl (k_all (by decide +kernel) (k_all (gu_X8) (rfl)))
set_option maxHeartbeats 4000000 in
set_option maxRecDepth 100000 in
theorem c_V8_equalTo (l : Launch) (dC : Nat → ClassId) (dI : Nat → Nat → Nat) (A : Nat → Prop) (ad : Nat → Nat) (cA : Nat → ClassId) (g : Nat → va_E) (t : Nat) (x : Nat) (v : Int) (w1 : Int) (hAW : AW ad cA g) (it : t < 1038) (ix : x < 1038) (vt : WV ad cA g t v) (vx : WV ad cA g x w1) : Met l yX8_equalTo wd_V8_equalTo ({ frames := 10, cells := 0, slots := 0, locals := 200 }) (va_Pc [.ref (ad (2 * t)), .ref (ad (2 * x))] (PR NSc tyc dC dI A ad cA g)) (va_Qi (fun (r : Int32) => fun (u : Unit) => match u with | () => (r = nI 1 ∧ v = w1) ∨ (r = nI 0 ∧ v ≠ w1)) (fun (u : Unit) (t : State) => va_P (dC, dI) vwCl (wo ad NSc g) t.heap) A) (0) (0) A := by
  refine Met.ofW (cc := cX8_equalTo) (maxL := 3) (ret := (some .boolean)) (by decide) rfl ?_
  intro p e s m args below meth c s₁ B hml hv
  obtain ⟨rfl, hA, hP, hL⟩ := hv
  have hx := B.exec
  have hb := B.bytes
  have hr := B.returns
  have hts := atoms_spec (ws := wd_V8_equalTo) B.pre
  have hown : s.vm.findClass RX8 = some m.cls := findClass_of_methodNamed B.named
  have hlocks := B.notSynchronized
  have hK := hL.1
  have hD : ∀ g, va_D A (wo ad NSc g) := fun g => wo_D hL.2.1 hL.2.2 g
  have hS : va_S A s.heap s.heap [] := va_S.rf
  have bk0 : ∀ w ∈ u_ws RX8 TX8 3, w ∈ wd_V8_equalTo := fun _ h => List.mem_cons_of_mem _ (List.mem_append_right _ (List.mem_append_left _ h))
  have hl := lv_entry ([.ref (ad (2 * t)), .ref (ad (2 * x))]) (n := 3) (Nat.le_of_ble_eq_true rfl)
  rw [lg_entry_eq]
  generalize (lg_sl ([.ref (ad (2 * t)), .ref (ad (2 * x))]) ++ List.replicate (3 - (lg_sl ([.ref (ad (2 * t)), .ref (ad (2 * x))])).length) Slot.unset).toArray = ls at hl ⊢
  have hl : lv_has ls 3 [(0, .ref (ad (2 * t))), (1, .ref (ad (2 * x)))] := hl
  obtain ⟨st9, nt9, ft9, ⟨at9, bt9, ut9, ct9, et9⟩, rt9, gt9⟩ := vt
  have qt9 := rmc_le t
  obtain ⟨sx9, nx9, fx9, ⟨ax9, bx9, ux9, cx9, ex9⟩, rx9, gx9⟩ := vx
  have qx9 := rmc_le x
  refine lv_aload_n hx hb dX8_equalTo_0 rfl (lv_at hl 0 rfl) ?_
  refine m_get (D := (dC, dI)) (v := .int (nI nt9)) (C := RX8) (T := TX8) (N := 3) hx hb hts bk0 hown hK hP (2 * t) (ns_w (by omega)) at9 rfl 2 (by decide) (hts (.fieldLink RX8 19 "GradientDesk$Whole" "below" "Z") (List.mem_of_getElem? (i := 1) rfl)) (fun _ h9 => h9) rfl dX8_equalTo_1 ?_
  refine lv_aload_n hx hb dX8_equalTo_4 rfl (lv_at hl 1 rfl) ?_
  refine m_get (D := (dC, dI)) (v := .int (nI nx9)) (C := RX8) (T := TX8) (N := 3) hx hb hts bk0 hown hK hP (2 * x) (ns_w (by omega)) ax9 rfl 2 (by decide) (hts (.fieldLink RX8 19 "GradientDesk$Whole" "below" "Z") (List.mem_of_getElem? (i := 1) rfl)) (fun _ h9 => h9) rfl dX8_equalTo_5 ?_
  refine lv_icmp_ne (tgt := 22) hx hb dX8_equalTo_8 (by decide) (fun c_1 => ?_) (fun c_1 => ?_)
  · have c_1 := mt (nI_eq (a := nt9) (b := nx9) (by omega) (by omega)).mpr c_1
    refine lv_iconst (v := nI 0) hx hb dX8_equalTo_22 (by decide +kernel) ?_
    refine W.widen (k := 0) (n := 0) (by omega) (by omega) ?_
    exact W.zret (v := nI 0) hx hb hr (by decide +kernel) (fun t9 ht9 hW9 => ⟨⟨nI 0, (), rfl, Or.inr ⟨rfl, fun h9 => by omega⟩, by show va_P (dC, dI) vwCl _ t9.heap; rw [ht9]; exact hP⟩, hS.F ht9⟩) hS.2.2 dX8_equalTo_23
  · have c_1 := (nI_eq (a := nt9) (b := nx9) (by omega) (by omega)).mp c_1
    refine lv_aload_n hx hb dX8_equalTo_11 rfl (lv_at hl 0 rfl) ?_
    refine m_get (D := (dC, dI)) (v := .int (nI st9)) (C := RX8) (T := TX8) (N := 3) hx hb hts bk0 hown hK hP (2 * t) (ns_w (by omega)) at9 rfl 1 (by decide) (hts (.fieldLink RX8 15 "GradientDesk$Whole" "size" "I") (List.mem_of_getElem? (i := 2) rfl)) (fun _ h9 => h9) rfl dX8_equalTo_12 ?_
    refine lv_aload_n hx hb dX8_equalTo_15 rfl (lv_at hl 1 rfl) ?_
    refine m_get (D := (dC, dI)) (v := .int (nI sx9)) (C := RX8) (T := TX8) (N := 3) hx hb hts bk0 hown hK hP (2 * x) (ns_w (by omega)) ax9 rfl 1 (by decide) (hts (.fieldLink RX8 15 "GradientDesk$Whole" "size" "I") (List.mem_of_getElem? (i := 2) rfl)) (fun _ h9 => h9) rfl dX8_equalTo_16 ?_
    refine lv_icmp_eq (tgt := 24) hx hb dX8_equalTo_19 (by decide) (fun c_2 => ?_) (fun c_2 => ?_)
    · have c_2 := (nI_eq (a := st9) (b := sx9) (by omega) (by omega)).mp c_2
      refine lv_iconst (v := nI 0) hx hb dX8_equalTo_24 (by decide +kernel) ?_
      refine lv_istore_n (lv' := [(2, .int (nI 0)), (0, .ref (ad (2 * t))), (1, .ref (ad (2 * x)))]) hx hb dX8_equalTo_25 rfl hl (by decide) rfl (fun ls hl => ?_)
      have loop_3 : ∀ (k9 : Nat) (i : Nat), 4096 - i < k9 → (i ≤ st9) → (∀ j, j < i → ft9 j = fx9 j) → ∀ (H : Heap) (locs : List Loc) (ls : Array Slot), va_P (dC, dI) vwCl (wo ad NSc g) H → va_S A s.heap H locs → lv_has ls 3 [(0, .ref (ad (2 * t))), (1, .ref (ad (2 * x))), (2, .int (nI i))] → W p l e (headSpec wd_V8_equalTo ({ frames := 10, cells := 0, slots := 0, locals := 200 })).room s m ([.ref (ad (2 * t)), .ref (ad (2 * x))] : List Value).toArray below meth c H locs (0) (0) (MQ below (va_Qi (fun (r : Int32) => fun (u : Unit) => match u with | () => (r = nI 1 ∧ v = w1) ∨ (r = nI 0 ∧ v ≠ w1)) (fun (u : Unit) (t : State) => va_P (dC, dI) vwCl (wo ad NSc g) t.heap) A) ([.ref (ad (2 * t)), .ref (ad (2 * x))] : List Value).toArray s (0) (0) A) (F0 m 26 ls []) := by
        intro k9
        induction k9 with
        | zero => intro i h9; exact absurd h9 (Nat.not_lt_zero _)
        | succ k9 ih_4 =>
          intro i h9 hi hee H locs ls hP hS hl
          refine lv_iload_n hx hb dX8_equalTo_26 rfl (lv_at hl 2 rfl) ?_
          refine lv_aload_n hx hb dX8_equalTo_27 rfl (lv_at hl 0 rfl) ?_
          refine m_get (D := (dC, dI)) (v := .int (nI st9)) (C := RX8) (T := TX8) (N := 3) hx hb hts bk0 hown hK hP (2 * t) (ns_w (by omega)) at9 rfl 1 (by decide) (hts (.fieldLink RX8 15 "GradientDesk$Whole" "size" "I") (List.mem_of_getElem? (i := 2) rfl)) (fun _ h9 => h9) rfl dX8_equalTo_28 ?_
          refine lv_icmp_ge (tgt := 57) hx hb dX8_equalTo_31 (by decide) (fun c_7 => ?_) (fun c_7 => ?_)
          · have c_7 := (nI_leI (a := st9) (b := i) (by omega) (by omega)).mp c_7
            refine lv_iconst (v := nI 1) hx hb dX8_equalTo_57 (by decide +kernel) ?_
            refine W.widen (k := 0) (n := 0) (by omega) (by omega) ?_
            exact W.zret (v := nI 1) hx hb hr (by decide +kernel) (fun t9 ht9 hW9 => ⟨⟨nI 1, (), rfl, Or.inl ⟨rfl, by have h9 := rp_eq rt9 ((show st9 = sx9 by omega) ▸ rx9) (fun j hj => hee j (by omega)); omega⟩, by show va_P (dC, dI) vwCl _ t9.heap; rw [ht9]; exact hP⟩, hS.F ht9⟩) hS.2.2 dX8_equalTo_58
          · have c_7 := mt (nI_leI (a := st9) (b := i) (by omega) (by omega)).mpr c_7
            refine lv_aload_n hx hb dX8_equalTo_34 rfl (lv_at hl 0 rfl) ?_
            refine m_get (D := (dC, dI)) (v := .ref (ad (2 * t + 1))) (C := RX8) (T := TX8) (N := 3) hx hb hts bk0 hown hK hP (2 * t) (ns_w (by omega)) at9 rfl 0 (by decide) (hts (.fieldLink RX8 9 "GradientDesk$Whole" "words" "[I") (List.mem_of_getElem? (i := 3) rfl)) (fun _ h9 => h9) rfl dX8_equalTo_35 ?_
            refine lv_iload_n hx hb dX8_equalTo_38 rfl (lv_at hl 2 rfl) ?_
            refine m_iald hx hb hK hP (2 * t + 1) (ns_w (by omega)) (tyc_w (by omega)) bt9 (i := i) (by omega) (by omega) dX8_equalTo_39 ?_
            have b_8 := ut9 i
            refine lv_aload_n hx hb dX8_equalTo_40 rfl (lv_at hl 1 rfl) ?_
            refine m_get (D := (dC, dI)) (v := .ref (ad (2 * x + 1))) (C := RX8) (T := TX8) (N := 3) hx hb hts bk0 hown hK hP (2 * x) (ns_w (by omega)) ax9 rfl 0 (by decide) (hts (.fieldLink RX8 9 "GradientDesk$Whole" "words" "[I") (List.mem_of_getElem? (i := 3) rfl)) (fun _ h9 => h9) rfl dX8_equalTo_41 ?_
            refine lv_iload_n hx hb dX8_equalTo_44 rfl (lv_at hl 2 rfl) ?_
            refine m_iald hx hb hK hP (2 * x + 1) (ns_w (by omega)) (tyc_w (by omega)) bx9 (i := i) (by omega) (by omega) dX8_equalTo_45 ?_
            have b_9 := ux9 i
            refine lv_icmp_eq (tgt := 51) hx hb dX8_equalTo_46 (by decide) (fun c_10 => ?_) (fun c_10 => ?_)
            · have c_10 := (k_weq (a := (ft9 i)) (b := (fx9 i)) (by omega) (by omega)).mp c_10
              refine lv_iinc (v := nI (i + 1)) (lv' := [(2, .int (nI (i + 1))), (0, .ref (ad (2 * t))), (1, .ref (ad (2 * x)))]) hx hb dX8_equalTo_51 hl (k := 2) rfl (nI_add i 1) (by decide) rfl (fun ls hl => ?_)
              refine lv_goto (tgt := 26) hx hb dX8_equalTo_54 (by decide) ?_
              exact ih_4 (i + 1) (by omega) (by omega) (fun j hj => by by_cases h9 : j = i; subst h9; exact c_10; exact hee j (by omega)) _ _ _ hP hS (lv_sub (l' := [(0, .ref (ad (2 * t))), (1, .ref (ad (2 * x))), (2, .int (nI (i + 1)))]) hl [1, 2, 0] rfl)
            · have c_10 := mt (k_weq (a := (ft9 i)) (b := (fx9 i)) (by omega) (by omega)).mpr c_10
              refine lv_iconst (v := nI 0) hx hb dX8_equalTo_49 (by decide +kernel) ?_
              refine W.widen (k := 0) (n := 0) (by omega) (by omega) ?_
              exact W.zret (v := nI 0) hx hb hr (by decide +kernel) (fun t9 ht9 hW9 => ⟨⟨nI 0, (), rfl, Or.inr ⟨rfl, fun h9 => by have h8 := rp_ne rt9 ((show sx9 = st9 by omega) ▸ rx9) (j := i) (by omega) c_10; omega⟩, by show va_P (dC, dI) vwCl _ t9.heap; rw [ht9]; exact hP⟩, hS.F ht9⟩) hS.2.2 dX8_equalTo_50
      exact loop_3 _ 0 (Nat.lt_succ_self _) (by omega) (fun j hj => absurd hj (by omega)) _ _ _ hP hS (lv_sub (l' := [(0, .ref (ad (2 * t))), (1, .ref (ad (2 * x))), (2, .int (nI 0))]) hl [1, 2, 0] rfl)
    · have c_2 := mt (nI_eq (a := st9) (b := sx9) (by omega) (by omega)).mpr c_2
      refine lv_iconst (v := nI 0) hx hb dX8_equalTo_22 (by decide +kernel) ?_
      refine W.widen (k := 0) (n := 0) (by omega) (by omega) ?_
      exact W.zret (v := nI 0) hx hb hr (by decide +kernel) (fun t9 ht9 hW9 => ⟨⟨nI 0, (), rfl, Or.inr ⟨rfl, fun h9 => by subst h9; exact absurd (rt9.len rx9) (by omega)⟩, by show va_P (dC, dI) vwCl _ t9.heap; rw [ht9]; exact hP⟩, hS.F ht9⟩) hS.2.2 dX8_equalTo_23
def wd_V8_order : List Cond := .code yX8_orderOfSizes cX8_orderOfSizes 3 (some .int) :: (([.fieldLink RX8 15 "GradientDesk$Whole" "size" "I", .fieldLink RX8 9 "GradientDesk$Whole" "words" "[I", .constantLong RX8 48 (4294967295)] : List Cond) ++ (u_ws RX8 TX8 3 ++ ([])))
theorem gw_V8_order : wd_V8_order.all goodWord = true := k_allc rfl (k_all (by decide +kernel) (k_all (gu_X8) (rfl)))
set_option maxHeartbeats 4000000 in
set_option maxRecDepth 100000 in
theorem c_V8_order (l : Launch) (dC : Nat → ClassId) (dI : Nat → Nat → Nat) (A : Nat → Prop) (ad : Nat → Nat) (cA : Nat → ClassId) (g : Nat → va_E) (t : Nat) (x : Nat) (v : Int) (w1 : Int) (hAW : AW ad cA g) (it : t < 1038) (ix : x < 1038) (vt : WV ad cA g t v) (vx : WV ad cA g x w1) : Met l yX8_orderOfSizes wd_V8_order ({ frames := 10, cells := 0, slots := 0, locals := 200 }) (va_Pc [.ref (ad (2 * t)), .ref (ad (2 * x))] (PR NSc tyc dC dI A ad cA g)) (va_Qi (fun (r : Int32) => fun (u : Unit) => match u with | () => (r = -1 ∧ v.natAbs < w1.natAbs) ∨ (r = nI 0 ∧ v.natAbs = w1.natAbs) ∨ (r = nI 1 ∧ w1.natAbs < v.natAbs)) (fun (u : Unit) (t : State) => va_P (dC, dI) vwCl (wo ad NSc g) t.heap) A) (0) (0) A := by
  refine Met.ofW (cc := cX8_orderOfSizes) (maxL := 3) (ret := (some .int)) (by decide) rfl ?_
  intro p e s m args below meth c s₁ B hml hv
  obtain ⟨rfl, hA, hP, hL⟩ := hv
  have hx := B.exec
  have hb := B.bytes
  have hr := B.returns
  have hts := atoms_spec (ws := wd_V8_order) B.pre
  have hown : s.vm.findClass RX8 = some m.cls := findClass_of_methodNamed B.named
  have hlocks := B.notSynchronized
  have hK := hL.1
  have hD : ∀ g, va_D A (wo ad NSc g) := fun g => wo_D hL.2.1 hL.2.2 g
  have hS : va_S A s.heap s.heap [] := va_S.rf
  have bk0 : ∀ w ∈ u_ws RX8 TX8 3, w ∈ wd_V8_order := fun _ h => List.mem_cons_of_mem _ (List.mem_append_right _ (List.mem_append_left _ h))
  have hl := lv_entry ([.ref (ad (2 * t)), .ref (ad (2 * x))]) (n := 3) (Nat.le_of_ble_eq_true rfl)
  rw [lg_entry_eq]
  generalize (lg_sl ([.ref (ad (2 * t)), .ref (ad (2 * x))]) ++ List.replicate (3 - (lg_sl ([.ref (ad (2 * t)), .ref (ad (2 * x))])).length) Slot.unset).toArray = ls at hl ⊢
  have hl : lv_has ls 3 [(0, .ref (ad (2 * t))), (1, .ref (ad (2 * x)))] := hl
  obtain ⟨st9, nt9, ft9, ⟨at9, bt9, ut9, ct9, et9⟩, rt9, gt9⟩ := vt
  have qt9 := rmc_le t
  obtain ⟨sx9, nx9, fx9, ⟨ax9, bx9, ux9, cx9, ex9⟩, rx9, gx9⟩ := vx
  have qx9 := rmc_le x
  refine lv_aload_n hx hb dX8_orderOfSizes_0 rfl (lv_at hl 0 rfl) ?_
  refine m_get (D := (dC, dI)) (v := .int (nI st9)) (C := RX8) (T := TX8) (N := 3) hx hb hts bk0 hown hK hP (2 * t) (ns_w (by omega)) at9 rfl 1 (by decide) (hts (.fieldLink RX8 15 "GradientDesk$Whole" "size" "I") (List.mem_of_getElem? (i := 1) rfl)) (fun _ h9 => h9) rfl dX8_orderOfSizes_1 ?_
  refine lv_aload_n hx hb dX8_orderOfSizes_4 rfl (lv_at hl 1 rfl) ?_
  refine m_get (D := (dC, dI)) (v := .int (nI sx9)) (C := RX8) (T := TX8) (N := 3) hx hb hts bk0 hown hK hP (2 * x) (ns_w (by omega)) ax9 rfl 1 (by decide) (hts (.fieldLink RX8 15 "GradientDesk$Whole" "size" "I") (List.mem_of_getElem? (i := 1) rfl)) (fun _ h9 => h9) rfl dX8_orderOfSizes_5 ?_
  refine lv_icmp_eq (tgt := 28) hx hb dX8_orderOfSizes_8 (by decide) (fun c_1 => ?_) (fun c_1 => ?_)
  · have c_1 := (nI_eq (a := st9) (b := sx9) (by omega) (by omega)).mp c_1
    have hss : sx9 = st9 := by omega
    have rx8 := rx9
    rw [hss] at rx8
    refine lv_aload_n hx hb dX8_orderOfSizes_28 rfl (lv_at hl 0 rfl) ?_
    refine m_get (D := (dC, dI)) (v := .int (nI st9)) (C := RX8) (T := TX8) (N := 3) hx hb hts bk0 hown hK hP (2 * t) (ns_w (by omega)) at9 rfl 1 (by decide) (hts (.fieldLink RX8 15 "GradientDesk$Whole" "size" "I") (List.mem_of_getElem? (i := 1) rfl)) (fun _ h9 => h9) rfl dX8_orderOfSizes_29 ?_
    refine lv_iconst (v := nI 1) hx hb dX8_orderOfSizes_32 (by decide +kernel) ?_
    refine lv_isub hx hb dX8_orderOfSizes_33 ?_
    refine lv_istore_n (lv' := [(2, .int (nI st9 - nI 1)), (0, .ref (ad (2 * t))), (1, .ref (ad (2 * x)))]) hx hb dX8_orderOfSizes_34 rfl hl (by decide) rfl (fun ls hl => ?_)
    have loop_2 : ∀ (k9 : Nat) (d : Nat), d < k9 → (d ≤ st9) → (∀ j, d ≤ j → j < st9 → ft9 j = fx9 j) → ∀ (H : Heap) (locs : List Loc) (ls : Array Slot), va_P (dC, dI) vwCl (wo ad NSc g) H → va_S A s.heap H locs → lv_has ls 3 [(0, .ref (ad (2 * t))), (1, .ref (ad (2 * x))), (2, .int (nI d - nI 1))] → W p l e (headSpec wd_V8_order ({ frames := 10, cells := 0, slots := 0, locals := 200 })).room s m ([.ref (ad (2 * t)), .ref (ad (2 * x))] : List Value).toArray below meth c H locs (0) (0) (MQ below (va_Qi (fun (r : Int32) => fun (u : Unit) => match u with | () => (r = -1 ∧ v.natAbs < w1.natAbs) ∨ (r = nI 0 ∧ v.natAbs = w1.natAbs) ∨ (r = nI 1 ∧ w1.natAbs < v.natAbs)) (fun (u : Unit) (t : State) => va_P (dC, dI) vwCl (wo ad NSc g) t.heap) A) ([.ref (ad (2 * t)), .ref (ad (2 * x))] : List Value).toArray s (0) (0) A) (F0 m 35 ls []) := by
      intro k9
      induction k9 with
      | zero => intro d h9; exact absurd h9 (Nat.not_lt_zero _)
      | succ k9 ih_3 =>
        intro d h9 hd hee H locs ls hP hS hl
        refine lv_iload_n hx hb dX8_orderOfSizes_35 rfl (lv_at hl 2 rfl) ?_
        refine lv_if_lt (tgt := 92) hx hb dX8_orderOfSizes_36 (by decide) (fun c_6 => ?_) (fun c_6 => ?_)
        · have c_6 := (k_m1lt (d := d) (by omega)).mp c_6
          refine lv_iconst (v := nI 0) hx hb dX8_orderOfSizes_92 (by decide +kernel) ?_
          refine W.widen (k := 0) (n := 0) (by omega) (by omega) ?_
          exact W.iret (v := nI 0) hx hb hr (fun t9 ht9 hW9 => ⟨⟨nI 0, (), rfl, Or.inr (Or.inl ⟨rfl, rp_eq rt9 rx8 (fun j hj => hee j (by omega) hj)⟩), by show va_P (dC, dI) vwCl _ t9.heap; rw [ht9]; exact hP⟩, hS.F ht9⟩) hS.2.2 dX8_orderOfSizes_93
        · have c_6 := mt (k_m1lt (d := d) (by omega)).mpr c_6
          have e_7 : nI d - nI 1 = nI (d - 1) := pk_sub (by omega)
          rw [e_7] at hl
          refine lv_aload_n hx hb dX8_orderOfSizes_39 rfl (lv_at hl 0 rfl) ?_
          refine m_get (D := (dC, dI)) (v := .ref (ad (2 * t + 1))) (C := RX8) (T := TX8) (N := 3) hx hb hts bk0 hown hK hP (2 * t) (ns_w (by omega)) at9 rfl 0 (by decide) (hts (.fieldLink RX8 9 "GradientDesk$Whole" "words" "[I") (List.mem_of_getElem? (i := 2) rfl)) (fun _ h9 => h9) rfl dX8_orderOfSizes_40 ?_
          refine lv_iload_n hx hb dX8_orderOfSizes_43 rfl (lv_at hl 2 rfl) ?_
          refine m_iald hx hb hK hP (2 * t + 1) (ns_w (by omega)) (tyc_w (by omega)) bt9 (i := d - 1) (by omega) (by omega) dX8_orderOfSizes_44 ?_
          have b_8 := ut9 (d - 1)
          refine lv_aload_n hx hb dX8_orderOfSizes_45 rfl (lv_at hl 1 rfl) ?_
          refine m_get (D := (dC, dI)) (v := .ref (ad (2 * x + 1))) (C := RX8) (T := TX8) (N := 3) hx hb hts bk0 hown hK hP (2 * x) (ns_w (by omega)) ax9 rfl 0 (by decide) (hts (.fieldLink RX8 9 "GradientDesk$Whole" "words" "[I") (List.mem_of_getElem? (i := 2) rfl)) (fun _ h9 => h9) rfl dX8_orderOfSizes_46 ?_
          refine lv_iload_n hx hb dX8_orderOfSizes_49 rfl (lv_at hl 2 rfl) ?_
          refine m_iald hx hb hK hP (2 * x + 1) (ns_w (by omega)) (tyc_w (by omega)) bx9 (i := d - 1) (by omega) (by omega) dX8_orderOfSizes_50 ?_
          have b_9 := ux9 (d - 1)
          refine lv_icmp_eq (tgt := 86) hx hb dX8_orderOfSizes_51 (by decide) (fun c_10 => ?_) (fun c_10 => ?_)
          · have c_10 := (k_weq (a := (ft9 (d - 1))) (b := (fx9 (d - 1))) (by omega) (by omega)).mp c_10
            refine lv_iinc (v := nI (d - 1) - nI 1) (lv' := [(2, .int (nI (d - 1) - nI 1)), (0, .ref (ad (2 * t))), (1, .ref (ad (2 * x)))]) hx hb dX8_orderOfSizes_86 hl (k := 2) rfl ((show nI (d - 1) + Int32.ofInt (-1) = nI (d - 1) - nI 1 from by rw [show Int32.ofInt (-1) = -nI 1 from by decide, ← Int32.sub_eq_add_neg])) (by decide) rfl (fun ls hl => ?_)
            refine lv_goto (tgt := 35) hx hb dX8_orderOfSizes_89 (by decide) ?_
            exact ih_3 (d - 1) (by omega) (by omega) (fun j h1 h2 => by by_cases h9 : j = d - 1; subst h9; exact c_10; exact hee j (by omega) h2) _ _ _ hP hS (lv_sub (l' := [(0, .ref (ad (2 * t))), (1, .ref (ad (2 * x))), (2, .int (nI (d - 1) - nI 1))]) hl [1, 2, 0] rfl)
          · have c_10 := mt (k_weq (a := (ft9 (d - 1))) (b := (fx9 (d - 1))) (by omega) (by omega)).mpr c_10
            refine lv_aload_n hx hb dX8_orderOfSizes_54 rfl (lv_at hl 0 rfl) ?_
            refine m_get (D := (dC, dI)) (v := .ref (ad (2 * t + 1))) (C := RX8) (T := TX8) (N := 3) hx hb hts bk0 hown hK hP (2 * t) (ns_w (by omega)) at9 rfl 0 (by decide) (hts (.fieldLink RX8 9 "GradientDesk$Whole" "words" "[I") (List.mem_of_getElem? (i := 2) rfl)) (fun _ h9 => h9) rfl dX8_orderOfSizes_55 ?_
            refine lv_iload_n hx hb dX8_orderOfSizes_58 rfl (lv_at hl 2 rfl) ?_
            refine m_iald hx hb hK hP (2 * t + 1) (ns_w (by omega)) (tyc_w (by omega)) bt9 (i := d - 1) (by omega) (by omega) dX8_orderOfSizes_59 ?_
            have b_13 := ut9 (d - 1)
            refine lv_i2l hx hb dX8_orderOfSizes_60 rfl ?_
            refine lv_topl (fun y_14 e_15 => ?_)
            subst e_15
            refine lv_ldc2 (v := 4294967295) hx hb hown (hts (.constantLong RX8 48 (4294967295)) (List.mem_of_getElem? (i := 3) rfl)) dX8_orderOfSizes_61 ?_
            refine lv_topl (fun y_16 e_17 => ?_)
            obtain rfl : y_16 = lN 4294967295 := e_17
            refine lv_land hx hb dX8_orderOfSizes_64 ?_
            refine lv_topl (fun y_18 e_19 => ?_)
            obtain rfl : y_18 = lN (ft9 (d - 1)) := e_19.trans (k_word b_13)
            refine lv_aload_n hx hb dX8_orderOfSizes_65 rfl (lv_at hl 1 rfl) ?_
            refine m_get (D := (dC, dI)) (v := .ref (ad (2 * x + 1))) (C := RX8) (T := TX8) (N := 3) hx hb hts bk0 hown hK hP (2 * x) (ns_w (by omega)) ax9 rfl 0 (by decide) (hts (.fieldLink RX8 9 "GradientDesk$Whole" "words" "[I") (List.mem_of_getElem? (i := 2) rfl)) (fun _ h9 => h9) rfl dX8_orderOfSizes_66 ?_
            refine lv_iload_n hx hb dX8_orderOfSizes_69 rfl (lv_at hl 2 rfl) ?_
            refine m_iald hx hb hK hP (2 * x + 1) (ns_w (by omega)) (tyc_w (by omega)) bx9 (i := d - 1) (by omega) (by omega) dX8_orderOfSizes_70 ?_
            have b_20 := ux9 (d - 1)
            refine lv_i2l hx hb dX8_orderOfSizes_71 rfl ?_
            refine lv_topl (fun y_21 e_22 => ?_)
            subst e_22
            refine lv_ldc2 (v := 4294967295) hx hb hown (hts (.constantLong RX8 48 (4294967295)) (List.mem_of_getElem? (i := 3) rfl)) dX8_orderOfSizes_72 ?_
            refine lv_topl (fun y_23 e_24 => ?_)
            obtain rfl : y_23 = lN 4294967295 := e_24
            refine lv_land hx hb dX8_orderOfSizes_75 ?_
            refine lv_topl (fun y_25 e_26 => ?_)
            obtain rfl : y_25 = lN (fx9 (d - 1)) := e_26.trans (k_word b_20)
            refine W.lcmp hx hb dX8_orderOfSizes_76 ?_
            refine lv_if_ge (tgt := 84) hx hb dX8_orderOfSizes_77 (by decide) (fun c_27 => ?_) (fun c_27 => ?_)
            · have c_27 := (pk_lLE (a := (fx9 (d - 1))) (b := (ft9 (d - 1))) (by omega) (by omega)).mp ((k_cmp_ge (lN (ft9 (d - 1))) (lN (fx9 (d - 1)))).mp c_27)
              refine lv_iconst (v := nI 1) hx hb dX8_orderOfSizes_84 (by decide +kernel) ?_
              refine W.widen (k := 0) (n := 0) (by omega) (by omega) ?_
              exact W.iret (v := nI 1) hx hb hr (fun t9 ht9 hW9 => ⟨⟨nI 1, (), rfl, Or.inr (Or.inr ⟨rfl, rp_ltd rx8 rt9 (j := d - 1) (by omega) (fun k h1 h2 => (hee k (by omega) h2).symm) (by omega)⟩), by show va_P (dC, dI) vwCl _ t9.heap; rw [ht9]; exact hP⟩, hS.F ht9⟩) hS.2.2 dX8_orderOfSizes_85
            · have c_27 := mt (pk_lLE (a := (fx9 (d - 1))) (b := (ft9 (d - 1))) (by omega) (by omega)).mpr (mt (k_cmp_ge (lN (ft9 (d - 1))) (lN (fx9 (d - 1)))).mpr c_27)
              refine lv_iconst (v := -1) hx hb dX8_orderOfSizes_80 (by decide +kernel) ?_
              refine lv_goto (tgt := 85) hx hb dX8_orderOfSizes_81 (by decide) ?_
              refine W.widen (k := 0) (n := 0) (by omega) (by omega) ?_
              exact W.iret (v := -1) hx hb hr (fun t9 ht9 hW9 => ⟨⟨-1, (), rfl, Or.inl ⟨rfl, rp_ltd rt9 rx8 (j := d - 1) (by omega) (fun k h1 h2 => hee k (by omega) h2) (by omega)⟩, by show va_P (dC, dI) vwCl _ t9.heap; rw [ht9]; exact hP⟩, hS.F ht9⟩) hS.2.2 dX8_orderOfSizes_85
    exact loop_2 _ st9 (Nat.lt_succ_self _) (by omega) (fun j h1 h2 => absurd h1 (by omega)) _ _ _ hP hS (lv_sub (l' := [(0, .ref (ad (2 * t))), (1, .ref (ad (2 * x))), (2, .int (nI st9 - nI 1))]) hl [1, 2, 0] rfl)
  · have c_1 := mt (nI_eq (a := st9) (b := sx9) (by omega) (by omega)).mpr c_1
    refine lv_aload_n hx hb dX8_orderOfSizes_11 rfl (lv_at hl 0 rfl) ?_
    refine m_get (D := (dC, dI)) (v := .int (nI st9)) (C := RX8) (T := TX8) (N := 3) hx hb hts bk0 hown hK hP (2 * t) (ns_w (by omega)) at9 rfl 1 (by decide) (hts (.fieldLink RX8 15 "GradientDesk$Whole" "size" "I") (List.mem_of_getElem? (i := 1) rfl)) (fun _ h9 => h9) rfl dX8_orderOfSizes_12 ?_
    refine lv_aload_n hx hb dX8_orderOfSizes_15 rfl (lv_at hl 1 rfl) ?_
    refine m_get (D := (dC, dI)) (v := .int (nI sx9)) (C := RX8) (T := TX8) (N := 3) hx hb hts bk0 hown hK hP (2 * x) (ns_w (by omega)) ax9 rfl 1 (by decide) (hts (.fieldLink RX8 15 "GradientDesk$Whole" "size" "I") (List.mem_of_getElem? (i := 1) rfl)) (fun _ h9 => h9) rfl dX8_orderOfSizes_16 ?_
    refine lv_icmp_ge (tgt := 26) hx hb dX8_orderOfSizes_19 (by decide) (fun c_28 => ?_) (fun c_28 => ?_)
    · have c_28 := (nI_leI (a := sx9) (b := st9) (by omega) (by omega)).mp c_28
      refine lv_iconst (v := nI 1) hx hb dX8_orderOfSizes_26 (by decide +kernel) ?_
      refine W.widen (k := 0) (n := 0) (by omega) (by omega) ?_
      exact W.iret (v := nI 1) hx hb hr (fun t9 ht9 hW9 => ⟨⟨nI 1, (), rfl, Or.inr (Or.inr ⟨rfl, rp_lt rx9 rt9 (by omega)⟩), by show va_P (dC, dI) vwCl _ t9.heap; rw [ht9]; exact hP⟩, hS.F ht9⟩) hS.2.2 dX8_orderOfSizes_27
    · have c_28 := mt (nI_leI (a := sx9) (b := st9) (by omega) (by omega)).mpr c_28
      refine lv_iconst (v := -1) hx hb dX8_orderOfSizes_22 (by decide +kernel) ?_
      refine lv_goto (tgt := 27) hx hb dX8_orderOfSizes_23 (by decide) ?_
      refine W.widen (k := 0) (n := 0) (by omega) (by omega) ?_
      exact W.iret (v := -1) hx hb hr (fun t9 ht9 hW9 => ⟨⟨-1, (), rfl, Or.inl ⟨rfl, rp_lt rt9 rx9 (by omega)⟩, by show va_P (dC, dI) vwCl _ t9.heap; rw [ht9]; exact hP⟩, hS.F ht9⟩) hS.2.2 dX8_orderOfSizes_27
