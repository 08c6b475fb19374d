section
def wd_V8_isOne : List Cond := .code yX8_isOne cX8_isOne 1 (some .boolean) :: (([.fieldLink RX8 15 "GradientDesk$Whole" "size" "I", .fieldLink RX8 9 "GradientDesk$Whole" "words" "[I", .fieldLink RX8 19 "GradientDesk$Whole" "below" "Z"] : List Cond) ++ (u_ws RX8 TX8 3 ++ ([])))
theorem gw_V8_isOne : wd_V8_isOne.all goodWord = true := k_allc rfl (k_all (by decide +kernel) (k_all (gu_X8) (rfl)))
set_option maxHeartbeats 4000000 in
set_option maxRecDepth 100000 in
theorem c_V8_isOne (l : Launch) (dC : Nat → ClassId) (dI : Nat → Nat → Nat) (A : Nat → Prop) (ad : Nat → Nat) (cA : Nat → ClassId) (g : Nat → va_E) (t : Nat) (v : Int) (hAW : AW ad cA g) (it : t < 1038) (vt : WV ad cA g t v) : Met l yX8_isOne wd_V8_isOne ({ frames := 10, cells := 0, slots := 0, locals := 200 }) (va_Pc [.ref (ad (2 * t))] (PR NSc tyc dC dI A ad cA g)) (va_Qi (fun (r : Int32) => fun (u : Unit) => match u with | () => (r = nI 1 ∧ v = 1) ∨ (r = nI 0 ∧ v ≠ 1)) (fun (u : Unit) (t : State) => va_P (dC, dI) vwCl (wo ad NSc g) t.heap) A) (0) (0) A := by
  refine Met.ofW (cc := cX8_isOne) (maxL := 1) (ret := (some .boolean)) (by decide) rfl ?_
  intro p e s m args below meth c s₁ B hml hv
  obtain ⟨rfl, hA, hP, hL⟩ := hv
  have hx := B.exec
  have hb := B.bytes
  have hr := B.returns
  have hts := atoms_spec (ws := wd_V8_isOne) B.pre
  have hown : s.vm.findClass RX8 = some m.cls := findClass_of_methodNamed B.named
  have hlocks := B.notSynchronized
  have hK := hL.1
  have hD : ∀ g, va_D A (wo ad NSc g) := fun g => wo_D hL.2.1 hL.2.2 g
  have hS : va_S A s.heap s.heap [] := va_S.rf
  have bk0 : ∀ w ∈ u_ws RX8 TX8 3, w ∈ wd_V8_isOne := fun _ h => List.mem_cons_of_mem _ (List.mem_append_right _ (List.mem_append_left _ h))
  have hl := lv_entry ([.ref (ad (2 * t))]) (n := 1) (Nat.le_of_ble_eq_true rfl)
  rw [lg_entry_eq]
  generalize (lg_sl ([.ref (ad (2 * t))]) ++ List.replicate (1 - (lg_sl ([.ref (ad (2 * t))])).length) Slot.unset).toArray = ls at hl ⊢
  have hl : lv_has ls 1 [(0, .ref (ad (2 * t)))] := hl
  obtain ⟨st9, nt9, ft9, ⟨at9, bt9, ut9, ct9, et9⟩, rt9, gt9⟩ := vt
  have qt9 := rmc_le t
  refine lv_aload_n hx hb dX8_isOne_0 rfl (lv_at hl 0 rfl) ?_
  refine m_get (D := (dC, dI)) (v := .int (nI st9)) (C := RX8) (T := TX8) (N := 3) hx hb hts bk0 hown hK hP (2 * t) (ns_w (by omega)) at9 rfl 1 (by decide) (hts (.fieldLink RX8 15 "GradientDesk$Whole" "size" "I") (List.mem_of_getElem? (i := 1) rfl)) (fun _ h9 => h9) rfl dX8_isOne_1 ?_
  refine lv_iconst (v := nI 1) hx hb dX8_isOne_4 (by decide +kernel) ?_
  refine lv_icmp_ne (tgt := 29) hx hb dX8_isOne_5 (by decide) (fun c_1 => ?_) (fun c_1 => ?_)
  · have c_1 := mt (nI_eq (a := st9) (b := 1) (by omega) (by decide)).mpr c_1
    refine lv_iconst (v := nI 0) hx hb dX8_isOne_29 (by decide +kernel) ?_
    refine W.widen (k := 0) (n := 0) (by omega) (by omega) ?_
    exact W.zret (v := nI 0) hx hb hr (by decide +kernel) (fun t9 ht9 hW9 => ⟨⟨nI 0, (), rfl, Or.inr ⟨rfl, fun h9 => by have h8 := (rp_one rt9).mp (by omega); omega⟩, by show va_P (dC, dI) vwCl _ t9.heap; rw [ht9]; exact hP⟩, hS.F ht9⟩) hS.2.2 dX8_isOne_30
  · have c_1 := (nI_eq (a := st9) (b := 1) (by omega) (by decide)).mp c_1
    refine lv_aload_n hx hb dX8_isOne_8 rfl (lv_at hl 0 rfl) ?_
    refine m_get (D := (dC, dI)) (v := .ref (ad (2 * t + 1))) (C := RX8) (T := TX8) (N := 3) hx hb hts bk0 hown hK hP (2 * t) (ns_w (by omega)) at9 rfl 0 (by decide) (hts (.fieldLink RX8 9 "GradientDesk$Whole" "words" "[I") (List.mem_of_getElem? (i := 2) rfl)) (fun _ h9 => h9) rfl dX8_isOne_9 ?_
    refine lv_iconst (v := nI 0) hx hb dX8_isOne_12 (by decide +kernel) ?_
    refine m_iald hx hb hK hP (2 * t + 1) (ns_w (by omega)) (tyc_w (by omega)) bt9 (i := 0) (by omega) (by omega) dX8_isOne_13 ?_
    have b_2 := ut9 0
    refine lv_iconst (v := nI 1) hx hb dX8_isOne_14 (by decide +kernel) ?_
    refine lv_icmp_ne (tgt := 29) hx hb dX8_isOne_15 (by decide) (fun c_3 => ?_) (fun c_3 => ?_)
    · have c_3 := mt (k_weq (a := (ft9 0)) (b := 1) (by omega) (by decide)).mpr c_3
      refine lv_iconst (v := nI 0) hx hb dX8_isOne_29 (by decide +kernel) ?_
      refine W.widen (k := 0) (n := 0) (by omega) (by omega) ?_
      exact W.zret (v := nI 0) hx hb hr (by decide +kernel) (fun t9 ht9 hW9 => ⟨⟨nI 0, (), rfl, Or.inr ⟨rfl, fun h9 => by have h8 := (rp_one rt9).mp (by omega); omega⟩, by show va_P (dC, dI) vwCl _ t9.heap; rw [ht9]; exact hP⟩, hS.F ht9⟩) hS.2.2 dX8_isOne_30
    · have c_3 := (k_weq (a := (ft9 0)) (b := 1) (by omega) (by decide)).mp c_3
      refine lv_aload_n hx hb dX8_isOne_18 rfl (lv_at hl 0 rfl) ?_
      refine m_get (D := (dC, dI)) (v := .int (nI nt9)) (C := RX8) (T := TX8) (N := 3) hx hb hts bk0 hown hK hP (2 * t) (ns_w (by omega)) at9 rfl 2 (by decide) (hts (.fieldLink RX8 19 "GradientDesk$Whole" "below" "Z") (List.mem_of_getElem? (i := 3) rfl)) (fun _ h9 => h9) rfl dX8_isOne_19 ?_
      refine lv_if_ne (tgt := 29) hx hb dX8_isOne_22 (by decide) (fun c_4 => ?_) (fun c_4 => ?_)
      · have c_4 := mt (nI_eq (a := nt9) (b := 0) (by omega) (by decide)).mpr c_4
        refine lv_iconst (v := nI 0) hx hb dX8_isOne_29 (by decide +kernel) ?_
        refine W.widen (k := 0) (n := 0) (by omega) (by omega) ?_
        exact W.zret (v := nI 0) hx hb hr (by decide +kernel) (fun t9 ht9 hW9 => ⟨⟨nI 0, (), rfl, Or.inr ⟨rfl, fun h9 => by have h8 := (rp_one rt9).mp (by omega); omega⟩, by show va_P (dC, dI) vwCl _ t9.heap; rw [ht9]; exact hP⟩, hS.F ht9⟩) hS.2.2 dX8_isOne_30
      · have c_4 := (nI_eq (a := nt9) (b := 0) (by omega) (by decide)).mp c_4
        refine lv_iconst (v := nI 1) hx hb dX8_isOne_25 (by decide +kernel) ?_
        refine lv_goto (tgt := 30) hx hb dX8_isOne_26 (by decide) ?_
        refine W.widen (k := 0) (n := 0) (by omega) (by omega) ?_
        exact W.zret (v := nI 1) hx hb hr (by decide +kernel) (fun t9 ht9 hW9 => ⟨⟨nI 1, (), rfl, Or.inl ⟨rfl, by have h9 := (rp_one rt9).mpr ⟨by omega, by omega⟩; omega⟩, by show va_P (dC, dI) vwCl _ t9.heap; rw [ht9]; exact hP⟩, hS.F ht9⟩) hS.2.2 dX8_isOne_30
def wd_V8_bitLength : List Cond := .code yX8_bitLength cX8_bitLength 1 (some .int) :: (([.fieldLink RX8 15 "GradientDesk$Whole" "size" "I", .fieldLink RX8 9 "GradientDesk$Whole" "words" "[I", .methodLink RX8 39 yJ6_numberOfLeadingZeros_0f7a4, .static yJ6_numberOfLeadingZeros_0f7a4, .initialized RJ6] : List Cond) ++ (u_ws RX8 TX8 3 ++ (wd_J_nlz ++ ([]))))
theorem gw_V8_bitLength : wd_V8_bitLength.all goodWord = true := k_allc rfl (k_all (by decide +kernel) (k_all (gu_X8) (k_all (gw_J_nlz) (rfl))))
set_option maxHeartbeats 4000000 in
set_option maxRecDepth 100000 in
theorem c_V8_bitLength (l : Launch) (dC : Nat → ClassId) (dI : Nat → Nat → Nat) (A : Nat → Prop) (ad : Nat → Nat) (cA : Nat → ClassId) (g : Nat → va_E) (t : Nat) (v : Int) (hAW : AW ad cA g) (it : t < 1038) (vt : WV ad cA g t v) : Met l yX8_bitLength wd_V8_bitLength ({ frames := 20, cells := 0, slots := 0, locals := 400 }) (va_Pc [.ref (ad (2 * t))] (PR NSc tyc dC dI A ad cA g)) (va_Qi (fun (r : Int32) => fun (u : Unit) => match u with | () => r = nI (bl v.natAbs)) (fun (u : Unit) (t : State) => va_P (dC, dI) vwCl (wo ad NSc g) t.heap) A) (0) (0) A := by
  refine Met.ofW (cc := cX8_bitLength) (maxL := 1) (ret := (some .int)) (by decide) rfl ?_
  intro p e s m args below meth c s₁ B hml hv
  obtain ⟨rfl, hA, hP, hL⟩ := hv
  have hx := B.exec
  have hb := B.bytes
  have hr := B.returns
  have hts := atoms_spec (ws := wd_V8_bitLength) B.pre
  have hown : s.vm.findClass RX8 = some m.cls := findClass_of_methodNamed B.named
  have hlocks := B.notSynchronized
  have hK := hL.1
  have hD : ∀ g, va_D A (wo ad NSc g) := fun g => wo_D hL.2.1 hL.2.2 g
  have hS : va_S A s.heap s.heap [] := va_S.rf
  have bk0 : ∀ w ∈ u_ws RX8 TX8 3, w ∈ wd_V8_bitLength := fun _ h => List.mem_cons_of_mem _ (List.mem_append_right _ (List.mem_append_left _ h))
  have bk1 : ∀ w ∈ wd_J_nlz, w ∈ wd_V8_bitLength := fun _ h => List.mem_cons_of_mem _ (List.mem_append_right _ (List.mem_append_right _ (List.mem_append_left _ h)))
  have hl := lv_entry ([.ref (ad (2 * t))]) (n := 1) (Nat.le_of_ble_eq_true rfl)
  rw [lg_entry_eq]
  generalize (lg_sl ([.ref (ad (2 * t))]) ++ List.replicate (1 - (lg_sl ([.ref (ad (2 * t))])).length) Slot.unset).toArray = ls at hl ⊢
  have hl : lv_has ls 1 [(0, .ref (ad (2 * t)))] := hl
  obtain ⟨st9, nt9, ft9, ⟨at9, bt9, ut9, ct9, et9⟩, rt9, gt9⟩ := vt
  have qt9 := rmc_le t
  refine lv_aload_n hx hb dX8_bitLength_0 rfl (lv_at hl 0 rfl) ?_
  refine m_get (D := (dC, dI)) (v := .int (nI st9)) (C := RX8) (T := TX8) (N := 3) hx hb hts bk0 hown hK hP (2 * t) (ns_w (by omega)) at9 rfl 1 (by decide) (hts (.fieldLink RX8 15 "GradientDesk$Whole" "size" "I") (List.mem_of_getElem? (i := 1) rfl)) (fun _ h9 => h9) rfl dX8_bitLength_1 ?_
  refine lv_if_ne (tgt := 11) hx hb dX8_bitLength_4 (by decide) (fun c_1 => ?_) (fun c_1 => ?_)
  · have c_1 := mt (nI_eq (a := st9) (b := 0) (by omega) (by decide)).mpr c_1
    refine lv_bipush (v := nI 32) hx hb dX8_bitLength_11 (by decide +kernel) ?_
    refine lv_aload_n hx hb dX8_bitLength_13 rfl (lv_at hl 0 rfl) ?_
    refine m_get (D := (dC, dI)) (v := .int (nI st9)) (C := RX8) (T := TX8) (N := 3) hx hb hts bk0 hown hK hP (2 * t) (ns_w (by omega)) at9 rfl 1 (by decide) (hts (.fieldLink RX8 15 "GradientDesk$Whole" "size" "I") (List.mem_of_getElem? (i := 1) rfl)) (fun _ h9 => h9) rfl dX8_bitLength_14 ?_
    refine lv_imul hx hb dX8_bitLength_17 ?_
    refine lv_topi (fun x_2 e_3 => ?_)
    obtain rfl : x_2 = nI (32 * st9) := e_3.trans (pk_mul 32 st9)
    refine lv_aload_n hx hb dX8_bitLength_18 rfl (lv_at hl 0 rfl) ?_
    refine m_get (D := (dC, dI)) (v := .ref (ad (2 * t + 1))) (C := RX8) (T := TX8) (N := 3) hx hb hts bk0 hown hK hP (2 * t) (ns_w (by omega)) at9 rfl 0 (by decide) (hts (.fieldLink RX8 9 "GradientDesk$Whole" "words" "[I") (List.mem_of_getElem? (i := 2) rfl)) (fun _ h9 => h9) rfl dX8_bitLength_19 ?_
    refine lv_aload_n hx hb dX8_bitLength_22 rfl (lv_at hl 0 rfl) ?_
    refine m_get (D := (dC, dI)) (v := .int (nI st9)) (C := RX8) (T := TX8) (N := 3) hx hb hts bk0 hown hK hP (2 * t) (ns_w (by omega)) at9 rfl 1 (by decide) (hts (.fieldLink RX8 15 "GradientDesk$Whole" "size" "I") (List.mem_of_getElem? (i := 1) rfl)) (fun _ h9 => h9) rfl dX8_bitLength_23 ?_
    refine lv_iconst (v := nI 1) hx hb dX8_bitLength_26 (by decide +kernel) ?_
    refine lv_isub hx hb dX8_bitLength_27 ?_
    refine lv_topi (fun x_4 e_5 => ?_)
    obtain rfl : x_4 = nI (st9 - 1) := e_5.trans (pk_sub (show 1 ≤ st9 by omega))
    refine m_iald hx hb hK hP (2 * t + 1) (ns_w (by omega)) (tyc_w (by omega)) bt9 (i := st9 - 1) (by omega) (by omega) dX8_bitLength_28 ?_
    have b_6 := ut9 (st9 - 1)
    refine va_calli (va_runS (As := [.int (nI (ft9 (st9 - 1)))]) (rest := [.int (nI (32 * st9))]) ⟨hx, hb, hml, hown, hts⟩ (c_J_nlz l dC dI A ad cA g (ft9 (st9 - 1)) (by omega)) (va_cwS 1 hts (goodIn_app (goodIn_r [Cond.methodLink RX8 39 yJ6_numberOfLeadingZeros_0f7a4, Cond.static yJ6_numberOfLeadingZeros_0f7a4, Cond.initialized RJ6] [3, 4, 5] rfl rfl) (goodIn_sub (fun w9 h9 => bk1 w9 h9) gw_J_nlz)) rfl rfl rfl (by decide +kernel) ⟨Nat.le_of_ble_eq_true rfl, Nat.le_of_ble_eq_true rfl⟩) ⟨fun a U g mk q => ⟨q.1, q.2.1, q.2.2.1, LY.moved (u := U) (U := U.calling g mk a) (Vm.Alike.refl U.vm) q.2.2.2⟩, fun U hU hW => ⟨rfl, by rw [hU]; exact fun q h => hA q (Nat.le_trans hS.1 h), by rw [hU]; exact hP, LY.moved hW.alike hL⟩⟩ rfl rfl hl.1 rfl (lv_room (Nat.le_of_ble_eq_true rfl)) dX8_bitLength_29 ⟨(Nat.le_of_ble_eq_true rfl), (Nat.le_of_ble_eq_true rfl)⟩) hS (fun q _ h => h) (fun q h => h) (fun r_7 u8 t8 H1 locs ht8 hvm8 hw_8 hB hz1 hk1 hS => ?_)
    obtain ⟨⟩ := u8
    try dsimp only at hw_8 hB
    rw [ht8] at hB
    have hP := hB
    generalize H1 = H at hP hS ⊢
    obtain rfl := hw_8
    have hbw : bl (ft9 (st9 - 1)) ≤ 32 := bl_le.mpr (ut9 _)
    refine lv_isub hx hb dX8_bitLength_32 ?_
    refine lv_topi (fun x_9 e_10 => ?_)
    obtain rfl : x_9 = nI ((32 * st9) - (32 - bl (ft9 (st9 - 1)))) := e_10.trans (pk_sub (show 32 - bl (ft9 (st9 - 1)) ≤ 32 * st9 by omega))
    refine W.widen (k := 0) (n := 0) (by omega) (by omega) ?_
    exact W.iret (v := nI ((32 * st9) - (32 - bl (ft9 (st9 - 1))))) hx hb hr (fun t9 ht9 hW9 => ⟨⟨nI ((32 * st9) - (32 - bl (ft9 (st9 - 1)))), (), rfl, congrArg nI (by rw [rt9.bits (by omega)]; omega), by show va_P (dC, dI) vwCl _ t9.heap; rw [ht9]; exact hP⟩, hS.F ht9⟩) hS.2.2 dX8_bitLength_33
  · have c_1 := (nI_eq (a := st9) (b := 0) (by omega) (by decide)).mp c_1
    refine lv_iconst (v := nI 0) hx hb dX8_bitLength_7 (by decide +kernel) ?_
    refine lv_goto (tgt := 33) hx hb dX8_bitLength_8 (by decide) ?_
    refine W.widen (k := 0) (n := 0) (by omega) (by omega) ?_
    exact W.iret (v := nI 0) hx hb hr (fun t9 ht9 hW9 => ⟨⟨nI 0, (), rfl, congrArg nI (by rw [rt9.zero.mp (by omega)]; rfl), by show va_P (dC, dI) vwCl _ t9.heap; rw [ht9]; exact hP⟩, hS.F ht9⟩) hS.2.2 dX8_bitLength_33
def wd_V8_put : List Cond := .code yX8_put cX8_put 6 none :: (([.methodLink RX8 23 Lib.MathLoose.abs_long.x, .static Lib.MathLoose.abs_long.x, .initialized "java/lang/Math", .code Lib.MathLoose.abs_long.x Lib.MathLoose.abs_long.code 2 (some .long), .fieldLink RX8 19 "GradientDesk$Whole" "below" "Z", .fieldLink RX8 15 "GradientDesk$Whole" "size" "I", .fieldLink RX8 9 "GradientDesk$Whole" "words" "[I"] : List Cond) ++ (u_ws RX8 TX8 3 ++ ([])))
theorem gw_V8_put : wd_V8_put.all goodWord = true := k_allc rfl (k_all (by decide +kernel) (k_all (gu_X8) (rfl)))
set_option maxHeartbeats 4000000 in
set_option maxRecDepth 100000 in
theorem c_V8_put (l : Launch) (dC : Nat → ClassId) (dI : Nat → Nat → Nat) (A : Nat → Prop) (ad : Nat → Nat) (cA : Nat → ClassId) (g : Nat → va_E) (t : Nat) (v : Int64) (z : Int) (hAW : AW ad cA g) (it : t < 1038) (hr2 : 2 ≤ rmc t) (hz : v.toInt = z) (hz2 : z.natAbs < 2 ^ 62) : Met l yX8_put wd_V8_put ({ frames := 20, cells := 0, slots := 0, locals := 400 }) (va_Pc [.ref (ad (2 * t)), .long v] (PR NSc tyc dC dI A ad cA g)) (va_Qv (fun (u : Nat → va_E) => match u with | g2 => (∀ k, k ≠ 2 * t ∧ k ≠ 2 * t + 1 → g2 k = g k) ∧ AW ad cA g2 ∧ WV ad cA g2 t z) (fun (u : Nat → va_E) (t : State) => va_P (dC, dI) vwCl (wo ad NSc u) t.heap) A) (0) (0) A := by
  refine Met.ofW (cc := cX8_put) (maxL := 6) (ret := none) (by decide) rfl ?_
  intro p e s m args below meth c s₁ B hml hv
  obtain ⟨rfl, hA, hP, hL⟩ := hv
  have hx := B.exec
  have hb := B.bytes
  have hr := B.returns
  have hts := atoms_spec (ws := wd_V8_put) B.pre
  have hown : s.vm.findClass RX8 = some m.cls := findClass_of_methodNamed B.named
  have hlocks := B.notSynchronized
  have hK := hL.1
  have hD : ∀ g, va_D A (wo ad NSc g) := fun g => wo_D hL.2.1 hL.2.2 g
  have hS : va_S A s.heap s.heap [] := va_S.rf
  have bk0 : ∀ w ∈ u_ws RX8 TX8 3, w ∈ wd_V8_put := fun _ h => List.mem_cons_of_mem _ (List.mem_append_right _ (List.mem_append_left _ h))
  have hl := lv_entry ([.ref (ad (2 * t)), .long v]) (n := 6) (Nat.le_of_ble_eq_true rfl)
  rw [lg_entry_eq]
  generalize (lg_sl ([.ref (ad (2 * t)), .long v]) ++ List.replicate (6 - (lg_sl ([.ref (ad (2 * t)), .long v])).length) Slot.unset).toArray = ls at hl ⊢
  have hl : lv_has ls 6 [(0, .ref (ad (2 * t))), (1, .long v)] := hl
  obtain ⟨st9, nt9, ft9, at9, bt9, ut9, ct9, et9⟩ := AW.wn hAW it
  have qt9 := rmc_le t
  refine lv_lload_n hx hb dX8_put_0 rfl (lv_at hl 1 rfl) ?_
  refine va_mabs_long hx hb (by rw [hml]; exact hl.1.symm) hown (hts (.methodLink RX8 23 Lib.MathLoose.abs_long.x) (List.mem_of_getElem? (i := 1) rfl)) (hts (.static Lib.MathLoose.abs_long.x) (List.mem_of_getElem? (i := 2) rfl)) (hts (.initialized "java/lang/Math") (List.mem_of_getElem? (i := 3) rfl)) (hts (.code Lib.MathLoose.abs_long.x Lib.MathLoose.abs_long.code 2 (some .long)) (List.mem_of_getElem? (i := 4) rfl)) (Nat.le_of_ble_eq_true rfl) (Nat.le_of_ble_eq_true rfl) (Nat.le_of_ble_eq_true rfl) (Nat.le_of_ble_eq_true rfl) dX8_put_1 ?_
  refine lv_topl (fun y_1 e_2 => ?_)
  obtain rfl : y_1 = lN z.natAbs := e_2.trans (k_labs hz hz2)
  refine lv_lstore_n (lv' := [(3, .long (lN z.natAbs)), (0, .ref (ad (2 * t))), (1, .long v)]) hx hb dX8_put_4 rfl hl (by decide) rfl (fun ls hl => ?_)
  refine lv_aload_n hx hb dX8_put_5 rfl (lv_at hl 1 rfl) ?_
  refine lv_lload_n hx hb dX8_put_6 rfl (lv_at hl 2 rfl) ?_
  refine lv_lconst (v := lN 0) hx hb dX8_put_7 (by decide +kernel) ?_
  refine W.lcmp hx hb dX8_put_8 ?_
  refine lv_if_ge (tgt := 16) hx hb dX8_put_9 (by decide) (fun c_3 => ?_) (fun c_3 => ?_)
  · have c_3 := (k_cmp_ge v (lN 0)).mp c_3
    refine lv_iconst (v := nI 0) hx hb dX8_put_16 (by decide +kernel) ?_
    have hzs : 0 ≤ z := by exact (k_vpos hz c_3 hz2).2
    refine m_put (D := (dC, dI)) (v := .int (nI 0)) (tv := .boolean) (C := RX8) (T := TX8) (N := 3) hx hb hts bk0 tyX8 tyX8_ok nmX8 hown hK hP hD hS (2 * t) (ns_w (by omega)) at9 rfl 2 (by decide) (hts (.fieldLink RX8 19 "GradientDesk$Whole" "below" "Z") (List.mem_of_getElem? (i := 5) rfl)) (fun _ h9 => h9) rfl (by decide +kernel) (k_narZ2 (by omega)) (k_fitZ2 (by omega)) (Nat.le_of_ble_eq_true rfl) dX8_put_17 (fun H locs g_4 f_5 fr_6 hP hS => ?_)
    have f_5 : g_4 (2 * t) = .inr (11, [.ref (ad (2 * t + 1)), .int (nI st9), .int (nI 0)]) := f_5
    refine lv_aload_n hx hb dX8_put_20 rfl (lv_at hl 1 rfl) ?_
    refine lv_iconst (v := nI 0) hx hb dX8_put_21 (by decide +kernel) ?_
    refine m_put (D := (dC, dI)) (v := .int (nI 0)) (tv := .int) (C := RX8) (T := TX8) (N := 3) hx hb hts bk0 tyX8 tyX8_ok nmX8 hown hK hP hD hS (2 * t) (ns_w (by omega)) f_5 rfl 1 (by decide) (hts (.fieldLink RX8 15 "GradientDesk$Whole" "size" "I") (List.mem_of_getElem? (i := 6) rfl)) (fun _ h9 => h9) rfl (by decide +kernel) rfl rfl (Nat.le_of_ble_eq_true rfl) dX8_put_22 (fun H locs g_7 f_8 fr_9 hP hS => ?_)
    have f_8 : g_7 (2 * t) = .inr (11, [.ref (ad (2 * t + 1)), .int (nI 0), .int (nI 0)]) := f_8
    refine lv_iconst (v := nI 0) hx hb dX8_put_25 (by decide +kernel) ?_
    refine lv_istore (lv' := [(5, .int (nI 0)), (3, .long (lN z.natAbs)), (0, .ref (ad (2 * t))), (1, .long v)]) hx hb dX8_put_26 hl (by decide) rfl (fun ls hl => ?_)
    have loop_10 : ∀ (k9 : Nat) (i : Nat) (sz : Nat) (ff : Nat → Nat) (lf : Nat) (g_12 : Nat → va_E) (fr_13 : ∀ k, (k ≠ 2 * t ∧ k ≠ 2 * t + 1) → g_12 k = g_7 k), 2 - i < k9 → (i ≤ 2) → (sz = i) → (∀ j, ff j < 4294967296) → (lf = z.natAbs / 4294967296 ^ i) → (∀ j, j < i → ff j = dgt z.natAbs j) → (i = 0 ∨ z.natAbs / 4294967296 ^ (i - 1) ≠ 0) → (g_12 (2 * t) = .inr (11, [.ref (ad (2 * t + 1)), .int (nI sz), .int (nI 0)])) → (g_12 (2 * t + 1) = .inl (cA (2 * t + 1), rmc t, .inl (fun j => nI (ff j)))) → ∀ (H : Heap) (locs : List Loc) (ls : Array Slot), va_P (dC, dI) vwCl (wo ad NSc g_12) H → va_S A s.heap H locs → lv_has ls 6 [(5, .int (nI i)), (3, .long (lN lf)), (0, .ref (ad (2 * t)))] → W p l e (headSpec wd_V8_put ({ frames := 20, cells := 0, slots := 0, locals := 400 })).room s m ([.ref (ad (2 * t)), .long v] : List Value).toArray below meth c H locs (0) (0) (MQ below (va_Qv (fun (u : Nat → va_E) => match u with | g2 => (∀ k, k ≠ 2 * t ∧ k ≠ 2 * t + 1 → g2 k = g k) ∧ AW ad cA g2 ∧ WV ad cA g2 t z) (fun (u : Nat → va_E) (t : State) => va_P (dC, dI) vwCl (wo ad NSc u) t.heap) A) ([.ref (ad (2 * t)), .long v] : List Value).toArray s (0) (0) A) (F0 m 28 ls []) := by
      intro k9
      induction k9 with
      | zero => intro i sz ff lf g_12 fr_13 h9; exact absurd h9 (Nat.not_lt_zero _)
      | succ k9 ih_11 =>
        intro i sz ff lf g_12 fr_13 h9 hi hsz hub hlf hdd hnz f_14 f_15 H locs ls hP hS hl
        have hlb : lf ≤ z.natAbs := by rw [hlf]; exact Nat.div_le_self _ _
        refine lv_iload hx hb dX8_put_28 (lv_at hl 0 rfl) ?_
        refine lv_iconst (v := nI 2) hx hb dX8_put_30 (by decide +kernel) ?_
        refine lv_icmp_ge (tgt := 78) hx hb dX8_put_31 (by decide) (fun c_16 => ?_) (fun c_16 => ?_)
        · have c_16 := (nI_leI (a := 2) (b := i) (by decide) (by omega)).mp c_16
          have hWN : WN ad cA g_12 t sz 0 (ff) := ⟨f_14, f_15, hub, by omega, by omega⟩
          refine W.widen (k := 0) (n := 0) (by omega) (by omega) ?_
          exact W.vret hx hb hr (fun t9 ht9 hW9 => ⟨⟨g_12, rfl, ⟨(fun (k : Nat) (hk : k ≠ 2 * t ∧ k ≠ 2 * t + 1) => (fr_13 k (by omega)).trans ((fr_9 k (by omega)).trans ((fr_6 k (by omega)).trans (rfl)))), hWN.aw hAW (fun (k : Nat) (hk : k ≠ 2 * t ∧ k ≠ 2 * t + 1) => (fr_13 k (by omega)).trans ((fr_9 k (by omega)).trans ((fr_6 k (by omega)).trans (rfl)))), _, _, _, hWN, pt_end9 hsz hdd hnz hlf (by omega), by omega⟩, by show va_P (dC, dI) vwCl _ t9.heap; rw [ht9]; exact hP⟩, hS.F ht9⟩) hS.2.2 dX8_put_78
        · have c_16 := mt (nI_leI (a := 2) (b := i) (by decide) (by omega)).mpr c_16
          refine lv_iload hx hb dX8_put_34 (lv_at hl 0 rfl) ?_
          refine lv_aload_n hx hb dX8_put_36 rfl (lv_at hl 2 rfl) ?_
          refine m_get (D := (dC, dI)) (v := .ref (ad (2 * t + 1))) (C := RX8) (T := TX8) (N := 3) hx hb hts bk0 hown hK hP (2 * t) (ns_w (by omega)) f_14 rfl 0 (by decide) (hts (.fieldLink RX8 9 "GradientDesk$Whole" "words" "[I") (List.mem_of_getElem? (i := 7) rfl)) (fun _ h9 => h9) rfl dX8_put_37 ?_
          refine m_alen hx hb hK hP (2 * t + 1) (ns_w (by omega)) f_15 dX8_put_40 ?_
          refine lv_icmp_ge (tgt := 78) hx hb dX8_put_41 (by decide) (fun c_17 => ?_) (fun c_17 => ?_)
          · have c_17 := (nI_leI (a := (rmc t)) (b := i) (by omega) (by omega)).mp c_17
            have hWN : WN ad cA g_12 t sz 0 (ff) := ⟨f_14, f_15, hub, by omega, by omega⟩
            refine W.widen (k := 0) (n := 0) (by omega) (by omega) ?_
            exact W.vret hx hb hr (fun t9 ht9 hW9 => ⟨⟨g_12, rfl, ⟨(fun (k : Nat) (hk : k ≠ 2 * t ∧ k ≠ 2 * t + 1) => (fr_13 k (by omega)).trans ((fr_9 k (by omega)).trans ((fr_6 k (by omega)).trans (rfl)))), hWN.aw hAW (fun (k : Nat) (hk : k ≠ 2 * t ∧ k ≠ 2 * t + 1) => (fr_13 k (by omega)).trans ((fr_9 k (by omega)).trans ((fr_6 k (by omega)).trans (rfl)))), _, _, _, hWN, pt_end9 hsz hdd hnz hlf (by omega), by omega⟩, by show va_P (dC, dI) vwCl _ t9.heap; rw [ht9]; exact hP⟩, hS.F ht9⟩) hS.2.2 dX8_put_78
          · have c_17 := mt (nI_leI (a := (rmc t)) (b := i) (by omega) (by omega)).mpr c_17
            refine lv_lload_n hx hb dX8_put_44 rfl (lv_at hl 1 rfl) ?_
            refine lv_lconst (v := lN 0) hx hb dX8_put_45 (by decide +kernel) ?_
            refine W.lcmp hx hb dX8_put_46 ?_
            refine lv_if_eq (tgt := 78) hx hb dX8_put_47 (by decide) (fun c_18 => ?_) (fun c_18 => ?_)
            · have c_18 := (pk_lEQ (a := lf) (b := 0) (by omega) (by decide)).mp ((k_cmp_eq (lN lf) (lN 0)).mp c_18)
              have hWN : WN ad cA g_12 t sz 0 (ff) := ⟨f_14, f_15, hub, by omega, by omega⟩
              refine W.widen (k := 0) (n := 0) (by omega) (by omega) ?_
              exact W.vret hx hb hr (fun t9 ht9 hW9 => ⟨⟨g_12, rfl, ⟨(fun (k : Nat) (hk : k ≠ 2 * t ∧ k ≠ 2 * t + 1) => (fr_13 k (by omega)).trans ((fr_9 k (by omega)).trans ((fr_6 k (by omega)).trans (rfl)))), hWN.aw hAW (fun (k : Nat) (hk : k ≠ 2 * t ∧ k ≠ 2 * t + 1) => (fr_13 k (by omega)).trans ((fr_9 k (by omega)).trans ((fr_6 k (by omega)).trans (rfl)))), _, _, _, hWN, pt_end9 hsz hdd hnz hlf (by omega), by omega⟩, by show va_P (dC, dI) vwCl _ t9.heap; rw [ht9]; exact hP⟩, hS.F ht9⟩) hS.2.2 dX8_put_78
            · have c_18 := mt (pk_lEQ (a := lf) (b := 0) (by omega) (by decide)).mpr (mt (k_cmp_eq (lN lf) (lN 0)).mpr c_18)
              refine lv_aload_n hx hb dX8_put_50 rfl (lv_at hl 2 rfl) ?_
              refine m_get (D := (dC, dI)) (v := .ref (ad (2 * t + 1))) (C := RX8) (T := TX8) (N := 3) hx hb hts bk0 hown hK hP (2 * t) (ns_w (by omega)) f_14 rfl 0 (by decide) (hts (.fieldLink RX8 9 "GradientDesk$Whole" "words" "[I") (List.mem_of_getElem? (i := 7) rfl)) (fun _ h9 => h9) rfl dX8_put_51 ?_
              refine lv_iload hx hb dX8_put_54 (lv_at hl 0 rfl) ?_
              refine lv_lload_n hx hb dX8_put_56 rfl (lv_at hl 1 rfl) ?_
              refine lv_l2i hx hb dX8_put_57 rfl ?_
              refine lv_topi (fun x_19 e_20 => ?_)
              obtain rfl : x_19 = nI lf := e_20.trans (lN_i lf)
              rw [show nI lf = nI (lf % 4294967296) from nI_md _]
              refine m_iast hx hb hK hP hD hS (2 * t + 1) (ns_w (by omega)) (tyc_w (by omega)) f_15 (i := i) (x := nI (lf % 4294967296)) (by omega) (by omega) dX8_put_58 (fun H locs g_21 f_22 fr_23 hP hS => ?_)
              rw [k_updI] at f_22
              have b_24 : ∀ j, (va_up ff i (lf % 4294967296)) j < 4294967296 := k_up_lt hub (by omega)
              have f_22 : g_21 (2 * t + 1) = .inl (cA (2 * t + 1), rmc t, .inl (fun j => nI ((va_up ff i (lf % 4294967296)) j))) := f_22
              refine lv_lload_n hx hb dX8_put_59 rfl (lv_at hl 1 rfl) ?_
              refine lv_bipush (v := nI 32) hx hb dX8_put_60 (by decide +kernel) ?_
              refine lv_lushr hx hb dX8_put_62 rfl ?_
              refine lv_topl (fun y_25 e_26 => ?_)
              obtain rfl : y_25 = lN (lf / 4294967296) := e_26.trans ((wb_shr (n := lf) (k := 32) (by omega) (by decide)).trans rfl)
              refine lv_lstore_n (lv' := [(3, .long (lN (lf / 4294967296))), (5, .int (nI i)), (0, .ref (ad (2 * t)))]) hx hb dX8_put_63 rfl hl (by decide) rfl (fun ls hl => ?_)
              refine lv_aload_n hx hb dX8_put_64 rfl (lv_at hl 2 rfl) ?_
              refine lv_iload hx hb dX8_put_65 (lv_at hl 1 rfl) ?_
              refine lv_iconst (v := nI 1) hx hb dX8_put_67 (by decide +kernel) ?_
              refine lv_iadd hx hb dX8_put_68 ?_
              refine lv_topi (fun x_27 e_28 => ?_)
              obtain rfl : x_27 = nI (i + 1) := e_28.trans (nI_add i 1)
              have f_29 : g_21 (2 * t) = .inr (11, [.ref (ad (2 * t + 1)), .int (nI sz), .int (nI 0)]) := (fr_23 (2 * t) (by omega)).trans f_14
              refine m_put (D := (dC, dI)) (v := .int (nI (i + 1))) (tv := .int) (C := RX8) (T := TX8) (N := 3) hx hb hts bk0 tyX8 tyX8_ok nmX8 hown hK hP hD hS (2 * t) (ns_w (by omega)) f_29 rfl 1 (by decide) (hts (.fieldLink RX8 15 "GradientDesk$Whole" "size" "I") (List.mem_of_getElem? (i := 6) rfl)) (fun _ h9 => h9) rfl (by decide +kernel) rfl rfl (Nat.le_of_ble_eq_true rfl) dX8_put_69 (fun H locs g_30 f_31 fr_32 hP hS => ?_)
              have f_31 : g_30 (2 * t) = .inr (11, [.ref (ad (2 * t + 1)), .int (nI (i + 1)), .int (nI 0)]) := f_31
              refine lv_iinc (v := nI (i + 1)) (lv' := [(5, .int (nI (i + 1))), (3, .long (lN (lf / 4294967296))), (0, .ref (ad (2 * t)))]) hx hb dX8_put_72 hl (k := 1) rfl (nI_add i 1) (by decide) rfl (fun ls hl => ?_)
              refine lv_goto (tgt := 28) hx hb dX8_put_75 (by decide) ?_
              have f_35 : g_30 (2 * t + 1) = .inl (cA (2 * t + 1), rmc t, .inl (fun j => nI ((va_up ff i (lf % 4294967296)) j))) := (fr_32 (2 * t + 1) (by omega)).trans f_22
              exact ih_11 (i + 1) (i + 1) (va_up ff i (lf % 4294967296)) (lf / 4294967296) g_30 (fun (k : Nat) (hk : k ≠ 2 * t ∧ k ≠ 2 * t + 1) => (fr_32 k (by omega)).trans ((fr_23 k (by omega)).trans ((fr_13 k (by omega)).trans (rfl)))) (by omega) (by omega) (by omega) b_24 (by rw [hlf, Nat.pow_succ, Nat.div_div_eq_div_mul]) (fun j hj => by by_cases h9 : j = i; rw [h9, va_up_self, hlf]; rfl; rw [va_up_ne _ _ h9]; exact hdd j (by omega)) (Or.inr (by rw [Nat.add_sub_cancel, ← hlf]; omega)) f_31 f_35 _ _ _ hP hS (lv_sub (l' := [(5, .int (nI (i + 1))), (3, .long (lN (lf / 4294967296))), (0, .ref (ad (2 * t)))]) hl [0, 1, 2] rfl)
    have f_36 : g_7 (2 * t + 1) = .inl (cA (2 * t + 1), rmc t, .inl (fun j => nI (ft9 j))) := (fr_9 (2 * t + 1) (by omega)).trans ((fr_6 (2 * t + 1) (by omega)).trans bt9)
    exact loop_10 _ 0 0 ft9 z.natAbs g_7 (fun (k : Nat) (hk : k ≠ 2 * t ∧ k ≠ 2 * t + 1) => rfl) (Nat.lt_succ_self _) (by omega) rfl ut9 (by rw [Nat.pow_zero, Nat.div_one]) (fun j hj => absurd hj (by omega)) (Or.inl rfl) f_8 f_36 _ _ _ hP hS (lv_sub (l' := [(5, .int (nI 0)), (3, .long (lN z.natAbs)), (0, .ref (ad (2 * t)))]) hl [0, 1, 2] rfl)
  · have c_3 := mt (k_cmp_ge v (lN 0)).mpr c_3
    refine lv_iconst (v := nI 1) hx hb dX8_put_12 (by decide +kernel) ?_
    refine lv_goto (tgt := 17) hx hb dX8_put_13 (by decide) ?_
    have hzs : z < 0 := by exact (k_vneg hz c_3 hz2).2
    refine m_put (D := (dC, dI)) (v := .int (nI 1)) (tv := .boolean) (C := RX8) (T := TX8) (N := 3) hx hb hts bk0 tyX8 tyX8_ok nmX8 hown hK hP hD hS (2 * t) (ns_w (by omega)) at9 rfl 2 (by decide) (hts (.fieldLink RX8 19 "GradientDesk$Whole" "below" "Z") (List.mem_of_getElem? (i := 5) rfl)) (fun _ h9 => h9) rfl (by decide +kernel) (k_narZ2 (by omega)) (k_fitZ2 (by omega)) (Nat.le_of_ble_eq_true rfl) dX8_put_17 (fun H locs g_37 f_38 fr_39 hP hS => ?_)
    have f_38 : g_37 (2 * t) = .inr (11, [.ref (ad (2 * t + 1)), .int (nI st9), .int (nI 1)]) := f_38
    refine lv_aload_n hx hb dX8_put_20 rfl (lv_at hl 1 rfl) ?_
    refine lv_iconst (v := nI 0) hx hb dX8_put_21 (by decide +kernel) ?_
    refine m_put (D := (dC, dI)) (v := .int (nI 0)) (tv := .int) (C := RX8) (T := TX8) (N := 3) hx hb hts bk0 tyX8 tyX8_ok nmX8 hown hK hP hD hS (2 * t) (ns_w (by omega)) f_38 rfl 1 (by decide) (hts (.fieldLink RX8 15 "GradientDesk$Whole" "size" "I") (List.mem_of_getElem? (i := 6) rfl)) (fun _ h9 => h9) rfl (by decide +kernel) rfl rfl (Nat.le_of_ble_eq_true rfl) dX8_put_22 (fun H locs g_40 f_41 fr_42 hP hS => ?_)
    have f_41 : g_40 (2 * t) = .inr (11, [.ref (ad (2 * t + 1)), .int (nI 0), .int (nI 1)]) := f_41
    refine lv_iconst (v := nI 0) hx hb dX8_put_25 (by decide +kernel) ?_
    refine lv_istore (lv' := [(5, .int (nI 0)), (3, .long (lN z.natAbs)), (0, .ref (ad (2 * t))), (1, .long v)]) hx hb dX8_put_26 hl (by decide) rfl (fun ls hl => ?_)
    have loop_43 : ∀ (k9 : Nat) (i : Nat) (sz : Nat) (ff : Nat → Nat) (lf : Nat) (g_45 : Nat → va_E) (fr_46 : ∀ k, (k ≠ 2 * t ∧ k ≠ 2 * t + 1) → g_45 k = g_40 k), 2 - i < k9 → (i ≤ 2) → (sz = i) → (∀ j, ff j < 4294967296) → (lf = z.natAbs / 4294967296 ^ i) → (∀ j, j < i → ff j = dgt z.natAbs j) → (i = 0 ∨ z.natAbs / 4294967296 ^ (i - 1) ≠ 0) → (g_45 (2 * t) = .inr (11, [.ref (ad (2 * t + 1)), .int (nI sz), .int (nI 1)])) → (g_45 (2 * t + 1) = .inl (cA (2 * t + 1), rmc t, .inl (fun j => nI (ff j)))) → ∀ (H : Heap) (locs : List Loc) (ls : Array Slot), va_P (dC, dI) vwCl (wo ad NSc g_45) H → va_S A s.heap H locs → lv_has ls 6 [(5, .int (nI i)), (3, .long (lN lf)), (0, .ref (ad (2 * t)))] → W p l e (headSpec wd_V8_put ({ frames := 20, cells := 0, slots := 0, locals := 400 })).room s m ([.ref (ad (2 * t)), .long v] : List Value).toArray below meth c H locs (0) (0) (MQ below (va_Qv (fun (u : Nat → va_E) => match u with | g2 => (∀ k, k ≠ 2 * t ∧ k ≠ 2 * t + 1 → g2 k = g k) ∧ AW ad cA g2 ∧ WV ad cA g2 t z) (fun (u : Nat → va_E) (t : State) => va_P (dC, dI) vwCl (wo ad NSc u) t.heap) A) ([.ref (ad (2 * t)), .long v] : List Value).toArray s (0) (0) A) (F0 m 28 ls []) := by
      intro k9
      induction k9 with
      | zero => intro i sz ff lf g_45 fr_46 h9; exact absurd h9 (Nat.not_lt_zero _)
      | succ k9 ih_44 =>
        intro i sz ff lf g_45 fr_46 h9 hi hsz hub hlf hdd hnz f_47 f_48 H locs ls hP hS hl
        have hlb : lf ≤ z.natAbs := by rw [hlf]; exact Nat.div_le_self _ _
        refine lv_iload hx hb dX8_put_28 (lv_at hl 0 rfl) ?_
        refine lv_iconst (v := nI 2) hx hb dX8_put_30 (by decide +kernel) ?_
        refine lv_icmp_ge (tgt := 78) hx hb dX8_put_31 (by decide) (fun c_49 => ?_) (fun c_49 => ?_)
        · have c_49 := (nI_leI (a := 2) (b := i) (by decide) (by omega)).mp c_49
          have hWN : WN ad cA g_45 t sz 1 (ff) := ⟨f_47, f_48, hub, by omega, by omega⟩
          refine W.widen (k := 0) (n := 0) (by omega) (by omega) ?_
          exact W.vret hx hb hr (fun t9 ht9 hW9 => ⟨⟨g_45, rfl, ⟨(fun (k : Nat) (hk : k ≠ 2 * t ∧ k ≠ 2 * t + 1) => (fr_46 k (by omega)).trans ((fr_42 k (by omega)).trans ((fr_39 k (by omega)).trans (rfl)))), hWN.aw hAW (fun (k : Nat) (hk : k ≠ 2 * t ∧ k ≠ 2 * t + 1) => (fr_46 k (by omega)).trans ((fr_42 k (by omega)).trans ((fr_39 k (by omega)).trans (rfl)))), _, _, _, hWN, pt_end9 hsz hdd hnz hlf (by omega), by omega⟩, by show va_P (dC, dI) vwCl _ t9.heap; rw [ht9]; exact hP⟩, hS.F ht9⟩) hS.2.2 dX8_put_78
        · have c_49 := mt (nI_leI (a := 2) (b := i) (by decide) (by omega)).mpr c_49
          refine lv_iload hx hb dX8_put_34 (lv_at hl 0 rfl) ?_
          refine lv_aload_n hx hb dX8_put_36 rfl (lv_at hl 2 rfl) ?_
          refine m_get (D := (dC, dI)) (v := .ref (ad (2 * t + 1))) (C := RX8) (T := TX8) (N := 3) hx hb hts bk0 hown hK hP (2 * t) (ns_w (by omega)) f_47 rfl 0 (by decide) (hts (.fieldLink RX8 9 "GradientDesk$Whole" "words" "[I") (List.mem_of_getElem? (i := 7) rfl)) (fun _ h9 => h9) rfl dX8_put_37 ?_
          refine m_alen hx hb hK hP (2 * t + 1) (ns_w (by omega)) f_48 dX8_put_40 ?_
          refine lv_icmp_ge (tgt := 78) hx hb dX8_put_41 (by decide) (fun c_50 => ?_) (fun c_50 => ?_)
          · have c_50 := (nI_leI (a := (rmc t)) (b := i) (by omega) (by omega)).mp c_50
            have hWN : WN ad cA g_45 t sz 1 (ff) := ⟨f_47, f_48, hub, by omega, by omega⟩
            refine W.widen (k := 0) (n := 0) (by omega) (by omega) ?_
            exact W.vret hx hb hr (fun t9 ht9 hW9 => ⟨⟨g_45, rfl, ⟨(fun (k : Nat) (hk : k ≠ 2 * t ∧ k ≠ 2 * t + 1) => (fr_46 k (by omega)).trans ((fr_42 k (by omega)).trans ((fr_39 k (by omega)).trans (rfl)))), hWN.aw hAW (fun (k : Nat) (hk : k ≠ 2 * t ∧ k ≠ 2 * t + 1) => (fr_46 k (by omega)).trans ((fr_42 k (by omega)).trans ((fr_39 k (by omega)).trans (rfl)))), _, _, _, hWN, pt_end9 hsz hdd hnz hlf (by omega), by omega⟩, by show va_P (dC, dI) vwCl _ t9.heap; rw [ht9]; exact hP⟩, hS.F ht9⟩) hS.2.2 dX8_put_78
          · have c_50 := mt (nI_leI (a := (rmc t)) (b := i) (by omega) (by omega)).mpr c_50
            refine lv_lload_n hx hb dX8_put_44 rfl (lv_at hl 1 rfl) ?_
            refine lv_lconst (v := lN 0) hx hb dX8_put_45 (by decide +kernel) ?_
            refine W.lcmp hx hb dX8_put_46 ?_
            refine lv_if_eq (tgt := 78) hx hb dX8_put_47 (by decide) (fun c_51 => ?_) (fun c_51 => ?_)
            · have c_51 := (pk_lEQ (a := lf) (b := 0) (by omega) (by decide)).mp ((k_cmp_eq (lN lf) (lN 0)).mp c_51)
              have hWN : WN ad cA g_45 t sz 1 (ff) := ⟨f_47, f_48, hub, by omega, by omega⟩
              refine W.widen (k := 0) (n := 0) (by omega) (by omega) ?_
              exact W.vret hx hb hr (fun t9 ht9 hW9 => ⟨⟨g_45, rfl, ⟨(fun (k : Nat) (hk : k ≠ 2 * t ∧ k ≠ 2 * t + 1) => (fr_46 k (by omega)).trans ((fr_42 k (by omega)).trans ((fr_39 k (by omega)).trans (rfl)))), hWN.aw hAW (fun (k : Nat) (hk : k ≠ 2 * t ∧ k ≠ 2 * t + 1) => (fr_46 k (by omega)).trans ((fr_42 k (by omega)).trans ((fr_39 k (by omega)).trans (rfl)))), _, _, _, hWN, pt_end9 hsz hdd hnz hlf (by omega), by omega⟩, by show va_P (dC, dI) vwCl _ t9.heap; rw [ht9]; exact hP⟩, hS.F ht9⟩) hS.2.2 dX8_put_78
            · have c_51 := mt (pk_lEQ (a := lf) (b := 0) (by omega) (by decide)).mpr (mt (k_cmp_eq (lN lf) (lN 0)).mpr c_51)
              refine lv_aload_n hx hb dX8_put_50 rfl (lv_at hl 2 rfl) ?_
              refine m_get (D := (dC, dI)) (v := .ref (ad (2 * t + 1))) (C := RX8) (T := TX8) (N := 3) hx hb hts bk0 hown hK hP (2 * t) (ns_w (by omega)) f_47 rfl 0 (by decide) (hts (.fieldLink RX8 9 "GradientDesk$Whole" "words" "[I") (List.mem_of_getElem? (i := 7) rfl)) (fun _ h9 => h9) rfl dX8_put_51 ?_
              refine lv_iload hx hb dX8_put_54 (lv_at hl 0 rfl) ?_
              refine lv_lload_n hx hb dX8_put_56 rfl (lv_at hl 1 rfl) ?_
              refine lv_l2i hx hb dX8_put_57 rfl ?_
              refine lv_topi (fun x_52 e_53 => ?_)
              obtain rfl : x_52 = nI lf := e_53.trans (lN_i lf)
              rw [show nI lf = nI (lf % 4294967296) from nI_md _]
              refine m_iast hx hb hK hP hD hS (2 * t + 1) (ns_w (by omega)) (tyc_w (by omega)) f_48 (i := i) (x := nI (lf % 4294967296)) (by omega) (by omega) dX8_put_58 (fun H locs g_54 f_55 fr_56 hP hS => ?_)
              rw [k_updI] at f_55
              have b_57 : ∀ j, (va_up ff i (lf % 4294967296)) j < 4294967296 := k_up_lt hub (by omega)
              have f_55 : g_54 (2 * t + 1) = .inl (cA (2 * t + 1), rmc t, .inl (fun j => nI ((va_up ff i (lf % 4294967296)) j))) := f_55
              refine lv_lload_n hx hb dX8_put_59 rfl (lv_at hl 1 rfl) ?_
              refine lv_bipush (v := nI 32) hx hb dX8_put_60 (by decide +kernel) ?_
              refine lv_lushr hx hb dX8_put_62 rfl ?_
              refine lv_topl (fun y_58 e_59 => ?_)
              obtain rfl : y_58 = lN (lf / 4294967296) := e_59.trans ((wb_shr (n := lf) (k := 32) (by omega) (by decide)).trans rfl)
              refine lv_lstore_n (lv' := [(3, .long (lN (lf / 4294967296))), (5, .int (nI i)), (0, .ref (ad (2 * t)))]) hx hb dX8_put_63 rfl hl (by decide) rfl (fun ls hl => ?_)
              refine lv_aload_n hx hb dX8_put_64 rfl (lv_at hl 2 rfl) ?_
              refine lv_iload hx hb dX8_put_65 (lv_at hl 1 rfl) ?_
              refine lv_iconst (v := nI 1) hx hb dX8_put_67 (by decide +kernel) ?_
              refine lv_iadd hx hb dX8_put_68 ?_
              refine lv_topi (fun x_60 e_61 => ?_)
              obtain rfl : x_60 = nI (i + 1) := e_61.trans (nI_add i 1)
              have f_62 : g_54 (2 * t) = .inr (11, [.ref (ad (2 * t + 1)), .int (nI sz), .int (nI 1)]) := (fr_56 (2 * t) (by omega)).trans f_47
              refine m_put (D := (dC, dI)) (v := .int (nI (i + 1))) (tv := .int) (C := RX8) (T := TX8) (N := 3) hx hb hts bk0 tyX8 tyX8_ok nmX8 hown hK hP hD hS (2 * t) (ns_w (by omega)) f_62 rfl 1 (by decide) (hts (.fieldLink RX8 15 "GradientDesk$Whole" "size" "I") (List.mem_of_getElem? (i := 6) rfl)) (fun _ h9 => h9) rfl (by decide +kernel) rfl rfl (Nat.le_of_ble_eq_true rfl) dX8_put_69 (fun H locs g_63 f_64 fr_65 hP hS => ?_)
              have f_64 : g_63 (2 * t) = .inr (11, [.ref (ad (2 * t + 1)), .int (nI (i + 1)), .int (nI 1)]) := f_64
              refine lv_iinc (v := nI (i + 1)) (lv' := [(5, .int (nI (i + 1))), (3, .long (lN (lf / 4294967296))), (0, .ref (ad (2 * t)))]) hx hb dX8_put_72 hl (k := 1) rfl (nI_add i 1) (by decide) rfl (fun ls hl => ?_)
              refine lv_goto (tgt := 28) hx hb dX8_put_75 (by decide) ?_
              have f_68 : g_63 (2 * t + 1) = .inl (cA (2 * t + 1), rmc t, .inl (fun j => nI ((va_up ff i (lf % 4294967296)) j))) := (fr_65 (2 * t + 1) (by omega)).trans f_55
              exact ih_44 (i + 1) (i + 1) (va_up ff i (lf % 4294967296)) (lf / 4294967296) g_63 (fun (k : Nat) (hk : k ≠ 2 * t ∧ k ≠ 2 * t + 1) => (fr_65 k (by omega)).trans ((fr_56 k (by omega)).trans ((fr_46 k (by omega)).trans (rfl)))) (by omega) (by omega) (by omega) b_57 (by rw [hlf, Nat.pow_succ, Nat.div_div_eq_div_mul]) (fun j hj => by by_cases h9 : j = i; rw [h9, va_up_self, hlf]; rfl; rw [va_up_ne _ _ h9]; exact hdd j (by omega)) (Or.inr (by rw [Nat.add_sub_cancel, ← hlf]; omega)) f_64 f_68 _ _ _ hP hS (lv_sub (l' := [(5, .int (nI (i + 1))), (3, .long (lN (lf / 4294967296))), (0, .ref (ad (2 * t)))]) hl [0, 1, 2] rfl)
    have f_69 : g_40 (2 * t + 1) = .inl (cA (2 * t + 1), rmc t, .inl (fun j => nI (ft9 j))) := (fr_42 (2 * t + 1) (by omega)).trans ((fr_39 (2 * t + 1) (by omega)).trans bt9)
    exact loop_43 _ 0 0 ft9 z.natAbs g_40 (fun (k : Nat) (hk : k ≠ 2 * t ∧ k ≠ 2 * t + 1) => rfl) (Nat.lt_succ_self _) (by omega) rfl ut9 (by rw [Nat.pow_zero, Nat.div_one]) (fun j hj => absurd hj (by omega)) (Or.inl rfl) f_41 f_69 _ _ _ hP hS (lv_sub (l' := [(5, .int (nI 0)), (3, .long (lN z.natAbs)), (0, .ref (ad (2 * t)))]) hl [0, 1, 2] rfl)
def wd_V8_become : List Cond := .code yX8_become cX8_become 2 none :: (([.fieldLink RX8 15 "GradientDesk$Whole" "size" "I", .fieldLink RX8 9 "GradientDesk$Whole" "words" "[I", .methodLink RX8 29 Lib.Math.min.name, .static Lib.Math.min.name, .initialized "java/lang/Math", .code Lib.Math.min.name Lib.Math.min.code 2 (some .int), .methodLink RX8 33 arraycopyName, .native arraycopyName, .static arraycopyName, .initialized "java/lang/System", .fieldLink RX8 19 "GradientDesk$Whole" "below" "Z"] : List Cond) ++ (u_ws RX8 TX8 3 ++ ([])))
theorem gw_V8_become : wd_V8_become.all goodWord = true := k_allc rfl (k_all (by decide +kernel) (k_all (gu_X8) (rfl)))
set_option maxHeartbeats 4000000 in
set_option maxRecDepth 100000 in
theorem c_V8_become (l : Launch) (dC : Nat → ClassId) (dI : Nat → Nat → Nat) (A : Nat → Prop) (ad : Nat → Nat) (cA : Nat → ClassId) (g : Nat → va_E) (t : Nat) (x : Nat) (v : Int) (hAW : AW ad cA g) (it : t < 1038) (ix : x < 1038) (vx : WV ad cA g x v) (hne : t ≠ x) (hfit : v.natAbs < 4294967296 ^ rmc t) : Met l yX8_become wd_V8_become ({ frames := 10, cells := 0, slots := 0, locals := 200 }) (va_Pc [.ref (ad (2 * t)), .ref (ad (2 * x))] (PR NSc tyc dC dI A ad cA g)) (va_Qv (fun (u : Nat → va_E) => match u with | g2 => (∀ k, k ≠ 2 * t ∧ k ≠ 2 * t + 1 → g2 k = g k) ∧ AW ad cA g2 ∧ WV ad cA g2 t v) (fun (u : Nat → va_E) (t : State) => va_P (dC, dI) vwCl (wo ad NSc u) t.heap) A) (0) (0) A := by
  refine Met.ofW (cc := cX8_become) (maxL := 2) (ret := none) (by decide) rfl ?_
  intro p e s m args below meth c s₁ B hml hv
  obtain ⟨rfl, hA, hP, hL⟩ := hv
  have hx := B.exec
  have hb := B.bytes
  have hr := B.returns
  have hts := atoms_spec (ws := wd_V8_become) B.pre
  have hown : s.vm.findClass RX8 = some m.cls := findClass_of_methodNamed B.named
  have hlocks := B.notSynchronized
  have hK := hL.1
  have hD : ∀ g, va_D A (wo ad NSc g) := fun g => wo_D hL.2.1 hL.2.2 g
  have hS : va_S A s.heap s.heap [] := va_S.rf
  have bk0 : ∀ w ∈ u_ws RX8 TX8 3, w ∈ wd_V8_become := fun _ h => List.mem_cons_of_mem _ (List.mem_append_right _ (List.mem_append_left _ h))
  have hl := lv_entry ([.ref (ad (2 * t)), .ref (ad (2 * x))]) (n := 2) (Nat.le_of_ble_eq_true rfl)
  rw [lg_entry_eq]
  generalize (lg_sl ([.ref (ad (2 * t)), .ref (ad (2 * x))]) ++ List.replicate (2 - (lg_sl ([.ref (ad (2 * t)), .ref (ad (2 * x))])).length) Slot.unset).toArray = ls at hl ⊢
  have hl : lv_has ls 2 [(0, .ref (ad (2 * t))), (1, .ref (ad (2 * x)))] := hl
  obtain ⟨st9, nt9, ft9, at9, bt9, ut9, ct9, et9⟩ := AW.wn hAW it
  have qt9 := rmc_le t
  obtain ⟨sx9, nx9, fx9, ⟨ax9, bx9, ux9, cx9, ex9⟩, rx9, gx9⟩ := vx
  have qx9 := rmc_le x
  refine lv_aload_n hx hb dX8_become_0 rfl (lv_at hl 0 rfl) ?_
  refine lv_aload_n hx hb dX8_become_1 rfl (lv_at hl 1 rfl) ?_
  refine m_get (D := (dC, dI)) (v := .int (nI sx9)) (C := RX8) (T := TX8) (N := 3) hx hb hts bk0 hown hK hP (2 * x) (ns_w (by omega)) ax9 rfl 1 (by decide) (hts (.fieldLink RX8 15 "GradientDesk$Whole" "size" "I") (List.mem_of_getElem? (i := 1) rfl)) (fun _ h9 => h9) rfl dX8_become_2 ?_
  refine lv_aload_n hx hb dX8_become_5 rfl (lv_at hl 0 rfl) ?_
  refine m_get (D := (dC, dI)) (v := .ref (ad (2 * t + 1))) (C := RX8) (T := TX8) (N := 3) hx hb hts bk0 hown hK hP (2 * t) (ns_w (by omega)) at9 rfl 0 (by decide) (hts (.fieldLink RX8 9 "GradientDesk$Whole" "words" "[I") (List.mem_of_getElem? (i := 2) rfl)) (fun _ h9 => h9) rfl dX8_become_6 ?_
  refine m_alen hx hb hK hP (2 * t + 1) (ns_w (by omega)) bt9 dX8_become_9 ?_
  refine va_mmin hx hb (by rw [hml]; exact hl.1.symm) hown (hts (.methodLink RX8 29 Lib.Math.min.name) (List.mem_of_getElem? (i := 3) rfl)) (hts (.static Lib.Math.min.name) (List.mem_of_getElem? (i := 4) rfl)) (hts (.initialized "java/lang/Math") (List.mem_of_getElem? (i := 5) rfl)) (hts (.code Lib.Math.min.name Lib.Math.min.code 2 (some .int)) (List.mem_of_getElem? (i := 6) rfl)) (Nat.le_of_ble_eq_true rfl) (Nat.le_of_ble_eq_true rfl) (Nat.le_of_ble_eq_true rfl) (Nat.le_of_ble_eq_true rfl) dX8_become_10 ?_
  refine lv_topi (fun x_2 e_3 => ?_)
  obtain ⟨q_1, hq_1, eq_1⟩ : ∃ z : Nat, z = min sx9 (rmc t) ∧ x_2 = nI z := ⟨_, rfl, by rw [e_3]; exact k_min (by omega) (by omega)⟩
  subst eq_1
  have hsm : q_1 = sx9 := by have h9 := rx9.le_of hfit; omega
  rw [hsm]
  refine m_put (D := (dC, dI)) (v := .int (nI sx9)) (tv := .int) (C := RX8) (T := TX8) (N := 3) hx hb hts bk0 tyX8 tyX8_ok nmX8 hown hK hP hD hS (2 * t) (ns_w (by omega)) at9 rfl 1 (by decide) (hts (.fieldLink RX8 15 "GradientDesk$Whole" "size" "I") (List.mem_of_getElem? (i := 1) rfl)) (fun _ h9 => h9) rfl (by decide +kernel) rfl rfl (Nat.le_of_ble_eq_true rfl) dX8_become_13 (fun H locs g_4 f_5 fr_6 hP hS => ?_)
  have f_5 : g_4 (2 * t) = .inr (11, [.ref (ad (2 * t + 1)), .int (nI sx9), .int (nI nt9)]) := f_5
  refine lv_aload_n hx hb dX8_become_16 rfl (lv_at hl 1 rfl) ?_
  have f_7 : g_4 (2 * x) = .inr (11, [.ref (ad (2 * x + 1)), .int (nI sx9), .int (nI nx9)]) := (fr_6 (2 * x) (by omega)).trans ax9
  refine m_get (D := (dC, dI)) (v := .ref (ad (2 * x + 1))) (C := RX8) (T := TX8) (N := 3) hx hb hts bk0 hown hK hP (2 * x) (ns_w (by omega)) f_7 rfl 0 (by decide) (hts (.fieldLink RX8 9 "GradientDesk$Whole" "words" "[I") (List.mem_of_getElem? (i := 2) rfl)) (fun _ h9 => h9) rfl dX8_become_17 ?_
  refine lv_iconst (v := nI 0) hx hb dX8_become_20 (by decide +kernel) ?_
  refine lv_aload_n hx hb dX8_become_21 rfl (lv_at hl 0 rfl) ?_
  refine m_get (D := (dC, dI)) (v := .ref (ad (2 * t + 1))) (C := RX8) (T := TX8) (N := 3) hx hb hts bk0 hown hK hP (2 * t) (ns_w (by omega)) f_5 rfl 0 (by decide) (hts (.fieldLink RX8 9 "GradientDesk$Whole" "words" "[I") (List.mem_of_getElem? (i := 2) rfl)) (fun _ h9 => h9) rfl dX8_become_22 ?_
  refine lv_iconst (v := nI 0) hx hb dX8_become_25 (by decide +kernel) ?_
  refine lv_aload_n hx hb dX8_become_26 rfl (lv_at hl 0 rfl) ?_
  refine m_get (D := (dC, dI)) (v := .int (nI sx9)) (C := RX8) (T := TX8) (N := 3) hx hb hts bk0 hown hK hP (2 * t) (ns_w (by omega)) f_5 rfl 1 (by decide) (hts (.fieldLink RX8 15 "GradientDesk$Whole" "size" "I") (List.mem_of_getElem? (i := 1) rfl)) (fun _ h9 => h9) rfl dX8_become_27 ?_
  have f_8 : g_4 (2 * x + 1) = .inl (cA (2 * x + 1), rmc x, .inl (fun j => nI (fx9 j))) := (fr_6 (2 * x + 1) (by omega)).trans bx9
  have f_9 : g_4 (2 * t + 1) = .inl (cA (2 * t + 1), rmc t, .inl (fun j => nI (ft9 j))) := (fr_6 (2 * t + 1) (by omega)).trans bt9
  refine m_copyi hx hb (by rw [hml]; exact hl.1.symm) hown (hts (.methodLink RX8 33 arraycopyName) (List.mem_of_getElem? (i := 7) rfl)) (hts (.native arraycopyName) (List.mem_of_getElem? (i := 8) rfl)) (hts (.static arraycopyName) (List.mem_of_getElem? (i := 9) rfl)) (hts (.initialized "java/lang/System") (List.mem_of_getElem? (i := 10) rfl)) hK hP hD hS (2 * x + 1) (2 * t + 1) (ns_w (by omega)) (ns_w (by omega)) (tyc_w (by omega)) (tyc_w (by omega)) f_8 f_9 (z := sx9) (by omega) (by omega) (by omega) (Nat.le_of_ble_eq_true rfl) (Nat.le_of_ble_eq_true rfl) dX8_become_30 (fun H locs g_10 f_11 fr_12 hP hS => ?_)
  rw [cpy_n] at f_11
  have ub_13 : ∀ j, (fun j => if j < sx9 then fx9 j else ft9 j) j < 4294967296 := fun j => by show (if j < sx9 then fx9 j else ft9 j) < _; split; exact ux9 j; exact ut9 j
  refine lv_aload_n hx hb dX8_become_33 rfl (lv_at hl 0 rfl) ?_
  refine lv_aload_n hx hb dX8_become_34 rfl (lv_at hl 1 rfl) ?_
  have f_14 : g_10 (2 * x) = .inr (11, [.ref (ad (2 * x + 1)), .int (nI sx9), .int (nI nx9)]) := (fr_12 (2 * x) (by omega)).trans f_7
  refine m_get (D := (dC, dI)) (v := .int (nI nx9)) (C := RX8) (T := TX8) (N := 3) hx hb hts bk0 hown hK hP (2 * x) (ns_w (by omega)) f_14 rfl 2 (by decide) (hts (.fieldLink RX8 19 "GradientDesk$Whole" "below" "Z") (List.mem_of_getElem? (i := 11) rfl)) (fun _ h9 => h9) rfl dX8_become_35 ?_
  have f_15 : g_10 (2 * t) = .inr (11, [.ref (ad (2 * t + 1)), .int (nI sx9), .int (nI nt9)]) := (fr_12 (2 * t) (by omega)).trans f_5
  refine m_put (D := (dC, dI)) (v := .int (nI nx9)) (tv := .boolean) (C := RX8) (T := TX8) (N := 3) hx hb hts bk0 tyX8 tyX8_ok nmX8 hown hK hP hD hS (2 * t) (ns_w (by omega)) f_15 rfl 2 (by decide) (hts (.fieldLink RX8 19 "GradientDesk$Whole" "below" "Z") (List.mem_of_getElem? (i := 11) rfl)) (fun _ h9 => h9) rfl (by decide +kernel) (k_narZ2 (by omega)) (k_fitZ2 (by omega)) (Nat.le_of_ble_eq_true rfl) dX8_become_38 (fun H locs g_16 f_17 fr_18 hP hS => ?_)
  have f_17 : g_16 (2 * t) = .inr (11, [.ref (ad (2 * t + 1)), .int (nI sx9), .int (nI nx9)]) := f_17
  have f_19 : g_16 (2 * t + 1) = .inl (cA (2 * t + 1), rmc t, .inl (fun j => nI ((fun j => if j < sx9 then fx9 j else ft9 j) j))) := (fr_18 (2 * t + 1) (by omega)).trans f_11
  have hWN : WN ad cA g_16 t sx9 nx9 (fun j => if j < sx9 then fx9 j else ft9 j) := ⟨f_17, f_19, ub_13, by omega, by omega⟩
  refine W.widen (k := 0) (n := 0) (by omega) (by omega) ?_
  exact W.vret hx hb hr (fun t9 ht9 hW9 => ⟨⟨g_16, rfl, ⟨(fun (k : Nat) (hk : k ≠ 2 * t ∧ k ≠ 2 * t + 1) => (fr_18 k (by omega)).trans ((fr_12 k (by omega)).trans ((fr_6 k (by omega)).trans (rfl)))), hWN.aw hAW (fun (k : Nat) (hk : k ≠ 2 * t ∧ k ≠ 2 * t + 1) => (fr_18 k (by omega)).trans ((fr_12 k (by omega)).trans ((fr_6 k (by omega)).trans (rfl)))), _, _, _, hWN, rx9.congr (fun j hj => if_pos hj), gx9⟩, by show va_P (dC, dI) vwCl _ t9.heap; rw [ht9]; exact hP⟩, hS.F ht9⟩) hS.2.2 dX8_become_41
def wd_V8_equalTo : List Cond := .code yX8_equalTo cX8_equalTo 3 (some .boolean) :: (([.fieldLink RX8 19 "GradientDesk$Whole" "below" "Z", .fieldLink RX8 15 "GradientDesk$Whole" "size" "I", .fieldLink RX8 9 "GradientDesk$Whole" "words" "[I"] : List Cond) ++ (u_ws RX8 TX8 3 ++ ([])))
theorem gw_V8_equalTo : wd_V8_equalTo.all goodWord = true := k_allc rfl (k_all (by decide +kernel) (k_all (gu_X8) (rfl)))
set_option maxHeartbeats 4000000 in
set_option maxRecDepth 100000 in
theorem c_V8_equalTo (l : Launch) (dC : Nat → ClassId) (dI : Nat → Nat → Nat) (A : Nat → Prop) (ad : Nat → Nat) (cA : Nat → ClassId) (g : Nat → va_E) (t : Nat) (x : Nat) (v : Int) (w1 : Int) (hAW : AW ad cA g) (it : t < 1038) (ix : x < 1038) (vt : WV ad cA g t v) (vx : WV ad cA g x w1) : Met l yX8_equalTo wd_V8_equalTo ({ frames := 10, cells := 0, slots := 0, locals := 200 }) (va_Pc [.ref (ad (2 * t)), .ref (ad (2 * x))] (PR NSc tyc dC dI A ad cA g)) (va_Qi (fun (r : Int32) => fun (u : Unit) => match u with | () => (r = nI 1 ∧ v = w1) ∨ (r = nI 0 ∧ v ≠ w1)) (fun (u : Unit) (t : State) => va_P (dC, dI) vwCl (wo ad NSc g) t.heap) A) (0) (0) A := by
  refine Met.ofW (cc := cX8_equalTo) (maxL := 3) (ret := (some .boolean)) (by decide) rfl ?_
  intro p e s m args below meth c s₁ B hml hv
  obtain ⟨rfl, hA, hP, hL⟩ := hv
  have hx := B.exec
  have hb := B.bytes
  have hr := B.returns
  have hts := atoms_spec (ws := wd_V8_equalTo) B.pre
  have hown : s.vm.findClass RX8 = some m.cls := findClass_of_methodNamed B.named
  have hlocks := B.notSynchronized
  have hK := hL.1
  have hD : ∀ g, va_D A (wo ad NSc g) := fun g => wo_D hL.2.1 hL.2.2 g
  have hS : va_S A s.heap s.heap [] := va_S.rf
  have bk0 : ∀ w ∈ u_ws RX8 TX8 3, w ∈ wd_V8_equalTo := fun _ h => List.mem_cons_of_mem _ (List.mem_append_right _ (List.mem_append_left _ h))
  have hl := lv_entry ([.ref (ad (2 * t)), .ref (ad (2 * x))]) (n := 3) (Nat.le_of_ble_eq_true rfl)
  rw [lg_entry_eq]
  generalize (lg_sl ([.ref (ad (2 * t)), .ref (ad (2 * x))]) ++ List.replicate (3 - (lg_sl ([.ref (ad (2 * t)), .ref (ad (2 * x))])).length) Slot.unset).toArray = ls at hl ⊢
  have hl : lv_has ls 3 [(0, .ref (ad (2 * t))), (1, .ref (ad (2 * x)))] := hl
  obtain ⟨st9, nt9, ft9, ⟨at9, bt9, ut9, ct9, et9⟩, rt9, gt9⟩ := vt
  have qt9 := rmc_le t
  obtain ⟨sx9, nx9, fx9, ⟨ax9, bx9, ux9, cx9, ex9⟩, rx9, gx9⟩ := vx
  have qx9 := rmc_le x
  refine lv_aload_n hx hb dX8_equalTo_0 rfl (lv_at hl 0 rfl) ?_
  refine m_get (D := (dC, dI)) (v := .int (nI nt9)) (C := RX8) (T := TX8) (N := 3) hx hb hts bk0 hown hK hP (2 * t) (ns_w (by omega)) at9 rfl 2 (by decide) (hts (.fieldLink RX8 19 "GradientDesk$Whole" "below" "Z") (List.mem_of_getElem? (i := 1) rfl)) (fun _ h9 => h9) rfl dX8_equalTo_1 ?_
  refine lv_aload_n hx hb dX8_equalTo_4 rfl (lv_at hl 1 rfl) ?_
  refine m_get (D := (dC, dI)) (v := .int (nI nx9)) (C := RX8) (T := TX8) (N := 3) hx hb hts bk0 hown hK hP (2 * x) (ns_w (by omega)) ax9 rfl 2 (by decide) (hts (.fieldLink RX8 19 "GradientDesk$Whole" "below" "Z") (List.mem_of_getElem? (i := 1) rfl)) (fun _ h9 => h9) rfl dX8_equalTo_5 ?_
  refine lv_icmp_ne (tgt := 22) hx hb dX8_equalTo_8 (by decide) (fun c_1 => ?_) (fun c_1 => ?_)
  · have c_1 := mt (nI_eq (a := nt9) (b := nx9) (by omega) (by omega)).mpr c_1
    refine lv_iconst (v := nI 0) hx hb dX8_equalTo_22 (by decide +kernel) ?_
    refine W.widen (k := 0) (n := 0) (by omega) (by omega) ?_
    exact W.zret (v := nI 0) hx hb hr (by decide +kernel) (fun t9 ht9 hW9 => ⟨⟨nI 0, (), rfl, Or.inr ⟨rfl, fun h9 => by omega⟩, by show va_P (dC, dI) vwCl _ t9.heap; rw [ht9]; exact hP⟩, hS.F ht9⟩) hS.2.2 dX8_equalTo_23
  · have c_1 := (nI_eq (a := nt9) (b := nx9) (by omega) (by omega)).mp c_1
    refine lv_aload_n hx hb dX8_equalTo_11 rfl (lv_at hl 0 rfl) ?_
    refine m_get (D := (dC, dI)) (v := .int (nI st9)) (C := RX8) (T := TX8) (N := 3) hx hb hts bk0 hown hK hP (2 * t) (ns_w (by omega)) at9 rfl 1 (by decide) (hts (.fieldLink RX8 15 "GradientDesk$Whole" "size" "I") (List.mem_of_getElem? (i := 2) rfl)) (fun _ h9 => h9) rfl dX8_equalTo_12 ?_
    refine lv_aload_n hx hb dX8_equalTo_15 rfl (lv_at hl 1 rfl) ?_
    refine m_get (D := (dC, dI)) (v := .int (nI sx9)) (C := RX8) (T := TX8) (N := 3) hx hb hts bk0 hown hK hP (2 * x) (ns_w (by omega)) ax9 rfl 1 (by decide) (hts (.fieldLink RX8 15 "GradientDesk$Whole" "size" "I") (List.mem_of_getElem? (i := 2) rfl)) (fun _ h9 => h9) rfl dX8_equalTo_16 ?_
    refine lv_icmp_eq (tgt := 24) hx hb dX8_equalTo_19 (by decide) (fun c_2 => ?_) (fun c_2 => ?_)
    · have c_2 := (nI_eq (a := st9) (b := sx9) (by omega) (by omega)).mp c_2
      refine lv_iconst (v := nI 0) hx hb dX8_equalTo_24 (by decide +kernel) ?_
      refine lv_istore_n (lv' := [(2, .int (nI 0)), (0, .ref (ad (2 * t))), (1, .ref (ad (2 * x)))]) hx hb dX8_equalTo_25 rfl hl (by decide) rfl (fun ls hl => ?_)
      have loop_3 : ∀ (k9 : Nat) (i : Nat), 4096 - i < k9 → (i ≤ st9) → (∀ j, j < i → ft9 j = fx9 j) → ∀ (H : Heap) (locs : List Loc) (ls : Array Slot), va_P (dC, dI) vwCl (wo ad NSc g) H → va_S A s.heap H locs → lv_has ls 3 [(0, .ref (ad (2 * t))), (1, .ref (ad (2 * x))), (2, .int (nI i))] → W p l e (headSpec wd_V8_equalTo ({ frames := 10, cells := 0, slots := 0, locals := 200 })).room s m ([.ref (ad (2 * t)), .ref (ad (2 * x))] : List Value).toArray below meth c H locs (0) (0) (MQ below (va_Qi (fun (r : Int32) => fun (u : Unit) => match u with | () => (r = nI 1 ∧ v = w1) ∨ (r = nI 0 ∧ v ≠ w1)) (fun (u : Unit) (t : State) => va_P (dC, dI) vwCl (wo ad NSc g) t.heap) A) ([.ref (ad (2 * t)), .ref (ad (2 * x))] : List Value).toArray s (0) (0) A) (F0 m 26 ls []) := by
        intro k9
        induction k9 with
        | zero => intro i h9; exact absurd h9 (Nat.not_lt_zero _)
        | succ k9 ih_4 =>
          intro i h9 hi hee H locs ls hP hS hl
          refine lv_iload_n hx hb dX8_equalTo_26 rfl (lv_at hl 2 rfl) ?_
          refine lv_aload_n hx hb dX8_equalTo_27 rfl (lv_at hl 0 rfl) ?_
          refine m_get (D := (dC, dI)) (v := .int (nI st9)) (C := RX8) (T := TX8) (N := 3) hx hb hts bk0 hown hK hP (2 * t) (ns_w (by omega)) at9 rfl 1 (by decide) (hts (.fieldLink RX8 15 "GradientDesk$Whole" "size" "I") (List.mem_of_getElem? (i := 2) rfl)) (fun _ h9 => h9) rfl dX8_equalTo_28 ?_
          refine lv_icmp_ge (tgt := 57) hx hb dX8_equalTo_31 (by decide) (fun c_7 => ?_) (fun c_7 => ?_)
          · have c_7 := (nI_leI (a := st9) (b := i) (by omega) (by omega)).mp c_7
            refine lv_iconst (v := nI 1) hx hb dX8_equalTo_57 (by decide +kernel) ?_
            refine W.widen (k := 0) (n := 0) (by omega) (by omega) ?_
            exact W.zret (v := nI 1) hx hb hr (by decide +kernel) (fun t9 ht9 hW9 => ⟨⟨nI 1, (), rfl, Or.inl ⟨rfl, by have h9 := rp_eq rt9 ((show st9 = sx9 by omega) ▸ rx9) (fun j hj => hee j (by omega)); omega⟩, by show va_P (dC, dI) vwCl _ t9.heap; rw [ht9]; exact hP⟩, hS.F ht9⟩) hS.2.2 dX8_equalTo_58
          · have c_7 := mt (nI_leI (a := st9) (b := i) (by omega) (by omega)).mpr c_7
            refine lv_aload_n hx hb dX8_equalTo_34 rfl (lv_at hl 0 rfl) ?_
            refine m_get (D := (dC, dI)) (v := .ref (ad (2 * t + 1))) (C := RX8) (T := TX8) (N := 3) hx hb hts bk0 hown hK hP (2 * t) (ns_w (by omega)) at9 rfl 0 (by decide) (hts (.fieldLink RX8 9 "GradientDesk$Whole" "words" "[I") (List.mem_of_getElem? (i := 3) rfl)) (fun _ h9 => h9) rfl dX8_equalTo_35 ?_
            refine lv_iload_n hx hb dX8_equalTo_38 rfl (lv_at hl 2 rfl) ?_
            refine m_iald hx hb hK hP (2 * t + 1) (ns_w (by omega)) (tyc_w (by omega)) bt9 (i := i) (by omega) (by omega) dX8_equalTo_39 ?_
            have b_8 := ut9 i
            refine lv_aload_n hx hb dX8_equalTo_40 rfl (lv_at hl 1 rfl) ?_
            refine m_get (D := (dC, dI)) (v := .ref (ad (2 * x + 1))) (C := RX8) (T := TX8) (N := 3) hx hb hts bk0 hown hK hP (2 * x) (ns_w (by omega)) ax9 rfl 0 (by decide) (hts (.fieldLink RX8 9 "GradientDesk$Whole" "words" "[I") (List.mem_of_getElem? (i := 3) rfl)) (fun _ h9 => h9) rfl dX8_equalTo_41 ?_
            refine lv_iload_n hx hb dX8_equalTo_44 rfl (lv_at hl 2 rfl) ?_
            refine m_iald hx hb hK hP (2 * x + 1) (ns_w (by omega)) (tyc_w (by omega)) bx9 (i := i) (by omega) (by omega) dX8_equalTo_45 ?_
            have b_9 := ux9 i
            refine lv_icmp_eq (tgt := 51) hx hb dX8_equalTo_46 (by decide) (fun c_10 => ?_) (fun c_10 => ?_)
            · have c_10 := (k_weq (a := (ft9 i)) (b := (fx9 i)) (by omega) (by omega)).mp c_10
              refine lv_iinc (v := nI (i + 1)) (lv' := [(2, .int (nI (i + 1))), (0, .ref (ad (2 * t))), (1, .ref (ad (2 * x)))]) hx hb dX8_equalTo_51 hl (k := 2) rfl (nI_add i 1) (by decide) rfl (fun ls hl => ?_)
              refine lv_goto (tgt := 26) hx hb dX8_equalTo_54 (by decide) ?_
              exact ih_4 (i + 1) (by omega) (by omega) (fun j hj => by by_cases h9 : j = i; subst h9; exact c_10; exact hee j (by omega)) _ _ _ hP hS (lv_sub (l' := [(0, .ref (ad (2 * t))), (1, .ref (ad (2 * x))), (2, .int (nI (i + 1)))]) hl [1, 2, 0] rfl)
            · have c_10 := mt (k_weq (a := (ft9 i)) (b := (fx9 i)) (by omega) (by omega)).mpr c_10
              refine lv_iconst (v := nI 0) hx hb dX8_equalTo_49 (by decide +kernel) ?_
              refine W.widen (k := 0) (n := 0) (by omega) (by omega) ?_
              exact W.zret (v := nI 0) hx hb hr (by decide +kernel) (fun t9 ht9 hW9 => ⟨⟨nI 0, (), rfl, Or.inr ⟨rfl, fun h9 => by have h8 := rp_ne rt9 ((show sx9 = st9 by omega) ▸ rx9) (j := i) (by omega) c_10; omega⟩, by show va_P (dC, dI) vwCl _ t9.heap; rw [ht9]; exact hP⟩, hS.F ht9⟩) hS.2.2 dX8_equalTo_50
      exact loop_3 _ 0 (Nat.lt_succ_self _) (by omega) (fun j hj => absurd hj (by omega)) _ _ _ hP hS (lv_sub (l' := [(0, .ref (ad (2 * t))), (1, .ref (ad (2 * x))), (2, .int (nI 0))]) hl [1, 2, 0] rfl)
    · have c_2 := mt (nI_eq (a := st9) (b := sx9) (by omega) (by omega)).mpr c_2
      refine lv_iconst (v := nI 0) hx hb dX8_equalTo_22 (by decide +kernel) ?_
      refine W.widen (k := 0) (n := 0) (by omega) (by omega) ?_
      exact W.zret (v := nI 0) hx hb hr (by decide +kernel) (fun t9 ht9 hW9 => ⟨⟨nI 0, (), rfl, Or.inr ⟨rfl, fun h9 => by subst h9; exact absurd (rt9.len rx9) (by omega)⟩, by show va_P (dC, dI) vwCl _ t9.heap; rw [ht9]; exact hP⟩, hS.F ht9⟩) hS.2.2 dX8_equalTo_23
def wd_V8_order : List Cond := .code yX8_orderOfSizes cX8_orderOfSizes 3 (some .int) :: (([.fieldLink RX8 15 "GradientDesk$Whole" "size" "I", .fieldLink RX8 9 "GradientDesk$Whole" "words" "[I", .constantLong RX8 48 (4294967295)] : List Cond) ++ (u_ws RX8 TX8 3 ++ ([])))
theorem gw_V8_order : wd_V8_order.all goodWord = true := k_allc rfl (k_all (by decide +kernel) (k_all (gu_X8) (rfl)))
set_option maxHeartbeats 4000000 in
set_option maxRecDepth 100000 in
theorem c_V8_order (l : Launch) (dC : Nat → ClassId) (dI : Nat → Nat → Nat) (A : Nat → Prop) (ad : Nat → Nat) (cA : Nat → ClassId) (g : Nat → va_E) (t : Nat) (x : Nat) (v : Int) (w1 : Int) (hAW : AW ad cA g) (it : t < 1038) (ix : x < 1038) (vt : WV ad cA g t v) (vx : WV ad cA g x w1) : Met l yX8_orderOfSizes wd_V8_order ({ frames := 10, cells := 0, slots := 0, locals := 200 }) (va_Pc [.ref (ad (2 * t)), .ref (ad (2 * x))] (PR NSc tyc dC dI A ad cA g)) (va_Qi (fun (r : Int32) => fun (u : Unit) => match u with | () => (r = -1 ∧ v.natAbs < w1.natAbs) ∨ (r = nI 0 ∧ v.natAbs = w1.natAbs) ∨ (r = nI 1 ∧ w1.natAbs < v.natAbs)) (fun (u : Unit) (t : State) => va_P (dC, dI) vwCl (wo ad NSc g) t.heap) A) (0) (0) A := by
  refine Met.ofW (cc := cX8_orderOfSizes) (maxL := 3) (ret := (some .int)) (by decide) rfl ?_
  intro p e s m args below meth c s₁ B hml hv
  obtain ⟨rfl, hA, hP, hL⟩ := hv
  have hx := B.exec
  have hb := B.bytes
  have hr := B.returns
  have hts := atoms_spec (ws := wd_V8_order) B.pre
  have hown : s.vm.findClass RX8 = some m.cls := findClass_of_methodNamed B.named
  have hlocks := B.notSynchronized
  have hK := hL.1
  have hD : ∀ g, va_D A (wo ad NSc g) := fun g => wo_D hL.2.1 hL.2.2 g
  have hS : va_S A s.heap s.heap [] := va_S.rf
  have bk0 : ∀ w ∈ u_ws RX8 TX8 3, w ∈ wd_V8_order := fun _ h => List.mem_cons_of_mem _ (List.mem_append_right _ (List.mem_append_left _ h))
  have hl := lv_entry ([.ref (ad (2 * t)), .ref (ad (2 * x))]) (n := 3) (Nat.le_of_ble_eq_true rfl)
  rw [lg_entry_eq]
  generalize (lg_sl ([.ref (ad (2 * t)), .ref (ad (2 * x))]) ++ List.replicate (3 - (lg_sl ([.ref (ad (2 * t)), .ref (ad (2 * x))])).length) Slot.unset).toArray = ls at hl ⊢
  have hl : lv_has ls 3 [(0, .ref (ad (2 * t))), (1, .ref (ad (2 * x)))] := hl
  obtain ⟨st9, nt9, ft9, ⟨at9, bt9, ut9, ct9, et9⟩, rt9, gt9⟩ := vt
  have qt9 := rmc_le t
  obtain ⟨sx9, nx9, fx9, ⟨ax9, bx9, ux9, cx9, ex9⟩, rx9, gx9⟩ := vx
  have qx9 := rmc_le x
  refine lv_aload_n hx hb dX8_orderOfSizes_0 rfl (lv_at hl 0 rfl) ?_
  refine m_get (D := (dC, dI)) (v := .int (nI st9)) (C := RX8) (T := TX8) (N := 3) hx hb hts bk0 hown hK hP (2 * t) (ns_w (by omega)) at9 rfl 1 (by decide) (hts (.fieldLink RX8 15 "GradientDesk$Whole" "size" "I") (List.mem_of_getElem? (i := 1) rfl)) (fun _ h9 => h9) rfl dX8_orderOfSizes_1 ?_
  refine lv_aload_n hx hb dX8_orderOfSizes_4 rfl (lv_at hl 1 rfl) ?_
  refine m_get (D := (dC, dI)) (v := .int (nI sx9)) (C := RX8) (T := TX8) (N := 3) hx hb hts bk0 hown hK hP (2 * x) (ns_w (by omega)) ax9 rfl 1 (by decide) (hts (.fieldLink RX8 15 "GradientDesk$Whole" "size" "I") (List.mem_of_getElem? (i := 1) rfl)) (fun _ h9 => h9) rfl dX8_orderOfSizes_5 ?_
  refine lv_icmp_eq (tgt := 28) hx hb dX8_orderOfSizes_8 (by decide) (fun c_1 => ?_) (fun c_1 => ?_)
  · have c_1 := (nI_eq (a := st9) (b := sx9) (by omega) (by omega)).mp c_1
    have hss : sx9 = st9 := by omega
    have rx8 := rx9
    rw [hss] at rx8
    refine lv_aload_n hx hb dX8_orderOfSizes_28 rfl (lv_at hl 0 rfl) ?_
    refine m_get (D := (dC, dI)) (v := .int (nI st9)) (C := RX8) (T := TX8) (N := 3) hx hb hts bk0 hown hK hP (2 * t) (ns_w (by omega)) at9 rfl 1 (by decide) (hts (.fieldLink RX8 15 "GradientDesk$Whole" "size" "I") (List.mem_of_getElem? (i := 1) rfl)) (fun _ h9 => h9) rfl dX8_orderOfSizes_29 ?_
    refine lv_iconst (v := nI 1) hx hb dX8_orderOfSizes_32 (by decide +kernel) ?_
    refine lv_isub hx hb dX8_orderOfSizes_33 ?_
    refine lv_istore_n (lv' := [(2, .int (nI st9 - nI 1)), (0, .ref (ad (2 * t))), (1, .ref (ad (2 * x)))]) hx hb dX8_orderOfSizes_34 rfl hl (by decide) rfl (fun ls hl => ?_)
    have loop_2 : ∀ (k9 : Nat) (d : Nat), d < k9 → (d ≤ st9) → (∀ j, d ≤ j → j < st9 → ft9 j = fx9 j) → ∀ (H : Heap) (locs : List Loc) (ls : Array Slot), va_P (dC, dI) vwCl (wo ad NSc g) H → va_S A s.heap H locs → lv_has ls 3 [(0, .ref (ad (2 * t))), (1, .ref (ad (2 * x))), (2, .int (nI d - nI 1))] → W p l e (headSpec wd_V8_order ({ frames := 10, cells := 0, slots := 0, locals := 200 })).room s m ([.ref (ad (2 * t)), .ref (ad (2 * x))] : List Value).toArray below meth c H locs (0) (0) (MQ below (va_Qi (fun (r : Int32) => fun (u : Unit) => match u with | () => (r = -1 ∧ v.natAbs < w1.natAbs) ∨ (r = nI 0 ∧ v.natAbs = w1.natAbs) ∨ (r = nI 1 ∧ w1.natAbs < v.natAbs)) (fun (u : Unit) (t : State) => va_P (dC, dI) vwCl (wo ad NSc g) t.heap) A) ([.ref (ad (2 * t)), .ref (ad (2 * x))] : List Value).toArray s (0) (0) A) (F0 m 35 ls []) := by
      intro k9
      induction k9 with
      | zero => intro d h9; exact absurd h9 (Nat.not_lt_zero _)
      | succ k9 ih_3 =>
        intro d h9 hd hee H locs ls hP hS hl
        refine lv_iload_n hx hb dX8_orderOfSizes_35 rfl (lv_at hl 2 rfl) ?_
        refine lv_if_lt (tgt := 92) hx hb dX8_orderOfSizes_36 (by decide) (fun c_6 => ?_) (fun c_6 => ?_)
        · have c_6 := (k_m1lt (d := d) (by omega)).mp c_6
          refine lv_iconst (v := nI 0) hx hb dX8_orderOfSizes_92 (by decide +kernel) ?_
          refine W.widen (k := 0) (n := 0) (by omega) (by omega) ?_
          exact W.iret (v := nI 0) hx hb hr (fun t9 ht9 hW9 => ⟨⟨nI 0, (), rfl, Or.inr (Or.inl ⟨rfl, rp_eq rt9 rx8 (fun j hj => hee j (by omega) hj)⟩), by show va_P (dC, dI) vwCl _ t9.heap; rw [ht9]; exact hP⟩, hS.F ht9⟩) hS.2.2 dX8_orderOfSizes_93
        · have c_6 := mt (k_m1lt (d := d) (by omega)).mpr c_6
          have e_7 : nI d - nI 1 = nI (d - 1) := pk_sub (by omega)
          rw [e_7] at hl
          refine lv_aload_n hx hb dX8_orderOfSizes_39 rfl (lv_at hl 0 rfl) ?_
          refine m_get (D := (dC, dI)) (v := .ref (ad (2 * t + 1))) (C := RX8) (T := TX8) (N := 3) hx hb hts bk0 hown hK hP (2 * t) (ns_w (by omega)) at9 rfl 0 (by decide) (hts (.fieldLink RX8 9 "GradientDesk$Whole" "words" "[I") (List.mem_of_getElem? (i := 2) rfl)) (fun _ h9 => h9) rfl dX8_orderOfSizes_40 ?_
          refine lv_iload_n hx hb dX8_orderOfSizes_43 rfl (lv_at hl 2 rfl) ?_
          refine m_iald hx hb hK hP (2 * t + 1) (ns_w (by omega)) (tyc_w (by omega)) bt9 (i := d - 1) (by omega) (by omega) dX8_orderOfSizes_44 ?_
          have b_8 := ut9 (d - 1)
          refine lv_aload_n hx hb dX8_orderOfSizes_45 rfl (lv_at hl 1 rfl) ?_
          refine m_get (D := (dC, dI)) (v := .ref (ad (2 * x + 1))) (C := RX8) (T := TX8) (N := 3) hx hb hts bk0 hown hK hP (2 * x) (ns_w (by omega)) ax9 rfl 0 (by decide) (hts (.fieldLink RX8 9 "GradientDesk$Whole" "words" "[I") (List.mem_of_getElem? (i := 2) rfl)) (fun _ h9 => h9) rfl dX8_orderOfSizes_46 ?_
          refine lv_iload_n hx hb dX8_orderOfSizes_49 rfl (lv_at hl 2 rfl) ?_
          refine m_iald hx hb hK hP (2 * x + 1) (ns_w (by omega)) (tyc_w (by omega)) bx9 (i := d - 1) (by omega) (by omega) dX8_orderOfSizes_50 ?_
          have b_9 := ux9 (d - 1)
          refine lv_icmp_eq (tgt := 86) hx hb dX8_orderOfSizes_51 (by decide) (fun c_10 => ?_) (fun c_10 => ?_)
          · have c_10 := (k_weq (a := (ft9 (d - 1))) (b := (fx9 (d - 1))) (by omega) (by omega)).mp c_10
            refine lv_iinc (v := nI (d - 1) - nI 1) (lv' := [(2, .int (nI (d - 1) - nI 1)), (0, .ref (ad (2 * t))), (1, .ref (ad (2 * x)))]) hx hb dX8_orderOfSizes_86 hl (k := 2) rfl ((show nI (d - 1) + Int32.ofInt (-1) = nI (d - 1) - nI 1 from by rw [show Int32.ofInt (-1) = -nI 1 from by decide, ← Int32.sub_eq_add_neg])) (by decide) rfl (fun ls hl => ?_)
            refine lv_goto (tgt := 35) hx hb dX8_orderOfSizes_89 (by decide) ?_
            exact ih_3 (d - 1) (by omega) (by omega) (fun j h1 h2 => by by_cases h9 : j = d - 1; subst h9; exact c_10; exact hee j (by omega) h2) _ _ _ hP hS (lv_sub (l' := [(0, .ref (ad (2 * t))), (1, .ref (ad (2 * x))), (2, .int (nI (d - 1) - nI 1))]) hl [1, 2, 0] rfl)
          · have c_10 := mt (k_weq (a := (ft9 (d - 1))) (b := (fx9 (d - 1))) (by omega) (by omega)).mpr c_10
            refine lv_aload_n hx hb dX8_orderOfSizes_54 rfl (lv_at hl 0 rfl) ?_
            refine m_get (D := (dC, dI)) (v := .ref (ad (2 * t + 1))) (C := RX8) (T := TX8) (N := 3) hx hb hts bk0 hown hK hP (2 * t) (ns_w (by omega)) at9 rfl 0 (by decide) (hts (.fieldLink RX8 9 "GradientDesk$Whole" "words" "[I") (List.mem_of_getElem? (i := 2) rfl)) (fun _ h9 => h9) rfl dX8_orderOfSizes_55 ?_
            refine lv_iload_n hx hb dX8_orderOfSizes_58 rfl (lv_at hl 2 rfl) ?_
            refine m_iald hx hb hK hP (2 * t + 1) (ns_w (by omega)) (tyc_w (by omega)) bt9 (i := d - 1) (by omega) (by omega) dX8_orderOfSizes_59 ?_
            have b_13 := ut9 (d - 1)
            refine lv_i2l hx hb dX8_orderOfSizes_60 rfl ?_
            refine lv_topl (fun y_14 e_15 => ?_)
            subst e_15
            refine lv_ldc2 (v := 4294967295) hx hb hown (hts (.constantLong RX8 48 (4294967295)) (List.mem_of_getElem? (i := 3) rfl)) dX8_orderOfSizes_61 ?_
            refine lv_topl (fun y_16 e_17 => ?_)
            obtain rfl : y_16 = lN 4294967295 := e_17
            refine lv_land hx hb dX8_orderOfSizes_64 ?_
            refine lv_topl (fun y_18 e_19 => ?_)
            obtain rfl : y_18 = lN (ft9 (d - 1)) := e_19.trans (k_word b_13)
            refine lv_aload_n hx hb dX8_orderOfSizes_65 rfl (lv_at hl 1 rfl) ?_
            refine m_get (D := (dC, dI)) (v := .ref (ad (2 * x + 1))) (C := RX8) (T := TX8) (N := 3) hx hb hts bk0 hown hK hP (2 * x) (ns_w (by omega)) ax9 rfl 0 (by decide) (hts (.fieldLink RX8 9 "GradientDesk$Whole" "words" "[I") (List.mem_of_getElem? (i := 2) rfl)) (fun _ h9 => h9) rfl dX8_orderOfSizes_66 ?_
            refine lv_iload_n hx hb dX8_orderOfSizes_69 rfl (lv_at hl 2 rfl) ?_
            refine m_iald hx hb hK hP (2 * x + 1) (ns_w (by omega)) (tyc_w (by omega)) bx9 (i := d - 1) (by omega) (by omega) dX8_orderOfSizes_70 ?_
            have b_20 := ux9 (d - 1)
            refine lv_i2l hx hb dX8_orderOfSizes_71 rfl ?_
            refine lv_topl (fun y_21 e_22 => ?_)
            subst e_22
            refine lv_ldc2 (v := 4294967295) hx hb hown (hts (.constantLong RX8 48 (4294967295)) (List.mem_of_getElem? (i := 3) rfl)) dX8_orderOfSizes_72 ?_
            refine lv_topl (fun y_23 e_24 => ?_)
            obtain rfl : y_23 = lN 4294967295 := e_24
            refine lv_land hx hb dX8_orderOfSizes_75 ?_
            refine lv_topl (fun y_25 e_26 => ?_)
            obtain rfl : y_25 = lN (fx9 (d - 1)) := e_26.trans (k_word b_20)
            refine W.lcmp hx hb dX8_orderOfSizes_76 ?_
            refine lv_if_ge (tgt := 84) hx hb dX8_orderOfSizes_77 (by decide) (fun c_27 => ?_) (fun c_27 => ?_)
            · have c_27 := (pk_lLE (a := (fx9 (d - 1))) (b := (ft9 (d - 1))) (by omega) (by omega)).mp ((k_cmp_ge (lN (ft9 (d - 1))) (lN (fx9 (d - 1)))).mp c_27)
              refine lv_iconst (v := nI 1) hx hb dX8_orderOfSizes_84 (by decide +kernel) ?_
              refine W.widen (k := 0) (n := 0) (by omega) (by omega) ?_
              exact W.iret (v := nI 1) hx hb hr (fun t9 ht9 hW9 => ⟨⟨nI 1, (), rfl, Or.inr (Or.inr ⟨rfl, rp_ltd rx8 rt9 (j := d - 1) (by omega) (fun k h1 h2 => (hee k (by omega) h2).symm) (by omega)⟩), by show va_P (dC, dI) vwCl _ t9.heap; rw [ht9]; exact hP⟩, hS.F ht9⟩) hS.2.2 dX8_orderOfSizes_85
            · have c_27 := mt (pk_lLE (a := (fx9 (d - 1))) (b := (ft9 (d - 1))) (by omega) (by omega)).mpr (mt (k_cmp_ge (lN (ft9 (d - 1))) (lN (fx9 (d - 1)))).mpr c_27)
              refine lv_iconst (v := -1) hx hb dX8_orderOfSizes_80 (by decide +kernel) ?_
              refine lv_goto (tgt := 85) hx hb dX8_orderOfSizes_81 (by decide) ?_
              refine W.widen (k := 0) (n := 0) (by omega) (by omega) ?_
              exact W.iret (v := -1) hx hb hr (fun t9 ht9 hW9 => ⟨⟨-1, (), rfl, Or.inl ⟨rfl, rp_ltd rt9 rx8 (j := d - 1) (by omega) (fun k h1 h2 => hee k (by omega) h2) (by omega)⟩, by show va_P (dC, dI) vwCl _ t9.heap; rw [ht9]; exact hP⟩, hS.F ht9⟩) hS.2.2 dX8_orderOfSizes_85
    exact loop_2 _ st9 (Nat.lt_succ_self _) (by omega) (fun j h1 h2 => absurd h1 (by omega)) _ _ _ hP hS (lv_sub (l' := [(0, .ref (ad (2 * t))), (1, .ref (ad (2 * x))), (2, .int (nI st9 - nI 1))]) hl [1, 2, 0] rfl)
  · have c_1 := mt (nI_eq (a := st9) (b := sx9) (by omega) (by omega)).mpr c_1
    refine lv_aload_n hx hb dX8_orderOfSizes_11 rfl (lv_at hl 0 rfl) ?_
    refine m_get (D := (dC, dI)) (v := .int (nI st9)) (C := RX8) (T := TX8) (N := 3) hx hb hts bk0 hown hK hP (2 * t) (ns_w (by omega)) at9 rfl 1 (by decide) (hts (.fieldLink RX8 15 "GradientDesk$Whole" "size" "I") (List.mem_of_getElem? (i := 1) rfl)) (fun _ h9 => h9) rfl dX8_orderOfSizes_12 ?_
    refine lv_aload_n hx hb dX8_orderOfSizes_15 rfl (lv_at hl 1 rfl) ?_
    refine m_get (D := (dC, dI)) (v := .int (nI sx9)) (C := RX8) (T := TX8) (N := 3) hx hb hts bk0 hown hK hP (2 * x) (ns_w (by omega)) ax9 rfl 1 (by decide) (hts (.fieldLink RX8 15 "GradientDesk$Whole" "size" "I") (List.mem_of_getElem? (i := 1) rfl)) (fun _ h9 => h9) rfl dX8_orderOfSizes_16 ?_
    refine lv_icmp_ge (tgt := 26) hx hb dX8_orderOfSizes_19 (by decide) (fun c_28 => ?_) (fun c_28 => ?_)
    · have c_28 := (nI_leI (a := sx9) (b := st9) (by omega) (by omega)).mp c_28
      refine lv_iconst (v := nI 1) hx hb dX8_orderOfSizes_26 (by decide +kernel) ?_
      refine W.widen (k := 0) (n := 0) (by omega) (by omega) ?_
      exact W.iret (v := nI 1) hx hb hr (fun t9 ht9 hW9 => ⟨⟨nI 1, (), rfl, Or.inr (Or.inr ⟨rfl, rp_lt rx9 rt9 (by omega)⟩), by show va_P (dC, dI) vwCl _ t9.heap; rw [ht9]; exact hP⟩, hS.F ht9⟩) hS.2.2 dX8_orderOfSizes_27
    · have c_28 := mt (nI_leI (a := sx9) (b := st9) (by omega) (by omega)).mpr c_28
      refine lv_iconst (v := -1) hx hb dX8_orderOfSizes_22 (by decide +kernel) ?_
      refine lv_goto (tgt := 27) hx hb dX8_orderOfSizes_23 (by decide) ?_
      refine W.widen (k := 0) (n := 0) (by omega) (by omega) ?_
      exact W.iret (v := -1) hx hb hr (fun t9 ht9 hW9 => ⟨⟨-1, (), rfl, Or.inl ⟨rfl, rp_lt rt9 rx9 (by omega)⟩, by show va_P (dC, dI) vwCl _ t9.heap; rw [ht9]; exact hP⟩, hS.F ht9⟩) hS.2.2 dX8_orderOfSizes_27
end
section
theorem rp_tn {f : Nat → Nat} {n V : Nat} (hd : ∀ j, j < n → f j = dgt V j) (hV : V < 4294967296 ^ n) (h0 : f (n - 1) ≠ 0) : Rp f n V := Rp.fin hd hV (Nat.le_refl _) (fun i h1 h2 => absurd h1 (by omega)) (Or.inr h0)
theorem rp_tz {f : Nat → Nat} {n V : Nat} (hd : ∀ j, j < n → f j = dgt V j) (hV : V < 4294967296 ^ n) (h0 : f (n - 1) = 0) (hn : 0 < n) (hge : n = 1 ∨ 4294967296 ^ (n - 2) ≤ V) : Rp f (n - 1) V := by
  have h1 := hd (n - 1) (by omega)
  rw [h0] at h1
  unfold dgt at h1
  have h2 : V / 4294967296 ^ (n - 1) < 4294967296 := by
    apply Nat.div_lt_of_lt_mul
    rw [← Nat.pow_succ, show (n - 1).succ = n by omega]; exact hV
  rw [Nat.mod_eq_of_lt h2] at h1
  have h3 : V < 4294967296 ^ (n - 1) := by
    rcases Nat.lt_or_ge V (4294967296 ^ (n - 1)) with h | h
    · exact h
    · have := Nat.div_pos h (Nat.pow_pos (by decide)); omega
  refine rp_dg (fun j hj => hd j (by omega)) ?_ h3
  rcases hge with h | h
  · exact Or.inl (by omega)
  · by_cases h9 : n = 1
    · exact Or.inl (by omega)
    · right
      rw [show n - 1 - 1 = n - 2 by omega]
      have := Nat.div_pos h (Nat.pow_pos (by decide)); omega
theorem nv_dg {f : Nat → Nat} {n V : Nat} (hb : ∀ j, f j < 4294967296) (hv : nv f n = V) : (∀ j, j < n → f j = dgt V j) ∧ V < 4294967296 ^ n := by
  subst hv
  exact ⟨fun j hj => (dgt_nv hj (fun k _ => hb k)).symm, nv_lt (fun k _ => hb k)⟩
theorem cell0 {q : Nat → Nat} {n i j cy S pa pb A B : Nat} (hn : i + j < n) (hI : nv q n + cy * 4294967296 ^ (i + j) = S + dgt A i * (B % 4294967296 ^ j) * 4294967296 ^ i) (ha : pa = dgt A i) (hb : pb = dgt B j) : nv (va_up q (i + j) ((cy + (pa * pb + q (i + j))) % 4294967296)) n + (cy + (pa * pb + q (i + j))) / 4294967296 * 4294967296 ^ (i + (j + 1)) = S + dgt A i * (B % 4294967296 ^ (j + 1)) * 4294967296 ^ i := by
  rw [mod_s, ← Nat.add_assoc i j 1, Nat.pow_succ]
  subst ha; subst hb
  exact mul_step (fi := q (i + j)) (nv_up (f := q) hn) hI (by omega) (by rw [Nat.pow_add])
theorem row0 {q : Nat → Nat} {n i lb cy A B : Nat} (hn : i + lb < n) (hz : ∀ j, i + lb ≤ j → j < n → q j = 0) (hI : nv q n + cy * 4294967296 ^ (i + lb) = A % 4294967296 ^ i * B + dgt A i * (B % 4294967296 ^ lb) * 4294967296 ^ i) (hB : B < 4294967296 ^ lb) : nv (va_up q (i + lb) cy) n = A % 4294967296 ^ (i + 1) * B := by
  have h := tm_row (q := fun k => q (k - 165280)) (n := n) (i := i) (lb := lb) (cy := cy) (A := A) (B := B) hn (fun j h1 h2 => by show q (165280 + j - 165280) = 0; rw [show 165280 + j - 165280 = j by omega]; exact hz j h1 h2) (by rw [show (fun k => q (165280 + k - 165280)) = q from funext (fun k => by rw [show 165280 + k - 165280 = k by omega])]; exact hI) hn hB
  rw [← h]
  apply nv_congr
  intro j hj
  by_cases e : j = i + lb
  · rw [e, va_up_self]
    show _ = va_up _ (165280 + i + lb) cy (165280 + (i + lb))
    rw [show 165280 + i + lb = 165280 + (i + lb) by omega, va_up_self]
  · rw [va_up_ne _ _ e, va_up_ne _ _ (by omega), show 165280 + j - 165280 = j by omega]
theorem k_sgm {v w : Int} {a b : Nat} (ha : a = 1 ↔ v < 0) (hb : b = 1 ↔ w < 0) (a2 : a < 2) (b2 : b < 2) (hv : v ≠ 0) (hw : w ≠ 0) : (a = b → ¬ v * w < 0) ∧ (a ≠ b → v * w < 0) := by
  constructor
  · intro h
    by_cases h1 : v < 0
    · have h2 : w < 0 := hb.mp (by have := ha.mpr h1; omega)
      have := Int.mul_pos_of_neg_of_neg h1 h2; omega
    · have h2 : ¬ w < 0 := fun h3 => h1 (ha.mp (by have := hb.mpr h3; omega))
      have := Int.mul_nonneg (show 0 ≤ v by omega) (show 0 ≤ w by omega); omega
  · intro h
    by_cases h1 : v < 0
    · have h2 : ¬ w < 0 := fun h3 => h (by have := ha.mpr h1; have := hb.mpr h3; omega)
      exact Int.mul_neg_of_neg_of_pos h1 (by omega)
    · have h2 : w < 0 := by
        rcases Int.lt_or_le w 0 with h3 | h3
        · exact h3
        · exfalso; apply h; have x1 : a ≠ 1 := fun h9 => h1 (ha.mp h9); have x2 : b ≠ 1 := fun h9 => by have := hb.mp h9; omega
          omega
      exact Int.mul_neg_of_pos_of_neg (by omega) h2
theorem pw_ab {a b V W n : Nat} (hV : 4294967296 ^ (a - 1) ≤ V) (hW : 4294967296 ^ (b - 1) ≤ W) (ha : 0 < a) (hb : 0 < b) (hn : n = a + b) : 4294967296 ^ (n - 2) ≤ V * W := by
  have := Nat.mul_le_mul hV hW
  rw [← Nat.pow_add, show a - 1 + (b - 1) = n - 2 by omega] at this
  exact this
theorem k_2pw2 {a b n : Nat} (ha : a < 4294967296 ^ n) (hb : b < 4294967296 ^ n) : a + b + 0 < 4294967296 ^ (n + 1) := by
  rw [Nat.pow_succ]
  have := Nat.pow_pos (n := n) (show 0 < 4294967296 by decide)
  omega
end
section
def wd_J_fillN : List Cond := .code yJ7_fill_fda19 cJ7_fill_fda19 5 none :: (([.methodLink RJ7 13 yJ7_rangeCheck_23922, .static yJ7_rangeCheck_23922, .initialized RJ7] : List Cond) ++ (wd_J_range ++ ([])))
theorem gw_J_fillN : wd_J_fillN.all goodWord = true := k_allc rfl (k_all (by decide +kernel) (k_all (gw_J_range) (rfl)))
set_option maxHeartbeats 4000000 in
set_option maxRecDepth 100000 in
theorem c_J_fillN (l : Launch) (dC : Nat → ClassId) (dI : Nat → Nat → Nat) (A : Nat → Prop) (ad : Nat → Nat) (cA : Nat → ClassId) (g : Nat → va_E) (t : Nat) (fn : Nat → Nat) (b : Nat) (it : t < 1038) (hg : g (2 * t + 1) = .inl (cA (2 * t + 1), rmc t, .inl (fun j => nI (fn j)))) (hu : ∀ j, fn j < 4294967296) (hb9 : b ≤ rmc t) : Met l yJ7_fill_fda19 wd_J_fillN ({ frames := 20, cells := 0, slots := 0, locals := 400 }) (va_Pc [.ref (ad (2 * t + 1)), .int (nI 0), .int (nI b), .int (nI 0)] (PR NSc tyc dC dI A ad cA g)) (va_Qv (fun (u : (Nat → va_E) × (Nat → Nat)) => match u with | (g2, f2) => (∀ k, k ≠ 2 * t + 1 → g2 k = g k) ∧ g2 (2 * t + 1) = .inl (cA (2 * t + 1), rmc t, .inl (fun j => nI (f2 j))) ∧ (∀ j, f2 j < 4294967296) ∧ (∀ j, j < b → f2 j = 0)) (fun (u : (Nat → va_E) × (Nat → Nat)) (t : State) => va_P (dC, dI) vwCl (wo ad NSc u.1) t.heap) A) (0) (0) A := by
  refine Met.ofW (cc := cJ7_fill_fda19) (maxL := 5) (ret := none) (by decide) rfl ?_
  intro p e s m args below meth c s₁ B hml hv
  obtain ⟨rfl, hA, hP, hL⟩ := hv
  have hx := B.exec
  have hb := B.bytes
  have hr := B.returns
  have hts := atoms_spec (ws := wd_J_fillN) B.pre
  have hown : s.vm.findClass RJ7 = some m.cls := findClass_of_methodNamed B.named
  have hlocks := B.notSynchronized
  have hK := hL.1
  have hD : ∀ g, va_D A (wo ad NSc g) := fun g => wo_D hL.2.1 hL.2.2 g
  have hS : va_S A s.heap s.heap [] := va_S.rf
  have bk0 : ∀ w ∈ wd_J_range, w ∈ wd_J_fillN := fun _ h => List.mem_cons_of_mem _ (List.mem_append_right _ (List.mem_append_left _ h))
  have hl := lv_entry ([.ref (ad (2 * t + 1)), .int (nI 0), .int (nI b), .int (nI 0)]) (n := 5) (Nat.le_of_ble_eq_true rfl)
  rw [lg_entry_eq]
  generalize (lg_sl ([.ref (ad (2 * t + 1)), .int (nI 0), .int (nI b), .int (nI 0)]) ++ List.replicate (5 - (lg_sl ([.ref (ad (2 * t + 1)), .int (nI 0), .int (nI b), .int (nI 0)])).length) Slot.unset).toArray = ls at hl ⊢
  have hl : lv_has ls 5 [(0, .ref (ad (2 * t + 1))), (1, .int (nI 0)), (2, .int (nI b)), (3, .int (nI 0))] := hl
  have qt9 := rmc_le t
  refine lv_aload_n hx hb dJ7_fill_fda19_0 rfl (lv_at hl 0 rfl) ?_
  refine m_alen hx hb hK hP (2 * t + 1) (ns_w (by omega)) hg dJ7_fill_fda19_1 ?_
  refine lv_iload_n hx hb dJ7_fill_fda19_2 rfl (lv_at hl 1 rfl) ?_
  refine lv_iload_n hx hb dJ7_fill_fda19_3 rfl (lv_at hl 2 rfl) ?_
  refine va_callv (va_runS (As := [.int (nI (rmc t)), .int (nI 0), .int (nI b)]) (rest := []) ⟨hx, hb, hml, hown, hts⟩ (c_J_range l dC dI A ad cA g (rmc t) 0 b (Nat.zero_le _) hb9 (by omega)) (va_cwS 3 hts (goodIn_app (goodIn_r [Cond.methodLink RJ7 13 yJ7_rangeCheck_23922, Cond.static yJ7_rangeCheck_23922, Cond.initialized RJ7] [1, 2, 3] rfl rfl) (goodIn_sub (fun w9 h9 => bk0 w9 h9) gw_J_range)) rfl rfl rfl (by decide +kernel) ⟨Nat.le_of_ble_eq_true rfl, Nat.le_of_ble_eq_true rfl⟩) ⟨fun a U g mk q => ⟨q.1, q.2.1, q.2.2.1, LY.moved (u := U) (U := U.calling g mk a) (Vm.Alike.refl U.vm) q.2.2.2⟩, fun U hU hW => ⟨rfl, by rw [hU]; exact fun q h => hA q (Nat.le_trans hS.1 h), by rw [hU]; exact hP, LY.moved hW.alike hL⟩⟩ rfl rfl hl.1 rfl (lv_room (Nat.le_of_ble_eq_true rfl)) dJ7_fill_fda19_4 ⟨(Nat.le_of_ble_eq_true rfl), (Nat.le_of_ble_eq_true rfl)⟩) hS (fun q _ h => h) (fun q h => h) (fun u8 t8 H1 locs ht8 hvm8 hw_1 hB hz1 hk1 hS => ?_)
  obtain ⟨⟩ := u8
  try dsimp only at hw_1 hB
  rw [ht8] at hB
  have hP := hB
  generalize H1 = H at hP hS ⊢
  refine lv_iload_n hx hb dJ7_fill_fda19_7 rfl (lv_at hl 1 rfl) ?_
  refine lv_istore (lv' := [(4, .int (nI 0)), (0, .ref (ad (2 * t + 1))), (1, .int (nI 0)), (2, .int (nI b)), (3, .int (nI 0))]) hx hb dJ7_fill_fda19_8 hl (by decide) rfl (fun ls hl => ?_)
  have loop_2 : ∀ (k9 : Nat) (i : Nat) (ff : Nat → Nat) (g_4 : Nat → va_E) (fr_5 : ∀ k, (k ≠ 2 * t + 1) → g_4 k = g k), b - i < k9 → (i ≤ b) → (∀ j, ff j < 4294967296) → (∀ j, j < i → ff j = 0) → (g_4 (2 * t + 1) = .inl (cA (2 * t + 1), rmc t, .inl (fun j => nI (ff j)))) → ∀ (H : Heap) (locs : List Loc) (ls : Array Slot), va_P (dC, dI) vwCl (wo ad NSc g_4) H → va_S A s.heap H locs → lv_has ls 5 [(4, .int (nI i)), (0, .ref (ad (2 * t + 1))), (2, .int (nI b)), (3, .int (nI 0))] → W p l e (headSpec wd_J_fillN ({ frames := 20, cells := 0, slots := 0, locals := 400 })).room s m ([.ref (ad (2 * t + 1)), .int (nI 0), .int (nI b), .int (nI 0)] : List Value).toArray below meth c H locs (0) (0) (MQ below (va_Qv (fun (u : (Nat → va_E) × (Nat → Nat)) => match u with | (g2, f2) => (∀ k, k ≠ 2 * t + 1 → g2 k = g k) ∧ g2 (2 * t + 1) = .inl (cA (2 * t + 1), rmc t, .inl (fun j => nI (f2 j))) ∧ (∀ j, f2 j < 4294967296) ∧ (∀ j, j < b → f2 j = 0)) (fun (u : (Nat → va_E) × (Nat → Nat)) (t : State) => va_P (dC, dI) vwCl (wo ad NSc u.1) t.heap) A) ([.ref (ad (2 * t + 1)), .int (nI 0), .int (nI b), .int (nI 0)] : List Value).toArray s (0) (0) A) (F0 m 10 ls []) := by
    intro k9
    induction k9 with
    | zero => intro i ff g_4 fr_5 h9; exact absurd h9 (Nat.not_lt_zero _)
    | succ k9 ih_3 =>
      intro i ff g_4 fr_5 h9 hi hub hzz f_6 H locs ls hP hS hl
      refine lv_iload hx hb dJ7_fill_fda19_10 (lv_at hl 0 rfl) ?_
      refine lv_iload_n hx hb dJ7_fill_fda19_12 rfl (lv_at hl 2 rfl) ?_
      refine lv_icmp_ge (tgt := 27) hx hb dJ7_fill_fda19_13 (by decide) (fun c_7 => ?_) (fun c_7 => ?_)
      · have c_7 := (nI_leI (a := b) (b := i) (by omega) (by omega)).mp c_7
        refine W.widen (k := 0) (n := 0) (by omega) (by omega) ?_
        exact W.vret hx hb hr (fun t9 ht9 hW9 => ⟨⟨(g_4, ff), rfl, ⟨(fun (k : Nat) (hk : k ≠ 2 * t + 1) => (fr_5 k (by omega)).trans (rfl)), f_6, hub, fun j hj => hzz j (by omega)⟩, by show va_P (dC, dI) vwCl _ t9.heap; rw [ht9]; exact hP⟩, hS.F ht9⟩) hS.2.2 dJ7_fill_fda19_27
      · have c_7 := mt (nI_leI (a := b) (b := i) (by omega) (by omega)).mpr c_7
        refine lv_aload_n hx hb dJ7_fill_fda19_16 rfl (lv_at hl 1 rfl) ?_
        refine lv_iload hx hb dJ7_fill_fda19_17 (lv_at hl 0 rfl) ?_
        refine lv_iload_n hx hb dJ7_fill_fda19_19 rfl (lv_at hl 3 rfl) ?_
        refine m_iast hx hb hK hP hD hS (2 * t + 1) (ns_w (by omega)) (tyc_w (by omega)) f_6 (i := i) (x := nI 0) (by omega) (by omega) dJ7_fill_fda19_20 (fun H locs g_8 f_9 fr_10 hP hS => ?_)
        rw [k_updI] at f_9
        have b_11 : ∀ j, (va_up ff i 0) j < 4294967296 := k_up_lt hub (by omega)
        have f_9 : g_8 (2 * t + 1) = .inl (cA (2 * t + 1), rmc t, .inl (fun j => nI ((va_up ff i 0) j))) := f_9
        refine lv_iinc (v := nI (i + 1)) (lv' := [(4, .int (nI (i + 1))), (0, .ref (ad (2 * t + 1))), (2, .int (nI b)), (3, .int (nI 0))]) hx hb dJ7_fill_fda19_21 hl (k := 0) rfl (nI_add i 1) (by decide) rfl (fun ls hl => ?_)
        refine lv_goto (tgt := 10) hx hb dJ7_fill_fda19_24 (by decide) ?_
        exact ih_3 (i + 1) (va_up ff i 0) g_8 (fun (k : Nat) (hk : k ≠ 2 * t + 1) => (fr_10 k (by omega)).trans ((fr_5 k (by omega)).trans (rfl))) (by omega) (by omega) b_11 (fun j hj => by by_cases h9 : j = i; rw [h9, va_up_self]; rw [va_up_ne _ _ h9]; exact hzz j (by omega)) f_9 _ _ _ hP hS (lv_sub (l' := [(4, .int (nI (i + 1))), (0, .ref (ad (2 * t + 1))), (2, .int (nI b)), (3, .int (nI 0))]) hl [0, 1, 2, 3] rfl)
  exact loop_2 _ 0 fn g (fun (k : Nat) (hk : k ≠ 2 * t + 1) => rfl) (Nat.lt_succ_self _) (by omega) hu (fun j hj => absurd hj (by omega)) hg _ _ _ hP hS (lv_sub (l' := [(4, .int (nI 0)), (0, .ref (ad (2 * t + 1))), (2, .int (nI b)), (3, .int (nI 0))]) hl [0, 1, 3, 4] rfl)
def wd_V8_multiply : List Cond := .code yX8_multiply cX8_multiply 10 none :: (([.fieldLink RX8 15 "GradientDesk$Whole" "size" "I", .fieldLink RX8 9 "GradientDesk$Whole" "words" "[I", .methodLink RX8 58 yJ7_fill_fda19, .static yJ7_fill_fda19, .initialized RJ7, .fieldLink RX8 19 "GradientDesk$Whole" "below" "Z", .methodLink RX8 29 Lib.Math.min.name, .static Lib.Math.min.name, .initialized "java/lang/Math", .code Lib.Math.min.name Lib.Math.min.code 2 (some .int), .constantLong RX8 48 (4294967295)] : List Cond) ++ (u_ws RX8 TX8 3 ++ (wd_J_fillN ++ ([]))))
theorem gw_V8_multiply : wd_V8_multiply.all goodWord = true := k_allc rfl (k_all (by decide +kernel) (k_all (gu_X8) (k_all (gw_J_fillN) (rfl))))
set_option maxHeartbeats 4000000 in
set_option maxRecDepth 100000 in
theorem c_V8_multiply (l : Launch) (dC : Nat → ClassId) (dI : Nat → Nat → Nat) (A : Nat → Prop) (ad : Nat → Nat) (cA : Nat → ClassId) (g : Nat → va_E) (t : Nat) (x : Nat) (y : Nat) (v : Int) (w1 : Int) (a9 : Nat) (b9 : Nat) (hAW : AW ad cA g) (it : t < 1038) (ix : x < 1038) (iy : y < 1038) (vx : WV ad cA g x v) (vy : WV ad cA g y w1) (htx : t ≠ x) (hty : t ≠ y) (hfa : v.natAbs < 4294967296 ^ a9) (hfb : w1.natAbs < 4294967296 ^ b9) (hab : a9 + b9 ≤ rmc t) : Met l yX8_multiply wd_V8_multiply ({ frames := 30, cells := 0, slots := 0, locals := 600 }) (va_Pc [.ref (ad (2 * t)), .ref (ad (2 * x)), .ref (ad (2 * y))] (PR NSc tyc dC dI A ad cA g)) (va_Qv (fun (u : Nat → va_E) => match u with | g2 => (∀ k, k ≠ 2 * t ∧ k ≠ 2 * t + 1 → g2 k = g k) ∧ AW ad cA g2 ∧ WV ad cA g2 t (v * w1)) (fun (u : Nat → va_E) (t : State) => va_P (dC, dI) vwCl (wo ad NSc u) t.heap) A) (0) (0) A := by
  refine Met.ofW (cc := cX8_multiply) (maxL := 10) (ret := none) (by decide) rfl ?_
  intro p e s m args below meth c s₁ B hml hv
  obtain ⟨rfl, hA, hP, hL⟩ := hv
  have hx := B.exec
  have hb := B.bytes
  have hr := B.returns
  have hts := atoms_spec (ws := wd_V8_multiply) B.pre
  have hown : s.vm.findClass RX8 = some m.cls := findClass_of_methodNamed B.named
  have hlocks := B.notSynchronized
  have hK := hL.1
  have hD : ∀ g, va_D A (wo ad NSc g) := fun g => wo_D hL.2.1 hL.2.2 g
  have hS : va_S A s.heap s.heap [] := va_S.rf
  have bk0 : ∀ w ∈ u_ws RX8 TX8 3, w ∈ wd_V8_multiply := fun _ h => List.mem_cons_of_mem _ (List.mem_append_right _ (List.mem_append_left _ h))
  have bk1 : ∀ w ∈ wd_J_fillN, w ∈ wd_V8_multiply := fun _ h => List.mem_cons_of_mem _ (List.mem_append_right _ (List.mem_append_right _ (List.mem_append_left _ h)))
  have hl := lv_entry ([.ref (ad (2 * t)), .ref (ad (2 * x)), .ref (ad (2 * y))]) (n := 10) (Nat.le_of_ble_eq_true rfl)
  rw [lg_entry_eq]
  generalize (lg_sl ([.ref (ad (2 * t)), .ref (ad (2 * x)), .ref (ad (2 * y))]) ++ List.replicate (10 - (lg_sl ([.ref (ad (2 * t)), .ref (ad (2 * x)), .ref (ad (2 * y))])).length) Slot.unset).toArray = ls at hl ⊢
  have hl : lv_has ls 10 [(0, .ref (ad (2 * t))), (1, .ref (ad (2 * x))), (2, .ref (ad (2 * y)))] := hl
  obtain ⟨st9, nt9, ft9, at9, bt9, ut9, ct9, et9⟩ := AW.wn hAW it
  have qt9 := rmc_le t
  obtain ⟨sx9, nx9, fx9, ⟨ax9, bx9, ux9, cx9, ex9⟩, rx9, gx9⟩ := vx
  have qx9 := rmc_le x
  obtain ⟨sy9, ny9, fy9, ⟨ay9, by9, uy9, cy9, ey9⟩, ry9, gy9⟩ := vy
  have qy9 := rmc_le y
  have hsa := rx9.le_of hfa
  have hsb := ry9.le_of hfb
  refine lv_aload_n hx hb dX8_multiply_0 rfl (lv_at hl 1 rfl) ?_
  refine m_get (D := (dC, dI)) (v := .int (nI sx9)) (C := RX8) (T := TX8) (N := 3) hx hb hts bk0 hown hK hP (2 * x) (ns_w (by omega)) ax9 rfl 1 (by decide) (hts (.fieldLink RX8 15 "GradientDesk$Whole" "size" "I") (List.mem_of_getElem? (i := 1) rfl)) (fun _ h9 => h9) rfl dX8_multiply_1 ?_
  refine lv_if_eq (tgt := 14) hx hb dX8_multiply_4 (by decide) (fun c_1 => ?_) (fun c_1 => ?_)
  · have c_1 := (nI_eq (a := sx9) (b := 0) (by omega) (by decide)).mp c_1
    refine lv_iconst (v := nI 0) hx hb dX8_multiply_14 (by decide +kernel) ?_
    refine lv_goto (tgt := 35) hx hb dX8_multiply_15 (by decide) ?_
    refine lv_istore_n (lv' := [(3, .int (nI 0)), (0, .ref (ad (2 * t))), (1, .ref (ad (2 * x))), (2, .ref (ad (2 * y)))]) hx hb dX8_multiply_35 rfl hl (by decide) rfl (fun ls hl => ?_)
    refine lv_aload_n hx hb dX8_multiply_36 rfl (lv_at hl 1 rfl) ?_
    refine m_get (D := (dC, dI)) (v := .ref (ad (2 * t + 1))) (C := RX8) (T := TX8) (N := 3) hx hb hts bk0 hown hK hP (2 * t) (ns_w (by omega)) at9 rfl 0 (by decide) (hts (.fieldLink RX8 9 "GradientDesk$Whole" "words" "[I") (List.mem_of_getElem? (i := 2) rfl)) (fun _ h9 => h9) rfl dX8_multiply_37 ?_
    refine lv_iconst (v := nI 0) hx hb dX8_multiply_40 (by decide +kernel) ?_
    refine lv_iload_n hx hb dX8_multiply_41 rfl (lv_at hl 0 rfl) ?_
    refine lv_iconst (v := nI 0) hx hb dX8_multiply_42 (by decide +kernel) ?_
    refine va_callv (va_runS (As := [.ref (ad (2 * t + 1)), .int (nI 0), .int (nI 0), .int (nI 0)]) (rest := []) ⟨hx, hb, hml, hown, hts⟩ (c_J_fillN l dC dI A ad cA g t ft9 0 it bt9 ut9 (by omega)) (va_cwS 4 hts (goodIn_app (goodIn_r [Cond.methodLink RX8 58 yJ7_fill_fda19, Cond.static yJ7_fill_fda19, Cond.initialized RJ7] [3, 4, 5] rfl rfl) (goodIn_sub (fun w9 h9 => bk1 w9 h9) gw_J_fillN)) rfl rfl rfl (by decide +kernel) ⟨Nat.le_of_ble_eq_true rfl, Nat.le_of_ble_eq_true rfl⟩) ⟨fun a U g mk q => ⟨q.1, q.2.1, q.2.2.1, LY.moved (u := U) (U := U.calling g mk a) (Vm.Alike.refl U.vm) q.2.2.2⟩, fun U hU hW => ⟨rfl, by rw [hU]; exact fun q h => hA q (Nat.le_trans hS.1 h), by rw [hU]; exact hP, LY.moved hW.alike hL⟩⟩ rfl rfl hl.1 rfl (lv_room (Nat.le_of_ble_eq_true rfl)) dX8_multiply_43 ⟨(Nat.le_of_ble_eq_true rfl), (Nat.le_of_ble_eq_true rfl)⟩) hS (fun q _ h => h) (fun q h => h) (fun u8 t8 H1 locs ht8 hvm8 hw_2 hB hz1 hk1 hS => ?_)
    obtain ⟨g_3, f2_4⟩ := u8
    try dsimp only at hw_2 hB
    rw [ht8] at hB
    have hP := hB
    generalize H1 = H at hP hS ⊢
    obtain ⟨fr_5, hfill, hfu, hfz⟩ := hw_2
    refine lv_iconst (v := nI 0) hx hb dX8_multiply_46 (by decide +kernel) ?_
    refine lv_istore (lv' := [(4, .int (nI 0)), (3, .int (nI 0)), (0, .ref (ad (2 * t))), (1, .ref (ad (2 * x))), (2, .ref (ad (2 * y)))]) hx hb dX8_multiply_47 hl (by decide) rfl (fun ls hl => ?_)
    refine lv_iload hx hb dX8_multiply_49 (lv_at hl 0 rfl) ?_
    refine lv_aload_n hx hb dX8_multiply_51 rfl (lv_at hl 3 rfl) ?_
    have f_6 : g_3 (2 * x) = .inr (11, [.ref (ad (2 * x + 1)), .int (nI sx9), .int (nI nx9)]) := (fr_5 (2 * x) (by omega)).trans ax9
    refine m_get (D := (dC, dI)) (v := .int (nI sx9)) (C := RX8) (T := TX8) (N := 3) hx hb hts bk0 hown hK hP (2 * x) (ns_w (by omega)) f_6 rfl 1 (by decide) (hts (.fieldLink RX8 15 "GradientDesk$Whole" "size" "I") (List.mem_of_getElem? (i := 1) rfl)) (fun _ h9 => h9) rfl dX8_multiply_52 ?_
    refine lv_icmp_ge (tgt := 196) hx hb dX8_multiply_55 (by decide) (fun c_7 => ?_) (fun c_7 => absurd (mt (nI_leI (a := sx9) (b := 0) (by omega) (by decide)).mpr c_7) (by omega))
    refine lv_aload_n hx hb dX8_multiply_196 rfl (lv_at hl 2 rfl) ?_
    refine lv_iload_n hx hb dX8_multiply_197 rfl (lv_at hl 1 rfl) ?_
    refine lv_if_le (tgt := 218) hx hb dX8_multiply_198 (by decide) (fun c_8 => ?_) (fun c_8 => absurd c_8 (by decide))
    refine lv_iload_n hx hb dX8_multiply_218 rfl (lv_at hl 1 rfl) ?_
    have f_9 : g_3 (2 * t) = .inr (11, [.ref (ad (2 * t + 1)), .int (nI st9), .int (nI nt9)]) := (fr_5 (2 * t) (by omega)).trans at9
    refine m_put (D := (dC, dI)) (v := .int (nI 0)) (tv := .int) (C := RX8) (T := TX8) (N := 3) hx hb hts bk0 tyX8 tyX8_ok nmX8 hown hK hP hD hS (2 * t) (ns_w (by omega)) f_9 rfl 1 (by decide) (hts (.fieldLink RX8 15 "GradientDesk$Whole" "size" "I") (List.mem_of_getElem? (i := 1) rfl)) (fun _ h9 => h9) rfl (by decide +kernel) rfl rfl (Nat.le_of_ble_eq_true rfl) dX8_multiply_219 (fun H locs g_10 f_11 fr_12 hP hS => ?_)
    have f_11 : g_10 (2 * t) = .inr (11, [.ref (ad (2 * t + 1)), .int (nI 0), .int (nI nt9)]) := f_11
    refine lv_aload_n hx hb dX8_multiply_222 rfl (lv_at hl 2 rfl) ?_
    refine lv_aload_n hx hb dX8_multiply_223 rfl (lv_at hl 2 rfl) ?_
    refine m_get (D := (dC, dI)) (v := .int (nI 0)) (C := RX8) (T := TX8) (N := 3) hx hb hts bk0 hown hK hP (2 * t) (ns_w (by omega)) f_11 rfl 1 (by decide) (hts (.fieldLink RX8 15 "GradientDesk$Whole" "size" "I") (List.mem_of_getElem? (i := 1) rfl)) (fun _ h9 => h9) rfl dX8_multiply_224 ?_
    refine lv_if_le (tgt := 245) hx hb dX8_multiply_227 (by decide) (fun c_13 => ?_) (fun c_13 => absurd c_13 (by decide))
    refine lv_iconst (v := nI 0) hx hb dX8_multiply_245 (by decide +kernel) ?_
    refine m_put (D := (dC, dI)) (v := .int (nI 0)) (tv := .boolean) (C := RX8) (T := TX8) (N := 3) hx hb hts bk0 tyX8 tyX8_ok nmX8 hown hK hP hD hS (2 * t) (ns_w (by omega)) f_11 rfl 2 (by decide) (hts (.fieldLink RX8 19 "GradientDesk$Whole" "below" "Z") (List.mem_of_getElem? (i := 6) rfl)) (fun _ h9 => h9) rfl (by decide +kernel) (by decide +kernel) (by decide +kernel) (Nat.le_of_ble_eq_true rfl) dX8_multiply_246 (fun H locs g_14 f_15 fr_16 hP hS => ?_)
    have f_15 : g_14 (2 * t) = .inr (11, [.ref (ad (2 * t + 1)), .int (nI 0), .int (nI 0)]) := f_15
    have f_17 : g_14 (2 * t + 1) = .inl (cA (2 * t + 1), rmc t, .inl (fun j => nI (f2_4 j))) := (fr_16 (2 * t + 1) (by omega)).trans ((fr_12 (2 * t + 1) (by omega)).trans hfill)
    have hv0 : v * w1 = 0 := by rw [show v = 0 by have h9 := rx9.zero.mp (by omega); omega, Int.zero_mul]
    have hWN : WN ad cA g_14 t 0 0 (f2_4) := ⟨f_15, f_17, hfu, by omega, by omega⟩
    refine W.widen (k := 0) (n := 0) (by omega) (by omega) ?_
    exact W.vret hx hb hr (fun t9 ht9 hW9 => ⟨⟨g_14, rfl, ⟨(fun (k : Nat) (hk : k ≠ 2 * t ∧ k ≠ 2 * t + 1) => (fr_16 k (by omega)).trans ((fr_12 k (by omega)).trans ((fr_5 k (by omega)).trans (rfl)))), hWN.aw hAW (fun (k : Nat) (hk : k ≠ 2 * t ∧ k ≠ 2 * t + 1) => (fr_16 k (by omega)).trans ((fr_12 k (by omega)).trans ((fr_5 k (by omega)).trans (rfl)))), _, _, _, hWN, by rw [hv0]; exact ⟨fun j h9 => absurd h9 (Nat.not_lt_zero _), Or.inl rfl, rfl⟩, by rw [hv0]; decide⟩, by show va_P (dC, dI) vwCl _ t9.heap; rw [ht9]; exact hP⟩, hS.F ht9⟩) hS.2.2 dX8_multiply_249
  · have c_1 := mt (nI_eq (a := sx9) (b := 0) (by omega) (by decide)).mpr c_1
    refine lv_aload_n hx hb dX8_multiply_7 rfl (lv_at hl 2 rfl) ?_
    refine m_get (D := (dC, dI)) (v := .int (nI sy9)) (C := RX8) (T := TX8) (N := 3) hx hb hts bk0 hown hK hP (2 * y) (ns_w (by omega)) ay9 rfl 1 (by decide) (hts (.fieldLink RX8 15 "GradientDesk$Whole" "size" "I") (List.mem_of_getElem? (i := 1) rfl)) (fun _ h9 => h9) rfl dX8_multiply_8 ?_
    refine lv_if_ne (tgt := 18) hx hb dX8_multiply_11 (by decide) (fun c_18 => ?_) (fun c_18 => ?_)
    · have c_18 := mt (nI_eq (a := sy9) (b := 0) (by omega) (by decide)).mpr c_18
      refine lv_aload_n hx hb dX8_multiply_18 rfl (lv_at hl 0 rfl) ?_
      refine m_get (D := (dC, dI)) (v := .ref (ad (2 * t + 1))) (C := RX8) (T := TX8) (N := 3) hx hb hts bk0 hown hK hP (2 * t) (ns_w (by omega)) at9 rfl 0 (by decide) (hts (.fieldLink RX8 9 "GradientDesk$Whole" "words" "[I") (List.mem_of_getElem? (i := 2) rfl)) (fun _ h9 => h9) rfl dX8_multiply_19 ?_
      refine m_alen hx hb hK hP (2 * t + 1) (ns_w (by omega)) bt9 dX8_multiply_22 ?_
      refine lv_aload_n hx hb dX8_multiply_23 rfl (lv_at hl 1 rfl) ?_
      refine m_get (D := (dC, dI)) (v := .int (nI sx9)) (C := RX8) (T := TX8) (N := 3) hx hb hts bk0 hown hK hP (2 * x) (ns_w (by omega)) ax9 rfl 1 (by decide) (hts (.fieldLink RX8 15 "GradientDesk$Whole" "size" "I") (List.mem_of_getElem? (i := 1) rfl)) (fun _ h9 => h9) rfl dX8_multiply_24 ?_
      refine lv_aload_n hx hb dX8_multiply_27 rfl (lv_at hl 2 rfl) ?_
      refine m_get (D := (dC, dI)) (v := .int (nI sy9)) (C := RX8) (T := TX8) (N := 3) hx hb hts bk0 hown hK hP (2 * y) (ns_w (by omega)) ay9 rfl 1 (by decide) (hts (.fieldLink RX8 15 "GradientDesk$Whole" "size" "I") (List.mem_of_getElem? (i := 1) rfl)) (fun _ h9 => h9) rfl dX8_multiply_28 ?_
      refine lv_iadd hx hb dX8_multiply_31 ?_
      refine lv_topi (fun x_19 e_20 => ?_)
      obtain rfl : x_19 = nI (sx9 + sy9) := e_20.trans (nI_add sx9 sy9)
      refine va_mmin hx hb (by rw [hml]; exact hl.1.symm) hown (hts (.methodLink RX8 29 Lib.Math.min.name) (List.mem_of_getElem? (i := 7) rfl)) (hts (.static Lib.Math.min.name) (List.mem_of_getElem? (i := 8) rfl)) (hts (.initialized "java/lang/Math") (List.mem_of_getElem? (i := 9) rfl)) (hts (.code Lib.Math.min.name Lib.Math.min.code 2 (some .int)) (List.mem_of_getElem? (i := 10) rfl)) (Nat.le_of_ble_eq_true rfl) (Nat.le_of_ble_eq_true rfl) (Nat.le_of_ble_eq_true rfl) (Nat.le_of_ble_eq_true rfl) dX8_multiply_32 ?_
      refine lv_topi (fun x_22 e_23 => ?_)
      obtain ⟨q_21, hq_21, eq_21⟩ : ∃ z : Nat, z = min (rmc t) (sx9 + sy9) ∧ x_22 = nI z := ⟨_, rfl, by rw [e_23]; exact k_min (by omega) (by omega)⟩
      subst eq_21
      have hqq : q_21 = sx9 + sy9 := by omega
      rw [hqq]
      refine lv_istore_n (lv' := [(3, .int (nI (sx9 + sy9))), (0, .ref (ad (2 * t))), (1, .ref (ad (2 * x))), (2, .ref (ad (2 * y)))]) hx hb dX8_multiply_35 rfl hl (by decide) rfl (fun ls hl => ?_)
      obtain ⟨nn, hnn⟩ : ∃ z, z = sx9 + sy9 := ⟨_, rfl⟩
      rw [← hnn] at hl
      refine lv_aload_n hx hb dX8_multiply_36 rfl (lv_at hl 1 rfl) ?_
      refine m_get (D := (dC, dI)) (v := .ref (ad (2 * t + 1))) (C := RX8) (T := TX8) (N := 3) hx hb hts bk0 hown hK hP (2 * t) (ns_w (by omega)) at9 rfl 0 (by decide) (hts (.fieldLink RX8 9 "GradientDesk$Whole" "words" "[I") (List.mem_of_getElem? (i := 2) rfl)) (fun _ h9 => h9) rfl dX8_multiply_37 ?_
      refine lv_iconst (v := nI 0) hx hb dX8_multiply_40 (by decide +kernel) ?_
      refine lv_iload_n hx hb dX8_multiply_41 rfl (lv_at hl 0 rfl) ?_
      refine lv_iconst (v := nI 0) hx hb dX8_multiply_42 (by decide +kernel) ?_
      refine va_callv (va_runS (As := [.ref (ad (2 * t + 1)), .int (nI 0), .int (nI nn), .int (nI 0)]) (rest := []) ⟨hx, hb, hml, hown, hts⟩ (c_J_fillN l dC dI A ad cA g t ft9 nn it bt9 ut9 (by omega)) (va_cwS 4 hts (goodIn_app (goodIn_r [Cond.methodLink RX8 58 yJ7_fill_fda19, Cond.static yJ7_fill_fda19, Cond.initialized RJ7] [3, 4, 5] rfl rfl) (goodIn_sub (fun w9 h9 => bk1 w9 h9) gw_J_fillN)) rfl rfl rfl (by decide +kernel) ⟨Nat.le_of_ble_eq_true rfl, Nat.le_of_ble_eq_true rfl⟩) ⟨fun a U g mk q => ⟨q.1, q.2.1, q.2.2.1, LY.moved (u := U) (U := U.calling g mk a) (Vm.Alike.refl U.vm) q.2.2.2⟩, fun U hU hW => ⟨rfl, by rw [hU]; exact fun q h => hA q (Nat.le_trans hS.1 h), by rw [hU]; exact hP, LY.moved hW.alike hL⟩⟩ rfl rfl hl.1 rfl (lv_room (Nat.le_of_ble_eq_true rfl)) dX8_multiply_43 ⟨(Nat.le_of_ble_eq_true rfl), (Nat.le_of_ble_eq_true rfl)⟩) hS (fun q _ h => h) (fun q h => h) (fun u8 t8 H1 locs ht8 hvm8 hw_24 hB hz1 hk1 hS => ?_)
      obtain ⟨g_25, f2_26⟩ := u8
      try dsimp only at hw_24 hB
      rw [ht8] at hB
      have hP := hB
      generalize H1 = H at hP hS ⊢
      obtain ⟨fr_27, hfill, hfu, hfz⟩ := hw_24
      refine lv_iconst (v := nI 0) hx hb dX8_multiply_46 (by decide +kernel) ?_
      refine lv_istore (lv' := [(4, .int (nI 0)), (3, .int (nI nn)), (0, .ref (ad (2 * t))), (1, .ref (ad (2 * x))), (2, .ref (ad (2 * y)))]) hx hb dX8_multiply_47 hl (by decide) rfl (fun ls hl => ?_)
      have loop_28 : ∀ (k9 : Nat) (i1 : Nat) (q1 : Nat → Nat) (g_30 : Nat → va_E) (fr_31 : ∀ k, (k ≠ 2 * t + 1) → g_30 k = g_25 k), 5000 - i1 < k9 → (i1 ≤ sx9) → (∀ j, q1 j < 4294967296) → (nv q1 nn = v.natAbs % 4294967296 ^ i1 * w1.natAbs) → (∀ j, i1 + sy9 ≤ j → j < nn → q1 j = 0) → (g_30 (2 * t + 1) = .inl (cA (2 * t + 1), rmc t, .inl (fun j => nI (q1 j)))) → ∀ (H : Heap) (locs : List Loc) (ls : Array Slot), va_P (dC, dI) vwCl (wo ad NSc g_30) H → va_S A s.heap H locs → lv_has ls 10 [(0, .ref (ad (2 * t))), (1, .ref (ad (2 * x))), (2, .ref (ad (2 * y))), (3, .int (nI nn)), (4, .int (nI i1))] → W p l e (headSpec wd_V8_multiply ({ frames := 30, cells := 0, slots := 0, locals := 600 })).room s m ([.ref (ad (2 * t)), .ref (ad (2 * x)), .ref (ad (2 * y))] : List Value).toArray below meth c H locs (0) (0) (MQ below (va_Qv (fun (u : Nat → va_E) => match u with | g2 => (∀ k, k ≠ 2 * t ∧ k ≠ 2 * t + 1 → g2 k = g k) ∧ AW ad cA g2 ∧ WV ad cA g2 t (v * w1)) (fun (u : Nat → va_E) (t : State) => va_P (dC, dI) vwCl (wo ad NSc u) t.heap) A) ([.ref (ad (2 * t)), .ref (ad (2 * x)), .ref (ad (2 * y))] : List Value).toArray s (0) (0) A) (F0 m 49 ls []) := by
        intro k9
        induction k9 with
        | zero => intro i1 q1 g_30 fr_31 h9; exact absurd h9 (Nat.not_lt_zero _)
        | succ k9 ih_29 =>
          intro i1 q1 g_30 fr_31 h9 hi1 hq1 hnv hzz f_32 H locs ls hP hS hl
          refine lv_iload hx hb dX8_multiply_49 (lv_at hl 4 rfl) ?_
          refine lv_aload_n hx hb dX8_multiply_51 rfl (lv_at hl 1 rfl) ?_
          have f_33 : g_30 (2 * x) = .inr (11, [.ref (ad (2 * x + 1)), .int (nI sx9), .int (nI nx9)]) := (fr_31 (2 * x) (by omega)).trans ((fr_27 (2 * x) (by omega)).trans ax9)
          refine m_get (D := (dC, dI)) (v := .int (nI sx9)) (C := RX8) (T := TX8) (N := 3) hx hb hts bk0 hown hK hP (2 * x) (ns_w (by omega)) f_33 rfl 1 (by decide) (hts (.fieldLink RX8 15 "GradientDesk$Whole" "size" "I") (List.mem_of_getElem? (i := 1) rfl)) (fun _ h9 => h9) rfl dX8_multiply_52 ?_
          refine lv_icmp_ge (tgt := 196) hx hb dX8_multiply_55 (by decide) (fun c_34 => ?_) (fun c_34 => ?_)
          · have c_34 := (nI_leI (a := sx9) (b := i1) (by omega) (by omega)).mp c_34
            have hia : i1 = sx9 := by omega
            rw [hia, Nat.mod_eq_of_lt rx9.lt] at hnv
            obtain ⟨hdd, hlt⟩ := nv_dg hq1 hnv
            have hge : nn = 1 ∨ 4294967296 ^ (nn - 2) ≤ v.natAbs * w1.natAbs := Or.inr (pw_ab (rx9.ge (by omega)) (ry9.ge (by omega)) (by omega) (by omega) hnn)
            refine lv_aload_n hx hb dX8_multiply_196 rfl (lv_at hl 0 rfl) ?_
            refine lv_iload_n hx hb dX8_multiply_197 rfl (lv_at hl 3 rfl) ?_
            refine lv_if_le (tgt := 218) hx hb dX8_multiply_198 (by decide) (fun c_35 => absurd ((nI_leI (a := nn) (b := 0) (by omega) (by decide)).mp c_35) (by omega)) (fun c_35 => ?_)
            refine lv_aload_n hx hb dX8_multiply_201 rfl (lv_at hl 0 rfl) ?_
            have f_36 : g_30 (2 * t) = .inr (11, [.ref (ad (2 * t + 1)), .int (nI st9), .int (nI nt9)]) := (fr_31 (2 * t) (by omega)).trans ((fr_27 (2 * t) (by omega)).trans at9)
            refine m_get (D := (dC, dI)) (v := .ref (ad (2 * t + 1))) (C := RX8) (T := TX8) (N := 3) hx hb hts bk0 hown hK hP (2 * t) (ns_w (by omega)) f_36 rfl 0 (by decide) (hts (.fieldLink RX8 9 "GradientDesk$Whole" "words" "[I") (List.mem_of_getElem? (i := 2) rfl)) (fun _ h9 => h9) rfl dX8_multiply_202 ?_
            refine lv_iload_n hx hb dX8_multiply_205 rfl (lv_at hl 3 rfl) ?_
            refine lv_iconst (v := nI 1) hx hb dX8_multiply_206 (by decide +kernel) ?_
            refine lv_isub hx hb dX8_multiply_207 ?_
            refine lv_topi (fun x_37 e_38 => ?_)
            obtain rfl : x_37 = nI (nn - 1) := e_38.trans (pk_sub (show 1 ≤ nn by omega))
            refine m_iald hx hb hK hP (2 * t + 1) (ns_w (by omega)) (tyc_w (by omega)) f_32 (i := nn - 1) (by omega) (by omega) dX8_multiply_208 ?_
            have b_39 := hq1 (nn - 1)
            refine lv_if_ne (tgt := 218) hx hb dX8_multiply_209 (by decide) (fun c_40 => ?_) (fun c_40 => ?_)
            · have c_40 := mt (k_weq (a := (q1 (nn - 1))) (b := 0) (by omega) (by decide)).mpr c_40
              refine lv_iload_n hx hb dX8_multiply_218 rfl (lv_at hl 3 rfl) ?_
              refine m_put (D := (dC, dI)) (v := .int (nI nn)) (tv := .int) (C := RX8) (T := TX8) (N := 3) hx hb hts bk0 tyX8 tyX8_ok nmX8 hown hK hP hD hS (2 * t) (ns_w (by omega)) f_36 rfl 1 (by decide) (hts (.fieldLink RX8 15 "GradientDesk$Whole" "size" "I") (List.mem_of_getElem? (i := 1) rfl)) (fun _ h9 => h9) rfl (by decide +kernel) rfl rfl (Nat.le_of_ble_eq_true rfl) dX8_multiply_219 (fun H locs g_41 f_42 fr_43 hP hS => ?_)
              have f_42 : g_41 (2 * t) = .inr (11, [.ref (ad (2 * t + 1)), .int (nI nn), .int (nI nt9)]) := f_42
              refine lv_aload_n hx hb dX8_multiply_222 rfl (lv_at hl 0 rfl) ?_
              refine lv_aload_n hx hb dX8_multiply_223 rfl (lv_at hl 0 rfl) ?_
              refine m_get (D := (dC, dI)) (v := .int (nI nn)) (C := RX8) (T := TX8) (N := 3) hx hb hts bk0 hown hK hP (2 * t) (ns_w (by omega)) f_42 rfl 1 (by decide) (hts (.fieldLink RX8 15 "GradientDesk$Whole" "size" "I") (List.mem_of_getElem? (i := 1) rfl)) (fun _ h9 => h9) rfl dX8_multiply_224 ?_
              refine lv_if_le (tgt := 245) hx hb dX8_multiply_227 (by decide) (fun c_44 => absurd ((nI_leI (a := nn) (b := 0) (by omega) (by decide)).mp c_44) (by omega)) (fun c_44 => ?_)
              refine lv_aload_n hx hb dX8_multiply_230 rfl (lv_at hl 1 rfl) ?_
              have f_45 : g_41 (2 * x) = .inr (11, [.ref (ad (2 * x + 1)), .int (nI sx9), .int (nI nx9)]) := (fr_43 (2 * x) (by omega)).trans f_33
              refine m_get (D := (dC, dI)) (v := .int (nI nx9)) (C := RX8) (T := TX8) (N := 3) hx hb hts bk0 hown hK hP (2 * x) (ns_w (by omega)) f_45 rfl 2 (by decide) (hts (.fieldLink RX8 19 "GradientDesk$Whole" "below" "Z") (List.mem_of_getElem? (i := 6) rfl)) (fun _ h9 => h9) rfl dX8_multiply_231 ?_
              refine lv_aload_n hx hb dX8_multiply_234 rfl (lv_at hl 2 rfl) ?_
              have f_46 : g_41 (2 * y) = .inr (11, [.ref (ad (2 * y + 1)), .int (nI sy9), .int (nI ny9)]) := (fr_43 (2 * y) (by omega)).trans ((fr_31 (2 * y) (by omega)).trans ((fr_27 (2 * y) (by omega)).trans ay9))
              refine m_get (D := (dC, dI)) (v := .int (nI ny9)) (C := RX8) (T := TX8) (N := 3) hx hb hts bk0 hown hK hP (2 * y) (ns_w (by omega)) f_46 rfl 2 (by decide) (hts (.fieldLink RX8 19 "GradientDesk$Whole" "below" "Z") (List.mem_of_getElem? (i := 6) rfl)) (fun _ h9 => h9) rfl dX8_multiply_235 ?_
              refine lv_icmp_eq (tgt := 245) hx hb dX8_multiply_238 (by decide) (fun c_47 => ?_) (fun c_47 => ?_)
              · have c_47 := (nI_eq (a := nx9) (b := ny9) (by omega) (by omega)).mp c_47
                refine lv_iconst (v := nI 0) hx hb dX8_multiply_245 (by decide +kernel) ?_
                refine m_put (D := (dC, dI)) (v := .int (nI 0)) (tv := .boolean) (C := RX8) (T := TX8) (N := 3) hx hb hts bk0 tyX8 tyX8_ok nmX8 hown hK hP hD hS (2 * t) (ns_w (by omega)) f_42 rfl 2 (by decide) (hts (.fieldLink RX8 19 "GradientDesk$Whole" "below" "Z") (List.mem_of_getElem? (i := 6) rfl)) (fun _ h9 => h9) rfl (by decide +kernel) (by decide +kernel) (by decide +kernel) (Nat.le_of_ble_eq_true rfl) dX8_multiply_246 (fun H locs g_48 f_49 fr_50 hP hS => ?_)
                have f_49 : g_48 (2 * t) = .inr (11, [.ref (ad (2 * t + 1)), .int (nI nn), .int (nI 0)]) := f_49
                have f_51 : g_48 (2 * t + 1) = .inl (cA (2 * t + 1), rmc t, .inl (fun j => nI (q1 j))) := (fr_50 (2 * t + 1) (by omega)).trans ((fr_43 (2 * t + 1) (by omega)).trans f_32)
                have hv0 : v ≠ 0 ∧ w1 ≠ 0 := by have h9 := rx9.zero; have h8 := ry9.zero; omega
                have hsg := k_sgm gx9 gy9 ex9 ey9 hv0.1 hv0.2
                have hWN : WN ad cA g_48 t nn 0 (q1) := ⟨f_49, f_51, hq1, by omega, by omega⟩
                refine W.widen (k := 0) (n := 0) (by omega) (by omega) ?_
                exact W.vret hx hb hr (fun t9 ht9 hW9 => ⟨⟨g_48, rfl, ⟨(fun (k : Nat) (hk : k ≠ 2 * t ∧ k ≠ 2 * t + 1) => (fr_50 k (by omega)).trans ((fr_43 k (by omega)).trans ((fr_31 k (by omega)).trans ((fr_27 k (by omega)).trans (rfl))))), hWN.aw hAW (fun (k : Nat) (hk : k ≠ 2 * t ∧ k ≠ 2 * t + 1) => (fr_50 k (by omega)).trans ((fr_43 k (by omega)).trans ((fr_31 k (by omega)).trans ((fr_27 k (by omega)).trans (rfl))))), _, _, _, hWN, by rw [Int.natAbs_mul]; exact rp_tn hdd hlt (by omega), iff_of_false (by decide) (hsg.1 (by omega))⟩, by show va_P (dC, dI) vwCl _ t9.heap; rw [ht9]; exact hP⟩, hS.F ht9⟩) hS.2.2 dX8_multiply_249
              · have c_47 := mt (nI_eq (a := nx9) (b := ny9) (by omega) (by omega)).mpr c_47
                refine lv_iconst (v := nI 1) hx hb dX8_multiply_241 (by decide +kernel) ?_
                refine lv_goto (tgt := 246) hx hb dX8_multiply_242 (by decide) ?_
                refine m_put (D := (dC, dI)) (v := .int (nI 1)) (tv := .boolean) (C := RX8) (T := TX8) (N := 3) hx hb hts bk0 tyX8 tyX8_ok nmX8 hown hK hP hD hS (2 * t) (ns_w (by omega)) f_42 rfl 2 (by decide) (hts (.fieldLink RX8 19 "GradientDesk$Whole" "below" "Z") (List.mem_of_getElem? (i := 6) rfl)) (fun _ h9 => h9) rfl (by decide +kernel) (by decide +kernel) (by decide +kernel) (Nat.le_of_ble_eq_true rfl) dX8_multiply_246 (fun H locs g_52 f_53 fr_54 hP hS => ?_)
                have f_53 : g_52 (2 * t) = .inr (11, [.ref (ad (2 * t + 1)), .int (nI nn), .int (nI 1)]) := f_53
                have f_55 : g_52 (2 * t + 1) = .inl (cA (2 * t + 1), rmc t, .inl (fun j => nI (q1 j))) := (fr_54 (2 * t + 1) (by omega)).trans ((fr_43 (2 * t + 1) (by omega)).trans f_32)
                have hv0 : v ≠ 0 ∧ w1 ≠ 0 := by have h9 := rx9.zero; have h8 := ry9.zero; omega
                have hsg := k_sgm gx9 gy9 ex9 ey9 hv0.1 hv0.2
                have hWN : WN ad cA g_52 t nn 1 (q1) := ⟨f_53, f_55, hq1, by omega, by omega⟩
                refine W.widen (k := 0) (n := 0) (by omega) (by omega) ?_
                exact W.vret hx hb hr (fun t9 ht9 hW9 => ⟨⟨g_52, rfl, ⟨(fun (k : Nat) (hk : k ≠ 2 * t ∧ k ≠ 2 * t + 1) => (fr_54 k (by omega)).trans ((fr_43 k (by omega)).trans ((fr_31 k (by omega)).trans ((fr_27 k (by omega)).trans (rfl))))), hWN.aw hAW (fun (k : Nat) (hk : k ≠ 2 * t ∧ k ≠ 2 * t + 1) => (fr_54 k (by omega)).trans ((fr_43 k (by omega)).trans ((fr_31 k (by omega)).trans ((fr_27 k (by omega)).trans (rfl))))), _, _, _, hWN, by rw [Int.natAbs_mul]; exact rp_tn hdd hlt (by omega), iff_of_true rfl (hsg.2 (by omega))⟩, by show va_P (dC, dI) vwCl _ t9.heap; rw [ht9]; exact hP⟩, hS.F ht9⟩) hS.2.2 dX8_multiply_249
            · have c_40 := (k_weq (a := (q1 (nn - 1))) (b := 0) (by omega) (by decide)).mp c_40
              refine lv_iload_n hx hb dX8_multiply_212 rfl (lv_at hl 3 rfl) ?_
              refine lv_iconst (v := nI 1) hx hb dX8_multiply_213 (by decide +kernel) ?_
              refine lv_isub hx hb dX8_multiply_214 ?_
              refine lv_topi (fun x_56 e_57 => ?_)
              obtain rfl : x_56 = nI (nn - 1) := e_57.trans (pk_sub (show 1 ≤ nn by omega))
              refine lv_goto (tgt := 219) hx hb dX8_multiply_215 (by decide) ?_
              refine m_put (D := (dC, dI)) (v := .int (nI (nn - 1))) (tv := .int) (C := RX8) (T := TX8) (N := 3) hx hb hts bk0 tyX8 tyX8_ok nmX8 hown hK hP hD hS (2 * t) (ns_w (by omega)) f_36 rfl 1 (by decide) (hts (.fieldLink RX8 15 "GradientDesk$Whole" "size" "I") (List.mem_of_getElem? (i := 1) rfl)) (fun _ h9 => h9) rfl (by decide +kernel) rfl rfl (Nat.le_of_ble_eq_true rfl) dX8_multiply_219 (fun H locs g_58 f_59 fr_60 hP hS => ?_)
              have f_59 : g_58 (2 * t) = .inr (11, [.ref (ad (2 * t + 1)), .int (nI (nn - 1)), .int (nI nt9)]) := f_59
              refine lv_aload_n hx hb dX8_multiply_222 rfl (lv_at hl 0 rfl) ?_
              refine lv_aload_n hx hb dX8_multiply_223 rfl (lv_at hl 0 rfl) ?_
              refine m_get (D := (dC, dI)) (v := .int (nI (nn - 1))) (C := RX8) (T := TX8) (N := 3) hx hb hts bk0 hown hK hP (2 * t) (ns_w (by omega)) f_59 rfl 1 (by decide) (hts (.fieldLink RX8 15 "GradientDesk$Whole" "size" "I") (List.mem_of_getElem? (i := 1) rfl)) (fun _ h9 => h9) rfl dX8_multiply_224 ?_
              refine lv_if_le (tgt := 245) hx hb dX8_multiply_227 (by decide) (fun c_61 => absurd ((nI_leI (a := (nn - 1)) (b := 0) (by omega) (by decide)).mp c_61) (by omega)) (fun c_61 => ?_)
              refine lv_aload_n hx hb dX8_multiply_230 rfl (lv_at hl 1 rfl) ?_
              have f_62 : g_58 (2 * x) = .inr (11, [.ref (ad (2 * x + 1)), .int (nI sx9), .int (nI nx9)]) := (fr_60 (2 * x) (by omega)).trans f_33
              refine m_get (D := (dC, dI)) (v := .int (nI nx9)) (C := RX8) (T := TX8) (N := 3) hx hb hts bk0 hown hK hP (2 * x) (ns_w (by omega)) f_62 rfl 2 (by decide) (hts (.fieldLink RX8 19 "GradientDesk$Whole" "below" "Z") (List.mem_of_getElem? (i := 6) rfl)) (fun _ h9 => h9) rfl dX8_multiply_231 ?_
              refine lv_aload_n hx hb dX8_multiply_234 rfl (lv_at hl 2 rfl) ?_
              have f_63 : g_58 (2 * y) = .inr (11, [.ref (ad (2 * y + 1)), .int (nI sy9), .int (nI ny9)]) := (fr_60 (2 * y) (by omega)).trans ((fr_31 (2 * y) (by omega)).trans ((fr_27 (2 * y) (by omega)).trans ay9))
              refine m_get (D := (dC, dI)) (v := .int (nI ny9)) (C := RX8) (T := TX8) (N := 3) hx hb hts bk0 hown hK hP (2 * y) (ns_w (by omega)) f_63 rfl 2 (by decide) (hts (.fieldLink RX8 19 "GradientDesk$Whole" "below" "Z") (List.mem_of_getElem? (i := 6) rfl)) (fun _ h9 => h9) rfl dX8_multiply_235 ?_
              refine lv_icmp_eq (tgt := 245) hx hb dX8_multiply_238 (by decide) (fun c_64 => ?_) (fun c_64 => ?_)
              · have c_64 := (nI_eq (a := nx9) (b := ny9) (by omega) (by omega)).mp c_64
                refine lv_iconst (v := nI 0) hx hb dX8_multiply_245 (by decide +kernel) ?_
                refine m_put (D := (dC, dI)) (v := .int (nI 0)) (tv := .boolean) (C := RX8) (T := TX8) (N := 3) hx hb hts bk0 tyX8 tyX8_ok nmX8 hown hK hP hD hS (2 * t) (ns_w (by omega)) f_59 rfl 2 (by decide) (hts (.fieldLink RX8 19 "GradientDesk$Whole" "below" "Z") (List.mem_of_getElem? (i := 6) rfl)) (fun _ h9 => h9) rfl (by decide +kernel) (by decide +kernel) (by decide +kernel) (Nat.le_of_ble_eq_true rfl) dX8_multiply_246 (fun H locs g_65 f_66 fr_67 hP hS => ?_)
                have f_66 : g_65 (2 * t) = .inr (11, [.ref (ad (2 * t + 1)), .int (nI (nn - 1)), .int (nI 0)]) := f_66
                have f_68 : g_65 (2 * t + 1) = .inl (cA (2 * t + 1), rmc t, .inl (fun j => nI (q1 j))) := (fr_67 (2 * t + 1) (by omega)).trans ((fr_60 (2 * t + 1) (by omega)).trans f_32)
                have hv0 : v ≠ 0 ∧ w1 ≠ 0 := by have h9 := rx9.zero; have h8 := ry9.zero; omega
                have hsg := k_sgm gx9 gy9 ex9 ey9 hv0.1 hv0.2
                have hWN : WN ad cA g_65 t (nn - 1) 0 (q1) := ⟨f_66, f_68, hq1, by omega, by omega⟩
                refine W.widen (k := 0) (n := 0) (by omega) (by omega) ?_
                exact W.vret hx hb hr (fun t9 ht9 hW9 => ⟨⟨g_65, rfl, ⟨(fun (k : Nat) (hk : k ≠ 2 * t ∧ k ≠ 2 * t + 1) => (fr_67 k (by omega)).trans ((fr_60 k (by omega)).trans ((fr_31 k (by omega)).trans ((fr_27 k (by omega)).trans (rfl))))), hWN.aw hAW (fun (k : Nat) (hk : k ≠ 2 * t ∧ k ≠ 2 * t + 1) => (fr_67 k (by omega)).trans ((fr_60 k (by omega)).trans ((fr_31 k (by omega)).trans ((fr_27 k (by omega)).trans (rfl))))), _, _, _, hWN, by rw [Int.natAbs_mul]; exact rp_tz hdd hlt (by omega) (by omega) hge, iff_of_false (by decide) (hsg.1 (by omega))⟩, by show va_P (dC, dI) vwCl _ t9.heap; rw [ht9]; exact hP⟩, hS.F ht9⟩) hS.2.2 dX8_multiply_249
              · have c_64 := mt (nI_eq (a := nx9) (b := ny9) (by omega) (by omega)).mpr c_64
                refine lv_iconst (v := nI 1) hx hb dX8_multiply_241 (by decide +kernel) ?_
                refine lv_goto (tgt := 246) hx hb dX8_multiply_242 (by decide) ?_
                refine m_put (D := (dC, dI)) (v := .int (nI 1)) (tv := .boolean) (C := RX8) (T := TX8) (N := 3) hx hb hts bk0 tyX8 tyX8_ok nmX8 hown hK hP hD hS (2 * t) (ns_w (by omega)) f_59 rfl 2 (by decide) (hts (.fieldLink RX8 19 "GradientDesk$Whole" "below" "Z") (List.mem_of_getElem? (i := 6) rfl)) (fun _ h9 => h9) rfl (by decide +kernel) (by decide +kernel) (by decide +kernel) (Nat.le_of_ble_eq_true rfl) dX8_multiply_246 (fun H locs g_69 f_70 fr_71 hP hS => ?_)
                have f_70 : g_69 (2 * t) = .inr (11, [.ref (ad (2 * t + 1)), .int (nI (nn - 1)), .int (nI 1)]) := f_70
                have f_72 : g_69 (2 * t + 1) = .inl (cA (2 * t + 1), rmc t, .inl (fun j => nI (q1 j))) := (fr_71 (2 * t + 1) (by omega)).trans ((fr_60 (2 * t + 1) (by omega)).trans f_32)
                have hv0 : v ≠ 0 ∧ w1 ≠ 0 := by have h9 := rx9.zero; have h8 := ry9.zero; omega
                have hsg := k_sgm gx9 gy9 ex9 ey9 hv0.1 hv0.2
                have hWN : WN ad cA g_69 t (nn - 1) 1 (q1) := ⟨f_70, f_72, hq1, by omega, by omega⟩
                refine W.widen (k := 0) (n := 0) (by omega) (by omega) ?_
                exact W.vret hx hb hr (fun t9 ht9 hW9 => ⟨⟨g_69, rfl, ⟨(fun (k : Nat) (hk : k ≠ 2 * t ∧ k ≠ 2 * t + 1) => (fr_71 k (by omega)).trans ((fr_60 k (by omega)).trans ((fr_31 k (by omega)).trans ((fr_27 k (by omega)).trans (rfl))))), hWN.aw hAW (fun (k : Nat) (hk : k ≠ 2 * t ∧ k ≠ 2 * t + 1) => (fr_71 k (by omega)).trans ((fr_60 k (by omega)).trans ((fr_31 k (by omega)).trans ((fr_27 k (by omega)).trans (rfl))))), _, _, _, hWN, by rw [Int.natAbs_mul]; exact rp_tz hdd hlt (by omega) (by omega) hge, iff_of_true rfl (hsg.2 (by omega))⟩, by show va_P (dC, dI) vwCl _ t9.heap; rw [ht9]; exact hP⟩, hS.F ht9⟩) hS.2.2 dX8_multiply_249
          · have c_34 := mt (nI_leI (a := sx9) (b := i1) (by omega) (by omega)).mpr c_34
            refine lv_iload hx hb dX8_multiply_58 (lv_at hl 4 rfl) ?_
            refine lv_iload_n hx hb dX8_multiply_60 rfl (lv_at hl 3 rfl) ?_
            refine lv_icmp_ge (tgt := 196) hx hb dX8_multiply_61 (by decide) (fun c_73 => absurd ((nI_leI (a := nn) (b := i1) (by omega) (by omega)).mp c_73) (by omega)) (fun c_73 => ?_)
            refine lv_aload_n hx hb dX8_multiply_64 rfl (lv_at hl 1 rfl) ?_
            refine m_get (D := (dC, dI)) (v := .ref (ad (2 * x + 1))) (C := RX8) (T := TX8) (N := 3) hx hb hts bk0 hown hK hP (2 * x) (ns_w (by omega)) f_33 rfl 0 (by decide) (hts (.fieldLink RX8 9 "GradientDesk$Whole" "words" "[I") (List.mem_of_getElem? (i := 2) rfl)) (fun _ h9 => h9) rfl dX8_multiply_65 ?_
            refine lv_iload hx hb dX8_multiply_68 (lv_at hl 4 rfl) ?_
            have f_74 : g_30 (2 * x + 1) = .inl (cA (2 * x + 1), rmc x, .inl (fun j => nI (fx9 j))) := (fr_31 (2 * x + 1) (by omega)).trans ((fr_27 (2 * x + 1) (by omega)).trans bx9)
            refine m_iald hx hb hK hP (2 * x + 1) (ns_w (by omega)) (tyc_w (by omega)) f_74 (i := i1) (by omega) (by omega) dX8_multiply_70 ?_
            have b_75 := ux9 i1
            refine lv_i2l hx hb dX8_multiply_71 rfl ?_
            refine lv_topl (fun y_76 e_77 => ?_)
            subst e_77
            refine lv_ldc2 (v := 4294967295) hx hb hown (hts (.constantLong RX8 48 (4294967295)) (List.mem_of_getElem? (i := 11) rfl)) dX8_multiply_72 ?_
            refine lv_topl (fun y_78 e_79 => ?_)
            obtain rfl : y_78 = lN 4294967295 := e_79
            refine lv_land hx hb dX8_multiply_75 ?_
            refine lv_topl (fun y_80 e_81 => ?_)
            obtain rfl : y_80 = lN (fx9 i1) := e_81.trans (k_word b_75)
            refine lv_lstore (lv' := [(5, .long (lN (fx9 i1))), (0, .ref (ad (2 * t))), (1, .ref (ad (2 * x))), (2, .ref (ad (2 * y))), (3, .int (nI nn)), (4, .int (nI i1))]) hx hb dX8_multiply_76 hl (by decide) rfl (fun ls hl => ?_)
            refine lv_lconst (v := lN 0) hx hb dX8_multiply_78 (by decide +kernel) ?_
            refine lv_lstore (lv' := [(7, .long (lN 0)), (5, .long (lN (fx9 i1))), (0, .ref (ad (2 * t))), (1, .ref (ad (2 * x))), (2, .ref (ad (2 * y))), (3, .int (nI nn)), (4, .int (nI i1))]) hx hb dX8_multiply_79 hl (by decide) rfl (fun ls hl => ?_)
            refine lv_iconst (v := nI 0) hx hb dX8_multiply_81 (by decide +kernel) ?_
            refine lv_istore (lv' := [(9, .int (nI 0)), (7, .long (lN 0)), (5, .long (lN (fx9 i1))), (0, .ref (ad (2 * t))), (1, .ref (ad (2 * x))), (2, .ref (ad (2 * y))), (3, .int (nI nn)), (4, .int (nI i1))]) hx hb dX8_multiply_82 hl (by decide) rfl (fun ls hl => ?_)
            have loop_82 : ∀ (k9 : Nat) (j1 : Nat) (q2 : Nat → Nat) (cy : Nat) (g_84 : Nat → va_E) (fr_85 : ∀ k, (k ≠ 2 * t + 1) → g_84 k = g_30 k), 5000 - j1 < k9 → (j1 ≤ sy9) → (∀ j, q2 j < 4294967296) → (nv q2 nn + cy * 4294967296 ^ (i1 + j1) = v.natAbs % 4294967296 ^ i1 * w1.natAbs + dgt v.natAbs i1 * (w1.natAbs % 4294967296 ^ j1) * 4294967296 ^ i1) → (∀ j, i1 + sy9 ≤ j → j < nn → q2 j = 0) → (cy < 4294967296) → (g_84 (2 * t + 1) = .inl (cA (2 * t + 1), rmc t, .inl (fun j => nI (q2 j)))) → ∀ (H : Heap) (locs : List Loc) (ls : Array Slot), va_P (dC, dI) vwCl (wo ad NSc g_84) H → va_S A s.heap H locs → lv_has ls 10 [(0, .ref (ad (2 * t))), (1, .ref (ad (2 * x))), (2, .ref (ad (2 * y))), (3, .int (nI nn)), (4, .int (nI i1)), (5, .long (lN (fx9 i1))), (7, .long (lN cy)), (9, .int (nI j1))] → W p l e (headSpec wd_V8_multiply ({ frames := 30, cells := 0, slots := 0, locals := 600 })).room s m ([.ref (ad (2 * t)), .ref (ad (2 * x)), .ref (ad (2 * y))] : List Value).toArray below meth c H locs (0) (0) (MQ below (va_Qv (fun (u : Nat → va_E) => match u with | g2 => (∀ k, k ≠ 2 * t ∧ k ≠ 2 * t + 1 → g2 k = g k) ∧ AW ad cA g2 ∧ WV ad cA g2 t (v * w1)) (fun (u : Nat → va_E) (t : State) => va_P (dC, dI) vwCl (wo ad NSc u) t.heap) A) ([.ref (ad (2 * t)), .ref (ad (2 * x)), .ref (ad (2 * y))] : List Value).toArray s (0) (0) A) (F0 m 84 ls []) := by
              intro k9
              induction k9 with
              | zero => intro j1 q2 cy g_84 fr_85 h9; exact absurd h9 (Nat.not_lt_zero _)
              | succ k9 ih_83 =>
                intro j1 q2 cy g_84 fr_85 h9 hj1 hq2 hst hz2 hcy f_86 H locs ls hP hS hl
                refine lv_iload hx hb dX8_multiply_84 (lv_at hl 7 rfl) ?_
                refine lv_aload_n hx hb dX8_multiply_86 rfl (lv_at hl 2 rfl) ?_
                have f_87 : g_84 (2 * y) = .inr (11, [.ref (ad (2 * y + 1)), .int (nI sy9), .int (nI ny9)]) := (fr_85 (2 * y) (by omega)).trans ((fr_31 (2 * y) (by omega)).trans ((fr_27 (2 * y) (by omega)).trans ay9))
                refine m_get (D := (dC, dI)) (v := .int (nI sy9)) (C := RX8) (T := TX8) (N := 3) hx hb hts bk0 hown hK hP (2 * y) (ns_w (by omega)) f_87 rfl 1 (by decide) (hts (.fieldLink RX8 15 "GradientDesk$Whole" "size" "I") (List.mem_of_getElem? (i := 1) rfl)) (fun _ h9 => h9) rfl dX8_multiply_87 ?_
                refine lv_icmp_ge (tgt := 164) hx hb dX8_multiply_90 (by decide) (fun c_88 => ?_) (fun c_88 => ?_)
                · have c_88 := (nI_leI (a := sy9) (b := j1) (by omega) (by omega)).mp c_88
                  have hjb : j1 = sy9 := by omega
                  rw [hjb] at hst
                  refine lv_iload hx hb dX8_multiply_164 (lv_at hl 4 rfl) ?_
                  refine lv_aload_n hx hb dX8_multiply_166 rfl (lv_at hl 2 rfl) ?_
                  refine m_get (D := (dC, dI)) (v := .int (nI sy9)) (C := RX8) (T := TX8) (N := 3) hx hb hts bk0 hown hK hP (2 * y) (ns_w (by omega)) f_87 rfl 1 (by decide) (hts (.fieldLink RX8 15 "GradientDesk$Whole" "size" "I") (List.mem_of_getElem? (i := 1) rfl)) (fun _ h9 => h9) rfl dX8_multiply_167 ?_
                  refine lv_iadd hx hb dX8_multiply_170 ?_
                  refine lv_topi (fun x_89 e_90 => ?_)
                  obtain rfl : x_89 = nI (i1 + sy9) := e_90.trans (nI_add i1 sy9)
                  refine lv_iload_n hx hb dX8_multiply_171 rfl (lv_at hl 3 rfl) ?_
                  refine lv_icmp_ge (tgt := 190) hx hb dX8_multiply_172 (by decide) (fun c_91 => absurd ((nI_leI (a := nn) (b := (i1 + sy9)) (by omega) (by omega)).mp c_91) (by omega)) (fun c_91 => ?_)
                  refine lv_aload_n hx hb dX8_multiply_175 rfl (lv_at hl 0 rfl) ?_
                  have f_92 : g_84 (2 * t) = .inr (11, [.ref (ad (2 * t + 1)), .int (nI st9), .int (nI nt9)]) := (fr_85 (2 * t) (by omega)).trans ((fr_31 (2 * t) (by omega)).trans ((fr_27 (2 * t) (by omega)).trans at9))
                  refine m_get (D := (dC, dI)) (v := .ref (ad (2 * t + 1))) (C := RX8) (T := TX8) (N := 3) hx hb hts bk0 hown hK hP (2 * t) (ns_w (by omega)) f_92 rfl 0 (by decide) (hts (.fieldLink RX8 9 "GradientDesk$Whole" "words" "[I") (List.mem_of_getElem? (i := 2) rfl)) (fun _ h9 => h9) rfl dX8_multiply_176 ?_
                  refine lv_iload hx hb dX8_multiply_179 (lv_at hl 4 rfl) ?_
                  refine lv_aload_n hx hb dX8_multiply_181 rfl (lv_at hl 2 rfl) ?_
                  refine m_get (D := (dC, dI)) (v := .int (nI sy9)) (C := RX8) (T := TX8) (N := 3) hx hb hts bk0 hown hK hP (2 * y) (ns_w (by omega)) f_87 rfl 1 (by decide) (hts (.fieldLink RX8 15 "GradientDesk$Whole" "size" "I") (List.mem_of_getElem? (i := 1) rfl)) (fun _ h9 => h9) rfl dX8_multiply_182 ?_
                  refine lv_iadd hx hb dX8_multiply_185 ?_
                  refine lv_topi (fun x_93 e_94 => ?_)
                  obtain rfl : x_93 = nI (i1 + sy9) := e_94.trans (nI_add i1 sy9)
                  refine lv_lload hx hb dX8_multiply_186 (lv_at hl 6 rfl) ?_
                  refine lv_l2i hx hb dX8_multiply_188 rfl ?_
                  refine lv_topi (fun x_95 e_96 => ?_)
                  obtain rfl : x_95 = nI cy := e_96.trans (lN_i cy)
                  refine m_iast hx hb hK hP hD hS (2 * t + 1) (ns_w (by omega)) (tyc_w (by omega)) f_86 (i := i1 + sy9) (x := nI cy) (by omega) (by omega) dX8_multiply_189 (fun H locs g_97 f_98 fr_99 hP hS => ?_)
                  rw [k_updI] at f_98
                  have b_100 : ∀ j, (va_up q2 (i1 + sy9) cy) j < 4294967296 := k_up_lt hq2 (by omega)
                  have f_98 : g_97 (2 * t + 1) = .inl (cA (2 * t + 1), rmc t, .inl (fun j => nI ((va_up q2 (i1 + sy9) cy) j))) := f_98
                  refine lv_iinc (v := nI (i1 + 1)) (lv' := [(4, .int (nI (i1 + 1))), (0, .ref (ad (2 * t))), (1, .ref (ad (2 * x))), (2, .ref (ad (2 * y))), (3, .int (nI nn)), (5, .long (lN (fx9 i1))), (7, .long (lN cy)), (9, .int (nI j1))]) hx hb dX8_multiply_190 hl (k := 4) rfl (nI_add i1 1) (by decide) rfl (fun ls hl => ?_)
                  refine lv_goto (tgt := 49) hx hb dX8_multiply_193 (by decide) ?_
                  exact ih_29 (i1 + 1) (va_up q2 (i1 + sy9) cy) g_97 (fun (k : Nat) (hk : k ≠ 2 * t + 1) => (fr_99 k (by omega)).trans ((fr_85 k (by omega)).trans ((fr_31 k (by omega)).trans (rfl)))) (by omega) (by omega) b_100 (row0 (by omega) hz2 hst ry9.lt) (fun j h1 h2 => by rw [va_up_ne _ _ (by omega)]; exact hz2 j (by omega) h2) f_98 _ _ _ hP hS (lv_sub (l' := [(0, .ref (ad (2 * t))), (1, .ref (ad (2 * x))), (2, .ref (ad (2 * y))), (3, .int (nI nn)), (4, .int (nI (i1 + 1)))]) hl [1, 2, 3, 4, 0] rfl)
                · have c_88 := mt (nI_leI (a := sy9) (b := j1) (by omega) (by omega)).mpr c_88
                  refine lv_iload hx hb dX8_multiply_93 (lv_at hl 4 rfl) ?_
                  refine lv_iload hx hb dX8_multiply_95 (lv_at hl 7 rfl) ?_
                  refine lv_iadd hx hb dX8_multiply_97 ?_
                  refine lv_topi (fun x_103 e_104 => ?_)
                  obtain rfl : x_103 = nI (i1 + j1) := e_104.trans (nI_add i1 j1)
                  refine lv_iload_n hx hb dX8_multiply_98 rfl (lv_at hl 3 rfl) ?_
                  refine lv_icmp_ge (tgt := 164) hx hb dX8_multiply_99 (by decide) (fun c_105 => absurd ((nI_leI (a := nn) (b := (i1 + j1)) (by omega) (by omega)).mp c_105) (by omega)) (fun c_105 => ?_)
                  have hpr : fx9 i1 * fy9 j1 ≤ 4294967295 * 4294967295 := Nat.mul_le_mul (by have := ux9 i1; omega) (by have := uy9 j1; omega)
                  refine lv_lload hx hb dX8_multiply_102 (lv_at hl 6 rfl) ?_
                  refine lv_lload hx hb dX8_multiply_104 (lv_at hl 5 rfl) ?_
                  refine lv_aload_n hx hb dX8_multiply_106 rfl (lv_at hl 2 rfl) ?_
                  refine m_get (D := (dC, dI)) (v := .ref (ad (2 * y + 1))) (C := RX8) (T := TX8) (N := 3) hx hb hts bk0 hown hK hP (2 * y) (ns_w (by omega)) f_87 rfl 0 (by decide) (hts (.fieldLink RX8 9 "GradientDesk$Whole" "words" "[I") (List.mem_of_getElem? (i := 2) rfl)) (fun _ h9 => h9) rfl dX8_multiply_107 ?_
                  refine lv_iload hx hb dX8_multiply_110 (lv_at hl 7 rfl) ?_
                  have f_106 : g_84 (2 * y + 1) = .inl (cA (2 * y + 1), rmc y, .inl (fun j => nI (fy9 j))) := (fr_85 (2 * y + 1) (by omega)).trans ((fr_31 (2 * y + 1) (by omega)).trans ((fr_27 (2 * y + 1) (by omega)).trans by9))
                  refine m_iald hx hb hK hP (2 * y + 1) (ns_w (by omega)) (tyc_w (by omega)) f_106 (i := j1) (by omega) (by omega) dX8_multiply_112 ?_
                  have b_107 := uy9 j1
                  refine lv_i2l hx hb dX8_multiply_113 rfl ?_
                  refine lv_topl (fun y_108 e_109 => ?_)
                  subst e_109
                  refine lv_ldc2 (v := 4294967295) hx hb hown (hts (.constantLong RX8 48 (4294967295)) (List.mem_of_getElem? (i := 11) rfl)) dX8_multiply_114 ?_
                  refine lv_topl (fun y_110 e_111 => ?_)
                  obtain rfl : y_110 = lN 4294967295 := e_111
                  refine lv_land hx hb dX8_multiply_117 ?_
                  refine lv_topl (fun y_112 e_113 => ?_)
                  obtain rfl : y_112 = lN (fy9 j1) := e_113.trans (k_word b_107)
                  refine lv_lmul hx hb dX8_multiply_118 ?_
                  refine lv_topl (fun y_114 e_115 => ?_)
                  obtain rfl : y_114 = lN ((fx9 i1) * (fy9 j1)) := e_115.trans (lN_mul (fx9 i1) (fy9 j1))
                  refine lv_aload_n hx hb dX8_multiply_119 rfl (lv_at hl 0 rfl) ?_
                  have f_116 : g_84 (2 * t) = .inr (11, [.ref (ad (2 * t + 1)), .int (nI st9), .int (nI nt9)]) := (fr_85 (2 * t) (by omega)).trans ((fr_31 (2 * t) (by omega)).trans ((fr_27 (2 * t) (by omega)).trans at9))
                  refine m_get (D := (dC, dI)) (v := .ref (ad (2 * t + 1))) (C := RX8) (T := TX8) (N := 3) hx hb hts bk0 hown hK hP (2 * t) (ns_w (by omega)) f_116 rfl 0 (by decide) (hts (.fieldLink RX8 9 "GradientDesk$Whole" "words" "[I") (List.mem_of_getElem? (i := 2) rfl)) (fun _ h9 => h9) rfl dX8_multiply_120 ?_
                  refine lv_iload hx hb dX8_multiply_123 (lv_at hl 4 rfl) ?_
                  refine lv_iload hx hb dX8_multiply_125 (lv_at hl 7 rfl) ?_
                  refine lv_iadd hx hb dX8_multiply_127 ?_
                  refine lv_topi (fun x_117 e_118 => ?_)
                  obtain rfl : x_117 = nI (i1 + j1) := e_118.trans (nI_add i1 j1)
                  refine m_iald hx hb hK hP (2 * t + 1) (ns_w (by omega)) (tyc_w (by omega)) f_86 (i := i1 + j1) (by omega) (by omega) dX8_multiply_128 ?_
                  have b_119 := hq2 (i1 + j1)
                  refine lv_i2l hx hb dX8_multiply_129 rfl ?_
                  refine lv_topl (fun y_120 e_121 => ?_)
                  subst e_121
                  refine lv_ldc2 (v := 4294967295) hx hb hown (hts (.constantLong RX8 48 (4294967295)) (List.mem_of_getElem? (i := 11) rfl)) dX8_multiply_130 ?_
                  refine lv_topl (fun y_122 e_123 => ?_)
                  obtain rfl : y_122 = lN 4294967295 := e_123
                  refine lv_land hx hb dX8_multiply_133 ?_
                  refine lv_topl (fun y_124 e_125 => ?_)
                  obtain rfl : y_124 = lN (q2 (i1 + j1)) := e_125.trans (k_word b_119)
                  refine lv_ladd hx hb dX8_multiply_134 ?_
                  refine lv_topl (fun y_126 e_127 => ?_)
                  obtain rfl : y_126 = lN ((fx9 i1) * (fy9 j1) + (q2 (i1 + j1))) := e_127.trans (lN_add ((fx9 i1) * (fy9 j1)) (q2 (i1 + j1)))
                  refine lv_ladd hx hb dX8_multiply_135 ?_
                  refine lv_topl (fun y_128 e_129 => ?_)
                  obtain rfl : y_128 = lN (cy + ((fx9 i1) * (fy9 j1) + (q2 (i1 + j1)))) := e_129.trans (lN_add cy ((fx9 i1) * (fy9 j1) + (q2 (i1 + j1))))
                  refine lv_lstore (lv' := [(7, .long (lN (cy + ((fx9 i1) * (fy9 j1) + (q2 (i1 + j1)))))), (0, .ref (ad (2 * t))), (1, .ref (ad (2 * x))), (2, .ref (ad (2 * y))), (3, .int (nI nn)), (4, .int (nI i1)), (5, .long (lN (fx9 i1))), (9, .int (nI j1))]) hx hb dX8_multiply_136 hl (by decide) rfl (fun ls hl => ?_)
                  refine lv_aload_n hx hb dX8_multiply_138 rfl (lv_at hl 1 rfl) ?_
                  refine m_get (D := (dC, dI)) (v := .ref (ad (2 * t + 1))) (C := RX8) (T := TX8) (N := 3) hx hb hts bk0 hown hK hP (2 * t) (ns_w (by omega)) f_116 rfl 0 (by decide) (hts (.fieldLink RX8 9 "GradientDesk$Whole" "words" "[I") (List.mem_of_getElem? (i := 2) rfl)) (fun _ h9 => h9) rfl dX8_multiply_139 ?_
                  refine lv_iload hx hb dX8_multiply_142 (lv_at hl 5 rfl) ?_
                  refine lv_iload hx hb dX8_multiply_144 (lv_at hl 7 rfl) ?_
                  refine lv_iadd hx hb dX8_multiply_146 ?_
                  refine lv_topi (fun x_130 e_131 => ?_)
                  obtain rfl : x_130 = nI (i1 + j1) := e_131.trans (nI_add i1 j1)
                  refine lv_lload hx hb dX8_multiply_147 (lv_at hl 0 rfl) ?_
                  refine lv_l2i hx hb dX8_multiply_149 rfl ?_
                  refine lv_topi (fun x_132 e_133 => ?_)
                  obtain rfl : x_132 = nI (cy + ((fx9 i1) * (fy9 j1) + (q2 (i1 + j1)))) := e_133.trans (lN_i (cy + ((fx9 i1) * (fy9 j1) + (q2 (i1 + j1)))))
                  rw [show nI (cy + ((fx9 i1) * (fy9 j1) + (q2 (i1 + j1)))) = nI ((cy + ((fx9 i1) * (fy9 j1) + (q2 (i1 + j1)))) % 4294967296) from nI_md _]
                  refine m_iast hx hb hK hP hD hS (2 * t + 1) (ns_w (by omega)) (tyc_w (by omega)) f_86 (i := i1 + j1) (x := nI ((cy + ((fx9 i1) * (fy9 j1) + (q2 (i1 + j1)))) % 4294967296)) (by omega) (by omega) dX8_multiply_150 (fun H locs g_134 f_135 fr_136 hP hS => ?_)
                  rw [k_updI] at f_135
                  have b_137 : ∀ j, (va_up q2 (i1 + j1) ((cy + ((fx9 i1) * (fy9 j1) + (q2 (i1 + j1)))) % 4294967296)) j < 4294967296 := k_up_lt hq2 (by omega)
                  have f_135 : g_134 (2 * t + 1) = .inl (cA (2 * t + 1), rmc t, .inl (fun j => nI ((va_up q2 (i1 + j1) ((cy + ((fx9 i1) * (fy9 j1) + (q2 (i1 + j1)))) % 4294967296)) j))) := f_135
                  refine lv_lload hx hb dX8_multiply_151 (lv_at hl 0 rfl) ?_
                  refine lv_bipush (v := nI 32) hx hb dX8_multiply_153 (by decide +kernel) ?_
                  refine lv_lushr hx hb dX8_multiply_155 rfl ?_
                  refine lv_topl (fun y_138 e_139 => ?_)
                  obtain rfl : y_138 = lN ((cy + ((fx9 i1) * (fy9 j1) + (q2 (i1 + j1)))) / 4294967296) := e_139.trans ((wb_shr (n := (cy + ((fx9 i1) * (fy9 j1) + (q2 (i1 + j1))))) (k := 32) (by omega) (by decide)).trans rfl)
                  refine lv_lstore (lv' := [(7, .long (lN ((cy + ((fx9 i1) * (fy9 j1) + (q2 (i1 + j1)))) / 4294967296))), (0, .ref (ad (2 * t))), (1, .ref (ad (2 * x))), (2, .ref (ad (2 * y))), (3, .int (nI nn)), (4, .int (nI i1)), (5, .long (lN (fx9 i1))), (9, .int (nI j1))]) hx hb dX8_multiply_156 hl (by decide) rfl (fun ls hl => ?_)
                  refine lv_iinc (v := nI (j1 + 1)) (lv' := [(9, .int (nI (j1 + 1))), (7, .long (lN ((cy + ((fx9 i1) * (fy9 j1) + (q2 (i1 + j1)))) / 4294967296))), (0, .ref (ad (2 * t))), (1, .ref (ad (2 * x))), (2, .ref (ad (2 * y))), (3, .int (nI nn)), (4, .int (nI i1)), (5, .long (lN (fx9 i1)))]) hx hb dX8_multiply_158 hl (k := 7) rfl (nI_add j1 1) (by decide) rfl (fun ls hl => ?_)
                  refine lv_goto (tgt := 84) hx hb dX8_multiply_161 (by decide) ?_
                  exact ih_83 (j1 + 1) (va_up q2 (i1 + j1) ((cy + ((fx9 i1) * (fy9 j1) + (q2 (i1 + j1)))) % 4294967296)) ((cy + ((fx9 i1) * (fy9 j1) + (q2 (i1 + j1)))) / 4294967296) g_134 (fun (k : Nat) (hk : k ≠ 2 * t + 1) => (fr_136 k (by omega)).trans ((fr_85 k (by omega)).trans (rfl))) (by omega) (by omega) b_137 (cell0 (by omega) hst (rx9.dg (by omega)) (ry9.dg (by omega))) (fun j h1 h2 => by rw [va_up_ne _ _ (by omega)]; exact hz2 j h1 h2) (Nat.div_lt_of_lt_mul (by omega)) f_135 _ _ _ hP hS (lv_sub (l' := [(0, .ref (ad (2 * t))), (1, .ref (ad (2 * x))), (2, .ref (ad (2 * y))), (3, .int (nI nn)), (4, .int (nI i1)), (5, .long (lN (fx9 i1))), (7, .long (lN ((cy + ((fx9 i1) * (fy9 j1) + (q2 (i1 + j1)))) / 4294967296))), (9, .int (nI (j1 + 1)))]) hl [2, 3, 4, 5, 6, 7, 1, 0] rfl)
            exact loop_82 _ 0 q1 0 g_30 (fun (k : Nat) (hk : k ≠ 2 * t + 1) => rfl) (Nat.lt_succ_self _) (Nat.zero_le _) hq1 (by rw [hnv, Nat.pow_zero (n := 4294967296), Nat.mod_one, Nat.mul_zero, Nat.zero_mul, Nat.zero_mul]) hzz (by decide) f_32 _ _ _ hP hS (lv_sub (l' := [(0, .ref (ad (2 * t))), (1, .ref (ad (2 * x))), (2, .ref (ad (2 * y))), (3, .int (nI nn)), (4, .int (nI i1)), (5, .long (lN (fx9 i1))), (7, .long (lN 0)), (9, .int (nI 0))]) hl [3, 4, 5, 6, 7, 2, 1, 0] rfl)
      exact loop_28 _ 0 f2_26 g_25 (fun (k : Nat) (hk : k ≠ 2 * t + 1) => rfl) (Nat.lt_succ_self _) (Nat.zero_le _) hfu (by rw [Nat.pow_zero, Nat.mod_one, Nat.zero_mul]; exact (nv_zeros (m := 0) (Nat.zero_le _) (fun j _ h2 => hfz j h2))) (fun j _ h2 => hfz j h2) hfill _ _ _ hP hS (lv_sub (l' := [(0, .ref (ad (2 * t))), (1, .ref (ad (2 * x))), (2, .ref (ad (2 * y))), (3, .int (nI nn)), (4, .int (nI 0))]) hl [2, 3, 4, 1, 0] rfl)
    · have c_18 := (nI_eq (a := sy9) (b := 0) (by omega) (by decide)).mp c_18
      refine lv_iconst (v := nI 0) hx hb dX8_multiply_14 (by decide +kernel) ?_
      refine lv_goto (tgt := 35) hx hb dX8_multiply_15 (by decide) ?_
      refine lv_istore_n (lv' := [(3, .int (nI 0)), (0, .ref (ad (2 * t))), (1, .ref (ad (2 * x))), (2, .ref (ad (2 * y)))]) hx hb dX8_multiply_35 rfl hl (by decide) rfl (fun ls hl => ?_)
      refine lv_aload_n hx hb dX8_multiply_36 rfl (lv_at hl 1 rfl) ?_
      refine m_get (D := (dC, dI)) (v := .ref (ad (2 * t + 1))) (C := RX8) (T := TX8) (N := 3) hx hb hts bk0 hown hK hP (2 * t) (ns_w (by omega)) at9 rfl 0 (by decide) (hts (.fieldLink RX8 9 "GradientDesk$Whole" "words" "[I") (List.mem_of_getElem? (i := 2) rfl)) (fun _ h9 => h9) rfl dX8_multiply_37 ?_
      refine lv_iconst (v := nI 0) hx hb dX8_multiply_40 (by decide +kernel) ?_
      refine lv_iload_n hx hb dX8_multiply_41 rfl (lv_at hl 0 rfl) ?_
      refine lv_iconst (v := nI 0) hx hb dX8_multiply_42 (by decide +kernel) ?_
      refine va_callv (va_runS (As := [.ref (ad (2 * t + 1)), .int (nI 0), .int (nI 0), .int (nI 0)]) (rest := []) ⟨hx, hb, hml, hown, hts⟩ (c_J_fillN l dC dI A ad cA g t ft9 0 it bt9 ut9 (by omega)) (va_cwS 4 hts (goodIn_app (goodIn_r [Cond.methodLink RX8 58 yJ7_fill_fda19, Cond.static yJ7_fill_fda19, Cond.initialized RJ7] [3, 4, 5] rfl rfl) (goodIn_sub (fun w9 h9 => bk1 w9 h9) gw_J_fillN)) rfl rfl rfl (by decide +kernel) ⟨Nat.le_of_ble_eq_true rfl, Nat.le_of_ble_eq_true rfl⟩) ⟨fun a U g mk q => ⟨q.1, q.2.1, q.2.2.1, LY.moved (u := U) (U := U.calling g mk a) (Vm.Alike.refl U.vm) q.2.2.2⟩, fun U hU hW => ⟨rfl, by rw [hU]; exact fun q h => hA q (Nat.le_trans hS.1 h), by rw [hU]; exact hP, LY.moved hW.alike hL⟩⟩ rfl rfl hl.1 rfl (lv_room (Nat.le_of_ble_eq_true rfl)) dX8_multiply_43 ⟨(Nat.le_of_ble_eq_true rfl), (Nat.le_of_ble_eq_true rfl)⟩) hS (fun q _ h => h) (fun q h => h) (fun u8 t8 H1 locs ht8 hvm8 hw_142 hB hz1 hk1 hS => ?_)
      obtain ⟨g_143, f2_144⟩ := u8
      try dsimp only at hw_142 hB
      rw [ht8] at hB
      have hP := hB
      generalize H1 = H at hP hS ⊢
      obtain ⟨fr_145, hfill, hfu, hfz⟩ := hw_142
      refine lv_iconst (v := nI 0) hx hb dX8_multiply_46 (by decide +kernel) ?_
      refine lv_istore (lv' := [(4, .int (nI 0)), (3, .int (nI 0)), (0, .ref (ad (2 * t))), (1, .ref (ad (2 * x))), (2, .ref (ad (2 * y)))]) hx hb dX8_multiply_47 hl (by decide) rfl (fun ls hl => ?_)
      refine lv_iload hx hb dX8_multiply_49 (lv_at hl 0 rfl) ?_
      refine lv_aload_n hx hb dX8_multiply_51 rfl (lv_at hl 3 rfl) ?_
      have f_146 : g_143 (2 * x) = .inr (11, [.ref (ad (2 * x + 1)), .int (nI sx9), .int (nI nx9)]) := (fr_145 (2 * x) (by omega)).trans ax9
      refine m_get (D := (dC, dI)) (v := .int (nI sx9)) (C := RX8) (T := TX8) (N := 3) hx hb hts bk0 hown hK hP (2 * x) (ns_w (by omega)) f_146 rfl 1 (by decide) (hts (.fieldLink RX8 15 "GradientDesk$Whole" "size" "I") (List.mem_of_getElem? (i := 1) rfl)) (fun _ h9 => h9) rfl dX8_multiply_52 ?_
      refine lv_icmp_ge (tgt := 196) hx hb dX8_multiply_55 (by decide) (fun c_147 => absurd ((nI_leI (a := sx9) (b := 0) (by omega) (by decide)).mp c_147) (by omega)) (fun c_147 => ?_)
      refine lv_iload hx hb dX8_multiply_58 (lv_at hl 0 rfl) ?_
      refine lv_iload_n hx hb dX8_multiply_60 rfl (lv_at hl 1 rfl) ?_
      refine lv_icmp_ge (tgt := 196) hx hb dX8_multiply_61 (by decide) (fun c_148 => ?_) (fun c_148 => absurd c_148 (by decide))
      refine lv_aload_n hx hb dX8_multiply_196 rfl (lv_at hl 2 rfl) ?_
      refine lv_iload_n hx hb dX8_multiply_197 rfl (lv_at hl 1 rfl) ?_
      refine lv_if_le (tgt := 218) hx hb dX8_multiply_198 (by decide) (fun c_149 => ?_) (fun c_149 => absurd c_149 (by decide))
      refine lv_iload_n hx hb dX8_multiply_218 rfl (lv_at hl 1 rfl) ?_
      have f_150 : g_143 (2 * t) = .inr (11, [.ref (ad (2 * t + 1)), .int (nI st9), .int (nI nt9)]) := (fr_145 (2 * t) (by omega)).trans at9
      refine m_put (D := (dC, dI)) (v := .int (nI 0)) (tv := .int) (C := RX8) (T := TX8) (N := 3) hx hb hts bk0 tyX8 tyX8_ok nmX8 hown hK hP hD hS (2 * t) (ns_w (by omega)) f_150 rfl 1 (by decide) (hts (.fieldLink RX8 15 "GradientDesk$Whole" "size" "I") (List.mem_of_getElem? (i := 1) rfl)) (fun _ h9 => h9) rfl (by decide +kernel) rfl rfl (Nat.le_of_ble_eq_true rfl) dX8_multiply_219 (fun H locs g_151 f_152 fr_153 hP hS => ?_)
      have f_152 : g_151 (2 * t) = .inr (11, [.ref (ad (2 * t + 1)), .int (nI 0), .int (nI nt9)]) := f_152
      refine lv_aload_n hx hb dX8_multiply_222 rfl (lv_at hl 2 rfl) ?_
      refine lv_aload_n hx hb dX8_multiply_223 rfl (lv_at hl 2 rfl) ?_
      refine m_get (D := (dC, dI)) (v := .int (nI 0)) (C := RX8) (T := TX8) (N := 3) hx hb hts bk0 hown hK hP (2 * t) (ns_w (by omega)) f_152 rfl 1 (by decide) (hts (.fieldLink RX8 15 "GradientDesk$Whole" "size" "I") (List.mem_of_getElem? (i := 1) rfl)) (fun _ h9 => h9) rfl dX8_multiply_224 ?_
      refine lv_if_le (tgt := 245) hx hb dX8_multiply_227 (by decide) (fun c_154 => ?_) (fun c_154 => absurd c_154 (by decide))
      refine lv_iconst (v := nI 0) hx hb dX8_multiply_245 (by decide +kernel) ?_
      refine m_put (D := (dC, dI)) (v := .int (nI 0)) (tv := .boolean) (C := RX8) (T := TX8) (N := 3) hx hb hts bk0 tyX8 tyX8_ok nmX8 hown hK hP hD hS (2 * t) (ns_w (by omega)) f_152 rfl 2 (by decide) (hts (.fieldLink RX8 19 "GradientDesk$Whole" "below" "Z") (List.mem_of_getElem? (i := 6) rfl)) (fun _ h9 => h9) rfl (by decide +kernel) (by decide +kernel) (by decide +kernel) (Nat.le_of_ble_eq_true rfl) dX8_multiply_246 (fun H locs g_155 f_156 fr_157 hP hS => ?_)
      have f_156 : g_155 (2 * t) = .inr (11, [.ref (ad (2 * t + 1)), .int (nI 0), .int (nI 0)]) := f_156
      have f_158 : g_155 (2 * t + 1) = .inl (cA (2 * t + 1), rmc t, .inl (fun j => nI (f2_144 j))) := (fr_157 (2 * t + 1) (by omega)).trans ((fr_153 (2 * t + 1) (by omega)).trans hfill)
      have hv0 : v * w1 = 0 := by rw [show w1 = 0 by have h9 := ry9.zero.mp (by omega); omega, Int.mul_zero]
      have hWN : WN ad cA g_155 t 0 0 (f2_144) := ⟨f_156, f_158, hfu, by omega, by omega⟩
      refine W.widen (k := 0) (n := 0) (by omega) (by omega) ?_
      exact W.vret hx hb hr (fun t9 ht9 hW9 => ⟨⟨g_155, rfl, ⟨(fun (k : Nat) (hk : k ≠ 2 * t ∧ k ≠ 2 * t + 1) => (fr_157 k (by omega)).trans ((fr_153 k (by omega)).trans ((fr_145 k (by omega)).trans (rfl)))), hWN.aw hAW (fun (k : Nat) (hk : k ≠ 2 * t ∧ k ≠ 2 * t + 1) => (fr_157 k (by omega)).trans ((fr_153 k (by omega)).trans ((fr_145 k (by omega)).trans (rfl)))), _, _, _, hWN, by rw [hv0]; exact ⟨fun j h9 => absurd h9 (Nat.not_lt_zero _), Or.inl rfl, rfl⟩, by rw [hv0]; decide⟩, by show va_P (dC, dI) vwCl _ t9.heap; rw [ht9]; exact hP⟩, hS.F ht9⟩) hS.2.2 dX8_multiply_249
end
