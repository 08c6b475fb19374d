def wd_X8_signum0 : List Cond := .code yX8_signum cX8_signum 1 (some .int) :: (([.fieldLink RX8 15 "GradientDesk$Whole" "size" "I"] : List Cond) ++ (u_ws RX8 TX8 3 ++ ([])))
theorem gw_X8_signum0 : wd_X8_signum0.all goodWord = true := k_allc rfl (k_all (by decide +kernel) (k_all (gu_X8) (rfl)))
abbrev at_X8_signum0 (dC : Nat → ClassId) (dI : Nat → Nat → Nat) (A : Nat → Prop) (h : Nat) (qa : Nat) (u : Unit) (t : State) : Prop := match u with
  | () => va_P (dC, dI) vwCl [] t.heap ∧ va_K (dC, dI) vwCl [] t ∧ va_D A []
set_option maxHeartbeats 4000000 in
set_option maxRecDepth 100000 in
theorem c_X8_signum0 (l : Launch) (dC : Nat → ClassId) (dI : Nat → Nat → Nat) (A : Nat → Prop) (sz : Nat) (hA0 : ∀ q, sz ≤ q → A q) (h : Nat) (qa : Nat)  : Met l yX8_signum wd_X8_signum0 ({ frames := 10, cells := 0, slots := 0, locals := 200 }) (va_Pc [.ref h] (fun U => U.heap.size = sz ∧ va_P (dC, dI) vwCl [] U.heap ∧ va_K (dC, dI) vwCl [] U ∧ va_D A [] ∧ va_P (dC, dI) vwCl [(h, .inr (11, [.ref qa, .int (nI 0), .int (nI 0)]))] U.heap ∧ (∀ (k9 : Nat) (q9 : Nat × va_E), ([(h, .inr (11, [.ref qa, .int (nI 0), .int (nI 0)]))] : va_W)[k9]? = some q9 → ¬ A q9.1))) (va_Qi (fun (r : Int32) => fun (u : Unit) => match u with | () => r = nI 0) (at_X8_signum0 dC dI A h qa) A) (0) (0) A := by
  refine Met.ofW (cc := cX8_signum) (maxL := 1) (ret := (some .int)) (by decide) rfl ?_
  intro p e s m args below meth c s₁ B hml hv
  obtain ⟨rfl, hsz, hP, hK, hD, hRO, hROn⟩ := hv
  have hx := B.exec
  have hb := B.bytes
  have hr := B.returns
  have hts := atoms_spec (ws := wd_X8_signum0) B.pre
  have hown : s.vm.findClass RX8 = some m.cls := findClass_of_methodNamed B.named
  have hlocks := B.notSynchronized
  have bk0 : ∀ w ∈ u_ws RX8 TX8 3, w ∈ wd_X8_signum0 := fun _ h => List.mem_cons_of_mem _ (List.mem_append_right _ (List.mem_append_left _ h))
  subst hsz
  have hA : ∀ q : Nat, s.heap.size ≤ q → A q := hA0
  have hS : va_S A s.heap s.heap [] := va_S.rf
  have hl := lv_entry ([.ref h]) (n := 1) (Nat.le_of_ble_eq_true rfl)
  rw [lg_entry_eq]
  generalize (lg_sl ([.ref h]) ++ List.replicate (1 - (lg_sl ([.ref h])).length) Slot.unset).toArray = ls at hl ⊢
  have hl : lv_has ls 1 [(0, .ref h)] := hl
  refine lv_aload_n hx hb dX8_signum_0 rfl (lv_at hl 0 rfl) ?_
  refine va_get (D := (dC, dI)) (ci := 11) (v := .int (nI 0)) (C := RX8) (T := TX8) (N := 3) hx hb hts bk0 hown hK hRO 0 rfl rfl 1 (by decide) (hts (.fieldLink RX8 15 "GradientDesk$Whole" "size" "I") (List.mem_of_getElem? (i := 1) rfl)) (fun _ h9 => h9) rfl dX8_signum_1 ?_
  refine lv_if_ne (tgt := 9) hx hb dX8_signum_4 (by decide) (fun c_1 => absurd c_1 (by decide)) (fun c_1 => ?_)
  refine lv_iconst (v := nI 0) hx hb dX8_signum_7 (by decide +kernel) ?_
  have hP9 := hP.sub (ws' := []) [] rfl
  have hD9 := hD.sub (ws' := []) [] (by decide) rfl
  have hK9 := hK.sub (tys' := []) [] rfl
  refine W.widen (k := 0) (n := 0) (by omega) (by omega) ?_
  exact W.iret (v := nI 0) hx hb hr (fun t ht hW => ⟨⟨nI 0, (), rfl, rfl, by rw [ht]; exact hP9, va_K.moved hW.alike hK9, hD9⟩, hS.F ht⟩) hS.2.2 dX8_signum_8
def wd_J6_nlz1 : List Cond := .code yJ6_numberOfLeadingZeros_0f7a4 cJ6_numberOfLeadingZeros_0f7a4 2 (some .int) :: (([.constant RJ6 264 (65536)] : List Cond) ++ ([]))
theorem gw_J6_nlz1 : wd_J6_nlz1.all goodWord = true := k_allc rfl (k_all (by decide +kernel) (rfl))
abbrev at_J6_nlz1 (dC : Nat → ClassId) (dI : Nat → Nat → Nat) (A : Nat → Prop)  (u : Unit) (t : State) : Prop := match u with
  | () => va_P (dC, dI) vwCl [] t.heap ∧ va_K (dC, dI) vwCl [] t ∧ va_D A []
set_option maxHeartbeats 4000000 in
set_option maxRecDepth 100000 in
theorem c_J6_nlz1 (l : Launch) (dC : Nat → ClassId) (dI : Nat → Nat → Nat) (A : Nat → Prop) (sz : Nat) (hA0 : ∀ q, sz ≤ q → A q)   : Met l yJ6_numberOfLeadingZeros_0f7a4 wd_J6_nlz1 ({ frames := 10, cells := 0, slots := 0, locals := 200 }) (va_Pc [.int (nI 1)] (fun U => U.heap.size = sz ∧ va_P (dC, dI) vwCl [] U.heap ∧ va_K (dC, dI) vwCl [] U ∧ va_D A [])) (va_Qi (fun (r : Int32) => fun (u : Unit) => match u with | () => r = nI 31) (at_J6_nlz1 dC dI A ) A) (0) (0) A := by
  refine Met.ofW (cc := cJ6_numberOfLeadingZeros_0f7a4) (maxL := 2) (ret := (some .int)) (by decide) rfl ?_
  intro p e s m args below meth c s₁ B hml hv
  obtain ⟨rfl, hsz, hP, hK, hD⟩ := hv
  have hx := B.exec
  have hb := B.bytes
  have hr := B.returns
  have hts := atoms_spec (ws := wd_J6_nlz1) B.pre
  have hown : s.vm.findClass RJ6 = some m.cls := findClass_of_methodNamed B.named
  have hlocks := B.notSynchronized
  subst hsz
  have hA : ∀ q : Nat, s.heap.size ≤ q → A q := hA0
  have hS : va_S A s.heap s.heap [] := va_S.rf
  have hl := lv_entry ([.int (nI 1)]) (n := 2) (Nat.le_of_ble_eq_true rfl)
  rw [lg_entry_eq]
  generalize (lg_sl ([.int (nI 1)]) ++ List.replicate (2 - (lg_sl ([.int (nI 1)])).length) Slot.unset).toArray = ls at hl ⊢
  have hl : lv_has ls 2 [(0, .int (nI 1))] := hl
  refine lv_iload_n hx hb dJ6_numberOfLeadingZeros_0f7a4_0 rfl (lv_at hl 0 rfl) ?_
  refine lv_if_gt (tgt := 15) hx hb dJ6_numberOfLeadingZeros_0f7a4_1 (by decide) (fun c_1 => ?_) (fun c_1 => absurd c_1 (by decide))
  refine lv_bipush (v := nI 31) hx hb dJ6_numberOfLeadingZeros_0f7a4_15 (by decide +kernel) ?_
  refine lv_istore_n (lv' := [(1, .int (nI 31)), (0, .int (nI 1))]) hx hb dJ6_numberOfLeadingZeros_0f7a4_17 rfl hl (by decide) rfl (fun ls hl => ?_)
  refine lv_iload_n hx hb dJ6_numberOfLeadingZeros_0f7a4_18 rfl (lv_at hl 1 rfl) ?_
  refine lv_ldcw (v := 65536) hx hb hown (hts (.constant RJ6 264 (65536)) (List.mem_of_getElem? (i := 1) rfl)) dJ6_numberOfLeadingZeros_0f7a4_19 ?_
  refine lv_icmp_lt (tgt := 33) hx hb dJ6_numberOfLeadingZeros_0f7a4_22 (by decide) (fun c_2 => ?_) (fun c_2 => absurd c_2 (by decide))
  refine lv_iload_n hx hb dJ6_numberOfLeadingZeros_0f7a4_33 rfl (lv_at hl 1 rfl) ?_
  refine lv_sipush (v := nI 256) hx hb dJ6_numberOfLeadingZeros_0f7a4_34 (by decide +kernel) ?_
  refine lv_icmp_lt (tgt := 48) hx hb dJ6_numberOfLeadingZeros_0f7a4_37 (by decide) (fun c_3 => ?_) (fun c_3 => absurd c_3 (by decide))
  refine lv_iload_n hx hb dJ6_numberOfLeadingZeros_0f7a4_48 rfl (lv_at hl 1 rfl) ?_
  refine lv_bipush (v := nI 16) hx hb dJ6_numberOfLeadingZeros_0f7a4_49 (by decide +kernel) ?_
  refine lv_icmp_lt (tgt := 61) hx hb dJ6_numberOfLeadingZeros_0f7a4_51 (by decide) (fun c_4 => ?_) (fun c_4 => absurd c_4 (by decide))
  refine lv_iload_n hx hb dJ6_numberOfLeadingZeros_0f7a4_61 rfl (lv_at hl 1 rfl) ?_
  refine lv_iconst (v := nI 4) hx hb dJ6_numberOfLeadingZeros_0f7a4_62 (by decide +kernel) ?_
  refine lv_icmp_lt (tgt := 73) hx hb dJ6_numberOfLeadingZeros_0f7a4_63 (by decide) (fun c_5 => ?_) (fun c_5 => absurd c_5 (by decide))
  refine lv_iload_n hx hb dJ6_numberOfLeadingZeros_0f7a4_73 rfl (lv_at hl 0 rfl) ?_
  refine lv_iload_n hx hb dJ6_numberOfLeadingZeros_0f7a4_74 rfl (lv_at hl 1 rfl) ?_
  refine lv_iconst (v := nI 1) hx hb dJ6_numberOfLeadingZeros_0f7a4_75 (by decide +kernel) ?_
  refine lv_iushr hx hb dJ6_numberOfLeadingZeros_0f7a4_76 rfl ?_
  refine lv_topi (fun x_6 e_7 => ?_)
  obtain rfl : x_6 = nI 0 := e_7.trans (by decide)
  refine lv_isub hx hb dJ6_numberOfLeadingZeros_0f7a4_77 ?_
  refine lv_topi (fun x_8 e_9 => ?_)
  obtain rfl : x_8 = nI 31 := e_9.trans (pk_sub (show 0 ≤ 31 by omega))
  have hP9 := hP.sub (ws' := []) [] rfl
  have hD9 := hD.sub (ws' := []) [] (by decide) rfl
  have hK9 := hK.sub (tys' := []) [] rfl
  refine W.widen (k := 0) (n := 0) (by omega) (by omega) ?_
  exact W.iret (v := nI 31) hx hb hr (fun t ht hW => ⟨⟨nI 31, (), rfl, rfl, by rw [ht]; exact hP9, va_K.moved hW.alike hK9, hD9⟩, hS.F ht⟩) hS.2.2 dJ6_numberOfLeadingZeros_0f7a4_78
def wd_X8_bl0 : List Cond := .code yX8_bitLength cX8_bitLength 1 (some .int) :: (([.fieldLink RX8 15 "GradientDesk$Whole" "size" "I"] : List Cond) ++ (u_ws RX8 TX8 3 ++ ([])))
theorem gw_X8_bl0 : wd_X8_bl0.all goodWord = true := k_allc rfl (k_all (by decide +kernel) (k_all (gu_X8) (rfl)))
abbrev at_X8_bl0 (dC : Nat → ClassId) (dI : Nat → Nat → Nat) (A : Nat → Prop) (h : Nat) (qa : Nat) (u : Unit) (t : State) : Prop := match u with
  | () => va_P (dC, dI) vwCl [] t.heap ∧ va_K (dC, dI) vwCl [] t ∧ va_D A []
set_option maxHeartbeats 4000000 in
set_option maxRecDepth 100000 in
theorem c_X8_bl0 (l : Launch) (dC : Nat → ClassId) (dI : Nat → Nat → Nat) (A : Nat → Prop) (sz : Nat) (hA0 : ∀ q, sz ≤ q → A q) (h : Nat) (qa : Nat)  : Met l yX8_bitLength wd_X8_bl0 ({ frames := 10, cells := 0, slots := 0, locals := 200 }) (va_Pc [.ref h] (fun U => U.heap.size = sz ∧ va_P (dC, dI) vwCl [] U.heap ∧ va_K (dC, dI) vwCl [] U ∧ va_D A [] ∧ va_P (dC, dI) vwCl [(h, .inr (11, [.ref qa, .int (nI 0), .int (nI 0)]))] U.heap ∧ (∀ (k9 : Nat) (q9 : Nat × va_E), ([(h, .inr (11, [.ref qa, .int (nI 0), .int (nI 0)]))] : va_W)[k9]? = some q9 → ¬ A q9.1))) (va_Qi (fun (r : Int32) => fun (u : Unit) => match u with | () => r = nI 0) (at_X8_bl0 dC dI A h qa) A) (0) (0) A := by
  refine Met.ofW (cc := cX8_bitLength) (maxL := 1) (ret := (some .int)) (by decide) rfl ?_
  intro p e s m args below meth c s₁ B hml hv
  obtain ⟨rfl, hsz, hP, hK, hD, hRO, hROn⟩ := hv
  have hx := B.exec
  have hb := B.bytes
  have hr := B.returns
  have hts := atoms_spec (ws := wd_X8_bl0) B.pre
  have hown : s.vm.findClass RX8 = some m.cls := findClass_of_methodNamed B.named
  have hlocks := B.notSynchronized
  have bk0 : ∀ w ∈ u_ws RX8 TX8 3, w ∈ wd_X8_bl0 := fun _ h => List.mem_cons_of_mem _ (List.mem_append_right _ (List.mem_append_left _ h))
  subst hsz
  have hA : ∀ q : Nat, s.heap.size ≤ q → A q := hA0
  have hS : va_S A s.heap s.heap [] := va_S.rf
  have hl := lv_entry ([.ref h]) (n := 1) (Nat.le_of_ble_eq_true rfl)
  rw [lg_entry_eq]
  generalize (lg_sl ([.ref h]) ++ List.replicate (1 - (lg_sl ([.ref h])).length) Slot.unset).toArray = ls at hl ⊢
  have hl : lv_has ls 1 [(0, .ref h)] := hl
  refine lv_aload_n hx hb dX8_bitLength_0 rfl (lv_at hl 0 rfl) ?_
  refine va_get (D := (dC, dI)) (ci := 11) (v := .int (nI 0)) (C := RX8) (T := TX8) (N := 3) hx hb hts bk0 hown hK hRO 0 rfl rfl 1 (by decide) (hts (.fieldLink RX8 15 "GradientDesk$Whole" "size" "I") (List.mem_of_getElem? (i := 1) rfl)) (fun _ h9 => h9) rfl dX8_bitLength_1 ?_
  refine lv_if_ne (tgt := 11) hx hb dX8_bitLength_4 (by decide) (fun c_1 => absurd c_1 (by decide)) (fun c_1 => ?_)
  refine lv_iconst (v := nI 0) hx hb dX8_bitLength_7 (by decide +kernel) ?_
  refine lv_goto (tgt := 33) hx hb dX8_bitLength_8 (by decide) ?_
  have hP9 := hP.sub (ws' := []) [] rfl
  have hD9 := hD.sub (ws' := []) [] (by decide) rfl
  have hK9 := hK.sub (tys' := []) [] rfl
  refine W.widen (k := 0) (n := 0) (by omega) (by omega) ?_
  exact W.iret (v := nI 0) hx hb hr (fun t ht hW => ⟨⟨nI 0, (), rfl, rfl, by rw [ht]; exact hP9, va_K.moved hW.alike hK9, hD9⟩, hS.F ht⟩) hS.2.2 dX8_bitLength_33
def wd_X8_bl1 : List Cond := .code yX8_bitLength cX8_bitLength 1 (some .int) :: (([.fieldLink RX8 15 "GradientDesk$Whole" "size" "I", .fieldLink RX8 9 "GradientDesk$Whole" "words" "[I", .methodLink RX8 39 yJ6_numberOfLeadingZeros_0f7a4, .static yJ6_numberOfLeadingZeros_0f7a4, .initialized RJ6] : List Cond) ++ (u_ws RX8 TX8 3 ++ (wd_J6_nlz1 ++ ([]))))
theorem gw_X8_bl1 : wd_X8_bl1.all goodWord = true := k_allc rfl (k_all (by decide +kernel) (k_all (gu_X8) (k_all (gw_J6_nlz1) (rfl))))
abbrev at_X8_bl1 (dC : Nat → ClassId) (dI : Nat → Nat → Nat) (A : Nat → Prop) (h : Nat) (qa : Nat) (cA : ClassId) (n : Nat) (f : Nat → Int32) (u : Unit) (t : State) : Prop := match u with
  | () => va_P (dC, dI) vwCl [] t.heap ∧ va_K (dC, dI) vwCl [] t ∧ va_D A []
set_option maxHeartbeats 4000000 in
set_option maxRecDepth 100000 in
theorem c_X8_bl1 (l : Launch) (dC : Nat → ClassId) (dI : Nat → Nat → Nat) (A : Nat → Prop) (sz : Nat) (hA0 : ∀ q, sz ≤ q → A q) (h : Nat) (qa : Nat) (cA : ClassId) (n : Nat) (f : Nat → Int32) (hn : n ≤ 4096) (hn2 : 2 ≤ n) (hf : f 0 = nI 1) : Met l yX8_bitLength wd_X8_bl1 ({ frames := 20, cells := 0, slots := 0, locals := 400 }) (va_Pc [.ref h] (fun U => U.heap.size = sz ∧ va_P (dC, dI) vwCl [] U.heap ∧ va_K (dC, dI) vwCl [(cA, .int)] U ∧ va_D A [] ∧ va_P (dC, dI) vwCl [(h, .inr (11, [.ref qa, .int (nI 1), .int (nI 0)])), (qa, .inl (cA, n, .inl f))] U.heap ∧ (∀ (k9 : Nat) (q9 : Nat × va_E), ([(h, .inr (11, [.ref qa, .int (nI 1), .int (nI 0)])), (qa, .inl (cA, n, .inl f))] : va_W)[k9]? = some q9 → ¬ A q9.1))) (va_Qi (fun (r : Int32) => fun (u : Unit) => match u with | () => r = nI 1) (at_X8_bl1 dC dI A h qa cA n f) A) (0) (0) A := by
  refine Met.ofW (cc := cX8_bitLength) (maxL := 1) (ret := (some .int)) (by decide) rfl ?_
  intro p e s m args below meth c s₁ B hml hv
  obtain ⟨rfl, hsz, hP, hK, hD, hRO, hROn⟩ := hv
  have hx := B.exec
  have hb := B.bytes
  have hr := B.returns
  have hts := atoms_spec (ws := wd_X8_bl1) B.pre
  have hown : s.vm.findClass RX8 = some m.cls := findClass_of_methodNamed B.named
  have hlocks := B.notSynchronized
  have bk0 : ∀ w ∈ u_ws RX8 TX8 3, w ∈ wd_X8_bl1 := fun _ h => List.mem_cons_of_mem _ (List.mem_append_right _ (List.mem_append_left _ h))
  have bk1 : ∀ w ∈ wd_J6_nlz1, w ∈ wd_X8_bl1 := fun _ h => List.mem_cons_of_mem _ (List.mem_append_right _ (List.mem_append_right _ (List.mem_append_left _ h)))
  subst hsz
  have hA : ∀ q : Nat, s.heap.size ≤ q → A q := hA0
  have hS : va_S A s.heap s.heap [] := va_S.rf
  have hl := lv_entry ([.ref h]) (n := 1) (Nat.le_of_ble_eq_true rfl)
  rw [lg_entry_eq]
  generalize (lg_sl ([.ref h]) ++ List.replicate (1 - (lg_sl ([.ref h])).length) Slot.unset).toArray = ls at hl ⊢
  have hl : lv_has ls 1 [(0, .ref h)] := hl
  refine lv_aload_n hx hb dX8_bitLength_0 rfl (lv_at hl 0 rfl) ?_
  refine va_get (D := (dC, dI)) (ci := 11) (v := .int (nI 1)) (C := RX8) (T := TX8) (N := 3) hx hb hts bk0 hown hK hRO 0 rfl rfl 1 (by decide) (hts (.fieldLink RX8 15 "GradientDesk$Whole" "size" "I") (List.mem_of_getElem? (i := 1) rfl)) (fun _ h9 => h9) rfl dX8_bitLength_1 ?_
  refine lv_if_ne (tgt := 11) hx hb dX8_bitLength_4 (by decide) (fun c_1 => ?_) (fun c_1 => absurd c_1 (by decide))
  refine lv_bipush (v := nI 32) hx hb dX8_bitLength_11 (by decide +kernel) ?_
  refine lv_aload_n hx hb dX8_bitLength_13 rfl (lv_at hl 0 rfl) ?_
  refine va_get (D := (dC, dI)) (ci := 11) (v := .int (nI 1)) (C := RX8) (T := TX8) (N := 3) hx hb hts bk0 hown hK hRO 0 rfl rfl 1 (by decide) (hts (.fieldLink RX8 15 "GradientDesk$Whole" "size" "I") (List.mem_of_getElem? (i := 1) rfl)) (fun _ h9 => h9) rfl dX8_bitLength_14 ?_
  refine lv_imul hx hb dX8_bitLength_17 ?_
  refine lv_topi (fun x_2 e_3 => ?_)
  obtain rfl : x_2 = nI 32 := e_3.trans (pk_mul 32 1)
  refine lv_aload_n hx hb dX8_bitLength_18 rfl (lv_at hl 0 rfl) ?_
  refine va_get (D := (dC, dI)) (ci := 11) (v := .ref qa) (C := RX8) (T := TX8) (N := 3) hx hb hts bk0 hown hK hRO 0 rfl rfl 0 (by decide) (hts (.fieldLink RX8 9 "GradientDesk$Whole" "words" "[I") (List.mem_of_getElem? (i := 2) rfl)) (fun _ h9 => h9) rfl dX8_bitLength_19 ?_
  refine lv_aload_n hx hb dX8_bitLength_22 rfl (lv_at hl 0 rfl) ?_
  refine va_get (D := (dC, dI)) (ci := 11) (v := .int (nI 1)) (C := RX8) (T := TX8) (N := 3) hx hb hts bk0 hown hK hRO 0 rfl rfl 1 (by decide) (hts (.fieldLink RX8 15 "GradientDesk$Whole" "size" "I") (List.mem_of_getElem? (i := 1) rfl)) (fun _ h9 => h9) rfl dX8_bitLength_23 ?_
  refine lv_iconst (v := nI 1) hx hb dX8_bitLength_26 (by decide +kernel) ?_
  refine lv_isub hx hb dX8_bitLength_27 ?_
  refine lv_topi (fun x_4 e_5 => ?_)
  obtain rfl : x_4 = nI 0 := e_5.trans (pk_sub (show 1 ≤ 1 by omega))
  refine va_iald hx hb hK hRO 1 0 rfl rfl (vp_in_nI (show 0 < n by omega) (by omega)) dX8_bitLength_28 ?_
  refine lv_topi (fun x_6 e_7 => ?_)
  rw [nI_clamp (show 0 < 2 ^ 31 by decide)] at e_7
  obtain rfl : x_6 = nI 1 := e_7.trans hf
  have hPc := hP.sub (ws' := []) [] rfl
  have hDc := hD.sub (ws' := []) [] (by decide) rfl
  have hKc := hK.sub (tys' := []) [] rfl
  have hFc := va_free (wc := []) hD hS hA [] rfl
  refine va_calli (va_runS (As := [.int (nI 1)]) (rest := [.int (nI 32)]) ⟨hx, hb, hml, hown, hts⟩ (c_J6_nlz1 l dC dI (va_A [] s.heap.size) s.heap.size (fun _ h => Or.inr h)  ) (va_cwS 1 hts (goodIn_app (goodIn_r [Cond.methodLink RX8 39 yJ6_numberOfLeadingZeros_0f7a4, Cond.static yJ6_numberOfLeadingZeros_0f7a4, Cond.initialized RJ6] [3, 4, 5] rfl rfl) (goodIn_sub (fun w9 h9 => bk1 w9 h9) gw_J6_nlz1)) rfl rfl rfl (by decide +kernel) ⟨Nat.le_of_ble_eq_true rfl, Nat.le_of_ble_eq_true rfl⟩) ⟨fun a U g mk q => by obtain ⟨q0, q1, qP, qK, qD⟩ := q; exact ⟨q0, q1, qP, va_K.moved (u := U) (U := U.calling g mk a) (Vm.Alike.refl U.vm) qK, qD⟩, fun U hU hW => ⟨rfl, by rw [hU], by rw [hU]; exact hPc, va_K.moved hW.alike hKc, hDc.self⟩⟩ rfl rfl hl.1 rfl (lv_room (Nat.le_of_ble_eq_true rfl)) dX8_bitLength_29 ⟨(Nat.le_of_ble_eq_true rfl), (Nat.le_of_ble_eq_true rfl)⟩) hS (fun q _ h => hFc q h) hFc (fun r_8 u t H1 locs ht hvm hw_9 hB hz1 hk1 hS => ?_)
  obtain ⟨⟩ := u
  obtain ⟨hP1, hK1, hD1⟩ := hB
  rw [ht] at hP1
  have hK1 := va_K.moved hvm.symm hK1
  try dsimp only at hw_9
  obtain ⟨hP, hD⟩ := va_join (wr := []) (w1 := []) hP hD [] [] rfl rfl (by decide) (by decide) hk1 hFc hP1 hD1
  have hK := (hK.sub (tys' := [(cA, .int)]) [0] rfl).app hK1
  generalize H1 = H at hP hS ⊢
  have hP : va_P (dC, dI) vwCl ([]) H := hP
  have hD : va_D A ([]) := hD
  have hK : va_K (dC, dI) vwCl [(cA, .int)] s := hK
  obtain rfl : r_8 = nI 31 := hw_9
  refine lv_isub hx hb dX8_bitLength_32 ?_
  refine lv_topi (fun x_10 e_11 => ?_)
  obtain rfl : x_10 = nI 1 := e_11.trans (pk_sub (show 31 ≤ 32 by omega))
  have hP9 := hP.sub (ws' := []) [] rfl
  have hD9 := hD.sub (ws' := []) [] (by decide) rfl
  have hK9 := hK.sub (tys' := []) [] rfl
  refine W.widen (k := 0) (n := 0) (by omega) (by omega) ?_
  exact W.iret (v := nI 1) hx hb hr (fun t ht hW => ⟨⟨nI 1, (), rfl, rfl, by rw [ht]; exact hP9, va_K.moved hW.alike hK9, hD9⟩, hS.F ht⟩) hS.2.2 dX8_bitLength_33
def wd_X9_isLong : List Cond := .code yX9_isLong cX9_isLong 1 (some .boolean) :: (([.fieldLink RX9 222 "GradientDesk$Fraction" "top" "LGradientDesk$Whole;", .methodLink RX9 238 yX8_bitLength, .instanceMethod yX8_bitLength, .selects RX8 yX8_bitLength yX8_bitLength, .initialized RX8, .fieldLink RX9 262 "GradientDesk$Fraction" "bottom" "LGradientDesk$Whole;"] : List Cond) ++ (u_ws RX2 TX2 2 ++ (wd_X8_bl0 ++ (wd_X8_bl1 ++ ([])))))
theorem gw_X9_isLong : wd_X9_isLong.all goodWord = true := k_allc rfl (k_all (by decide +kernel) (k_all (gu_X2) (k_all (gw_X8_bl0) (k_all (gw_X8_bl1) (rfl)))))
abbrev at_X9_isLong (dC : Nat → ClassId) (dI : Nat → Nat → Nat) (A : Nat → Prop) (a : Nat) (qt : Nat) (qta : Nat) (ct : ClassId) (qb : Nat) (qba : Nat) (cb : ClassId) (u : Unit) (t : State) : Prop := match u with
  | () => va_P (dC, dI) vwCl [] t.heap ∧ va_K (dC, dI) vwCl [] t ∧ va_D A []
set_option maxHeartbeats 4000000 in
set_option maxRecDepth 100000 in
theorem c_X9_isLong (l : Launch) (dC : Nat → ClassId) (dI : Nat → Nat → Nat) (A : Nat → Prop) (sz : Nat) (hA0 : ∀ q, sz ≤ q → A q) (a : Nat) (qt : Nat) (qta : Nat) (ct : ClassId) (qb : Nat) (qba : Nat) (cb : ClassId)  : Met l yX9_isLong wd_X9_isLong ({ frames := 30, cells := 0, slots := 0, locals := 600 }) (va_Pc [.ref a] (fun U => U.heap.size = sz ∧ va_P (dC, dI) vwCl [] U.heap ∧ va_K (dC, dI) vwCl [(ct, .int), (cb, .int)] U ∧ va_D A [] ∧ va_P (dC, dI) vwCl [(a, .inr (5, [.ref qt, .ref qb])), (qt, .inr (11, [.ref qta, .int (nI 0), .int (nI 0)])), (qta, .inl (ct, 64, .inl (fun _ => 0))), (qb, .inr (11, [.ref qba, .int (nI 1), .int (nI 0)])), (qba, .inl (cb, 64, .inl (upd (fun _ => 0) 0 (nI 1))))] U.heap ∧ (∀ (k9 : Nat) (q9 : Nat × va_E), ([(a, .inr (5, [.ref qt, .ref qb])), (qt, .inr (11, [.ref qta, .int (nI 0), .int (nI 0)])), (qta, .inl (ct, 64, .inl (fun _ => 0))), (qb, .inr (11, [.ref qba, .int (nI 1), .int (nI 0)])), (qba, .inl (cb, 64, .inl (upd (fun _ => 0) 0 (nI 1))))] : va_W)[k9]? = some q9 → ¬ A q9.1))) (va_Qi (fun (r : Int32) => fun (u : Unit) => match u with | () => r = nI 0) (at_X9_isLong dC dI A a qt qta ct qb qba cb) A) (0) (0) A := by
  refine Met.ofW (cc := cX9_isLong) (maxL := 1) (ret := (some .boolean)) (by decide) rfl ?_
  intro p e s m args below meth c s₁ B hml hv
  obtain ⟨rfl, hsz, hP, hK, hD, hRO, hROn⟩ := hv
  have hx := B.exec
  have hb := B.bytes
  have hr := B.returns
  have hts := atoms_spec (ws := wd_X9_isLong) B.pre
  have hown : s.vm.findClass RX9 = some m.cls := findClass_of_methodNamed B.named
  have hlocks := B.notSynchronized
  have bk0 : ∀ w ∈ u_ws RX2 TX2 2, w ∈ wd_X9_isLong := fun _ h => List.mem_cons_of_mem _ (List.mem_append_right _ (List.mem_append_left _ h))
  have bk1 : ∀ w ∈ wd_X8_bl0, w ∈ wd_X9_isLong := fun _ h => List.mem_cons_of_mem _ (List.mem_append_right _ (List.mem_append_right _ (List.mem_append_left _ h)))
  have bk2 : ∀ w ∈ wd_X8_bl1, w ∈ wd_X9_isLong := fun _ h => List.mem_cons_of_mem _ (List.mem_append_right _ (List.mem_append_right _ (List.mem_append_right _ (List.mem_append_left _ h))))
  subst hsz
  have hA : ∀ q : Nat, s.heap.size ≤ q → A q := hA0
  have hS : va_S A s.heap s.heap [] := va_S.rf
  have hl := lv_entry ([.ref a]) (n := 1) (Nat.le_of_ble_eq_true rfl)
  rw [lg_entry_eq]
  generalize (lg_sl ([.ref a]) ++ List.replicate (1 - (lg_sl ([.ref a])).length) Slot.unset).toArray = ls at hl ⊢
  have hl : lv_has ls 1 [(0, .ref a)] := hl
  refine lv_aload_n hx hb dX9_isLong_0 rfl (lv_at hl 0 rfl) ?_
  refine va_get (D := (dC, dI)) (ci := 5) (v := .ref qt) (C := RX2) (T := TX2) (N := 2) hx hb hts bk0 hown hK hRO 0 rfl rfl 0 (by decide) (hts (.fieldLink RX9 222 "GradientDesk$Fraction" "top" "LGradientDesk$Whole;") (List.mem_of_getElem? (i := 1) rfl)) (fun _ h9 => h9) rfl dX9_isLong_1 ?_
  have hPc := hP.sub (ws' := []) [] rfl
  have hDc := hD.sub (ws' := []) [] (by decide) rfl
  have hKc := hK.sub (tys' := []) [] rfl
  have hFc := va_free (wc := []) hD hS hA [] rfl
  have hPr : va_P (dC, dI) vwCl [(qt, .inr (11, [.ref qta, .int (nI 0), .int (nI 0)]))] s.heap := k_Pc (hRO 1 _ rfl) (k_Pn)
  have hNr : ∀ (k9 : Nat) (q9 : Nat × va_E), ([(qt, .inr (11, [.ref qta, .int (nI 0), .int (nI 0)]))] : va_W)[k9]? = some q9 → ¬ va_A [] s.heap.size q9.1 := k_Nc (fun hh => hROn 1 _ rfl (hFc _ hh)) (k_Nn)
  refine va_calli (va_runV (As := []) (rest := []) ⟨hx, hb, hml, hown, hts⟩ (c_X8_bl0 l dC dI (va_A [] s.heap.size) s.heap.size (fun _ h => Or.inr h) qt qta ) (cwV 0 hts (goodIn_app (goodIn_r [Cond.methodLink RX9 238 yX8_bitLength, Cond.instanceMethod yX8_bitLength, Cond.selects RX8 yX8_bitLength yX8_bitLength, Cond.initialized RX8] [2, 3, 4, 5] rfl rfl) (goodIn_sub (fun w9 h9 => bk1 w9 h9) gw_X8_bl0)) rfl rfl rfl (by decide +kernel) ⟨Nat.le_of_ble_eq_true rfl, Nat.le_of_ble_eq_true rfl⟩) ⟨fun a U g mk q => by obtain ⟨q0, q1, qP, qK, qD, qR, qN⟩ := q; exact ⟨q0, q1, qP, va_K.moved (u := U) (U := U.calling g mk a) (Vm.Alike.refl U.vm) qK, qD, qR, qN⟩, va_recv hKc hPr (ci := 11) (q0 := 0) rfl rfl, fun U hU hW => ⟨rfl, by rw [hU], by rw [hU]; exact hPc, va_K.moved hW.alike hKc, hDc.self, by rw [hU]; exact hPr, hNr⟩⟩ rfl rfl hl.1 rfl (lv_room (Nat.le_of_ble_eq_true rfl)) dX9_isLong_4 ⟨(Nat.le_of_ble_eq_true rfl), (Nat.le_of_ble_eq_true rfl)⟩) hS (fun q _ h => hFc q h) hFc (fun r_1 u t H1 locs ht hvm hw_2 hB hz1 hk1 hS => ?_)
  obtain ⟨⟩ := u
  obtain ⟨hP1, hK1, hD1⟩ := hB
  rw [ht] at hP1
  have hK1 := va_K.moved hvm.symm hK1
  try dsimp only at hw_2
  obtain ⟨hP, hD⟩ := va_join (wr := []) (w1 := []) hP hD [] [] rfl rfl (by decide) (by decide) hk1 hFc hP1 hD1
  have hK := (hK.sub (tys' := [(ct, .int), (cb, .int)]) [0, 1] rfl).app hK1
  generalize H1 = H at hP hS ⊢
  have hP : va_P (dC, dI) vwCl ([]) H := hP
  have hD : va_D A ([]) := hD
  have hK : va_K (dC, dI) vwCl [(ct, .int), (cb, .int)] s := hK
  obtain rfl : r_1 = nI 0 := hw_2
  refine lv_sipush (v := nI 1000) hx hb dX9_isLong_7 (by decide +kernel) ?_
  refine lv_icmp_gt (tgt := 26) hx hb dX9_isLong_10 (by decide) (fun c_3 => absurd c_3 (by decide)) (fun c_3 => ?_)
  refine lv_aload_n hx hb dX9_isLong_13 rfl (lv_at hl 0 rfl) ?_
  have hRO9 : va_P (dC, dI) vwCl [(a, .inr (5, [.ref qt, .ref qb])), (qt, .inr (11, [.ref qta, .int (nI 0), .int (nI 0)])), (qta, .inl (ct, 64, .inl (fun _ => 0))), (qb, .inr (11, [.ref qba, .int (nI 1), .int (nI 0)])), (qba, .inl (cb, 64, .inl (upd (fun _ => 0) 0 (nI 1))))] H := hRO.kept (fun k9 q9 h9 => hS.2.1 q9.1 (hRO k9 q9 h9).lt (hROn k9 q9 h9))
  refine va_get (D := (dC, dI)) (ci := 5) (v := .ref qb) (C := RX2) (T := TX2) (N := 2) hx hb hts bk0 hown hK hRO9 0 rfl rfl 1 (by decide) (hts (.fieldLink RX9 262 "GradientDesk$Fraction" "bottom" "LGradientDesk$Whole;") (List.mem_of_getElem? (i := 6) rfl)) (fun _ h9 => h9) rfl dX9_isLong_14 ?_
  have hPc := hP.sub (ws' := []) [] rfl
  have hDc := hD.sub (ws' := []) [] (by decide) rfl
  have hKc := hK.sub (tys' := [(cb, .int)]) [1] rfl
  have hFc := va_free (wc := []) hD hS hA [] rfl
  have hRO9 : va_P (dC, dI) vwCl [(a, .inr (5, [.ref qt, .ref qb])), (qt, .inr (11, [.ref qta, .int (nI 0), .int (nI 0)])), (qta, .inl (ct, 64, .inl (fun _ => 0))), (qb, .inr (11, [.ref qba, .int (nI 1), .int (nI 0)])), (qba, .inl (cb, 64, .inl (upd (fun _ => 0) 0 (nI 1))))] H := hRO.kept (fun k9 q9 h9 => hS.2.1 q9.1 (hRO k9 q9 h9).lt (hROn k9 q9 h9))
  have hRO9 : va_P (dC, dI) vwCl [(a, .inr (5, [.ref qt, .ref qb])), (qt, .inr (11, [.ref qta, .int (nI 0), .int (nI 0)])), (qta, .inl (ct, 64, .inl (fun _ => 0))), (qb, .inr (11, [.ref qba, .int (nI 1), .int (nI 0)])), (qba, .inl (cb, 64, .inl (upd (fun _ => 0) 0 (nI 1))))] H := hRO.kept (fun k9 q9 h9 => hS.2.1 q9.1 (hRO k9 q9 h9).lt (hROn k9 q9 h9))
  have hPr : va_P (dC, dI) vwCl [(qb, .inr (11, [.ref qba, .int (nI 1), .int (nI 0)])), (qba, .inl (cb, 64, .inl (upd (fun _ => 0) 0 (nI 1))))] H := k_Pc (hRO9 3 _ rfl) (k_Pc (hRO9 4 _ rfl) (k_Pn))
  have hNr : ∀ (k9 : Nat) (q9 : Nat × va_E), ([(qb, .inr (11, [.ref qba, .int (nI 1), .int (nI 0)])), (qba, .inl (cb, 64, .inl (upd (fun _ => 0) 0 (nI 1))))] : va_W)[k9]? = some q9 → ¬ va_A [] H.size q9.1 := k_Nc (fun hh => hROn 3 _ rfl (hFc _ hh)) (k_Nc (fun hh => hROn 4 _ rfl (hFc _ hh)) (k_Nn))
  refine va_calli (va_runV (As := []) (rest := []) ⟨hx, hb, hml, hown, hts⟩ (c_X8_bl1 l dC dI (va_A [] H.size) H.size (fun _ h => Or.inr h) qb qba cb 64 (upd (fun _ => 0) 0 (nI 1)) (by decide) (by decide) rfl) (cwV 0 hts (goodIn_app (goodIn_r [Cond.methodLink RX9 238 yX8_bitLength, Cond.instanceMethod yX8_bitLength, Cond.selects RX8 yX8_bitLength yX8_bitLength, Cond.initialized RX8] [2, 3, 4, 5] rfl rfl) (goodIn_sub (fun w9 h9 => bk2 w9 h9) gw_X8_bl1)) rfl rfl rfl (by decide +kernel) ⟨Nat.le_of_ble_eq_true rfl, Nat.le_of_ble_eq_true rfl⟩) ⟨fun a U g mk q => by obtain ⟨q0, q1, qP, qK, qD, qR, qN⟩ := q; exact ⟨q0, q1, qP, va_K.moved (u := U) (U := U.calling g mk a) (Vm.Alike.refl U.vm) qK, qD, qR, qN⟩, va_recv hKc hPr (ci := 11) (q0 := 0) rfl rfl, fun U hU hW => ⟨rfl, by rw [hU], by rw [hU]; exact hPc, va_K.moved hW.alike hKc, hDc.self, by rw [hU]; exact hPr, hNr⟩⟩ rfl rfl hl.1 rfl (lv_room (Nat.le_of_ble_eq_true rfl)) dX9_isLong_17 ⟨(Nat.le_of_ble_eq_true rfl), (Nat.le_of_ble_eq_true rfl)⟩) hS (fun q _ h => hFc q h) hFc (fun r_4 u t H1 locs ht hvm hw_5 hB hz1 hk1 hS => ?_)
  obtain ⟨⟩ := u
  obtain ⟨hP1, hK1, hD1⟩ := hB
  rw [ht] at hP1
  have hK1 := va_K.moved hvm.symm hK1
  try dsimp only at hw_5
  obtain ⟨hP, hD⟩ := va_join (wr := []) (w1 := []) hP hD [] [] rfl rfl (by decide) (by decide) hk1 hFc hP1 hD1
  have hK := (hK.sub (tys' := [(ct, .int), (cb, .int)]) [0, 1] rfl).app hK1
  generalize H1 = H at hP hS ⊢
  have hP : va_P (dC, dI) vwCl ([]) H := hP
  have hD : va_D A ([]) := hD
  have hK : va_K (dC, dI) vwCl [(ct, .int), (cb, .int)] s := hK
  obtain rfl : r_4 = nI 1 := hw_5
  refine lv_sipush (v := nI 1000) hx hb dX9_isLong_20 (by decide +kernel) ?_
  refine lv_icmp_le (tgt := 30) hx hb dX9_isLong_23 (by decide) (fun c_6 => ?_) (fun c_6 => absurd c_6 (by decide))
  refine lv_iconst (v := nI 0) hx hb dX9_isLong_30 (by decide +kernel) ?_
  have hP9 := hP.sub (ws' := []) [] rfl
  have hD9 := hD.sub (ws' := []) [] (by decide) rfl
  have hK9 := hK.sub (tys' := []) [] rfl
  refine W.widen (k := 0) (n := 0) (by omega) (by omega) ?_
  exact W.zret (v := nI 0) hx hb hr (by decide +kernel) (fun t ht hW => ⟨⟨nI 0, (), rfl, rfl, by rw [ht]; exact hP9, va_K.moved hW.alike hK9, hD9⟩, hS.F ht⟩) hS.2.2 dX9_isLong_31
