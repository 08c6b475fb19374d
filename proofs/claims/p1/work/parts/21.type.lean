def wd_X9_byteOf : List Cond := .code yX9_byteOf cX9_byteOf 3 (some .int) :: (([] : List Cond) ++ ([]))
theorem gw_X9_byteOf : wd_X9_byteOf.all goodWord = true := k_allc rfl (k_all (by decide +kernel) (rfl))
abbrev at_X9_byteOf (dC : Nat → ClassId) (dI : Nat → Nat → Nat) (A : Nat → Prop) (w : Int64) (i : Nat) (u : Unit) (t : State) : Prop := match u with
  | () => va_P (dC, dI) vwCl [] t.heap ∧ va_K (dC, dI) vwCl [] t ∧ va_D A []
set_option maxHeartbeats 4000000 in
set_option maxRecDepth 100000 in
theorem c_X9_byteOf (l : Launch) (dC : Nat → ClassId) (dI : Nat → Nat → Nat) (A : Nat → Prop) (sz : Nat) (hA0 : ∀ q, sz ≤ q → A q) (w : Int64) (i : Nat) (hi : i < 8) : Met l yX9_byteOf wd_X9_byteOf ({ frames := 10, cells := 0, slots := 0, locals := 200 }) (va_Pc [.long w, .int (nI i)] (fun U => U.heap.size = sz ∧ va_P (dC, dI) vwCl [] U.heap ∧ va_K (dC, dI) vwCl [] U ∧ va_D A [])) (va_Qi (fun (r : Int32) => fun (u : Unit) => match u with | () => r = nI (byt w i)) (at_X9_byteOf dC dI A w i) A) (0) (0) A := by
  refine Met.ofW (cc := cX9_byteOf) (maxL := 3) (ret := (some .int)) (by decide) rfl ?_
  intro p e s m args below meth c s₁ B hml hv
  obtain ⟨rfl, hsz, hP, hK, hD⟩ := hv
  have hx := B.exec
  have hb := B.bytes
  have hr := B.returns
  have hts := atoms_spec (ws := wd_X9_byteOf) B.pre
  have hown : s.vm.findClass RX9 = some m.cls := findClass_of_methodNamed B.named
  have hlocks := B.notSynchronized
  subst hsz
  have hA : ∀ q : Nat, s.heap.size ≤ q → A q := hA0
  have hS : va_S A s.heap s.heap [] := va_S.rf
  have hl := lv_entry ([.long w, .int (nI i)]) (n := 3) (Nat.le_of_ble_eq_true rfl)
  rw [lg_entry_eq]
  generalize (lg_sl ([.long w, .int (nI i)]) ++ List.replicate (3 - (lg_sl ([.long w, .int (nI i)])).length) Slot.unset).toArray = ls at hl ⊢
  have hl : lv_has ls 3 [(0, .long w), (2, .int (nI i))] := hl
  refine lv_lload_n hx hb dX9_byteOf_0 rfl (lv_at hl 0 rfl) ?_
  refine lv_bipush (v := nI 8) hx hb dX9_byteOf_1 (by decide +kernel) ?_
  refine lv_iload_n hx hb dX9_byteOf_3 rfl (lv_at hl 1 rfl) ?_
  refine lv_imul hx hb dX9_byteOf_4 ?_
  refine lv_topi (fun x_1 e_2 => ?_)
  obtain rfl : x_1 = nI (8 * i) := e_2.trans (pk_mul 8 i)
  refine lv_lushr hx hb dX9_byteOf_5 rfl ?_
  refine lv_topl (fun y_3 e_4 => ?_)
  refine lv_l2i hx hb dX9_byteOf_6 rfl ?_
  refine lv_topi (fun x_5 e_6 => ?_)
  refine lv_sipush (v := nI 255) hx hb dX9_byteOf_7 (by decide +kernel) ?_
  refine lv_iand hx hb dX9_byteOf_10 ?_
  refine lv_topi (fun x_7 e_8 => ?_)
  have hP9 := hP.sub (ws' := []) [] rfl
  have hD9 := hD.sub (ws' := []) [] (by decide) rfl
  have hK9 := hK.sub (tys' := []) [] rfl
  refine W.widen (k := 0) (n := 0) (by omega) (by omega) ?_
  exact W.iret (v := x_7) hx hb hr (fun t ht hW => ⟨⟨x_7, (), rfl, (by rw [e_8, e_6, e_4]; exact k_byteC w hi), by rw [ht]; exact hP9, va_K.moved hW.alike hK9, hD9⟩, hS.F ht⟩) hS.2.2 dX9_byteOf_11
def wd_X7_append : List Cond := .code yX7_append cX7_append 2 none :: (([.fieldLink RX7 15 "GradientDesk$Text" "length" "I", .fieldLink RX7 9 "GradientDesk$Text" "letters" "[C"] : List Cond) ++ (u_ws RX7 TX7 5 ++ ([])))
theorem gw_X7_append : wd_X7_append.all goodWord = true := k_allc rfl (k_all (by decide +kernel) (k_all (gu_X7) (rfl)))
abbrev at_X7_append (dC : Nat → ClassId) (dI : Nat → Nat → Nat) (A : Nat → Prop) (tx : Nat) (la : Nat) (cA : ClassId) (tn : Nat) (f : Nat → Int32) (ch : Int32) (u : Nat → Int32) (t : State) : Prop := match u with
  | f2 => va_P (dC, dI) vwCl [(tx, .inr (10, [.ref la, .int (nI (tn + 1)), .int (nI 0), .int (nI 0), .int (nI 0)])), (la, .inl (cA, 64, .inl f2))] t.heap ∧ va_K (dC, dI) vwCl [(cA, .char)] t ∧ va_D A [(tx, .inr (10, [.ref la, .int (nI (tn + 1)), .int (nI 0), .int (nI 0), .int (nI 0)])), (la, .inl (cA, 64, .inl f2))]
set_option maxHeartbeats 4000000 in
set_option maxRecDepth 100000 in
theorem c_X7_append (l : Launch) (dC : Nat → ClassId) (dI : Nat → Nat → Nat) (A : Nat → Prop) (sz : Nat) (hA0 : ∀ q, sz ≤ q → A q) (tx : Nat) (la : Nat) (cA : ClassId) (tn : Nat) (f : Nat → Int32) (ch : Int32) (ht9 : tn < 64) : Met l yX7_append wd_X7_append ({ frames := 10, cells := 0, slots := 0, locals := 200 }) (va_Pc [.ref tx, .int ch] (fun U => U.heap.size = sz ∧ va_P (dC, dI) vwCl [(tx, .inr (10, [.ref la, .int (nI tn), .int (nI 0), .int (nI 0), .int (nI 0)])), (la, .inl (cA, 64, .inl f))] U.heap ∧ va_K (dC, dI) vwCl [(cA, .char)] U ∧ va_D A [(tx, .inr (10, [.ref la, .int (nI tn), .int (nI 0), .int (nI 0), .int (nI 0)])), (la, .inl (cA, 64, .inl f))])) (va_Qv (fun (u : Nat → Int32) => match u with | f2 => True) (at_X7_append dC dI A tx la cA tn f ch) A) (0) (0) A := by
  refine Met.ofW (cc := cX7_append) (maxL := 2) (ret := none) (by decide) rfl ?_
  intro p e s m args below meth c s₁ B hml hv
  obtain ⟨rfl, hsz, hP, hK, hD⟩ := hv
  have hx := B.exec
  have hb := B.bytes
  have hr := B.returns
  have hts := atoms_spec (ws := wd_X7_append) B.pre
  have hown : s.vm.findClass RX7 = some m.cls := findClass_of_methodNamed B.named
  have hlocks := B.notSynchronized
  have bk0 : ∀ w ∈ u_ws RX7 TX7 5, w ∈ wd_X7_append := fun _ h => List.mem_cons_of_mem _ (List.mem_append_right _ (List.mem_append_left _ h))
  subst hsz
  have hA : ∀ q : Nat, s.heap.size ≤ q → A q := hA0
  have hS : va_S A s.heap s.heap [] := va_S.rf
  have hl := lv_entry ([.ref tx, .int ch]) (n := 2) (Nat.le_of_ble_eq_true rfl)
  rw [lg_entry_eq]
  generalize (lg_sl ([.ref tx, .int ch]) ++ List.replicate (2 - (lg_sl ([.ref tx, .int ch])).length) Slot.unset).toArray = ls at hl ⊢
  have hl : lv_has ls 2 [(0, .ref tx), (1, .int ch)] := hl
  refine lv_aload_n hx hb dX7_append_0 rfl (lv_at hl 0 rfl) ?_
  refine va_get (D := (dC, dI)) (ci := 10) (v := .int (nI tn)) (C := RX7) (T := TX7) (N := 5) hx hb hts bk0 hown hK hP 0 rfl rfl 1 (by decide) (hts (.fieldLink RX7 15 "GradientDesk$Text" "length" "I") (List.mem_of_getElem? (i := 1) rfl)) (fun _ h9 => h9) rfl dX7_append_1 ?_
  refine lv_bipush (v := nI 64) hx hb dX7_append_4 (by decide +kernel) ?_
  refine lv_icmp_ge (tgt := 29) hx hb dX7_append_6 (by decide) (fun c_1 => absurd ((nI_leI (a := 64) (b := tn) (by decide) (by omega)).mp c_1) (by omega)) (fun c_1 => ?_)
  refine lv_aload_n hx hb dX7_append_9 rfl (lv_at hl 0 rfl) ?_
  refine va_get (D := (dC, dI)) (ci := 10) (v := .ref la) (C := RX7) (T := TX7) (N := 5) hx hb hts bk0 hown hK hP 0 rfl rfl 0 (by decide) (hts (.fieldLink RX7 9 "GradientDesk$Text" "letters" "[C") (List.mem_of_getElem? (i := 2) rfl)) (fun _ h9 => h9) rfl dX7_append_10 ?_
  refine lv_aload_n hx hb dX7_append_13 rfl (lv_at hl 0 rfl) ?_
  refine va_get (D := (dC, dI)) (ci := 10) (v := .int (nI tn)) (C := RX7) (T := TX7) (N := 5) hx hb hts bk0 hown hK hP 0 rfl rfl 1 (by decide) (hts (.fieldLink RX7 15 "GradientDesk$Text" "length" "I") (List.mem_of_getElem? (i := 1) rfl)) (fun _ h9 => h9) rfl dX7_append_14 ?_
  refine lv_iload_n hx hb dX7_append_17 rfl (lv_at hl 1 rfl) ?_
  refine va_cast hx hb hK hP hD hS 1 0 rfl rfl (vp_in_nI (show tn < 64 by omega) (by decide)) dX7_append_18 (fun H locs hP hD hS => ?_)
  rw [nI_clamp (show tn < 2 ^ 31 by omega)] at hP hD
  have hP : va_P (dC, dI) vwCl ([(tx, .inr (10, [.ref la, .int (nI tn), .int (nI 0), .int (nI 0), .int (nI 0)])), (la, .inl (cA, 64, .inl (upd f tn (vp_nar .char ch))))]) H := hP
  have hD : va_D A ([(tx, .inr (10, [.ref la, .int (nI tn), .int (nI 0), .int (nI 0), .int (nI 0)])), (la, .inl (cA, 64, .inl (upd f tn (vp_nar .char ch))))]) := hD
  refine lv_aload_n hx hb dX7_append_19 rfl (lv_at hl 0 rfl) ?_
  refine lv_dup hx hb dX7_append_20 rfl ?_
  refine va_get (D := (dC, dI)) (ci := 10) (v := .int (nI tn)) (C := RX7) (T := TX7) (N := 5) hx hb hts bk0 hown hK hP 0 rfl rfl 1 (by decide) (hts (.fieldLink RX7 15 "GradientDesk$Text" "length" "I") (List.mem_of_getElem? (i := 1) rfl)) (fun _ h9 => h9) rfl dX7_append_21 ?_
  refine lv_iconst (v := nI 1) hx hb dX7_append_24 (by decide +kernel) ?_
  refine lv_iadd hx hb dX7_append_25 ?_
  refine lv_topi (fun x_2 e_3 => ?_)
  obtain rfl : x_2 = nI (tn + 1) := e_3.trans (nI_add tn 1)
  refine va_put (D := (dC, dI)) (ci := 10) (v := .int (nI (tn + 1))) (ty := .int) (C := RX7) (T := TX7) (N := 5) hx hb hts bk0 tyX7 tyX7_ok nmX7 hown hK hP hD hS 0 rfl rfl 1 (by decide) (hts (.fieldLink RX7 15 "GradientDesk$Text" "length" "I") (List.mem_of_getElem? (i := 1) rfl)) (fun _ h9 => h9) rfl (by decide +kernel) rfl rfl (Nat.le_of_ble_eq_true rfl) dX7_append_26 (fun H locs hP hD hS => ?_)
  have hP : va_P (dC, dI) vwCl ([(tx, .inr (10, [.ref la, .int (nI (tn + 1)), .int (nI 0), .int (nI 0), .int (nI 0)])), (la, .inl (cA, 64, .inl (upd f tn (vp_nar .char ch))))]) H := hP
  have hD : va_D A ([(tx, .inr (10, [.ref la, .int (nI (tn + 1)), .int (nI 0), .int (nI 0), .int (nI 0)])), (la, .inl (cA, 64, .inl (upd f tn (vp_nar .char ch))))]) := hD
  have hP9 := hP.sub (ws' := [(tx, .inr (10, [.ref la, .int (nI (tn + 1)), .int (nI 0), .int (nI 0), .int (nI 0)])), (la, .inl (cA, 64, .inl (upd f tn (vp_nar .char ch))))]) [0, 1] rfl
  have hD9 := hD.sub (ws' := [(tx, .inr (10, [.ref la, .int (nI (tn + 1)), .int (nI 0), .int (nI 0), .int (nI 0)])), (la, .inl (cA, 64, .inl (upd f tn (vp_nar .char ch))))]) [0, 1] (by decide) rfl
  have hK9 := hK.sub (tys' := [(cA, .char)]) [0] rfl
  refine W.widen (k := 0) (n := 0) (by omega) (by omega) ?_
  exact W.vret hx hb hr (fun t ht hW => ⟨⟨(upd f tn (vp_nar .char ch)), rfl, trivial, by rw [ht]; exact hP9, va_K.moved hW.alike hK9, hD9⟩, hS.F ht⟩) hS.2.2 dX7_append_29
def wd_X9_type : List Cond := .code yX9_type cX9_type 6 (some .int) :: (([.classLink RX9 90 "java/lang/IllegalArgumentException", .initialized "java/lang/IllegalArgumentException", .fieldLink RX9 19 "GradientDesk" "text" "LGradientDesk$Text;", .fieldLink RX9 103 "GradientDesk$Text" "length" "I", .methodLink RX9 97 yX9_byteOf, .static yX9_byteOf, .initialized RX9, .methodLink RX9 111 yX7_append, .instanceMethod yX7_append, .selects RX7 yX7_append yX7_append, .initialized RX7] : List Cond) ++ ((vx_atS RX9 94 "java/lang/IllegalArgumentException" ["java/lang/RuntimeException", "java/lang/Exception"]).filter goodWord ++ (u_ws RX9 TX9 12 ++ (u_ws RX7 TX7 5 ++ (wd_X9_byteOf ++ (wd_X7_append ++ ([])))))))
theorem gw_X9_type : wd_X9_type.all goodWord = true := k_allc rfl (k_all (by decide +kernel) (k_all (k_allf _ _) (k_all (gu_X9) (k_all (gu_X7) (k_all (gw_X9_byteOf) (k_all (gw_X7_append) (rfl)))))))
abbrev at_X9_type (dC : Nat → ClassId) (dI : Nat → Nat → Nat) (A : Nat → Prop) (h0 : Nat) (q : Nat → Nat) (k : Nat → ClassId) (fr : Nat → Option Nat) (w : Int64) (n : Int32) (u : Unit) (t : State) : Prop := match u with
  | () => va_P (dC, dI) vwCl [] t.heap ∧ va_K (dC, dI) vwCl [] t ∧ va_D A []
set_option maxHeartbeats 4000000 in
set_option maxRecDepth 100000 in
theorem c_X9_type (l : Launch) (hlt : l.stackTraces = false) (dC : Nat → ClassId) (dI : Nat → Nat → Nat) (A : Nat → Prop) (sz : Nat) (hA0 : ∀ q, sz ≤ q → A q) (h0 : Nat) (q : Nat → Nat) (k : Nat → ClassId) (fr : Nat → Option Nat) (w : Int64) (n : Int32)  : vx_Met l yX9_type wd_X9_type ({ frames := 20, cells := 10, slots := 60, locals := 400 }) (va_Pc [.ref h0, .long w, .int n] (fun U => U.heap.size = sz ∧ va_P (dC, dI) vwCl [(h0, .inr (12, [.ref (q 0), .ref (q 9), .ref (q 11), .ref (q 17), .ref (q 18), .ref (q 19), .ref (q 26), .ref (q 27), .ref (q 32), .ref (q 33), .ref (q 34), .int (-1)])), (q 9, .inr (10, [.ref (q 10), .int (nI 0), .int (nI 0), .int (nI 0), .int (nI 0)])), (q 10, .inl (k 4, 64, .inl (fun _ => 0)))] U.heap ∧ va_K (dC, dI) vwCl [(k 4, .char)] U ∧ va_D A [(h0, .inr (12, [.ref (q 0), .ref (q 9), .ref (q 11), .ref (q 17), .ref (q 18), .ref (q 19), .ref (q 26), .ref (q 27), .ref (q 32), .ref (q 33), .ref (q 34), .int (-1)])), (q 9, .inr (10, [.ref (q 10), .int (nI 0), .int (nI 0), .int (nI 0), .int (nI 0)])), (q 10, .inl (k 4, 64, .inl (fun _ => 0)))] ∧ exF A U U.heap)) (va_Qi (fun (r : Int32) => fun (u : Unit) => match u with | () => r = n ∧ goodT w n) (at_X9_type dC dI A h0 q k fr w n) A) (vx_X (fun _ : Unit => True) (fun E _ _ => E = "java/lang/IllegalArgumentException" ∧ ¬ goodT w n) A) (10) (60) A := by
  refine vx_ofW (cc := cX9_type) (maxL := 6) (ret := (some .int)) (by decide) rfl ?_
  intro p e s m args below meth c s₁ B hml htb hv
  obtain ⟨rfl, hsz, hP, hK, hD, hE⟩ := hv
  have hx := B.exec
  have hb := B.bytes
  have hr := B.returns
  have hts := atoms_spec (ws := wd_X9_type) B.pre
  have hown : s.vm.findClass RX9 = some m.cls := findClass_of_methodNamed B.named
  have hlocks := B.notSynchronized
  have bk0 : ∀ w ∈ (vx_atS RX9 94 "java/lang/IllegalArgumentException" ["java/lang/RuntimeException", "java/lang/Exception"]).filter goodWord, w ∈ wd_X9_type := fun _ h => List.mem_cons_of_mem _ (List.mem_append_right _ (List.mem_append_left _ h))
  have bk1 : ∀ w ∈ u_ws RX9 TX9 12, w ∈ wd_X9_type := fun _ h => List.mem_cons_of_mem _ (List.mem_append_right _ (List.mem_append_right _ (List.mem_append_left _ h)))
  have bk2 : ∀ w ∈ u_ws RX7 TX7 5, w ∈ wd_X9_type := fun _ h => List.mem_cons_of_mem _ (List.mem_append_right _ (List.mem_append_right _ (List.mem_append_right _ (List.mem_append_left _ h))))
  have bk3 : ∀ w ∈ wd_X9_byteOf, w ∈ wd_X9_type := fun _ h => List.mem_cons_of_mem _ (List.mem_append_right _ (List.mem_append_right _ (List.mem_append_right _ (List.mem_append_right _ (List.mem_append_left _ h)))))
  have bk4 : ∀ w ∈ wd_X7_append, w ∈ wd_X9_type := fun _ h => List.mem_cons_of_mem _ (List.mem_append_right _ (List.mem_append_right _ (List.mem_append_right _ (List.mem_append_right _ (List.mem_append_right _ (List.mem_append_left _ h))))))
  subst hsz
  have hA : ∀ q : Nat, s.heap.size ≤ q → A q := hA0
  have hS : va_S A s.heap s.heap [] := va_S.rf
  have hl := lv_entry ([.ref h0, .long w, .int n]) (n := 6) (Nat.le_of_ble_eq_true rfl)
  rw [lg_entry_eq]
  generalize (lg_sl ([.ref h0, .long w, .int n]) ++ List.replicate (6 - (lg_sl ([.ref h0, .long w, .int n])).length) Slot.unset).toArray = ls at hl ⊢
  have hl : lv_has ls 6 [(0, .ref h0), (1, .long w), (3, .int n)] := hl
  refine lv_iload_n hx hb dX9_type_0 rfl (lv_at hl 2 rfl) ?_
  refine lv_iconst (v := nI 1) hx hb dX9_type_1 (by decide +kernel) ?_
  refine lv_icmp_lt (tgt := 11) hx hb dX9_type_2 (by decide) (fun c_1 => ?_) (fun c_1 => ?_)
  · have c_1 := (k_lt n (nI 1)).mp c_1
    rw [show (nI 1).toInt = 1 from by decide] at c_1
    obtain ⟨sa_2, hstr_3⟩ := hE.2.2.1 (92, "n is not 1 .. 8") (by decide +kernel)
    exact vx_throwS (own := RX9) (cls := "java/lang/IllegalArgumentException") (text := "n is not 1 .. 8") (names := ["java/lang/RuntimeException", "java/lang/Exception"]) (ik := 90) (is := 92) (ic := 94) (sa := sa_2) (A := A) hx hb hlt hown (by decide +kernel) (by decide +kernel) (hts (.classLink RX9 90 "java/lang/IllegalArgumentException") (List.mem_of_getElem? (i := 1) rfl)) (hts (.initialized "java/lang/IllegalArgumentException") (List.mem_of_getElem? (i := 2) rfl)) hstr_3 (vx_hat (B := [.declares (Bundle.initS "java/lang/RuntimeException"), .declares (Bundle.initS "java/lang/Exception"), .declares (Bundle.initS Bundle.tN), .castable "java/lang/IllegalArgumentException" "java/lang/IllegalArgumentException"]) (fun w hw => hts w (bk0 w hw)) (by decide +kernel) (vx_c (va_Nw.use rfl hE.2.2.2.1) (vx_c (va_Nw.use rfl hE.2.2.2.2.1) (vx_c (va_Nw.use rfl hE.2.2.2.2.2.1) (vx_c (va_Nw.use rfl hE.2.2.2.2.2.2.1) vx_n))))) (by decide +kernel) hE.1 hE.2.1 hS (by rw [hml]; exact hl.1) dX9_type_11 dX9_type_14 dX9_type_15 dX9_type_17 dX9_type_20 (fun x9 hx9 => (htb x9 hx9).elim) (Nat.le_of_ble_eq_true rfl) (Nat.le_of_ble_eq_true rfl) (Nat.le_of_ble_eq_true rfl) (Nat.le_of_ble_eq_true rfl) hlocks (fun t9 hvm9 h1 h2 => ⟨(), trivial, ⟨rfl, fun h9 => by have := h9.1; have := h9.2.1; omega⟩, k_F hS h1 h2⟩) hS.2.2 (Nat.le_of_ble_eq_true rfl) (Nat.le_of_ble_eq_true rfl)
  · have c_1 := mt (k_lt n (nI 1)).mpr c_1
    rw [show (nI 1).toInt = 1 from by decide] at c_1
    refine lv_iload_n hx hb dX9_type_5 rfl (lv_at hl 2 rfl) ?_
    refine lv_bipush (v := nI 8) hx hb dX9_type_6 (by decide +kernel) ?_
    refine lv_icmp_le (tgt := 21) hx hb dX9_type_8 (by decide) (fun c_4 => ?_) (fun c_4 => ?_)
    · have c_4 := (k_le n (nI 8)).mp c_4
      rw [show (nI 8).toInt = 8 from by decide] at c_4
      obtain ⟨j, hnj, hj1, hj2⟩ := k_nat (x := n) (by omega)
      have hl : lv_has ls 6 [(0, .ref h0), (1, .long w), (3, .int (nI j))] := by rw [← hnj]; exact hl
      have hj8 : 1 ≤ j ∧ j ≤ 8 := by omega
      refine lv_iconst (v := nI 0) hx hb dX9_type_21 (by decide +kernel) ?_
      refine lv_istore (lv' := [(4, .int (nI 0)), (0, .ref h0), (1, .long w), (3, .int (nI j))]) hx hb dX9_type_22 hl (by decide) rfl (fun ls hl => ?_)
      have loop_5 : ∀ (k9 : Nat) (i : Nat), j - i < k9 → i ≤ j → (∀ t : Nat, t < i → 32 ≤ byt w t ∧ byt w t ≤ 126) → ∀ (H : Heap) (locs : List Loc) (ls : Array Slot), va_P (dC, dI) vwCl [(h0, .inr (12, [.ref (q 0), .ref (q 9), .ref (q 11), .ref (q 17), .ref (q 18), .ref (q 19), .ref (q 26), .ref (q 27), .ref (q 32), .ref (q 33), .ref (q 34), .int (-1)])), (q 9, .inr (10, [.ref (q 10), .int (nI 0), .int (nI 0), .int (nI 0), .int (nI 0)])), (q 10, .inl (k 4, 64, .inl (fun _ => 0)))] H → va_D A [(h0, .inr (12, [.ref (q 0), .ref (q 9), .ref (q 11), .ref (q 17), .ref (q 18), .ref (q 19), .ref (q 26), .ref (q 27), .ref (q 32), .ref (q 33), .ref (q 34), .int (-1)])), (q 9, .inr (10, [.ref (q 10), .int (nI 0), .int (nI 0), .int (nI 0), .int (nI 0)])), (q 10, .inl (k 4, 64, .inl (fun _ => 0)))] → va_K (dC, dI) vwCl [(k 4, .char)] s → va_S A s.heap H locs → lv_has ls 6 [(0, .ref h0), (1, .long w), (3, .int (nI j)), (4, .int (nI i))] → W p l e (headSpec wd_X9_type ({ frames := 20, cells := 10, slots := 60, locals := 400 })).room s m ([.ref h0, .long w, .int n] : List Value).toArray below meth c H locs (0) (0) (vx_MQ below (va_Qi (fun (r : Int32) => fun (u : Unit) => match u with | () => r = n ∧ goodT w n) (at_X9_type dC dI A h0 q k fr w n) A) (vx_X (fun _ : Unit => True) (fun E _ _ => E = "java/lang/IllegalArgumentException" ∧ ¬ goodT w n) A) ([.ref h0, .long w, .int n] : List Value).toArray s (10) (60) A) (F0 m 24 ls []) := by
        intro k9
        induction k9 with
        | zero => intro i h9; exact absurd h9 (Nat.not_lt_zero _)
        | succ k9 ih_6 =>
          intro i h9 hi hg H locs ls hP hD hK hS hl
          refine lv_iload hx hb dX9_type_24 (lv_at hl 3 rfl) ?_
          refine lv_iload_n hx hb dX9_type_26 rfl (lv_at hl 2 rfl) ?_
          refine lv_icmp_ge (tgt := 68) hx hb dX9_type_27 (by decide) (fun c_7 => ?_) (fun c_7 => ?_)
          · have c_7 := (nI_leI (a := j) (b := i) (by omega) (by omega)).mp c_7
            have hgood : goodT w n := ⟨by omega, by omega, fun t h => hg t (by omega)⟩
            refine lv_aload_n hx hb dX9_type_68 rfl (lv_at hl 0 rfl) ?_
            refine va_get (D := (dC, dI)) (ci := 12) (v := .ref (q 9)) (C := RX9) (T := TX9) (N := 12) hx hb hts bk1 hown hK hP 0 rfl rfl 1 (by decide) (hts (.fieldLink RX9 19 "GradientDesk" "text" "LGradientDesk$Text;") (List.mem_of_getElem? (i := 3) rfl)) (fun _ h9 => h9) rfl dX9_type_69 ?_
            refine va_get (D := (dC, dI)) (ci := 10) (v := .int (nI 0)) (C := RX7) (T := TX7) (N := 5) hx hb hts bk2 hown hK hP 1 rfl rfl 1 (by decide) (hts (.fieldLink RX9 103 "GradientDesk$Text" "length" "I") (List.mem_of_getElem? (i := 4) rfl)) (fun _ h9 => h9) rfl dX9_type_72 ?_
            refine lv_iload_n hx hb dX9_type_75 rfl (lv_at hl 2 rfl) ?_
            refine lv_iadd hx hb dX9_type_76 ?_
            refine lv_topi (fun x_8 e_9 => ?_)
            obtain rfl : x_8 = nI j := e_9.trans ((nI_add 0 j).trans (congrArg nI (Nat.zero_add _)))
            refine lv_bipush (v := nI 64) hx hb dX9_type_77 (by decide +kernel) ?_
            refine lv_icmp_le (tgt := 92) hx hb dX9_type_79 (by decide) (fun c_10 => ?_) (fun c_10 => absurd (mt (nI_leI (a := j) (b := 64) (by omega) (by decide)).mpr c_10) (by omega))
            refine lv_iconst (v := nI 0) hx hb dX9_type_92 (by decide +kernel) ?_
            refine lv_istore (lv' := [(4, .int (nI 0)), (0, .ref h0), (1, .long w), (3, .int (nI j))]) hx hb dX9_type_93 hl (by decide) rfl (fun ls hl => ?_)
            have loop_11 : ∀ (k9 : Nat) (i : Nat) (f : Nat → Int32), j - i < k9 → i ≤ j → ∀ (H : Heap) (locs : List Loc) (ls : Array Slot), va_P (dC, dI) vwCl [(h0, .inr (12, [.ref (q 0), .ref (q 9), .ref (q 11), .ref (q 17), .ref (q 18), .ref (q 19), .ref (q 26), .ref (q 27), .ref (q 32), .ref (q 33), .ref (q 34), .int (-1)])), (q 9, .inr (10, [.ref (q 10), .int (nI i), .int (nI 0), .int (nI 0), .int (nI 0)])), (q 10, .inl (k 4, 64, .inl f))] H → va_D A [(h0, .inr (12, [.ref (q 0), .ref (q 9), .ref (q 11), .ref (q 17), .ref (q 18), .ref (q 19), .ref (q 26), .ref (q 27), .ref (q 32), .ref (q 33), .ref (q 34), .int (-1)])), (q 9, .inr (10, [.ref (q 10), .int (nI i), .int (nI 0), .int (nI 0), .int (nI 0)])), (q 10, .inl (k 4, 64, .inl f))] → va_K (dC, dI) vwCl [(k 4, .char)] s → va_S A s.heap H locs → lv_has ls 6 [(0, .ref h0), (1, .long w), (3, .int (nI j)), (4, .int (nI i))] → W p l e (headSpec wd_X9_type ({ frames := 20, cells := 10, slots := 60, locals := 400 })).room s m ([.ref h0, .long w, .int n] : List Value).toArray below meth c H locs (0) (0) (vx_MQ below (va_Qi (fun (r : Int32) => fun (u : Unit) => match u with | () => r = n ∧ goodT w n) (at_X9_type dC dI A h0 q k fr w n) A) (vx_X (fun _ : Unit => True) (fun E _ _ => E = "java/lang/IllegalArgumentException" ∧ ¬ goodT w n) A) ([.ref h0, .long w, .int n] : List Value).toArray s (10) (60) A) (F0 m 95 ls []) := by
              intro k9
              induction k9 with
              | zero => intro i f h9; exact absurd h9 (Nat.not_lt_zero _)
              | succ k9 ih_12 =>
                intro i f h9 hi2 H locs ls hP hD hK hS hl
                refine lv_iload hx hb dX9_type_95 (lv_at hl 3 rfl) ?_
                refine lv_iload_n hx hb dX9_type_97 rfl (lv_at hl 2 rfl) ?_
                refine lv_icmp_ge (tgt := 121) hx hb dX9_type_98 (by decide) (fun c_13 => ?_) (fun c_13 => ?_)
                · have c_13 := (nI_leI (a := j) (b := i) (by omega) (by omega)).mp c_13
                  refine lv_aload_n hx hb dX9_type_121 rfl (lv_at hl 0 rfl) ?_
                  refine va_get (D := (dC, dI)) (ci := 12) (v := .ref (q 9)) (C := RX9) (T := TX9) (N := 12) hx hb hts bk1 hown hK hP 0 rfl rfl 1 (by decide) (hts (.fieldLink RX9 19 "GradientDesk" "text" "LGradientDesk$Text;") (List.mem_of_getElem? (i := 3) rfl)) (fun _ h9 => h9) rfl dX9_type_122 ?_
                  refine va_get (D := (dC, dI)) (ci := 10) (v := .int (nI i)) (C := RX7) (T := TX7) (N := 5) hx hb hts bk2 hown hK hP 1 rfl rfl 1 (by decide) (hts (.fieldLink RX9 103 "GradientDesk$Text" "length" "I") (List.mem_of_getElem? (i := 4) rfl)) (fun _ h9 => h9) rfl dX9_type_125 ?_
                  have hij : i = j := by omega
                  have hP9 := hP.sub (ws' := []) [] rfl
                  have hD9 := hD.sub (ws' := []) [] (by decide) rfl
                  have hK9 := hK.sub (tys' := []) [] rfl
                  refine vx_ret ?_
                  refine W.widen (k := 10) (n := 60) (by omega) (by omega) ?_
                  exact W.iret (v := nI i) hx hb hr (fun t ht hW => ⟨⟨nI i, (), rfl, ⟨by rw [hnj, hij], hgood⟩, by rw [ht]; exact hP9, va_K.moved hW.alike hK9, hD9⟩, hS.F ht⟩) hS.2.2 dX9_type_128
                · have c_13 := mt (nI_leI (a := j) (b := i) (by omega) (by omega)).mpr c_13
                  refine lv_aload_n hx hb dX9_type_101 rfl (lv_at hl 0 rfl) ?_
                  refine va_get (D := (dC, dI)) (ci := 12) (v := .ref (q 9)) (C := RX9) (T := TX9) (N := 12) hx hb hts bk1 hown hK hP 0 rfl rfl 1 (by decide) (hts (.fieldLink RX9 19 "GradientDesk" "text" "LGradientDesk$Text;") (List.mem_of_getElem? (i := 3) rfl)) (fun _ h9 => h9) rfl dX9_type_102 ?_
                  refine lv_lload_n hx hb dX9_type_105 rfl (lv_at hl 1 rfl) ?_
                  refine lv_iload hx hb dX9_type_106 (lv_at hl 3 rfl) ?_
                  have hPc := hP.sub (ws' := []) [] rfl
                  have hDc := hD.sub (ws' := []) [] (by decide) rfl
                  have hKc := hK.sub (tys' := []) [] rfl
                  have hFc := va_free (wc := []) hD hS hA [] rfl
                  refine va_calli (va_runS (As := [.long w, .int (nI i)]) (rest := [.ref (q 9)]) ⟨hx, hb, hml, hown, hts⟩ (c_X9_byteOf l dC dI (va_A [] H.size) H.size (fun _ h => Or.inr h) w i (by omega)) (va_cwS 2 hts (goodIn_app (goodIn_r [Cond.methodLink RX9 97 yX9_byteOf, Cond.static yX9_byteOf, Cond.initialized RX9] [5, 6, 7] rfl rfl) (goodIn_sub (fun w9 h9 => bk3 w9 h9) gw_X9_byteOf)) rfl rfl rfl (by decide +kernel) ⟨Nat.le_of_ble_eq_true rfl, Nat.le_of_ble_eq_true rfl⟩) ⟨fun a U g mk q => by obtain ⟨q0, q1, qP, qK, qD⟩ := q; exact ⟨q0, q1, qP, va_K.moved (u := U) (U := U.calling g mk a) (Vm.Alike.refl U.vm) qK, qD⟩, fun U hU hW => ⟨rfl, by rw [hU], by rw [hU]; exact hPc, va_K.moved hW.alike hKc, hDc.self⟩⟩ rfl rfl hl.1 rfl (lv_room (Nat.le_of_ble_eq_true rfl)) dX9_type_108 ⟨(Nat.le_of_ble_eq_true rfl), (Nat.le_of_ble_eq_true rfl)⟩) hS (fun q _ h => hFc q h) hFc (fun r_14 u t H1 locs ht hvm hw_15 hB hz1 hk1 hS => ?_)
                  obtain ⟨⟩ := u
                  obtain ⟨hP1, hK1, hD1⟩ := hB
                  rw [ht] at hP1
                  have hK1 := va_K.moved hvm.symm hK1
                  try dsimp only at hw_15
                  obtain ⟨hP, hD⟩ := va_join (wr := [(h0, .inr (12, [.ref (q 0), .ref (q 9), .ref (q 11), .ref (q 17), .ref (q 18), .ref (q 19), .ref (q 26), .ref (q 27), .ref (q 32), .ref (q 33), .ref (q 34), .int (-1)])), (q 9, .inr (10, [.ref (q 10), .int (nI i), .int (nI 0), .int (nI 0), .int (nI 0)])), (q 10, .inl (k 4, 64, .inl f))]) (w1 := []) hP hD [] [0, 1, 2] rfl rfl (by decide) (by decide) hk1 hFc hP1 hD1
                  have hK := (hK.sub (tys' := [(k 4, .char)]) [0] rfl).app hK1
                  generalize H1 = H at hP hS ⊢
                  have hP : va_P (dC, dI) vwCl ([(h0, .inr (12, [.ref (q 0), .ref (q 9), .ref (q 11), .ref (q 17), .ref (q 18), .ref (q 19), .ref (q 26), .ref (q 27), .ref (q 32), .ref (q 33), .ref (q 34), .int (-1)])), (q 9, .inr (10, [.ref (q 10), .int (nI i), .int (nI 0), .int (nI 0), .int (nI 0)])), (q 10, .inl (k 4, 64, .inl f))]) H := hP
                  have hD : va_D A ([(h0, .inr (12, [.ref (q 0), .ref (q 9), .ref (q 11), .ref (q 17), .ref (q 18), .ref (q 19), .ref (q 26), .ref (q 27), .ref (q 32), .ref (q 33), .ref (q 34), .int (-1)])), (q 9, .inr (10, [.ref (q 10), .int (nI i), .int (nI 0), .int (nI 0), .int (nI 0)])), (q 10, .inl (k 4, 64, .inl f))]) := hD
                  have hK : va_K (dC, dI) vwCl [(k 4, .char)] s := hK
                  obtain rfl : r_14 = nI (byt w i) := hw_15
                  have hbl := byt_lt w i
                  refine lv_i2c hx hb dX9_type_111 rfl ?_
                  refine lv_topi (fun x_16 e_17 => ?_)
                  obtain rfl : x_16 = nI (byt w i) := e_17.trans (k_i2c (by omega))
                  have hPc := hP.sub (ws' := [(q 9, .inr (10, [.ref (q 10), .int (nI i), .int (nI 0), .int (nI 0), .int (nI 0)])), (q 10, .inl (k 4, 64, .inl f))]) [1, 2] rfl
                  have hDc := hD.sub (ws' := [(q 9, .inr (10, [.ref (q 10), .int (nI i), .int (nI 0), .int (nI 0), .int (nI 0)])), (q 10, .inl (k 4, 64, .inl f))]) [1, 2] (by decide) rfl
                  have hKc := hK.sub (tys' := [(k 4, .char)]) [0] rfl
                  have hFc := va_free (wc := [(q 9, .inr (10, [.ref (q 10), .int (nI i), .int (nI 0), .int (nI 0), .int (nI 0)])), (q 10, .inl (k 4, 64, .inl f))]) hD hS hA [1, 2] rfl
                  refine va_callv (va_runV (As := [.int (nI (byt w i))]) (rest := []) ⟨hx, hb, hml, hown, hts⟩ (c_X7_append l dC dI (va_A [(q 9, .inr (10, [.ref (q 10), .int (nI i), .int (nI 0), .int (nI 0), .int (nI 0)])), (q 10, .inl (k 4, 64, .inl f))] H.size) H.size (fun _ h => Or.inr h) (q 9) (q 10) (k 4) i f (nI (byt w i)) (by omega)) (cwV 1 hts (goodIn_app (goodIn_r [Cond.methodLink RX9 111 yX7_append, Cond.instanceMethod yX7_append, Cond.selects RX7 yX7_append yX7_append, Cond.initialized RX7] [8, 9, 10, 11] rfl rfl) (goodIn_sub (fun w9 h9 => bk4 w9 h9) gw_X7_append)) rfl rfl rfl (by decide +kernel) ⟨Nat.le_of_ble_eq_true rfl, Nat.le_of_ble_eq_true rfl⟩) ⟨fun a U g mk q => by obtain ⟨q0, q1, qP, qK, qD⟩ := q; exact ⟨q0, q1, qP, va_K.moved (u := U) (U := U.calling g mk a) (Vm.Alike.refl U.vm) qK, qD⟩, va_recv hKc hPc (ci := 10) (q0 := 0) rfl rfl, fun U hU hW => ⟨rfl, by rw [hU], by rw [hU]; exact hPc, va_K.moved hW.alike hKc, hDc.self⟩⟩ rfl rfl hl.1 rfl (lv_room (Nat.le_of_ble_eq_true rfl)) dX9_type_112 ⟨(Nat.le_of_ble_eq_true rfl), (Nat.le_of_ble_eq_true rfl)⟩) hS (fun q _ h => hFc q h) hFc (fun u t H1 locs ht hvm hw_18 hB hz1 hk1 hS => ?_)
                  obtain ⟨f2_19, rfl⟩ : ∃ z, z = u := ⟨_, rfl⟩
                  obtain ⟨hP1, hK1, hD1⟩ := hB
                  rw [ht] at hP1
                  have hK1 := va_K.moved hvm.symm hK1
                  try dsimp only at hw_18
                  obtain ⟨hP, hD⟩ := va_join (wr := [(h0, .inr (12, [.ref (q 0), .ref (q 9), .ref (q 11), .ref (q 17), .ref (q 18), .ref (q 19), .ref (q 26), .ref (q 27), .ref (q 32), .ref (q 33), .ref (q 34), .int (-1)]))]) (w1 := [(q 9, .inr (10, [.ref (q 10), .int (nI (i + 1)), .int (nI 0), .int (nI 0), .int (nI 0)])), (q 10, .inl (k 4, 64, .inl f2_19))]) hP hD [1, 2] [0] rfl rfl (by decide) (by decide) hk1 hFc hP1 hD1
                  have hK := (hK.sub (tys' := []) [] rfl).app hK1
                  generalize H1 = H at hP hS ⊢
                  have hP : va_P (dC, dI) vwCl ([(h0, .inr (12, [.ref (q 0), .ref (q 9), .ref (q 11), .ref (q 17), .ref (q 18), .ref (q 19), .ref (q 26), .ref (q 27), .ref (q 32), .ref (q 33), .ref (q 34), .int (-1)])), (q 9, .inr (10, [.ref (q 10), .int (nI (i + 1)), .int (nI 0), .int (nI 0), .int (nI 0)])), (q 10, .inl (k 4, 64, .inl f2_19))]) H := hP
                  have hD : va_D A ([(h0, .inr (12, [.ref (q 0), .ref (q 9), .ref (q 11), .ref (q 17), .ref (q 18), .ref (q 19), .ref (q 26), .ref (q 27), .ref (q 32), .ref (q 33), .ref (q 34), .int (-1)])), (q 9, .inr (10, [.ref (q 10), .int (nI (i + 1)), .int (nI 0), .int (nI 0), .int (nI 0)])), (q 10, .inl (k 4, 64, .inl f2_19))]) := hD
                  have hK : va_K (dC, dI) vwCl [(k 4, .char)] s := hK
                  refine lv_iinc (v := nI (i + 1)) (lv' := [(4, .int (nI (i + 1))), (0, .ref h0), (1, .long w), (3, .int (nI j))]) hx hb dX9_type_115 hl (k := 3) rfl (nI_add i 1) (by decide) rfl (fun ls hl => ?_)
                  refine lv_goto (tgt := 95) hx hb dX9_type_118 (by decide) ?_
                  exact ih_12 (i + 1) f2_19 (by omega) (by omega) _ _ _ (hP.sub (ws' := [(h0, .inr (12, [.ref (q 0), .ref (q 9), .ref (q 11), .ref (q 17), .ref (q 18), .ref (q 19), .ref (q 26), .ref (q 27), .ref (q 32), .ref (q 33), .ref (q 34), .int (-1)])), (q 9, .inr (10, [.ref (q 10), .int (nI (i + 1)), .int (nI 0), .int (nI 0), .int (nI 0)])), (q 10, .inl (k 4, 64, .inl f2_19))]) [0, 1, 2] rfl) (hD.sub (ws' := [(h0, .inr (12, [.ref (q 0), .ref (q 9), .ref (q 11), .ref (q 17), .ref (q 18), .ref (q 19), .ref (q 26), .ref (q 27), .ref (q 32), .ref (q 33), .ref (q 34), .int (-1)])), (q 9, .inr (10, [.ref (q 10), .int (nI (i + 1)), .int (nI 0), .int (nI 0), .int (nI 0)])), (q 10, .inl (k 4, 64, .inl f2_19))]) [0, 1, 2] (by decide) rfl) (hK.sub (tys' := [(k 4, .char)]) [0] rfl) hS (lv_sub (l' := [(0, .ref h0), (1, .long w), (3, .int (nI j)), (4, .int (nI (i + 1)))]) hl [1, 2, 3, 0] rfl)
            exact loop_11 _ 0 (fun _ => 0) (Nat.lt_succ_self _) (Nat.zero_le _) _ _ _ (hP.sub (ws' := [(h0, .inr (12, [.ref (q 0), .ref (q 9), .ref (q 11), .ref (q 17), .ref (q 18), .ref (q 19), .ref (q 26), .ref (q 27), .ref (q 32), .ref (q 33), .ref (q 34), .int (-1)])), (q 9, .inr (10, [.ref (q 10), .int (nI 0), .int (nI 0), .int (nI 0), .int (nI 0)])), (q 10, .inl (k 4, 64, .inl (fun _ => 0)))]) [0, 1, 2] rfl) (hD.sub (ws' := [(h0, .inr (12, [.ref (q 0), .ref (q 9), .ref (q 11), .ref (q 17), .ref (q 18), .ref (q 19), .ref (q 26), .ref (q 27), .ref (q 32), .ref (q 33), .ref (q 34), .int (-1)])), (q 9, .inr (10, [.ref (q 10), .int (nI 0), .int (nI 0), .int (nI 0), .int (nI 0)])), (q 10, .inl (k 4, 64, .inl (fun _ => 0)))]) [0, 1, 2] (by decide) rfl) (hK.sub (tys' := [(k 4, .char)]) [0] rfl) hS (lv_sub (l' := [(0, .ref h0), (1, .long w), (3, .int (nI j)), (4, .int (nI 0))]) hl [1, 2, 3, 0] rfl)
          · have c_7 := mt (nI_leI (a := j) (b := i) (by omega) (by omega)).mpr c_7
            refine lv_lload_n hx hb dX9_type_30 rfl (lv_at hl 1 rfl) ?_
            refine lv_iload hx hb dX9_type_31 (lv_at hl 3 rfl) ?_
            have hPc := hP.sub (ws' := []) [] rfl
            have hDc := hD.sub (ws' := []) [] (by decide) rfl
            have hKc := hK.sub (tys' := []) [] rfl
            have hFc := va_free (wc := []) hD hS hA [] rfl
            refine va_calli (va_runS (As := [.long w, .int (nI i)]) (rest := []) ⟨hx, hb, hml, hown, hts⟩ (c_X9_byteOf l dC dI (va_A [] H.size) H.size (fun _ h => Or.inr h) w i (by omega)) (va_cwS 2 hts (goodIn_app (goodIn_r [Cond.methodLink RX9 97 yX9_byteOf, Cond.static yX9_byteOf, Cond.initialized RX9] [5, 6, 7] rfl rfl) (goodIn_sub (fun w9 h9 => bk3 w9 h9) gw_X9_byteOf)) rfl rfl rfl (by decide +kernel) ⟨Nat.le_of_ble_eq_true rfl, Nat.le_of_ble_eq_true rfl⟩) ⟨fun a U g mk q => by obtain ⟨q0, q1, qP, qK, qD⟩ := q; exact ⟨q0, q1, qP, va_K.moved (u := U) (U := U.calling g mk a) (Vm.Alike.refl U.vm) qK, qD⟩, fun U hU hW => ⟨rfl, by rw [hU], by rw [hU]; exact hPc, va_K.moved hW.alike hKc, hDc.self⟩⟩ rfl rfl hl.1 rfl (lv_room (Nat.le_of_ble_eq_true rfl)) dX9_type_33 ⟨(Nat.le_of_ble_eq_true rfl), (Nat.le_of_ble_eq_true rfl)⟩) hS (fun q _ h => hFc q h) hFc (fun r_22 u t H1 locs ht hvm hw_23 hB hz1 hk1 hS => ?_)
            obtain ⟨⟩ := u
            obtain ⟨hP1, hK1, hD1⟩ := hB
            rw [ht] at hP1
            have hK1 := va_K.moved hvm.symm hK1
            try dsimp only at hw_23
            obtain ⟨hP, hD⟩ := va_join (wr := [(h0, .inr (12, [.ref (q 0), .ref (q 9), .ref (q 11), .ref (q 17), .ref (q 18), .ref (q 19), .ref (q 26), .ref (q 27), .ref (q 32), .ref (q 33), .ref (q 34), .int (-1)])), (q 9, .inr (10, [.ref (q 10), .int (nI 0), .int (nI 0), .int (nI 0), .int (nI 0)])), (q 10, .inl (k 4, 64, .inl (fun _ => 0)))]) (w1 := []) hP hD [] [0, 1, 2] rfl rfl (by decide) (by decide) hk1 hFc hP1 hD1
            have hK := (hK.sub (tys' := [(k 4, .char)]) [0] rfl).app hK1
            generalize H1 = H at hP hS ⊢
            have hP : va_P (dC, dI) vwCl ([(h0, .inr (12, [.ref (q 0), .ref (q 9), .ref (q 11), .ref (q 17), .ref (q 18), .ref (q 19), .ref (q 26), .ref (q 27), .ref (q 32), .ref (q 33), .ref (q 34), .int (-1)])), (q 9, .inr (10, [.ref (q 10), .int (nI 0), .int (nI 0), .int (nI 0), .int (nI 0)])), (q 10, .inl (k 4, 64, .inl (fun _ => 0)))]) H := hP
            have hD : va_D A ([(h0, .inr (12, [.ref (q 0), .ref (q 9), .ref (q 11), .ref (q 17), .ref (q 18), .ref (q 19), .ref (q 26), .ref (q 27), .ref (q 32), .ref (q 33), .ref (q 34), .int (-1)])), (q 9, .inr (10, [.ref (q 10), .int (nI 0), .int (nI 0), .int (nI 0), .int (nI 0)])), (q 10, .inl (k 4, 64, .inl (fun _ => 0)))]) := hD
            have hK : va_K (dC, dI) vwCl [(k 4, .char)] s := hK
            obtain rfl : r_22 = nI (byt w i) := hw_23
            have hbl := byt_lt w i
            refine lv_istore (lv' := [(5, .int (nI (byt w i))), (0, .ref h0), (1, .long w), (3, .int (nI j)), (4, .int (nI i))]) hx hb dX9_type_36 hl (by decide) rfl (fun ls hl => ?_)
            refine lv_iload hx hb dX9_type_38 (lv_at hl 0 rfl) ?_
            refine lv_bipush (v := nI 32) hx hb dX9_type_40 (by decide +kernel) ?_
            refine lv_icmp_lt (tgt := 52) hx hb dX9_type_42 (by decide) (fun c_24 => ?_) (fun c_24 => ?_)
            · have c_24 := (nI_ltI (a := (byt w i)) (b := 32) (by omega) (by decide)).mp c_24
              obtain ⟨sa_25, hstr_26⟩ := hE.2.2.1 (101, "a character is not 32 .. 126") (by decide +kernel)
              exact vx_throwS (own := RX9) (cls := "java/lang/IllegalArgumentException") (text := "a character is not 32 .. 126") (names := ["java/lang/RuntimeException", "java/lang/Exception"]) (ik := 90) (is := 101) (ic := 94) (sa := sa_25) (A := A) hx hb hlt hown (by decide +kernel) (by decide +kernel) (hts (.classLink RX9 90 "java/lang/IllegalArgumentException") (List.mem_of_getElem? (i := 1) rfl)) (hts (.initialized "java/lang/IllegalArgumentException") (List.mem_of_getElem? (i := 2) rfl)) hstr_26 (vx_hat (B := [.declares (Bundle.initS "java/lang/RuntimeException"), .declares (Bundle.initS "java/lang/Exception"), .declares (Bundle.initS Bundle.tN), .castable "java/lang/IllegalArgumentException" "java/lang/IllegalArgumentException"]) (fun w hw => hts w (bk0 w hw)) (by decide +kernel) (vx_c (va_Nw.use rfl hE.2.2.2.1) (vx_c (va_Nw.use rfl hE.2.2.2.2.1) (vx_c (va_Nw.use rfl hE.2.2.2.2.2.1) (vx_c (va_Nw.use rfl hE.2.2.2.2.2.2.1) vx_n))))) (by decide +kernel) hE.1 hE.2.1 hS (by rw [hml]; exact hl.1) dX9_type_52 dX9_type_55 dX9_type_56 dX9_type_58 dX9_type_61 (fun x9 hx9 => (htb x9 hx9).elim) (Nat.le_of_ble_eq_true rfl) (Nat.le_of_ble_eq_true rfl) (Nat.le_of_ble_eq_true rfl) (Nat.le_of_ble_eq_true rfl) hlocks (fun t9 hvm9 h1 h2 => ⟨(), trivial, ⟨rfl, fun h9 => by have := h9.2.2 i (by omega); omega⟩, k_F hS h1 h2⟩) hS.2.2 (Nat.le_of_ble_eq_true rfl) (Nat.le_of_ble_eq_true rfl)
            · have c_24 := mt (nI_ltI (a := (byt w i)) (b := 32) (by omega) (by decide)).mpr c_24
              refine lv_iload hx hb dX9_type_45 (lv_at hl 0 rfl) ?_
              refine lv_bipush (v := nI 126) hx hb dX9_type_47 (by decide +kernel) ?_
              refine lv_icmp_le (tgt := 62) hx hb dX9_type_49 (by decide) (fun c_27 => ?_) (fun c_27 => ?_)
              · have c_27 := (nI_leI (a := (byt w i)) (b := 126) (by omega) (by decide)).mp c_27
                refine lv_iinc (v := nI (i + 1)) (lv' := [(4, .int (nI (i + 1))), (5, .int (nI (byt w i))), (0, .ref h0), (1, .long w), (3, .int (nI j))]) hx hb dX9_type_62 hl (k := 4) rfl (nI_add i 1) (by decide) rfl (fun ls hl => ?_)
                refine lv_goto (tgt := 24) hx hb dX9_type_65 (by decide) ?_
                exact ih_6 (i + 1) (by omega) (by omega) (fun t h => by rcases Nat.lt_or_ge t i with h3 | h3; exact hg t h3; obtain rfl : t = i := (by omega); omega) _ _ _ (hP.sub (ws' := [(h0, .inr (12, [.ref (q 0), .ref (q 9), .ref (q 11), .ref (q 17), .ref (q 18), .ref (q 19), .ref (q 26), .ref (q 27), .ref (q 32), .ref (q 33), .ref (q 34), .int (-1)])), (q 9, .inr (10, [.ref (q 10), .int (nI 0), .int (nI 0), .int (nI 0), .int (nI 0)])), (q 10, .inl (k 4, 64, .inl (fun _ => 0)))]) [0, 1, 2] rfl) (hD.sub (ws' := [(h0, .inr (12, [.ref (q 0), .ref (q 9), .ref (q 11), .ref (q 17), .ref (q 18), .ref (q 19), .ref (q 26), .ref (q 27), .ref (q 32), .ref (q 33), .ref (q 34), .int (-1)])), (q 9, .inr (10, [.ref (q 10), .int (nI 0), .int (nI 0), .int (nI 0), .int (nI 0)])), (q 10, .inl (k 4, 64, .inl (fun _ => 0)))]) [0, 1, 2] (by decide) rfl) (hK.sub (tys' := [(k 4, .char)]) [0] rfl) hS (lv_sub (l' := [(0, .ref h0), (1, .long w), (3, .int (nI j)), (4, .int (nI (i + 1)))]) hl [2, 3, 4, 0] rfl)
              · have c_27 := mt (nI_leI (a := (byt w i)) (b := 126) (by omega) (by decide)).mpr c_27
                obtain ⟨sa_30, hstr_31⟩ := hE.2.2.1 (101, "a character is not 32 .. 126") (by decide +kernel)
                exact vx_throwS (own := RX9) (cls := "java/lang/IllegalArgumentException") (text := "a character is not 32 .. 126") (names := ["java/lang/RuntimeException", "java/lang/Exception"]) (ik := 90) (is := 101) (ic := 94) (sa := sa_30) (A := A) hx hb hlt hown (by decide +kernel) (by decide +kernel) (hts (.classLink RX9 90 "java/lang/IllegalArgumentException") (List.mem_of_getElem? (i := 1) rfl)) (hts (.initialized "java/lang/IllegalArgumentException") (List.mem_of_getElem? (i := 2) rfl)) hstr_31 (vx_hat (B := [.declares (Bundle.initS "java/lang/RuntimeException"), .declares (Bundle.initS "java/lang/Exception"), .declares (Bundle.initS Bundle.tN), .castable "java/lang/IllegalArgumentException" "java/lang/IllegalArgumentException"]) (fun w hw => hts w (bk0 w hw)) (by decide +kernel) (vx_c (va_Nw.use rfl hE.2.2.2.1) (vx_c (va_Nw.use rfl hE.2.2.2.2.1) (vx_c (va_Nw.use rfl hE.2.2.2.2.2.1) (vx_c (va_Nw.use rfl hE.2.2.2.2.2.2.1) vx_n))))) (by decide +kernel) hE.1 hE.2.1 hS (by rw [hml]; exact hl.1) dX9_type_52 dX9_type_55 dX9_type_56 dX9_type_58 dX9_type_61 (fun x9 hx9 => (htb x9 hx9).elim) (Nat.le_of_ble_eq_true rfl) (Nat.le_of_ble_eq_true rfl) (Nat.le_of_ble_eq_true rfl) (Nat.le_of_ble_eq_true rfl) hlocks (fun t9 hvm9 h1 h2 => ⟨(), trivial, ⟨rfl, fun h9 => by have := h9.2.2 i (by omega); omega⟩, k_F hS h1 h2⟩) hS.2.2 (Nat.le_of_ble_eq_true rfl) (Nat.le_of_ble_eq_true rfl)
      exact loop_5 _ 0 (Nat.lt_succ_self _) (Nat.zero_le _) (fun t h => absurd h (Nat.not_lt_zero _)) _ _ _ (hP.sub (ws' := [(h0, .inr (12, [.ref (q 0), .ref (q 9), .ref (q 11), .ref (q 17), .ref (q 18), .ref (q 19), .ref (q 26), .ref (q 27), .ref (q 32), .ref (q 33), .ref (q 34), .int (-1)])), (q 9, .inr (10, [.ref (q 10), .int (nI 0), .int (nI 0), .int (nI 0), .int (nI 0)])), (q 10, .inl (k 4, 64, .inl (fun _ => 0)))]) [0, 1, 2] rfl) (hD.sub (ws' := [(h0, .inr (12, [.ref (q 0), .ref (q 9), .ref (q 11), .ref (q 17), .ref (q 18), .ref (q 19), .ref (q 26), .ref (q 27), .ref (q 32), .ref (q 33), .ref (q 34), .int (-1)])), (q 9, .inr (10, [.ref (q 10), .int (nI 0), .int (nI 0), .int (nI 0), .int (nI 0)])), (q 10, .inl (k 4, 64, .inl (fun _ => 0)))]) [0, 1, 2] (by decide) rfl) (hK.sub (tys' := [(k 4, .char)]) [0] rfl) hS (lv_sub (l' := [(0, .ref h0), (1, .long w), (3, .int (nI j)), (4, .int (nI 0))]) hl [1, 2, 3, 0] rfl)
    · have c_4 := mt (k_le n (nI 8)).mpr c_4
      rw [show (nI 8).toInt = 8 from by decide] at c_4
      obtain ⟨sa_32, hstr_33⟩ := hE.2.2.1 (92, "n is not 1 .. 8") (by decide +kernel)
      exact vx_throwS (own := RX9) (cls := "java/lang/IllegalArgumentException") (text := "n is not 1 .. 8") (names := ["java/lang/RuntimeException", "java/lang/Exception"]) (ik := 90) (is := 92) (ic := 94) (sa := sa_32) (A := A) hx hb hlt hown (by decide +kernel) (by decide +kernel) (hts (.classLink RX9 90 "java/lang/IllegalArgumentException") (List.mem_of_getElem? (i := 1) rfl)) (hts (.initialized "java/lang/IllegalArgumentException") (List.mem_of_getElem? (i := 2) rfl)) hstr_33 (vx_hat (B := [.declares (Bundle.initS "java/lang/RuntimeException"), .declares (Bundle.initS "java/lang/Exception"), .declares (Bundle.initS Bundle.tN), .castable "java/lang/IllegalArgumentException" "java/lang/IllegalArgumentException"]) (fun w hw => hts w (bk0 w hw)) (by decide +kernel) (vx_c (va_Nw.use rfl hE.2.2.2.1) (vx_c (va_Nw.use rfl hE.2.2.2.2.1) (vx_c (va_Nw.use rfl hE.2.2.2.2.2.1) (vx_c (va_Nw.use rfl hE.2.2.2.2.2.2.1) vx_n))))) (by decide +kernel) hE.1 hE.2.1 hS (by rw [hml]; exact hl.1) dX9_type_11 dX9_type_14 dX9_type_15 dX9_type_17 dX9_type_20 (fun x9 hx9 => (htb x9 hx9).elim) (Nat.le_of_ble_eq_true rfl) (Nat.le_of_ble_eq_true rfl) (Nat.le_of_ble_eq_true rfl) (Nat.le_of_ble_eq_true rfl) hlocks (fun t9 hvm9 h1 h2 => ⟨(), trivial, ⟨rfl, fun h9 => by have := h9.1; have := h9.2.1; omega⟩, k_F hS h1 h2⟩) hS.2.2 (Nat.le_of_ble_eq_true rfl) (Nat.le_of_ble_eq_true rfl)
