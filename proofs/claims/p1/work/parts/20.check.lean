def wd_X9_checkName : List Cond := .code yX9_checkName cX9_checkName 1 none :: (([.classLink RX9 90 "java/lang/IllegalArgumentException", .initialized "java/lang/IllegalArgumentException"] : List Cond) ++ ((vx_atS RX9 94 "java/lang/IllegalArgumentException" ["java/lang/RuntimeException", "java/lang/Exception"]).filter goodWord ++ ([])))
theorem gw_X9_checkName : wd_X9_checkName.all goodWord = true := k_allc rfl (k_all (by decide +kernel) (k_all (k_allf _ _) (rfl)))
abbrev at_X9_checkName (dC : Nat → ClassId) (dI : Nat → Nat → Nat) (A : Nat → Prop) (x : Int32) (u : Unit) (t : State) : Prop := match u with
  | () => va_P (dC, dI) vwCl [] t.heap ∧ va_K (dC, dI) vwCl [] t ∧ va_D A []
set_option maxHeartbeats 4000000 in
set_option maxRecDepth 100000 in
theorem c_X9_checkName (l : Launch) (hlt : l.stackTraces = false) (dC : Nat → ClassId) (dI : Nat → Nat → Nat) (A : Nat → Prop) (sz : Nat) (hA0 : ∀ q, sz ≤ q → A q) (x : Int32)  : vx_Met l yX9_checkName wd_X9_checkName ({ frames := 10, cells := 1, slots := 6, locals := 200 }) (va_Pc [.int x] (fun U => U.heap.size = sz ∧ va_P (dC, dI) vwCl [] U.heap ∧ va_K (dC, dI) vwCl [] U ∧ va_D A [] ∧ exF A U U.heap)) (va_Qv (fun (u : Unit) => match u with | () => 0 ≤ x.toInt ∧ x.toInt ≤ 7) (at_X9_checkName dC dI A x) A) (vx_X (fun _ : Unit => True) (fun E _ _ => E = "java/lang/IllegalArgumentException" ∧ (x.toInt < 0 ∨ 7 < x.toInt)) A) (1) (6) A := by
  refine vx_ofW (cc := cX9_checkName) (maxL := 1) (ret := none) (by decide) rfl ?_
  intro p e s m args below meth c s₁ B hml htb hv
  obtain ⟨rfl, hsz, hP, hK, hD, hE⟩ := hv
  have hx := B.exec
  have hb := B.bytes
  have hr := B.returns
  have hts := atoms_spec (ws := wd_X9_checkName) B.pre
  have hown : s.vm.findClass RX9 = some m.cls := findClass_of_methodNamed B.named
  have hlocks := B.notSynchronized
  have bk0 : ∀ w ∈ (vx_atS RX9 94 "java/lang/IllegalArgumentException" ["java/lang/RuntimeException", "java/lang/Exception"]).filter goodWord, w ∈ wd_X9_checkName := fun _ h => List.mem_cons_of_mem _ (List.mem_append_right _ (List.mem_append_left _ h))
  subst hsz
  have hA : ∀ q : Nat, s.heap.size ≤ q → A q := hA0
  have hS : va_S A s.heap s.heap [] := va_S.rf
  have hl := lv_entry ([.int x]) (n := 1) (Nat.le_of_ble_eq_true rfl)
  rw [lg_entry_eq]
  generalize (lg_sl ([.int x]) ++ List.replicate (1 - (lg_sl ([.int x])).length) Slot.unset).toArray = ls at hl ⊢
  have hl : lv_has ls 1 [(0, .int x)] := hl
  refine lv_iload_n hx hb dX9_checkName_0 rfl (lv_at hl 0 rfl) ?_
  refine lv_if_lt (tgt := 10) hx hb dX9_checkName_1 (by decide) (fun c_1 => ?_) (fun c_1 => ?_)
  · have c_1 := (k_lt x (nI 0)).mp c_1
    rw [show (nI 0).toInt = 0 from by decide] at c_1
    obtain ⟨sa_2, hstr_3⟩ := hE.2.2.1 (265, "a name is not 0 .. 7") (by decide +kernel)
    exact vx_throwSW (own := RX9) (cls := "java/lang/IllegalArgumentException") (text := "a name is not 0 .. 7") (names := ["java/lang/RuntimeException", "java/lang/Exception"]) (ik := 90) (is := 265) (ic := 94) (sa := sa_2) (A := A) hx hb hlt hown (by decide +kernel) (by decide +kernel) (hts (.classLink RX9 90 "java/lang/IllegalArgumentException") (List.mem_of_getElem? (i := 1) rfl)) (hts (.initialized "java/lang/IllegalArgumentException") (List.mem_of_getElem? (i := 2) rfl)) hstr_3 (vx_hat (B := [.declares (Bundle.initS "java/lang/RuntimeException"), .declares (Bundle.initS "java/lang/Exception"), .declares (Bundle.initS Bundle.tN), .castable "java/lang/IllegalArgumentException" "java/lang/IllegalArgumentException"]) (fun w hw => hts w (bk0 w hw)) (by decide +kernel) (vx_c (va_Nw.use rfl hE.2.2.2.1) (vx_c (va_Nw.use rfl hE.2.2.2.2.1) (vx_c (va_Nw.use rfl hE.2.2.2.2.2.1) (vx_c (va_Nw.use rfl hE.2.2.2.2.2.2.1) vx_n))))) (by decide +kernel) hE.1 hE.2.1 hS (by rw [hml]; exact hl.1) dX9_checkName_10 dX9_checkName_13 dX9_checkName_14 dX9_checkName_17 dX9_checkName_20 (fun x9 hx9 => (htb x9 hx9).elim) (Nat.le_of_ble_eq_true rfl) (Nat.le_of_ble_eq_true rfl) (Nat.le_of_ble_eq_true rfl) (Nat.le_of_ble_eq_true rfl) hlocks (fun t9 hvm9 h1 h2 => ⟨(), trivial, ⟨rfl, by omega⟩, k_F hS h1 h2⟩) hS.2.2 (Nat.le_of_ble_eq_true rfl) (Nat.le_of_ble_eq_true rfl)
  · have c_1 := mt (k_lt x (nI 0)).mpr c_1
    rw [show (nI 0).toInt = 0 from by decide] at c_1
    refine lv_iload_n hx hb dX9_checkName_4 rfl (lv_at hl 0 rfl) ?_
    refine lv_bipush (v := nI 8) hx hb dX9_checkName_5 (by decide +kernel) ?_
    refine lv_icmp_lt (tgt := 21) hx hb dX9_checkName_7 (by decide) (fun c_4 => ?_) (fun c_4 => ?_)
    · have c_4 := (k_lt x (nI 8)).mp c_4
      rw [show (nI 8).toInt = 8 from by decide] at c_4
      have hP9 := hP.sub (ws' := []) [] rfl
      have hD9 := hD.sub (ws' := []) [] (by decide) rfl
      have hK9 := hK.sub (tys' := []) [] rfl
      refine vx_ret ?_
      refine W.widen (k := 1) (n := 6) (by omega) (by omega) ?_
      exact W.vret hx hb hr (fun t ht hW => ⟨⟨(), rfl, (by omega), by rw [ht]; exact hP9, va_K.moved hW.alike hK9, hD9⟩, hS.F ht⟩) hS.2.2 dX9_checkName_21
    · have c_4 := mt (k_lt x (nI 8)).mpr c_4
      rw [show (nI 8).toInt = 8 from by decide] at c_4
      obtain ⟨sa_5, hstr_6⟩ := hE.2.2.1 (265, "a name is not 0 .. 7") (by decide +kernel)
      exact vx_throwSW (own := RX9) (cls := "java/lang/IllegalArgumentException") (text := "a name is not 0 .. 7") (names := ["java/lang/RuntimeException", "java/lang/Exception"]) (ik := 90) (is := 265) (ic := 94) (sa := sa_5) (A := A) hx hb hlt hown (by decide +kernel) (by decide +kernel) (hts (.classLink RX9 90 "java/lang/IllegalArgumentException") (List.mem_of_getElem? (i := 1) rfl)) (hts (.initialized "java/lang/IllegalArgumentException") (List.mem_of_getElem? (i := 2) rfl)) hstr_6 (vx_hat (B := [.declares (Bundle.initS "java/lang/RuntimeException"), .declares (Bundle.initS "java/lang/Exception"), .declares (Bundle.initS Bundle.tN), .castable "java/lang/IllegalArgumentException" "java/lang/IllegalArgumentException"]) (fun w hw => hts w (bk0 w hw)) (by decide +kernel) (vx_c (va_Nw.use rfl hE.2.2.2.1) (vx_c (va_Nw.use rfl hE.2.2.2.2.1) (vx_c (va_Nw.use rfl hE.2.2.2.2.2.1) (vx_c (va_Nw.use rfl hE.2.2.2.2.2.2.1) vx_n))))) (by decide +kernel) hE.1 hE.2.1 hS (by rw [hml]; exact hl.1) dX9_checkName_10 dX9_checkName_13 dX9_checkName_14 dX9_checkName_17 dX9_checkName_20 (fun x9 hx9 => (htb x9 hx9).elim) (Nat.le_of_ble_eq_true rfl) (Nat.le_of_ble_eq_true rfl) (Nat.le_of_ble_eq_true rfl) (Nat.le_of_ble_eq_true rfl) hlocks (fun t9 hvm9 h1 h2 => ⟨(), trivial, ⟨rfl, by omega⟩, k_F hS h1 h2⟩) hS.2.2 (Nat.le_of_ble_eq_true rfl) (Nat.le_of_ble_eq_true rfl)
def wd_X9_checkVariable : List Cond := .code yX9_checkVariable cX9_checkVariable 1 none :: (([.classLink RX9 90 "java/lang/IllegalArgumentException", .initialized "java/lang/IllegalArgumentException"] : List Cond) ++ ((vx_atS RX9 94 "java/lang/IllegalArgumentException" ["java/lang/RuntimeException", "java/lang/Exception"]).filter goodWord ++ ([])))
theorem gw_X9_checkVariable : wd_X9_checkVariable.all goodWord = true := k_allc rfl (k_all (by decide +kernel) (k_all (k_allf _ _) (rfl)))
abbrev at_X9_checkVariable (dC : Nat → ClassId) (dI : Nat → Nat → Nat) (A : Nat → Prop) (x : Int32) (u : Unit) (t : State) : Prop := match u with
  | () => va_P (dC, dI) vwCl [] t.heap ∧ va_K (dC, dI) vwCl [] t ∧ va_D A []
set_option maxHeartbeats 4000000 in
set_option maxRecDepth 100000 in
theorem c_X9_checkVariable (l : Launch) (hlt : l.stackTraces = false) (dC : Nat → ClassId) (dI : Nat → Nat → Nat) (A : Nat → Prop) (sz : Nat) (hA0 : ∀ q, sz ≤ q → A q) (x : Int32)  : vx_Met l yX9_checkVariable wd_X9_checkVariable ({ frames := 10, cells := 1, slots := 6, locals := 200 }) (va_Pc [.int x] (fun U => U.heap.size = sz ∧ va_P (dC, dI) vwCl [] U.heap ∧ va_K (dC, dI) vwCl [] U ∧ va_D A [] ∧ exF A U U.heap)) (va_Qv (fun (u : Unit) => match u with | () => 0 ≤ x.toInt ∧ x.toInt ≤ 2) (at_X9_checkVariable dC dI A x) A) (vx_X (fun _ : Unit => True) (fun E _ _ => E = "java/lang/IllegalArgumentException" ∧ (x.toInt < 0 ∨ 2 < x.toInt)) A) (1) (6) A := by
  refine vx_ofW (cc := cX9_checkVariable) (maxL := 1) (ret := none) (by decide) rfl ?_
  intro p e s m args below meth c s₁ B hml htb hv
  obtain ⟨rfl, hsz, hP, hK, hD, hE⟩ := hv
  have hx := B.exec
  have hb := B.bytes
  have hr := B.returns
  have hts := atoms_spec (ws := wd_X9_checkVariable) B.pre
  have hown : s.vm.findClass RX9 = some m.cls := findClass_of_methodNamed B.named
  have hlocks := B.notSynchronized
  have bk0 : ∀ w ∈ (vx_atS RX9 94 "java/lang/IllegalArgumentException" ["java/lang/RuntimeException", "java/lang/Exception"]).filter goodWord, w ∈ wd_X9_checkVariable := fun _ h => List.mem_cons_of_mem _ (List.mem_append_right _ (List.mem_append_left _ h))
  subst hsz
  have hA : ∀ q : Nat, s.heap.size ≤ q → A q := hA0
  have hS : va_S A s.heap s.heap [] := va_S.rf
  have hl := lv_entry ([.int x]) (n := 1) (Nat.le_of_ble_eq_true rfl)
  rw [lg_entry_eq]
  generalize (lg_sl ([.int x]) ++ List.replicate (1 - (lg_sl ([.int x])).length) Slot.unset).toArray = ls at hl ⊢
  have hl : lv_has ls 1 [(0, .int x)] := hl
  refine lv_iload_n hx hb dX9_checkVariable_0 rfl (lv_at hl 0 rfl) ?_
  refine lv_if_lt (tgt := 9) hx hb dX9_checkVariable_1 (by decide) (fun c_1 => ?_) (fun c_1 => ?_)
  · have c_1 := (k_lt x (nI 0)).mp c_1
    rw [show (nI 0).toInt = 0 from by decide] at c_1
    obtain ⟨sa_2, hstr_3⟩ := hE.2.2.1 (267, "there is no such variable") (by decide +kernel)
    exact vx_throwSW (own := RX9) (cls := "java/lang/IllegalArgumentException") (text := "there is no such variable") (names := ["java/lang/RuntimeException", "java/lang/Exception"]) (ik := 90) (is := 267) (ic := 94) (sa := sa_2) (A := A) hx hb hlt hown (by decide +kernel) (by decide +kernel) (hts (.classLink RX9 90 "java/lang/IllegalArgumentException") (List.mem_of_getElem? (i := 1) rfl)) (hts (.initialized "java/lang/IllegalArgumentException") (List.mem_of_getElem? (i := 2) rfl)) hstr_3 (vx_hat (B := [.declares (Bundle.initS "java/lang/RuntimeException"), .declares (Bundle.initS "java/lang/Exception"), .declares (Bundle.initS Bundle.tN), .castable "java/lang/IllegalArgumentException" "java/lang/IllegalArgumentException"]) (fun w hw => hts w (bk0 w hw)) (by decide +kernel) (vx_c (va_Nw.use rfl hE.2.2.2.1) (vx_c (va_Nw.use rfl hE.2.2.2.2.1) (vx_c (va_Nw.use rfl hE.2.2.2.2.2.1) (vx_c (va_Nw.use rfl hE.2.2.2.2.2.2.1) vx_n))))) (by decide +kernel) hE.1 hE.2.1 hS (by rw [hml]; exact hl.1) dX9_checkVariable_9 dX9_checkVariable_12 dX9_checkVariable_13 dX9_checkVariable_16 dX9_checkVariable_19 (fun x9 hx9 => (htb x9 hx9).elim) (Nat.le_of_ble_eq_true rfl) (Nat.le_of_ble_eq_true rfl) (Nat.le_of_ble_eq_true rfl) (Nat.le_of_ble_eq_true rfl) hlocks (fun t9 hvm9 h1 h2 => ⟨(), trivial, ⟨rfl, by omega⟩, k_F hS h1 h2⟩) hS.2.2 (Nat.le_of_ble_eq_true rfl) (Nat.le_of_ble_eq_true rfl)
  · have c_1 := mt (k_lt x (nI 0)).mpr c_1
    rw [show (nI 0).toInt = 0 from by decide] at c_1
    refine lv_iload_n hx hb dX9_checkVariable_4 rfl (lv_at hl 0 rfl) ?_
    refine lv_iconst (v := nI 3) hx hb dX9_checkVariable_5 (by decide +kernel) ?_
    refine lv_icmp_lt (tgt := 20) hx hb dX9_checkVariable_6 (by decide) (fun c_4 => ?_) (fun c_4 => ?_)
    · have c_4 := (k_lt x (nI 3)).mp c_4
      rw [show (nI 3).toInt = 3 from by decide] at c_4
      have hP9 := hP.sub (ws' := []) [] rfl
      have hD9 := hD.sub (ws' := []) [] (by decide) rfl
      have hK9 := hK.sub (tys' := []) [] rfl
      refine vx_ret ?_
      refine W.widen (k := 1) (n := 6) (by omega) (by omega) ?_
      exact W.vret hx hb hr (fun t ht hW => ⟨⟨(), rfl, (by omega), by rw [ht]; exact hP9, va_K.moved hW.alike hK9, hD9⟩, hS.F ht⟩) hS.2.2 dX9_checkVariable_20
    · have c_4 := mt (k_lt x (nI 3)).mpr c_4
      rw [show (nI 3).toInt = 3 from by decide] at c_4
      obtain ⟨sa_5, hstr_6⟩ := hE.2.2.1 (267, "there is no such variable") (by decide +kernel)
      exact vx_throwSW (own := RX9) (cls := "java/lang/IllegalArgumentException") (text := "there is no such variable") (names := ["java/lang/RuntimeException", "java/lang/Exception"]) (ik := 90) (is := 267) (ic := 94) (sa := sa_5) (A := A) hx hb hlt hown (by decide +kernel) (by decide +kernel) (hts (.classLink RX9 90 "java/lang/IllegalArgumentException") (List.mem_of_getElem? (i := 1) rfl)) (hts (.initialized "java/lang/IllegalArgumentException") (List.mem_of_getElem? (i := 2) rfl)) hstr_6 (vx_hat (B := [.declares (Bundle.initS "java/lang/RuntimeException"), .declares (Bundle.initS "java/lang/Exception"), .declares (Bundle.initS Bundle.tN), .castable "java/lang/IllegalArgumentException" "java/lang/IllegalArgumentException"]) (fun w hw => hts w (bk0 w hw)) (by decide +kernel) (vx_c (va_Nw.use rfl hE.2.2.2.1) (vx_c (va_Nw.use rfl hE.2.2.2.2.1) (vx_c (va_Nw.use rfl hE.2.2.2.2.2.1) (vx_c (va_Nw.use rfl hE.2.2.2.2.2.2.1) vx_n))))) (by decide +kernel) hE.1 hE.2.1 hS (by rw [hml]; exact hl.1) dX9_checkVariable_9 dX9_checkVariable_12 dX9_checkVariable_13 dX9_checkVariable_16 dX9_checkVariable_19 (fun x9 hx9 => (htb x9 hx9).elim) (Nat.le_of_ble_eq_true rfl) (Nat.le_of_ble_eq_true rfl) (Nat.le_of_ble_eq_true rfl) (Nat.le_of_ble_eq_true rfl) hlocks (fun t9 hvm9 h1 h2 => ⟨(), trivial, ⟨rfl, by omega⟩, k_F hS h1 h2⟩) hS.2.2 (Nat.le_of_ble_eq_true rfl) (Nat.le_of_ble_eq_true rfl)
def wd_X9_checkStep : List Cond := .code yX9_checkStep cX9_checkStep 1 none :: (([.classLink RX9 90 "java/lang/IllegalArgumentException", .initialized "java/lang/IllegalArgumentException"] : List Cond) ++ ((vx_atS RX9 94 "java/lang/IllegalArgumentException" ["java/lang/RuntimeException", "java/lang/Exception"]).filter goodWord ++ ([])))
theorem gw_X9_checkStep : wd_X9_checkStep.all goodWord = true := k_allc rfl (k_all (by decide +kernel) (k_all (k_allf _ _) (rfl)))
abbrev at_X9_checkStep (dC : Nat → ClassId) (dI : Nat → Nat → Nat) (A : Nat → Prop) (x : Int32) (u : Unit) (t : State) : Prop := match u with
  | () => va_P (dC, dI) vwCl [] t.heap ∧ va_K (dC, dI) vwCl [] t ∧ va_D A []
set_option maxHeartbeats 4000000 in
set_option maxRecDepth 100000 in
theorem c_X9_checkStep (l : Launch) (hlt : l.stackTraces = false) (dC : Nat → ClassId) (dI : Nat → Nat → Nat) (A : Nat → Prop) (sz : Nat) (hA0 : ∀ q, sz ≤ q → A q) (x : Int32)  : vx_Met l yX9_checkStep wd_X9_checkStep ({ frames := 10, cells := 1, slots := 6, locals := 200 }) (va_Pc [.int x] (fun U => U.heap.size = sz ∧ va_P (dC, dI) vwCl [] U.heap ∧ va_K (dC, dI) vwCl [] U ∧ va_D A [] ∧ exF A U U.heap)) (va_Qv (fun (u : Unit) => match u with | () => -999 ≤ x.toInt ∧ x.toInt ≤ 999) (at_X9_checkStep dC dI A x) A) (vx_X (fun _ : Unit => True) (fun E _ _ => E = "java/lang/IllegalArgumentException" ∧ (x.toInt < -999 ∨ 999 < x.toInt)) A) (1) (6) A := by
  refine vx_ofW (cc := cX9_checkStep) (maxL := 1) (ret := none) (by decide) rfl ?_
  intro p e s m args below meth c s₁ B hml htb hv
  obtain ⟨rfl, hsz, hP, hK, hD, hE⟩ := hv
  have hx := B.exec
  have hb := B.bytes
  have hr := B.returns
  have hts := atoms_spec (ws := wd_X9_checkStep) B.pre
  have hown : s.vm.findClass RX9 = some m.cls := findClass_of_methodNamed B.named
  have hlocks := B.notSynchronized
  have bk0 : ∀ w ∈ (vx_atS RX9 94 "java/lang/IllegalArgumentException" ["java/lang/RuntimeException", "java/lang/Exception"]).filter goodWord, w ∈ wd_X9_checkStep := fun _ h => List.mem_cons_of_mem _ (List.mem_append_right _ (List.mem_append_left _ h))
  subst hsz
  have hA : ∀ q : Nat, s.heap.size ≤ q → A q := hA0
  have hS : va_S A s.heap s.heap [] := va_S.rf
  have hl := lv_entry ([.int x]) (n := 1) (Nat.le_of_ble_eq_true rfl)
  rw [lg_entry_eq]
  generalize (lg_sl ([.int x]) ++ List.replicate (1 - (lg_sl ([.int x])).length) Slot.unset).toArray = ls at hl ⊢
  have hl : lv_has ls 1 [(0, .int x)] := hl
  refine lv_iload_n hx hb dX9_checkStep_0 rfl (lv_at hl 0 rfl) ?_
  refine lv_sipush (v := -999) hx hb dX9_checkStep_1 (by decide +kernel) ?_
  refine lv_icmp_lt (tgt := 14) hx hb dX9_checkStep_4 (by decide) (fun c_1 => ?_) (fun c_1 => ?_)
  · have c_1 := (k_lt x (-999)).mp c_1
    rw [show ((-999 : Int32)).toInt = -999 from by decide] at c_1
    obtain ⟨sa_2, hstr_3⟩ := hE.2.2.1 (269, "x, y or z is not -999 .. 999") (by decide +kernel)
    exact vx_throwSW (own := RX9) (cls := "java/lang/IllegalArgumentException") (text := "x, y or z is not -999 .. 999") (names := ["java/lang/RuntimeException", "java/lang/Exception"]) (ik := 90) (is := 269) (ic := 94) (sa := sa_2) (A := A) hx hb hlt hown (by decide +kernel) (by decide +kernel) (hts (.classLink RX9 90 "java/lang/IllegalArgumentException") (List.mem_of_getElem? (i := 1) rfl)) (hts (.initialized "java/lang/IllegalArgumentException") (List.mem_of_getElem? (i := 2) rfl)) hstr_3 (vx_hat (B := [.declares (Bundle.initS "java/lang/RuntimeException"), .declares (Bundle.initS "java/lang/Exception"), .declares (Bundle.initS Bundle.tN), .castable "java/lang/IllegalArgumentException" "java/lang/IllegalArgumentException"]) (fun w hw => hts w (bk0 w hw)) (by decide +kernel) (vx_c (va_Nw.use rfl hE.2.2.2.1) (vx_c (va_Nw.use rfl hE.2.2.2.2.1) (vx_c (va_Nw.use rfl hE.2.2.2.2.2.1) (vx_c (va_Nw.use rfl hE.2.2.2.2.2.2.1) vx_n))))) (by decide +kernel) hE.1 hE.2.1 hS (by rw [hml]; exact hl.1) dX9_checkStep_14 dX9_checkStep_17 dX9_checkStep_18 dX9_checkStep_21 dX9_checkStep_24 (fun x9 hx9 => (htb x9 hx9).elim) (Nat.le_of_ble_eq_true rfl) (Nat.le_of_ble_eq_true rfl) (Nat.le_of_ble_eq_true rfl) (Nat.le_of_ble_eq_true rfl) hlocks (fun t9 hvm9 h1 h2 => ⟨(), trivial, ⟨rfl, by omega⟩, k_F hS h1 h2⟩) hS.2.2 (Nat.le_of_ble_eq_true rfl) (Nat.le_of_ble_eq_true rfl)
  · have c_1 := mt (k_lt x (-999)).mpr c_1
    rw [show ((-999 : Int32)).toInt = -999 from by decide] at c_1
    refine lv_iload_n hx hb dX9_checkStep_7 rfl (lv_at hl 0 rfl) ?_
    refine lv_sipush (v := nI 999) hx hb dX9_checkStep_8 (by decide +kernel) ?_
    refine lv_icmp_le (tgt := 25) hx hb dX9_checkStep_11 (by decide) (fun c_4 => ?_) (fun c_4 => ?_)
    · have c_4 := (k_le x (nI 999)).mp c_4
      rw [show (nI 999).toInt = 999 from by decide] at c_4
      have hP9 := hP.sub (ws' := []) [] rfl
      have hD9 := hD.sub (ws' := []) [] (by decide) rfl
      have hK9 := hK.sub (tys' := []) [] rfl
      refine vx_ret ?_
      refine W.widen (k := 1) (n := 6) (by omega) (by omega) ?_
      exact W.vret hx hb hr (fun t ht hW => ⟨⟨(), rfl, (by omega), by rw [ht]; exact hP9, va_K.moved hW.alike hK9, hD9⟩, hS.F ht⟩) hS.2.2 dX9_checkStep_25
    · have c_4 := mt (k_le x (nI 999)).mpr c_4
      rw [show (nI 999).toInt = 999 from by decide] at c_4
      obtain ⟨sa_5, hstr_6⟩ := hE.2.2.1 (269, "x, y or z is not -999 .. 999") (by decide +kernel)
      exact vx_throwSW (own := RX9) (cls := "java/lang/IllegalArgumentException") (text := "x, y or z is not -999 .. 999") (names := ["java/lang/RuntimeException", "java/lang/Exception"]) (ik := 90) (is := 269) (ic := 94) (sa := sa_5) (A := A) hx hb hlt hown (by decide +kernel) (by decide +kernel) (hts (.classLink RX9 90 "java/lang/IllegalArgumentException") (List.mem_of_getElem? (i := 1) rfl)) (hts (.initialized "java/lang/IllegalArgumentException") (List.mem_of_getElem? (i := 2) rfl)) hstr_6 (vx_hat (B := [.declares (Bundle.initS "java/lang/RuntimeException"), .declares (Bundle.initS "java/lang/Exception"), .declares (Bundle.initS Bundle.tN), .castable "java/lang/IllegalArgumentException" "java/lang/IllegalArgumentException"]) (fun w hw => hts w (bk0 w hw)) (by decide +kernel) (vx_c (va_Nw.use rfl hE.2.2.2.1) (vx_c (va_Nw.use rfl hE.2.2.2.2.1) (vx_c (va_Nw.use rfl hE.2.2.2.2.2.1) (vx_c (va_Nw.use rfl hE.2.2.2.2.2.2.1) vx_n))))) (by decide +kernel) hE.1 hE.2.1 hS (by rw [hml]; exact hl.1) dX9_checkStep_14 dX9_checkStep_17 dX9_checkStep_18 dX9_checkStep_21 dX9_checkStep_24 (fun x9 hx9 => (htb x9 hx9).elim) (Nat.le_of_ble_eq_true rfl) (Nat.le_of_ble_eq_true rfl) (Nat.le_of_ble_eq_true rfl) (Nat.le_of_ble_eq_true rfl) hlocks (fun t9 hvm9 h1 h2 => ⟨(), trivial, ⟨rfl, by omega⟩, k_F hS h1 h2⟩) hS.2.2 (Nat.le_of_ble_eq_true rfl) (Nat.le_of_ble_eq_true rfl)
def wd_X9_checkSide : List Cond := .code yX9_checkSide cX9_checkSide 1 none :: (([.classLink RX9 90 "java/lang/IllegalArgumentException", .initialized "java/lang/IllegalArgumentException"] : List Cond) ++ ((vx_atS RX9 94 "java/lang/IllegalArgumentException" ["java/lang/RuntimeException", "java/lang/Exception"]).filter goodWord ++ ([])))
theorem gw_X9_checkSide : wd_X9_checkSide.all goodWord = true := k_allc rfl (k_all (by decide +kernel) (k_all (k_allf _ _) (rfl)))
abbrev at_X9_checkSide (dC : Nat → ClassId) (dI : Nat → Nat → Nat) (A : Nat → Prop) (x : Int32) (u : Unit) (t : State) : Prop := match u with
  | () => va_P (dC, dI) vwCl [] t.heap ∧ va_K (dC, dI) vwCl [] t ∧ va_D A []
set_option maxHeartbeats 4000000 in
set_option maxRecDepth 100000 in
theorem c_X9_checkSide (l : Launch) (hlt : l.stackTraces = false) (dC : Nat → ClassId) (dI : Nat → Nat → Nat) (A : Nat → Prop) (sz : Nat) (hA0 : ∀ q, sz ≤ q → A q) (x : Int32)  : vx_Met l yX9_checkSide wd_X9_checkSide ({ frames := 10, cells := 1, slots := 6, locals := 200 }) (va_Pc [.int x] (fun U => U.heap.size = sz ∧ va_P (dC, dI) vwCl [] U.heap ∧ va_K (dC, dI) vwCl [] U ∧ va_D A [] ∧ exF A U U.heap)) (va_Qv (fun (u : Unit) => match u with | () => 0 ≤ x.toInt ∧ x.toInt ≤ 1) (at_X9_checkSide dC dI A x) A) (vx_X (fun _ : Unit => True) (fun E _ _ => E = "java/lang/IllegalArgumentException" ∧ (x.toInt < 0 ∨ 1 < x.toInt)) A) (1) (6) A := by
  refine vx_ofW (cc := cX9_checkSide) (maxL := 1) (ret := none) (by decide) rfl ?_
  intro p e s m args below meth c s₁ B hml htb hv
  obtain ⟨rfl, hsz, hP, hK, hD, hE⟩ := hv
  have hx := B.exec
  have hb := B.bytes
  have hr := B.returns
  have hts := atoms_spec (ws := wd_X9_checkSide) B.pre
  have hown : s.vm.findClass RX9 = some m.cls := findClass_of_methodNamed B.named
  have hlocks := B.notSynchronized
  have bk0 : ∀ w ∈ (vx_atS RX9 94 "java/lang/IllegalArgumentException" ["java/lang/RuntimeException", "java/lang/Exception"]).filter goodWord, w ∈ wd_X9_checkSide := fun _ h => List.mem_cons_of_mem _ (List.mem_append_right _ (List.mem_append_left _ h))
  subst hsz
  have hA : ∀ q : Nat, s.heap.size ≤ q → A q := hA0
  have hS : va_S A s.heap s.heap [] := va_S.rf
  have hl := lv_entry ([.int x]) (n := 1) (Nat.le_of_ble_eq_true rfl)
  rw [lg_entry_eq]
  generalize (lg_sl ([.int x]) ++ List.replicate (1 - (lg_sl ([.int x])).length) Slot.unset).toArray = ls at hl ⊢
  have hl : lv_has ls 1 [(0, .int x)] := hl
  refine lv_iload_n hx hb dX9_checkSide_0 rfl (lv_at hl 0 rfl) ?_
  refine lv_if_lt (tgt := 9) hx hb dX9_checkSide_1 (by decide) (fun c_1 => ?_) (fun c_1 => ?_)
  · have c_1 := (k_lt x (nI 0)).mp c_1
    rw [show (nI 0).toInt = 0 from by decide] at c_1
    obtain ⟨sa_2, hstr_3⟩ := hE.2.2.1 (271, "which is not 0 or 1") (by decide +kernel)
    exact vx_throwSW (own := RX9) (cls := "java/lang/IllegalArgumentException") (text := "which is not 0 or 1") (names := ["java/lang/RuntimeException", "java/lang/Exception"]) (ik := 90) (is := 271) (ic := 94) (sa := sa_2) (A := A) hx hb hlt hown (by decide +kernel) (by decide +kernel) (hts (.classLink RX9 90 "java/lang/IllegalArgumentException") (List.mem_of_getElem? (i := 1) rfl)) (hts (.initialized "java/lang/IllegalArgumentException") (List.mem_of_getElem? (i := 2) rfl)) hstr_3 (vx_hat (B := [.declares (Bundle.initS "java/lang/RuntimeException"), .declares (Bundle.initS "java/lang/Exception"), .declares (Bundle.initS Bundle.tN), .castable "java/lang/IllegalArgumentException" "java/lang/IllegalArgumentException"]) (fun w hw => hts w (bk0 w hw)) (by decide +kernel) (vx_c (va_Nw.use rfl hE.2.2.2.1) (vx_c (va_Nw.use rfl hE.2.2.2.2.1) (vx_c (va_Nw.use rfl hE.2.2.2.2.2.1) (vx_c (va_Nw.use rfl hE.2.2.2.2.2.2.1) vx_n))))) (by decide +kernel) hE.1 hE.2.1 hS (by rw [hml]; exact hl.1) dX9_checkSide_9 dX9_checkSide_12 dX9_checkSide_13 dX9_checkSide_16 dX9_checkSide_19 (fun x9 hx9 => (htb x9 hx9).elim) (Nat.le_of_ble_eq_true rfl) (Nat.le_of_ble_eq_true rfl) (Nat.le_of_ble_eq_true rfl) (Nat.le_of_ble_eq_true rfl) hlocks (fun t9 hvm9 h1 h2 => ⟨(), trivial, ⟨rfl, by omega⟩, k_F hS h1 h2⟩) hS.2.2 (Nat.le_of_ble_eq_true rfl) (Nat.le_of_ble_eq_true rfl)
  · have c_1 := mt (k_lt x (nI 0)).mpr c_1
    rw [show (nI 0).toInt = 0 from by decide] at c_1
    refine lv_iload_n hx hb dX9_checkSide_4 rfl (lv_at hl 0 rfl) ?_
    refine lv_iconst (v := nI 1) hx hb dX9_checkSide_5 (by decide +kernel) ?_
    refine lv_icmp_le (tgt := 20) hx hb dX9_checkSide_6 (by decide) (fun c_4 => ?_) (fun c_4 => ?_)
    · have c_4 := (k_le x (nI 1)).mp c_4
      rw [show (nI 1).toInt = 1 from by decide] at c_4
      have hP9 := hP.sub (ws' := []) [] rfl
      have hD9 := hD.sub (ws' := []) [] (by decide) rfl
      have hK9 := hK.sub (tys' := []) [] rfl
      refine vx_ret ?_
      refine W.widen (k := 1) (n := 6) (by omega) (by omega) ?_
      exact W.vret hx hb hr (fun t ht hW => ⟨⟨(), rfl, (by omega), by rw [ht]; exact hP9, va_K.moved hW.alike hK9, hD9⟩, hS.F ht⟩) hS.2.2 dX9_checkSide_20
    · have c_4 := mt (k_le x (nI 1)).mpr c_4
      rw [show (nI 1).toInt = 1 from by decide] at c_4
      obtain ⟨sa_5, hstr_6⟩ := hE.2.2.1 (271, "which is not 0 or 1") (by decide +kernel)
      exact vx_throwSW (own := RX9) (cls := "java/lang/IllegalArgumentException") (text := "which is not 0 or 1") (names := ["java/lang/RuntimeException", "java/lang/Exception"]) (ik := 90) (is := 271) (ic := 94) (sa := sa_5) (A := A) hx hb hlt hown (by decide +kernel) (by decide +kernel) (hts (.classLink RX9 90 "java/lang/IllegalArgumentException") (List.mem_of_getElem? (i := 1) rfl)) (hts (.initialized "java/lang/IllegalArgumentException") (List.mem_of_getElem? (i := 2) rfl)) hstr_6 (vx_hat (B := [.declares (Bundle.initS "java/lang/RuntimeException"), .declares (Bundle.initS "java/lang/Exception"), .declares (Bundle.initS Bundle.tN), .castable "java/lang/IllegalArgumentException" "java/lang/IllegalArgumentException"]) (fun w hw => hts w (bk0 w hw)) (by decide +kernel) (vx_c (va_Nw.use rfl hE.2.2.2.1) (vx_c (va_Nw.use rfl hE.2.2.2.2.1) (vx_c (va_Nw.use rfl hE.2.2.2.2.2.1) (vx_c (va_Nw.use rfl hE.2.2.2.2.2.2.1) vx_n))))) (by decide +kernel) hE.1 hE.2.1 hS (by rw [hml]; exact hl.1) dX9_checkSide_9 dX9_checkSide_12 dX9_checkSide_13 dX9_checkSide_16 dX9_checkSide_19 (fun x9 hx9 => (htb x9 hx9).elim) (Nat.le_of_ble_eq_true rfl) (Nat.le_of_ble_eq_true rfl) (Nat.le_of_ble_eq_true rfl) (Nat.le_of_ble_eq_true rfl) hlocks (fun t9 hvm9 h1 h2 => ⟨(), trivial, ⟨rfl, by omega⟩, k_F hS h1 h2⟩) hS.2.2 (Nat.le_of_ble_eq_true rfl) (Nat.le_of_ble_eq_true rfl)
def wd_X9_checkResult : List Cond := .code yX9_checkResult cX9_checkResult 1 none :: (([.classLink RX9 241 "java/lang/IndexOutOfBoundsException", .initialized "java/lang/IndexOutOfBoundsException"] : List Cond) ++ ((vx_atS RX9 245 "java/lang/IndexOutOfBoundsException" ["java/lang/RuntimeException", "java/lang/Exception"]).filter goodWord ++ ([])))
theorem gw_X9_checkResult : wd_X9_checkResult.all goodWord = true := k_allc rfl (k_all (by decide +kernel) (k_all (k_allf _ _) (rfl)))
abbrev at_X9_checkResult (dC : Nat → ClassId) (dI : Nat → Nat → Nat) (A : Nat → Prop) (x : Int32) (u : Unit) (t : State) : Prop := match u with
  | () => va_P (dC, dI) vwCl [] t.heap ∧ va_K (dC, dI) vwCl [] t ∧ va_D A []
set_option maxHeartbeats 4000000 in
set_option maxRecDepth 100000 in
theorem c_X9_checkResult (l : Launch) (hlt : l.stackTraces = false) (dC : Nat → ClassId) (dI : Nat → Nat → Nat) (A : Nat → Prop) (sz : Nat) (hA0 : ∀ q, sz ≤ q → A q) (x : Int32)  : vx_Met l yX9_checkResult wd_X9_checkResult ({ frames := 10, cells := 1, slots := 6, locals := 200 }) (va_Pc [.int x] (fun U => U.heap.size = sz ∧ va_P (dC, dI) vwCl [] U.heap ∧ va_K (dC, dI) vwCl [] U ∧ va_D A [] ∧ exF A U U.heap)) (va_Qv (fun (u : Unit) => match u with | () => 0 ≤ x.toInt ∧ x.toInt ≤ 7) (at_X9_checkResult dC dI A x) A) (vx_X (fun _ : Unit => True) (fun E _ _ => E = "java/lang/IndexOutOfBoundsException" ∧ (x.toInt < 0 ∨ 7 < x.toInt)) A) (1) (6) A := by
  refine vx_ofW (cc := cX9_checkResult) (maxL := 1) (ret := none) (by decide) rfl ?_
  intro p e s m args below meth c s₁ B hml htb hv
  obtain ⟨rfl, hsz, hP, hK, hD, hE⟩ := hv
  have hx := B.exec
  have hb := B.bytes
  have hr := B.returns
  have hts := atoms_spec (ws := wd_X9_checkResult) B.pre
  have hown : s.vm.findClass RX9 = some m.cls := findClass_of_methodNamed B.named
  have hlocks := B.notSynchronized
  have bk0 : ∀ w ∈ (vx_atS RX9 245 "java/lang/IndexOutOfBoundsException" ["java/lang/RuntimeException", "java/lang/Exception"]).filter goodWord, w ∈ wd_X9_checkResult := fun _ h => List.mem_cons_of_mem _ (List.mem_append_right _ (List.mem_append_left _ h))
  subst hsz
  have hA : ∀ q : Nat, s.heap.size ≤ q → A q := hA0
  have hS : va_S A s.heap s.heap [] := va_S.rf
  have hl := lv_entry ([.int x]) (n := 1) (Nat.le_of_ble_eq_true rfl)
  rw [lg_entry_eq]
  generalize (lg_sl ([.int x]) ++ List.replicate (1 - (lg_sl ([.int x])).length) Slot.unset).toArray = ls at hl ⊢
  have hl : lv_has ls 1 [(0, .int x)] := hl
  refine lv_iload_n hx hb dX9_checkResult_0 rfl (lv_at hl 0 rfl) ?_
  refine lv_if_lt (tgt := 10) hx hb dX9_checkResult_1 (by decide) (fun c_1 => ?_) (fun c_1 => ?_)
  · have c_1 := (k_lt x (nI 0)).mp c_1
    rw [show (nI 0).toInt = 0 from by decide] at c_1
    obtain ⟨sa_2, hstr_3⟩ := hE.2.2.1 (273, "there is no such result") (by decide +kernel)
    exact vx_throwSW (own := RX9) (cls := "java/lang/IndexOutOfBoundsException") (text := "there is no such result") (names := ["java/lang/RuntimeException", "java/lang/Exception"]) (ik := 241) (is := 273) (ic := 245) (sa := sa_2) (A := A) hx hb hlt hown (by decide +kernel) (by decide +kernel) (hts (.classLink RX9 241 "java/lang/IndexOutOfBoundsException") (List.mem_of_getElem? (i := 1) rfl)) (hts (.initialized "java/lang/IndexOutOfBoundsException") (List.mem_of_getElem? (i := 2) rfl)) hstr_3 (vx_hat (B := [.declares (Bundle.initS "java/lang/RuntimeException"), .declares (Bundle.initS "java/lang/Exception"), .declares (Bundle.initS Bundle.tN), .castable "java/lang/IndexOutOfBoundsException" "java/lang/IndexOutOfBoundsException"]) (fun w hw => hts w (bk0 w hw)) (by decide +kernel) (vx_c (va_Nw.use rfl hE.2.2.2.1) (vx_c (va_Nw.use rfl hE.2.2.2.2.1) (vx_c (va_Nw.use rfl hE.2.2.2.2.2.1) (vx_c (va_Nw.use rfl hE.2.2.2.2.2.2.2.2.1) vx_n))))) (by decide +kernel) hE.1 hE.2.1 hS (by rw [hml]; exact hl.1) dX9_checkResult_10 dX9_checkResult_13 dX9_checkResult_14 dX9_checkResult_17 dX9_checkResult_20 (fun x9 hx9 => (htb x9 hx9).elim) (Nat.le_of_ble_eq_true rfl) (Nat.le_of_ble_eq_true rfl) (Nat.le_of_ble_eq_true rfl) (Nat.le_of_ble_eq_true rfl) hlocks (fun t9 hvm9 h1 h2 => ⟨(), trivial, ⟨rfl, by omega⟩, k_F hS h1 h2⟩) hS.2.2 (Nat.le_of_ble_eq_true rfl) (Nat.le_of_ble_eq_true rfl)
  · have c_1 := mt (k_lt x (nI 0)).mpr c_1
    rw [show (nI 0).toInt = 0 from by decide] at c_1
    refine lv_iload_n hx hb dX9_checkResult_4 rfl (lv_at hl 0 rfl) ?_
    refine lv_bipush (v := nI 8) hx hb dX9_checkResult_5 (by decide +kernel) ?_
    refine lv_icmp_lt (tgt := 21) hx hb dX9_checkResult_7 (by decide) (fun c_4 => ?_) (fun c_4 => ?_)
    · have c_4 := (k_lt x (nI 8)).mp c_4
      rw [show (nI 8).toInt = 8 from by decide] at c_4
      have hP9 := hP.sub (ws' := []) [] rfl
      have hD9 := hD.sub (ws' := []) [] (by decide) rfl
      have hK9 := hK.sub (tys' := []) [] rfl
      refine vx_ret ?_
      refine W.widen (k := 1) (n := 6) (by omega) (by omega) ?_
      exact W.vret hx hb hr (fun t ht hW => ⟨⟨(), rfl, (by omega), by rw [ht]; exact hP9, va_K.moved hW.alike hK9, hD9⟩, hS.F ht⟩) hS.2.2 dX9_checkResult_21
    · have c_4 := mt (k_lt x (nI 8)).mpr c_4
      rw [show (nI 8).toInt = 8 from by decide] at c_4
      obtain ⟨sa_5, hstr_6⟩ := hE.2.2.1 (273, "there is no such result") (by decide +kernel)
      exact vx_throwSW (own := RX9) (cls := "java/lang/IndexOutOfBoundsException") (text := "there is no such result") (names := ["java/lang/RuntimeException", "java/lang/Exception"]) (ik := 241) (is := 273) (ic := 245) (sa := sa_5) (A := A) hx hb hlt hown (by decide +kernel) (by decide +kernel) (hts (.classLink RX9 241 "java/lang/IndexOutOfBoundsException") (List.mem_of_getElem? (i := 1) rfl)) (hts (.initialized "java/lang/IndexOutOfBoundsException") (List.mem_of_getElem? (i := 2) rfl)) hstr_6 (vx_hat (B := [.declares (Bundle.initS "java/lang/RuntimeException"), .declares (Bundle.initS "java/lang/Exception"), .declares (Bundle.initS Bundle.tN), .castable "java/lang/IndexOutOfBoundsException" "java/lang/IndexOutOfBoundsException"]) (fun w hw => hts w (bk0 w hw)) (by decide +kernel) (vx_c (va_Nw.use rfl hE.2.2.2.1) (vx_c (va_Nw.use rfl hE.2.2.2.2.1) (vx_c (va_Nw.use rfl hE.2.2.2.2.2.1) (vx_c (va_Nw.use rfl hE.2.2.2.2.2.2.2.2.1) vx_n))))) (by decide +kernel) hE.1 hE.2.1 hS (by rw [hml]; exact hl.1) dX9_checkResult_10 dX9_checkResult_13 dX9_checkResult_14 dX9_checkResult_17 dX9_checkResult_20 (fun x9 hx9 => (htb x9 hx9).elim) (Nat.le_of_ble_eq_true rfl) (Nat.le_of_ble_eq_true rfl) (Nat.le_of_ble_eq_true rfl) (Nat.le_of_ble_eq_true rfl) hlocks (fun t9 hvm9 h1 h2 => ⟨(), trivial, ⟨rfl, by omega⟩, k_F hS h1 h2⟩) hS.2.2 (Nat.le_of_ble_eq_true rfl) (Nat.le_of_ble_eq_true rfl)
def wd_X9_checkPart : List Cond := .code yX9_checkPart cX9_checkPart 2 none :: (([.classLink RX9 241 "java/lang/IndexOutOfBoundsException", .initialized "java/lang/IndexOutOfBoundsException", .fieldLink RX9 28 "GradientDesk" "shelf" "LGradientDesk$Shelf;", .fieldLink RX9 122 "GradientDesk$Shelf" "count" "I"] : List Cond) ++ ((vx_atS RX9 245 "java/lang/IndexOutOfBoundsException" ["java/lang/RuntimeException", "java/lang/Exception"]).filter goodWord ++ (u_ws RX9 TX9 12 ++ (u_ws RX6 TX6 7 ++ ([])))))
theorem gw_X9_checkPart : wd_X9_checkPart.all goodWord = true := k_allc rfl (k_all (by decide +kernel) (k_all (k_allf _ _) (k_all (gu_X9) (k_all (gu_X6) (rfl)))))
abbrev at_X9_checkPart (dC : Nat → ClassId) (dI : Nat → Nat → Nat) (A : Nat → Prop) (h0 : Nat) (q : Nat → Nat) (k : Nat → ClassId) (fr : Nat → Option Nat) (x : Int32) (u : Unit) (t : State) : Prop := match u with
  | () => va_P (dC, dI) vwCl [] t.heap ∧ va_K (dC, dI) vwCl [] t ∧ va_D A []
set_option maxHeartbeats 4000000 in
set_option maxRecDepth 100000 in
theorem c_X9_checkPart (l : Launch) (hlt : l.stackTraces = false) (dC : Nat → ClassId) (dI : Nat → Nat → Nat) (A : Nat → Prop) (sz : Nat) (hA0 : ∀ q, sz ≤ q → A q) (h0 : Nat) (q : Nat → Nat) (k : Nat → ClassId) (fr : Nat → Option Nat) (x : Int32)  : vx_Met l yX9_checkPart wd_X9_checkPart ({ frames := 10, cells := 1, slots := 6, locals := 200 }) (va_Pc [.ref h0, .int x] (fun U => U.heap.size = sz ∧ va_P (dC, dI) vwCl [(h0, .inr (12, [.ref (q 0), .ref (q 9), .ref (q 11), .ref (q 17), .ref (q 18), .ref (q 19), .ref (q 26), .ref (q 27), .ref (q 32), .ref (q 33), .ref (q 34), .int (-1)])), (q 11, .inr (9, [.ref (q 12), .ref (q 13), .int (nI 0), .ref (q 14), .ref (q 0), .ref (q 15), .ref (q 16)]))] U.heap ∧ va_K (dC, dI) vwCl [] U ∧ va_D A [(h0, .inr (12, [.ref (q 0), .ref (q 9), .ref (q 11), .ref (q 17), .ref (q 18), .ref (q 19), .ref (q 26), .ref (q 27), .ref (q 32), .ref (q 33), .ref (q 34), .int (-1)])), (q 11, .inr (9, [.ref (q 12), .ref (q 13), .int (nI 0), .ref (q 14), .ref (q 0), .ref (q 15), .ref (q 16)]))] ∧ exF A U U.heap)) (va_Qv (fun (u : Unit) => match u with | () => False) (at_X9_checkPart dC dI A h0 q k fr x) A) (vx_X (fun _ : Unit => True) (fun E _ _ => E = "java/lang/IndexOutOfBoundsException") A) (1) (6) A := by
  refine vx_ofW (cc := cX9_checkPart) (maxL := 2) (ret := none) (by decide) rfl ?_
  intro p e s m args below meth c s₁ B hml htb hv
  obtain ⟨rfl, hsz, hP, hK, hD, hE⟩ := hv
  have hx := B.exec
  have hb := B.bytes
  have hr := B.returns
  have hts := atoms_spec (ws := wd_X9_checkPart) B.pre
  have hown : s.vm.findClass RX9 = some m.cls := findClass_of_methodNamed B.named
  have hlocks := B.notSynchronized
  have bk0 : ∀ w ∈ (vx_atS RX9 245 "java/lang/IndexOutOfBoundsException" ["java/lang/RuntimeException", "java/lang/Exception"]).filter goodWord, w ∈ wd_X9_checkPart := fun _ h => List.mem_cons_of_mem _ (List.mem_append_right _ (List.mem_append_left _ h))
  have bk1 : ∀ w ∈ u_ws RX9 TX9 12, w ∈ wd_X9_checkPart := fun _ h => List.mem_cons_of_mem _ (List.mem_append_right _ (List.mem_append_right _ (List.mem_append_left _ h)))
  have bk2 : ∀ w ∈ u_ws RX6 TX6 7, w ∈ wd_X9_checkPart := fun _ h => List.mem_cons_of_mem _ (List.mem_append_right _ (List.mem_append_right _ (List.mem_append_right _ (List.mem_append_left _ h))))
  subst hsz
  have hA : ∀ q : Nat, s.heap.size ≤ q → A q := hA0
  have hS : va_S A s.heap s.heap [] := va_S.rf
  have hl := lv_entry ([.ref h0, .int x]) (n := 2) (Nat.le_of_ble_eq_true rfl)
  rw [lg_entry_eq]
  generalize (lg_sl ([.ref h0, .int x]) ++ List.replicate (2 - (lg_sl ([.ref h0, .int x])).length) Slot.unset).toArray = ls at hl ⊢
  have hl : lv_has ls 2 [(0, .ref h0), (1, .int x)] := hl
  refine lv_iload_n hx hb dX9_checkPart_0 rfl (lv_at hl 1 rfl) ?_
  refine lv_if_lt (tgt := 15) hx hb dX9_checkPart_1 (by decide) (fun c_1 => ?_) (fun c_1 => ?_)
  · have c_1 := (k_lt x (nI 0)).mp c_1
    rw [show (nI 0).toInt = 0 from by decide] at c_1
    obtain ⟨sa_2, hstr_3⟩ := hE.2.2.1 (275, "there is no such part") (by decide +kernel)
    exact vx_throwSW (own := RX9) (cls := "java/lang/IndexOutOfBoundsException") (text := "there is no such part") (names := ["java/lang/RuntimeException", "java/lang/Exception"]) (ik := 241) (is := 275) (ic := 245) (sa := sa_2) (A := A) hx hb hlt hown (by decide +kernel) (by decide +kernel) (hts (.classLink RX9 241 "java/lang/IndexOutOfBoundsException") (List.mem_of_getElem? (i := 1) rfl)) (hts (.initialized "java/lang/IndexOutOfBoundsException") (List.mem_of_getElem? (i := 2) rfl)) hstr_3 (vx_hat (B := [.declares (Bundle.initS "java/lang/RuntimeException"), .declares (Bundle.initS "java/lang/Exception"), .declares (Bundle.initS Bundle.tN), .castable "java/lang/IndexOutOfBoundsException" "java/lang/IndexOutOfBoundsException"]) (fun w hw => hts w (bk0 w hw)) (by decide +kernel) (vx_c (va_Nw.use rfl hE.2.2.2.1) (vx_c (va_Nw.use rfl hE.2.2.2.2.1) (vx_c (va_Nw.use rfl hE.2.2.2.2.2.1) (vx_c (va_Nw.use rfl hE.2.2.2.2.2.2.2.2.1) vx_n))))) (by decide +kernel) hE.1 hE.2.1 hS (by rw [hml]; exact hl.1) dX9_checkPart_15 dX9_checkPart_18 dX9_checkPart_19 dX9_checkPart_22 dX9_checkPart_25 (fun x9 hx9 => (htb x9 hx9).elim) (Nat.le_of_ble_eq_true rfl) (Nat.le_of_ble_eq_true rfl) (Nat.le_of_ble_eq_true rfl) (Nat.le_of_ble_eq_true rfl) hlocks (fun t9 hvm9 h1 h2 => ⟨(), trivial, rfl, k_F hS h1 h2⟩) hS.2.2 (Nat.le_of_ble_eq_true rfl) (Nat.le_of_ble_eq_true rfl)
  · have c_1 := mt (k_lt x (nI 0)).mpr c_1
    rw [show (nI 0).toInt = 0 from by decide] at c_1
    refine lv_iload_n hx hb dX9_checkPart_4 rfl (lv_at hl 1 rfl) ?_
    refine lv_aload_n hx hb dX9_checkPart_5 rfl (lv_at hl 0 rfl) ?_
    refine va_get (D := (dC, dI)) (ci := 12) (v := .ref (q 11)) (C := RX9) (T := TX9) (N := 12) hx hb hts bk1 hown hK hP 0 rfl rfl 2 (by decide) (hts (.fieldLink RX9 28 "GradientDesk" "shelf" "LGradientDesk$Shelf;") (List.mem_of_getElem? (i := 3) rfl)) (fun _ h9 => h9) rfl dX9_checkPart_6 ?_
    refine va_get (D := (dC, dI)) (ci := 9) (v := .int (nI 0)) (C := RX6) (T := TX6) (N := 7) hx hb hts bk2 hown hK hP 1 rfl rfl 2 (by decide) (hts (.fieldLink RX9 122 "GradientDesk$Shelf" "count" "I") (List.mem_of_getElem? (i := 4) rfl)) (fun _ h9 => h9) rfl dX9_checkPart_9 ?_
    refine lv_icmp_lt (tgt := 26) hx hb dX9_checkPart_12 (by decide) (fun c_4 => ?_) (fun c_4 => ?_)
    · have c_4 := (k_lt x (nI 0)).mp c_4
      rw [show (nI 0).toInt = 0 from by decide] at c_4
      have hP9 := hP.sub (ws' := []) [] rfl
      have hD9 := hD.sub (ws' := []) [] (by decide) rfl
      have hK9 := hK.sub (tys' := []) [] rfl
      refine vx_ret ?_
      refine W.widen (k := 1) (n := 6) (by omega) (by omega) ?_
      exact W.vret hx hb hr (fun t ht hW => ⟨⟨(), rfl, (by omega), by rw [ht]; exact hP9, va_K.moved hW.alike hK9, hD9⟩, hS.F ht⟩) hS.2.2 dX9_checkPart_26
    · have c_4 := mt (k_lt x (nI 0)).mpr c_4
      rw [show (nI 0).toInt = 0 from by decide] at c_4
      obtain ⟨sa_5, hstr_6⟩ := hE.2.2.1 (275, "there is no such part") (by decide +kernel)
      exact vx_throwSW (own := RX9) (cls := "java/lang/IndexOutOfBoundsException") (text := "there is no such part") (names := ["java/lang/RuntimeException", "java/lang/Exception"]) (ik := 241) (is := 275) (ic := 245) (sa := sa_5) (A := A) hx hb hlt hown (by decide +kernel) (by decide +kernel) (hts (.classLink RX9 241 "java/lang/IndexOutOfBoundsException") (List.mem_of_getElem? (i := 1) rfl)) (hts (.initialized "java/lang/IndexOutOfBoundsException") (List.mem_of_getElem? (i := 2) rfl)) hstr_6 (vx_hat (B := [.declares (Bundle.initS "java/lang/RuntimeException"), .declares (Bundle.initS "java/lang/Exception"), .declares (Bundle.initS Bundle.tN), .castable "java/lang/IndexOutOfBoundsException" "java/lang/IndexOutOfBoundsException"]) (fun w hw => hts w (bk0 w hw)) (by decide +kernel) (vx_c (va_Nw.use rfl hE.2.2.2.1) (vx_c (va_Nw.use rfl hE.2.2.2.2.1) (vx_c (va_Nw.use rfl hE.2.2.2.2.2.1) (vx_c (va_Nw.use rfl hE.2.2.2.2.2.2.2.2.1) vx_n))))) (by decide +kernel) hE.1 hE.2.1 hS (by rw [hml]; exact hl.1) dX9_checkPart_15 dX9_checkPart_18 dX9_checkPart_19 dX9_checkPart_22 dX9_checkPart_25 (fun x9 hx9 => (htb x9 hx9).elim) (Nat.le_of_ble_eq_true rfl) (Nat.le_of_ble_eq_true rfl) (Nat.le_of_ble_eq_true rfl) (Nat.le_of_ble_eq_true rfl) hlocks (fun t9 hvm9 h1 h2 => ⟨(), trivial, rfl, k_F hS h1 h2⟩) hS.2.2 (Nat.le_of_ble_eq_true rfl) (Nat.le_of_ble_eq_true rfl)
def wd_X9_checkKnown : List Cond := .code yX9_checkKnown cX9_checkKnown 2 none :: (([.fieldLink RX9 70 "GradientDesk" "names" "[I", .classLink RX9 277 "java/util/NoSuchElementException", .initialized "java/util/NoSuchElementException"] : List Cond) ++ (u_ws RX9 TX9 12 ++ ((k_atX RX9 281 "java/util/NoSuchElementException" 13 prog_37_method_4_code ["java/lang/RuntimeException", "java/lang/Exception"]).filter goodWord ++ ([]))))
theorem gw_X9_checkKnown : wd_X9_checkKnown.all goodWord = true := k_allc rfl (k_all (by decide +kernel) (k_all (gu_X9) (k_all (k_allf _ _) (rfl))))
abbrev at_X9_checkKnown (dC : Nat → ClassId) (dI : Nat → Nat → Nat) (A : Nat → Prop) (h0 : Nat) (q : Nat → Nat) (k : Nat → ClassId) (fr : Nat → Option Nat) (x : Int32) (u : Unit) (t : State) : Prop := match u with
  | () => va_P (dC, dI) vwCl [] t.heap ∧ va_K (dC, dI) vwCl [] t ∧ va_D A []
set_option maxHeartbeats 4000000 in
set_option maxRecDepth 100000 in
theorem c_X9_checkKnown (l : Launch) (hlt : l.stackTraces = false) (dC : Nat → ClassId) (dI : Nat → Nat → Nat) (A : Nat → Prop) (sz : Nat) (hA0 : ∀ q, sz ≤ q → A q) (h0 : Nat) (q : Nat → Nat) (k : Nat → ClassId) (fr : Nat → Option Nat) (x : Int32) (hx0 : 0 ≤ x.toInt) (hx7 : x.toInt ≤ 7) : vx_Met l yX9_checkKnown wd_X9_checkKnown ({ frames := 10, cells := 1, slots := 6, locals := 200 }) (va_Pc [.ref h0, .int x] (fun U => U.heap.size = sz ∧ va_P (dC, dI) vwCl [(h0, .inr (12, [.ref (q 0), .ref (q 9), .ref (q 11), .ref (q 17), .ref (q 18), .ref (q 19), .ref (q 26), .ref (q 27), .ref (q 32), .ref (q 33), .ref (q 34), .int (-1)])), (q 32, .inl (k 8, 8, .inl (va_cpy (fun _ => -1) (fun _ => 0) 0 0 8)))] U.heap ∧ va_K (dC, dI) vwCl [(k 8, .int)] U ∧ va_D A [(h0, .inr (12, [.ref (q 0), .ref (q 9), .ref (q 11), .ref (q 17), .ref (q 18), .ref (q 19), .ref (q 26), .ref (q 27), .ref (q 32), .ref (q 33), .ref (q 34), .int (-1)])), (q 32, .inl (k 8, 8, .inl (va_cpy (fun _ => -1) (fun _ => 0) 0 0 8)))] ∧ exF A U U.heap)) (va_Qv (fun (u : Unit) => match u with | () => False) (at_X9_checkKnown dC dI A h0 q k fr x) A) (vx_X (fun _ : Unit => True) (fun E _ _ => E = "java/util/NoSuchElementException") A) (1) (6) A := by
  refine vx_ofW (cc := cX9_checkKnown) (maxL := 2) (ret := none) (by decide) rfl ?_
  intro p e s m args below meth c s₁ B hml htb hv
  obtain ⟨rfl, hsz, hP, hK, hD, hE⟩ := hv
  have hx := B.exec
  have hb := B.bytes
  have hr := B.returns
  have hts := atoms_spec (ws := wd_X9_checkKnown) B.pre
  have hown : s.vm.findClass RX9 = some m.cls := findClass_of_methodNamed B.named
  have hlocks := B.notSynchronized
  have bk0 : ∀ w ∈ u_ws RX9 TX9 12, w ∈ wd_X9_checkKnown := fun _ h => List.mem_cons_of_mem _ (List.mem_append_right _ (List.mem_append_left _ h))
  have bk1 : ∀ w ∈ (k_atX RX9 281 "java/util/NoSuchElementException" 13 prog_37_method_4_code ["java/lang/RuntimeException", "java/lang/Exception"]).filter goodWord, w ∈ wd_X9_checkKnown := fun _ h => List.mem_cons_of_mem _ (List.mem_append_right _ (List.mem_append_right _ (List.mem_append_left _ h)))
  subst hsz
  have hA : ∀ q : Nat, s.heap.size ≤ q → A q := hA0
  have hS : va_S A s.heap s.heap [] := va_S.rf
  have hl := lv_entry ([.ref h0, .int x]) (n := 2) (Nat.le_of_ble_eq_true rfl)
  rw [lg_entry_eq]
  generalize (lg_sl ([.ref h0, .int x]) ++ List.replicate (2 - (lg_sl ([.ref h0, .int x])).length) Slot.unset).toArray = ls at hl ⊢
  have hl : lv_has ls 2 [(0, .ref h0), (1, .int x)] := hl
  refine lv_aload_n hx hb dX9_checkKnown_0 rfl (lv_at hl 0 rfl) ?_
  refine va_get (D := (dC, dI)) (ci := 12) (v := .ref (q 32)) (C := RX9) (T := TX9) (N := 12) hx hb hts bk0 hown hK hP 0 rfl rfl 8 (by decide) (hts (.fieldLink RX9 70 "GradientDesk" "names" "[I") (List.mem_of_getElem? (i := 1) rfl)) (fun _ h9 => h9) rfl dX9_checkKnown_1 ?_
  refine lv_iload_n hx hb dX9_checkKnown_4 rfl (lv_at hl 1 rfl) ?_
  refine va_iald hx hb hK hP 1 0 rfl rfl (vp_in_iff.mpr ⟨by omega, by omega⟩) dX9_checkKnown_5 ?_
  refine lv_topi (fun x_1 e_2 => ?_)
  obtain rfl : x_1 = -1 := e_2.trans (k_cpyin (k_clamp hx0 (by omega)))
  refine lv_iconst (v := -1) hx hb dX9_checkKnown_6 (by decide +kernel) ?_
  refine lv_icmp_ne (tgt := 21) hx hb dX9_checkKnown_7 (by decide) (fun c_3 => absurd c_3 (by decide)) (fun c_3 => ?_)
  obtain ⟨sa_4, hstr_5⟩ := hE.2.2.1 (279, "there is no expression with this name") (by decide +kernel)
  exact k_throwX (ix := 13) (rx := prog_37_method_4_code) (own := RX9) (cls := "java/util/NoSuchElementException") (text := "there is no expression with this name") (names := ["java/lang/RuntimeException", "java/lang/Exception"]) (ik := 277) (is := 279) (ic := 281) (sa := sa_4) (A := A) (by decide +kernel) (by decide +kernel) (by decide +kernel) (by decide +kernel) hx hb hlt hown (by decide +kernel) (by decide +kernel) (hts (.classLink RX9 277 "java/util/NoSuchElementException") (List.mem_of_getElem? (i := 2) rfl)) (hts (.initialized "java/util/NoSuchElementException") (List.mem_of_getElem? (i := 3) rfl)) hstr_5 (vx_hat (B := [.declares (Bundle.initS "java/lang/RuntimeException"), .declares (Bundle.initS "java/lang/Exception"), .declares (Bundle.initS Bundle.tN), .castable "java/util/NoSuchElementException" "java/util/NoSuchElementException"]) (fun w hw => hts w (bk1 w hw)) (by decide +kernel) (vx_c (va_Nw.use rfl hE.2.2.2.1) (vx_c (va_Nw.use rfl hE.2.2.2.2.1) (vx_c (va_Nw.use rfl hE.2.2.2.2.2.1) (vx_c (va_Nw.use rfl hE.2.2.2.2.2.2.2.2.2.1) vx_n))))) (by decide +kernel) hE.1 hE.2.1 hS (by rw [hml]; exact hl.1) dX9_checkKnown_10 dX9_checkKnown_13 dX9_checkKnown_14 dX9_checkKnown_17 dX9_checkKnown_20 (fun x9 hx9 => (htb x9 hx9).elim) (Nat.le_of_ble_eq_true rfl) (Nat.le_of_ble_eq_true rfl) (Nat.le_of_ble_eq_true rfl) (Nat.le_of_ble_eq_true rfl) hlocks (fun t9 hvm9 h1 h2 => ⟨(), trivial, rfl, k_F hS h1 h2⟩) hS.2.2 (Nat.le_of_ble_eq_true rfl) (Nat.le_of_ble_eq_true rfl)
