def wd_X10_thrown : List Cond := .code yX10_thrown cX10_thrown 1 (some .int) :: (([.fieldLink RX10 78 "GradientDeskModel" "thrown" "I"] : List Cond) ++ (u_ws RX10 TX10 29 ++ ([])))
theorem gw_X10_thrown : wd_X10_thrown.all goodWord = true := k_allc rfl (k_all (by decide +kernel) (k_all (gu_X10) (rfl)))
abbrev at_X10_thrown (dC : Nat → ClassId) (dI : Nat → Nat → Nat) (A : Nat → Prop) (o : Nat) (fs : List Value) (t9 : Int32) (u : Unit) (t : State) : Prop := match u with
  | () => va_P (dC, dI) vwCl [] t.heap ∧ va_K (dC, dI) vwCl [] t ∧ va_D A []
set_option maxHeartbeats 4000000 in
set_option maxRecDepth 100000 in
theorem c_X10_thrown (l : Launch) (dC : Nat → ClassId) (dI : Nat → Nat → Nat) (A : Nat → Prop) (sz : Nat) (hA0 : ∀ q, sz ≤ q → A q) (o : Nat) (fs : List Value) (t9 : Int32) (h0 : fs[0]? = some (.int t9)) : Met l yX10_thrown wd_X10_thrown ({ frames := 10, cells := 0, slots := 0, locals := 200 }) (va_Pc [.ref o] (fun U => U.heap.size = sz ∧ va_P (dC, dI) vwCl [(o, .inr (13, fs))] U.heap ∧ va_K (dC, dI) vwCl [] U ∧ va_D A [(o, .inr (13, fs))])) (va_Qi (fun (r : Int32) => fun (u : Unit) => match u with | () => r = t9) (at_X10_thrown dC dI A o fs t9) A) (0) (0) A := by
  refine Met.ofW (cc := cX10_thrown) (maxL := 1) (ret := (some .int)) (by decide) rfl ?_
  intro p e s m args below meth c s₁ B hml hv
  obtain ⟨rfl, hsz, hP, hK, hD⟩ := hv
  have hx := B.exec
  have hb := B.bytes
  have hr := B.returns
  have hts := atoms_spec (ws := wd_X10_thrown) B.pre
  have hown : s.vm.findClass RX10 = some m.cls := findClass_of_methodNamed B.named
  have hlocks := B.notSynchronized
  have bk0 : ∀ w ∈ u_ws RX10 TX10 29, w ∈ wd_X10_thrown := fun _ h => List.mem_cons_of_mem _ (List.mem_append_right _ (List.mem_append_left _ h))
  subst hsz
  have hA : ∀ q : Nat, s.heap.size ≤ q → A q := hA0
  have hS : va_S A s.heap s.heap [] := va_S.rf
  have hl := lv_entry ([.ref o]) (n := 1) (Nat.le_of_ble_eq_true rfl)
  rw [lg_entry_eq]
  generalize (lg_sl ([.ref o]) ++ List.replicate (1 - (lg_sl ([.ref o])).length) Slot.unset).toArray = ls at hl ⊢
  have hl : lv_has ls 1 [(0, .ref o)] := hl
  refine lv_aload_n hx hb dX10_thrown_0 rfl (lv_at hl 0 rfl) ?_
  refine va_get (D := (dC, dI)) (ci := 13) (v := .int t9) (C := RX10) (T := TX10) (N := 29) hx hb hts bk0 hown hK hP 0 rfl rfl 0 (by decide) (hts (.fieldLink RX10 78 "GradientDeskModel" "thrown" "I") (List.mem_of_getElem? (i := 1) rfl)) (fun _ h9 => h9) h0 dX10_thrown_1 ?_
  have hP9 := hP.sub (ws' := []) [] rfl
  have hD9 := hD.sub (ws' := []) [] (by decide) rfl
  have hK9 := hK.sub (tys' := []) [] rfl
  refine W.widen (k := 0) (n := 0) (by omega) (by omega) ?_
  exact W.iret (v := t9) hx hb hr (fun t ht hW => ⟨⟨t9, (), rfl, rfl, by rw [ht]; exact hP9, va_K.moved hW.alike hK9, hD9⟩, hS.F ht⟩) hS.2.2 dX10_thrown_4
def wd_X10_place : List Cond := .code yX10_place cX10_place 1 (some .int) :: (([.fieldLink RX10 78 "GradientDeskModel" "thrown" "I", .fieldLink RX10 25 "GradientDeskModel" "place" "I"] : List Cond) ++ (u_ws RX10 TX10 29 ++ ([])))
theorem gw_X10_place : wd_X10_place.all goodWord = true := k_allc rfl (k_all (by decide +kernel) (k_all (gu_X10) (rfl)))
abbrev at_X10_place (dC : Nat → ClassId) (dI : Nat → Nat → Nat) (A : Nat → Prop) (o : Nat) (q : Nat → Nat) (k : Nat → ClassId) (pn : Nat → Nat) (ln : Nat → Nat) (bn : Nat → Nat) (u : List Value) (t : State) : Prop := match u with
  | fs2 => va_P (dC, dI) vwCl [(o, .inr (13, fs2))] t.heap ∧ va_K (dC, dI) vwCl [] t ∧ va_D A [(o, .inr (13, fs2))]
set_option maxHeartbeats 4000000 in
set_option maxRecDepth 100000 in
theorem c_X10_place (l : Launch) (dC : Nat → ClassId) (dI : Nat → Nat → Nat) (A : Nat → Prop) (sz : Nat) (hA0 : ∀ q, sz ≤ q → A q) (o : Nat) (q : Nat → Nat) (k : Nat → ClassId) (pn : Nat → Nat) (ln : Nat → Nat) (bn : Nat → Nat) (hpn : ∀ j, pn j < 4294967296) (hln : ∀ j, ln j < 81) (hbn : ∀ j, bn j < 2) (hL : ∀ j, ln j = if j % 2 = 1 ∧ j < 2068 then 1 else 0) (hPp : ∀ j, j % 2 = 1 → j < 2068 → pn (80 * j) = 1) (hB : ∀ j, bn j = 0) : Met l yX10_place wd_X10_place ({ frames := 10, cells := 0, slots := 0, locals := 200 }) (va_Pc [.ref o] (fun U => U.heap.size = sz ∧ va_P (dC, dI) vwCl [(o, .inr (13, [.int (nI 0), .ref (q 1), .ref (q 2), .ref (q 3), .ref (q 4), .int (nI 0), .int (-1), .ref (q 7), .ref (q 8), .ref (q 9), .ref (q 10), .ref (q 11), .ref (q 12), .int (nI 0), .int (nI 0), .ref (q 15), .ref (q 16), .ref (q 17), .ref (q 18), .ref (q 19), .int (nI 0), .int (nI 0), .int (nI 0), .ref (q 23), .ref (q 24), .int (nI 0), .ref (q 26), .ref (q 27), .int (nI 0)]))] U.heap ∧ va_K (dC, dI) vwCl [] U ∧ va_D A [(o, .inr (13, [.int (nI 0), .ref (q 1), .ref (q 2), .ref (q 3), .ref (q 4), .int (nI 0), .int (-1), .ref (q 7), .ref (q 8), .ref (q 9), .ref (q 10), .ref (q 11), .ref (q 12), .int (nI 0), .int (nI 0), .ref (q 15), .ref (q 16), .ref (q 17), .ref (q 18), .ref (q 19), .int (nI 0), .int (nI 0), .int (nI 0), .ref (q 23), .ref (q 24), .int (nI 0), .ref (q 26), .ref (q 27), .int (nI 0)]))])) (va_Qi (fun (r : Int32) => fun (u : List Value) => match u with | fs2 => r = -1) (at_X10_place dC dI A o q k pn ln bn) A) (0) (0) A := by
  refine Met.ofW (cc := cX10_place) (maxL := 1) (ret := (some .int)) (by decide) rfl ?_
  intro p e s m args below meth c s₁ B hml hv
  obtain ⟨rfl, hsz, hP, hK, hD⟩ := hv
  have hx := B.exec
  have hb := B.bytes
  have hr := B.returns
  have hts := atoms_spec (ws := wd_X10_place) B.pre
  have hown : s.vm.findClass RX10 = some m.cls := findClass_of_methodNamed B.named
  have hlocks := B.notSynchronized
  have bk0 : ∀ w ∈ u_ws RX10 TX10 29, w ∈ wd_X10_place := fun _ h => List.mem_cons_of_mem _ (List.mem_append_right _ (List.mem_append_left _ h))
  subst hsz
  have hA : ∀ q : Nat, s.heap.size ≤ q → A q := hA0
  have hS : va_S A s.heap s.heap [] := va_S.rf
  have hl := lv_entry ([.ref o]) (n := 1) (Nat.le_of_ble_eq_true rfl)
  rw [lg_entry_eq]
  generalize (lg_sl ([.ref o]) ++ List.replicate (1 - (lg_sl ([.ref o])).length) Slot.unset).toArray = ls at hl ⊢
  have hl : lv_has ls 1 [(0, .ref o)] := hl
  refine lv_aload_n hx hb dX10_place_0 rfl (lv_at hl 0 rfl) ?_
  refine lv_iconst (v := nI 0) hx hb dX10_place_1 (by decide +kernel) ?_
  refine va_put (D := (dC, dI)) (ci := 13) (v := .int (nI 0)) (ty := .int) (C := RX10) (T := TX10) (N := 29) hx hb hts bk0 tyX10 tyX10_ok nmX10 hown hK hP hD hS 0 rfl rfl 0 (by decide) (hts (.fieldLink RX10 78 "GradientDeskModel" "thrown" "I") (List.mem_of_getElem? (i := 1) rfl)) (fun _ h9 => h9) rfl (by decide +kernel) rfl rfl (Nat.le_of_ble_eq_true rfl) dX10_place_2 (fun H locs hP hD hS => ?_)
  have hP : va_P (dC, dI) vwCl ([(o, .inr (13, [.int (nI 0), .ref (q 1), .ref (q 2), .ref (q 3), .ref (q 4), .int (nI 0), .int (-1), .ref (q 7), .ref (q 8), .ref (q 9), .ref (q 10), .ref (q 11), .ref (q 12), .int (nI 0), .int (nI 0), .ref (q 15), .ref (q 16), .ref (q 17), .ref (q 18), .ref (q 19), .int (nI 0), .int (nI 0), .int (nI 0), .ref (q 23), .ref (q 24), .int (nI 0), .ref (q 26), .ref (q 27), .int (nI 0)]))]) H := hP
  have hD : va_D A ([(o, .inr (13, [.int (nI 0), .ref (q 1), .ref (q 2), .ref (q 3), .ref (q 4), .int (nI 0), .int (-1), .ref (q 7), .ref (q 8), .ref (q 9), .ref (q 10), .ref (q 11), .ref (q 12), .int (nI 0), .int (nI 0), .ref (q 15), .ref (q 16), .ref (q 17), .ref (q 18), .ref (q 19), .int (nI 0), .int (nI 0), .int (nI 0), .ref (q 23), .ref (q 24), .int (nI 0), .ref (q 26), .ref (q 27), .int (nI 0)]))]) := hD
  refine lv_aload_n hx hb dX10_place_5 rfl (lv_at hl 0 rfl) ?_
  refine va_get (D := (dC, dI)) (ci := 13) (v := .int (-1)) (C := RX10) (T := TX10) (N := 29) hx hb hts bk0 hown hK hP 0 rfl rfl 6 (by decide) (hts (.fieldLink RX10 25 "GradientDeskModel" "place" "I") (List.mem_of_getElem? (i := 2) rfl)) (fun _ h9 => h9) rfl dX10_place_6 ?_
  have hP9 := hP.sub (ws' := [(o, .inr (13, [.int (nI 0), .ref (q 1), .ref (q 2), .ref (q 3), .ref (q 4), .int (nI 0), .int (-1), .ref (q 7), .ref (q 8), .ref (q 9), .ref (q 10), .ref (q 11), .ref (q 12), .int (nI 0), .int (nI 0), .ref (q 15), .ref (q 16), .ref (q 17), .ref (q 18), .ref (q 19), .int (nI 0), .int (nI 0), .int (nI 0), .ref (q 23), .ref (q 24), .int (nI 0), .ref (q 26), .ref (q 27), .int (nI 0)]))]) [0] rfl
  have hD9 := hD.sub (ws' := [(o, .inr (13, [.int (nI 0), .ref (q 1), .ref (q 2), .ref (q 3), .ref (q 4), .int (nI 0), .int (-1), .ref (q 7), .ref (q 8), .ref (q 9), .ref (q 10), .ref (q 11), .ref (q 12), .int (nI 0), .int (nI 0), .ref (q 15), .ref (q 16), .ref (q 17), .ref (q 18), .ref (q 19), .int (nI 0), .int (nI 0), .int (nI 0), .ref (q 23), .ref (q 24), .int (nI 0), .ref (q 26), .ref (q 27), .int (nI 0)]))]) [0] (by decide) rfl
  have hK9 := hK.sub (tys' := []) [] rfl
  refine W.widen (k := 0) (n := 0) (by omega) (by omega) ?_
  exact W.iret (v := -1) hx hb hr (fun t ht hW => ⟨⟨-1, [.int (nI 0), .ref (q 1), .ref (q 2), .ref (q 3), .ref (q 4), .int (nI 0), .int (-1), .ref (q 7), .ref (q 8), .ref (q 9), .ref (q 10), .ref (q 11), .ref (q 12), .int (nI 0), .int (nI 0), .ref (q 15), .ref (q 16), .ref (q 17), .ref (q 18), .ref (q 19), .int (nI 0), .int (nI 0), .int (nI 0), .ref (q 23), .ref (q 24), .int (nI 0), .ref (q 26), .ref (q 27), .int (nI 0)], rfl, rfl, by rw [ht]; exact hP9, va_K.moved hW.alike hK9, hD9⟩, hS.F ht⟩) hS.2.2 dX10_place_9
def wd_X10_made : List Cond := .code yX10_made cX10_made 1 (some .int) :: (([.fieldLink RX10 78 "GradientDeskModel" "thrown" "I", .fieldLink RX10 149 "GradientDeskModel" "made" "I"] : List Cond) ++ (u_ws RX10 TX10 29 ++ ([])))
theorem gw_X10_made : wd_X10_made.all goodWord = true := k_allc rfl (k_all (by decide +kernel) (k_all (gu_X10) (rfl)))
abbrev at_X10_made (dC : Nat → ClassId) (dI : Nat → Nat → Nat) (A : Nat → Prop) (o : Nat) (q : Nat → Nat) (k : Nat → ClassId) (pn : Nat → Nat) (ln : Nat → Nat) (bn : Nat → Nat) (u : List Value) (t : State) : Prop := match u with
  | fs2 => va_P (dC, dI) vwCl [(o, .inr (13, fs2))] t.heap ∧ va_K (dC, dI) vwCl [] t ∧ va_D A [(o, .inr (13, fs2))]
set_option maxHeartbeats 4000000 in
set_option maxRecDepth 100000 in
theorem c_X10_made (l : Launch) (dC : Nat → ClassId) (dI : Nat → Nat → Nat) (A : Nat → Prop) (sz : Nat) (hA0 : ∀ q, sz ≤ q → A q) (o : Nat) (q : Nat → Nat) (k : Nat → ClassId) (pn : Nat → Nat) (ln : Nat → Nat) (bn : Nat → Nat) (hpn : ∀ j, pn j < 4294967296) (hln : ∀ j, ln j < 81) (hbn : ∀ j, bn j < 2) (hL : ∀ j, ln j = if j % 2 = 1 ∧ j < 2068 then 1 else 0) (hPp : ∀ j, j % 2 = 1 → j < 2068 → pn (80 * j) = 1) (hB : ∀ j, bn j = 0) : Met l yX10_made wd_X10_made ({ frames := 10, cells := 0, slots := 0, locals := 200 }) (va_Pc [.ref o] (fun U => U.heap.size = sz ∧ va_P (dC, dI) vwCl [(o, .inr (13, [.int (nI 0), .ref (q 1), .ref (q 2), .ref (q 3), .ref (q 4), .int (nI 0), .int (-1), .ref (q 7), .ref (q 8), .ref (q 9), .ref (q 10), .ref (q 11), .ref (q 12), .int (nI 0), .int (nI 0), .ref (q 15), .ref (q 16), .ref (q 17), .ref (q 18), .ref (q 19), .int (nI 0), .int (nI 0), .int (nI 0), .ref (q 23), .ref (q 24), .int (nI 0), .ref (q 26), .ref (q 27), .int (nI 0)]))] U.heap ∧ va_K (dC, dI) vwCl [] U ∧ va_D A [(o, .inr (13, [.int (nI 0), .ref (q 1), .ref (q 2), .ref (q 3), .ref (q 4), .int (nI 0), .int (-1), .ref (q 7), .ref (q 8), .ref (q 9), .ref (q 10), .ref (q 11), .ref (q 12), .int (nI 0), .int (nI 0), .ref (q 15), .ref (q 16), .ref (q 17), .ref (q 18), .ref (q 19), .int (nI 0), .int (nI 0), .int (nI 0), .ref (q 23), .ref (q 24), .int (nI 0), .ref (q 26), .ref (q 27), .int (nI 0)]))])) (va_Qi (fun (r : Int32) => fun (u : List Value) => match u with | fs2 => r = nI 0) (at_X10_made dC dI A o q k pn ln bn) A) (0) (0) A := by
  refine Met.ofW (cc := cX10_made) (maxL := 1) (ret := (some .int)) (by decide) rfl ?_
  intro p e s m args below meth c s₁ B hml hv
  obtain ⟨rfl, hsz, hP, hK, hD⟩ := hv
  have hx := B.exec
  have hb := B.bytes
  have hr := B.returns
  have hts := atoms_spec (ws := wd_X10_made) B.pre
  have hown : s.vm.findClass RX10 = some m.cls := findClass_of_methodNamed B.named
  have hlocks := B.notSynchronized
  have bk0 : ∀ w ∈ u_ws RX10 TX10 29, w ∈ wd_X10_made := fun _ h => List.mem_cons_of_mem _ (List.mem_append_right _ (List.mem_append_left _ h))
  subst hsz
  have hA : ∀ q : Nat, s.heap.size ≤ q → A q := hA0
  have hS : va_S A s.heap s.heap [] := va_S.rf
  have hl := lv_entry ([.ref o]) (n := 1) (Nat.le_of_ble_eq_true rfl)
  rw [lg_entry_eq]
  generalize (lg_sl ([.ref o]) ++ List.replicate (1 - (lg_sl ([.ref o])).length) Slot.unset).toArray = ls at hl ⊢
  have hl : lv_has ls 1 [(0, .ref o)] := hl
  refine lv_aload_n hx hb dX10_made_0 rfl (lv_at hl 0 rfl) ?_
  refine lv_iconst (v := nI 0) hx hb dX10_made_1 (by decide +kernel) ?_
  refine va_put (D := (dC, dI)) (ci := 13) (v := .int (nI 0)) (ty := .int) (C := RX10) (T := TX10) (N := 29) hx hb hts bk0 tyX10 tyX10_ok nmX10 hown hK hP hD hS 0 rfl rfl 0 (by decide) (hts (.fieldLink RX10 78 "GradientDeskModel" "thrown" "I") (List.mem_of_getElem? (i := 1) rfl)) (fun _ h9 => h9) rfl (by decide +kernel) rfl rfl (Nat.le_of_ble_eq_true rfl) dX10_made_2 (fun H locs hP hD hS => ?_)
  have hP : va_P (dC, dI) vwCl ([(o, .inr (13, [.int (nI 0), .ref (q 1), .ref (q 2), .ref (q 3), .ref (q 4), .int (nI 0), .int (-1), .ref (q 7), .ref (q 8), .ref (q 9), .ref (q 10), .ref (q 11), .ref (q 12), .int (nI 0), .int (nI 0), .ref (q 15), .ref (q 16), .ref (q 17), .ref (q 18), .ref (q 19), .int (nI 0), .int (nI 0), .int (nI 0), .ref (q 23), .ref (q 24), .int (nI 0), .ref (q 26), .ref (q 27), .int (nI 0)]))]) H := hP
  have hD : va_D A ([(o, .inr (13, [.int (nI 0), .ref (q 1), .ref (q 2), .ref (q 3), .ref (q 4), .int (nI 0), .int (-1), .ref (q 7), .ref (q 8), .ref (q 9), .ref (q 10), .ref (q 11), .ref (q 12), .int (nI 0), .int (nI 0), .ref (q 15), .ref (q 16), .ref (q 17), .ref (q 18), .ref (q 19), .int (nI 0), .int (nI 0), .int (nI 0), .ref (q 23), .ref (q 24), .int (nI 0), .ref (q 26), .ref (q 27), .int (nI 0)]))]) := hD
  refine lv_aload_n hx hb dX10_made_5 rfl (lv_at hl 0 rfl) ?_
  refine va_get (D := (dC, dI)) (ci := 13) (v := .int (nI 0)) (C := RX10) (T := TX10) (N := 29) hx hb hts bk0 hown hK hP 0 rfl rfl 13 (by decide) (hts (.fieldLink RX10 149 "GradientDeskModel" "made" "I") (List.mem_of_getElem? (i := 2) rfl)) (fun _ h9 => h9) rfl dX10_made_6 ?_
  have hP9 := hP.sub (ws' := [(o, .inr (13, [.int (nI 0), .ref (q 1), .ref (q 2), .ref (q 3), .ref (q 4), .int (nI 0), .int (-1), .ref (q 7), .ref (q 8), .ref (q 9), .ref (q 10), .ref (q 11), .ref (q 12), .int (nI 0), .int (nI 0), .ref (q 15), .ref (q 16), .ref (q 17), .ref (q 18), .ref (q 19), .int (nI 0), .int (nI 0), .int (nI 0), .ref (q 23), .ref (q 24), .int (nI 0), .ref (q 26), .ref (q 27), .int (nI 0)]))]) [0] rfl
  have hD9 := hD.sub (ws' := [(o, .inr (13, [.int (nI 0), .ref (q 1), .ref (q 2), .ref (q 3), .ref (q 4), .int (nI 0), .int (-1), .ref (q 7), .ref (q 8), .ref (q 9), .ref (q 10), .ref (q 11), .ref (q 12), .int (nI 0), .int (nI 0), .ref (q 15), .ref (q 16), .ref (q 17), .ref (q 18), .ref (q 19), .int (nI 0), .int (nI 0), .int (nI 0), .ref (q 23), .ref (q 24), .int (nI 0), .ref (q 26), .ref (q 27), .int (nI 0)]))]) [0] (by decide) rfl
  have hK9 := hK.sub (tys' := []) [] rfl
  refine W.widen (k := 0) (n := 0) (by omega) (by omega) ?_
  exact W.iret (v := nI 0) hx hb hr (fun t ht hW => ⟨⟨nI 0, [.int (nI 0), .ref (q 1), .ref (q 2), .ref (q 3), .ref (q 4), .int (nI 0), .int (-1), .ref (q 7), .ref (q 8), .ref (q 9), .ref (q 10), .ref (q 11), .ref (q 12), .int (nI 0), .int (nI 0), .ref (q 15), .ref (q 16), .ref (q 17), .ref (q 18), .ref (q 19), .int (nI 0), .int (nI 0), .int (nI 0), .ref (q 23), .ref (q 24), .int (nI 0), .ref (q 26), .ref (q 27), .int (nI 0)], rfl, rfl, by rw [ht]; exact hP9, va_K.moved hW.alike hK9, hD9⟩, hS.F ht⟩) hS.2.2 dX10_made_9
def wd_X10_noName : List Cond := .code yX10_noName cX10_noName 2 (some .boolean) :: (([.fieldLink RX10 78 "GradientDeskModel" "thrown" "I", .fieldLink RX10 47 "GradientDeskModel" "names" "[I"] : List Cond) ++ (u_ws RX10 TX10 29 ++ ([])))
theorem gw_X10_noName : wd_X10_noName.all goodWord = true := k_allc rfl (k_all (by decide +kernel) (k_all (gu_X10) (rfl)))
abbrev at_X10_noName (dC : Nat → ClassId) (dI : Nat → Nat → Nat) (A : Nat → Prop) (o : Nat) (q : Nat → Nat) (k : Nat → ClassId) (pn : Nat → Nat) (ln : Nat → Nat) (bn : Nat → Nat) (x : Int32) (u : List Value) (t : State) : Prop := match u with
  | fs2 => va_P (dC, dI) vwCl [(o, .inr (13, fs2))] t.heap ∧ va_K (dC, dI) vwCl [] t ∧ va_D A [(o, .inr (13, fs2))]
set_option maxHeartbeats 4000000 in
set_option maxRecDepth 100000 in
theorem c_X10_noName (l : Launch) (dC : Nat → ClassId) (dI : Nat → Nat → Nat) (A : Nat → Prop) (sz : Nat) (hA0 : ∀ q, sz ≤ q → A q) (o : Nat) (q : Nat → Nat) (k : Nat → ClassId) (pn : Nat → Nat) (ln : Nat → Nat) (bn : Nat → Nat) (x : Int32) (hpn : ∀ j, pn j < 4294967296) (hln : ∀ j, ln j < 81) (hbn : ∀ j, bn j < 2) (hL : ∀ j, ln j = if j % 2 = 1 ∧ j < 2068 then 1 else 0) (hPp : ∀ j, j % 2 = 1 → j < 2068 → pn (80 * j) = 1) (hB : ∀ j, bn j = 0) : Met l yX10_noName wd_X10_noName ({ frames := 10, cells := 0, slots := 0, locals := 200 }) (va_Pc [.ref o, .int x] (fun U => U.heap.size = sz ∧ va_P (dC, dI) vwCl [(o, .inr (13, [.int (nI 0), .ref (q 1), .ref (q 2), .ref (q 3), .ref (q 4), .int (nI 0), .int (-1), .ref (q 7), .ref (q 8), .ref (q 9), .ref (q 10), .ref (q 11), .ref (q 12), .int (nI 0), .int (nI 0), .ref (q 15), .ref (q 16), .ref (q 17), .ref (q 18), .ref (q 19), .int (nI 0), .int (nI 0), .int (nI 0), .ref (q 23), .ref (q 24), .int (nI 0), .ref (q 26), .ref (q 27), .int (nI 0)])), (q 15, .inl (k 15, 8, .inl (va_cpy (fun _ => -1) (fun _ => 0) 0 0 8)))] U.heap ∧ va_K (dC, dI) vwCl [(k 15, .int)] U ∧ va_D A [(o, .inr (13, [.int (nI 0), .ref (q 1), .ref (q 2), .ref (q 3), .ref (q 4), .int (nI 0), .int (-1), .ref (q 7), .ref (q 8), .ref (q 9), .ref (q 10), .ref (q 11), .ref (q 12), .int (nI 0), .int (nI 0), .ref (q 15), .ref (q 16), .ref (q 17), .ref (q 18), .ref (q 19), .int (nI 0), .int (nI 0), .int (nI 0), .ref (q 23), .ref (q 24), .int (nI 0), .ref (q 26), .ref (q 27), .int (nI 0)])), (q 15, .inl (k 15, 8, .inl (va_cpy (fun _ => -1) (fun _ => 0) 0 0 8)))])) (va_Qi (fun (r : Int32) => fun (u : List Value) => match u with | fs2 => r = nI 1 ∧ (((0 ≤ x.toInt ∧ x.toInt ≤ 7) ∧ fs2[0]? = some (.int (nI 2))) ∨ (¬ (0 ≤ x.toInt ∧ x.toInt ≤ 7) ∧ fs2[0]? = some (.int (nI 1))))) (at_X10_noName dC dI A o q k pn ln bn x) A) (0) (0) A := by
  refine Met.ofW (cc := cX10_noName) (maxL := 2) (ret := (some .boolean)) (by decide) rfl ?_
  intro p e s m args below meth c s₁ B hml hv
  obtain ⟨rfl, hsz, hP, hK, hD⟩ := hv
  have hx := B.exec
  have hb := B.bytes
  have hr := B.returns
  have hts := atoms_spec (ws := wd_X10_noName) B.pre
  have hown : s.vm.findClass RX10 = some m.cls := findClass_of_methodNamed B.named
  have hlocks := B.notSynchronized
  have bk0 : ∀ w ∈ u_ws RX10 TX10 29, w ∈ wd_X10_noName := fun _ h => List.mem_cons_of_mem _ (List.mem_append_right _ (List.mem_append_left _ h))
  subst hsz
  have hA : ∀ q : Nat, s.heap.size ≤ q → A q := hA0
  have hS : va_S A s.heap s.heap [] := va_S.rf
  have hl := lv_entry ([.ref o, .int x]) (n := 2) (Nat.le_of_ble_eq_true rfl)
  rw [lg_entry_eq]
  generalize (lg_sl ([.ref o, .int x]) ++ List.replicate (2 - (lg_sl ([.ref o, .int x])).length) Slot.unset).toArray = ls at hl ⊢
  have hl : lv_has ls 2 [(0, .ref o), (1, .int x)] := hl
  refine lv_aload_n hx hb dX10_noName_0 rfl (lv_at hl 0 rfl) ?_
  refine lv_iload_n hx hb dX10_noName_1 rfl (lv_at hl 1 rfl) ?_
  refine lv_if_lt (tgt := 11) hx hb dX10_noName_2 (by decide) (fun c_1 => ?_) (fun c_1 => ?_)
  · have c_1 := (k_lt x (nI 0)).mp c_1
    rw [show (nI 0).toInt = 0 from by decide] at c_1
    refine lv_iconst (v := nI 1) hx hb dX10_noName_11 (by decide +kernel) ?_
    refine lv_goto (tgt := 29) hx hb dX10_noName_12 (by decide) ?_
    refine va_put (D := (dC, dI)) (ci := 13) (v := .int (nI 1)) (ty := .int) (C := RX10) (T := TX10) (N := 29) hx hb hts bk0 tyX10 tyX10_ok nmX10 hown hK hP hD hS 0 rfl rfl 0 (by decide) (hts (.fieldLink RX10 78 "GradientDeskModel" "thrown" "I") (List.mem_of_getElem? (i := 1) rfl)) (fun _ h9 => h9) rfl (by decide +kernel) rfl rfl (Nat.le_of_ble_eq_true rfl) dX10_noName_29 (fun H locs hP hD hS => ?_)
    have hP : va_P (dC, dI) vwCl ([(o, .inr (13, [.int (nI 1), .ref (q 1), .ref (q 2), .ref (q 3), .ref (q 4), .int (nI 0), .int (-1), .ref (q 7), .ref (q 8), .ref (q 9), .ref (q 10), .ref (q 11), .ref (q 12), .int (nI 0), .int (nI 0), .ref (q 15), .ref (q 16), .ref (q 17), .ref (q 18), .ref (q 19), .int (nI 0), .int (nI 0), .int (nI 0), .ref (q 23), .ref (q 24), .int (nI 0), .ref (q 26), .ref (q 27), .int (nI 0)])), (q 15, .inl (k 15, 8, .inl (va_cpy (fun _ => -1) (fun _ => 0) 0 0 8)))]) H := hP
    have hD : va_D A ([(o, .inr (13, [.int (nI 1), .ref (q 1), .ref (q 2), .ref (q 3), .ref (q 4), .int (nI 0), .int (-1), .ref (q 7), .ref (q 8), .ref (q 9), .ref (q 10), .ref (q 11), .ref (q 12), .int (nI 0), .int (nI 0), .ref (q 15), .ref (q 16), .ref (q 17), .ref (q 18), .ref (q 19), .int (nI 0), .int (nI 0), .int (nI 0), .ref (q 23), .ref (q 24), .int (nI 0), .ref (q 26), .ref (q 27), .int (nI 0)])), (q 15, .inl (k 15, 8, .inl (va_cpy (fun _ => -1) (fun _ => 0) 0 0 8)))]) := hD
    refine lv_aload_n hx hb dX10_noName_32 rfl (lv_at hl 0 rfl) ?_
    refine va_get (D := (dC, dI)) (ci := 13) (v := .int (nI 1)) (C := RX10) (T := TX10) (N := 29) hx hb hts bk0 hown hK hP 0 rfl rfl 0 (by decide) (hts (.fieldLink RX10 78 "GradientDeskModel" "thrown" "I") (List.mem_of_getElem? (i := 1) rfl)) (fun _ h9 => h9) rfl dX10_noName_33 ?_
    refine lv_if_le (tgt := 43) hx hb dX10_noName_36 (by decide) (fun c_2 => absurd c_2 (by decide)) (fun c_2 => ?_)
    refine lv_iconst (v := nI 1) hx hb dX10_noName_39 (by decide +kernel) ?_
    refine lv_goto (tgt := 44) hx hb dX10_noName_40 (by decide) ?_
    have hP9 := hP.sub (ws' := [(o, .inr (13, [.int (nI 1), .ref (q 1), .ref (q 2), .ref (q 3), .ref (q 4), .int (nI 0), .int (-1), .ref (q 7), .ref (q 8), .ref (q 9), .ref (q 10), .ref (q 11), .ref (q 12), .int (nI 0), .int (nI 0), .ref (q 15), .ref (q 16), .ref (q 17), .ref (q 18), .ref (q 19), .int (nI 0), .int (nI 0), .int (nI 0), .ref (q 23), .ref (q 24), .int (nI 0), .ref (q 26), .ref (q 27), .int (nI 0)]))]) [0] rfl
    have hD9 := hD.sub (ws' := [(o, .inr (13, [.int (nI 1), .ref (q 1), .ref (q 2), .ref (q 3), .ref (q 4), .int (nI 0), .int (-1), .ref (q 7), .ref (q 8), .ref (q 9), .ref (q 10), .ref (q 11), .ref (q 12), .int (nI 0), .int (nI 0), .ref (q 15), .ref (q 16), .ref (q 17), .ref (q 18), .ref (q 19), .int (nI 0), .int (nI 0), .int (nI 0), .ref (q 23), .ref (q 24), .int (nI 0), .ref (q 26), .ref (q 27), .int (nI 0)]))]) [0] (by decide) rfl
    have hK9 := hK.sub (tys' := []) [] rfl
    refine W.widen (k := 0) (n := 0) (by omega) (by omega) ?_
    exact W.zret (v := nI 1) hx hb hr (by decide +kernel) (fun t ht hW => ⟨⟨nI 1, [.int (nI 1), .ref (q 1), .ref (q 2), .ref (q 3), .ref (q 4), .int (nI 0), .int (-1), .ref (q 7), .ref (q 8), .ref (q 9), .ref (q 10), .ref (q 11), .ref (q 12), .int (nI 0), .int (nI 0), .ref (q 15), .ref (q 16), .ref (q 17), .ref (q 18), .ref (q 19), .int (nI 0), .int (nI 0), .int (nI 0), .ref (q 23), .ref (q 24), .int (nI 0), .ref (q 26), .ref (q 27), .int (nI 0)], rfl, ⟨rfl, Or.inr ⟨by omega, rfl⟩⟩, by rw [ht]; exact hP9, va_K.moved hW.alike hK9, hD9⟩, hS.F ht⟩) hS.2.2 dX10_noName_44
  · have c_1 := mt (k_lt x (nI 0)).mpr c_1
    rw [show (nI 0).toInt = 0 from by decide] at c_1
    refine lv_iload_n hx hb dX10_noName_5 rfl (lv_at hl 1 rfl) ?_
    refine lv_bipush (v := nI 7) hx hb dX10_noName_6 (by decide +kernel) ?_
    refine lv_icmp_le (tgt := 15) hx hb dX10_noName_8 (by decide) (fun c_3 => ?_) (fun c_3 => ?_)
    · have c_3 := (k_le x (nI 7)).mp c_3
      rw [show (nI 7).toInt = 7 from by decide] at c_3
      refine lv_aload_n hx hb dX10_noName_15 rfl (lv_at hl 0 rfl) ?_
      refine va_get (D := (dC, dI)) (ci := 13) (v := .ref (q 15)) (C := RX10) (T := TX10) (N := 29) hx hb hts bk0 hown hK hP 0 rfl rfl 15 (by decide) (hts (.fieldLink RX10 47 "GradientDeskModel" "names" "[I") (List.mem_of_getElem? (i := 2) rfl)) (fun _ h9 => h9) rfl dX10_noName_16 ?_
      refine lv_iload_n hx hb dX10_noName_19 rfl (lv_at hl 1 rfl) ?_
      refine va_iald hx hb hK hP 1 0 rfl rfl (vp_in_iff.mpr ⟨by omega, by omega⟩) dX10_noName_20 ?_
      refine lv_topi (fun x_4 e_5 => ?_)
      obtain rfl : x_4 = -1 := e_5.trans (k_cpyin (k_clamp (n := 8) (by omega) (by omega)))
      refine lv_if_ge (tgt := 28) hx hb dX10_noName_21 (by decide) (fun c_6 => absurd c_6 (by decide)) (fun c_6 => ?_)
      refine lv_iconst (v := nI 2) hx hb dX10_noName_24 (by decide +kernel) ?_
      refine lv_goto (tgt := 29) hx hb dX10_noName_25 (by decide) ?_
      refine va_put (D := (dC, dI)) (ci := 13) (v := .int (nI 2)) (ty := .int) (C := RX10) (T := TX10) (N := 29) hx hb hts bk0 tyX10 tyX10_ok nmX10 hown hK hP hD hS 0 rfl rfl 0 (by decide) (hts (.fieldLink RX10 78 "GradientDeskModel" "thrown" "I") (List.mem_of_getElem? (i := 1) rfl)) (fun _ h9 => h9) rfl (by decide +kernel) rfl rfl (Nat.le_of_ble_eq_true rfl) dX10_noName_29 (fun H locs hP hD hS => ?_)
      have hP : va_P (dC, dI) vwCl ([(o, .inr (13, [.int (nI 2), .ref (q 1), .ref (q 2), .ref (q 3), .ref (q 4), .int (nI 0), .int (-1), .ref (q 7), .ref (q 8), .ref (q 9), .ref (q 10), .ref (q 11), .ref (q 12), .int (nI 0), .int (nI 0), .ref (q 15), .ref (q 16), .ref (q 17), .ref (q 18), .ref (q 19), .int (nI 0), .int (nI 0), .int (nI 0), .ref (q 23), .ref (q 24), .int (nI 0), .ref (q 26), .ref (q 27), .int (nI 0)])), (q 15, .inl (k 15, 8, .inl (va_cpy (fun _ => -1) (fun _ => 0) 0 0 8)))]) H := hP
      have hD : va_D A ([(o, .inr (13, [.int (nI 2), .ref (q 1), .ref (q 2), .ref (q 3), .ref (q 4), .int (nI 0), .int (-1), .ref (q 7), .ref (q 8), .ref (q 9), .ref (q 10), .ref (q 11), .ref (q 12), .int (nI 0), .int (nI 0), .ref (q 15), .ref (q 16), .ref (q 17), .ref (q 18), .ref (q 19), .int (nI 0), .int (nI 0), .int (nI 0), .ref (q 23), .ref (q 24), .int (nI 0), .ref (q 26), .ref (q 27), .int (nI 0)])), (q 15, .inl (k 15, 8, .inl (va_cpy (fun _ => -1) (fun _ => 0) 0 0 8)))]) := hD
      refine lv_aload_n hx hb dX10_noName_32 rfl (lv_at hl 0 rfl) ?_
      refine va_get (D := (dC, dI)) (ci := 13) (v := .int (nI 2)) (C := RX10) (T := TX10) (N := 29) hx hb hts bk0 hown hK hP 0 rfl rfl 0 (by decide) (hts (.fieldLink RX10 78 "GradientDeskModel" "thrown" "I") (List.mem_of_getElem? (i := 1) rfl)) (fun _ h9 => h9) rfl dX10_noName_33 ?_
      refine lv_if_le (tgt := 43) hx hb dX10_noName_36 (by decide) (fun c_7 => absurd c_7 (by decide)) (fun c_7 => ?_)
      refine lv_iconst (v := nI 1) hx hb dX10_noName_39 (by decide +kernel) ?_
      refine lv_goto (tgt := 44) hx hb dX10_noName_40 (by decide) ?_
      have hP9 := hP.sub (ws' := [(o, .inr (13, [.int (nI 2), .ref (q 1), .ref (q 2), .ref (q 3), .ref (q 4), .int (nI 0), .int (-1), .ref (q 7), .ref (q 8), .ref (q 9), .ref (q 10), .ref (q 11), .ref (q 12), .int (nI 0), .int (nI 0), .ref (q 15), .ref (q 16), .ref (q 17), .ref (q 18), .ref (q 19), .int (nI 0), .int (nI 0), .int (nI 0), .ref (q 23), .ref (q 24), .int (nI 0), .ref (q 26), .ref (q 27), .int (nI 0)]))]) [0] rfl
      have hD9 := hD.sub (ws' := [(o, .inr (13, [.int (nI 2), .ref (q 1), .ref (q 2), .ref (q 3), .ref (q 4), .int (nI 0), .int (-1), .ref (q 7), .ref (q 8), .ref (q 9), .ref (q 10), .ref (q 11), .ref (q 12), .int (nI 0), .int (nI 0), .ref (q 15), .ref (q 16), .ref (q 17), .ref (q 18), .ref (q 19), .int (nI 0), .int (nI 0), .int (nI 0), .ref (q 23), .ref (q 24), .int (nI 0), .ref (q 26), .ref (q 27), .int (nI 0)]))]) [0] (by decide) rfl
      have hK9 := hK.sub (tys' := []) [] rfl
      refine W.widen (k := 0) (n := 0) (by omega) (by omega) ?_
      exact W.zret (v := nI 1) hx hb hr (by decide +kernel) (fun t ht hW => ⟨⟨nI 1, [.int (nI 2), .ref (q 1), .ref (q 2), .ref (q 3), .ref (q 4), .int (nI 0), .int (-1), .ref (q 7), .ref (q 8), .ref (q 9), .ref (q 10), .ref (q 11), .ref (q 12), .int (nI 0), .int (nI 0), .ref (q 15), .ref (q 16), .ref (q 17), .ref (q 18), .ref (q 19), .int (nI 0), .int (nI 0), .int (nI 0), .ref (q 23), .ref (q 24), .int (nI 0), .ref (q 26), .ref (q 27), .int (nI 0)], rfl, ⟨rfl, Or.inl ⟨by omega, rfl⟩⟩, by rw [ht]; exact hP9, va_K.moved hW.alike hK9, hD9⟩, hS.F ht⟩) hS.2.2 dX10_noName_44
    · have c_3 := mt (k_le x (nI 7)).mpr c_3
      rw [show (nI 7).toInt = 7 from by decide] at c_3
      refine lv_iconst (v := nI 1) hx hb dX10_noName_11 (by decide +kernel) ?_
      refine lv_goto (tgt := 29) hx hb dX10_noName_12 (by decide) ?_
      refine va_put (D := (dC, dI)) (ci := 13) (v := .int (nI 1)) (ty := .int) (C := RX10) (T := TX10) (N := 29) hx hb hts bk0 tyX10 tyX10_ok nmX10 hown hK hP hD hS 0 rfl rfl 0 (by decide) (hts (.fieldLink RX10 78 "GradientDeskModel" "thrown" "I") (List.mem_of_getElem? (i := 1) rfl)) (fun _ h9 => h9) rfl (by decide +kernel) rfl rfl (Nat.le_of_ble_eq_true rfl) dX10_noName_29 (fun H locs hP hD hS => ?_)
      have hP : va_P (dC, dI) vwCl ([(o, .inr (13, [.int (nI 1), .ref (q 1), .ref (q 2), .ref (q 3), .ref (q 4), .int (nI 0), .int (-1), .ref (q 7), .ref (q 8), .ref (q 9), .ref (q 10), .ref (q 11), .ref (q 12), .int (nI 0), .int (nI 0), .ref (q 15), .ref (q 16), .ref (q 17), .ref (q 18), .ref (q 19), .int (nI 0), .int (nI 0), .int (nI 0), .ref (q 23), .ref (q 24), .int (nI 0), .ref (q 26), .ref (q 27), .int (nI 0)])), (q 15, .inl (k 15, 8, .inl (va_cpy (fun _ => -1) (fun _ => 0) 0 0 8)))]) H := hP
      have hD : va_D A ([(o, .inr (13, [.int (nI 1), .ref (q 1), .ref (q 2), .ref (q 3), .ref (q 4), .int (nI 0), .int (-1), .ref (q 7), .ref (q 8), .ref (q 9), .ref (q 10), .ref (q 11), .ref (q 12), .int (nI 0), .int (nI 0), .ref (q 15), .ref (q 16), .ref (q 17), .ref (q 18), .ref (q 19), .int (nI 0), .int (nI 0), .int (nI 0), .ref (q 23), .ref (q 24), .int (nI 0), .ref (q 26), .ref (q 27), .int (nI 0)])), (q 15, .inl (k 15, 8, .inl (va_cpy (fun _ => -1) (fun _ => 0) 0 0 8)))]) := hD
      refine lv_aload_n hx hb dX10_noName_32 rfl (lv_at hl 0 rfl) ?_
      refine va_get (D := (dC, dI)) (ci := 13) (v := .int (nI 1)) (C := RX10) (T := TX10) (N := 29) hx hb hts bk0 hown hK hP 0 rfl rfl 0 (by decide) (hts (.fieldLink RX10 78 "GradientDeskModel" "thrown" "I") (List.mem_of_getElem? (i := 1) rfl)) (fun _ h9 => h9) rfl dX10_noName_33 ?_
      refine lv_if_le (tgt := 43) hx hb dX10_noName_36 (by decide) (fun c_8 => absurd c_8 (by decide)) (fun c_8 => ?_)
      refine lv_iconst (v := nI 1) hx hb dX10_noName_39 (by decide +kernel) ?_
      refine lv_goto (tgt := 44) hx hb dX10_noName_40 (by decide) ?_
      have hP9 := hP.sub (ws' := [(o, .inr (13, [.int (nI 1), .ref (q 1), .ref (q 2), .ref (q 3), .ref (q 4), .int (nI 0), .int (-1), .ref (q 7), .ref (q 8), .ref (q 9), .ref (q 10), .ref (q 11), .ref (q 12), .int (nI 0), .int (nI 0), .ref (q 15), .ref (q 16), .ref (q 17), .ref (q 18), .ref (q 19), .int (nI 0), .int (nI 0), .int (nI 0), .ref (q 23), .ref (q 24), .int (nI 0), .ref (q 26), .ref (q 27), .int (nI 0)]))]) [0] rfl
      have hD9 := hD.sub (ws' := [(o, .inr (13, [.int (nI 1), .ref (q 1), .ref (q 2), .ref (q 3), .ref (q 4), .int (nI 0), .int (-1), .ref (q 7), .ref (q 8), .ref (q 9), .ref (q 10), .ref (q 11), .ref (q 12), .int (nI 0), .int (nI 0), .ref (q 15), .ref (q 16), .ref (q 17), .ref (q 18), .ref (q 19), .int (nI 0), .int (nI 0), .int (nI 0), .ref (q 23), .ref (q 24), .int (nI 0), .ref (q 26), .ref (q 27), .int (nI 0)]))]) [0] (by decide) rfl
      have hK9 := hK.sub (tys' := []) [] rfl
      refine W.widen (k := 0) (n := 0) (by omega) (by omega) ?_
      exact W.zret (v := nI 1) hx hb hr (by decide +kernel) (fun t ht hW => ⟨⟨nI 1, [.int (nI 1), .ref (q 1), .ref (q 2), .ref (q 3), .ref (q 4), .int (nI 0), .int (-1), .ref (q 7), .ref (q 8), .ref (q 9), .ref (q 10), .ref (q 11), .ref (q 12), .int (nI 0), .int (nI 0), .ref (q 15), .ref (q 16), .ref (q 17), .ref (q 18), .ref (q 19), .int (nI 0), .int (nI 0), .int (nI 0), .ref (q 23), .ref (q 24), .int (nI 0), .ref (q 26), .ref (q 27), .int (nI 0)], rfl, ⟨rfl, Or.inr ⟨by omega, rfl⟩⟩, by rw [ht]; exact hP9, va_K.moved hW.alike hK9, hD9⟩, hS.F ht⟩) hS.2.2 dX10_noName_44
def wd_X10_parts : List Cond := .code yX10_parts cX10_parts 4 (some .int) :: (([.methodLink RX10 263 yX10_noName, .instanceMethod yX10_noName, .selects RX10 yX10_noName yX10_noName, .initialized RX10] : List Cond) ++ (wd_X10_noName ++ ([])))
theorem gw_X10_parts : wd_X10_parts.all goodWord = true := k_allc rfl (k_all (by decide +kernel) (k_all (gw_X10_noName) (rfl)))
abbrev at_X10_parts (dC : Nat → ClassId) (dI : Nat → Nat → Nat) (A : Nat → Prop) (o : Nat) (q : Nat → Nat) (k : Nat → ClassId) (pn : Nat → Nat) (ln : Nat → Nat) (bn : Nat → Nat) (x : Int32) (u : List Value) (t : State) : Prop := match u with
  | fs2 => va_P (dC, dI) vwCl [(o, .inr (13, fs2))] t.heap ∧ va_K (dC, dI) vwCl [] t ∧ va_D A [(o, .inr (13, fs2))]
set_option maxHeartbeats 4000000 in
set_option maxRecDepth 100000 in
theorem c_X10_parts (l : Launch) (dC : Nat → ClassId) (dI : Nat → Nat → Nat) (A : Nat → Prop) (sz : Nat) (hA0 : ∀ q, sz ≤ q → A q) (o : Nat) (q : Nat → Nat) (k : Nat → ClassId) (pn : Nat → Nat) (ln : Nat → Nat) (bn : Nat → Nat) (x : Int32) (hpn : ∀ j, pn j < 4294967296) (hln : ∀ j, ln j < 81) (hbn : ∀ j, bn j < 2) (hL : ∀ j, ln j = if j % 2 = 1 ∧ j < 2068 then 1 else 0) (hPp : ∀ j, j % 2 = 1 → j < 2068 → pn (80 * j) = 1) (hB : ∀ j, bn j = 0) : Met l yX10_parts wd_X10_parts ({ frames := 20, cells := 0, slots := 0, locals := 400 }) (va_Pc [.ref o, .int x] (fun U => U.heap.size = sz ∧ va_P (dC, dI) vwCl [(o, .inr (13, [.int (nI 0), .ref (q 1), .ref (q 2), .ref (q 3), .ref (q 4), .int (nI 0), .int (-1), .ref (q 7), .ref (q 8), .ref (q 9), .ref (q 10), .ref (q 11), .ref (q 12), .int (nI 0), .int (nI 0), .ref (q 15), .ref (q 16), .ref (q 17), .ref (q 18), .ref (q 19), .int (nI 0), .int (nI 0), .int (nI 0), .ref (q 23), .ref (q 24), .int (nI 0), .ref (q 26), .ref (q 27), .int (nI 0)])), (q 15, .inl (k 15, 8, .inl (va_cpy (fun _ => -1) (fun _ => 0) 0 0 8)))] U.heap ∧ va_K (dC, dI) vwCl [(k 15, .int)] U ∧ va_D A [(o, .inr (13, [.int (nI 0), .ref (q 1), .ref (q 2), .ref (q 3), .ref (q 4), .int (nI 0), .int (-1), .ref (q 7), .ref (q 8), .ref (q 9), .ref (q 10), .ref (q 11), .ref (q 12), .int (nI 0), .int (nI 0), .ref (q 15), .ref (q 16), .ref (q 17), .ref (q 18), .ref (q 19), .int (nI 0), .int (nI 0), .int (nI 0), .ref (q 23), .ref (q 24), .int (nI 0), .ref (q 26), .ref (q 27), .int (nI 0)])), (q 15, .inl (k 15, 8, .inl (va_cpy (fun _ => -1) (fun _ => 0) 0 0 8)))])) (va_Qi (fun (r : Int32) => fun (u : List Value) => match u with | fs2 => ((0 ≤ x.toInt ∧ x.toInt ≤ 7) ∧ fs2[0]? = some (.int (nI 2))) ∨ (¬ (0 ≤ x.toInt ∧ x.toInt ≤ 7) ∧ fs2[0]? = some (.int (nI 1)))) (at_X10_parts dC dI A o q k pn ln bn x) A) (0) (0) A := by
  refine Met.ofW (cc := cX10_parts) (maxL := 4) (ret := (some .int)) (by decide) rfl ?_
  intro p e s m args below meth c s₁ B hml hv
  obtain ⟨rfl, hsz, hP, hK, hD⟩ := hv
  have hx := B.exec
  have hb := B.bytes
  have hr := B.returns
  have hts := atoms_spec (ws := wd_X10_parts) B.pre
  have hown : s.vm.findClass RX10 = some m.cls := findClass_of_methodNamed B.named
  have hlocks := B.notSynchronized
  have bk0 : ∀ w ∈ wd_X10_noName, w ∈ wd_X10_parts := fun _ h => List.mem_cons_of_mem _ (List.mem_append_right _ (List.mem_append_left _ h))
  subst hsz
  have hA : ∀ q : Nat, s.heap.size ≤ q → A q := hA0
  have hS : va_S A s.heap s.heap [] := va_S.rf
  have hl := lv_entry ([.ref o, .int x]) (n := 4) (Nat.le_of_ble_eq_true rfl)
  rw [lg_entry_eq]
  generalize (lg_sl ([.ref o, .int x]) ++ List.replicate (4 - (lg_sl ([.ref o, .int x])).length) Slot.unset).toArray = ls at hl ⊢
  have hl : lv_has ls 4 [(0, .ref o), (1, .int x)] := hl
  refine lv_aload_n hx hb dX10_parts_0 rfl (lv_at hl 0 rfl) ?_
  refine lv_iload_n hx hb dX10_parts_1 rfl (lv_at hl 1 rfl) ?_
  have hPc := hP.sub (ws' := [(o, .inr (13, [.int (nI 0), .ref (q 1), .ref (q 2), .ref (q 3), .ref (q 4), .int (nI 0), .int (-1), .ref (q 7), .ref (q 8), .ref (q 9), .ref (q 10), .ref (q 11), .ref (q 12), .int (nI 0), .int (nI 0), .ref (q 15), .ref (q 16), .ref (q 17), .ref (q 18), .ref (q 19), .int (nI 0), .int (nI 0), .int (nI 0), .ref (q 23), .ref (q 24), .int (nI 0), .ref (q 26), .ref (q 27), .int (nI 0)])), (q 15, .inl (k 15, 8, .inl (va_cpy (fun _ => -1) (fun _ => 0) 0 0 8)))]) [0, 1] rfl
  have hDc := hD.sub (ws' := [(o, .inr (13, [.int (nI 0), .ref (q 1), .ref (q 2), .ref (q 3), .ref (q 4), .int (nI 0), .int (-1), .ref (q 7), .ref (q 8), .ref (q 9), .ref (q 10), .ref (q 11), .ref (q 12), .int (nI 0), .int (nI 0), .ref (q 15), .ref (q 16), .ref (q 17), .ref (q 18), .ref (q 19), .int (nI 0), .int (nI 0), .int (nI 0), .ref (q 23), .ref (q 24), .int (nI 0), .ref (q 26), .ref (q 27), .int (nI 0)])), (q 15, .inl (k 15, 8, .inl (va_cpy (fun _ => -1) (fun _ => 0) 0 0 8)))]) [0, 1] (by decide) rfl
  have hKc := hK.sub (tys' := [(k 15, .int)]) [0] rfl
  have hFc := va_free (wc := [(o, .inr (13, [.int (nI 0), .ref (q 1), .ref (q 2), .ref (q 3), .ref (q 4), .int (nI 0), .int (-1), .ref (q 7), .ref (q 8), .ref (q 9), .ref (q 10), .ref (q 11), .ref (q 12), .int (nI 0), .int (nI 0), .ref (q 15), .ref (q 16), .ref (q 17), .ref (q 18), .ref (q 19), .int (nI 0), .int (nI 0), .int (nI 0), .ref (q 23), .ref (q 24), .int (nI 0), .ref (q 26), .ref (q 27), .int (nI 0)])), (q 15, .inl (k 15, 8, .inl (va_cpy (fun _ => -1) (fun _ => 0) 0 0 8)))]) hD hS hA [0, 1] rfl
  refine va_calli (va_runV (As := [.int x]) (rest := []) ⟨hx, hb, hml, hown, hts⟩ (c_X10_noName l dC dI (va_A [(o, .inr (13, [.int (nI 0), .ref (q 1), .ref (q 2), .ref (q 3), .ref (q 4), .int (nI 0), .int (-1), .ref (q 7), .ref (q 8), .ref (q 9), .ref (q 10), .ref (q 11), .ref (q 12), .int (nI 0), .int (nI 0), .ref (q 15), .ref (q 16), .ref (q 17), .ref (q 18), .ref (q 19), .int (nI 0), .int (nI 0), .int (nI 0), .ref (q 23), .ref (q 24), .int (nI 0), .ref (q 26), .ref (q 27), .int (nI 0)])), (q 15, .inl (k 15, 8, .inl (va_cpy (fun _ => -1) (fun _ => 0) 0 0 8)))] s.heap.size) s.heap.size (fun _ h => Or.inr h) o q k pn ln bn x hpn hln hbn hL hPp hB) (cwV 1 hts (goodIn_app (goodIn_r [Cond.methodLink RX10 263 yX10_noName, Cond.instanceMethod yX10_noName, Cond.selects RX10 yX10_noName yX10_noName, Cond.initialized RX10] [1, 2, 3, 4] rfl rfl) (goodIn_sub (fun w9 h9 => bk0 w9 h9) gw_X10_noName)) rfl rfl rfl (by decide +kernel) ⟨Nat.le_of_ble_eq_true rfl, Nat.le_of_ble_eq_true rfl⟩) ⟨fun a U g mk q => by obtain ⟨q0, q1, qP, qK, qD⟩ := q; exact ⟨q0, q1, qP, va_K.moved (u := U) (U := U.calling g mk a) (Vm.Alike.refl U.vm) qK, qD⟩, va_recv hKc hPc (ci := 13) (q0 := 0) rfl rfl, fun U hU hW => ⟨rfl, by rw [hU], by rw [hU]; exact hPc, va_K.moved hW.alike hKc, hDc.self⟩⟩ rfl rfl hl.1 rfl (lv_room (Nat.le_of_ble_eq_true rfl)) dX10_parts_2 ⟨(Nat.le_of_ble_eq_true rfl), (Nat.le_of_ble_eq_true rfl)⟩) hS (fun q _ h => hFc q h) hFc (fun r_1 u t H1 locs ht hvm hw_2 hB hz1 hk1 hS => ?_)
  obtain ⟨fs2_3, rfl⟩ : ∃ z, z = u := ⟨_, rfl⟩
  obtain ⟨hP1, hK1, hD1⟩ := hB
  rw [ht] at hP1
  have hK1 := va_K.moved hvm.symm hK1
  try dsimp only at hw_2
  obtain ⟨hP, hD⟩ := va_join (wr := []) (w1 := [(o, .inr (13, fs2_3))]) hP hD [0, 1] [] rfl rfl (by decide) (by decide) hk1 hFc hP1 hD1
  have hK := (hK.sub (tys' := []) [] rfl).app hK1
  generalize H1 = H at hP hS ⊢
  have hP : va_P (dC, dI) vwCl ([(o, .inr (13, fs2_3))]) H := hP
  have hD : va_D A ([(o, .inr (13, fs2_3))]) := hD
  have hK : va_K (dC, dI) vwCl [] s := hK
  obtain ⟨z_4, hnn⟩ := hw_2
  obtain rfl : r_1 = nI 1 := z_4
  refine lv_if_eq (tgt := 10) hx hb dX10_parts_5 (by decide) (fun c_5 => absurd c_5 (by decide)) (fun c_5 => ?_)
  refine lv_iconst (v := nI 0) hx hb dX10_parts_8 (by decide +kernel) ?_
  have hP9 := hP.sub (ws' := [(o, .inr (13, fs2_3))]) [0] rfl
  have hD9 := hD.sub (ws' := [(o, .inr (13, fs2_3))]) [0] (by decide) rfl
  have hK9 := hK.sub (tys' := []) [] rfl
  refine W.widen (k := 0) (n := 0) (by omega) (by omega) ?_
  exact W.iret (v := nI 0) hx hb hr (fun t ht hW => ⟨⟨nI 0, fs2_3, rfl, hnn, by rw [ht]; exact hP9, va_K.moved hW.alike hK9, hD9⟩, hS.F ht⟩) hS.2.2 dX10_parts_9
def wd_X10_write : List Cond := .code yX10_write cX10_write 4 (some .int) :: (([.methodLink RX10 263 yX10_noName, .instanceMethod yX10_noName, .selects RX10 yX10_noName yX10_noName, .initialized RX10] : List Cond) ++ (wd_X10_noName ++ ([])))
theorem gw_X10_write : wd_X10_write.all goodWord = true := k_allc rfl (k_all (by decide +kernel) (k_all (gw_X10_noName) (rfl)))
abbrev at_X10_write (dC : Nat → ClassId) (dI : Nat → Nat → Nat) (A : Nat → Prop) (o : Nat) (q : Nat → Nat) (k : Nat → ClassId) (pn : Nat → Nat) (ln : Nat → Nat) (bn : Nat → Nat) (x : Int32) (u : List Value) (t : State) : Prop := match u with
  | fs2 => va_P (dC, dI) vwCl [(o, .inr (13, fs2))] t.heap ∧ va_K (dC, dI) vwCl [] t ∧ va_D A [(o, .inr (13, fs2))]
set_option maxHeartbeats 4000000 in
set_option maxRecDepth 100000 in
theorem c_X10_write (l : Launch) (dC : Nat → ClassId) (dI : Nat → Nat → Nat) (A : Nat → Prop) (sz : Nat) (hA0 : ∀ q, sz ≤ q → A q) (o : Nat) (q : Nat → Nat) (k : Nat → ClassId) (pn : Nat → Nat) (ln : Nat → Nat) (bn : Nat → Nat) (x : Int32) (hpn : ∀ j, pn j < 4294967296) (hln : ∀ j, ln j < 81) (hbn : ∀ j, bn j < 2) (hL : ∀ j, ln j = if j % 2 = 1 ∧ j < 2068 then 1 else 0) (hPp : ∀ j, j % 2 = 1 → j < 2068 → pn (80 * j) = 1) (hB : ∀ j, bn j = 0) : Met l yX10_write wd_X10_write ({ frames := 20, cells := 0, slots := 0, locals := 400 }) (va_Pc [.ref o, .int x] (fun U => U.heap.size = sz ∧ va_P (dC, dI) vwCl [(o, .inr (13, [.int (nI 0), .ref (q 1), .ref (q 2), .ref (q 3), .ref (q 4), .int (nI 0), .int (-1), .ref (q 7), .ref (q 8), .ref (q 9), .ref (q 10), .ref (q 11), .ref (q 12), .int (nI 0), .int (nI 0), .ref (q 15), .ref (q 16), .ref (q 17), .ref (q 18), .ref (q 19), .int (nI 0), .int (nI 0), .int (nI 0), .ref (q 23), .ref (q 24), .int (nI 0), .ref (q 26), .ref (q 27), .int (nI 0)])), (q 15, .inl (k 15, 8, .inl (va_cpy (fun _ => -1) (fun _ => 0) 0 0 8)))] U.heap ∧ va_K (dC, dI) vwCl [(k 15, .int)] U ∧ va_D A [(o, .inr (13, [.int (nI 0), .ref (q 1), .ref (q 2), .ref (q 3), .ref (q 4), .int (nI 0), .int (-1), .ref (q 7), .ref (q 8), .ref (q 9), .ref (q 10), .ref (q 11), .ref (q 12), .int (nI 0), .int (nI 0), .ref (q 15), .ref (q 16), .ref (q 17), .ref (q 18), .ref (q 19), .int (nI 0), .int (nI 0), .int (nI 0), .ref (q 23), .ref (q 24), .int (nI 0), .ref (q 26), .ref (q 27), .int (nI 0)])), (q 15, .inl (k 15, 8, .inl (va_cpy (fun _ => -1) (fun _ => 0) 0 0 8)))])) (va_Qi (fun (r : Int32) => fun (u : List Value) => match u with | fs2 => ((0 ≤ x.toInt ∧ x.toInt ≤ 7) ∧ fs2[0]? = some (.int (nI 2))) ∨ (¬ (0 ≤ x.toInt ∧ x.toInt ≤ 7) ∧ fs2[0]? = some (.int (nI 1)))) (at_X10_write dC dI A o q k pn ln bn x) A) (0) (0) A := by
  refine Met.ofW (cc := cX10_write) (maxL := 4) (ret := (some .int)) (by decide) rfl ?_
  intro p e s m args below meth c s₁ B hml hv
  obtain ⟨rfl, hsz, hP, hK, hD⟩ := hv
  have hx := B.exec
  have hb := B.bytes
  have hr := B.returns
  have hts := atoms_spec (ws := wd_X10_write) B.pre
  have hown : s.vm.findClass RX10 = some m.cls := findClass_of_methodNamed B.named
  have hlocks := B.notSynchronized
  have bk0 : ∀ w ∈ wd_X10_noName, w ∈ wd_X10_write := fun _ h => List.mem_cons_of_mem _ (List.mem_append_right _ (List.mem_append_left _ h))
  subst hsz
  have hA : ∀ q : Nat, s.heap.size ≤ q → A q := hA0
  have hS : va_S A s.heap s.heap [] := va_S.rf
  have hl := lv_entry ([.ref o, .int x]) (n := 4) (Nat.le_of_ble_eq_true rfl)
  rw [lg_entry_eq]
  generalize (lg_sl ([.ref o, .int x]) ++ List.replicate (4 - (lg_sl ([.ref o, .int x])).length) Slot.unset).toArray = ls at hl ⊢
  have hl : lv_has ls 4 [(0, .ref o), (1, .int x)] := hl
  refine lv_aload_n hx hb dX10_write_0 rfl (lv_at hl 0 rfl) ?_
  refine lv_iload_n hx hb dX10_write_1 rfl (lv_at hl 1 rfl) ?_
  have hPc := hP.sub (ws' := [(o, .inr (13, [.int (nI 0), .ref (q 1), .ref (q 2), .ref (q 3), .ref (q 4), .int (nI 0), .int (-1), .ref (q 7), .ref (q 8), .ref (q 9), .ref (q 10), .ref (q 11), .ref (q 12), .int (nI 0), .int (nI 0), .ref (q 15), .ref (q 16), .ref (q 17), .ref (q 18), .ref (q 19), .int (nI 0), .int (nI 0), .int (nI 0), .ref (q 23), .ref (q 24), .int (nI 0), .ref (q 26), .ref (q 27), .int (nI 0)])), (q 15, .inl (k 15, 8, .inl (va_cpy (fun _ => -1) (fun _ => 0) 0 0 8)))]) [0, 1] rfl
  have hDc := hD.sub (ws' := [(o, .inr (13, [.int (nI 0), .ref (q 1), .ref (q 2), .ref (q 3), .ref (q 4), .int (nI 0), .int (-1), .ref (q 7), .ref (q 8), .ref (q 9), .ref (q 10), .ref (q 11), .ref (q 12), .int (nI 0), .int (nI 0), .ref (q 15), .ref (q 16), .ref (q 17), .ref (q 18), .ref (q 19), .int (nI 0), .int (nI 0), .int (nI 0), .ref (q 23), .ref (q 24), .int (nI 0), .ref (q 26), .ref (q 27), .int (nI 0)])), (q 15, .inl (k 15, 8, .inl (va_cpy (fun _ => -1) (fun _ => 0) 0 0 8)))]) [0, 1] (by decide) rfl
  have hKc := hK.sub (tys' := [(k 15, .int)]) [0] rfl
  have hFc := va_free (wc := [(o, .inr (13, [.int (nI 0), .ref (q 1), .ref (q 2), .ref (q 3), .ref (q 4), .int (nI 0), .int (-1), .ref (q 7), .ref (q 8), .ref (q 9), .ref (q 10), .ref (q 11), .ref (q 12), .int (nI 0), .int (nI 0), .ref (q 15), .ref (q 16), .ref (q 17), .ref (q 18), .ref (q 19), .int (nI 0), .int (nI 0), .int (nI 0), .ref (q 23), .ref (q 24), .int (nI 0), .ref (q 26), .ref (q 27), .int (nI 0)])), (q 15, .inl (k 15, 8, .inl (va_cpy (fun _ => -1) (fun _ => 0) 0 0 8)))]) hD hS hA [0, 1] rfl
  refine va_calli (va_runV (As := [.int x]) (rest := []) ⟨hx, hb, hml, hown, hts⟩ (c_X10_noName l dC dI (va_A [(o, .inr (13, [.int (nI 0), .ref (q 1), .ref (q 2), .ref (q 3), .ref (q 4), .int (nI 0), .int (-1), .ref (q 7), .ref (q 8), .ref (q 9), .ref (q 10), .ref (q 11), .ref (q 12), .int (nI 0), .int (nI 0), .ref (q 15), .ref (q 16), .ref (q 17), .ref (q 18), .ref (q 19), .int (nI 0), .int (nI 0), .int (nI 0), .ref (q 23), .ref (q 24), .int (nI 0), .ref (q 26), .ref (q 27), .int (nI 0)])), (q 15, .inl (k 15, 8, .inl (va_cpy (fun _ => -1) (fun _ => 0) 0 0 8)))] s.heap.size) s.heap.size (fun _ h => Or.inr h) o q k pn ln bn x hpn hln hbn hL hPp hB) (cwV 1 hts (goodIn_app (goodIn_r [Cond.methodLink RX10 263 yX10_noName, Cond.instanceMethod yX10_noName, Cond.selects RX10 yX10_noName yX10_noName, Cond.initialized RX10] [1, 2, 3, 4] rfl rfl) (goodIn_sub (fun w9 h9 => bk0 w9 h9) gw_X10_noName)) rfl rfl rfl (by decide +kernel) ⟨Nat.le_of_ble_eq_true rfl, Nat.le_of_ble_eq_true rfl⟩) ⟨fun a U g mk q => by obtain ⟨q0, q1, qP, qK, qD⟩ := q; exact ⟨q0, q1, qP, va_K.moved (u := U) (U := U.calling g mk a) (Vm.Alike.refl U.vm) qK, qD⟩, va_recv hKc hPc (ci := 13) (q0 := 0) rfl rfl, fun U hU hW => ⟨rfl, by rw [hU], by rw [hU]; exact hPc, va_K.moved hW.alike hKc, hDc.self⟩⟩ rfl rfl hl.1 rfl (lv_room (Nat.le_of_ble_eq_true rfl)) dX10_write_2 ⟨(Nat.le_of_ble_eq_true rfl), (Nat.le_of_ble_eq_true rfl)⟩) hS (fun q _ h => hFc q h) hFc (fun r_1 u t H1 locs ht hvm hw_2 hB hz1 hk1 hS => ?_)
  obtain ⟨fs2_3, rfl⟩ : ∃ z, z = u := ⟨_, rfl⟩
  obtain ⟨hP1, hK1, hD1⟩ := hB
  rw [ht] at hP1
  have hK1 := va_K.moved hvm.symm hK1
  try dsimp only at hw_2
  obtain ⟨hP, hD⟩ := va_join (wr := []) (w1 := [(o, .inr (13, fs2_3))]) hP hD [0, 1] [] rfl rfl (by decide) (by decide) hk1 hFc hP1 hD1
  have hK := (hK.sub (tys' := []) [] rfl).app hK1
  generalize H1 = H at hP hS ⊢
  have hP : va_P (dC, dI) vwCl ([(o, .inr (13, fs2_3))]) H := hP
  have hD : va_D A ([(o, .inr (13, fs2_3))]) := hD
  have hK : va_K (dC, dI) vwCl [] s := hK
  obtain ⟨z_4, hnn⟩ := hw_2
  obtain rfl : r_1 = nI 1 := z_4
  refine lv_if_eq (tgt := 10) hx hb dX10_write_5 (by decide) (fun c_5 => absurd c_5 (by decide)) (fun c_5 => ?_)
  refine lv_iconst (v := nI 0) hx hb dX10_write_8 (by decide +kernel) ?_
  have hP9 := hP.sub (ws' := [(o, .inr (13, fs2_3))]) [0] rfl
  have hD9 := hD.sub (ws' := [(o, .inr (13, fs2_3))]) [0] (by decide) rfl
  have hK9 := hK.sub (tys' := []) [] rfl
  refine W.widen (k := 0) (n := 0) (by omega) (by omega) ?_
  exact W.iret (v := nI 0) hx hb hr (fun t ht hW => ⟨⟨nI 0, fs2_3, rfl, hnn, by rw [ht]; exact hP9, va_K.moved hW.alike hK9, hD9⟩, hS.F ht⟩) hS.2.2 dX10_write_9
def wd_X10_gradient : List Cond := .code yX10_gradient cX10_gradient 4 none :: (([.methodLink RX10 263 yX10_noName, .instanceMethod yX10_noName, .selects RX10 yX10_noName yX10_noName, .initialized RX10] : List Cond) ++ (wd_X10_noName ++ ([])))
theorem gw_X10_gradient : wd_X10_gradient.all goodWord = true := k_allc rfl (k_all (by decide +kernel) (k_all (gw_X10_noName) (rfl)))
abbrev at_X10_gradient (dC : Nat → ClassId) (dI : Nat → Nat → Nat) (A : Nat → Prop) (o : Nat) (q : Nat → Nat) (k : Nat → ClassId) (pn : Nat → Nat) (ln : Nat → Nat) (bn : Nat → Nat) (x : Int32) (u : List Value) (t : State) : Prop := match u with
  | fs2 => va_P (dC, dI) vwCl [(o, .inr (13, fs2))] t.heap ∧ va_K (dC, dI) vwCl [] t ∧ va_D A [(o, .inr (13, fs2))]
set_option maxHeartbeats 4000000 in
set_option maxRecDepth 100000 in
theorem c_X10_gradient (l : Launch) (dC : Nat → ClassId) (dI : Nat → Nat → Nat) (A : Nat → Prop) (sz : Nat) (hA0 : ∀ q, sz ≤ q → A q) (o : Nat) (q : Nat → Nat) (k : Nat → ClassId) (pn : Nat → Nat) (ln : Nat → Nat) (bn : Nat → Nat) (x : Int32) (hpn : ∀ j, pn j < 4294967296) (hln : ∀ j, ln j < 81) (hbn : ∀ j, bn j < 2) (hL : ∀ j, ln j = if j % 2 = 1 ∧ j < 2068 then 1 else 0) (hPp : ∀ j, j % 2 = 1 → j < 2068 → pn (80 * j) = 1) (hB : ∀ j, bn j = 0) : Met l yX10_gradient wd_X10_gradient ({ frames := 20, cells := 0, slots := 0, locals := 400 }) (va_Pc [.ref o, .int x] (fun U => U.heap.size = sz ∧ va_P (dC, dI) vwCl [(o, .inr (13, [.int (nI 0), .ref (q 1), .ref (q 2), .ref (q 3), .ref (q 4), .int (nI 0), .int (-1), .ref (q 7), .ref (q 8), .ref (q 9), .ref (q 10), .ref (q 11), .ref (q 12), .int (nI 0), .int (nI 0), .ref (q 15), .ref (q 16), .ref (q 17), .ref (q 18), .ref (q 19), .int (nI 0), .int (nI 0), .int (nI 0), .ref (q 23), .ref (q 24), .int (nI 0), .ref (q 26), .ref (q 27), .int (nI 0)])), (q 15, .inl (k 15, 8, .inl (va_cpy (fun _ => -1) (fun _ => 0) 0 0 8)))] U.heap ∧ va_K (dC, dI) vwCl [(k 15, .int)] U ∧ va_D A [(o, .inr (13, [.int (nI 0), .ref (q 1), .ref (q 2), .ref (q 3), .ref (q 4), .int (nI 0), .int (-1), .ref (q 7), .ref (q 8), .ref (q 9), .ref (q 10), .ref (q 11), .ref (q 12), .int (nI 0), .int (nI 0), .ref (q 15), .ref (q 16), .ref (q 17), .ref (q 18), .ref (q 19), .int (nI 0), .int (nI 0), .int (nI 0), .ref (q 23), .ref (q 24), .int (nI 0), .ref (q 26), .ref (q 27), .int (nI 0)])), (q 15, .inl (k 15, 8, .inl (va_cpy (fun _ => -1) (fun _ => 0) 0 0 8)))])) (va_Qv (fun (u : List Value) => match u with | fs2 => ((0 ≤ x.toInt ∧ x.toInt ≤ 7) ∧ fs2[0]? = some (.int (nI 2))) ∨ (¬ (0 ≤ x.toInt ∧ x.toInt ≤ 7) ∧ fs2[0]? = some (.int (nI 1)))) (at_X10_gradient dC dI A o q k pn ln bn x) A) (0) (0) A := by
  refine Met.ofW (cc := cX10_gradient) (maxL := 4) (ret := none) (by decide) rfl ?_
  intro p e s m args below meth c s₁ B hml hv
  obtain ⟨rfl, hsz, hP, hK, hD⟩ := hv
  have hx := B.exec
  have hb := B.bytes
  have hr := B.returns
  have hts := atoms_spec (ws := wd_X10_gradient) B.pre
  have hown : s.vm.findClass RX10 = some m.cls := findClass_of_methodNamed B.named
  have hlocks := B.notSynchronized
  have bk0 : ∀ w ∈ wd_X10_noName, w ∈ wd_X10_gradient := fun _ h => List.mem_cons_of_mem _ (List.mem_append_right _ (List.mem_append_left _ h))
  subst hsz
  have hA : ∀ q : Nat, s.heap.size ≤ q → A q := hA0
  have hS : va_S A s.heap s.heap [] := va_S.rf
  have hl := lv_entry ([.ref o, .int x]) (n := 4) (Nat.le_of_ble_eq_true rfl)
  rw [lg_entry_eq]
  generalize (lg_sl ([.ref o, .int x]) ++ List.replicate (4 - (lg_sl ([.ref o, .int x])).length) Slot.unset).toArray = ls at hl ⊢
  have hl : lv_has ls 4 [(0, .ref o), (1, .int x)] := hl
  refine lv_aload_n hx hb dX10_gradient_0 rfl (lv_at hl 0 rfl) ?_
  refine lv_iload_n hx hb dX10_gradient_1 rfl (lv_at hl 1 rfl) ?_
  have hPc := hP.sub (ws' := [(o, .inr (13, [.int (nI 0), .ref (q 1), .ref (q 2), .ref (q 3), .ref (q 4), .int (nI 0), .int (-1), .ref (q 7), .ref (q 8), .ref (q 9), .ref (q 10), .ref (q 11), .ref (q 12), .int (nI 0), .int (nI 0), .ref (q 15), .ref (q 16), .ref (q 17), .ref (q 18), .ref (q 19), .int (nI 0), .int (nI 0), .int (nI 0), .ref (q 23), .ref (q 24), .int (nI 0), .ref (q 26), .ref (q 27), .int (nI 0)])), (q 15, .inl (k 15, 8, .inl (va_cpy (fun _ => -1) (fun _ => 0) 0 0 8)))]) [0, 1] rfl
  have hDc := hD.sub (ws' := [(o, .inr (13, [.int (nI 0), .ref (q 1), .ref (q 2), .ref (q 3), .ref (q 4), .int (nI 0), .int (-1), .ref (q 7), .ref (q 8), .ref (q 9), .ref (q 10), .ref (q 11), .ref (q 12), .int (nI 0), .int (nI 0), .ref (q 15), .ref (q 16), .ref (q 17), .ref (q 18), .ref (q 19), .int (nI 0), .int (nI 0), .int (nI 0), .ref (q 23), .ref (q 24), .int (nI 0), .ref (q 26), .ref (q 27), .int (nI 0)])), (q 15, .inl (k 15, 8, .inl (va_cpy (fun _ => -1) (fun _ => 0) 0 0 8)))]) [0, 1] (by decide) rfl
  have hKc := hK.sub (tys' := [(k 15, .int)]) [0] rfl
  have hFc := va_free (wc := [(o, .inr (13, [.int (nI 0), .ref (q 1), .ref (q 2), .ref (q 3), .ref (q 4), .int (nI 0), .int (-1), .ref (q 7), .ref (q 8), .ref (q 9), .ref (q 10), .ref (q 11), .ref (q 12), .int (nI 0), .int (nI 0), .ref (q 15), .ref (q 16), .ref (q 17), .ref (q 18), .ref (q 19), .int (nI 0), .int (nI 0), .int (nI 0), .ref (q 23), .ref (q 24), .int (nI 0), .ref (q 26), .ref (q 27), .int (nI 0)])), (q 15, .inl (k 15, 8, .inl (va_cpy (fun _ => -1) (fun _ => 0) 0 0 8)))]) hD hS hA [0, 1] rfl
  refine va_calli (va_runV (As := [.int x]) (rest := []) ⟨hx, hb, hml, hown, hts⟩ (c_X10_noName l dC dI (va_A [(o, .inr (13, [.int (nI 0), .ref (q 1), .ref (q 2), .ref (q 3), .ref (q 4), .int (nI 0), .int (-1), .ref (q 7), .ref (q 8), .ref (q 9), .ref (q 10), .ref (q 11), .ref (q 12), .int (nI 0), .int (nI 0), .ref (q 15), .ref (q 16), .ref (q 17), .ref (q 18), .ref (q 19), .int (nI 0), .int (nI 0), .int (nI 0), .ref (q 23), .ref (q 24), .int (nI 0), .ref (q 26), .ref (q 27), .int (nI 0)])), (q 15, .inl (k 15, 8, .inl (va_cpy (fun _ => -1) (fun _ => 0) 0 0 8)))] s.heap.size) s.heap.size (fun _ h => Or.inr h) o q k pn ln bn x hpn hln hbn hL hPp hB) (cwV 1 hts (goodIn_app (goodIn_r [Cond.methodLink RX10 263 yX10_noName, Cond.instanceMethod yX10_noName, Cond.selects RX10 yX10_noName yX10_noName, Cond.initialized RX10] [1, 2, 3, 4] rfl rfl) (goodIn_sub (fun w9 h9 => bk0 w9 h9) gw_X10_noName)) rfl rfl rfl (by decide +kernel) ⟨Nat.le_of_ble_eq_true rfl, Nat.le_of_ble_eq_true rfl⟩) ⟨fun a U g mk q => by obtain ⟨q0, q1, qP, qK, qD⟩ := q; exact ⟨q0, q1, qP, va_K.moved (u := U) (U := U.calling g mk a) (Vm.Alike.refl U.vm) qK, qD⟩, va_recv hKc hPc (ci := 13) (q0 := 0) rfl rfl, fun U hU hW => ⟨rfl, by rw [hU], by rw [hU]; exact hPc, va_K.moved hW.alike hKc, hDc.self⟩⟩ rfl rfl hl.1 rfl (lv_room (Nat.le_of_ble_eq_true rfl)) dX10_gradient_2 ⟨(Nat.le_of_ble_eq_true rfl), (Nat.le_of_ble_eq_true rfl)⟩) hS (fun q _ h => hFc q h) hFc (fun r_1 u t H1 locs ht hvm hw_2 hB hz1 hk1 hS => ?_)
  obtain ⟨fs2_3, rfl⟩ : ∃ z, z = u := ⟨_, rfl⟩
  obtain ⟨hP1, hK1, hD1⟩ := hB
  rw [ht] at hP1
  have hK1 := va_K.moved hvm.symm hK1
  try dsimp only at hw_2
  obtain ⟨hP, hD⟩ := va_join (wr := []) (w1 := [(o, .inr (13, fs2_3))]) hP hD [0, 1] [] rfl rfl (by decide) (by decide) hk1 hFc hP1 hD1
  have hK := (hK.sub (tys' := []) [] rfl).app hK1
  generalize H1 = H at hP hS ⊢
  have hP : va_P (dC, dI) vwCl ([(o, .inr (13, fs2_3))]) H := hP
  have hD : va_D A ([(o, .inr (13, fs2_3))]) := hD
  have hK : va_K (dC, dI) vwCl [] s := hK
  obtain ⟨z_4, hnn⟩ := hw_2
  obtain rfl : r_1 = nI 1 := z_4
  refine lv_if_eq (tgt := 9) hx hb dX10_gradient_5 (by decide) (fun c_5 => absurd c_5 (by decide)) (fun c_5 => ?_)
  have hP9 := hP.sub (ws' := [(o, .inr (13, fs2_3))]) [0] rfl
  have hD9 := hD.sub (ws' := [(o, .inr (13, fs2_3))]) [0] (by decide) rfl
  have hK9 := hK.sub (tys' := []) [] rfl
  refine W.widen (k := 0) (n := 0) (by omega) (by omega) ?_
  exact W.vret hx hb hr (fun t ht hW => ⟨⟨fs2_3, rfl, hnn, by rw [ht]; exact hP9, va_K.moved hW.alike hK9, hD9⟩, hS.F ht⟩) hS.2.2 dX10_gradient_8
def wd_X10_derive : List Cond := .code yX10_derive cX10_derive 8 (some .int) :: (([.fieldLink RX10 78 "GradientDeskModel" "thrown" "I", .fieldLink RX10 47 "GradientDeskModel" "names" "[I"] : List Cond) ++ (u_ws RX10 TX10 29 ++ ([])))
theorem gw_X10_derive : wd_X10_derive.all goodWord = true := k_allc rfl (k_all (by decide +kernel) (k_all (gu_X10) (rfl)))
abbrev at_X10_derive (dC : Nat → ClassId) (dI : Nat → Nat → Nat) (A : Nat → Prop) (o : Nat) (q : Nat → Nat) (k : Nat → ClassId) (pn : Nat → Nat) (ln : Nat → Nat) (bn : Nat → Nat) (x : Int32) (x1 : Int32) (x2 : Int32) (u : List Value) (t : State) : Prop := match u with
  | fs2 => va_P (dC, dI) vwCl [(o, .inr (13, fs2))] t.heap ∧ va_K (dC, dI) vwCl [] t ∧ va_D A [(o, .inr (13, fs2))]
set_option maxHeartbeats 4000000 in
set_option maxRecDepth 100000 in
theorem c_X10_derive (l : Launch) (dC : Nat → ClassId) (dI : Nat → Nat → Nat) (A : Nat → Prop) (sz : Nat) (hA0 : ∀ q, sz ≤ q → A q) (o : Nat) (q : Nat → Nat) (k : Nat → ClassId) (pn : Nat → Nat) (ln : Nat → Nat) (bn : Nat → Nat) (x : Int32) (x1 : Int32) (x2 : Int32) (hpn : ∀ j, pn j < 4294967296) (hln : ∀ j, ln j < 81) (hbn : ∀ j, bn j < 2) (hL : ∀ j, ln j = if j % 2 = 1 ∧ j < 2068 then 1 else 0) (hPp : ∀ j, j % 2 = 1 → j < 2068 → pn (80 * j) = 1) (hB : ∀ j, bn j = 0) : Met l yX10_derive wd_X10_derive ({ frames := 10, cells := 0, slots := 0, locals := 200 }) (va_Pc [.ref o, .int x, .int x1, .int x2] (fun U => U.heap.size = sz ∧ va_P (dC, dI) vwCl [(o, .inr (13, [.int (nI 0), .ref (q 1), .ref (q 2), .ref (q 3), .ref (q 4), .int (nI 0), .int (-1), .ref (q 7), .ref (q 8), .ref (q 9), .ref (q 10), .ref (q 11), .ref (q 12), .int (nI 0), .int (nI 0), .ref (q 15), .ref (q 16), .ref (q 17), .ref (q 18), .ref (q 19), .int (nI 0), .int (nI 0), .int (nI 0), .ref (q 23), .ref (q 24), .int (nI 0), .ref (q 26), .ref (q 27), .int (nI 0)])), (q 15, .inl (k 15, 8, .inl (va_cpy (fun _ => -1) (fun _ => 0) 0 0 8)))] U.heap ∧ va_K (dC, dI) vwCl [(k 15, .int)] U ∧ va_D A [(o, .inr (13, [.int (nI 0), .ref (q 1), .ref (q 2), .ref (q 3), .ref (q 4), .int (nI 0), .int (-1), .ref (q 7), .ref (q 8), .ref (q 9), .ref (q 10), .ref (q 11), .ref (q 12), .int (nI 0), .int (nI 0), .ref (q 15), .ref (q 16), .ref (q 17), .ref (q 18), .ref (q 19), .int (nI 0), .int (nI 0), .int (nI 0), .ref (q 23), .ref (q 24), .int (nI 0), .ref (q 26), .ref (q 27), .int (nI 0)])), (q 15, .inl (k 15, 8, .inl (va_cpy (fun _ => -1) (fun _ => 0) 0 0 8)))])) (va_Qi (fun (r : Int32) => fun (u : List Value) => match u with | fs2 => (((0 ≤ x.toInt ∧ x.toInt ≤ 7) ∧ (0 ≤ x1.toInt ∧ x1.toInt ≤ 2) ∧ (0 ≤ x2.toInt ∧ x2.toInt ≤ 7)) ∧ fs2[0]? = some (.int (nI 2))) ∨ (¬ ((0 ≤ x.toInt ∧ x.toInt ≤ 7) ∧ (0 ≤ x1.toInt ∧ x1.toInt ≤ 2) ∧ (0 ≤ x2.toInt ∧ x2.toInt ≤ 7)) ∧ fs2[0]? = some (.int (nI 1)))) (at_X10_derive dC dI A o q k pn ln bn x x1 x2) A) (0) (0) A := by
  refine Met.ofW (cc := cX10_derive) (maxL := 8) (ret := (some .int)) (by decide) rfl ?_
  intro p e s m args below meth c s₁ B hml hv
  obtain ⟨rfl, hsz, hP, hK, hD⟩ := hv
  have hx := B.exec
  have hb := B.bytes
  have hr := B.returns
  have hts := atoms_spec (ws := wd_X10_derive) B.pre
  have hown : s.vm.findClass RX10 = some m.cls := findClass_of_methodNamed B.named
  have hlocks := B.notSynchronized
  have bk0 : ∀ w ∈ u_ws RX10 TX10 29, w ∈ wd_X10_derive := fun _ h => List.mem_cons_of_mem _ (List.mem_append_right _ (List.mem_append_left _ h))
  subst hsz
  have hA : ∀ q : Nat, s.heap.size ≤ q → A q := hA0
  have hS : va_S A s.heap s.heap [] := va_S.rf
  have hl := lv_entry ([.ref o, .int x, .int x1, .int x2]) (n := 8) (Nat.le_of_ble_eq_true rfl)
  rw [lg_entry_eq]
  generalize (lg_sl ([.ref o, .int x, .int x1, .int x2]) ++ List.replicate (8 - (lg_sl ([.ref o, .int x, .int x1, .int x2])).length) Slot.unset).toArray = ls at hl ⊢
  have hl : lv_has ls 8 [(0, .ref o), (1, .int x), (2, .int x1), (3, .int x2)] := hl
  refine lv_iload_n hx hb dX10_derive_0 rfl (lv_at hl 1 rfl) ?_
  refine lv_if_lt (tgt := 29) hx hb dX10_derive_1 (by decide) (fun c_1 => ?_) (fun c_1 => ?_)
  · have c_1 := (k_lt x (nI 0)).mp c_1
    rw [show (nI 0).toInt = 0 from by decide] at c_1
    refine lv_iconst (v := nI 1) hx hb dX10_derive_29 (by decide +kernel) ?_
    refine lv_goto (tgt := 34) hx hb dX10_derive_30 (by decide) ?_
    refine lv_istore (lv' := [(4, .int (nI 1)), (0, .ref o), (1, .int x), (2, .int x1), (3, .int x2)]) hx hb dX10_derive_34 hl (by decide) rfl (fun ls hl => ?_)
    refine lv_aload_n hx hb dX10_derive_36 rfl (lv_at hl 1 rfl) ?_
    refine lv_iload hx hb dX10_derive_37 (lv_at hl 0 rfl) ?_
    refine lv_if_eq (tgt := 46) hx hb dX10_derive_39 (by decide) (fun c_2 => absurd c_2 (by decide)) (fun c_2 => ?_)
    refine lv_iconst (v := nI 1) hx hb dX10_derive_42 (by decide +kernel) ?_
    refine lv_goto (tgt := 60) hx hb dX10_derive_43 (by decide) ?_
    refine va_put (D := (dC, dI)) (ci := 13) (v := .int (nI 1)) (ty := .int) (C := RX10) (T := TX10) (N := 29) hx hb hts bk0 tyX10 tyX10_ok nmX10 hown hK hP hD hS 0 rfl rfl 0 (by decide) (hts (.fieldLink RX10 78 "GradientDeskModel" "thrown" "I") (List.mem_of_getElem? (i := 1) rfl)) (fun _ h9 => h9) rfl (by decide +kernel) rfl rfl (Nat.le_of_ble_eq_true rfl) dX10_derive_60 (fun H locs hP hD hS => ?_)
    have hP : va_P (dC, dI) vwCl ([(o, .inr (13, [.int (nI 1), .ref (q 1), .ref (q 2), .ref (q 3), .ref (q 4), .int (nI 0), .int (-1), .ref (q 7), .ref (q 8), .ref (q 9), .ref (q 10), .ref (q 11), .ref (q 12), .int (nI 0), .int (nI 0), .ref (q 15), .ref (q 16), .ref (q 17), .ref (q 18), .ref (q 19), .int (nI 0), .int (nI 0), .int (nI 0), .ref (q 23), .ref (q 24), .int (nI 0), .ref (q 26), .ref (q 27), .int (nI 0)])), (q 15, .inl (k 15, 8, .inl (va_cpy (fun _ => -1) (fun _ => 0) 0 0 8)))]) H := hP
    have hD : va_D A ([(o, .inr (13, [.int (nI 1), .ref (q 1), .ref (q 2), .ref (q 3), .ref (q 4), .int (nI 0), .int (-1), .ref (q 7), .ref (q 8), .ref (q 9), .ref (q 10), .ref (q 11), .ref (q 12), .int (nI 0), .int (nI 0), .ref (q 15), .ref (q 16), .ref (q 17), .ref (q 18), .ref (q 19), .int (nI 0), .int (nI 0), .int (nI 0), .ref (q 23), .ref (q 24), .int (nI 0), .ref (q 26), .ref (q 27), .int (nI 0)])), (q 15, .inl (k 15, 8, .inl (va_cpy (fun _ => -1) (fun _ => 0) 0 0 8)))]) := hD
    refine lv_aload_n hx hb dX10_derive_63 rfl (lv_at hl 1 rfl) ?_
    refine va_get (D := (dC, dI)) (ci := 13) (v := .int (nI 1)) (C := RX10) (T := TX10) (N := 29) hx hb hts bk0 hown hK hP 0 rfl rfl 0 (by decide) (hts (.fieldLink RX10 78 "GradientDeskModel" "thrown" "I") (List.mem_of_getElem? (i := 1) rfl)) (fun _ h9 => h9) rfl dX10_derive_64 ?_
    refine lv_if_le (tgt := 72) hx hb dX10_derive_67 (by decide) (fun c_3 => absurd c_3 (by decide)) (fun c_3 => ?_)
    refine lv_iconst (v := nI 0) hx hb dX10_derive_70 (by decide +kernel) ?_
    have hP9 := hP.sub (ws' := [(o, .inr (13, [.int (nI 1), .ref (q 1), .ref (q 2), .ref (q 3), .ref (q 4), .int (nI 0), .int (-1), .ref (q 7), .ref (q 8), .ref (q 9), .ref (q 10), .ref (q 11), .ref (q 12), .int (nI 0), .int (nI 0), .ref (q 15), .ref (q 16), .ref (q 17), .ref (q 18), .ref (q 19), .int (nI 0), .int (nI 0), .int (nI 0), .ref (q 23), .ref (q 24), .int (nI 0), .ref (q 26), .ref (q 27), .int (nI 0)]))]) [0] rfl
    have hD9 := hD.sub (ws' := [(o, .inr (13, [.int (nI 1), .ref (q 1), .ref (q 2), .ref (q 3), .ref (q 4), .int (nI 0), .int (-1), .ref (q 7), .ref (q 8), .ref (q 9), .ref (q 10), .ref (q 11), .ref (q 12), .int (nI 0), .int (nI 0), .ref (q 15), .ref (q 16), .ref (q 17), .ref (q 18), .ref (q 19), .int (nI 0), .int (nI 0), .int (nI 0), .ref (q 23), .ref (q 24), .int (nI 0), .ref (q 26), .ref (q 27), .int (nI 0)]))]) [0] (by decide) rfl
    have hK9 := hK.sub (tys' := []) [] rfl
    refine W.widen (k := 0) (n := 0) (by omega) (by omega) ?_
    exact W.iret (v := nI 0) hx hb hr (fun t ht hW => ⟨⟨nI 0, [.int (nI 1), .ref (q 1), .ref (q 2), .ref (q 3), .ref (q 4), .int (nI 0), .int (-1), .ref (q 7), .ref (q 8), .ref (q 9), .ref (q 10), .ref (q 11), .ref (q 12), .int (nI 0), .int (nI 0), .ref (q 15), .ref (q 16), .ref (q 17), .ref (q 18), .ref (q 19), .int (nI 0), .int (nI 0), .int (nI 0), .ref (q 23), .ref (q 24), .int (nI 0), .ref (q 26), .ref (q 27), .int (nI 0)], rfl, Or.inr ⟨by omega, rfl⟩, by rw [ht]; exact hP9, va_K.moved hW.alike hK9, hD9⟩, hS.F ht⟩) hS.2.2 dX10_derive_71
  · have c_1 := mt (k_lt x (nI 0)).mpr c_1
    rw [show (nI 0).toInt = 0 from by decide] at c_1
    refine lv_iload_n hx hb dX10_derive_4 rfl (lv_at hl 1 rfl) ?_
    refine lv_bipush (v := nI 7) hx hb dX10_derive_5 (by decide +kernel) ?_
    refine lv_icmp_gt (tgt := 29) hx hb dX10_derive_7 (by decide) (fun c_4 => ?_) (fun c_4 => ?_)
    · have c_4 := (k_lt (nI 7) x).mp c_4
      rw [show (nI 7).toInt = 7 from by decide] at c_4
      refine lv_iconst (v := nI 1) hx hb dX10_derive_29 (by decide +kernel) ?_
      refine lv_goto (tgt := 34) hx hb dX10_derive_30 (by decide) ?_
      refine lv_istore (lv' := [(4, .int (nI 1)), (0, .ref o), (1, .int x), (2, .int x1), (3, .int x2)]) hx hb dX10_derive_34 hl (by decide) rfl (fun ls hl => ?_)
      refine lv_aload_n hx hb dX10_derive_36 rfl (lv_at hl 1 rfl) ?_
      refine lv_iload hx hb dX10_derive_37 (lv_at hl 0 rfl) ?_
      refine lv_if_eq (tgt := 46) hx hb dX10_derive_39 (by decide) (fun c_5 => absurd c_5 (by decide)) (fun c_5 => ?_)
      refine lv_iconst (v := nI 1) hx hb dX10_derive_42 (by decide +kernel) ?_
      refine lv_goto (tgt := 60) hx hb dX10_derive_43 (by decide) ?_
      refine va_put (D := (dC, dI)) (ci := 13) (v := .int (nI 1)) (ty := .int) (C := RX10) (T := TX10) (N := 29) hx hb hts bk0 tyX10 tyX10_ok nmX10 hown hK hP hD hS 0 rfl rfl 0 (by decide) (hts (.fieldLink RX10 78 "GradientDeskModel" "thrown" "I") (List.mem_of_getElem? (i := 1) rfl)) (fun _ h9 => h9) rfl (by decide +kernel) rfl rfl (Nat.le_of_ble_eq_true rfl) dX10_derive_60 (fun H locs hP hD hS => ?_)
      have hP : va_P (dC, dI) vwCl ([(o, .inr (13, [.int (nI 1), .ref (q 1), .ref (q 2), .ref (q 3), .ref (q 4), .int (nI 0), .int (-1), .ref (q 7), .ref (q 8), .ref (q 9), .ref (q 10), .ref (q 11), .ref (q 12), .int (nI 0), .int (nI 0), .ref (q 15), .ref (q 16), .ref (q 17), .ref (q 18), .ref (q 19), .int (nI 0), .int (nI 0), .int (nI 0), .ref (q 23), .ref (q 24), .int (nI 0), .ref (q 26), .ref (q 27), .int (nI 0)])), (q 15, .inl (k 15, 8, .inl (va_cpy (fun _ => -1) (fun _ => 0) 0 0 8)))]) H := hP
      have hD : va_D A ([(o, .inr (13, [.int (nI 1), .ref (q 1), .ref (q 2), .ref (q 3), .ref (q 4), .int (nI 0), .int (-1), .ref (q 7), .ref (q 8), .ref (q 9), .ref (q 10), .ref (q 11), .ref (q 12), .int (nI 0), .int (nI 0), .ref (q 15), .ref (q 16), .ref (q 17), .ref (q 18), .ref (q 19), .int (nI 0), .int (nI 0), .int (nI 0), .ref (q 23), .ref (q 24), .int (nI 0), .ref (q 26), .ref (q 27), .int (nI 0)])), (q 15, .inl (k 15, 8, .inl (va_cpy (fun _ => -1) (fun _ => 0) 0 0 8)))]) := hD
      refine lv_aload_n hx hb dX10_derive_63 rfl (lv_at hl 1 rfl) ?_
      refine va_get (D := (dC, dI)) (ci := 13) (v := .int (nI 1)) (C := RX10) (T := TX10) (N := 29) hx hb hts bk0 hown hK hP 0 rfl rfl 0 (by decide) (hts (.fieldLink RX10 78 "GradientDeskModel" "thrown" "I") (List.mem_of_getElem? (i := 1) rfl)) (fun _ h9 => h9) rfl dX10_derive_64 ?_
      refine lv_if_le (tgt := 72) hx hb dX10_derive_67 (by decide) (fun c_6 => absurd c_6 (by decide)) (fun c_6 => ?_)
      refine lv_iconst (v := nI 0) hx hb dX10_derive_70 (by decide +kernel) ?_
      have hP9 := hP.sub (ws' := [(o, .inr (13, [.int (nI 1), .ref (q 1), .ref (q 2), .ref (q 3), .ref (q 4), .int (nI 0), .int (-1), .ref (q 7), .ref (q 8), .ref (q 9), .ref (q 10), .ref (q 11), .ref (q 12), .int (nI 0), .int (nI 0), .ref (q 15), .ref (q 16), .ref (q 17), .ref (q 18), .ref (q 19), .int (nI 0), .int (nI 0), .int (nI 0), .ref (q 23), .ref (q 24), .int (nI 0), .ref (q 26), .ref (q 27), .int (nI 0)]))]) [0] rfl
      have hD9 := hD.sub (ws' := [(o, .inr (13, [.int (nI 1), .ref (q 1), .ref (q 2), .ref (q 3), .ref (q 4), .int (nI 0), .int (-1), .ref (q 7), .ref (q 8), .ref (q 9), .ref (q 10), .ref (q 11), .ref (q 12), .int (nI 0), .int (nI 0), .ref (q 15), .ref (q 16), .ref (q 17), .ref (q 18), .ref (q 19), .int (nI 0), .int (nI 0), .int (nI 0), .ref (q 23), .ref (q 24), .int (nI 0), .ref (q 26), .ref (q 27), .int (nI 0)]))]) [0] (by decide) rfl
      have hK9 := hK.sub (tys' := []) [] rfl
      refine W.widen (k := 0) (n := 0) (by omega) (by omega) ?_
      exact W.iret (v := nI 0) hx hb hr (fun t ht hW => ⟨⟨nI 0, [.int (nI 1), .ref (q 1), .ref (q 2), .ref (q 3), .ref (q 4), .int (nI 0), .int (-1), .ref (q 7), .ref (q 8), .ref (q 9), .ref (q 10), .ref (q 11), .ref (q 12), .int (nI 0), .int (nI 0), .ref (q 15), .ref (q 16), .ref (q 17), .ref (q 18), .ref (q 19), .int (nI 0), .int (nI 0), .int (nI 0), .ref (q 23), .ref (q 24), .int (nI 0), .ref (q 26), .ref (q 27), .int (nI 0)], rfl, Or.inr ⟨by omega, rfl⟩, by rw [ht]; exact hP9, va_K.moved hW.alike hK9, hD9⟩, hS.F ht⟩) hS.2.2 dX10_derive_71
    · have c_4 := mt (k_lt (nI 7) x).mpr c_4
      rw [show (nI 7).toInt = 7 from by decide] at c_4
      refine lv_iload_n hx hb dX10_derive_10 rfl (lv_at hl 3 rfl) ?_
      refine lv_if_lt (tgt := 29) hx hb dX10_derive_11 (by decide) (fun c_7 => ?_) (fun c_7 => ?_)
      · have c_7 := (k_lt x2 (nI 0)).mp c_7
        rw [show (nI 0).toInt = 0 from by decide] at c_7
        refine lv_iconst (v := nI 1) hx hb dX10_derive_29 (by decide +kernel) ?_
        refine lv_goto (tgt := 34) hx hb dX10_derive_30 (by decide) ?_
        refine lv_istore (lv' := [(4, .int (nI 1)), (0, .ref o), (1, .int x), (2, .int x1), (3, .int x2)]) hx hb dX10_derive_34 hl (by decide) rfl (fun ls hl => ?_)
        refine lv_aload_n hx hb dX10_derive_36 rfl (lv_at hl 1 rfl) ?_
        refine lv_iload hx hb dX10_derive_37 (lv_at hl 0 rfl) ?_
        refine lv_if_eq (tgt := 46) hx hb dX10_derive_39 (by decide) (fun c_8 => absurd c_8 (by decide)) (fun c_8 => ?_)
        refine lv_iconst (v := nI 1) hx hb dX10_derive_42 (by decide +kernel) ?_
        refine lv_goto (tgt := 60) hx hb dX10_derive_43 (by decide) ?_
        refine va_put (D := (dC, dI)) (ci := 13) (v := .int (nI 1)) (ty := .int) (C := RX10) (T := TX10) (N := 29) hx hb hts bk0 tyX10 tyX10_ok nmX10 hown hK hP hD hS 0 rfl rfl 0 (by decide) (hts (.fieldLink RX10 78 "GradientDeskModel" "thrown" "I") (List.mem_of_getElem? (i := 1) rfl)) (fun _ h9 => h9) rfl (by decide +kernel) rfl rfl (Nat.le_of_ble_eq_true rfl) dX10_derive_60 (fun H locs hP hD hS => ?_)
        have hP : va_P (dC, dI) vwCl ([(o, .inr (13, [.int (nI 1), .ref (q 1), .ref (q 2), .ref (q 3), .ref (q 4), .int (nI 0), .int (-1), .ref (q 7), .ref (q 8), .ref (q 9), .ref (q 10), .ref (q 11), .ref (q 12), .int (nI 0), .int (nI 0), .ref (q 15), .ref (q 16), .ref (q 17), .ref (q 18), .ref (q 19), .int (nI 0), .int (nI 0), .int (nI 0), .ref (q 23), .ref (q 24), .int (nI 0), .ref (q 26), .ref (q 27), .int (nI 0)])), (q 15, .inl (k 15, 8, .inl (va_cpy (fun _ => -1) (fun _ => 0) 0 0 8)))]) H := hP
        have hD : va_D A ([(o, .inr (13, [.int (nI 1), .ref (q 1), .ref (q 2), .ref (q 3), .ref (q 4), .int (nI 0), .int (-1), .ref (q 7), .ref (q 8), .ref (q 9), .ref (q 10), .ref (q 11), .ref (q 12), .int (nI 0), .int (nI 0), .ref (q 15), .ref (q 16), .ref (q 17), .ref (q 18), .ref (q 19), .int (nI 0), .int (nI 0), .int (nI 0), .ref (q 23), .ref (q 24), .int (nI 0), .ref (q 26), .ref (q 27), .int (nI 0)])), (q 15, .inl (k 15, 8, .inl (va_cpy (fun _ => -1) (fun _ => 0) 0 0 8)))]) := hD
        refine lv_aload_n hx hb dX10_derive_63 rfl (lv_at hl 1 rfl) ?_
        refine va_get (D := (dC, dI)) (ci := 13) (v := .int (nI 1)) (C := RX10) (T := TX10) (N := 29) hx hb hts bk0 hown hK hP 0 rfl rfl 0 (by decide) (hts (.fieldLink RX10 78 "GradientDeskModel" "thrown" "I") (List.mem_of_getElem? (i := 1) rfl)) (fun _ h9 => h9) rfl dX10_derive_64 ?_
        refine lv_if_le (tgt := 72) hx hb dX10_derive_67 (by decide) (fun c_9 => absurd c_9 (by decide)) (fun c_9 => ?_)
        refine lv_iconst (v := nI 0) hx hb dX10_derive_70 (by decide +kernel) ?_
        have hP9 := hP.sub (ws' := [(o, .inr (13, [.int (nI 1), .ref (q 1), .ref (q 2), .ref (q 3), .ref (q 4), .int (nI 0), .int (-1), .ref (q 7), .ref (q 8), .ref (q 9), .ref (q 10), .ref (q 11), .ref (q 12), .int (nI 0), .int (nI 0), .ref (q 15), .ref (q 16), .ref (q 17), .ref (q 18), .ref (q 19), .int (nI 0), .int (nI 0), .int (nI 0), .ref (q 23), .ref (q 24), .int (nI 0), .ref (q 26), .ref (q 27), .int (nI 0)]))]) [0] rfl
        have hD9 := hD.sub (ws' := [(o, .inr (13, [.int (nI 1), .ref (q 1), .ref (q 2), .ref (q 3), .ref (q 4), .int (nI 0), .int (-1), .ref (q 7), .ref (q 8), .ref (q 9), .ref (q 10), .ref (q 11), .ref (q 12), .int (nI 0), .int (nI 0), .ref (q 15), .ref (q 16), .ref (q 17), .ref (q 18), .ref (q 19), .int (nI 0), .int (nI 0), .int (nI 0), .ref (q 23), .ref (q 24), .int (nI 0), .ref (q 26), .ref (q 27), .int (nI 0)]))]) [0] (by decide) rfl
        have hK9 := hK.sub (tys' := []) [] rfl
        refine W.widen (k := 0) (n := 0) (by omega) (by omega) ?_
        exact W.iret (v := nI 0) hx hb hr (fun t ht hW => ⟨⟨nI 0, [.int (nI 1), .ref (q 1), .ref (q 2), .ref (q 3), .ref (q 4), .int (nI 0), .int (-1), .ref (q 7), .ref (q 8), .ref (q 9), .ref (q 10), .ref (q 11), .ref (q 12), .int (nI 0), .int (nI 0), .ref (q 15), .ref (q 16), .ref (q 17), .ref (q 18), .ref (q 19), .int (nI 0), .int (nI 0), .int (nI 0), .ref (q 23), .ref (q 24), .int (nI 0), .ref (q 26), .ref (q 27), .int (nI 0)], rfl, Or.inr ⟨by omega, rfl⟩, by rw [ht]; exact hP9, va_K.moved hW.alike hK9, hD9⟩, hS.F ht⟩) hS.2.2 dX10_derive_71
      · have c_7 := mt (k_lt x2 (nI 0)).mpr c_7
        rw [show (nI 0).toInt = 0 from by decide] at c_7
        refine lv_iload_n hx hb dX10_derive_14 rfl (lv_at hl 3 rfl) ?_
        refine lv_bipush (v := nI 7) hx hb dX10_derive_15 (by decide +kernel) ?_
        refine lv_icmp_gt (tgt := 29) hx hb dX10_derive_17 (by decide) (fun c_10 => ?_) (fun c_10 => ?_)
        · have c_10 := (k_lt (nI 7) x2).mp c_10
          rw [show (nI 7).toInt = 7 from by decide] at c_10
          refine lv_iconst (v := nI 1) hx hb dX10_derive_29 (by decide +kernel) ?_
          refine lv_goto (tgt := 34) hx hb dX10_derive_30 (by decide) ?_
          refine lv_istore (lv' := [(4, .int (nI 1)), (0, .ref o), (1, .int x), (2, .int x1), (3, .int x2)]) hx hb dX10_derive_34 hl (by decide) rfl (fun ls hl => ?_)
          refine lv_aload_n hx hb dX10_derive_36 rfl (lv_at hl 1 rfl) ?_
          refine lv_iload hx hb dX10_derive_37 (lv_at hl 0 rfl) ?_
          refine lv_if_eq (tgt := 46) hx hb dX10_derive_39 (by decide) (fun c_11 => absurd c_11 (by decide)) (fun c_11 => ?_)
          refine lv_iconst (v := nI 1) hx hb dX10_derive_42 (by decide +kernel) ?_
          refine lv_goto (tgt := 60) hx hb dX10_derive_43 (by decide) ?_
          refine va_put (D := (dC, dI)) (ci := 13) (v := .int (nI 1)) (ty := .int) (C := RX10) (T := TX10) (N := 29) hx hb hts bk0 tyX10 tyX10_ok nmX10 hown hK hP hD hS 0 rfl rfl 0 (by decide) (hts (.fieldLink RX10 78 "GradientDeskModel" "thrown" "I") (List.mem_of_getElem? (i := 1) rfl)) (fun _ h9 => h9) rfl (by decide +kernel) rfl rfl (Nat.le_of_ble_eq_true rfl) dX10_derive_60 (fun H locs hP hD hS => ?_)
          have hP : va_P (dC, dI) vwCl ([(o, .inr (13, [.int (nI 1), .ref (q 1), .ref (q 2), .ref (q 3), .ref (q 4), .int (nI 0), .int (-1), .ref (q 7), .ref (q 8), .ref (q 9), .ref (q 10), .ref (q 11), .ref (q 12), .int (nI 0), .int (nI 0), .ref (q 15), .ref (q 16), .ref (q 17), .ref (q 18), .ref (q 19), .int (nI 0), .int (nI 0), .int (nI 0), .ref (q 23), .ref (q 24), .int (nI 0), .ref (q 26), .ref (q 27), .int (nI 0)])), (q 15, .inl (k 15, 8, .inl (va_cpy (fun _ => -1) (fun _ => 0) 0 0 8)))]) H := hP
          have hD : va_D A ([(o, .inr (13, [.int (nI 1), .ref (q 1), .ref (q 2), .ref (q 3), .ref (q 4), .int (nI 0), .int (-1), .ref (q 7), .ref (q 8), .ref (q 9), .ref (q 10), .ref (q 11), .ref (q 12), .int (nI 0), .int (nI 0), .ref (q 15), .ref (q 16), .ref (q 17), .ref (q 18), .ref (q 19), .int (nI 0), .int (nI 0), .int (nI 0), .ref (q 23), .ref (q 24), .int (nI 0), .ref (q 26), .ref (q 27), .int (nI 0)])), (q 15, .inl (k 15, 8, .inl (va_cpy (fun _ => -1) (fun _ => 0) 0 0 8)))]) := hD
          refine lv_aload_n hx hb dX10_derive_63 rfl (lv_at hl 1 rfl) ?_
          refine va_get (D := (dC, dI)) (ci := 13) (v := .int (nI 1)) (C := RX10) (T := TX10) (N := 29) hx hb hts bk0 hown hK hP 0 rfl rfl 0 (by decide) (hts (.fieldLink RX10 78 "GradientDeskModel" "thrown" "I") (List.mem_of_getElem? (i := 1) rfl)) (fun _ h9 => h9) rfl dX10_derive_64 ?_
          refine lv_if_le (tgt := 72) hx hb dX10_derive_67 (by decide) (fun c_12 => absurd c_12 (by decide)) (fun c_12 => ?_)
          refine lv_iconst (v := nI 0) hx hb dX10_derive_70 (by decide +kernel) ?_
          have hP9 := hP.sub (ws' := [(o, .inr (13, [.int (nI 1), .ref (q 1), .ref (q 2), .ref (q 3), .ref (q 4), .int (nI 0), .int (-1), .ref (q 7), .ref (q 8), .ref (q 9), .ref (q 10), .ref (q 11), .ref (q 12), .int (nI 0), .int (nI 0), .ref (q 15), .ref (q 16), .ref (q 17), .ref (q 18), .ref (q 19), .int (nI 0), .int (nI 0), .int (nI 0), .ref (q 23), .ref (q 24), .int (nI 0), .ref (q 26), .ref (q 27), .int (nI 0)]))]) [0] rfl
          have hD9 := hD.sub (ws' := [(o, .inr (13, [.int (nI 1), .ref (q 1), .ref (q 2), .ref (q 3), .ref (q 4), .int (nI 0), .int (-1), .ref (q 7), .ref (q 8), .ref (q 9), .ref (q 10), .ref (q 11), .ref (q 12), .int (nI 0), .int (nI 0), .ref (q 15), .ref (q 16), .ref (q 17), .ref (q 18), .ref (q 19), .int (nI 0), .int (nI 0), .int (nI 0), .ref (q 23), .ref (q 24), .int (nI 0), .ref (q 26), .ref (q 27), .int (nI 0)]))]) [0] (by decide) rfl
          have hK9 := hK.sub (tys' := []) [] rfl
          refine W.widen (k := 0) (n := 0) (by omega) (by omega) ?_
          exact W.iret (v := nI 0) hx hb hr (fun t ht hW => ⟨⟨nI 0, [.int (nI 1), .ref (q 1), .ref (q 2), .ref (q 3), .ref (q 4), .int (nI 0), .int (-1), .ref (q 7), .ref (q 8), .ref (q 9), .ref (q 10), .ref (q 11), .ref (q 12), .int (nI 0), .int (nI 0), .ref (q 15), .ref (q 16), .ref (q 17), .ref (q 18), .ref (q 19), .int (nI 0), .int (nI 0), .int (nI 0), .ref (q 23), .ref (q 24), .int (nI 0), .ref (q 26), .ref (q 27), .int (nI 0)], rfl, Or.inr ⟨by omega, rfl⟩, by rw [ht]; exact hP9, va_K.moved hW.alike hK9, hD9⟩, hS.F ht⟩) hS.2.2 dX10_derive_71
        · have c_10 := mt (k_lt (nI 7) x2).mpr c_10
          rw [show (nI 7).toInt = 7 from by decide] at c_10
          refine lv_iload_n hx hb dX10_derive_20 rfl (lv_at hl 2 rfl) ?_
          refine lv_if_lt (tgt := 29) hx hb dX10_derive_21 (by decide) (fun c_13 => ?_) (fun c_13 => ?_)
          · have c_13 := (k_lt x1 (nI 0)).mp c_13
            rw [show (nI 0).toInt = 0 from by decide] at c_13
            refine lv_iconst (v := nI 1) hx hb dX10_derive_29 (by decide +kernel) ?_
            refine lv_goto (tgt := 34) hx hb dX10_derive_30 (by decide) ?_
            refine lv_istore (lv' := [(4, .int (nI 1)), (0, .ref o), (1, .int x), (2, .int x1), (3, .int x2)]) hx hb dX10_derive_34 hl (by decide) rfl (fun ls hl => ?_)
            refine lv_aload_n hx hb dX10_derive_36 rfl (lv_at hl 1 rfl) ?_
            refine lv_iload hx hb dX10_derive_37 (lv_at hl 0 rfl) ?_
            refine lv_if_eq (tgt := 46) hx hb dX10_derive_39 (by decide) (fun c_14 => absurd c_14 (by decide)) (fun c_14 => ?_)
            refine lv_iconst (v := nI 1) hx hb dX10_derive_42 (by decide +kernel) ?_
            refine lv_goto (tgt := 60) hx hb dX10_derive_43 (by decide) ?_
            refine va_put (D := (dC, dI)) (ci := 13) (v := .int (nI 1)) (ty := .int) (C := RX10) (T := TX10) (N := 29) hx hb hts bk0 tyX10 tyX10_ok nmX10 hown hK hP hD hS 0 rfl rfl 0 (by decide) (hts (.fieldLink RX10 78 "GradientDeskModel" "thrown" "I") (List.mem_of_getElem? (i := 1) rfl)) (fun _ h9 => h9) rfl (by decide +kernel) rfl rfl (Nat.le_of_ble_eq_true rfl) dX10_derive_60 (fun H locs hP hD hS => ?_)
            have hP : va_P (dC, dI) vwCl ([(o, .inr (13, [.int (nI 1), .ref (q 1), .ref (q 2), .ref (q 3), .ref (q 4), .int (nI 0), .int (-1), .ref (q 7), .ref (q 8), .ref (q 9), .ref (q 10), .ref (q 11), .ref (q 12), .int (nI 0), .int (nI 0), .ref (q 15), .ref (q 16), .ref (q 17), .ref (q 18), .ref (q 19), .int (nI 0), .int (nI 0), .int (nI 0), .ref (q 23), .ref (q 24), .int (nI 0), .ref (q 26), .ref (q 27), .int (nI 0)])), (q 15, .inl (k 15, 8, .inl (va_cpy (fun _ => -1) (fun _ => 0) 0 0 8)))]) H := hP
            have hD : va_D A ([(o, .inr (13, [.int (nI 1), .ref (q 1), .ref (q 2), .ref (q 3), .ref (q 4), .int (nI 0), .int (-1), .ref (q 7), .ref (q 8), .ref (q 9), .ref (q 10), .ref (q 11), .ref (q 12), .int (nI 0), .int (nI 0), .ref (q 15), .ref (q 16), .ref (q 17), .ref (q 18), .ref (q 19), .int (nI 0), .int (nI 0), .int (nI 0), .ref (q 23), .ref (q 24), .int (nI 0), .ref (q 26), .ref (q 27), .int (nI 0)])), (q 15, .inl (k 15, 8, .inl (va_cpy (fun _ => -1) (fun _ => 0) 0 0 8)))]) := hD
            refine lv_aload_n hx hb dX10_derive_63 rfl (lv_at hl 1 rfl) ?_
            refine va_get (D := (dC, dI)) (ci := 13) (v := .int (nI 1)) (C := RX10) (T := TX10) (N := 29) hx hb hts bk0 hown hK hP 0 rfl rfl 0 (by decide) (hts (.fieldLink RX10 78 "GradientDeskModel" "thrown" "I") (List.mem_of_getElem? (i := 1) rfl)) (fun _ h9 => h9) rfl dX10_derive_64 ?_
            refine lv_if_le (tgt := 72) hx hb dX10_derive_67 (by decide) (fun c_15 => absurd c_15 (by decide)) (fun c_15 => ?_)
            refine lv_iconst (v := nI 0) hx hb dX10_derive_70 (by decide +kernel) ?_
            have hP9 := hP.sub (ws' := [(o, .inr (13, [.int (nI 1), .ref (q 1), .ref (q 2), .ref (q 3), .ref (q 4), .int (nI 0), .int (-1), .ref (q 7), .ref (q 8), .ref (q 9), .ref (q 10), .ref (q 11), .ref (q 12), .int (nI 0), .int (nI 0), .ref (q 15), .ref (q 16), .ref (q 17), .ref (q 18), .ref (q 19), .int (nI 0), .int (nI 0), .int (nI 0), .ref (q 23), .ref (q 24), .int (nI 0), .ref (q 26), .ref (q 27), .int (nI 0)]))]) [0] rfl
            have hD9 := hD.sub (ws' := [(o, .inr (13, [.int (nI 1), .ref (q 1), .ref (q 2), .ref (q 3), .ref (q 4), .int (nI 0), .int (-1), .ref (q 7), .ref (q 8), .ref (q 9), .ref (q 10), .ref (q 11), .ref (q 12), .int (nI 0), .int (nI 0), .ref (q 15), .ref (q 16), .ref (q 17), .ref (q 18), .ref (q 19), .int (nI 0), .int (nI 0), .int (nI 0), .ref (q 23), .ref (q 24), .int (nI 0), .ref (q 26), .ref (q 27), .int (nI 0)]))]) [0] (by decide) rfl
            have hK9 := hK.sub (tys' := []) [] rfl
            refine W.widen (k := 0) (n := 0) (by omega) (by omega) ?_
            exact W.iret (v := nI 0) hx hb hr (fun t ht hW => ⟨⟨nI 0, [.int (nI 1), .ref (q 1), .ref (q 2), .ref (q 3), .ref (q 4), .int (nI 0), .int (-1), .ref (q 7), .ref (q 8), .ref (q 9), .ref (q 10), .ref (q 11), .ref (q 12), .int (nI 0), .int (nI 0), .ref (q 15), .ref (q 16), .ref (q 17), .ref (q 18), .ref (q 19), .int (nI 0), .int (nI 0), .int (nI 0), .ref (q 23), .ref (q 24), .int (nI 0), .ref (q 26), .ref (q 27), .int (nI 0)], rfl, Or.inr ⟨by omega, rfl⟩, by rw [ht]; exact hP9, va_K.moved hW.alike hK9, hD9⟩, hS.F ht⟩) hS.2.2 dX10_derive_71
          · have c_13 := mt (k_lt x1 (nI 0)).mpr c_13
            rw [show (nI 0).toInt = 0 from by decide] at c_13
            refine lv_iload_n hx hb dX10_derive_24 rfl (lv_at hl 2 rfl) ?_
            refine lv_iconst (v := nI 2) hx hb dX10_derive_25 (by decide +kernel) ?_
            refine lv_icmp_le (tgt := 33) hx hb dX10_derive_26 (by decide) (fun c_16 => ?_) (fun c_16 => ?_)
            · have c_16 := (k_le x1 (nI 2)).mp c_16
              rw [show (nI 2).toInt = 2 from by decide] at c_16
              refine lv_iconst (v := nI 0) hx hb dX10_derive_33 (by decide +kernel) ?_
              refine lv_istore (lv' := [(4, .int (nI 0)), (0, .ref o), (1, .int x), (2, .int x1), (3, .int x2)]) hx hb dX10_derive_34 hl (by decide) rfl (fun ls hl => ?_)
              refine lv_aload_n hx hb dX10_derive_36 rfl (lv_at hl 1 rfl) ?_
              refine lv_iload hx hb dX10_derive_37 (lv_at hl 0 rfl) ?_
              refine lv_if_eq (tgt := 46) hx hb dX10_derive_39 (by decide) (fun c_17 => ?_) (fun c_17 => absurd c_17 (by decide))
              refine lv_aload_n hx hb dX10_derive_46 rfl (lv_at hl 1 rfl) ?_
              refine va_get (D := (dC, dI)) (ci := 13) (v := .ref (q 15)) (C := RX10) (T := TX10) (N := 29) hx hb hts bk0 hown hK hP 0 rfl rfl 15 (by decide) (hts (.fieldLink RX10 47 "GradientDeskModel" "names" "[I") (List.mem_of_getElem? (i := 2) rfl)) (fun _ h9 => h9) rfl dX10_derive_47 ?_
              refine lv_iload_n hx hb dX10_derive_50 rfl (lv_at hl 2 rfl) ?_
              refine va_iald hx hb hK hP 1 0 rfl rfl (vp_in_iff.mpr ⟨by omega, by omega⟩) dX10_derive_51 ?_
              refine lv_topi (fun x_18 e_19 => ?_)
              obtain rfl : x_18 = -1 := e_19.trans (k_cpyin (k_clamp (n := 8) (by omega) (by omega)))
              refine lv_if_ge (tgt := 59) hx hb dX10_derive_52 (by decide) (fun c_20 => absurd c_20 (by decide)) (fun c_20 => ?_)
              refine lv_iconst (v := nI 2) hx hb dX10_derive_55 (by decide +kernel) ?_
              refine lv_goto (tgt := 60) hx hb dX10_derive_56 (by decide) ?_
              refine va_put (D := (dC, dI)) (ci := 13) (v := .int (nI 2)) (ty := .int) (C := RX10) (T := TX10) (N := 29) hx hb hts bk0 tyX10 tyX10_ok nmX10 hown hK hP hD hS 0 rfl rfl 0 (by decide) (hts (.fieldLink RX10 78 "GradientDeskModel" "thrown" "I") (List.mem_of_getElem? (i := 1) rfl)) (fun _ h9 => h9) rfl (by decide +kernel) rfl rfl (Nat.le_of_ble_eq_true rfl) dX10_derive_60 (fun H locs hP hD hS => ?_)
              have hP : va_P (dC, dI) vwCl ([(o, .inr (13, [.int (nI 2), .ref (q 1), .ref (q 2), .ref (q 3), .ref (q 4), .int (nI 0), .int (-1), .ref (q 7), .ref (q 8), .ref (q 9), .ref (q 10), .ref (q 11), .ref (q 12), .int (nI 0), .int (nI 0), .ref (q 15), .ref (q 16), .ref (q 17), .ref (q 18), .ref (q 19), .int (nI 0), .int (nI 0), .int (nI 0), .ref (q 23), .ref (q 24), .int (nI 0), .ref (q 26), .ref (q 27), .int (nI 0)])), (q 15, .inl (k 15, 8, .inl (va_cpy (fun _ => -1) (fun _ => 0) 0 0 8)))]) H := hP
              have hD : va_D A ([(o, .inr (13, [.int (nI 2), .ref (q 1), .ref (q 2), .ref (q 3), .ref (q 4), .int (nI 0), .int (-1), .ref (q 7), .ref (q 8), .ref (q 9), .ref (q 10), .ref (q 11), .ref (q 12), .int (nI 0), .int (nI 0), .ref (q 15), .ref (q 16), .ref (q 17), .ref (q 18), .ref (q 19), .int (nI 0), .int (nI 0), .int (nI 0), .ref (q 23), .ref (q 24), .int (nI 0), .ref (q 26), .ref (q 27), .int (nI 0)])), (q 15, .inl (k 15, 8, .inl (va_cpy (fun _ => -1) (fun _ => 0) 0 0 8)))]) := hD
              refine lv_aload_n hx hb dX10_derive_63 rfl (lv_at hl 1 rfl) ?_
              refine va_get (D := (dC, dI)) (ci := 13) (v := .int (nI 2)) (C := RX10) (T := TX10) (N := 29) hx hb hts bk0 hown hK hP 0 rfl rfl 0 (by decide) (hts (.fieldLink RX10 78 "GradientDeskModel" "thrown" "I") (List.mem_of_getElem? (i := 1) rfl)) (fun _ h9 => h9) rfl dX10_derive_64 ?_
              refine lv_if_le (tgt := 72) hx hb dX10_derive_67 (by decide) (fun c_21 => absurd c_21 (by decide)) (fun c_21 => ?_)
              refine lv_iconst (v := nI 0) hx hb dX10_derive_70 (by decide +kernel) ?_
              have hP9 := hP.sub (ws' := [(o, .inr (13, [.int (nI 2), .ref (q 1), .ref (q 2), .ref (q 3), .ref (q 4), .int (nI 0), .int (-1), .ref (q 7), .ref (q 8), .ref (q 9), .ref (q 10), .ref (q 11), .ref (q 12), .int (nI 0), .int (nI 0), .ref (q 15), .ref (q 16), .ref (q 17), .ref (q 18), .ref (q 19), .int (nI 0), .int (nI 0), .int (nI 0), .ref (q 23), .ref (q 24), .int (nI 0), .ref (q 26), .ref (q 27), .int (nI 0)]))]) [0] rfl
              have hD9 := hD.sub (ws' := [(o, .inr (13, [.int (nI 2), .ref (q 1), .ref (q 2), .ref (q 3), .ref (q 4), .int (nI 0), .int (-1), .ref (q 7), .ref (q 8), .ref (q 9), .ref (q 10), .ref (q 11), .ref (q 12), .int (nI 0), .int (nI 0), .ref (q 15), .ref (q 16), .ref (q 17), .ref (q 18), .ref (q 19), .int (nI 0), .int (nI 0), .int (nI 0), .ref (q 23), .ref (q 24), .int (nI 0), .ref (q 26), .ref (q 27), .int (nI 0)]))]) [0] (by decide) rfl
              have hK9 := hK.sub (tys' := []) [] rfl
              refine W.widen (k := 0) (n := 0) (by omega) (by omega) ?_
              exact W.iret (v := nI 0) hx hb hr (fun t ht hW => ⟨⟨nI 0, [.int (nI 2), .ref (q 1), .ref (q 2), .ref (q 3), .ref (q 4), .int (nI 0), .int (-1), .ref (q 7), .ref (q 8), .ref (q 9), .ref (q 10), .ref (q 11), .ref (q 12), .int (nI 0), .int (nI 0), .ref (q 15), .ref (q 16), .ref (q 17), .ref (q 18), .ref (q 19), .int (nI 0), .int (nI 0), .int (nI 0), .ref (q 23), .ref (q 24), .int (nI 0), .ref (q 26), .ref (q 27), .int (nI 0)], rfl, Or.inl ⟨by omega, rfl⟩, by rw [ht]; exact hP9, va_K.moved hW.alike hK9, hD9⟩, hS.F ht⟩) hS.2.2 dX10_derive_71
            · have c_16 := mt (k_le x1 (nI 2)).mpr c_16
              rw [show (nI 2).toInt = 2 from by decide] at c_16
              refine lv_iconst (v := nI 1) hx hb dX10_derive_29 (by decide +kernel) ?_
              refine lv_goto (tgt := 34) hx hb dX10_derive_30 (by decide) ?_
              refine lv_istore (lv' := [(4, .int (nI 1)), (0, .ref o), (1, .int x), (2, .int x1), (3, .int x2)]) hx hb dX10_derive_34 hl (by decide) rfl (fun ls hl => ?_)
              refine lv_aload_n hx hb dX10_derive_36 rfl (lv_at hl 1 rfl) ?_
              refine lv_iload hx hb dX10_derive_37 (lv_at hl 0 rfl) ?_
              refine lv_if_eq (tgt := 46) hx hb dX10_derive_39 (by decide) (fun c_22 => absurd c_22 (by decide)) (fun c_22 => ?_)
              refine lv_iconst (v := nI 1) hx hb dX10_derive_42 (by decide +kernel) ?_
              refine lv_goto (tgt := 60) hx hb dX10_derive_43 (by decide) ?_
              refine va_put (D := (dC, dI)) (ci := 13) (v := .int (nI 1)) (ty := .int) (C := RX10) (T := TX10) (N := 29) hx hb hts bk0 tyX10 tyX10_ok nmX10 hown hK hP hD hS 0 rfl rfl 0 (by decide) (hts (.fieldLink RX10 78 "GradientDeskModel" "thrown" "I") (List.mem_of_getElem? (i := 1) rfl)) (fun _ h9 => h9) rfl (by decide +kernel) rfl rfl (Nat.le_of_ble_eq_true rfl) dX10_derive_60 (fun H locs hP hD hS => ?_)
              have hP : va_P (dC, dI) vwCl ([(o, .inr (13, [.int (nI 1), .ref (q 1), .ref (q 2), .ref (q 3), .ref (q 4), .int (nI 0), .int (-1), .ref (q 7), .ref (q 8), .ref (q 9), .ref (q 10), .ref (q 11), .ref (q 12), .int (nI 0), .int (nI 0), .ref (q 15), .ref (q 16), .ref (q 17), .ref (q 18), .ref (q 19), .int (nI 0), .int (nI 0), .int (nI 0), .ref (q 23), .ref (q 24), .int (nI 0), .ref (q 26), .ref (q 27), .int (nI 0)])), (q 15, .inl (k 15, 8, .inl (va_cpy (fun _ => -1) (fun _ => 0) 0 0 8)))]) H := hP
              have hD : va_D A ([(o, .inr (13, [.int (nI 1), .ref (q 1), .ref (q 2), .ref (q 3), .ref (q 4), .int (nI 0), .int (-1), .ref (q 7), .ref (q 8), .ref (q 9), .ref (q 10), .ref (q 11), .ref (q 12), .int (nI 0), .int (nI 0), .ref (q 15), .ref (q 16), .ref (q 17), .ref (q 18), .ref (q 19), .int (nI 0), .int (nI 0), .int (nI 0), .ref (q 23), .ref (q 24), .int (nI 0), .ref (q 26), .ref (q 27), .int (nI 0)])), (q 15, .inl (k 15, 8, .inl (va_cpy (fun _ => -1) (fun _ => 0) 0 0 8)))]) := hD
              refine lv_aload_n hx hb dX10_derive_63 rfl (lv_at hl 1 rfl) ?_
              refine va_get (D := (dC, dI)) (ci := 13) (v := .int (nI 1)) (C := RX10) (T := TX10) (N := 29) hx hb hts bk0 hown hK hP 0 rfl rfl 0 (by decide) (hts (.fieldLink RX10 78 "GradientDeskModel" "thrown" "I") (List.mem_of_getElem? (i := 1) rfl)) (fun _ h9 => h9) rfl dX10_derive_64 ?_
              refine lv_if_le (tgt := 72) hx hb dX10_derive_67 (by decide) (fun c_23 => absurd c_23 (by decide)) (fun c_23 => ?_)
              refine lv_iconst (v := nI 0) hx hb dX10_derive_70 (by decide +kernel) ?_
              have hP9 := hP.sub (ws' := [(o, .inr (13, [.int (nI 1), .ref (q 1), .ref (q 2), .ref (q 3), .ref (q 4), .int (nI 0), .int (-1), .ref (q 7), .ref (q 8), .ref (q 9), .ref (q 10), .ref (q 11), .ref (q 12), .int (nI 0), .int (nI 0), .ref (q 15), .ref (q 16), .ref (q 17), .ref (q 18), .ref (q 19), .int (nI 0), .int (nI 0), .int (nI 0), .ref (q 23), .ref (q 24), .int (nI 0), .ref (q 26), .ref (q 27), .int (nI 0)]))]) [0] rfl
              have hD9 := hD.sub (ws' := [(o, .inr (13, [.int (nI 1), .ref (q 1), .ref (q 2), .ref (q 3), .ref (q 4), .int (nI 0), .int (-1), .ref (q 7), .ref (q 8), .ref (q 9), .ref (q 10), .ref (q 11), .ref (q 12), .int (nI 0), .int (nI 0), .ref (q 15), .ref (q 16), .ref (q 17), .ref (q 18), .ref (q 19), .int (nI 0), .int (nI 0), .int (nI 0), .ref (q 23), .ref (q 24), .int (nI 0), .ref (q 26), .ref (q 27), .int (nI 0)]))]) [0] (by decide) rfl
              have hK9 := hK.sub (tys' := []) [] rfl
              refine W.widen (k := 0) (n := 0) (by omega) (by omega) ?_
              exact W.iret (v := nI 0) hx hb hr (fun t ht hW => ⟨⟨nI 0, [.int (nI 1), .ref (q 1), .ref (q 2), .ref (q 3), .ref (q 4), .int (nI 0), .int (-1), .ref (q 7), .ref (q 8), .ref (q 9), .ref (q 10), .ref (q 11), .ref (q 12), .int (nI 0), .int (nI 0), .ref (q 15), .ref (q 16), .ref (q 17), .ref (q 18), .ref (q 19), .int (nI 0), .int (nI 0), .int (nI 0), .ref (q 23), .ref (q 24), .int (nI 0), .ref (q 26), .ref (q 27), .int (nI 0)], rfl, Or.inr ⟨by omega, rfl⟩, by rw [ht]; exact hP9, va_K.moved hW.alike hK9, hD9⟩, hS.F ht⟩) hS.2.2 dX10_derive_71
def wd_X10_along : List Cond := .code yX10_along cX10_along 8 none :: (([.fieldLink RX10 78 "GradientDeskModel" "thrown" "I", .fieldLink RX10 47 "GradientDeskModel" "names" "[I"] : List Cond) ++ (u_ws RX10 TX10 29 ++ ([])))
theorem gw_X10_along : wd_X10_along.all goodWord = true := k_allc rfl (k_all (by decide +kernel) (k_all (gu_X10) (rfl)))
abbrev at_X10_along (dC : Nat → ClassId) (dI : Nat → Nat → Nat) (A : Nat → Prop) (o : Nat) (q : Nat → Nat) (k : Nat → ClassId) (pn : Nat → Nat) (ln : Nat → Nat) (bn : Nat → Nat) (x : Int32) (x1 : Int32) (x2 : Int32) (x3 : Int32) (u : List Value) (t : State) : Prop := match u with
  | fs2 => va_P (dC, dI) vwCl [(o, .inr (13, fs2))] t.heap ∧ va_K (dC, dI) vwCl [] t ∧ va_D A [(o, .inr (13, fs2))]
set_option maxHeartbeats 4000000 in
set_option maxRecDepth 100000 in
theorem c_X10_along (l : Launch) (dC : Nat → ClassId) (dI : Nat → Nat → Nat) (A : Nat → Prop) (sz : Nat) (hA0 : ∀ q, sz ≤ q → A q) (o : Nat) (q : Nat → Nat) (k : Nat → ClassId) (pn : Nat → Nat) (ln : Nat → Nat) (bn : Nat → Nat) (x : Int32) (x1 : Int32) (x2 : Int32) (x3 : Int32) (hpn : ∀ j, pn j < 4294967296) (hln : ∀ j, ln j < 81) (hbn : ∀ j, bn j < 2) (hL : ∀ j, ln j = if j % 2 = 1 ∧ j < 2068 then 1 else 0) (hPp : ∀ j, j % 2 = 1 → j < 2068 → pn (80 * j) = 1) (hB : ∀ j, bn j = 0) : Met l yX10_along wd_X10_along ({ frames := 10, cells := 0, slots := 0, locals := 200 }) (va_Pc [.ref o, .int x, .int x1, .int x2, .int x3] (fun U => U.heap.size = sz ∧ va_P (dC, dI) vwCl [(o, .inr (13, [.int (nI 0), .ref (q 1), .ref (q 2), .ref (q 3), .ref (q 4), .int (nI 0), .int (-1), .ref (q 7), .ref (q 8), .ref (q 9), .ref (q 10), .ref (q 11), .ref (q 12), .int (nI 0), .int (nI 0), .ref (q 15), .ref (q 16), .ref (q 17), .ref (q 18), .ref (q 19), .int (nI 0), .int (nI 0), .int (nI 0), .ref (q 23), .ref (q 24), .int (nI 0), .ref (q 26), .ref (q 27), .int (nI 0)])), (q 15, .inl (k 15, 8, .inl (va_cpy (fun _ => -1) (fun _ => 0) 0 0 8)))] U.heap ∧ va_K (dC, dI) vwCl [(k 15, .int)] U ∧ va_D A [(o, .inr (13, [.int (nI 0), .ref (q 1), .ref (q 2), .ref (q 3), .ref (q 4), .int (nI 0), .int (-1), .ref (q 7), .ref (q 8), .ref (q 9), .ref (q 10), .ref (q 11), .ref (q 12), .int (nI 0), .int (nI 0), .ref (q 15), .ref (q 16), .ref (q 17), .ref (q 18), .ref (q 19), .int (nI 0), .int (nI 0), .int (nI 0), .ref (q 23), .ref (q 24), .int (nI 0), .ref (q 26), .ref (q 27), .int (nI 0)])), (q 15, .inl (k 15, 8, .inl (va_cpy (fun _ => -1) (fun _ => 0) 0 0 8)))])) (va_Qv (fun (u : List Value) => match u with | fs2 => (((0 ≤ x.toInt ∧ x.toInt ≤ 7) ∧ (-999 ≤ x1.toInt ∧ x1.toInt ≤ 999) ∧ (-999 ≤ x2.toInt ∧ x2.toInt ≤ 999) ∧ (-999 ≤ x3.toInt ∧ x3.toInt ≤ 999)) ∧ fs2[0]? = some (.int (nI 2))) ∨ (¬ ((0 ≤ x.toInt ∧ x.toInt ≤ 7) ∧ (-999 ≤ x1.toInt ∧ x1.toInt ≤ 999) ∧ (-999 ≤ x2.toInt ∧ x2.toInt ≤ 999) ∧ (-999 ≤ x3.toInt ∧ x3.toInt ≤ 999)) ∧ fs2[0]? = some (.int (nI 1)))) (at_X10_along dC dI A o q k pn ln bn x x1 x2 x3) A) (0) (0) A := by
  refine Met.ofW (cc := cX10_along) (maxL := 8) (ret := none) (by decide) rfl ?_
  intro p e s m args below meth c s₁ B hml hv
  obtain ⟨rfl, hsz, hP, hK, hD⟩ := hv
  have hx := B.exec
  have hb := B.bytes
  have hr := B.returns
  have hts := atoms_spec (ws := wd_X10_along) B.pre
  have hown : s.vm.findClass RX10 = some m.cls := findClass_of_methodNamed B.named
  have hlocks := B.notSynchronized
  have bk0 : ∀ w ∈ u_ws RX10 TX10 29, w ∈ wd_X10_along := fun _ h => List.mem_cons_of_mem _ (List.mem_append_right _ (List.mem_append_left _ h))
  subst hsz
  have hA : ∀ q : Nat, s.heap.size ≤ q → A q := hA0
  have hS : va_S A s.heap s.heap [] := va_S.rf
  have hl := lv_entry ([.ref o, .int x, .int x1, .int x2, .int x3]) (n := 8) (Nat.le_of_ble_eq_true rfl)
  rw [lg_entry_eq]
  generalize (lg_sl ([.ref o, .int x, .int x1, .int x2, .int x3]) ++ List.replicate (8 - (lg_sl ([.ref o, .int x, .int x1, .int x2, .int x3])).length) Slot.unset).toArray = ls at hl ⊢
  have hl : lv_has ls 8 [(0, .ref o), (1, .int x), (2, .int x1), (3, .int x2), (4, .int x3)] := hl
  refine lv_iload_n hx hb dX10_along_0 rfl (lv_at hl 1 rfl) ?_
  refine lv_if_lt (tgt := 54) hx hb dX10_along_1 (by decide) (fun c_1 => ?_) (fun c_1 => ?_)
  · have c_1 := (k_lt x (nI 0)).mp c_1
    rw [show (nI 0).toInt = 0 from by decide] at c_1
    refine lv_iconst (v := nI 1) hx hb dX10_along_54 (by decide +kernel) ?_
    refine lv_goto (tgt := 59) hx hb dX10_along_55 (by decide) ?_
    refine lv_istore (lv' := [(5, .int (nI 1)), (0, .ref o), (1, .int x), (2, .int x1), (3, .int x2), (4, .int x3)]) hx hb dX10_along_59 hl (by decide) rfl (fun ls hl => ?_)
    refine lv_aload_n hx hb dX10_along_61 rfl (lv_at hl 1 rfl) ?_
    refine lv_iload hx hb dX10_along_62 (lv_at hl 0 rfl) ?_
    refine lv_if_eq (tgt := 71) hx hb dX10_along_64 (by decide) (fun c_2 => absurd c_2 (by decide)) (fun c_2 => ?_)
    refine lv_iconst (v := nI 1) hx hb dX10_along_67 (by decide +kernel) ?_
    refine lv_goto (tgt := 85) hx hb dX10_along_68 (by decide) ?_
    refine va_put (D := (dC, dI)) (ci := 13) (v := .int (nI 1)) (ty := .int) (C := RX10) (T := TX10) (N := 29) hx hb hts bk0 tyX10 tyX10_ok nmX10 hown hK hP hD hS 0 rfl rfl 0 (by decide) (hts (.fieldLink RX10 78 "GradientDeskModel" "thrown" "I") (List.mem_of_getElem? (i := 1) rfl)) (fun _ h9 => h9) rfl (by decide +kernel) rfl rfl (Nat.le_of_ble_eq_true rfl) dX10_along_85 (fun H locs hP hD hS => ?_)
    have hP : va_P (dC, dI) vwCl ([(o, .inr (13, [.int (nI 1), .ref (q 1), .ref (q 2), .ref (q 3), .ref (q 4), .int (nI 0), .int (-1), .ref (q 7), .ref (q 8), .ref (q 9), .ref (q 10), .ref (q 11), .ref (q 12), .int (nI 0), .int (nI 0), .ref (q 15), .ref (q 16), .ref (q 17), .ref (q 18), .ref (q 19), .int (nI 0), .int (nI 0), .int (nI 0), .ref (q 23), .ref (q 24), .int (nI 0), .ref (q 26), .ref (q 27), .int (nI 0)])), (q 15, .inl (k 15, 8, .inl (va_cpy (fun _ => -1) (fun _ => 0) 0 0 8)))]) H := hP
    have hD : va_D A ([(o, .inr (13, [.int (nI 1), .ref (q 1), .ref (q 2), .ref (q 3), .ref (q 4), .int (nI 0), .int (-1), .ref (q 7), .ref (q 8), .ref (q 9), .ref (q 10), .ref (q 11), .ref (q 12), .int (nI 0), .int (nI 0), .ref (q 15), .ref (q 16), .ref (q 17), .ref (q 18), .ref (q 19), .int (nI 0), .int (nI 0), .int (nI 0), .ref (q 23), .ref (q 24), .int (nI 0), .ref (q 26), .ref (q 27), .int (nI 0)])), (q 15, .inl (k 15, 8, .inl (va_cpy (fun _ => -1) (fun _ => 0) 0 0 8)))]) := hD
    refine lv_aload_n hx hb dX10_along_88 rfl (lv_at hl 1 rfl) ?_
    refine va_get (D := (dC, dI)) (ci := 13) (v := .int (nI 1)) (C := RX10) (T := TX10) (N := 29) hx hb hts bk0 hown hK hP 0 rfl rfl 0 (by decide) (hts (.fieldLink RX10 78 "GradientDeskModel" "thrown" "I") (List.mem_of_getElem? (i := 1) rfl)) (fun _ h9 => h9) rfl dX10_along_89 ?_
    refine lv_if_le (tgt := 96) hx hb dX10_along_92 (by decide) (fun c_3 => absurd c_3 (by decide)) (fun c_3 => ?_)
    have hP9 := hP.sub (ws' := [(o, .inr (13, [.int (nI 1), .ref (q 1), .ref (q 2), .ref (q 3), .ref (q 4), .int (nI 0), .int (-1), .ref (q 7), .ref (q 8), .ref (q 9), .ref (q 10), .ref (q 11), .ref (q 12), .int (nI 0), .int (nI 0), .ref (q 15), .ref (q 16), .ref (q 17), .ref (q 18), .ref (q 19), .int (nI 0), .int (nI 0), .int (nI 0), .ref (q 23), .ref (q 24), .int (nI 0), .ref (q 26), .ref (q 27), .int (nI 0)]))]) [0] rfl
    have hD9 := hD.sub (ws' := [(o, .inr (13, [.int (nI 1), .ref (q 1), .ref (q 2), .ref (q 3), .ref (q 4), .int (nI 0), .int (-1), .ref (q 7), .ref (q 8), .ref (q 9), .ref (q 10), .ref (q 11), .ref (q 12), .int (nI 0), .int (nI 0), .ref (q 15), .ref (q 16), .ref (q 17), .ref (q 18), .ref (q 19), .int (nI 0), .int (nI 0), .int (nI 0), .ref (q 23), .ref (q 24), .int (nI 0), .ref (q 26), .ref (q 27), .int (nI 0)]))]) [0] (by decide) rfl
    have hK9 := hK.sub (tys' := []) [] rfl
    refine W.widen (k := 0) (n := 0) (by omega) (by omega) ?_
    exact W.vret hx hb hr (fun t ht hW => ⟨⟨[.int (nI 1), .ref (q 1), .ref (q 2), .ref (q 3), .ref (q 4), .int (nI 0), .int (-1), .ref (q 7), .ref (q 8), .ref (q 9), .ref (q 10), .ref (q 11), .ref (q 12), .int (nI 0), .int (nI 0), .ref (q 15), .ref (q 16), .ref (q 17), .ref (q 18), .ref (q 19), .int (nI 0), .int (nI 0), .int (nI 0), .ref (q 23), .ref (q 24), .int (nI 0), .ref (q 26), .ref (q 27), .int (nI 0)], rfl, Or.inr ⟨by omega, rfl⟩, by rw [ht]; exact hP9, va_K.moved hW.alike hK9, hD9⟩, hS.F ht⟩) hS.2.2 dX10_along_95
  · have c_1 := mt (k_lt x (nI 0)).mpr c_1
    rw [show (nI 0).toInt = 0 from by decide] at c_1
    refine lv_iload_n hx hb dX10_along_4 rfl (lv_at hl 1 rfl) ?_
    refine lv_bipush (v := nI 7) hx hb dX10_along_5 (by decide +kernel) ?_
    refine lv_icmp_gt (tgt := 54) hx hb dX10_along_7 (by decide) (fun c_4 => ?_) (fun c_4 => ?_)
    · have c_4 := (k_lt (nI 7) x).mp c_4
      rw [show (nI 7).toInt = 7 from by decide] at c_4
      refine lv_iconst (v := nI 1) hx hb dX10_along_54 (by decide +kernel) ?_
      refine lv_goto (tgt := 59) hx hb dX10_along_55 (by decide) ?_
      refine lv_istore (lv' := [(5, .int (nI 1)), (0, .ref o), (1, .int x), (2, .int x1), (3, .int x2), (4, .int x3)]) hx hb dX10_along_59 hl (by decide) rfl (fun ls hl => ?_)
      refine lv_aload_n hx hb dX10_along_61 rfl (lv_at hl 1 rfl) ?_
      refine lv_iload hx hb dX10_along_62 (lv_at hl 0 rfl) ?_
      refine lv_if_eq (tgt := 71) hx hb dX10_along_64 (by decide) (fun c_5 => absurd c_5 (by decide)) (fun c_5 => ?_)
      refine lv_iconst (v := nI 1) hx hb dX10_along_67 (by decide +kernel) ?_
      refine lv_goto (tgt := 85) hx hb dX10_along_68 (by decide) ?_
      refine va_put (D := (dC, dI)) (ci := 13) (v := .int (nI 1)) (ty := .int) (C := RX10) (T := TX10) (N := 29) hx hb hts bk0 tyX10 tyX10_ok nmX10 hown hK hP hD hS 0 rfl rfl 0 (by decide) (hts (.fieldLink RX10 78 "GradientDeskModel" "thrown" "I") (List.mem_of_getElem? (i := 1) rfl)) (fun _ h9 => h9) rfl (by decide +kernel) rfl rfl (Nat.le_of_ble_eq_true rfl) dX10_along_85 (fun H locs hP hD hS => ?_)
      have hP : va_P (dC, dI) vwCl ([(o, .inr (13, [.int (nI 1), .ref (q 1), .ref (q 2), .ref (q 3), .ref (q 4), .int (nI 0), .int (-1), .ref (q 7), .ref (q 8), .ref (q 9), .ref (q 10), .ref (q 11), .ref (q 12), .int (nI 0), .int (nI 0), .ref (q 15), .ref (q 16), .ref (q 17), .ref (q 18), .ref (q 19), .int (nI 0), .int (nI 0), .int (nI 0), .ref (q 23), .ref (q 24), .int (nI 0), .ref (q 26), .ref (q 27), .int (nI 0)])), (q 15, .inl (k 15, 8, .inl (va_cpy (fun _ => -1) (fun _ => 0) 0 0 8)))]) H := hP
      have hD : va_D A ([(o, .inr (13, [.int (nI 1), .ref (q 1), .ref (q 2), .ref (q 3), .ref (q 4), .int (nI 0), .int (-1), .ref (q 7), .ref (q 8), .ref (q 9), .ref (q 10), .ref (q 11), .ref (q 12), .int (nI 0), .int (nI 0), .ref (q 15), .ref (q 16), .ref (q 17), .ref (q 18), .ref (q 19), .int (nI 0), .int (nI 0), .int (nI 0), .ref (q 23), .ref (q 24), .int (nI 0), .ref (q 26), .ref (q 27), .int (nI 0)])), (q 15, .inl (k 15, 8, .inl (va_cpy (fun _ => -1) (fun _ => 0) 0 0 8)))]) := hD
      refine lv_aload_n hx hb dX10_along_88 rfl (lv_at hl 1 rfl) ?_
      refine va_get (D := (dC, dI)) (ci := 13) (v := .int (nI 1)) (C := RX10) (T := TX10) (N := 29) hx hb hts bk0 hown hK hP 0 rfl rfl 0 (by decide) (hts (.fieldLink RX10 78 "GradientDeskModel" "thrown" "I") (List.mem_of_getElem? (i := 1) rfl)) (fun _ h9 => h9) rfl dX10_along_89 ?_
      refine lv_if_le (tgt := 96) hx hb dX10_along_92 (by decide) (fun c_6 => absurd c_6 (by decide)) (fun c_6 => ?_)
      have hP9 := hP.sub (ws' := [(o, .inr (13, [.int (nI 1), .ref (q 1), .ref (q 2), .ref (q 3), .ref (q 4), .int (nI 0), .int (-1), .ref (q 7), .ref (q 8), .ref (q 9), .ref (q 10), .ref (q 11), .ref (q 12), .int (nI 0), .int (nI 0), .ref (q 15), .ref (q 16), .ref (q 17), .ref (q 18), .ref (q 19), .int (nI 0), .int (nI 0), .int (nI 0), .ref (q 23), .ref (q 24), .int (nI 0), .ref (q 26), .ref (q 27), .int (nI 0)]))]) [0] rfl
      have hD9 := hD.sub (ws' := [(o, .inr (13, [.int (nI 1), .ref (q 1), .ref (q 2), .ref (q 3), .ref (q 4), .int (nI 0), .int (-1), .ref (q 7), .ref (q 8), .ref (q 9), .ref (q 10), .ref (q 11), .ref (q 12), .int (nI 0), .int (nI 0), .ref (q 15), .ref (q 16), .ref (q 17), .ref (q 18), .ref (q 19), .int (nI 0), .int (nI 0), .int (nI 0), .ref (q 23), .ref (q 24), .int (nI 0), .ref (q 26), .ref (q 27), .int (nI 0)]))]) [0] (by decide) rfl
      have hK9 := hK.sub (tys' := []) [] rfl
      refine W.widen (k := 0) (n := 0) (by omega) (by omega) ?_
      exact W.vret hx hb hr (fun t ht hW => ⟨⟨[.int (nI 1), .ref (q 1), .ref (q 2), .ref (q 3), .ref (q 4), .int (nI 0), .int (-1), .ref (q 7), .ref (q 8), .ref (q 9), .ref (q 10), .ref (q 11), .ref (q 12), .int (nI 0), .int (nI 0), .ref (q 15), .ref (q 16), .ref (q 17), .ref (q 18), .ref (q 19), .int (nI 0), .int (nI 0), .int (nI 0), .ref (q 23), .ref (q 24), .int (nI 0), .ref (q 26), .ref (q 27), .int (nI 0)], rfl, Or.inr ⟨by omega, rfl⟩, by rw [ht]; exact hP9, va_K.moved hW.alike hK9, hD9⟩, hS.F ht⟩) hS.2.2 dX10_along_95
    · have c_4 := mt (k_lt (nI 7) x).mpr c_4
      rw [show (nI 7).toInt = 7 from by decide] at c_4
      refine lv_iload_n hx hb dX10_along_10 rfl (lv_at hl 2 rfl) ?_
      refine lv_sipush (v := -999) hx hb dX10_along_11 (by decide +kernel) ?_
      refine lv_icmp_lt (tgt := 54) hx hb dX10_along_14 (by decide) (fun c_7 => ?_) (fun c_7 => ?_)
      · have c_7 := (k_lt x1 (-999)).mp c_7
        rw [show ((-999 : Int32)).toInt = -999 from by decide] at c_7
        refine lv_iconst (v := nI 1) hx hb dX10_along_54 (by decide +kernel) ?_
        refine lv_goto (tgt := 59) hx hb dX10_along_55 (by decide) ?_
        refine lv_istore (lv' := [(5, .int (nI 1)), (0, .ref o), (1, .int x), (2, .int x1), (3, .int x2), (4, .int x3)]) hx hb dX10_along_59 hl (by decide) rfl (fun ls hl => ?_)
        refine lv_aload_n hx hb dX10_along_61 rfl (lv_at hl 1 rfl) ?_
        refine lv_iload hx hb dX10_along_62 (lv_at hl 0 rfl) ?_
        refine lv_if_eq (tgt := 71) hx hb dX10_along_64 (by decide) (fun c_8 => absurd c_8 (by decide)) (fun c_8 => ?_)
        refine lv_iconst (v := nI 1) hx hb dX10_along_67 (by decide +kernel) ?_
        refine lv_goto (tgt := 85) hx hb dX10_along_68 (by decide) ?_
        refine va_put (D := (dC, dI)) (ci := 13) (v := .int (nI 1)) (ty := .int) (C := RX10) (T := TX10) (N := 29) hx hb hts bk0 tyX10 tyX10_ok nmX10 hown hK hP hD hS 0 rfl rfl 0 (by decide) (hts (.fieldLink RX10 78 "GradientDeskModel" "thrown" "I") (List.mem_of_getElem? (i := 1) rfl)) (fun _ h9 => h9) rfl (by decide +kernel) rfl rfl (Nat.le_of_ble_eq_true rfl) dX10_along_85 (fun H locs hP hD hS => ?_)
        have hP : va_P (dC, dI) vwCl ([(o, .inr (13, [.int (nI 1), .ref (q 1), .ref (q 2), .ref (q 3), .ref (q 4), .int (nI 0), .int (-1), .ref (q 7), .ref (q 8), .ref (q 9), .ref (q 10), .ref (q 11), .ref (q 12), .int (nI 0), .int (nI 0), .ref (q 15), .ref (q 16), .ref (q 17), .ref (q 18), .ref (q 19), .int (nI 0), .int (nI 0), .int (nI 0), .ref (q 23), .ref (q 24), .int (nI 0), .ref (q 26), .ref (q 27), .int (nI 0)])), (q 15, .inl (k 15, 8, .inl (va_cpy (fun _ => -1) (fun _ => 0) 0 0 8)))]) H := hP
        have hD : va_D A ([(o, .inr (13, [.int (nI 1), .ref (q 1), .ref (q 2), .ref (q 3), .ref (q 4), .int (nI 0), .int (-1), .ref (q 7), .ref (q 8), .ref (q 9), .ref (q 10), .ref (q 11), .ref (q 12), .int (nI 0), .int (nI 0), .ref (q 15), .ref (q 16), .ref (q 17), .ref (q 18), .ref (q 19), .int (nI 0), .int (nI 0), .int (nI 0), .ref (q 23), .ref (q 24), .int (nI 0), .ref (q 26), .ref (q 27), .int (nI 0)])), (q 15, .inl (k 15, 8, .inl (va_cpy (fun _ => -1) (fun _ => 0) 0 0 8)))]) := hD
        refine lv_aload_n hx hb dX10_along_88 rfl (lv_at hl 1 rfl) ?_
        refine va_get (D := (dC, dI)) (ci := 13) (v := .int (nI 1)) (C := RX10) (T := TX10) (N := 29) hx hb hts bk0 hown hK hP 0 rfl rfl 0 (by decide) (hts (.fieldLink RX10 78 "GradientDeskModel" "thrown" "I") (List.mem_of_getElem? (i := 1) rfl)) (fun _ h9 => h9) rfl dX10_along_89 ?_
        refine lv_if_le (tgt := 96) hx hb dX10_along_92 (by decide) (fun c_9 => absurd c_9 (by decide)) (fun c_9 => ?_)
        have hP9 := hP.sub (ws' := [(o, .inr (13, [.int (nI 1), .ref (q 1), .ref (q 2), .ref (q 3), .ref (q 4), .int (nI 0), .int (-1), .ref (q 7), .ref (q 8), .ref (q 9), .ref (q 10), .ref (q 11), .ref (q 12), .int (nI 0), .int (nI 0), .ref (q 15), .ref (q 16), .ref (q 17), .ref (q 18), .ref (q 19), .int (nI 0), .int (nI 0), .int (nI 0), .ref (q 23), .ref (q 24), .int (nI 0), .ref (q 26), .ref (q 27), .int (nI 0)]))]) [0] rfl
        have hD9 := hD.sub (ws' := [(o, .inr (13, [.int (nI 1), .ref (q 1), .ref (q 2), .ref (q 3), .ref (q 4), .int (nI 0), .int (-1), .ref (q 7), .ref (q 8), .ref (q 9), .ref (q 10), .ref (q 11), .ref (q 12), .int (nI 0), .int (nI 0), .ref (q 15), .ref (q 16), .ref (q 17), .ref (q 18), .ref (q 19), .int (nI 0), .int (nI 0), .int (nI 0), .ref (q 23), .ref (q 24), .int (nI 0), .ref (q 26), .ref (q 27), .int (nI 0)]))]) [0] (by decide) rfl
        have hK9 := hK.sub (tys' := []) [] rfl
        refine W.widen (k := 0) (n := 0) (by omega) (by omega) ?_
        exact W.vret hx hb hr (fun t ht hW => ⟨⟨[.int (nI 1), .ref (q 1), .ref (q 2), .ref (q 3), .ref (q 4), .int (nI 0), .int (-1), .ref (q 7), .ref (q 8), .ref (q 9), .ref (q 10), .ref (q 11), .ref (q 12), .int (nI 0), .int (nI 0), .ref (q 15), .ref (q 16), .ref (q 17), .ref (q 18), .ref (q 19), .int (nI 0), .int (nI 0), .int (nI 0), .ref (q 23), .ref (q 24), .int (nI 0), .ref (q 26), .ref (q 27), .int (nI 0)], rfl, Or.inr ⟨by omega, rfl⟩, by rw [ht]; exact hP9, va_K.moved hW.alike hK9, hD9⟩, hS.F ht⟩) hS.2.2 dX10_along_95
      · have c_7 := mt (k_lt x1 (-999)).mpr c_7
        rw [show ((-999 : Int32)).toInt = -999 from by decide] at c_7
        refine lv_iload_n hx hb dX10_along_17 rfl (lv_at hl 2 rfl) ?_
        refine lv_sipush (v := nI 999) hx hb dX10_along_18 (by decide +kernel) ?_
        refine lv_icmp_gt (tgt := 54) hx hb dX10_along_21 (by decide) (fun c_10 => ?_) (fun c_10 => ?_)
        · have c_10 := (k_lt (nI 999) x1).mp c_10
          rw [show (nI 999).toInt = 999 from by decide] at c_10
          refine lv_iconst (v := nI 1) hx hb dX10_along_54 (by decide +kernel) ?_
          refine lv_goto (tgt := 59) hx hb dX10_along_55 (by decide) ?_
          refine lv_istore (lv' := [(5, .int (nI 1)), (0, .ref o), (1, .int x), (2, .int x1), (3, .int x2), (4, .int x3)]) hx hb dX10_along_59 hl (by decide) rfl (fun ls hl => ?_)
          refine lv_aload_n hx hb dX10_along_61 rfl (lv_at hl 1 rfl) ?_
          refine lv_iload hx hb dX10_along_62 (lv_at hl 0 rfl) ?_
          refine lv_if_eq (tgt := 71) hx hb dX10_along_64 (by decide) (fun c_11 => absurd c_11 (by decide)) (fun c_11 => ?_)
          refine lv_iconst (v := nI 1) hx hb dX10_along_67 (by decide +kernel) ?_
          refine lv_goto (tgt := 85) hx hb dX10_along_68 (by decide) ?_
          refine va_put (D := (dC, dI)) (ci := 13) (v := .int (nI 1)) (ty := .int) (C := RX10) (T := TX10) (N := 29) hx hb hts bk0 tyX10 tyX10_ok nmX10 hown hK hP hD hS 0 rfl rfl 0 (by decide) (hts (.fieldLink RX10 78 "GradientDeskModel" "thrown" "I") (List.mem_of_getElem? (i := 1) rfl)) (fun _ h9 => h9) rfl (by decide +kernel) rfl rfl (Nat.le_of_ble_eq_true rfl) dX10_along_85 (fun H locs hP hD hS => ?_)
          have hP : va_P (dC, dI) vwCl ([(o, .inr (13, [.int (nI 1), .ref (q 1), .ref (q 2), .ref (q 3), .ref (q 4), .int (nI 0), .int (-1), .ref (q 7), .ref (q 8), .ref (q 9), .ref (q 10), .ref (q 11), .ref (q 12), .int (nI 0), .int (nI 0), .ref (q 15), .ref (q 16), .ref (q 17), .ref (q 18), .ref (q 19), .int (nI 0), .int (nI 0), .int (nI 0), .ref (q 23), .ref (q 24), .int (nI 0), .ref (q 26), .ref (q 27), .int (nI 0)])), (q 15, .inl (k 15, 8, .inl (va_cpy (fun _ => -1) (fun _ => 0) 0 0 8)))]) H := hP
          have hD : va_D A ([(o, .inr (13, [.int (nI 1), .ref (q 1), .ref (q 2), .ref (q 3), .ref (q 4), .int (nI 0), .int (-1), .ref (q 7), .ref (q 8), .ref (q 9), .ref (q 10), .ref (q 11), .ref (q 12), .int (nI 0), .int (nI 0), .ref (q 15), .ref (q 16), .ref (q 17), .ref (q 18), .ref (q 19), .int (nI 0), .int (nI 0), .int (nI 0), .ref (q 23), .ref (q 24), .int (nI 0), .ref (q 26), .ref (q 27), .int (nI 0)])), (q 15, .inl (k 15, 8, .inl (va_cpy (fun _ => -1) (fun _ => 0) 0 0 8)))]) := hD
          refine lv_aload_n hx hb dX10_along_88 rfl (lv_at hl 1 rfl) ?_
          refine va_get (D := (dC, dI)) (ci := 13) (v := .int (nI 1)) (C := RX10) (T := TX10) (N := 29) hx hb hts bk0 hown hK hP 0 rfl rfl 0 (by decide) (hts (.fieldLink RX10 78 "GradientDeskModel" "thrown" "I") (List.mem_of_getElem? (i := 1) rfl)) (fun _ h9 => h9) rfl dX10_along_89 ?_
          refine lv_if_le (tgt := 96) hx hb dX10_along_92 (by decide) (fun c_12 => absurd c_12 (by decide)) (fun c_12 => ?_)
          have hP9 := hP.sub (ws' := [(o, .inr (13, [.int (nI 1), .ref (q 1), .ref (q 2), .ref (q 3), .ref (q 4), .int (nI 0), .int (-1), .ref (q 7), .ref (q 8), .ref (q 9), .ref (q 10), .ref (q 11), .ref (q 12), .int (nI 0), .int (nI 0), .ref (q 15), .ref (q 16), .ref (q 17), .ref (q 18), .ref (q 19), .int (nI 0), .int (nI 0), .int (nI 0), .ref (q 23), .ref (q 24), .int (nI 0), .ref (q 26), .ref (q 27), .int (nI 0)]))]) [0] rfl
          have hD9 := hD.sub (ws' := [(o, .inr (13, [.int (nI 1), .ref (q 1), .ref (q 2), .ref (q 3), .ref (q 4), .int (nI 0), .int (-1), .ref (q 7), .ref (q 8), .ref (q 9), .ref (q 10), .ref (q 11), .ref (q 12), .int (nI 0), .int (nI 0), .ref (q 15), .ref (q 16), .ref (q 17), .ref (q 18), .ref (q 19), .int (nI 0), .int (nI 0), .int (nI 0), .ref (q 23), .ref (q 24), .int (nI 0), .ref (q 26), .ref (q 27), .int (nI 0)]))]) [0] (by decide) rfl
          have hK9 := hK.sub (tys' := []) [] rfl
          refine W.widen (k := 0) (n := 0) (by omega) (by omega) ?_
          exact W.vret hx hb hr (fun t ht hW => ⟨⟨[.int (nI 1), .ref (q 1), .ref (q 2), .ref (q 3), .ref (q 4), .int (nI 0), .int (-1), .ref (q 7), .ref (q 8), .ref (q 9), .ref (q 10), .ref (q 11), .ref (q 12), .int (nI 0), .int (nI 0), .ref (q 15), .ref (q 16), .ref (q 17), .ref (q 18), .ref (q 19), .int (nI 0), .int (nI 0), .int (nI 0), .ref (q 23), .ref (q 24), .int (nI 0), .ref (q 26), .ref (q 27), .int (nI 0)], rfl, Or.inr ⟨by omega, rfl⟩, by rw [ht]; exact hP9, va_K.moved hW.alike hK9, hD9⟩, hS.F ht⟩) hS.2.2 dX10_along_95
        · have c_10 := mt (k_lt (nI 999) x1).mpr c_10
          rw [show (nI 999).toInt = 999 from by decide] at c_10
          refine lv_iload_n hx hb dX10_along_24 rfl (lv_at hl 3 rfl) ?_
          refine lv_sipush (v := -999) hx hb dX10_along_25 (by decide +kernel) ?_
          refine lv_icmp_lt (tgt := 54) hx hb dX10_along_28 (by decide) (fun c_13 => ?_) (fun c_13 => ?_)
          · have c_13 := (k_lt x2 (-999)).mp c_13
            rw [show ((-999 : Int32)).toInt = -999 from by decide] at c_13
            refine lv_iconst (v := nI 1) hx hb dX10_along_54 (by decide +kernel) ?_
            refine lv_goto (tgt := 59) hx hb dX10_along_55 (by decide) ?_
            refine lv_istore (lv' := [(5, .int (nI 1)), (0, .ref o), (1, .int x), (2, .int x1), (3, .int x2), (4, .int x3)]) hx hb dX10_along_59 hl (by decide) rfl (fun ls hl => ?_)
            refine lv_aload_n hx hb dX10_along_61 rfl (lv_at hl 1 rfl) ?_
            refine lv_iload hx hb dX10_along_62 (lv_at hl 0 rfl) ?_
            refine lv_if_eq (tgt := 71) hx hb dX10_along_64 (by decide) (fun c_14 => absurd c_14 (by decide)) (fun c_14 => ?_)
            refine lv_iconst (v := nI 1) hx hb dX10_along_67 (by decide +kernel) ?_
            refine lv_goto (tgt := 85) hx hb dX10_along_68 (by decide) ?_
            refine va_put (D := (dC, dI)) (ci := 13) (v := .int (nI 1)) (ty := .int) (C := RX10) (T := TX10) (N := 29) hx hb hts bk0 tyX10 tyX10_ok nmX10 hown hK hP hD hS 0 rfl rfl 0 (by decide) (hts (.fieldLink RX10 78 "GradientDeskModel" "thrown" "I") (List.mem_of_getElem? (i := 1) rfl)) (fun _ h9 => h9) rfl (by decide +kernel) rfl rfl (Nat.le_of_ble_eq_true rfl) dX10_along_85 (fun H locs hP hD hS => ?_)
            have hP : va_P (dC, dI) vwCl ([(o, .inr (13, [.int (nI 1), .ref (q 1), .ref (q 2), .ref (q 3), .ref (q 4), .int (nI 0), .int (-1), .ref (q 7), .ref (q 8), .ref (q 9), .ref (q 10), .ref (q 11), .ref (q 12), .int (nI 0), .int (nI 0), .ref (q 15), .ref (q 16), .ref (q 17), .ref (q 18), .ref (q 19), .int (nI 0), .int (nI 0), .int (nI 0), .ref (q 23), .ref (q 24), .int (nI 0), .ref (q 26), .ref (q 27), .int (nI 0)])), (q 15, .inl (k 15, 8, .inl (va_cpy (fun _ => -1) (fun _ => 0) 0 0 8)))]) H := hP
            have hD : va_D A ([(o, .inr (13, [.int (nI 1), .ref (q 1), .ref (q 2), .ref (q 3), .ref (q 4), .int (nI 0), .int (-1), .ref (q 7), .ref (q 8), .ref (q 9), .ref (q 10), .ref (q 11), .ref (q 12), .int (nI 0), .int (nI 0), .ref (q 15), .ref (q 16), .ref (q 17), .ref (q 18), .ref (q 19), .int (nI 0), .int (nI 0), .int (nI 0), .ref (q 23), .ref (q 24), .int (nI 0), .ref (q 26), .ref (q 27), .int (nI 0)])), (q 15, .inl (k 15, 8, .inl (va_cpy (fun _ => -1) (fun _ => 0) 0 0 8)))]) := hD
            refine lv_aload_n hx hb dX10_along_88 rfl (lv_at hl 1 rfl) ?_
            refine va_get (D := (dC, dI)) (ci := 13) (v := .int (nI 1)) (C := RX10) (T := TX10) (N := 29) hx hb hts bk0 hown hK hP 0 rfl rfl 0 (by decide) (hts (.fieldLink RX10 78 "GradientDeskModel" "thrown" "I") (List.mem_of_getElem? (i := 1) rfl)) (fun _ h9 => h9) rfl dX10_along_89 ?_
            refine lv_if_le (tgt := 96) hx hb dX10_along_92 (by decide) (fun c_15 => absurd c_15 (by decide)) (fun c_15 => ?_)
            have hP9 := hP.sub (ws' := [(o, .inr (13, [.int (nI 1), .ref (q 1), .ref (q 2), .ref (q 3), .ref (q 4), .int (nI 0), .int (-1), .ref (q 7), .ref (q 8), .ref (q 9), .ref (q 10), .ref (q 11), .ref (q 12), .int (nI 0), .int (nI 0), .ref (q 15), .ref (q 16), .ref (q 17), .ref (q 18), .ref (q 19), .int (nI 0), .int (nI 0), .int (nI 0), .ref (q 23), .ref (q 24), .int (nI 0), .ref (q 26), .ref (q 27), .int (nI 0)]))]) [0] rfl
            have hD9 := hD.sub (ws' := [(o, .inr (13, [.int (nI 1), .ref (q 1), .ref (q 2), .ref (q 3), .ref (q 4), .int (nI 0), .int (-1), .ref (q 7), .ref (q 8), .ref (q 9), .ref (q 10), .ref (q 11), .ref (q 12), .int (nI 0), .int (nI 0), .ref (q 15), .ref (q 16), .ref (q 17), .ref (q 18), .ref (q 19), .int (nI 0), .int (nI 0), .int (nI 0), .ref (q 23), .ref (q 24), .int (nI 0), .ref (q 26), .ref (q 27), .int (nI 0)]))]) [0] (by decide) rfl
            have hK9 := hK.sub (tys' := []) [] rfl
            refine W.widen (k := 0) (n := 0) (by omega) (by omega) ?_
            exact W.vret hx hb hr (fun t ht hW => ⟨⟨[.int (nI 1), .ref (q 1), .ref (q 2), .ref (q 3), .ref (q 4), .int (nI 0), .int (-1), .ref (q 7), .ref (q 8), .ref (q 9), .ref (q 10), .ref (q 11), .ref (q 12), .int (nI 0), .int (nI 0), .ref (q 15), .ref (q 16), .ref (q 17), .ref (q 18), .ref (q 19), .int (nI 0), .int (nI 0), .int (nI 0), .ref (q 23), .ref (q 24), .int (nI 0), .ref (q 26), .ref (q 27), .int (nI 0)], rfl, Or.inr ⟨by omega, rfl⟩, by rw [ht]; exact hP9, va_K.moved hW.alike hK9, hD9⟩, hS.F ht⟩) hS.2.2 dX10_along_95
          · have c_13 := mt (k_lt x2 (-999)).mpr c_13
            rw [show ((-999 : Int32)).toInt = -999 from by decide] at c_13
            refine lv_iload_n hx hb dX10_along_31 rfl (lv_at hl 3 rfl) ?_
            refine lv_sipush (v := nI 999) hx hb dX10_along_32 (by decide +kernel) ?_
            refine lv_icmp_gt (tgt := 54) hx hb dX10_along_35 (by decide) (fun c_16 => ?_) (fun c_16 => ?_)
            · have c_16 := (k_lt (nI 999) x2).mp c_16
              rw [show (nI 999).toInt = 999 from by decide] at c_16
              refine lv_iconst (v := nI 1) hx hb dX10_along_54 (by decide +kernel) ?_
              refine lv_goto (tgt := 59) hx hb dX10_along_55 (by decide) ?_
              refine lv_istore (lv' := [(5, .int (nI 1)), (0, .ref o), (1, .int x), (2, .int x1), (3, .int x2), (4, .int x3)]) hx hb dX10_along_59 hl (by decide) rfl (fun ls hl => ?_)
              refine lv_aload_n hx hb dX10_along_61 rfl (lv_at hl 1 rfl) ?_
              refine lv_iload hx hb dX10_along_62 (lv_at hl 0 rfl) ?_
              refine lv_if_eq (tgt := 71) hx hb dX10_along_64 (by decide) (fun c_17 => absurd c_17 (by decide)) (fun c_17 => ?_)
              refine lv_iconst (v := nI 1) hx hb dX10_along_67 (by decide +kernel) ?_
              refine lv_goto (tgt := 85) hx hb dX10_along_68 (by decide) ?_
              refine va_put (D := (dC, dI)) (ci := 13) (v := .int (nI 1)) (ty := .int) (C := RX10) (T := TX10) (N := 29) hx hb hts bk0 tyX10 tyX10_ok nmX10 hown hK hP hD hS 0 rfl rfl 0 (by decide) (hts (.fieldLink RX10 78 "GradientDeskModel" "thrown" "I") (List.mem_of_getElem? (i := 1) rfl)) (fun _ h9 => h9) rfl (by decide +kernel) rfl rfl (Nat.le_of_ble_eq_true rfl) dX10_along_85 (fun H locs hP hD hS => ?_)
              have hP : va_P (dC, dI) vwCl ([(o, .inr (13, [.int (nI 1), .ref (q 1), .ref (q 2), .ref (q 3), .ref (q 4), .int (nI 0), .int (-1), .ref (q 7), .ref (q 8), .ref (q 9), .ref (q 10), .ref (q 11), .ref (q 12), .int (nI 0), .int (nI 0), .ref (q 15), .ref (q 16), .ref (q 17), .ref (q 18), .ref (q 19), .int (nI 0), .int (nI 0), .int (nI 0), .ref (q 23), .ref (q 24), .int (nI 0), .ref (q 26), .ref (q 27), .int (nI 0)])), (q 15, .inl (k 15, 8, .inl (va_cpy (fun _ => -1) (fun _ => 0) 0 0 8)))]) H := hP
              have hD : va_D A ([(o, .inr (13, [.int (nI 1), .ref (q 1), .ref (q 2), .ref (q 3), .ref (q 4), .int (nI 0), .int (-1), .ref (q 7), .ref (q 8), .ref (q 9), .ref (q 10), .ref (q 11), .ref (q 12), .int (nI 0), .int (nI 0), .ref (q 15), .ref (q 16), .ref (q 17), .ref (q 18), .ref (q 19), .int (nI 0), .int (nI 0), .int (nI 0), .ref (q 23), .ref (q 24), .int (nI 0), .ref (q 26), .ref (q 27), .int (nI 0)])), (q 15, .inl (k 15, 8, .inl (va_cpy (fun _ => -1) (fun _ => 0) 0 0 8)))]) := hD
              refine lv_aload_n hx hb dX10_along_88 rfl (lv_at hl 1 rfl) ?_
              refine va_get (D := (dC, dI)) (ci := 13) (v := .int (nI 1)) (C := RX10) (T := TX10) (N := 29) hx hb hts bk0 hown hK hP 0 rfl rfl 0 (by decide) (hts (.fieldLink RX10 78 "GradientDeskModel" "thrown" "I") (List.mem_of_getElem? (i := 1) rfl)) (fun _ h9 => h9) rfl dX10_along_89 ?_
              refine lv_if_le (tgt := 96) hx hb dX10_along_92 (by decide) (fun c_18 => absurd c_18 (by decide)) (fun c_18 => ?_)
              have hP9 := hP.sub (ws' := [(o, .inr (13, [.int (nI 1), .ref (q 1), .ref (q 2), .ref (q 3), .ref (q 4), .int (nI 0), .int (-1), .ref (q 7), .ref (q 8), .ref (q 9), .ref (q 10), .ref (q 11), .ref (q 12), .int (nI 0), .int (nI 0), .ref (q 15), .ref (q 16), .ref (q 17), .ref (q 18), .ref (q 19), .int (nI 0), .int (nI 0), .int (nI 0), .ref (q 23), .ref (q 24), .int (nI 0), .ref (q 26), .ref (q 27), .int (nI 0)]))]) [0] rfl
              have hD9 := hD.sub (ws' := [(o, .inr (13, [.int (nI 1), .ref (q 1), .ref (q 2), .ref (q 3), .ref (q 4), .int (nI 0), .int (-1), .ref (q 7), .ref (q 8), .ref (q 9), .ref (q 10), .ref (q 11), .ref (q 12), .int (nI 0), .int (nI 0), .ref (q 15), .ref (q 16), .ref (q 17), .ref (q 18), .ref (q 19), .int (nI 0), .int (nI 0), .int (nI 0), .ref (q 23), .ref (q 24), .int (nI 0), .ref (q 26), .ref (q 27), .int (nI 0)]))]) [0] (by decide) rfl
              have hK9 := hK.sub (tys' := []) [] rfl
              refine W.widen (k := 0) (n := 0) (by omega) (by omega) ?_
              exact W.vret hx hb hr (fun t ht hW => ⟨⟨[.int (nI 1), .ref (q 1), .ref (q 2), .ref (q 3), .ref (q 4), .int (nI 0), .int (-1), .ref (q 7), .ref (q 8), .ref (q 9), .ref (q 10), .ref (q 11), .ref (q 12), .int (nI 0), .int (nI 0), .ref (q 15), .ref (q 16), .ref (q 17), .ref (q 18), .ref (q 19), .int (nI 0), .int (nI 0), .int (nI 0), .ref (q 23), .ref (q 24), .int (nI 0), .ref (q 26), .ref (q 27), .int (nI 0)], rfl, Or.inr ⟨by omega, rfl⟩, by rw [ht]; exact hP9, va_K.moved hW.alike hK9, hD9⟩, hS.F ht⟩) hS.2.2 dX10_along_95
            · have c_16 := mt (k_lt (nI 999) x2).mpr c_16
              rw [show (nI 999).toInt = 999 from by decide] at c_16
              refine lv_iload hx hb dX10_along_38 (lv_at hl 4 rfl) ?_
              refine lv_sipush (v := -999) hx hb dX10_along_40 (by decide +kernel) ?_
              refine lv_icmp_lt (tgt := 54) hx hb dX10_along_43 (by decide) (fun c_19 => ?_) (fun c_19 => ?_)
              · have c_19 := (k_lt x3 (-999)).mp c_19
                rw [show ((-999 : Int32)).toInt = -999 from by decide] at c_19
                refine lv_iconst (v := nI 1) hx hb dX10_along_54 (by decide +kernel) ?_
                refine lv_goto (tgt := 59) hx hb dX10_along_55 (by decide) ?_
                refine lv_istore (lv' := [(5, .int (nI 1)), (0, .ref o), (1, .int x), (2, .int x1), (3, .int x2), (4, .int x3)]) hx hb dX10_along_59 hl (by decide) rfl (fun ls hl => ?_)
                refine lv_aload_n hx hb dX10_along_61 rfl (lv_at hl 1 rfl) ?_
                refine lv_iload hx hb dX10_along_62 (lv_at hl 0 rfl) ?_
                refine lv_if_eq (tgt := 71) hx hb dX10_along_64 (by decide) (fun c_20 => absurd c_20 (by decide)) (fun c_20 => ?_)
                refine lv_iconst (v := nI 1) hx hb dX10_along_67 (by decide +kernel) ?_
                refine lv_goto (tgt := 85) hx hb dX10_along_68 (by decide) ?_
                refine va_put (D := (dC, dI)) (ci := 13) (v := .int (nI 1)) (ty := .int) (C := RX10) (T := TX10) (N := 29) hx hb hts bk0 tyX10 tyX10_ok nmX10 hown hK hP hD hS 0 rfl rfl 0 (by decide) (hts (.fieldLink RX10 78 "GradientDeskModel" "thrown" "I") (List.mem_of_getElem? (i := 1) rfl)) (fun _ h9 => h9) rfl (by decide +kernel) rfl rfl (Nat.le_of_ble_eq_true rfl) dX10_along_85 (fun H locs hP hD hS => ?_)
                have hP : va_P (dC, dI) vwCl ([(o, .inr (13, [.int (nI 1), .ref (q 1), .ref (q 2), .ref (q 3), .ref (q 4), .int (nI 0), .int (-1), .ref (q 7), .ref (q 8), .ref (q 9), .ref (q 10), .ref (q 11), .ref (q 12), .int (nI 0), .int (nI 0), .ref (q 15), .ref (q 16), .ref (q 17), .ref (q 18), .ref (q 19), .int (nI 0), .int (nI 0), .int (nI 0), .ref (q 23), .ref (q 24), .int (nI 0), .ref (q 26), .ref (q 27), .int (nI 0)])), (q 15, .inl (k 15, 8, .inl (va_cpy (fun _ => -1) (fun _ => 0) 0 0 8)))]) H := hP
                have hD : va_D A ([(o, .inr (13, [.int (nI 1), .ref (q 1), .ref (q 2), .ref (q 3), .ref (q 4), .int (nI 0), .int (-1), .ref (q 7), .ref (q 8), .ref (q 9), .ref (q 10), .ref (q 11), .ref (q 12), .int (nI 0), .int (nI 0), .ref (q 15), .ref (q 16), .ref (q 17), .ref (q 18), .ref (q 19), .int (nI 0), .int (nI 0), .int (nI 0), .ref (q 23), .ref (q 24), .int (nI 0), .ref (q 26), .ref (q 27), .int (nI 0)])), (q 15, .inl (k 15, 8, .inl (va_cpy (fun _ => -1) (fun _ => 0) 0 0 8)))]) := hD
                refine lv_aload_n hx hb dX10_along_88 rfl (lv_at hl 1 rfl) ?_
                refine va_get (D := (dC, dI)) (ci := 13) (v := .int (nI 1)) (C := RX10) (T := TX10) (N := 29) hx hb hts bk0 hown hK hP 0 rfl rfl 0 (by decide) (hts (.fieldLink RX10 78 "GradientDeskModel" "thrown" "I") (List.mem_of_getElem? (i := 1) rfl)) (fun _ h9 => h9) rfl dX10_along_89 ?_
                refine lv_if_le (tgt := 96) hx hb dX10_along_92 (by decide) (fun c_21 => absurd c_21 (by decide)) (fun c_21 => ?_)
                have hP9 := hP.sub (ws' := [(o, .inr (13, [.int (nI 1), .ref (q 1), .ref (q 2), .ref (q 3), .ref (q 4), .int (nI 0), .int (-1), .ref (q 7), .ref (q 8), .ref (q 9), .ref (q 10), .ref (q 11), .ref (q 12), .int (nI 0), .int (nI 0), .ref (q 15), .ref (q 16), .ref (q 17), .ref (q 18), .ref (q 19), .int (nI 0), .int (nI 0), .int (nI 0), .ref (q 23), .ref (q 24), .int (nI 0), .ref (q 26), .ref (q 27), .int (nI 0)]))]) [0] rfl
                have hD9 := hD.sub (ws' := [(o, .inr (13, [.int (nI 1), .ref (q 1), .ref (q 2), .ref (q 3), .ref (q 4), .int (nI 0), .int (-1), .ref (q 7), .ref (q 8), .ref (q 9), .ref (q 10), .ref (q 11), .ref (q 12), .int (nI 0), .int (nI 0), .ref (q 15), .ref (q 16), .ref (q 17), .ref (q 18), .ref (q 19), .int (nI 0), .int (nI 0), .int (nI 0), .ref (q 23), .ref (q 24), .int (nI 0), .ref (q 26), .ref (q 27), .int (nI 0)]))]) [0] (by decide) rfl
                have hK9 := hK.sub (tys' := []) [] rfl
                refine W.widen (k := 0) (n := 0) (by omega) (by omega) ?_
                exact W.vret hx hb hr (fun t ht hW => ⟨⟨[.int (nI 1), .ref (q 1), .ref (q 2), .ref (q 3), .ref (q 4), .int (nI 0), .int (-1), .ref (q 7), .ref (q 8), .ref (q 9), .ref (q 10), .ref (q 11), .ref (q 12), .int (nI 0), .int (nI 0), .ref (q 15), .ref (q 16), .ref (q 17), .ref (q 18), .ref (q 19), .int (nI 0), .int (nI 0), .int (nI 0), .ref (q 23), .ref (q 24), .int (nI 0), .ref (q 26), .ref (q 27), .int (nI 0)], rfl, Or.inr ⟨by omega, rfl⟩, by rw [ht]; exact hP9, va_K.moved hW.alike hK9, hD9⟩, hS.F ht⟩) hS.2.2 dX10_along_95
              · have c_19 := mt (k_lt x3 (-999)).mpr c_19
                rw [show ((-999 : Int32)).toInt = -999 from by decide] at c_19
                refine lv_iload hx hb dX10_along_46 (lv_at hl 4 rfl) ?_
                refine lv_sipush (v := nI 999) hx hb dX10_along_48 (by decide +kernel) ?_
                refine lv_icmp_le (tgt := 58) hx hb dX10_along_51 (by decide) (fun c_22 => ?_) (fun c_22 => ?_)
                · have c_22 := (k_le x3 (nI 999)).mp c_22
                  rw [show (nI 999).toInt = 999 from by decide] at c_22
                  refine lv_iconst (v := nI 0) hx hb dX10_along_58 (by decide +kernel) ?_
                  refine lv_istore (lv' := [(5, .int (nI 0)), (0, .ref o), (1, .int x), (2, .int x1), (3, .int x2), (4, .int x3)]) hx hb dX10_along_59 hl (by decide) rfl (fun ls hl => ?_)
                  refine lv_aload_n hx hb dX10_along_61 rfl (lv_at hl 1 rfl) ?_
                  refine lv_iload hx hb dX10_along_62 (lv_at hl 0 rfl) ?_
                  refine lv_if_eq (tgt := 71) hx hb dX10_along_64 (by decide) (fun c_23 => ?_) (fun c_23 => absurd c_23 (by decide))
                  refine lv_aload_n hx hb dX10_along_71 rfl (lv_at hl 1 rfl) ?_
                  refine va_get (D := (dC, dI)) (ci := 13) (v := .ref (q 15)) (C := RX10) (T := TX10) (N := 29) hx hb hts bk0 hown hK hP 0 rfl rfl 15 (by decide) (hts (.fieldLink RX10 47 "GradientDeskModel" "names" "[I") (List.mem_of_getElem? (i := 2) rfl)) (fun _ h9 => h9) rfl dX10_along_72 ?_
                  refine lv_iload_n hx hb dX10_along_75 rfl (lv_at hl 2 rfl) ?_
                  refine va_iald hx hb hK hP 1 0 rfl rfl (vp_in_iff.mpr ⟨by omega, by omega⟩) dX10_along_76 ?_
                  refine lv_topi (fun x_24 e_25 => ?_)
                  obtain rfl : x_24 = -1 := e_25.trans (k_cpyin (k_clamp (n := 8) (by omega) (by omega)))
                  refine lv_if_ge (tgt := 84) hx hb dX10_along_77 (by decide) (fun c_26 => absurd c_26 (by decide)) (fun c_26 => ?_)
                  refine lv_iconst (v := nI 2) hx hb dX10_along_80 (by decide +kernel) ?_
                  refine lv_goto (tgt := 85) hx hb dX10_along_81 (by decide) ?_
                  refine va_put (D := (dC, dI)) (ci := 13) (v := .int (nI 2)) (ty := .int) (C := RX10) (T := TX10) (N := 29) hx hb hts bk0 tyX10 tyX10_ok nmX10 hown hK hP hD hS 0 rfl rfl 0 (by decide) (hts (.fieldLink RX10 78 "GradientDeskModel" "thrown" "I") (List.mem_of_getElem? (i := 1) rfl)) (fun _ h9 => h9) rfl (by decide +kernel) rfl rfl (Nat.le_of_ble_eq_true rfl) dX10_along_85 (fun H locs hP hD hS => ?_)
                  have hP : va_P (dC, dI) vwCl ([(o, .inr (13, [.int (nI 2), .ref (q 1), .ref (q 2), .ref (q 3), .ref (q 4), .int (nI 0), .int (-1), .ref (q 7), .ref (q 8), .ref (q 9), .ref (q 10), .ref (q 11), .ref (q 12), .int (nI 0), .int (nI 0), .ref (q 15), .ref (q 16), .ref (q 17), .ref (q 18), .ref (q 19), .int (nI 0), .int (nI 0), .int (nI 0), .ref (q 23), .ref (q 24), .int (nI 0), .ref (q 26), .ref (q 27), .int (nI 0)])), (q 15, .inl (k 15, 8, .inl (va_cpy (fun _ => -1) (fun _ => 0) 0 0 8)))]) H := hP
                  have hD : va_D A ([(o, .inr (13, [.int (nI 2), .ref (q 1), .ref (q 2), .ref (q 3), .ref (q 4), .int (nI 0), .int (-1), .ref (q 7), .ref (q 8), .ref (q 9), .ref (q 10), .ref (q 11), .ref (q 12), .int (nI 0), .int (nI 0), .ref (q 15), .ref (q 16), .ref (q 17), .ref (q 18), .ref (q 19), .int (nI 0), .int (nI 0), .int (nI 0), .ref (q 23), .ref (q 24), .int (nI 0), .ref (q 26), .ref (q 27), .int (nI 0)])), (q 15, .inl (k 15, 8, .inl (va_cpy (fun _ => -1) (fun _ => 0) 0 0 8)))]) := hD
                  refine lv_aload_n hx hb dX10_along_88 rfl (lv_at hl 1 rfl) ?_
                  refine va_get (D := (dC, dI)) (ci := 13) (v := .int (nI 2)) (C := RX10) (T := TX10) (N := 29) hx hb hts bk0 hown hK hP 0 rfl rfl 0 (by decide) (hts (.fieldLink RX10 78 "GradientDeskModel" "thrown" "I") (List.mem_of_getElem? (i := 1) rfl)) (fun _ h9 => h9) rfl dX10_along_89 ?_
                  refine lv_if_le (tgt := 96) hx hb dX10_along_92 (by decide) (fun c_27 => absurd c_27 (by decide)) (fun c_27 => ?_)
                  have hP9 := hP.sub (ws' := [(o, .inr (13, [.int (nI 2), .ref (q 1), .ref (q 2), .ref (q 3), .ref (q 4), .int (nI 0), .int (-1), .ref (q 7), .ref (q 8), .ref (q 9), .ref (q 10), .ref (q 11), .ref (q 12), .int (nI 0), .int (nI 0), .ref (q 15), .ref (q 16), .ref (q 17), .ref (q 18), .ref (q 19), .int (nI 0), .int (nI 0), .int (nI 0), .ref (q 23), .ref (q 24), .int (nI 0), .ref (q 26), .ref (q 27), .int (nI 0)]))]) [0] rfl
                  have hD9 := hD.sub (ws' := [(o, .inr (13, [.int (nI 2), .ref (q 1), .ref (q 2), .ref (q 3), .ref (q 4), .int (nI 0), .int (-1), .ref (q 7), .ref (q 8), .ref (q 9), .ref (q 10), .ref (q 11), .ref (q 12), .int (nI 0), .int (nI 0), .ref (q 15), .ref (q 16), .ref (q 17), .ref (q 18), .ref (q 19), .int (nI 0), .int (nI 0), .int (nI 0), .ref (q 23), .ref (q 24), .int (nI 0), .ref (q 26), .ref (q 27), .int (nI 0)]))]) [0] (by decide) rfl
                  have hK9 := hK.sub (tys' := []) [] rfl
                  refine W.widen (k := 0) (n := 0) (by omega) (by omega) ?_
                  exact W.vret hx hb hr (fun t ht hW => ⟨⟨[.int (nI 2), .ref (q 1), .ref (q 2), .ref (q 3), .ref (q 4), .int (nI 0), .int (-1), .ref (q 7), .ref (q 8), .ref (q 9), .ref (q 10), .ref (q 11), .ref (q 12), .int (nI 0), .int (nI 0), .ref (q 15), .ref (q 16), .ref (q 17), .ref (q 18), .ref (q 19), .int (nI 0), .int (nI 0), .int (nI 0), .ref (q 23), .ref (q 24), .int (nI 0), .ref (q 26), .ref (q 27), .int (nI 0)], rfl, Or.inl ⟨by omega, rfl⟩, by rw [ht]; exact hP9, va_K.moved hW.alike hK9, hD9⟩, hS.F ht⟩) hS.2.2 dX10_along_95
                · have c_22 := mt (k_le x3 (nI 999)).mpr c_22
                  rw [show (nI 999).toInt = 999 from by decide] at c_22
                  refine lv_iconst (v := nI 1) hx hb dX10_along_54 (by decide +kernel) ?_
                  refine lv_goto (tgt := 59) hx hb dX10_along_55 (by decide) ?_
                  refine lv_istore (lv' := [(5, .int (nI 1)), (0, .ref o), (1, .int x), (2, .int x1), (3, .int x2), (4, .int x3)]) hx hb dX10_along_59 hl (by decide) rfl (fun ls hl => ?_)
                  refine lv_aload_n hx hb dX10_along_61 rfl (lv_at hl 1 rfl) ?_
                  refine lv_iload hx hb dX10_along_62 (lv_at hl 0 rfl) ?_
                  refine lv_if_eq (tgt := 71) hx hb dX10_along_64 (by decide) (fun c_28 => absurd c_28 (by decide)) (fun c_28 => ?_)
                  refine lv_iconst (v := nI 1) hx hb dX10_along_67 (by decide +kernel) ?_
                  refine lv_goto (tgt := 85) hx hb dX10_along_68 (by decide) ?_
                  refine va_put (D := (dC, dI)) (ci := 13) (v := .int (nI 1)) (ty := .int) (C := RX10) (T := TX10) (N := 29) hx hb hts bk0 tyX10 tyX10_ok nmX10 hown hK hP hD hS 0 rfl rfl 0 (by decide) (hts (.fieldLink RX10 78 "GradientDeskModel" "thrown" "I") (List.mem_of_getElem? (i := 1) rfl)) (fun _ h9 => h9) rfl (by decide +kernel) rfl rfl (Nat.le_of_ble_eq_true rfl) dX10_along_85 (fun H locs hP hD hS => ?_)
                  have hP : va_P (dC, dI) vwCl ([(o, .inr (13, [.int (nI 1), .ref (q 1), .ref (q 2), .ref (q 3), .ref (q 4), .int (nI 0), .int (-1), .ref (q 7), .ref (q 8), .ref (q 9), .ref (q 10), .ref (q 11), .ref (q 12), .int (nI 0), .int (nI 0), .ref (q 15), .ref (q 16), .ref (q 17), .ref (q 18), .ref (q 19), .int (nI 0), .int (nI 0), .int (nI 0), .ref (q 23), .ref (q 24), .int (nI 0), .ref (q 26), .ref (q 27), .int (nI 0)])), (q 15, .inl (k 15, 8, .inl (va_cpy (fun _ => -1) (fun _ => 0) 0 0 8)))]) H := hP
                  have hD : va_D A ([(o, .inr (13, [.int (nI 1), .ref (q 1), .ref (q 2), .ref (q 3), .ref (q 4), .int (nI 0), .int (-1), .ref (q 7), .ref (q 8), .ref (q 9), .ref (q 10), .ref (q 11), .ref (q 12), .int (nI 0), .int (nI 0), .ref (q 15), .ref (q 16), .ref (q 17), .ref (q 18), .ref (q 19), .int (nI 0), .int (nI 0), .int (nI 0), .ref (q 23), .ref (q 24), .int (nI 0), .ref (q 26), .ref (q 27), .int (nI 0)])), (q 15, .inl (k 15, 8, .inl (va_cpy (fun _ => -1) (fun _ => 0) 0 0 8)))]) := hD
                  refine lv_aload_n hx hb dX10_along_88 rfl (lv_at hl 1 rfl) ?_
                  refine va_get (D := (dC, dI)) (ci := 13) (v := .int (nI 1)) (C := RX10) (T := TX10) (N := 29) hx hb hts bk0 hown hK hP 0 rfl rfl 0 (by decide) (hts (.fieldLink RX10 78 "GradientDeskModel" "thrown" "I") (List.mem_of_getElem? (i := 1) rfl)) (fun _ h9 => h9) rfl dX10_along_89 ?_
                  refine lv_if_le (tgt := 96) hx hb dX10_along_92 (by decide) (fun c_29 => absurd c_29 (by decide)) (fun c_29 => ?_)
                  have hP9 := hP.sub (ws' := [(o, .inr (13, [.int (nI 1), .ref (q 1), .ref (q 2), .ref (q 3), .ref (q 4), .int (nI 0), .int (-1), .ref (q 7), .ref (q 8), .ref (q 9), .ref (q 10), .ref (q 11), .ref (q 12), .int (nI 0), .int (nI 0), .ref (q 15), .ref (q 16), .ref (q 17), .ref (q 18), .ref (q 19), .int (nI 0), .int (nI 0), .int (nI 0), .ref (q 23), .ref (q 24), .int (nI 0), .ref (q 26), .ref (q 27), .int (nI 0)]))]) [0] rfl
                  have hD9 := hD.sub (ws' := [(o, .inr (13, [.int (nI 1), .ref (q 1), .ref (q 2), .ref (q 3), .ref (q 4), .int (nI 0), .int (-1), .ref (q 7), .ref (q 8), .ref (q 9), .ref (q 10), .ref (q 11), .ref (q 12), .int (nI 0), .int (nI 0), .ref (q 15), .ref (q 16), .ref (q 17), .ref (q 18), .ref (q 19), .int (nI 0), .int (nI 0), .int (nI 0), .ref (q 23), .ref (q 24), .int (nI 0), .ref (q 26), .ref (q 27), .int (nI 0)]))]) [0] (by decide) rfl
                  have hK9 := hK.sub (tys' := []) [] rfl
                  refine W.widen (k := 0) (n := 0) (by omega) (by omega) ?_
                  exact W.vret hx hb hr (fun t ht hW => ⟨⟨[.int (nI 1), .ref (q 1), .ref (q 2), .ref (q 3), .ref (q 4), .int (nI 0), .int (-1), .ref (q 7), .ref (q 8), .ref (q 9), .ref (q 10), .ref (q 11), .ref (q 12), .int (nI 0), .int (nI 0), .ref (q 15), .ref (q 16), .ref (q 17), .ref (q 18), .ref (q 19), .int (nI 0), .int (nI 0), .int (nI 0), .ref (q 23), .ref (q 24), .int (nI 0), .ref (q 26), .ref (q 27), .int (nI 0)], rfl, Or.inr ⟨by omega, rfl⟩, by rw [ht]; exact hP9, va_K.moved hW.alike hK9, hD9⟩, hS.F ht⟩) hS.2.2 dX10_along_95
def wd_X10_part : List Cond := .code yX10_part cX10_part 3 (some .int) :: (([.fieldLink RX10 78 "GradientDeskModel" "thrown" "I", .fieldLink RX10 149 "GradientDeskModel" "made" "I"] : List Cond) ++ (u_ws RX10 TX10 29 ++ ([])))
theorem gw_X10_part : wd_X10_part.all goodWord = true := k_allc rfl (k_all (by decide +kernel) (k_all (gu_X10) (rfl)))
abbrev at_X10_part (dC : Nat → ClassId) (dI : Nat → Nat → Nat) (A : Nat → Prop) (o : Nat) (q : Nat → Nat) (k : Nat → ClassId) (pn : Nat → Nat) (ln : Nat → Nat) (bn : Nat → Nat) (x : Int32) (x1 : Int32) (u : List Value) (t : State) : Prop := match u with
  | fs2 => va_P (dC, dI) vwCl [(o, .inr (13, fs2))] t.heap ∧ va_K (dC, dI) vwCl [] t ∧ va_D A [(o, .inr (13, fs2))]
set_option maxHeartbeats 4000000 in
set_option maxRecDepth 100000 in
theorem c_X10_part (l : Launch) (dC : Nat → ClassId) (dI : Nat → Nat → Nat) (A : Nat → Prop) (sz : Nat) (hA0 : ∀ q, sz ≤ q → A q) (o : Nat) (q : Nat → Nat) (k : Nat → ClassId) (pn : Nat → Nat) (ln : Nat → Nat) (bn : Nat → Nat) (x : Int32) (x1 : Int32) (hpn : ∀ j, pn j < 4294967296) (hln : ∀ j, ln j < 81) (hbn : ∀ j, bn j < 2) (hL : ∀ j, ln j = if j % 2 = 1 ∧ j < 2068 then 1 else 0) (hPp : ∀ j, j % 2 = 1 → j < 2068 → pn (80 * j) = 1) (hB : ∀ j, bn j = 0) : Met l yX10_part wd_X10_part ({ frames := 10, cells := 0, slots := 0, locals := 200 }) (va_Pc [.ref o, .int x, .int x1] (fun U => U.heap.size = sz ∧ va_P (dC, dI) vwCl [(o, .inr (13, [.int (nI 0), .ref (q 1), .ref (q 2), .ref (q 3), .ref (q 4), .int (nI 0), .int (-1), .ref (q 7), .ref (q 8), .ref (q 9), .ref (q 10), .ref (q 11), .ref (q 12), .int (nI 0), .int (nI 0), .ref (q 15), .ref (q 16), .ref (q 17), .ref (q 18), .ref (q 19), .int (nI 0), .int (nI 0), .int (nI 0), .ref (q 23), .ref (q 24), .int (nI 0), .ref (q 26), .ref (q 27), .int (nI 0)]))] U.heap ∧ va_K (dC, dI) vwCl [] U ∧ va_D A [(o, .inr (13, [.int (nI 0), .ref (q 1), .ref (q 2), .ref (q 3), .ref (q 4), .int (nI 0), .int (-1), .ref (q 7), .ref (q 8), .ref (q 9), .ref (q 10), .ref (q 11), .ref (q 12), .int (nI 0), .int (nI 0), .ref (q 15), .ref (q 16), .ref (q 17), .ref (q 18), .ref (q 19), .int (nI 0), .int (nI 0), .int (nI 0), .ref (q 23), .ref (q 24), .int (nI 0), .ref (q 26), .ref (q 27), .int (nI 0)]))])) (va_Qi (fun (r : Int32) => fun (u : List Value) => match u with | fs2 => fs2[0]? = some (.int (nI 1))) (at_X10_part dC dI A o q k pn ln bn x x1) A) (0) (0) A := by
  refine Met.ofW (cc := cX10_part) (maxL := 3) (ret := (some .int)) (by decide) rfl ?_
  intro p e s m args below meth c s₁ B hml hv
  obtain ⟨rfl, hsz, hP, hK, hD⟩ := hv
  have hx := B.exec
  have hb := B.bytes
  have hr := B.returns
  have hts := atoms_spec (ws := wd_X10_part) B.pre
  have hown : s.vm.findClass RX10 = some m.cls := findClass_of_methodNamed B.named
  have hlocks := B.notSynchronized
  have bk0 : ∀ w ∈ u_ws RX10 TX10 29, w ∈ wd_X10_part := fun _ h => List.mem_cons_of_mem _ (List.mem_append_right _ (List.mem_append_left _ h))
  subst hsz
  have hA : ∀ q : Nat, s.heap.size ≤ q → A q := hA0
  have hS : va_S A s.heap s.heap [] := va_S.rf
  have hl := lv_entry ([.ref o, .int x, .int x1]) (n := 3) (Nat.le_of_ble_eq_true rfl)
  rw [lg_entry_eq]
  generalize (lg_sl ([.ref o, .int x, .int x1]) ++ List.replicate (3 - (lg_sl ([.ref o, .int x, .int x1])).length) Slot.unset).toArray = ls at hl ⊢
  have hl : lv_has ls 3 [(0, .ref o), (1, .int x), (2, .int x1)] := hl
  refine lv_aload_n hx hb dX10_part_0 rfl (lv_at hl 0 rfl) ?_
  refine lv_iload_n hx hb dX10_part_1 rfl (lv_at hl 1 rfl) ?_
  refine lv_if_lt (tgt := 13) hx hb dX10_part_2 (by decide) (fun c_1 => ?_) (fun c_1 => ?_)
  · have c_1 := (k_lt x (nI 0)).mp c_1
    rw [show (nI 0).toInt = 0 from by decide] at c_1
    refine lv_iconst (v := nI 1) hx hb dX10_part_13 (by decide +kernel) ?_
    refine lv_goto (tgt := 31) hx hb dX10_part_14 (by decide) ?_
    refine va_put (D := (dC, dI)) (ci := 13) (v := .int (nI 1)) (ty := .int) (C := RX10) (T := TX10) (N := 29) hx hb hts bk0 tyX10 tyX10_ok nmX10 hown hK hP hD hS 0 rfl rfl 0 (by decide) (hts (.fieldLink RX10 78 "GradientDeskModel" "thrown" "I") (List.mem_of_getElem? (i := 1) rfl)) (fun _ h9 => h9) rfl (by decide +kernel) rfl rfl (Nat.le_of_ble_eq_true rfl) dX10_part_31 (fun H locs hP hD hS => ?_)
    have hP : va_P (dC, dI) vwCl ([(o, .inr (13, [.int (nI 1), .ref (q 1), .ref (q 2), .ref (q 3), .ref (q 4), .int (nI 0), .int (-1), .ref (q 7), .ref (q 8), .ref (q 9), .ref (q 10), .ref (q 11), .ref (q 12), .int (nI 0), .int (nI 0), .ref (q 15), .ref (q 16), .ref (q 17), .ref (q 18), .ref (q 19), .int (nI 0), .int (nI 0), .int (nI 0), .ref (q 23), .ref (q 24), .int (nI 0), .ref (q 26), .ref (q 27), .int (nI 0)]))]) H := hP
    have hD : va_D A ([(o, .inr (13, [.int (nI 1), .ref (q 1), .ref (q 2), .ref (q 3), .ref (q 4), .int (nI 0), .int (-1), .ref (q 7), .ref (q 8), .ref (q 9), .ref (q 10), .ref (q 11), .ref (q 12), .int (nI 0), .int (nI 0), .ref (q 15), .ref (q 16), .ref (q 17), .ref (q 18), .ref (q 19), .int (nI 0), .int (nI 0), .int (nI 0), .ref (q 23), .ref (q 24), .int (nI 0), .ref (q 26), .ref (q 27), .int (nI 0)]))]) := hD
    refine lv_aload_n hx hb dX10_part_34 rfl (lv_at hl 0 rfl) ?_
    refine va_get (D := (dC, dI)) (ci := 13) (v := .int (nI 1)) (C := RX10) (T := TX10) (N := 29) hx hb hts bk0 hown hK hP 0 rfl rfl 0 (by decide) (hts (.fieldLink RX10 78 "GradientDeskModel" "thrown" "I") (List.mem_of_getElem? (i := 1) rfl)) (fun _ h9 => h9) rfl dX10_part_35 ?_
    refine lv_if_le (tgt := 43) hx hb dX10_part_38 (by decide) (fun c_2 => absurd c_2 (by decide)) (fun c_2 => ?_)
    refine lv_iconst (v := nI 0) hx hb dX10_part_41 (by decide +kernel) ?_
    have hP9 := hP.sub (ws' := [(o, .inr (13, [.int (nI 1), .ref (q 1), .ref (q 2), .ref (q 3), .ref (q 4), .int (nI 0), .int (-1), .ref (q 7), .ref (q 8), .ref (q 9), .ref (q 10), .ref (q 11), .ref (q 12), .int (nI 0), .int (nI 0), .ref (q 15), .ref (q 16), .ref (q 17), .ref (q 18), .ref (q 19), .int (nI 0), .int (nI 0), .int (nI 0), .ref (q 23), .ref (q 24), .int (nI 0), .ref (q 26), .ref (q 27), .int (nI 0)]))]) [0] rfl
    have hD9 := hD.sub (ws' := [(o, .inr (13, [.int (nI 1), .ref (q 1), .ref (q 2), .ref (q 3), .ref (q 4), .int (nI 0), .int (-1), .ref (q 7), .ref (q 8), .ref (q 9), .ref (q 10), .ref (q 11), .ref (q 12), .int (nI 0), .int (nI 0), .ref (q 15), .ref (q 16), .ref (q 17), .ref (q 18), .ref (q 19), .int (nI 0), .int (nI 0), .int (nI 0), .ref (q 23), .ref (q 24), .int (nI 0), .ref (q 26), .ref (q 27), .int (nI 0)]))]) [0] (by decide) rfl
    have hK9 := hK.sub (tys' := []) [] rfl
    refine W.widen (k := 0) (n := 0) (by omega) (by omega) ?_
    exact W.iret (v := nI 0) hx hb hr (fun t ht hW => ⟨⟨nI 0, [.int (nI 1), .ref (q 1), .ref (q 2), .ref (q 3), .ref (q 4), .int (nI 0), .int (-1), .ref (q 7), .ref (q 8), .ref (q 9), .ref (q 10), .ref (q 11), .ref (q 12), .int (nI 0), .int (nI 0), .ref (q 15), .ref (q 16), .ref (q 17), .ref (q 18), .ref (q 19), .int (nI 0), .int (nI 0), .int (nI 0), .ref (q 23), .ref (q 24), .int (nI 0), .ref (q 26), .ref (q 27), .int (nI 0)], rfl, rfl, by rw [ht]; exact hP9, va_K.moved hW.alike hK9, hD9⟩, hS.F ht⟩) hS.2.2 dX10_part_42
  · have c_1 := mt (k_lt x (nI 0)).mpr c_1
    rw [show (nI 0).toInt = 0 from by decide] at c_1
    refine lv_iload_n hx hb dX10_part_5 rfl (lv_at hl 1 rfl) ?_
    refine lv_aload_n hx hb dX10_part_6 rfl (lv_at hl 0 rfl) ?_
    refine va_get (D := (dC, dI)) (ci := 13) (v := .int (nI 0)) (C := RX10) (T := TX10) (N := 29) hx hb hts bk0 hown hK hP 0 rfl rfl 13 (by decide) (hts (.fieldLink RX10 149 "GradientDeskModel" "made" "I") (List.mem_of_getElem? (i := 2) rfl)) (fun _ h9 => h9) rfl dX10_part_7 ?_
    refine lv_icmp_lt (tgt := 17) hx hb dX10_part_10 (by decide) (fun c_3 => ?_) (fun c_3 => ?_)
    · have c_3 := (k_lt x (nI 0)).mp c_3
      rw [show (nI 0).toInt = 0 from by decide] at c_3
      exfalso; omega
    · have c_3 := mt (k_lt x (nI 0)).mpr c_3
      rw [show (nI 0).toInt = 0 from by decide] at c_3
      refine lv_iconst (v := nI 1) hx hb dX10_part_13 (by decide +kernel) ?_
      refine lv_goto (tgt := 31) hx hb dX10_part_14 (by decide) ?_
      refine va_put (D := (dC, dI)) (ci := 13) (v := .int (nI 1)) (ty := .int) (C := RX10) (T := TX10) (N := 29) hx hb hts bk0 tyX10 tyX10_ok nmX10 hown hK hP hD hS 0 rfl rfl 0 (by decide) (hts (.fieldLink RX10 78 "GradientDeskModel" "thrown" "I") (List.mem_of_getElem? (i := 1) rfl)) (fun _ h9 => h9) rfl (by decide +kernel) rfl rfl (Nat.le_of_ble_eq_true rfl) dX10_part_31 (fun H locs hP hD hS => ?_)
      have hP : va_P (dC, dI) vwCl ([(o, .inr (13, [.int (nI 1), .ref (q 1), .ref (q 2), .ref (q 3), .ref (q 4), .int (nI 0), .int (-1), .ref (q 7), .ref (q 8), .ref (q 9), .ref (q 10), .ref (q 11), .ref (q 12), .int (nI 0), .int (nI 0), .ref (q 15), .ref (q 16), .ref (q 17), .ref (q 18), .ref (q 19), .int (nI 0), .int (nI 0), .int (nI 0), .ref (q 23), .ref (q 24), .int (nI 0), .ref (q 26), .ref (q 27), .int (nI 0)]))]) H := hP
      have hD : va_D A ([(o, .inr (13, [.int (nI 1), .ref (q 1), .ref (q 2), .ref (q 3), .ref (q 4), .int (nI 0), .int (-1), .ref (q 7), .ref (q 8), .ref (q 9), .ref (q 10), .ref (q 11), .ref (q 12), .int (nI 0), .int (nI 0), .ref (q 15), .ref (q 16), .ref (q 17), .ref (q 18), .ref (q 19), .int (nI 0), .int (nI 0), .int (nI 0), .ref (q 23), .ref (q 24), .int (nI 0), .ref (q 26), .ref (q 27), .int (nI 0)]))]) := hD
      refine lv_aload_n hx hb dX10_part_34 rfl (lv_at hl 0 rfl) ?_
      refine va_get (D := (dC, dI)) (ci := 13) (v := .int (nI 1)) (C := RX10) (T := TX10) (N := 29) hx hb hts bk0 hown hK hP 0 rfl rfl 0 (by decide) (hts (.fieldLink RX10 78 "GradientDeskModel" "thrown" "I") (List.mem_of_getElem? (i := 1) rfl)) (fun _ h9 => h9) rfl dX10_part_35 ?_
      refine lv_if_le (tgt := 43) hx hb dX10_part_38 (by decide) (fun c_4 => absurd c_4 (by decide)) (fun c_4 => ?_)
      refine lv_iconst (v := nI 0) hx hb dX10_part_41 (by decide +kernel) ?_
      have hP9 := hP.sub (ws' := [(o, .inr (13, [.int (nI 1), .ref (q 1), .ref (q 2), .ref (q 3), .ref (q 4), .int (nI 0), .int (-1), .ref (q 7), .ref (q 8), .ref (q 9), .ref (q 10), .ref (q 11), .ref (q 12), .int (nI 0), .int (nI 0), .ref (q 15), .ref (q 16), .ref (q 17), .ref (q 18), .ref (q 19), .int (nI 0), .int (nI 0), .int (nI 0), .ref (q 23), .ref (q 24), .int (nI 0), .ref (q 26), .ref (q 27), .int (nI 0)]))]) [0] rfl
      have hD9 := hD.sub (ws' := [(o, .inr (13, [.int (nI 1), .ref (q 1), .ref (q 2), .ref (q 3), .ref (q 4), .int (nI 0), .int (-1), .ref (q 7), .ref (q 8), .ref (q 9), .ref (q 10), .ref (q 11), .ref (q 12), .int (nI 0), .int (nI 0), .ref (q 15), .ref (q 16), .ref (q 17), .ref (q 18), .ref (q 19), .int (nI 0), .int (nI 0), .int (nI 0), .ref (q 23), .ref (q 24), .int (nI 0), .ref (q 26), .ref (q 27), .int (nI 0)]))]) [0] (by decide) rfl
      have hK9 := hK.sub (tys' := []) [] rfl
      refine W.widen (k := 0) (n := 0) (by omega) (by omega) ?_
      exact W.iret (v := nI 0) hx hb hr (fun t ht hW => ⟨⟨nI 0, [.int (nI 1), .ref (q 1), .ref (q 2), .ref (q 3), .ref (q 4), .int (nI 0), .int (-1), .ref (q 7), .ref (q 8), .ref (q 9), .ref (q 10), .ref (q 11), .ref (q 12), .int (nI 0), .int (nI 0), .ref (q 15), .ref (q 16), .ref (q 17), .ref (q 18), .ref (q 19), .int (nI 0), .int (nI 0), .int (nI 0), .ref (q 23), .ref (q 24), .int (nI 0), .ref (q 26), .ref (q 27), .int (nI 0)], rfl, rfl, by rw [ht]; exact hP9, va_K.moved hW.alike hK9, hD9⟩, hS.F ht⟩) hS.2.2 dX10_part_42
def wd_X10_noResult : List Cond := .code yX10_noResult cX10_noResult 2 (some .boolean) :: (([] : List Cond) ++ ([]))
theorem gw_X10_noResult : wd_X10_noResult.all goodWord = true := k_allc rfl (k_all (by decide +kernel) (rfl))
abbrev at_X10_noResult (dC : Nat → ClassId) (dI : Nat → Nat → Nat) (A : Nat → Prop) (o : Nat) (q : Nat → Nat) (k : Nat → ClassId) (pn : Nat → Nat) (ln : Nat → Nat) (bn : Nat → Nat) (x : Int32) (u : Unit) (t : State) : Prop := match u with
  | () => va_P (dC, dI) vwCl [(o, .inr (13, [.int (nI 0), .ref (q 1), .ref (q 2), .ref (q 3), .ref (q 4), .int (nI 0), .int (-1), .ref (q 7), .ref (q 8), .ref (q 9), .ref (q 10), .ref (q 11), .ref (q 12), .int (nI 0), .int (nI 0), .ref (q 15), .ref (q 16), .ref (q 17), .ref (q 18), .ref (q 19), .int (nI 0), .int (nI 0), .int (nI 0), .ref (q 23), .ref (q 24), .int (nI 0), .ref (q 26), .ref (q 27), .int (nI 0)]))] t.heap ∧ va_K (dC, dI) vwCl [] t ∧ va_D A [(o, .inr (13, [.int (nI 0), .ref (q 1), .ref (q 2), .ref (q 3), .ref (q 4), .int (nI 0), .int (-1), .ref (q 7), .ref (q 8), .ref (q 9), .ref (q 10), .ref (q 11), .ref (q 12), .int (nI 0), .int (nI 0), .ref (q 15), .ref (q 16), .ref (q 17), .ref (q 18), .ref (q 19), .int (nI 0), .int (nI 0), .int (nI 0), .ref (q 23), .ref (q 24), .int (nI 0), .ref (q 26), .ref (q 27), .int (nI 0)]))]
set_option maxHeartbeats 4000000 in
set_option maxRecDepth 100000 in
theorem c_X10_noResult (l : Launch) (dC : Nat → ClassId) (dI : Nat → Nat → Nat) (A : Nat → Prop) (sz : Nat) (hA0 : ∀ q, sz ≤ q → A q) (o : Nat) (q : Nat → Nat) (k : Nat → ClassId) (pn : Nat → Nat) (ln : Nat → Nat) (bn : Nat → Nat) (x : Int32) (hpn : ∀ j, pn j < 4294967296) (hln : ∀ j, ln j < 81) (hbn : ∀ j, bn j < 2) (hL : ∀ j, ln j = if j % 2 = 1 ∧ j < 2068 then 1 else 0) (hPp : ∀ j, j % 2 = 1 → j < 2068 → pn (80 * j) = 1) (hB : ∀ j, bn j = 0) : Met l yX10_noResult wd_X10_noResult ({ frames := 10, cells := 0, slots := 0, locals := 200 }) (va_Pc [.ref o, .int x] (fun U => U.heap.size = sz ∧ va_P (dC, dI) vwCl [(o, .inr (13, [.int (nI 0), .ref (q 1), .ref (q 2), .ref (q 3), .ref (q 4), .int (nI 0), .int (-1), .ref (q 7), .ref (q 8), .ref (q 9), .ref (q 10), .ref (q 11), .ref (q 12), .int (nI 0), .int (nI 0), .ref (q 15), .ref (q 16), .ref (q 17), .ref (q 18), .ref (q 19), .int (nI 0), .int (nI 0), .int (nI 0), .ref (q 23), .ref (q 24), .int (nI 0), .ref (q 26), .ref (q 27), .int (nI 0)]))] U.heap ∧ va_K (dC, dI) vwCl [] U ∧ va_D A [(o, .inr (13, [.int (nI 0), .ref (q 1), .ref (q 2), .ref (q 3), .ref (q 4), .int (nI 0), .int (-1), .ref (q 7), .ref (q 8), .ref (q 9), .ref (q 10), .ref (q 11), .ref (q 12), .int (nI 0), .int (nI 0), .ref (q 15), .ref (q 16), .ref (q 17), .ref (q 18), .ref (q 19), .int (nI 0), .int (nI 0), .int (nI 0), .ref (q 23), .ref (q 24), .int (nI 0), .ref (q 26), .ref (q 27), .int (nI 0)]))])) (va_Qi (fun (r : Int32) => fun (u : Unit) => match u with | () => (r = nI 0 ∧ (0 ≤ x.toInt ∧ x.toInt ≤ 7)) ∨ (r = nI 1 ∧ ¬ (0 ≤ x.toInt ∧ x.toInt ≤ 7))) (at_X10_noResult dC dI A o q k pn ln bn x) A) (0) (0) A := by
  refine Met.ofW (cc := cX10_noResult) (maxL := 2) (ret := (some .boolean)) (by decide) rfl ?_
  intro p e s m args below meth c s₁ B hml hv
  obtain ⟨rfl, hsz, hP, hK, hD⟩ := hv
  have hx := B.exec
  have hb := B.bytes
  have hr := B.returns
  have hts := atoms_spec (ws := wd_X10_noResult) B.pre
  have hown : s.vm.findClass RX10 = some m.cls := findClass_of_methodNamed B.named
  have hlocks := B.notSynchronized
  subst hsz
  have hA : ∀ q : Nat, s.heap.size ≤ q → A q := hA0
  have hS : va_S A s.heap s.heap [] := va_S.rf
  have hl := lv_entry ([.ref o, .int x]) (n := 2) (Nat.le_of_ble_eq_true rfl)
  rw [lg_entry_eq]
  generalize (lg_sl ([.ref o, .int x]) ++ List.replicate (2 - (lg_sl ([.ref o, .int x])).length) Slot.unset).toArray = ls at hl ⊢
  have hl : lv_has ls 2 [(0, .ref o), (1, .int x)] := hl
  refine lv_iload_n hx hb dX10_noResult_0 rfl (lv_at hl 1 rfl) ?_
  refine lv_if_lt (tgt := 10) hx hb dX10_noResult_1 (by decide) (fun c_1 => ?_) (fun c_1 => ?_)
  · have c_1 := (k_lt x (nI 0)).mp c_1
    rw [show (nI 0).toInt = 0 from by decide] at c_1
    refine lv_iconst (v := nI 1) hx hb dX10_noResult_10 (by decide +kernel) ?_
    refine lv_goto (tgt := 15) hx hb dX10_noResult_11 (by decide) ?_
    have hP9 := hP.sub (ws' := [(o, .inr (13, [.int (nI 0), .ref (q 1), .ref (q 2), .ref (q 3), .ref (q 4), .int (nI 0), .int (-1), .ref (q 7), .ref (q 8), .ref (q 9), .ref (q 10), .ref (q 11), .ref (q 12), .int (nI 0), .int (nI 0), .ref (q 15), .ref (q 16), .ref (q 17), .ref (q 18), .ref (q 19), .int (nI 0), .int (nI 0), .int (nI 0), .ref (q 23), .ref (q 24), .int (nI 0), .ref (q 26), .ref (q 27), .int (nI 0)]))]) [0] rfl
    have hD9 := hD.sub (ws' := [(o, .inr (13, [.int (nI 0), .ref (q 1), .ref (q 2), .ref (q 3), .ref (q 4), .int (nI 0), .int (-1), .ref (q 7), .ref (q 8), .ref (q 9), .ref (q 10), .ref (q 11), .ref (q 12), .int (nI 0), .int (nI 0), .ref (q 15), .ref (q 16), .ref (q 17), .ref (q 18), .ref (q 19), .int (nI 0), .int (nI 0), .int (nI 0), .ref (q 23), .ref (q 24), .int (nI 0), .ref (q 26), .ref (q 27), .int (nI 0)]))]) [0] (by decide) rfl
    have hK9 := hK.sub (tys' := []) [] rfl
    refine W.widen (k := 0) (n := 0) (by omega) (by omega) ?_
    exact W.zret (v := nI 1) hx hb hr (by decide +kernel) (fun t ht hW => ⟨⟨nI 1, (), rfl, Or.inr ⟨rfl, by omega⟩, by rw [ht]; exact hP9, va_K.moved hW.alike hK9, hD9⟩, hS.F ht⟩) hS.2.2 dX10_noResult_15
  · have c_1 := mt (k_lt x (nI 0)).mpr c_1
    rw [show (nI 0).toInt = 0 from by decide] at c_1
    refine lv_iload_n hx hb dX10_noResult_4 rfl (lv_at hl 1 rfl) ?_
    refine lv_bipush (v := nI 7) hx hb dX10_noResult_5 (by decide +kernel) ?_
    refine lv_icmp_le (tgt := 14) hx hb dX10_noResult_7 (by decide) (fun c_2 => ?_) (fun c_2 => ?_)
    · have c_2 := (k_le x (nI 7)).mp c_2
      rw [show (nI 7).toInt = 7 from by decide] at c_2
      refine lv_iconst (v := nI 0) hx hb dX10_noResult_14 (by decide +kernel) ?_
      have hP9 := hP.sub (ws' := [(o, .inr (13, [.int (nI 0), .ref (q 1), .ref (q 2), .ref (q 3), .ref (q 4), .int (nI 0), .int (-1), .ref (q 7), .ref (q 8), .ref (q 9), .ref (q 10), .ref (q 11), .ref (q 12), .int (nI 0), .int (nI 0), .ref (q 15), .ref (q 16), .ref (q 17), .ref (q 18), .ref (q 19), .int (nI 0), .int (nI 0), .int (nI 0), .ref (q 23), .ref (q 24), .int (nI 0), .ref (q 26), .ref (q 27), .int (nI 0)]))]) [0] rfl
      have hD9 := hD.sub (ws' := [(o, .inr (13, [.int (nI 0), .ref (q 1), .ref (q 2), .ref (q 3), .ref (q 4), .int (nI 0), .int (-1), .ref (q 7), .ref (q 8), .ref (q 9), .ref (q 10), .ref (q 11), .ref (q 12), .int (nI 0), .int (nI 0), .ref (q 15), .ref (q 16), .ref (q 17), .ref (q 18), .ref (q 19), .int (nI 0), .int (nI 0), .int (nI 0), .ref (q 23), .ref (q 24), .int (nI 0), .ref (q 26), .ref (q 27), .int (nI 0)]))]) [0] (by decide) rfl
      have hK9 := hK.sub (tys' := []) [] rfl
      refine W.widen (k := 0) (n := 0) (by omega) (by omega) ?_
      exact W.zret (v := nI 0) hx hb hr (by decide +kernel) (fun t ht hW => ⟨⟨nI 0, (), rfl, Or.inl ⟨rfl, by omega⟩, by rw [ht]; exact hP9, va_K.moved hW.alike hK9, hD9⟩, hS.F ht⟩) hS.2.2 dX10_noResult_15
    · have c_2 := mt (k_le x (nI 7)).mpr c_2
      rw [show (nI 7).toInt = 7 from by decide] at c_2
      refine lv_iconst (v := nI 1) hx hb dX10_noResult_10 (by decide +kernel) ?_
      refine lv_goto (tgt := 15) hx hb dX10_noResult_11 (by decide) ?_
      have hP9 := hP.sub (ws' := [(o, .inr (13, [.int (nI 0), .ref (q 1), .ref (q 2), .ref (q 3), .ref (q 4), .int (nI 0), .int (-1), .ref (q 7), .ref (q 8), .ref (q 9), .ref (q 10), .ref (q 11), .ref (q 12), .int (nI 0), .int (nI 0), .ref (q 15), .ref (q 16), .ref (q 17), .ref (q 18), .ref (q 19), .int (nI 0), .int (nI 0), .int (nI 0), .ref (q 23), .ref (q 24), .int (nI 0), .ref (q 26), .ref (q 27), .int (nI 0)]))]) [0] rfl
      have hD9 := hD.sub (ws' := [(o, .inr (13, [.int (nI 0), .ref (q 1), .ref (q 2), .ref (q 3), .ref (q 4), .int (nI 0), .int (-1), .ref (q 7), .ref (q 8), .ref (q 9), .ref (q 10), .ref (q 11), .ref (q 12), .int (nI 0), .int (nI 0), .ref (q 15), .ref (q 16), .ref (q 17), .ref (q 18), .ref (q 19), .int (nI 0), .int (nI 0), .int (nI 0), .ref (q 23), .ref (q 24), .int (nI 0), .ref (q 26), .ref (q 27), .int (nI 0)]))]) [0] (by decide) rfl
      have hK9 := hK.sub (tys' := []) [] rfl
      refine W.widen (k := 0) (n := 0) (by omega) (by omega) ?_
      exact W.zret (v := nI 1) hx hb hr (by decide +kernel) (fun t ht hW => ⟨⟨nI 1, (), rfl, Or.inr ⟨rfl, by omega⟩, by rw [ht]; exact hP9, va_K.moved hW.alike hK9, hD9⟩, hS.F ht⟩) hS.2.2 dX10_noResult_15
def wd_X10_number : List Cond := .code yX10_number cX10_number 4 (some .boolean) :: (([.fieldLink RX10 78 "GradientDeskModel" "thrown" "I", .fieldLink RX10 149 "GradientDeskModel" "made" "I"] : List Cond) ++ (u_ws RX10 TX10 29 ++ ([])))
theorem gw_X10_number : wd_X10_number.all goodWord = true := k_allc rfl (k_all (by decide +kernel) (k_all (gu_X10) (rfl)))
abbrev at_X10_number (dC : Nat → ClassId) (dI : Nat → Nat → Nat) (A : Nat → Prop) (o : Nat) (q : Nat → Nat) (k : Nat → ClassId) (pn : Nat → Nat) (ln : Nat → Nat) (bn : Nat → Nat) (x : Int32) (x1 : Int32) (u : List Value) (t : State) : Prop := match u with
  | fs2 => va_P (dC, dI) vwCl [(o, .inr (13, fs2))] t.heap ∧ va_K (dC, dI) vwCl [] t ∧ va_D A [(o, .inr (13, fs2))]
set_option maxHeartbeats 4000000 in
set_option maxRecDepth 100000 in
theorem c_X10_number (l : Launch) (dC : Nat → ClassId) (dI : Nat → Nat → Nat) (A : Nat → Prop) (sz : Nat) (hA0 : ∀ q, sz ≤ q → A q) (o : Nat) (q : Nat → Nat) (k : Nat → ClassId) (pn : Nat → Nat) (ln : Nat → Nat) (bn : Nat → Nat) (x : Int32) (x1 : Int32) (hpn : ∀ j, pn j < 4294967296) (hln : ∀ j, ln j < 81) (hbn : ∀ j, bn j < 2) (hL : ∀ j, ln j = if j % 2 = 1 ∧ j < 2068 then 1 else 0) (hPp : ∀ j, j % 2 = 1 → j < 2068 → pn (80 * j) = 1) (hB : ∀ j, bn j = 0) : Met l yX10_number wd_X10_number ({ frames := 20, cells := 0, slots := 0, locals := 400 }) (va_Pc [.ref o, .int x, .int x1] (fun U => U.heap.size = sz ∧ va_P (dC, dI) vwCl [(o, .inr (13, [.int (nI 0), .ref (q 1), .ref (q 2), .ref (q 3), .ref (q 4), .int (nI 0), .int (-1), .ref (q 7), .ref (q 8), .ref (q 9), .ref (q 10), .ref (q 11), .ref (q 12), .int (nI 0), .int (nI 0), .ref (q 15), .ref (q 16), .ref (q 17), .ref (q 18), .ref (q 19), .int (nI 0), .int (nI 0), .int (nI 0), .ref (q 23), .ref (q 24), .int (nI 0), .ref (q 26), .ref (q 27), .int (nI 0)]))] U.heap ∧ va_K (dC, dI) vwCl [] U ∧ va_D A [(o, .inr (13, [.int (nI 0), .ref (q 1), .ref (q 2), .ref (q 3), .ref (q 4), .int (nI 0), .int (-1), .ref (q 7), .ref (q 8), .ref (q 9), .ref (q 10), .ref (q 11), .ref (q 12), .int (nI 0), .int (nI 0), .ref (q 15), .ref (q 16), .ref (q 17), .ref (q 18), .ref (q 19), .int (nI 0), .int (nI 0), .int (nI 0), .ref (q 23), .ref (q 24), .int (nI 0), .ref (q 26), .ref (q 27), .int (nI 0)]))])) (va_Qi (fun (r : Int32) => fun (u : List Value) => match u with | fs2 => fs2[0]? = some (.int (nI 1))) (at_X10_number dC dI A o q k pn ln bn x x1) A) (0) (0) A := by
  refine Met.ofW (cc := cX10_number) (maxL := 4) (ret := (some .boolean)) (by decide) rfl ?_
  intro p e s m args below meth c s₁ B hml hv
  obtain ⟨rfl, hsz, hP, hK, hD⟩ := hv
  have hx := B.exec
  have hb := B.bytes
  have hr := B.returns
  have hts := atoms_spec (ws := wd_X10_number) B.pre
  have hown : s.vm.findClass RX10 = some m.cls := findClass_of_methodNamed B.named
  have hlocks := B.notSynchronized
  have bk0 : ∀ w ∈ u_ws RX10 TX10 29, w ∈ wd_X10_number := fun _ h => List.mem_cons_of_mem _ (List.mem_append_right _ (List.mem_append_left _ h))
  subst hsz
  have hA : ∀ q : Nat, s.heap.size ≤ q → A q := hA0
  have hS : va_S A s.heap s.heap [] := va_S.rf
  have hl := lv_entry ([.ref o, .int x, .int x1]) (n := 4) (Nat.le_of_ble_eq_true rfl)
  rw [lg_entry_eq]
  generalize (lg_sl ([.ref o, .int x, .int x1]) ++ List.replicate (4 - (lg_sl ([.ref o, .int x, .int x1])).length) Slot.unset).toArray = ls at hl ⊢
  have hl : lv_has ls 4 [(0, .ref o), (1, .int x), (2, .int x1)] := hl
  refine lv_aload_n hx hb dX10_number_0 rfl (lv_at hl 0 rfl) ?_
  refine lv_iload_n hx hb dX10_number_1 rfl (lv_at hl 1 rfl) ?_
  refine lv_if_lt (tgt := 21) hx hb dX10_number_2 (by decide) (fun c_1 => ?_) (fun c_1 => ?_)
  · have c_1 := (k_lt x (nI 0)).mp c_1
    rw [show (nI 0).toInt = 0 from by decide] at c_1
    refine lv_iconst (v := nI 1) hx hb dX10_number_21 (by decide +kernel) ?_
    refine lv_goto (tgt := 26) hx hb dX10_number_22 (by decide) ?_
    refine va_put (D := (dC, dI)) (ci := 13) (v := .int (nI 1)) (ty := .int) (C := RX10) (T := TX10) (N := 29) hx hb hts bk0 tyX10 tyX10_ok nmX10 hown hK hP hD hS 0 rfl rfl 0 (by decide) (hts (.fieldLink RX10 78 "GradientDeskModel" "thrown" "I") (List.mem_of_getElem? (i := 1) rfl)) (fun _ h9 => h9) rfl (by decide +kernel) rfl rfl (Nat.le_of_ble_eq_true rfl) dX10_number_26 (fun H locs hP hD hS => ?_)
    have hP : va_P (dC, dI) vwCl ([(o, .inr (13, [.int (nI 1), .ref (q 1), .ref (q 2), .ref (q 3), .ref (q 4), .int (nI 0), .int (-1), .ref (q 7), .ref (q 8), .ref (q 9), .ref (q 10), .ref (q 11), .ref (q 12), .int (nI 0), .int (nI 0), .ref (q 15), .ref (q 16), .ref (q 17), .ref (q 18), .ref (q 19), .int (nI 0), .int (nI 0), .int (nI 0), .ref (q 23), .ref (q 24), .int (nI 0), .ref (q 26), .ref (q 27), .int (nI 0)]))]) H := hP
    have hD : va_D A ([(o, .inr (13, [.int (nI 1), .ref (q 1), .ref (q 2), .ref (q 3), .ref (q 4), .int (nI 0), .int (-1), .ref (q 7), .ref (q 8), .ref (q 9), .ref (q 10), .ref (q 11), .ref (q 12), .int (nI 0), .int (nI 0), .ref (q 15), .ref (q 16), .ref (q 17), .ref (q 18), .ref (q 19), .int (nI 0), .int (nI 0), .int (nI 0), .ref (q 23), .ref (q 24), .int (nI 0), .ref (q 26), .ref (q 27), .int (nI 0)]))]) := hD
    refine lv_aload_n hx hb dX10_number_29 rfl (lv_at hl 0 rfl) ?_
    refine va_get (D := (dC, dI)) (ci := 13) (v := .int (nI 1)) (C := RX10) (T := TX10) (N := 29) hx hb hts bk0 hown hK hP 0 rfl rfl 0 (by decide) (hts (.fieldLink RX10 78 "GradientDeskModel" "thrown" "I") (List.mem_of_getElem? (i := 1) rfl)) (fun _ h9 => h9) rfl dX10_number_30 ?_
    refine lv_if_le (tgt := 38) hx hb dX10_number_33 (by decide) (fun c_2 => absurd c_2 (by decide)) (fun c_2 => ?_)
    refine lv_iconst (v := nI 0) hx hb dX10_number_36 (by decide +kernel) ?_
    have hP9 := hP.sub (ws' := [(o, .inr (13, [.int (nI 1), .ref (q 1), .ref (q 2), .ref (q 3), .ref (q 4), .int (nI 0), .int (-1), .ref (q 7), .ref (q 8), .ref (q 9), .ref (q 10), .ref (q 11), .ref (q 12), .int (nI 0), .int (nI 0), .ref (q 15), .ref (q 16), .ref (q 17), .ref (q 18), .ref (q 19), .int (nI 0), .int (nI 0), .int (nI 0), .ref (q 23), .ref (q 24), .int (nI 0), .ref (q 26), .ref (q 27), .int (nI 0)]))]) [0] rfl
    have hD9 := hD.sub (ws' := [(o, .inr (13, [.int (nI 1), .ref (q 1), .ref (q 2), .ref (q 3), .ref (q 4), .int (nI 0), .int (-1), .ref (q 7), .ref (q 8), .ref (q 9), .ref (q 10), .ref (q 11), .ref (q 12), .int (nI 0), .int (nI 0), .ref (q 15), .ref (q 16), .ref (q 17), .ref (q 18), .ref (q 19), .int (nI 0), .int (nI 0), .int (nI 0), .ref (q 23), .ref (q 24), .int (nI 0), .ref (q 26), .ref (q 27), .int (nI 0)]))]) [0] (by decide) rfl
    have hK9 := hK.sub (tys' := []) [] rfl
    refine W.widen (k := 0) (n := 0) (by omega) (by omega) ?_
    exact W.zret (v := nI 0) hx hb hr (by decide +kernel) (fun t ht hW => ⟨⟨nI 0, [.int (nI 1), .ref (q 1), .ref (q 2), .ref (q 3), .ref (q 4), .int (nI 0), .int (-1), .ref (q 7), .ref (q 8), .ref (q 9), .ref (q 10), .ref (q 11), .ref (q 12), .int (nI 0), .int (nI 0), .ref (q 15), .ref (q 16), .ref (q 17), .ref (q 18), .ref (q 19), .int (nI 0), .int (nI 0), .int (nI 0), .ref (q 23), .ref (q 24), .int (nI 0), .ref (q 26), .ref (q 27), .int (nI 0)], rfl, rfl, by rw [ht]; exact hP9, va_K.moved hW.alike hK9, hD9⟩, hS.F ht⟩) hS.2.2 dX10_number_37
  · have c_1 := mt (k_lt x (nI 0)).mpr c_1
    rw [show (nI 0).toInt = 0 from by decide] at c_1
    refine lv_iload_n hx hb dX10_number_5 rfl (lv_at hl 1 rfl) ?_
    refine lv_aload_n hx hb dX10_number_6 rfl (lv_at hl 0 rfl) ?_
    refine va_get (D := (dC, dI)) (ci := 13) (v := .int (nI 0)) (C := RX10) (T := TX10) (N := 29) hx hb hts bk0 hown hK hP 0 rfl rfl 13 (by decide) (hts (.fieldLink RX10 149 "GradientDeskModel" "made" "I") (List.mem_of_getElem? (i := 2) rfl)) (fun _ h9 => h9) rfl dX10_number_7 ?_
    refine lv_icmp_ge (tgt := 21) hx hb dX10_number_10 (by decide) (fun c_3 => ?_) (fun c_3 => ?_)
    · have c_3 := (k_le (nI 0) x).mp c_3
      rw [show (nI 0).toInt = 0 from by decide] at c_3
      refine lv_iconst (v := nI 1) hx hb dX10_number_21 (by decide +kernel) ?_
      refine lv_goto (tgt := 26) hx hb dX10_number_22 (by decide) ?_
      refine va_put (D := (dC, dI)) (ci := 13) (v := .int (nI 1)) (ty := .int) (C := RX10) (T := TX10) (N := 29) hx hb hts bk0 tyX10 tyX10_ok nmX10 hown hK hP hD hS 0 rfl rfl 0 (by decide) (hts (.fieldLink RX10 78 "GradientDeskModel" "thrown" "I") (List.mem_of_getElem? (i := 1) rfl)) (fun _ h9 => h9) rfl (by decide +kernel) rfl rfl (Nat.le_of_ble_eq_true rfl) dX10_number_26 (fun H locs hP hD hS => ?_)
      have hP : va_P (dC, dI) vwCl ([(o, .inr (13, [.int (nI 1), .ref (q 1), .ref (q 2), .ref (q 3), .ref (q 4), .int (nI 0), .int (-1), .ref (q 7), .ref (q 8), .ref (q 9), .ref (q 10), .ref (q 11), .ref (q 12), .int (nI 0), .int (nI 0), .ref (q 15), .ref (q 16), .ref (q 17), .ref (q 18), .ref (q 19), .int (nI 0), .int (nI 0), .int (nI 0), .ref (q 23), .ref (q 24), .int (nI 0), .ref (q 26), .ref (q 27), .int (nI 0)]))]) H := hP
      have hD : va_D A ([(o, .inr (13, [.int (nI 1), .ref (q 1), .ref (q 2), .ref (q 3), .ref (q 4), .int (nI 0), .int (-1), .ref (q 7), .ref (q 8), .ref (q 9), .ref (q 10), .ref (q 11), .ref (q 12), .int (nI 0), .int (nI 0), .ref (q 15), .ref (q 16), .ref (q 17), .ref (q 18), .ref (q 19), .int (nI 0), .int (nI 0), .int (nI 0), .ref (q 23), .ref (q 24), .int (nI 0), .ref (q 26), .ref (q 27), .int (nI 0)]))]) := hD
      refine lv_aload_n hx hb dX10_number_29 rfl (lv_at hl 0 rfl) ?_
      refine va_get (D := (dC, dI)) (ci := 13) (v := .int (nI 1)) (C := RX10) (T := TX10) (N := 29) hx hb hts bk0 hown hK hP 0 rfl rfl 0 (by decide) (hts (.fieldLink RX10 78 "GradientDeskModel" "thrown" "I") (List.mem_of_getElem? (i := 1) rfl)) (fun _ h9 => h9) rfl dX10_number_30 ?_
      refine lv_if_le (tgt := 38) hx hb dX10_number_33 (by decide) (fun c_4 => absurd c_4 (by decide)) (fun c_4 => ?_)
      refine lv_iconst (v := nI 0) hx hb dX10_number_36 (by decide +kernel) ?_
      have hP9 := hP.sub (ws' := [(o, .inr (13, [.int (nI 1), .ref (q 1), .ref (q 2), .ref (q 3), .ref (q 4), .int (nI 0), .int (-1), .ref (q 7), .ref (q 8), .ref (q 9), .ref (q 10), .ref (q 11), .ref (q 12), .int (nI 0), .int (nI 0), .ref (q 15), .ref (q 16), .ref (q 17), .ref (q 18), .ref (q 19), .int (nI 0), .int (nI 0), .int (nI 0), .ref (q 23), .ref (q 24), .int (nI 0), .ref (q 26), .ref (q 27), .int (nI 0)]))]) [0] rfl
      have hD9 := hD.sub (ws' := [(o, .inr (13, [.int (nI 1), .ref (q 1), .ref (q 2), .ref (q 3), .ref (q 4), .int (nI 0), .int (-1), .ref (q 7), .ref (q 8), .ref (q 9), .ref (q 10), .ref (q 11), .ref (q 12), .int (nI 0), .int (nI 0), .ref (q 15), .ref (q 16), .ref (q 17), .ref (q 18), .ref (q 19), .int (nI 0), .int (nI 0), .int (nI 0), .ref (q 23), .ref (q 24), .int (nI 0), .ref (q 26), .ref (q 27), .int (nI 0)]))]) [0] (by decide) rfl
      have hK9 := hK.sub (tys' := []) [] rfl
      refine W.widen (k := 0) (n := 0) (by omega) (by omega) ?_
      exact W.zret (v := nI 0) hx hb hr (by decide +kernel) (fun t ht hW => ⟨⟨nI 0, [.int (nI 1), .ref (q 1), .ref (q 2), .ref (q 3), .ref (q 4), .int (nI 0), .int (-1), .ref (q 7), .ref (q 8), .ref (q 9), .ref (q 10), .ref (q 11), .ref (q 12), .int (nI 0), .int (nI 0), .ref (q 15), .ref (q 16), .ref (q 17), .ref (q 18), .ref (q 19), .int (nI 0), .int (nI 0), .int (nI 0), .ref (q 23), .ref (q 24), .int (nI 0), .ref (q 26), .ref (q 27), .int (nI 0)], rfl, rfl, by rw [ht]; exact hP9, va_K.moved hW.alike hK9, hD9⟩, hS.F ht⟩) hS.2.2 dX10_number_37
    · have c_3 := mt (k_le (nI 0) x).mpr c_3
      rw [show (nI 0).toInt = 0 from by decide] at c_3
      exfalso; omega
def wd_X10_written : List Cond := .code yX10_written cX10_written 2 (some .int) :: (([.fieldLink RX10 78 "GradientDeskModel" "thrown" "I", .fieldLink RX10 293 "GradientDeskModel" "written" "I"] : List Cond) ++ (u_ws RX10 TX10 29 ++ ([])))
theorem gw_X10_written : wd_X10_written.all goodWord = true := k_allc rfl (k_all (by decide +kernel) (k_all (gu_X10) (rfl)))
abbrev at_X10_written (dC : Nat → ClassId) (dI : Nat → Nat → Nat) (A : Nat → Prop) (o : Nat) (q : Nat → Nat) (k : Nat → ClassId) (pn : Nat → Nat) (ln : Nat → Nat) (bn : Nat → Nat) (x : Int32) (u : List Value) (t : State) : Prop := match u with
  | fs2 => va_P (dC, dI) vwCl [(o, .inr (13, fs2))] t.heap ∧ va_K (dC, dI) vwCl [] t ∧ va_D A [(o, .inr (13, fs2))]
set_option maxHeartbeats 4000000 in
set_option maxRecDepth 100000 in
theorem c_X10_written (l : Launch) (dC : Nat → ClassId) (dI : Nat → Nat → Nat) (A : Nat → Prop) (sz : Nat) (hA0 : ∀ q, sz ≤ q → A q) (o : Nat) (q : Nat → Nat) (k : Nat → ClassId) (pn : Nat → Nat) (ln : Nat → Nat) (bn : Nat → Nat) (x : Int32) (hpn : ∀ j, pn j < 4294967296) (hln : ∀ j, ln j < 81) (hbn : ∀ j, bn j < 2) (hL : ∀ j, ln j = if j % 2 = 1 ∧ j < 2068 then 1 else 0) (hPp : ∀ j, j % 2 = 1 → j < 2068 → pn (80 * j) = 1) (hB : ∀ j, bn j = 0) : Met l yX10_written wd_X10_written ({ frames := 10, cells := 0, slots := 0, locals := 200 }) (va_Pc [.ref o, .int x] (fun U => U.heap.size = sz ∧ va_P (dC, dI) vwCl [(o, .inr (13, [.int (nI 0), .ref (q 1), .ref (q 2), .ref (q 3), .ref (q 4), .int (nI 0), .int (-1), .ref (q 7), .ref (q 8), .ref (q 9), .ref (q 10), .ref (q 11), .ref (q 12), .int (nI 0), .int (nI 0), .ref (q 15), .ref (q 16), .ref (q 17), .ref (q 18), .ref (q 19), .int (nI 0), .int (nI 0), .int (nI 0), .ref (q 23), .ref (q 24), .int (nI 0), .ref (q 26), .ref (q 27), .int (nI 0)]))] U.heap ∧ va_K (dC, dI) vwCl [] U ∧ va_D A [(o, .inr (13, [.int (nI 0), .ref (q 1), .ref (q 2), .ref (q 3), .ref (q 4), .int (nI 0), .int (-1), .ref (q 7), .ref (q 8), .ref (q 9), .ref (q 10), .ref (q 11), .ref (q 12), .int (nI 0), .int (nI 0), .ref (q 15), .ref (q 16), .ref (q 17), .ref (q 18), .ref (q 19), .int (nI 0), .int (nI 0), .int (nI 0), .ref (q 23), .ref (q 24), .int (nI 0), .ref (q 26), .ref (q 27), .int (nI 0)]))])) (va_Qi (fun (r : Int32) => fun (u : List Value) => match u with | fs2 => fs2[0]? = some (.int (nI 1))) (at_X10_written dC dI A o q k pn ln bn x) A) (0) (0) A := by
  refine Met.ofW (cc := cX10_written) (maxL := 2) (ret := (some .int)) (by decide) rfl ?_
  intro p e s m args below meth c s₁ B hml hv
  obtain ⟨rfl, hsz, hP, hK, hD⟩ := hv
  have hx := B.exec
  have hb := B.bytes
  have hr := B.returns
  have hts := atoms_spec (ws := wd_X10_written) B.pre
  have hown : s.vm.findClass RX10 = some m.cls := findClass_of_methodNamed B.named
  have hlocks := B.notSynchronized
  have bk0 : ∀ w ∈ u_ws RX10 TX10 29, w ∈ wd_X10_written := fun _ h => List.mem_cons_of_mem _ (List.mem_append_right _ (List.mem_append_left _ h))
  subst hsz
  have hA : ∀ q : Nat, s.heap.size ≤ q → A q := hA0
  have hS : va_S A s.heap s.heap [] := va_S.rf
  have hl := lv_entry ([.ref o, .int x]) (n := 2) (Nat.le_of_ble_eq_true rfl)
  rw [lg_entry_eq]
  generalize (lg_sl ([.ref o, .int x]) ++ List.replicate (2 - (lg_sl ([.ref o, .int x])).length) Slot.unset).toArray = ls at hl ⊢
  have hl : lv_has ls 2 [(0, .ref o), (1, .int x)] := hl
  refine lv_aload_n hx hb dX10_written_0 rfl (lv_at hl 0 rfl) ?_
  refine lv_iload_n hx hb dX10_written_1 rfl (lv_at hl 1 rfl) ?_
  refine lv_if_lt (tgt := 13) hx hb dX10_written_2 (by decide) (fun c_1 => ?_) (fun c_1 => ?_)
  · have c_1 := (k_lt x (nI 0)).mp c_1
    rw [show (nI 0).toInt = 0 from by decide] at c_1
    refine lv_iconst (v := nI 1) hx hb dX10_written_13 (by decide +kernel) ?_
    refine lv_goto (tgt := 18) hx hb dX10_written_14 (by decide) ?_
    refine va_put (D := (dC, dI)) (ci := 13) (v := .int (nI 1)) (ty := .int) (C := RX10) (T := TX10) (N := 29) hx hb hts bk0 tyX10 tyX10_ok nmX10 hown hK hP hD hS 0 rfl rfl 0 (by decide) (hts (.fieldLink RX10 78 "GradientDeskModel" "thrown" "I") (List.mem_of_getElem? (i := 1) rfl)) (fun _ h9 => h9) rfl (by decide +kernel) rfl rfl (Nat.le_of_ble_eq_true rfl) dX10_written_18 (fun H locs hP hD hS => ?_)
    have hP : va_P (dC, dI) vwCl ([(o, .inr (13, [.int (nI 1), .ref (q 1), .ref (q 2), .ref (q 3), .ref (q 4), .int (nI 0), .int (-1), .ref (q 7), .ref (q 8), .ref (q 9), .ref (q 10), .ref (q 11), .ref (q 12), .int (nI 0), .int (nI 0), .ref (q 15), .ref (q 16), .ref (q 17), .ref (q 18), .ref (q 19), .int (nI 0), .int (nI 0), .int (nI 0), .ref (q 23), .ref (q 24), .int (nI 0), .ref (q 26), .ref (q 27), .int (nI 0)]))]) H := hP
    have hD : va_D A ([(o, .inr (13, [.int (nI 1), .ref (q 1), .ref (q 2), .ref (q 3), .ref (q 4), .int (nI 0), .int (-1), .ref (q 7), .ref (q 8), .ref (q 9), .ref (q 10), .ref (q 11), .ref (q 12), .int (nI 0), .int (nI 0), .ref (q 15), .ref (q 16), .ref (q 17), .ref (q 18), .ref (q 19), .int (nI 0), .int (nI 0), .int (nI 0), .ref (q 23), .ref (q 24), .int (nI 0), .ref (q 26), .ref (q 27), .int (nI 0)]))]) := hD
    refine lv_aload_n hx hb dX10_written_21 rfl (lv_at hl 0 rfl) ?_
    refine va_get (D := (dC, dI)) (ci := 13) (v := .int (nI 1)) (C := RX10) (T := TX10) (N := 29) hx hb hts bk0 hown hK hP 0 rfl rfl 0 (by decide) (hts (.fieldLink RX10 78 "GradientDeskModel" "thrown" "I") (List.mem_of_getElem? (i := 1) rfl)) (fun _ h9 => h9) rfl dX10_written_22 ?_
    refine lv_if_le (tgt := 32) hx hb dX10_written_25 (by decide) (fun c_2 => absurd c_2 (by decide)) (fun c_2 => ?_)
    refine lv_iconst (v := nI 0) hx hb dX10_written_28 (by decide +kernel) ?_
    refine lv_goto (tgt := 38) hx hb dX10_written_29 (by decide) ?_
    have hP9 := hP.sub (ws' := [(o, .inr (13, [.int (nI 1), .ref (q 1), .ref (q 2), .ref (q 3), .ref (q 4), .int (nI 0), .int (-1), .ref (q 7), .ref (q 8), .ref (q 9), .ref (q 10), .ref (q 11), .ref (q 12), .int (nI 0), .int (nI 0), .ref (q 15), .ref (q 16), .ref (q 17), .ref (q 18), .ref (q 19), .int (nI 0), .int (nI 0), .int (nI 0), .ref (q 23), .ref (q 24), .int (nI 0), .ref (q 26), .ref (q 27), .int (nI 0)]))]) [0] rfl
    have hD9 := hD.sub (ws' := [(o, .inr (13, [.int (nI 1), .ref (q 1), .ref (q 2), .ref (q 3), .ref (q 4), .int (nI 0), .int (-1), .ref (q 7), .ref (q 8), .ref (q 9), .ref (q 10), .ref (q 11), .ref (q 12), .int (nI 0), .int (nI 0), .ref (q 15), .ref (q 16), .ref (q 17), .ref (q 18), .ref (q 19), .int (nI 0), .int (nI 0), .int (nI 0), .ref (q 23), .ref (q 24), .int (nI 0), .ref (q 26), .ref (q 27), .int (nI 0)]))]) [0] (by decide) rfl
    have hK9 := hK.sub (tys' := []) [] rfl
    refine W.widen (k := 0) (n := 0) (by omega) (by omega) ?_
    exact W.iret (v := nI 0) hx hb hr (fun t ht hW => ⟨⟨nI 0, [.int (nI 1), .ref (q 1), .ref (q 2), .ref (q 3), .ref (q 4), .int (nI 0), .int (-1), .ref (q 7), .ref (q 8), .ref (q 9), .ref (q 10), .ref (q 11), .ref (q 12), .int (nI 0), .int (nI 0), .ref (q 15), .ref (q 16), .ref (q 17), .ref (q 18), .ref (q 19), .int (nI 0), .int (nI 0), .int (nI 0), .ref (q 23), .ref (q 24), .int (nI 0), .ref (q 26), .ref (q 27), .int (nI 0)], rfl, rfl, by rw [ht]; exact hP9, va_K.moved hW.alike hK9, hD9⟩, hS.F ht⟩) hS.2.2 dX10_written_38
  · have c_1 := mt (k_lt x (nI 0)).mpr c_1
    rw [show (nI 0).toInt = 0 from by decide] at c_1
    refine lv_iload_n hx hb dX10_written_5 rfl (lv_at hl 1 rfl) ?_
    refine lv_aload_n hx hb dX10_written_6 rfl (lv_at hl 0 rfl) ?_
    refine va_get (D := (dC, dI)) (ci := 13) (v := .int (nI 0)) (C := RX10) (T := TX10) (N := 29) hx hb hts bk0 hown hK hP 0 rfl rfl 25 (by decide) (hts (.fieldLink RX10 293 "GradientDeskModel" "written" "I") (List.mem_of_getElem? (i := 2) rfl)) (fun _ h9 => h9) rfl dX10_written_7 ?_
    refine lv_icmp_lt (tgt := 17) hx hb dX10_written_10 (by decide) (fun c_3 => ?_) (fun c_3 => ?_)
    · have c_3 := (k_lt x (nI 0)).mp c_3
      rw [show (nI 0).toInt = 0 from by decide] at c_3
      exfalso; omega
    · have c_3 := mt (k_lt x (nI 0)).mpr c_3
      rw [show (nI 0).toInt = 0 from by decide] at c_3
      refine lv_iconst (v := nI 1) hx hb dX10_written_13 (by decide +kernel) ?_
      refine lv_goto (tgt := 18) hx hb dX10_written_14 (by decide) ?_
      refine va_put (D := (dC, dI)) (ci := 13) (v := .int (nI 1)) (ty := .int) (C := RX10) (T := TX10) (N := 29) hx hb hts bk0 tyX10 tyX10_ok nmX10 hown hK hP hD hS 0 rfl rfl 0 (by decide) (hts (.fieldLink RX10 78 "GradientDeskModel" "thrown" "I") (List.mem_of_getElem? (i := 1) rfl)) (fun _ h9 => h9) rfl (by decide +kernel) rfl rfl (Nat.le_of_ble_eq_true rfl) dX10_written_18 (fun H locs hP hD hS => ?_)
      have hP : va_P (dC, dI) vwCl ([(o, .inr (13, [.int (nI 1), .ref (q 1), .ref (q 2), .ref (q 3), .ref (q 4), .int (nI 0), .int (-1), .ref (q 7), .ref (q 8), .ref (q 9), .ref (q 10), .ref (q 11), .ref (q 12), .int (nI 0), .int (nI 0), .ref (q 15), .ref (q 16), .ref (q 17), .ref (q 18), .ref (q 19), .int (nI 0), .int (nI 0), .int (nI 0), .ref (q 23), .ref (q 24), .int (nI 0), .ref (q 26), .ref (q 27), .int (nI 0)]))]) H := hP
      have hD : va_D A ([(o, .inr (13, [.int (nI 1), .ref (q 1), .ref (q 2), .ref (q 3), .ref (q 4), .int (nI 0), .int (-1), .ref (q 7), .ref (q 8), .ref (q 9), .ref (q 10), .ref (q 11), .ref (q 12), .int (nI 0), .int (nI 0), .ref (q 15), .ref (q 16), .ref (q 17), .ref (q 18), .ref (q 19), .int (nI 0), .int (nI 0), .int (nI 0), .ref (q 23), .ref (q 24), .int (nI 0), .ref (q 26), .ref (q 27), .int (nI 0)]))]) := hD
      refine lv_aload_n hx hb dX10_written_21 rfl (lv_at hl 0 rfl) ?_
      refine va_get (D := (dC, dI)) (ci := 13) (v := .int (nI 1)) (C := RX10) (T := TX10) (N := 29) hx hb hts bk0 hown hK hP 0 rfl rfl 0 (by decide) (hts (.fieldLink RX10 78 "GradientDeskModel" "thrown" "I") (List.mem_of_getElem? (i := 1) rfl)) (fun _ h9 => h9) rfl dX10_written_22 ?_
      refine lv_if_le (tgt := 32) hx hb dX10_written_25 (by decide) (fun c_4 => absurd c_4 (by decide)) (fun c_4 => ?_)
      refine lv_iconst (v := nI 0) hx hb dX10_written_28 (by decide +kernel) ?_
      refine lv_goto (tgt := 38) hx hb dX10_written_29 (by decide) ?_
      have hP9 := hP.sub (ws' := [(o, .inr (13, [.int (nI 1), .ref (q 1), .ref (q 2), .ref (q 3), .ref (q 4), .int (nI 0), .int (-1), .ref (q 7), .ref (q 8), .ref (q 9), .ref (q 10), .ref (q 11), .ref (q 12), .int (nI 0), .int (nI 0), .ref (q 15), .ref (q 16), .ref (q 17), .ref (q 18), .ref (q 19), .int (nI 0), .int (nI 0), .int (nI 0), .ref (q 23), .ref (q 24), .int (nI 0), .ref (q 26), .ref (q 27), .int (nI 0)]))]) [0] rfl
      have hD9 := hD.sub (ws' := [(o, .inr (13, [.int (nI 1), .ref (q 1), .ref (q 2), .ref (q 3), .ref (q 4), .int (nI 0), .int (-1), .ref (q 7), .ref (q 8), .ref (q 9), .ref (q 10), .ref (q 11), .ref (q 12), .int (nI 0), .int (nI 0), .ref (q 15), .ref (q 16), .ref (q 17), .ref (q 18), .ref (q 19), .int (nI 0), .int (nI 0), .int (nI 0), .ref (q 23), .ref (q 24), .int (nI 0), .ref (q 26), .ref (q 27), .int (nI 0)]))]) [0] (by decide) rfl
      have hK9 := hK.sub (tys' := []) [] rfl
      refine W.widen (k := 0) (n := 0) (by omega) (by omega) ?_
      exact W.iret (v := nI 0) hx hb hr (fun t ht hW => ⟨⟨nI 0, [.int (nI 1), .ref (q 1), .ref (q 2), .ref (q 3), .ref (q 4), .int (nI 0), .int (-1), .ref (q 7), .ref (q 8), .ref (q 9), .ref (q 10), .ref (q 11), .ref (q 12), .int (nI 0), .int (nI 0), .ref (q 15), .ref (q 16), .ref (q 17), .ref (q 18), .ref (q 19), .int (nI 0), .int (nI 0), .int (nI 0), .ref (q 23), .ref (q 24), .int (nI 0), .ref (q 26), .ref (q 27), .int (nI 0)], rfl, rfl, by rw [ht]; exact hP9, va_K.moved hW.alike hK9, hD9⟩, hS.F ht⟩) hS.2.2 dX10_written_38
def wd_X10_isIn : List Cond := .code yX10_isInGrammar cX10_isInGrammar 5 (some .boolean) :: (([.fieldLink RX10 184 "GradientDeskModel" "at" "I", .fieldLink RX10 187 "GradientDeskModel" "typed" "I"] : List Cond) ++ (u_ws RX10 TX10 29 ++ ([])))
theorem gw_X10_isIn : wd_X10_isIn.all goodWord = true := k_allc rfl (k_all (by decide +kernel) (k_all (gu_X10) (rfl)))
abbrev at_X10_isIn (dC : Nat → ClassId) (dI : Nat → Nat → Nat) (A : Nat → Prop) (o : Nat) (q : Nat → Nat) (k : Nat → ClassId) (pn : Nat → Nat) (ln : Nat → Nat) (bn : Nat → Nat) (u : Unit) (t : State) : Prop := match u with
  | () => va_P (dC, dI) vwCl [(o, .inr (13, [.int (nI 0), .ref (q 1), .ref (q 2), .ref (q 3), .ref (q 4), .int (nI 0), .int (-1), .ref (q 7), .ref (q 8), .ref (q 9), .ref (q 10), .ref (q 11), .ref (q 12), .int (nI 0), .int (nI 0), .ref (q 15), .ref (q 16), .ref (q 17), .ref (q 18), .ref (q 19), .int (nI 0), .int (nI 0), .int (nI 0), .ref (q 23), .ref (q 24), .int (nI 0), .ref (q 26), .ref (q 27), .int (nI 0)]))] t.heap ∧ va_K (dC, dI) vwCl [] t ∧ va_D A [(o, .inr (13, [.int (nI 0), .ref (q 1), .ref (q 2), .ref (q 3), .ref (q 4), .int (nI 0), .int (-1), .ref (q 7), .ref (q 8), .ref (q 9), .ref (q 10), .ref (q 11), .ref (q 12), .int (nI 0), .int (nI 0), .ref (q 15), .ref (q 16), .ref (q 17), .ref (q 18), .ref (q 19), .int (nI 0), .int (nI 0), .int (nI 0), .ref (q 23), .ref (q 24), .int (nI 0), .ref (q 26), .ref (q 27), .int (nI 0)]))]
set_option maxHeartbeats 4000000 in
set_option maxRecDepth 100000 in
theorem c_X10_isIn (l : Launch) (dC : Nat → ClassId) (dI : Nat → Nat → Nat) (A : Nat → Prop) (sz : Nat) (hA0 : ∀ q, sz ≤ q → A q) (o : Nat) (q : Nat → Nat) (k : Nat → ClassId) (pn : Nat → Nat) (ln : Nat → Nat) (bn : Nat → Nat) (hpn : ∀ j, pn j < 4294967296) (hln : ∀ j, ln j < 81) (hbn : ∀ j, bn j < 2) (hL : ∀ j, ln j = if j % 2 = 1 ∧ j < 2068 then 1 else 0) (hPp : ∀ j, j % 2 = 1 → j < 2068 → pn (80 * j) = 1) (hB : ∀ j, bn j = 0) : Met l yX10_isInGrammar wd_X10_isIn ({ frames := 10, cells := 0, slots := 0, locals := 200 }) (va_Pc [.ref o] (fun U => U.heap.size = sz ∧ va_P (dC, dI) vwCl [(o, .inr (13, [.int (nI 0), .ref (q 1), .ref (q 2), .ref (q 3), .ref (q 4), .int (nI 0), .int (-1), .ref (q 7), .ref (q 8), .ref (q 9), .ref (q 10), .ref (q 11), .ref (q 12), .int (nI 0), .int (nI 0), .ref (q 15), .ref (q 16), .ref (q 17), .ref (q 18), .ref (q 19), .int (nI 0), .int (nI 0), .int (nI 0), .ref (q 23), .ref (q 24), .int (nI 0), .ref (q 26), .ref (q 27), .int (nI 0)]))] U.heap ∧ va_K (dC, dI) vwCl [] U ∧ va_D A [(o, .inr (13, [.int (nI 0), .ref (q 1), .ref (q 2), .ref (q 3), .ref (q 4), .int (nI 0), .int (-1), .ref (q 7), .ref (q 8), .ref (q 9), .ref (q 10), .ref (q 11), .ref (q 12), .int (nI 0), .int (nI 0), .ref (q 15), .ref (q 16), .ref (q 17), .ref (q 18), .ref (q 19), .int (nI 0), .int (nI 0), .int (nI 0), .ref (q 23), .ref (q 24), .int (nI 0), .ref (q 26), .ref (q 27), .int (nI 0)]))])) (va_Qi (fun (r : Int32) => fun (u : Unit) => match u with | () => r = nI 0) (at_X10_isIn dC dI A o q k pn ln bn) A) (0) (0) A := by
  refine Met.ofW (cc := cX10_isInGrammar) (maxL := 5) (ret := (some .boolean)) (by decide) rfl ?_
  intro p e s m args below meth c s₁ B hml hv
  obtain ⟨rfl, hsz, hP, hK, hD⟩ := hv
  have hx := B.exec
  have hb := B.bytes
  have hr := B.returns
  have hts := atoms_spec (ws := wd_X10_isIn) B.pre
  have hown : s.vm.findClass RX10 = some m.cls := findClass_of_methodNamed B.named
  have hlocks := B.notSynchronized
  have bk0 : ∀ w ∈ u_ws RX10 TX10 29, w ∈ wd_X10_isIn := fun _ h => List.mem_cons_of_mem _ (List.mem_append_right _ (List.mem_append_left _ h))
  subst hsz
  have hA : ∀ q : Nat, s.heap.size ≤ q → A q := hA0
  have hS : va_S A s.heap s.heap [] := va_S.rf
  have hl := lv_entry ([.ref o]) (n := 5) (Nat.le_of_ble_eq_true rfl)
  rw [lg_entry_eq]
  generalize (lg_sl ([.ref o]) ++ List.replicate (5 - (lg_sl ([.ref o])).length) Slot.unset).toArray = ls at hl ⊢
  have hl : lv_has ls 5 [(0, .ref o)] := hl
  refine lv_aload_n hx hb dX10_isInGrammar_0 rfl (lv_at hl 0 rfl) ?_
  refine lv_iconst (v := nI 0) hx hb dX10_isInGrammar_1 (by decide +kernel) ?_
  refine va_put (D := (dC, dI)) (ci := 13) (v := .int (nI 0)) (ty := .int) (C := RX10) (T := TX10) (N := 29) hx hb hts bk0 tyX10 tyX10_ok nmX10 hown hK hP hD hS 0 rfl rfl 22 (by decide) (hts (.fieldLink RX10 184 "GradientDeskModel" "at" "I") (List.mem_of_getElem? (i := 1) rfl)) (fun _ h9 => h9) rfl (by decide +kernel) rfl rfl (Nat.le_of_ble_eq_true rfl) dX10_isInGrammar_2 (fun H locs hP hD hS => ?_)
  have hP : va_P (dC, dI) vwCl ([(o, .inr (13, [.int (nI 0), .ref (q 1), .ref (q 2), .ref (q 3), .ref (q 4), .int (nI 0), .int (-1), .ref (q 7), .ref (q 8), .ref (q 9), .ref (q 10), .ref (q 11), .ref (q 12), .int (nI 0), .int (nI 0), .ref (q 15), .ref (q 16), .ref (q 17), .ref (q 18), .ref (q 19), .int (nI 0), .int (nI 0), .int (nI 0), .ref (q 23), .ref (q 24), .int (nI 0), .ref (q 26), .ref (q 27), .int (nI 0)]))]) H := hP
  have hD : va_D A ([(o, .inr (13, [.int (nI 0), .ref (q 1), .ref (q 2), .ref (q 3), .ref (q 4), .int (nI 0), .int (-1), .ref (q 7), .ref (q 8), .ref (q 9), .ref (q 10), .ref (q 11), .ref (q 12), .int (nI 0), .int (nI 0), .ref (q 15), .ref (q 16), .ref (q 17), .ref (q 18), .ref (q 19), .int (nI 0), .int (nI 0), .int (nI 0), .ref (q 23), .ref (q 24), .int (nI 0), .ref (q 26), .ref (q 27), .int (nI 0)]))]) := hD
  refine lv_iconst (v := nI 0) hx hb dX10_isInGrammar_5 (by decide +kernel) ?_
  refine lv_istore_n (lv' := [(1, .int (nI 0)), (0, .ref o)]) hx hb dX10_isInGrammar_6 rfl hl (by decide) rfl (fun ls hl => ?_)
  refine lv_iconst (v := nI 1) hx hb dX10_isInGrammar_7 (by decide +kernel) ?_
  refine lv_istore_n (lv' := [(2, .int (nI 1)), (1, .int (nI 0)), (0, .ref o)]) hx hb dX10_isInGrammar_8 rfl hl (by decide) rfl (fun ls hl => ?_)
  refine lv_iconst (v := nI 0) hx hb dX10_isInGrammar_9 (by decide +kernel) ?_
  refine lv_istore_n (lv' := [(3, .int (nI 0)), (2, .int (nI 1)), (1, .int (nI 0)), (0, .ref o)]) hx hb dX10_isInGrammar_10 rfl hl (by decide) rfl (fun ls hl => ?_)
  refine lv_aload_n hx hb dX10_isInGrammar_11 rfl (lv_at hl 3 rfl) ?_
  refine va_get (D := (dC, dI)) (ci := 13) (v := .int (nI 0)) (C := RX10) (T := TX10) (N := 29) hx hb hts bk0 hown hK hP 0 rfl rfl 22 (by decide) (hts (.fieldLink RX10 184 "GradientDeskModel" "at" "I") (List.mem_of_getElem? (i := 1) rfl)) (fun _ h9 => h9) rfl dX10_isInGrammar_12 ?_
  refine lv_aload_n hx hb dX10_isInGrammar_15 rfl (lv_at hl 3 rfl) ?_
  refine va_get (D := (dC, dI)) (ci := 13) (v := .int (nI 0)) (C := RX10) (T := TX10) (N := 29) hx hb hts bk0 hown hK hP 0 rfl rfl 5 (by decide) (hts (.fieldLink RX10 187 "GradientDeskModel" "typed" "I") (List.mem_of_getElem? (i := 2) rfl)) (fun _ h9 => h9) rfl dX10_isInGrammar_16 ?_
  refine lv_icmp_ge (tgt := 217) hx hb dX10_isInGrammar_19 (by decide) (fun c_1 => ?_) (fun c_1 => absurd c_1 (by decide))
  refine lv_iload_n hx hb dX10_isInGrammar_217 rfl (lv_at hl 1 rfl) ?_
  refine lv_if_ne (tgt := 229) hx hb dX10_isInGrammar_218 (by decide) (fun c_2 => ?_) (fun c_2 => absurd c_2 (by decide))
  refine lv_iconst (v := nI 0) hx hb dX10_isInGrammar_229 (by decide +kernel) ?_
  have hP9 := hP.sub (ws' := [(o, .inr (13, [.int (nI 0), .ref (q 1), .ref (q 2), .ref (q 3), .ref (q 4), .int (nI 0), .int (-1), .ref (q 7), .ref (q 8), .ref (q 9), .ref (q 10), .ref (q 11), .ref (q 12), .int (nI 0), .int (nI 0), .ref (q 15), .ref (q 16), .ref (q 17), .ref (q 18), .ref (q 19), .int (nI 0), .int (nI 0), .int (nI 0), .ref (q 23), .ref (q 24), .int (nI 0), .ref (q 26), .ref (q 27), .int (nI 0)]))]) [0] rfl
  have hD9 := hD.sub (ws' := [(o, .inr (13, [.int (nI 0), .ref (q 1), .ref (q 2), .ref (q 3), .ref (q 4), .int (nI 0), .int (-1), .ref (q 7), .ref (q 8), .ref (q 9), .ref (q 10), .ref (q 11), .ref (q 12), .int (nI 0), .int (nI 0), .ref (q 15), .ref (q 16), .ref (q 17), .ref (q 18), .ref (q 19), .int (nI 0), .int (nI 0), .int (nI 0), .ref (q 23), .ref (q 24), .int (nI 0), .ref (q 26), .ref (q 27), .int (nI 0)]))]) [0] (by decide) rfl
  have hK9 := hK.sub (tys' := []) [] rfl
  refine W.widen (k := 0) (n := 0) (by omega) (by omega) ?_
  exact W.zret (v := nI 0) hx hb hr (by decide +kernel) (fun t ht hW => ⟨⟨nI 0, (), rfl, rfl, by rw [ht]; exact hP9, va_K.moved hW.alike hK9, hD9⟩, hS.F ht⟩) hS.2.2 dX10_isInGrammar_230
