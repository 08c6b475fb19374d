def wd_X7_find : List Cond := .code yX7_findWrongPlace cX7_findWrongPlace 2 (some .int) :: (([.fieldLink RX7 19 "GradientDesk$Text" "state" "I", .fieldLink RX7 22 "GradientDesk$Text" "open" "I", .fieldLink RX7 15 "GradientDesk$Text" "length" "I"] : List Cond) ++ (u_ws RX7 TX7 5 ++ ([])))
theorem gw_X7_find : wd_X7_find.all goodWord = true := k_allc rfl (k_all (by decide +kernel) (k_all (gu_X7) (rfl)))
abbrev at_X7_find (dC : Nat → ClassId) (dI : Nat → Nat → Nat) (A : Nat → Prop) (tx : Nat) (la : Nat) (u : Unit) (t : State) : Prop := match u with
  | () => va_P (dC, dI) vwCl [(tx, .inr (10, [.ref la, .int (nI 0), .int (nI 0), .int (nI 0), .int (nI 0)]))] t.heap ∧ va_K (dC, dI) vwCl [] t ∧ va_D A [(tx, .inr (10, [.ref la, .int (nI 0), .int (nI 0), .int (nI 0), .int (nI 0)]))]
set_option maxHeartbeats 4000000 in
set_option maxRecDepth 100000 in
theorem c_X7_find (l : Launch) (dC : Nat → ClassId) (dI : Nat → Nat → Nat) (A : Nat → Prop) (sz : Nat) (hA0 : ∀ q, sz ≤ q → A q) (tx : Nat) (la : Nat)  : Met l yX7_findWrongPlace wd_X7_find ({ frames := 10, cells := 0, slots := 0, locals := 200 }) (va_Pc [.ref tx] (fun U => U.heap.size = sz ∧ va_P (dC, dI) vwCl [(tx, .inr (10, [.ref la, .int (nI 0), .int (nI 0), .int (nI 0), .int (nI 0)]))] U.heap ∧ va_K (dC, dI) vwCl [] U ∧ va_D A [(tx, .inr (10, [.ref la, .int (nI 0), .int (nI 0), .int (nI 0), .int (nI 0)]))])) (va_Qi (fun (r : Int32) => fun (u : Unit) => match u with | () => r = nI 0) (at_X7_find dC dI A tx la) A) (0) (0) A := by
  refine Met.ofW (cc := cX7_findWrongPlace) (maxL := 2) (ret := (some .int)) (by decide) rfl ?_
  intro p e s m args below meth c s₁ B hml hv
  obtain ⟨rfl, hsz, hP, hK, hD⟩ := hv
  have hx := B.exec
  have hb := B.bytes
  have hr := B.returns
  have hts := atoms_spec (ws := wd_X7_find) B.pre
  have hown : s.vm.findClass RX7 = some m.cls := findClass_of_methodNamed B.named
  have hlocks := B.notSynchronized
  have bk0 : ∀ w ∈ u_ws RX7 TX7 5, w ∈ wd_X7_find := fun _ h => List.mem_cons_of_mem _ (List.mem_append_right _ (List.mem_append_left _ h))
  subst hsz
  have hA : ∀ q : Nat, s.heap.size ≤ q → A q := hA0
  have hS : va_S A s.heap s.heap [] := va_S.rf
  have hl := lv_entry ([.ref tx]) (n := 2) (Nat.le_of_ble_eq_true rfl)
  rw [lg_entry_eq]
  generalize (lg_sl ([.ref tx]) ++ List.replicate (2 - (lg_sl ([.ref tx])).length) Slot.unset).toArray = ls at hl ⊢
  have hl : lv_has ls 2 [(0, .ref tx)] := hl
  refine lv_aload_n hx hb dX7_findWrongPlace_0 rfl (lv_at hl 0 rfl) ?_
  refine lv_iconst (v := nI 0) hx hb dX7_findWrongPlace_1 (by decide +kernel) ?_
  refine va_put (D := (dC, dI)) (ci := 10) (v := .int (nI 0)) (ty := .int) (C := RX7) (T := TX7) (N := 5) hx hb hts bk0 tyX7 tyX7_ok nmX7 hown hK hP hD hS 0 rfl rfl 2 (by decide) (hts (.fieldLink RX7 19 "GradientDesk$Text" "state" "I") (List.mem_of_getElem? (i := 1) rfl)) (fun _ h9 => h9) rfl (by decide +kernel) rfl rfl (Nat.le_of_ble_eq_true rfl) dX7_findWrongPlace_2 (fun H locs hP hD hS => ?_)
  have hP : va_P (dC, dI) vwCl ([(tx, .inr (10, [.ref la, .int (nI 0), .int (nI 0), .int (nI 0), .int (nI 0)]))]) H := hP
  have hD : va_D A ([(tx, .inr (10, [.ref la, .int (nI 0), .int (nI 0), .int (nI 0), .int (nI 0)]))]) := hD
  refine lv_aload_n hx hb dX7_findWrongPlace_5 rfl (lv_at hl 0 rfl) ?_
  refine lv_iconst (v := nI 0) hx hb dX7_findWrongPlace_6 (by decide +kernel) ?_
  refine va_put (D := (dC, dI)) (ci := 10) (v := .int (nI 0)) (ty := .int) (C := RX7) (T := TX7) (N := 5) hx hb hts bk0 tyX7 tyX7_ok nmX7 hown hK hP hD hS 0 rfl rfl 3 (by decide) (hts (.fieldLink RX7 22 "GradientDesk$Text" "open" "I") (List.mem_of_getElem? (i := 2) rfl)) (fun _ h9 => h9) rfl (by decide +kernel) rfl rfl (Nat.le_of_ble_eq_true rfl) dX7_findWrongPlace_7 (fun H locs hP hD hS => ?_)
  have hP : va_P (dC, dI) vwCl ([(tx, .inr (10, [.ref la, .int (nI 0), .int (nI 0), .int (nI 0), .int (nI 0)]))]) H := hP
  have hD : va_D A ([(tx, .inr (10, [.ref la, .int (nI 0), .int (nI 0), .int (nI 0), .int (nI 0)]))]) := hD
  refine lv_iconst (v := nI 0) hx hb dX7_findWrongPlace_10 (by decide +kernel) ?_
  refine lv_istore_n (lv' := [(1, .int (nI 0)), (0, .ref tx)]) hx hb dX7_findWrongPlace_11 rfl hl (by decide) rfl (fun ls hl => ?_)
  refine lv_iload_n hx hb dX7_findWrongPlace_12 rfl (lv_at hl 0 rfl) ?_
  refine lv_aload_n hx hb dX7_findWrongPlace_13 rfl (lv_at hl 1 rfl) ?_
  refine va_get (D := (dC, dI)) (ci := 10) (v := .int (nI 0)) (C := RX7) (T := TX7) (N := 5) hx hb hts bk0 hown hK hP 0 rfl rfl 1 (by decide) (hts (.fieldLink RX7 15 "GradientDesk$Text" "length" "I") (List.mem_of_getElem? (i := 3) rfl)) (fun _ h9 => h9) rfl dX7_findWrongPlace_14 ?_
  refine lv_icmp_ge (tgt := 41) hx hb dX7_findWrongPlace_17 (by decide) (fun c_1 => ?_) (fun c_1 => absurd c_1 (by decide))
  refine lv_aload_n hx hb dX7_findWrongPlace_41 rfl (lv_at hl 1 rfl) ?_
  refine va_get (D := (dC, dI)) (ci := 10) (v := .int (nI 0)) (C := RX7) (T := TX7) (N := 5) hx hb hts bk0 hown hK hP 0 rfl rfl 2 (by decide) (hts (.fieldLink RX7 19 "GradientDesk$Text" "state" "I") (List.mem_of_getElem? (i := 1) rfl)) (fun _ h9 => h9) rfl dX7_findWrongPlace_42 ?_
  refine lv_iconst (v := nI 1) hx hb dX7_findWrongPlace_45 (by decide +kernel) ?_
  refine lv_icmp_eq (tgt := 74) hx hb dX7_findWrongPlace_46 (by decide) (fun c_2 => absurd c_2 (by decide)) (fun c_2 => ?_)
  refine lv_aload_n hx hb dX7_findWrongPlace_49 rfl (lv_at hl 1 rfl) ?_
  refine va_get (D := (dC, dI)) (ci := 10) (v := .int (nI 0)) (C := RX7) (T := TX7) (N := 5) hx hb hts bk0 hown hK hP 0 rfl rfl 2 (by decide) (hts (.fieldLink RX7 19 "GradientDesk$Text" "state" "I") (List.mem_of_getElem? (i := 1) rfl)) (fun _ h9 => h9) rfl dX7_findWrongPlace_50 ?_
  refine lv_iconst (v := nI 3) hx hb dX7_findWrongPlace_53 (by decide +kernel) ?_
  refine lv_icmp_eq (tgt := 74) hx hb dX7_findWrongPlace_54 (by decide) (fun c_3 => absurd c_3 (by decide)) (fun c_3 => ?_)
  refine lv_aload_n hx hb dX7_findWrongPlace_57 rfl (lv_at hl 1 rfl) ?_
  refine va_get (D := (dC, dI)) (ci := 10) (v := .int (nI 0)) (C := RX7) (T := TX7) (N := 5) hx hb hts bk0 hown hK hP 0 rfl rfl 2 (by decide) (hts (.fieldLink RX7 19 "GradientDesk$Text" "state" "I") (List.mem_of_getElem? (i := 1) rfl)) (fun _ h9 => h9) rfl dX7_findWrongPlace_58 ?_
  refine lv_iconst (v := nI 4) hx hb dX7_findWrongPlace_61 (by decide +kernel) ?_
  refine lv_icmp_eq (tgt := 74) hx hb dX7_findWrongPlace_62 (by decide) (fun c_4 => absurd c_4 (by decide)) (fun c_4 => ?_)
  refine lv_aload_n hx hb dX7_findWrongPlace_65 rfl (lv_at hl 1 rfl) ?_
  refine va_get (D := (dC, dI)) (ci := 10) (v := .int (nI 0)) (C := RX7) (T := TX7) (N := 5) hx hb hts bk0 hown hK hP 0 rfl rfl 2 (by decide) (hts (.fieldLink RX7 19 "GradientDesk$Text" "state" "I") (List.mem_of_getElem? (i := 1) rfl)) (fun _ h9 => h9) rfl dX7_findWrongPlace_66 ?_
  refine lv_bipush (v := nI 6) hx hb dX7_findWrongPlace_69 (by decide +kernel) ?_
  refine lv_icmp_ne (tgt := 78) hx hb dX7_findWrongPlace_71 (by decide) (fun c_5 => ?_) (fun c_5 => absurd c_5 (by decide))
  refine lv_iconst (v := nI 0) hx hb dX7_findWrongPlace_78 (by decide +kernel) ?_
  refine lv_istore_n (lv' := [(1, .int (nI 0)), (0, .ref tx)]) hx hb dX7_findWrongPlace_79 rfl hl (by decide) rfl (fun ls hl => ?_)
  refine lv_iload_n hx hb dX7_findWrongPlace_80 rfl (lv_at hl 0 rfl) ?_
  refine lv_if_eq (tgt := 95) hx hb dX7_findWrongPlace_81 (by decide) (fun c_6 => ?_) (fun c_6 => absurd c_6 (by decide))
  refine lv_aload_n hx hb dX7_findWrongPlace_95 rfl (lv_at hl 1 rfl) ?_
  refine va_get (D := (dC, dI)) (ci := 10) (v := .int (nI 0)) (C := RX7) (T := TX7) (N := 5) hx hb hts bk0 hown hK hP 0 rfl rfl 1 (by decide) (hts (.fieldLink RX7 15 "GradientDesk$Text" "length" "I") (List.mem_of_getElem? (i := 3) rfl)) (fun _ h9 => h9) rfl dX7_findWrongPlace_96 ?_
  have hP9 := hP.sub (ws' := [(tx, .inr (10, [.ref la, .int (nI 0), .int (nI 0), .int (nI 0), .int (nI 0)]))]) [0] rfl
  have hD9 := hD.sub (ws' := [(tx, .inr (10, [.ref la, .int (nI 0), .int (nI 0), .int (nI 0), .int (nI 0)]))]) [0] (by decide) rfl
  have hK9 := hK.sub (tys' := []) [] rfl
  refine W.widen (k := 0) (n := 0) (by omega) (by omega) ?_
  exact W.iret (v := nI 0) hx hb hr (fun t ht hW => ⟨⟨nI 0, (), rfl, rfl, by rw [ht]; exact hP9, va_K.moved hW.alike hK9, hD9⟩, hS.F ht⟩) hS.2.2 dX7_findWrongPlace_99
def wd_X9_define : List Cond := .code yX9_define cX9_define 4 (some .int) :: (([.methodLink RX9 115 yX9_checkName, .static yX9_checkName, .initialized RX9, .fieldLink RX9 19 "GradientDesk" "text" "LGradientDesk$Text;", .methodLink RX9 118 yX7_findWrongPlace, .instanceMethod yX7_findWrongPlace, .selects RX7 yX7_findWrongPlace yX7_findWrongPlace, .initialized RX7, .fieldLink RX9 86 "GradientDesk" "wrongPlace" "I", .fieldLink RX9 28 "GradientDesk" "shelf" "LGradientDesk$Shelf;", .fieldLink RX9 122 "GradientDesk$Shelf" "count" "I", .fieldLink RX9 103 "GradientDesk$Text" "length" "I"] : List Cond) ++ (wd_X9_checkName ++ (u_ws RX9 TX9 12 ++ (wd_X7_find ++ (u_ws RX6 TX6 7 ++ (u_ws RX7 TX7 5 ++ ([])))))))
theorem gw_X9_define : wd_X9_define.all goodWord = true := k_allc rfl (k_all (by decide +kernel) (k_all (gw_X9_checkName) (k_all (gu_X9) (k_all (gw_X7_find) (k_all (gu_X6) (k_all (gu_X7) (rfl)))))))
abbrev at_X9_define (dC : Nat → ClassId) (dI : Nat → Nat → Nat) (A : Nat → Prop) (h0 : Nat) (q : Nat → Nat) (k : Nat → ClassId) (fr : Nat → Option Nat) (x : Int32) (u : Unit) (t : State) : Prop := match u with
  | () => va_P (dC, dI) vwCl [] t.heap ∧ va_K (dC, dI) vwCl [] t ∧ va_D A []
set_option maxHeartbeats 4000000 in
set_option maxRecDepth 100000 in
theorem c_X9_define (l : Launch) (hlt : l.stackTraces = false) (dC : Nat → ClassId) (dI : Nat → Nat → Nat) (A : Nat → Prop) (sz : Nat) (hA0 : ∀ q, sz ≤ q → A q) (h0 : Nat) (q : Nat → Nat) (k : Nat → ClassId) (fr : Nat → Option Nat) (x : Int32)  : vx_Met l yX9_define wd_X9_define ({ frames := 20, cells := 10, slots := 60, locals := 400 }) (va_Pc [.ref h0, .int x] (fun U => U.heap.size = sz ∧ va_P (dC, dI) vwCl [(h0, .inr (12, [.ref (q 0), .ref (q 9), .ref (q 11), .ref (q 17), .ref (q 18), .ref (q 19), .ref (q 26), .ref (q 27), .ref (q 32), .ref (q 33), .ref (q 34), .int (-1)])), (q 9, .inr (10, [.ref (q 10), .int (nI 0), .int (nI 0), .int (nI 0), .int (nI 0)])), (q 11, .inr (9, [.ref (q 12), .ref (q 13), .int (nI 0), .ref (q 14), .ref (q 0), .ref (q 15), .ref (q 16)]))] U.heap ∧ va_K (dC, dI) vwCl [] U ∧ va_D A [(h0, .inr (12, [.ref (q 0), .ref (q 9), .ref (q 11), .ref (q 17), .ref (q 18), .ref (q 19), .ref (q 26), .ref (q 27), .ref (q 32), .ref (q 33), .ref (q 34), .int (-1)])), (q 9, .inr (10, [.ref (q 10), .int (nI 0), .int (nI 0), .int (nI 0), .int (nI 0)])), (q 11, .inr (9, [.ref (q 12), .ref (q 13), .int (nI 0), .ref (q 14), .ref (q 0), .ref (q 15), .ref (q 16)]))] ∧ exF A U U.heap)) (va_Qi (fun (r : Int32) => fun (u : Unit) => match u with | () => r = -1 ∧ 0 ≤ x.toInt ∧ x.toInt ≤ 7) (at_X9_define dC dI A h0 q k fr x) A) (vx_X (fun _ : Unit => True) (fun E _ _ => E = "java/lang/IllegalArgumentException" ∧ ¬ (0 ≤ x.toInt ∧ x.toInt ≤ 7)) A) (10) (60) A := by
  refine vx_ofW (cc := cX9_define) (maxL := 4) (ret := (some .int)) (by decide) rfl ?_
  intro p e s m args below meth c s₁ B hml htb hv
  obtain ⟨rfl, hsz, hP, hK, hD, hE⟩ := hv
  have hx := B.exec
  have hb := B.bytes
  have hr := B.returns
  have hts := atoms_spec (ws := wd_X9_define) B.pre
  have hown : s.vm.findClass RX9 = some m.cls := findClass_of_methodNamed B.named
  have hlocks := B.notSynchronized
  have bk0 : ∀ w ∈ wd_X9_checkName, w ∈ wd_X9_define := fun _ h => List.mem_cons_of_mem _ (List.mem_append_right _ (List.mem_append_left _ h))
  have bk1 : ∀ w ∈ u_ws RX9 TX9 12, w ∈ wd_X9_define := fun _ h => List.mem_cons_of_mem _ (List.mem_append_right _ (List.mem_append_right _ (List.mem_append_left _ h)))
  have bk2 : ∀ w ∈ wd_X7_find, w ∈ wd_X9_define := fun _ h => List.mem_cons_of_mem _ (List.mem_append_right _ (List.mem_append_right _ (List.mem_append_right _ (List.mem_append_left _ h))))
  have bk3 : ∀ w ∈ u_ws RX6 TX6 7, w ∈ wd_X9_define := fun _ h => List.mem_cons_of_mem _ (List.mem_append_right _ (List.mem_append_right _ (List.mem_append_right _ (List.mem_append_right _ (List.mem_append_left _ h)))))
  have bk4 : ∀ w ∈ u_ws RX7 TX7 5, w ∈ wd_X9_define := fun _ h => List.mem_cons_of_mem _ (List.mem_append_right _ (List.mem_append_right _ (List.mem_append_right _ (List.mem_append_right _ (List.mem_append_right _ (List.mem_append_left _ h))))))
  subst hsz
  have hA : ∀ q : Nat, s.heap.size ≤ q → A q := hA0
  have hS : va_S A s.heap s.heap [] := va_S.rf
  have hl := lv_entry ([.ref h0, .int x]) (n := 4) (Nat.le_of_ble_eq_true rfl)
  rw [lg_entry_eq]
  generalize (lg_sl ([.ref h0, .int x]) ++ List.replicate (4 - (lg_sl ([.ref h0, .int x])).length) Slot.unset).toArray = ls at hl ⊢
  have hl : lv_has ls 4 [(0, .ref h0), (1, .int x)] := hl
  refine lv_iload_n hx hb dX9_define_0 rfl (lv_at hl 1 rfl) ?_
  have hPc := hP.sub (ws' := []) [] rfl
  have hDc := hD.sub (ws' := []) [] (by decide) rfl
  have hKc := hK.sub (tys' := []) [] rfl
  have hFc := va_free (wc := []) hD hS hA [] rfl
  refine vx_callv (vx_runS (As := [.int x]) (rest := []) ⟨hx, hb, hml, hown, hts⟩ (c_X9_checkName l hlt dC dI (va_A [] s.heap.size) s.heap.size (fun _ h => Or.inr h) x ) (va_cwS 1 hts (goodIn_app (goodIn_r [Cond.methodLink RX9 115 yX9_checkName, Cond.static yX9_checkName, Cond.initialized RX9] [1, 2, 3] rfl rfl) (goodIn_sub (fun w9 h9 => bk0 w9 h9) gw_X9_checkName)) rfl rfl rfl (by decide +kernel) ⟨Nat.le_of_ble_eq_true rfl, Nat.le_of_ble_eq_true rfl⟩) ⟨fun a U g mk q => by obtain ⟨q0, q1, qP, qK, qD, qE⟩ := q; exact ⟨q0, q1, qP, va_K.moved (u := U) (U := U.calling g mk a) (Vm.Alike.refl U.vm) qK, qD, exF.same rfl rfl qE⟩, fun U hU hW => ⟨rfl, by rw [hU], by rw [hU]; exact hPc, va_K.moved hW.alike hKc, hDc.self, by rw [hU]; exact exF.warm hW ((exF.kept hE hS.2.1).narrow hFc)⟩⟩ rfl rfl hl.1 rfl (lv_room (Nat.le_of_ble_eq_true rfl)) dX9_define_1 ⟨(Nat.le_of_ble_eq_true rfl), (Nat.le_of_ble_eq_true rfl)⟩) hS (fun q _ h => hFc q h) hFc (fun q _ h => hFc q h) (fun E ce q9 u t H1 locs1 ht hvm hpx hbx hz1 hk1 hS hce hcv hcl => vx_out (fun x9 hx9 => (htb x9 hx9).elim) hlocks hce hcv hcl (fun t2 ht2 hvm2 => ⟨(), trivial, ⟨hbx.1, by have := hbx.2; omega⟩, hS.F ht2⟩) hS.2.2 (Nat.le_of_ble_eq_true rfl) (Nat.le_of_ble_eq_true rfl)) (fun u t H1 locs ht hvm hw_1 hB hz1 hk1 hS => ?_)
  obtain ⟨⟩ := u
  obtain ⟨hP1, hK1, hD1⟩ := hB
  rw [ht] at hP1
  have hK1 := va_K.moved hvm.symm hK1
  try dsimp only at hw_1
  obtain ⟨hP, hD⟩ := va_join (wr := [(h0, .inr (12, [.ref (q 0), .ref (q 9), .ref (q 11), .ref (q 17), .ref (q 18), .ref (q 19), .ref (q 26), .ref (q 27), .ref (q 32), .ref (q 33), .ref (q 34), .int (-1)])), (q 9, .inr (10, [.ref (q 10), .int (nI 0), .int (nI 0), .int (nI 0), .int (nI 0)])), (q 11, .inr (9, [.ref (q 12), .ref (q 13), .int (nI 0), .ref (q 14), .ref (q 0), .ref (q 15), .ref (q 16)]))]) (w1 := []) hP hD [] [0, 1, 2] rfl rfl (by decide) (by decide) hk1 hFc hP1 hD1
  have hK := (hK.sub (tys' := []) [] rfl).app hK1
  generalize H1 = H at hP hS ⊢
  have hP : va_P (dC, dI) vwCl ([(h0, .inr (12, [.ref (q 0), .ref (q 9), .ref (q 11), .ref (q 17), .ref (q 18), .ref (q 19), .ref (q 26), .ref (q 27), .ref (q 32), .ref (q 33), .ref (q 34), .int (-1)])), (q 9, .inr (10, [.ref (q 10), .int (nI 0), .int (nI 0), .int (nI 0), .int (nI 0)])), (q 11, .inr (9, [.ref (q 12), .ref (q 13), .int (nI 0), .ref (q 14), .ref (q 0), .ref (q 15), .ref (q 16)]))]) H := hP
  have hD : va_D A ([(h0, .inr (12, [.ref (q 0), .ref (q 9), .ref (q 11), .ref (q 17), .ref (q 18), .ref (q 19), .ref (q 26), .ref (q 27), .ref (q 32), .ref (q 33), .ref (q 34), .int (-1)])), (q 9, .inr (10, [.ref (q 10), .int (nI 0), .int (nI 0), .int (nI 0), .int (nI 0)])), (q 11, .inr (9, [.ref (q 12), .ref (q 13), .int (nI 0), .ref (q 14), .ref (q 0), .ref (q 15), .ref (q 16)]))]) := hD
  have hK : va_K (dC, dI) vwCl [] s := hK
  refine W.cs (cells' := 1) (slots' := 6) (by omega) (by omega) ?_
  refine lv_aload_n hx hb dX9_define_4 rfl (lv_at hl 0 rfl) ?_
  refine lv_aload_n hx hb dX9_define_5 rfl (lv_at hl 0 rfl) ?_
  refine va_get (D := (dC, dI)) (ci := 12) (v := .ref (q 9)) (C := RX9) (T := TX9) (N := 12) hx hb hts bk1 hown hK hP 0 rfl rfl 1 (by decide) (hts (.fieldLink RX9 19 "GradientDesk" "text" "LGradientDesk$Text;") (List.mem_of_getElem? (i := 4) rfl)) (fun _ h9 => h9) rfl dX9_define_6 ?_
  have hPc := hP.sub (ws' := [(q 9, .inr (10, [.ref (q 10), .int (nI 0), .int (nI 0), .int (nI 0), .int (nI 0)]))]) [1] rfl
  have hDc := hD.sub (ws' := [(q 9, .inr (10, [.ref (q 10), .int (nI 0), .int (nI 0), .int (nI 0), .int (nI 0)]))]) [1] (by decide) rfl
  have hKc := hK.sub (tys' := []) [] rfl
  have hFc := va_free (wc := [(q 9, .inr (10, [.ref (q 10), .int (nI 0), .int (nI 0), .int (nI 0), .int (nI 0)]))]) hD hS hA [1] rfl
  refine va_calli (va_runV (As := []) (rest := [.ref h0]) ⟨hx, hb, hml, hown, hts⟩ (c_X7_find l dC dI (va_A [(q 9, .inr (10, [.ref (q 10), .int (nI 0), .int (nI 0), .int (nI 0), .int (nI 0)]))] H.size) H.size (fun _ h => Or.inr h) (q 9) (q 10) ) (cwV 0 hts (goodIn_app (goodIn_r [Cond.methodLink RX9 118 yX7_findWrongPlace, Cond.instanceMethod yX7_findWrongPlace, Cond.selects RX7 yX7_findWrongPlace yX7_findWrongPlace, Cond.initialized RX7] [5, 6, 7, 8] rfl rfl) (goodIn_sub (fun w9 h9 => bk2 w9 h9) gw_X7_find)) rfl rfl rfl (by decide +kernel) ⟨Nat.le_of_ble_eq_true rfl, Nat.le_of_ble_eq_true rfl⟩) ⟨fun a U g mk q => by obtain ⟨q0, q1, qP, qK, qD⟩ := q; exact ⟨q0, q1, qP, va_K.moved (u := U) (U := U.calling g mk a) (Vm.Alike.refl U.vm) qK, qD⟩, va_recv hKc hPc (ci := 10) (q0 := 0) rfl rfl, fun U hU hW => ⟨rfl, by rw [hU], by rw [hU]; exact hPc, va_K.moved hW.alike hKc, hDc.self⟩⟩ rfl rfl hl.1 rfl (lv_room (Nat.le_of_ble_eq_true rfl)) dX9_define_9 ⟨(Nat.le_of_ble_eq_true rfl), (Nat.le_of_ble_eq_true rfl)⟩) hS (fun q _ h => hFc q h) hFc (fun r_2 u t H1 locs ht hvm hw_3 hB hz1 hk1 hS => ?_)
  obtain ⟨⟩ := u
  obtain ⟨hP1, hK1, hD1⟩ := hB
  rw [ht] at hP1
  have hK1 := va_K.moved hvm.symm hK1
  try dsimp only at hw_3
  obtain ⟨hP, hD⟩ := va_join (wr := [(h0, .inr (12, [.ref (q 0), .ref (q 9), .ref (q 11), .ref (q 17), .ref (q 18), .ref (q 19), .ref (q 26), .ref (q 27), .ref (q 32), .ref (q 33), .ref (q 34), .int (-1)])), (q 11, .inr (9, [.ref (q 12), .ref (q 13), .int (nI 0), .ref (q 14), .ref (q 0), .ref (q 15), .ref (q 16)]))]) (w1 := [(q 9, .inr (10, [.ref (q 10), .int (nI 0), .int (nI 0), .int (nI 0), .int (nI 0)]))]) hP hD [1] [0, 2] rfl rfl (by decide) (by decide) hk1 hFc hP1 hD1
  have hK := (hK.sub (tys' := []) [] rfl).app hK1
  generalize H1 = H at hP hS ⊢
  have hP : va_P (dC, dI) vwCl ([(h0, .inr (12, [.ref (q 0), .ref (q 9), .ref (q 11), .ref (q 17), .ref (q 18), .ref (q 19), .ref (q 26), .ref (q 27), .ref (q 32), .ref (q 33), .ref (q 34), .int (-1)])), (q 11, .inr (9, [.ref (q 12), .ref (q 13), .int (nI 0), .ref (q 14), .ref (q 0), .ref (q 15), .ref (q 16)])), (q 9, .inr (10, [.ref (q 10), .int (nI 0), .int (nI 0), .int (nI 0), .int (nI 0)]))]) H := hP
  have hD : va_D A ([(h0, .inr (12, [.ref (q 0), .ref (q 9), .ref (q 11), .ref (q 17), .ref (q 18), .ref (q 19), .ref (q 26), .ref (q 27), .ref (q 32), .ref (q 33), .ref (q 34), .int (-1)])), (q 11, .inr (9, [.ref (q 12), .ref (q 13), .int (nI 0), .ref (q 14), .ref (q 0), .ref (q 15), .ref (q 16)])), (q 9, .inr (10, [.ref (q 10), .int (nI 0), .int (nI 0), .int (nI 0), .int (nI 0)]))]) := hD
  have hK : va_K (dC, dI) vwCl [] s := hK
  obtain rfl : r_2 = nI 0 := hw_3
  refine va_put (D := (dC, dI)) (ci := 12) (v := .int (nI 0)) (ty := .int) (C := RX9) (T := TX9) (N := 12) hx hb hts bk1 tyX9 tyX9_ok nmX9 hown hK hP hD hS 0 rfl rfl 11 (by decide) (hts (.fieldLink RX9 86 "GradientDesk" "wrongPlace" "I") (List.mem_of_getElem? (i := 9) rfl)) (fun _ h9 => h9) rfl (by decide +kernel) rfl rfl (Nat.le_of_ble_eq_true rfl) dX9_define_12 (fun H locs hP hD hS => ?_)
  have hP : va_P (dC, dI) vwCl ([(h0, .inr (12, [.ref (q 0), .ref (q 9), .ref (q 11), .ref (q 17), .ref (q 18), .ref (q 19), .ref (q 26), .ref (q 27), .ref (q 32), .ref (q 33), .ref (q 34), .int (nI 0)])), (q 11, .inr (9, [.ref (q 12), .ref (q 13), .int (nI 0), .ref (q 14), .ref (q 0), .ref (q 15), .ref (q 16)])), (q 9, .inr (10, [.ref (q 10), .int (nI 0), .int (nI 0), .int (nI 0), .int (nI 0)]))]) H := hP
  have hD : va_D A ([(h0, .inr (12, [.ref (q 0), .ref (q 9), .ref (q 11), .ref (q 17), .ref (q 18), .ref (q 19), .ref (q 26), .ref (q 27), .ref (q 32), .ref (q 33), .ref (q 34), .int (nI 0)])), (q 11, .inr (9, [.ref (q 12), .ref (q 13), .int (nI 0), .ref (q 14), .ref (q 0), .ref (q 15), .ref (q 16)])), (q 9, .inr (10, [.ref (q 10), .int (nI 0), .int (nI 0), .int (nI 0), .int (nI 0)]))]) := hD
  refine lv_aload_n hx hb dX9_define_15 rfl (lv_at hl 0 rfl) ?_
  refine va_get (D := (dC, dI)) (ci := 12) (v := .ref (q 11)) (C := RX9) (T := TX9) (N := 12) hx hb hts bk1 hown hK hP 0 rfl rfl 2 (by decide) (hts (.fieldLink RX9 28 "GradientDesk" "shelf" "LGradientDesk$Shelf;") (List.mem_of_getElem? (i := 10) rfl)) (fun _ h9 => h9) rfl dX9_define_16 ?_
  refine va_get (D := (dC, dI)) (ci := 9) (v := .int (nI 0)) (C := RX6) (T := TX6) (N := 7) hx hb hts bk3 hown hK hP 1 rfl rfl 2 (by decide) (hts (.fieldLink RX9 122 "GradientDesk$Shelf" "count" "I") (List.mem_of_getElem? (i := 11) rfl)) (fun _ h9 => h9) rfl dX9_define_19 ?_
  refine lv_istore_n (lv' := [(2, .int (nI 0)), (0, .ref h0), (1, .int x)]) hx hb dX9_define_22 rfl hl (by decide) rfl (fun ls hl => ?_)
  refine lv_iconst (v := -1) hx hb dX9_define_23 (by decide +kernel) ?_
  refine lv_istore_n (lv' := [(3, .int (-1)), (2, .int (nI 0)), (0, .ref h0), (1, .int x)]) hx hb dX9_define_24 rfl hl (by decide) rfl (fun ls hl => ?_)
  refine lv_aload_n hx hb dX9_define_25 rfl (lv_at hl 2 rfl) ?_
  refine va_get (D := (dC, dI)) (ci := 12) (v := .int (nI 0)) (C := RX9) (T := TX9) (N := 12) hx hb hts bk1 hown hK hP 0 rfl rfl 11 (by decide) (hts (.fieldLink RX9 86 "GradientDesk" "wrongPlace" "I") (List.mem_of_getElem? (i := 9) rfl)) (fun _ h9 => h9) rfl dX9_define_26 ?_
  refine lv_iconst (v := -1) hx hb dX9_define_29 (by decide +kernel) ?_
  refine lv_icmp_ne (tgt := 60) hx hb dX9_define_30 (by decide) (fun c_4 => ?_) (fun c_4 => absurd c_4 (by decide))
  refine lv_aload_n hx hb dX9_define_60 rfl (lv_at hl 2 rfl) ?_
  refine va_get (D := (dC, dI)) (ci := 12) (v := .ref (q 9)) (C := RX9) (T := TX9) (N := 12) hx hb hts bk1 hown hK hP 0 rfl rfl 1 (by decide) (hts (.fieldLink RX9 19 "GradientDesk" "text" "LGradientDesk$Text;") (List.mem_of_getElem? (i := 4) rfl)) (fun _ h9 => h9) rfl dX9_define_61 ?_
  refine lv_iconst (v := nI 0) hx hb dX9_define_64 (by decide +kernel) ?_
  refine va_put (D := (dC, dI)) (ci := 10) (v := .int (nI 0)) (ty := .int) (C := RX7) (T := TX7) (N := 5) hx hb hts bk4 tyX7 tyX7_ok nmX7 hown hK hP hD hS 2 rfl rfl 1 (by decide) (hts (.fieldLink RX9 103 "GradientDesk$Text" "length" "I") (List.mem_of_getElem? (i := 12) rfl)) (fun _ h9 => h9) rfl (by decide +kernel) rfl rfl (Nat.le_of_ble_eq_true rfl) dX9_define_65 (fun H locs hP hD hS => ?_)
  have hP : va_P (dC, dI) vwCl ([(h0, .inr (12, [.ref (q 0), .ref (q 9), .ref (q 11), .ref (q 17), .ref (q 18), .ref (q 19), .ref (q 26), .ref (q 27), .ref (q 32), .ref (q 33), .ref (q 34), .int (nI 0)])), (q 11, .inr (9, [.ref (q 12), .ref (q 13), .int (nI 0), .ref (q 14), .ref (q 0), .ref (q 15), .ref (q 16)])), (q 9, .inr (10, [.ref (q 10), .int (nI 0), .int (nI 0), .int (nI 0), .int (nI 0)]))]) H := hP
  have hD : va_D A ([(h0, .inr (12, [.ref (q 0), .ref (q 9), .ref (q 11), .ref (q 17), .ref (q 18), .ref (q 19), .ref (q 26), .ref (q 27), .ref (q 32), .ref (q 33), .ref (q 34), .int (nI 0)])), (q 11, .inr (9, [.ref (q 12), .ref (q 13), .int (nI 0), .ref (q 14), .ref (q 0), .ref (q 15), .ref (q 16)])), (q 9, .inr (10, [.ref (q 10), .int (nI 0), .int (nI 0), .int (nI 0), .int (nI 0)]))]) := hD
  refine lv_iload_n hx hb dX9_define_68 rfl (lv_at hl 0 rfl) ?_
  refine lv_if_lt (tgt := 82) hx hb dX9_define_69 (by decide) (fun c_5 => ?_) (fun c_5 => absurd c_5 (by decide))
  refine lv_aload_n hx hb dX9_define_82 rfl (lv_at hl 2 rfl) ?_
  refine va_get (D := (dC, dI)) (ci := 12) (v := .ref (q 11)) (C := RX9) (T := TX9) (N := 12) hx hb hts bk1 hown hK hP 0 rfl rfl 2 (by decide) (hts (.fieldLink RX9 28 "GradientDesk" "shelf" "LGradientDesk$Shelf;") (List.mem_of_getElem? (i := 10) rfl)) (fun _ h9 => h9) rfl dX9_define_83 ?_
  refine lv_iload_n hx hb dX9_define_86 rfl (lv_at hl 1 rfl) ?_
  refine va_put (D := (dC, dI)) (ci := 9) (v := .int (nI 0)) (ty := .int) (C := RX6) (T := TX6) (N := 7) hx hb hts bk3 tyX6 tyX6_ok nmX6 hown hK hP hD hS 1 rfl rfl 2 (by decide) (hts (.fieldLink RX9 122 "GradientDesk$Shelf" "count" "I") (List.mem_of_getElem? (i := 11) rfl)) (fun _ h9 => h9) rfl (by decide +kernel) rfl rfl (Nat.le_of_ble_eq_true rfl) dX9_define_87 (fun H locs hP hD hS => ?_)
  have hP : va_P (dC, dI) vwCl ([(h0, .inr (12, [.ref (q 0), .ref (q 9), .ref (q 11), .ref (q 17), .ref (q 18), .ref (q 19), .ref (q 26), .ref (q 27), .ref (q 32), .ref (q 33), .ref (q 34), .int (nI 0)])), (q 11, .inr (9, [.ref (q 12), .ref (q 13), .int (nI 0), .ref (q 14), .ref (q 0), .ref (q 15), .ref (q 16)])), (q 9, .inr (10, [.ref (q 10), .int (nI 0), .int (nI 0), .int (nI 0), .int (nI 0)]))]) H := hP
  have hD : va_D A ([(h0, .inr (12, [.ref (q 0), .ref (q 9), .ref (q 11), .ref (q 17), .ref (q 18), .ref (q 19), .ref (q 26), .ref (q 27), .ref (q 32), .ref (q 33), .ref (q 34), .int (nI 0)])), (q 11, .inr (9, [.ref (q 12), .ref (q 13), .int (nI 0), .ref (q 14), .ref (q 0), .ref (q 15), .ref (q 16)])), (q 9, .inr (10, [.ref (q 10), .int (nI 0), .int (nI 0), .int (nI 0), .int (nI 0)]))]) := hD
  refine lv_iload_n hx hb dX9_define_90 rfl (lv_at hl 0 rfl) ?_
  have hP9 := hP.sub (ws' := []) [] rfl
  have hD9 := hD.sub (ws' := []) [] (by decide) rfl
  have hK9 := hK.sub (tys' := []) [] rfl
  refine vx_ret ?_
  refine W.widen (k := 10) (n := 60) (by omega) (by omega) ?_
  exact W.iret (v := -1) hx hb hr (fun t ht hW => ⟨⟨-1, (), rfl, ⟨rfl, by omega⟩, by rw [ht]; exact hP9, va_K.moved hW.alike hK9, hD9⟩, hS.F ht⟩) hS.2.2 dX9_define_91
def wd_X9_place : List Cond := .code yX9_place cX9_place 1 (some .int) :: (([.fieldLink RX9 86 "GradientDesk" "wrongPlace" "I"] : List Cond) ++ (u_ws RX9 TX9 12 ++ ([])))
theorem gw_X9_place : wd_X9_place.all goodWord = true := k_allc rfl (k_all (by decide +kernel) (k_all (gu_X9) (rfl)))
abbrev at_X9_place (dC : Nat → ClassId) (dI : Nat → Nat → Nat) (A : Nat → Prop) (h0 : Nat) (q : Nat → Nat) (k : Nat → ClassId) (fr : Nat → Option Nat) (u : Unit) (t : State) : Prop := match u with
  | () => va_P (dC, dI) vwCl [] t.heap ∧ va_K (dC, dI) vwCl [] t ∧ va_D A []
set_option maxHeartbeats 4000000 in
set_option maxRecDepth 100000 in
theorem c_X9_place (l : Launch) (dC : Nat → ClassId) (dI : Nat → Nat → Nat) (A : Nat → Prop) (sz : Nat) (hA0 : ∀ q, sz ≤ q → A q) (h0 : Nat) (q : Nat → Nat) (k : Nat → ClassId) (fr : Nat → Option Nat)  : Met l yX9_place wd_X9_place ({ frames := 10, cells := 0, slots := 0, locals := 200 }) (va_Pc [.ref h0] (fun U => U.heap.size = sz ∧ va_P (dC, dI) vwCl [(h0, .inr (12, [.ref (q 0), .ref (q 9), .ref (q 11), .ref (q 17), .ref (q 18), .ref (q 19), .ref (q 26), .ref (q 27), .ref (q 32), .ref (q 33), .ref (q 34), .int (-1)]))] U.heap ∧ va_K (dC, dI) vwCl [] U ∧ va_D A [(h0, .inr (12, [.ref (q 0), .ref (q 9), .ref (q 11), .ref (q 17), .ref (q 18), .ref (q 19), .ref (q 26), .ref (q 27), .ref (q 32), .ref (q 33), .ref (q 34), .int (-1)]))])) (va_Qi (fun (r : Int32) => fun (u : Unit) => match u with | () => r = -1) (at_X9_place dC dI A h0 q k fr) A) (0) (0) A := by
  refine Met.ofW (cc := cX9_place) (maxL := 1) (ret := (some .int)) (by decide) rfl ?_
  intro p e s m args below meth c s₁ B hml hv
  obtain ⟨rfl, hsz, hP, hK, hD⟩ := hv
  have hx := B.exec
  have hb := B.bytes
  have hr := B.returns
  have hts := atoms_spec (ws := wd_X9_place) B.pre
  have hown : s.vm.findClass RX9 = some m.cls := findClass_of_methodNamed B.named
  have hlocks := B.notSynchronized
  have bk0 : ∀ w ∈ u_ws RX9 TX9 12, w ∈ wd_X9_place := fun _ h => List.mem_cons_of_mem _ (List.mem_append_right _ (List.mem_append_left _ h))
  subst hsz
  have hA : ∀ q : Nat, s.heap.size ≤ q → A q := hA0
  have hS : va_S A s.heap s.heap [] := va_S.rf
  have hl := lv_entry ([.ref h0]) (n := 1) (Nat.le_of_ble_eq_true rfl)
  rw [lg_entry_eq]
  generalize (lg_sl ([.ref h0]) ++ List.replicate (1 - (lg_sl ([.ref h0])).length) Slot.unset).toArray = ls at hl ⊢
  have hl : lv_has ls 1 [(0, .ref h0)] := hl
  refine lv_aload_n hx hb dX9_place_0 rfl (lv_at hl 0 rfl) ?_
  refine va_get (D := (dC, dI)) (ci := 12) (v := .int (-1)) (C := RX9) (T := TX9) (N := 12) hx hb hts bk0 hown hK hP 0 rfl rfl 11 (by decide) (hts (.fieldLink RX9 86 "GradientDesk" "wrongPlace" "I") (List.mem_of_getElem? (i := 1) rfl)) (fun _ h9 => h9) rfl dX9_place_1 ?_
  have hP9 := hP.sub (ws' := []) [] rfl
  have hD9 := hD.sub (ws' := []) [] (by decide) rfl
  have hK9 := hK.sub (tys' := []) [] rfl
  refine W.widen (k := 0) (n := 0) (by omega) (by omega) ?_
  exact W.iret (v := -1) hx hb hr (fun t ht hW => ⟨⟨-1, (), rfl, rfl, by rw [ht]; exact hP9, va_K.moved hW.alike hK9, hD9⟩, hS.F ht⟩) hS.2.2 dX9_place_4
def wd_X9_made : List Cond := .code yX9_made cX9_made 1 (some .int) :: (([.fieldLink RX9 28 "GradientDesk" "shelf" "LGradientDesk$Shelf;", .fieldLink RX9 122 "GradientDesk$Shelf" "count" "I"] : List Cond) ++ (u_ws RX9 TX9 12 ++ (u_ws RX6 TX6 7 ++ ([]))))
theorem gw_X9_made : wd_X9_made.all goodWord = true := k_allc rfl (k_all (by decide +kernel) (k_all (gu_X9) (k_all (gu_X6) (rfl))))
abbrev at_X9_made (dC : Nat → ClassId) (dI : Nat → Nat → Nat) (A : Nat → Prop) (h0 : Nat) (q : Nat → Nat) (k : Nat → ClassId) (fr : Nat → Option Nat) (u : Unit) (t : State) : Prop := match u with
  | () => va_P (dC, dI) vwCl [] t.heap ∧ va_K (dC, dI) vwCl [] t ∧ va_D A []
set_option maxHeartbeats 4000000 in
set_option maxRecDepth 100000 in
theorem c_X9_made (l : Launch) (dC : Nat → ClassId) (dI : Nat → Nat → Nat) (A : Nat → Prop) (sz : Nat) (hA0 : ∀ q, sz ≤ q → A q) (h0 : Nat) (q : Nat → Nat) (k : Nat → ClassId) (fr : Nat → Option Nat)  : Met l yX9_made wd_X9_made ({ frames := 10, cells := 0, slots := 0, locals := 200 }) (va_Pc [.ref h0] (fun U => U.heap.size = sz ∧ va_P (dC, dI) vwCl [(h0, .inr (12, [.ref (q 0), .ref (q 9), .ref (q 11), .ref (q 17), .ref (q 18), .ref (q 19), .ref (q 26), .ref (q 27), .ref (q 32), .ref (q 33), .ref (q 34), .int (-1)])), (q 11, .inr (9, [.ref (q 12), .ref (q 13), .int (nI 0), .ref (q 14), .ref (q 0), .ref (q 15), .ref (q 16)]))] U.heap ∧ va_K (dC, dI) vwCl [] U ∧ va_D A [(h0, .inr (12, [.ref (q 0), .ref (q 9), .ref (q 11), .ref (q 17), .ref (q 18), .ref (q 19), .ref (q 26), .ref (q 27), .ref (q 32), .ref (q 33), .ref (q 34), .int (-1)])), (q 11, .inr (9, [.ref (q 12), .ref (q 13), .int (nI 0), .ref (q 14), .ref (q 0), .ref (q 15), .ref (q 16)]))])) (va_Qi (fun (r : Int32) => fun (u : Unit) => match u with | () => r = nI 0) (at_X9_made dC dI A h0 q k fr) A) (0) (0) A := by
  refine Met.ofW (cc := cX9_made) (maxL := 1) (ret := (some .int)) (by decide) rfl ?_
  intro p e s m args below meth c s₁ B hml hv
  obtain ⟨rfl, hsz, hP, hK, hD⟩ := hv
  have hx := B.exec
  have hb := B.bytes
  have hr := B.returns
  have hts := atoms_spec (ws := wd_X9_made) B.pre
  have hown : s.vm.findClass RX9 = some m.cls := findClass_of_methodNamed B.named
  have hlocks := B.notSynchronized
  have bk0 : ∀ w ∈ u_ws RX9 TX9 12, w ∈ wd_X9_made := fun _ h => List.mem_cons_of_mem _ (List.mem_append_right _ (List.mem_append_left _ h))
  have bk1 : ∀ w ∈ u_ws RX6 TX6 7, w ∈ wd_X9_made := fun _ h => List.mem_cons_of_mem _ (List.mem_append_right _ (List.mem_append_right _ (List.mem_append_left _ h)))
  subst hsz
  have hA : ∀ q : Nat, s.heap.size ≤ q → A q := hA0
  have hS : va_S A s.heap s.heap [] := va_S.rf
  have hl := lv_entry ([.ref h0]) (n := 1) (Nat.le_of_ble_eq_true rfl)
  rw [lg_entry_eq]
  generalize (lg_sl ([.ref h0]) ++ List.replicate (1 - (lg_sl ([.ref h0])).length) Slot.unset).toArray = ls at hl ⊢
  have hl : lv_has ls 1 [(0, .ref h0)] := hl
  refine lv_aload_n hx hb dX9_made_0 rfl (lv_at hl 0 rfl) ?_
  refine va_get (D := (dC, dI)) (ci := 12) (v := .ref (q 11)) (C := RX9) (T := TX9) (N := 12) hx hb hts bk0 hown hK hP 0 rfl rfl 2 (by decide) (hts (.fieldLink RX9 28 "GradientDesk" "shelf" "LGradientDesk$Shelf;") (List.mem_of_getElem? (i := 1) rfl)) (fun _ h9 => h9) rfl dX9_made_1 ?_
  refine va_get (D := (dC, dI)) (ci := 9) (v := .int (nI 0)) (C := RX6) (T := TX6) (N := 7) hx hb hts bk1 hown hK hP 1 rfl rfl 2 (by decide) (hts (.fieldLink RX9 122 "GradientDesk$Shelf" "count" "I") (List.mem_of_getElem? (i := 2) rfl)) (fun _ h9 => h9) rfl dX9_made_4 ?_
  have hP9 := hP.sub (ws' := []) [] rfl
  have hD9 := hD.sub (ws' := []) [] (by decide) rfl
  have hK9 := hK.sub (tys' := []) [] rfl
  refine W.widen (k := 0) (n := 0) (by omega) (by omega) ?_
  exact W.iret (v := nI 0) hx hb hr (fun t ht hW => ⟨⟨nI 0, (), rfl, rfl, by rw [ht]; exact hP9, va_K.moved hW.alike hK9, hD9⟩, hS.F ht⟩) hS.2.2 dX9_made_7
def wd_X9_parts : List Cond := .code yX9_parts cX9_parts 2 (some .int) :: (([.methodLink RX9 115 yX9_checkName, .static yX9_checkName, .initialized RX9, .methodLink RX9 135 yX9_checkKnown, .instanceMethod yX9_checkKnown, .selects RX9 yX9_checkKnown yX9_checkKnown] : List Cond) ++ (wd_X9_checkName ++ (wd_X9_checkKnown ++ ([]))))
theorem gw_X9_parts : wd_X9_parts.all goodWord = true := k_allc rfl (k_all (by decide +kernel) (k_all (gw_X9_checkName) (k_all (gw_X9_checkKnown) (rfl))))
abbrev at_X9_parts (dC : Nat → ClassId) (dI : Nat → Nat → Nat) (A : Nat → Prop) (h0 : Nat) (q : Nat → Nat) (k : Nat → ClassId) (fr : Nat → Option Nat) (x : Int32) (u : Unit) (t : State) : Prop := match u with
  | () => va_P (dC, dI) vwCl [] t.heap ∧ va_K (dC, dI) vwCl [] t ∧ va_D A []
set_option maxHeartbeats 4000000 in
set_option maxRecDepth 100000 in
theorem c_X9_parts (l : Launch) (hlt : l.stackTraces = false) (dC : Nat → ClassId) (dI : Nat → Nat → Nat) (A : Nat → Prop) (sz : Nat) (hA0 : ∀ q, sz ≤ q → A q) (h0 : Nat) (q : Nat → Nat) (k : Nat → ClassId) (fr : Nat → Option Nat) (x : Int32)  : vx_Met l yX9_parts wd_X9_parts ({ frames := 20, cells := 10, slots := 60, locals := 400 }) (va_Pc [.ref h0, .int x] (fun U => U.heap.size = sz ∧ va_P (dC, dI) vwCl [(h0, .inr (12, [.ref (q 0), .ref (q 9), .ref (q 11), .ref (q 17), .ref (q 18), .ref (q 19), .ref (q 26), .ref (q 27), .ref (q 32), .ref (q 33), .ref (q 34), .int (-1)])), (q 32, .inl (k 8, 8, .inl (va_cpy (fun _ => -1) (fun _ => 0) 0 0 8)))] U.heap ∧ va_K (dC, dI) vwCl [(k 8, .int)] U ∧ va_D A [(h0, .inr (12, [.ref (q 0), .ref (q 9), .ref (q 11), .ref (q 17), .ref (q 18), .ref (q 19), .ref (q 26), .ref (q 27), .ref (q 32), .ref (q 33), .ref (q 34), .int (-1)])), (q 32, .inl (k 8, 8, .inl (va_cpy (fun _ => -1) (fun _ => 0) 0 0 8)))] ∧ exF A U U.heap)) (va_Qi (fun (r : Int32) => fun (u : Unit) => match u with | () => False) (at_X9_parts dC dI A h0 q k fr x) A) (vx_X (fun _ : Unit => True) (fun E _ _ => (E = "java/lang/IllegalArgumentException" ∧ ¬ (0 ≤ x.toInt ∧ x.toInt ≤ 7)) ∨ (E = "java/util/NoSuchElementException" ∧ (0 ≤ x.toInt ∧ x.toInt ≤ 7))) A) (10) (60) A := by
  refine vx_ofW (cc := cX9_parts) (maxL := 2) (ret := (some .int)) (by decide) rfl ?_
  intro p e s m args below meth c s₁ B hml htb hv
  obtain ⟨rfl, hsz, hP, hK, hD, hE⟩ := hv
  have hx := B.exec
  have hb := B.bytes
  have hr := B.returns
  have hts := atoms_spec (ws := wd_X9_parts) B.pre
  have hown : s.vm.findClass RX9 = some m.cls := findClass_of_methodNamed B.named
  have hlocks := B.notSynchronized
  have bk0 : ∀ w ∈ wd_X9_checkName, w ∈ wd_X9_parts := fun _ h => List.mem_cons_of_mem _ (List.mem_append_right _ (List.mem_append_left _ h))
  have bk1 : ∀ w ∈ wd_X9_checkKnown, w ∈ wd_X9_parts := fun _ h => List.mem_cons_of_mem _ (List.mem_append_right _ (List.mem_append_right _ (List.mem_append_left _ h)))
  subst hsz
  have hA : ∀ q : Nat, s.heap.size ≤ q → A q := hA0
  have hS : va_S A s.heap s.heap [] := va_S.rf
  have hl := lv_entry ([.ref h0, .int x]) (n := 2) (Nat.le_of_ble_eq_true rfl)
  rw [lg_entry_eq]
  generalize (lg_sl ([.ref h0, .int x]) ++ List.replicate (2 - (lg_sl ([.ref h0, .int x])).length) Slot.unset).toArray = ls at hl ⊢
  have hl : lv_has ls 2 [(0, .ref h0), (1, .int x)] := hl
  refine lv_iload_n hx hb dX9_parts_0 rfl (lv_at hl 1 rfl) ?_
  have hPc := hP.sub (ws' := []) [] rfl
  have hDc := hD.sub (ws' := []) [] (by decide) rfl
  have hKc := hK.sub (tys' := []) [] rfl
  have hFc := va_free (wc := []) hD hS hA [] rfl
  refine vx_callv (vx_runS (As := [.int x]) (rest := []) ⟨hx, hb, hml, hown, hts⟩ (c_X9_checkName l hlt dC dI (va_A [] s.heap.size) s.heap.size (fun _ h => Or.inr h) x ) (va_cwS 1 hts (goodIn_app (goodIn_r [Cond.methodLink RX9 115 yX9_checkName, Cond.static yX9_checkName, Cond.initialized RX9] [1, 2, 3] rfl rfl) (goodIn_sub (fun w9 h9 => bk0 w9 h9) gw_X9_checkName)) rfl rfl rfl (by decide +kernel) ⟨Nat.le_of_ble_eq_true rfl, Nat.le_of_ble_eq_true rfl⟩) ⟨fun a U g mk q => by obtain ⟨q0, q1, qP, qK, qD, qE⟩ := q; exact ⟨q0, q1, qP, va_K.moved (u := U) (U := U.calling g mk a) (Vm.Alike.refl U.vm) qK, qD, exF.same rfl rfl qE⟩, fun U hU hW => ⟨rfl, by rw [hU], by rw [hU]; exact hPc, va_K.moved hW.alike hKc, hDc.self, by rw [hU]; exact exF.warm hW ((exF.kept hE hS.2.1).narrow hFc)⟩⟩ rfl rfl hl.1 rfl (lv_room (Nat.le_of_ble_eq_true rfl)) dX9_parts_1 ⟨(Nat.le_of_ble_eq_true rfl), (Nat.le_of_ble_eq_true rfl)⟩) hS (fun q _ h => hFc q h) hFc (fun q _ h => hFc q h) (fun E ce q9 u t H1 locs1 ht hvm hpx hbx hz1 hk1 hS hce hcv hcl => vx_out (fun x9 hx9 => (htb x9 hx9).elim) hlocks hce hcv hcl (fun t2 ht2 hvm2 => ⟨(), trivial, Or.inl ⟨hbx.1, by have := hbx.2; omega⟩, hS.F ht2⟩) hS.2.2 (Nat.le_of_ble_eq_true rfl) (Nat.le_of_ble_eq_true rfl)) (fun u t H1 locs ht hvm hw_1 hB hz1 hk1 hS => ?_)
  obtain ⟨⟩ := u
  obtain ⟨hP1, hK1, hD1⟩ := hB
  rw [ht] at hP1
  have hK1 := va_K.moved hvm.symm hK1
  try dsimp only at hw_1
  obtain ⟨hP, hD⟩ := va_join (wr := [(h0, .inr (12, [.ref (q 0), .ref (q 9), .ref (q 11), .ref (q 17), .ref (q 18), .ref (q 19), .ref (q 26), .ref (q 27), .ref (q 32), .ref (q 33), .ref (q 34), .int (-1)])), (q 32, .inl (k 8, 8, .inl (va_cpy (fun _ => -1) (fun _ => 0) 0 0 8)))]) (w1 := []) hP hD [] [0, 1] rfl rfl (by decide) (by decide) hk1 hFc hP1 hD1
  have hK := (hK.sub (tys' := [(k 8, .int)]) [0] rfl).app hK1
  generalize H1 = H at hP hS ⊢
  have hP : va_P (dC, dI) vwCl ([(h0, .inr (12, [.ref (q 0), .ref (q 9), .ref (q 11), .ref (q 17), .ref (q 18), .ref (q 19), .ref (q 26), .ref (q 27), .ref (q 32), .ref (q 33), .ref (q 34), .int (-1)])), (q 32, .inl (k 8, 8, .inl (va_cpy (fun _ => -1) (fun _ => 0) 0 0 8)))]) H := hP
  have hD : va_D A ([(h0, .inr (12, [.ref (q 0), .ref (q 9), .ref (q 11), .ref (q 17), .ref (q 18), .ref (q 19), .ref (q 26), .ref (q 27), .ref (q 32), .ref (q 33), .ref (q 34), .int (-1)])), (q 32, .inl (k 8, 8, .inl (va_cpy (fun _ => -1) (fun _ => 0) 0 0 8)))]) := hD
  have hK : va_K (dC, dI) vwCl [(k 8, .int)] s := hK
  refine W.cs (cells' := 1) (slots' := 6) (by omega) (by omega) ?_
  refine lv_aload_n hx hb dX9_parts_4 rfl (lv_at hl 0 rfl) ?_
  refine lv_iload_n hx hb dX9_parts_5 rfl (lv_at hl 1 rfl) ?_
  have hPc := hP.sub (ws' := [(h0, .inr (12, [.ref (q 0), .ref (q 9), .ref (q 11), .ref (q 17), .ref (q 18), .ref (q 19), .ref (q 26), .ref (q 27), .ref (q 32), .ref (q 33), .ref (q 34), .int (-1)])), (q 32, .inl (k 8, 8, .inl (va_cpy (fun _ => -1) (fun _ => 0) 0 0 8)))]) [0, 1] rfl
  have hDc := hD.sub (ws' := [(h0, .inr (12, [.ref (q 0), .ref (q 9), .ref (q 11), .ref (q 17), .ref (q 18), .ref (q 19), .ref (q 26), .ref (q 27), .ref (q 32), .ref (q 33), .ref (q 34), .int (-1)])), (q 32, .inl (k 8, 8, .inl (va_cpy (fun _ => -1) (fun _ => 0) 0 0 8)))]) [0, 1] (by decide) rfl
  have hKc := hK.sub (tys' := [(k 8, .int)]) [0] rfl
  have hFc := va_free (wc := [(h0, .inr (12, [.ref (q 0), .ref (q 9), .ref (q 11), .ref (q 17), .ref (q 18), .ref (q 19), .ref (q 26), .ref (q 27), .ref (q 32), .ref (q 33), .ref (q 34), .int (-1)])), (q 32, .inl (k 8, 8, .inl (va_cpy (fun _ => -1) (fun _ => 0) 0 0 8)))]) hD hS hA [0, 1] rfl
  refine vx_callv (vx_runV (As := [.int x]) (rest := []) ⟨hx, hb, hml, hown, hts⟩ (c_X9_checkKnown l hlt dC dI (va_A [(h0, .inr (12, [.ref (q 0), .ref (q 9), .ref (q 11), .ref (q 17), .ref (q 18), .ref (q 19), .ref (q 26), .ref (q 27), .ref (q 32), .ref (q 33), .ref (q 34), .int (-1)])), (q 32, .inl (k 8, 8, .inl (va_cpy (fun _ => -1) (fun _ => 0) 0 0 8)))] H.size) H.size (fun _ h => Or.inr h) h0 q k fr x (by omega) (by omega)) (cwV 1 hts (goodIn_app (goodIn_r [Cond.methodLink RX9 135 yX9_checkKnown, Cond.instanceMethod yX9_checkKnown, Cond.selects RX9 yX9_checkKnown yX9_checkKnown, Cond.initialized RX9] [4, 5, 6, 3] rfl rfl) (goodIn_sub (fun w9 h9 => bk1 w9 h9) gw_X9_checkKnown)) rfl rfl rfl (by decide +kernel) ⟨Nat.le_of_ble_eq_true rfl, Nat.le_of_ble_eq_true rfl⟩) ⟨fun a U g mk q => by obtain ⟨q0, q1, qP, qK, qD, qE⟩ := q; exact ⟨q0, q1, qP, va_K.moved (u := U) (U := U.calling g mk a) (Vm.Alike.refl U.vm) qK, qD, exF.same rfl rfl qE⟩, va_recv hKc hPc (ci := 12) (q0 := 0) rfl rfl, fun U hU hW => ⟨rfl, by rw [hU], by rw [hU]; exact hPc, va_K.moved hW.alike hKc, hDc.self, by rw [hU]; exact exF.warm hW ((exF.kept hE hS.2.1).narrow hFc)⟩⟩ rfl rfl hl.1 rfl (lv_room (Nat.le_of_ble_eq_true rfl)) dX9_parts_6 ⟨(Nat.le_of_ble_eq_true rfl), (Nat.le_of_ble_eq_true rfl)⟩) hS (fun q _ h => hFc q h) hFc (fun q _ h => hFc q h) (fun E ce q9 u t H1 locs1 ht hvm hpx hbx hz1 hk1 hS hce hcv hcl => vx_out (fun x9 hx9 => (htb x9 hx9).elim) hlocks hce hcv hcl (fun t2 ht2 hvm2 => ⟨(), trivial, Or.inr ⟨hbx, by omega⟩, hS.F ht2⟩) hS.2.2 (Nat.le_of_ble_eq_true rfl) (Nat.le_of_ble_eq_true rfl)) (fun u t H1 locs ht hvm hw_2 hB hz1 hk1 hS => ?_)
  exact (by obtain ⟨⟩ := u; exact hw_2 : False).elim
def wd_X9_write : List Cond := .code yX9_write cX9_write 2 (some .int) :: (([.methodLink RX9 115 yX9_checkName, .static yX9_checkName, .initialized RX9, .methodLink RX9 135 yX9_checkKnown, .instanceMethod yX9_checkKnown, .selects RX9 yX9_checkKnown yX9_checkKnown] : List Cond) ++ (wd_X9_checkName ++ (wd_X9_checkKnown ++ ([]))))
theorem gw_X9_write : wd_X9_write.all goodWord = true := k_allc rfl (k_all (by decide +kernel) (k_all (gw_X9_checkName) (k_all (gw_X9_checkKnown) (rfl))))
abbrev at_X9_write (dC : Nat → ClassId) (dI : Nat → Nat → Nat) (A : Nat → Prop) (h0 : Nat) (q : Nat → Nat) (k : Nat → ClassId) (fr : Nat → Option Nat) (x : Int32) (u : Unit) (t : State) : Prop := match u with
  | () => va_P (dC, dI) vwCl [] t.heap ∧ va_K (dC, dI) vwCl [] t ∧ va_D A []
set_option maxHeartbeats 4000000 in
set_option maxRecDepth 100000 in
theorem c_X9_write (l : Launch) (hlt : l.stackTraces = false) (dC : Nat → ClassId) (dI : Nat → Nat → Nat) (A : Nat → Prop) (sz : Nat) (hA0 : ∀ q, sz ≤ q → A q) (h0 : Nat) (q : Nat → Nat) (k : Nat → ClassId) (fr : Nat → Option Nat) (x : Int32)  : vx_Met l yX9_write wd_X9_write ({ frames := 20, cells := 10, slots := 60, locals := 400 }) (va_Pc [.ref h0, .int x] (fun U => U.heap.size = sz ∧ va_P (dC, dI) vwCl [(h0, .inr (12, [.ref (q 0), .ref (q 9), .ref (q 11), .ref (q 17), .ref (q 18), .ref (q 19), .ref (q 26), .ref (q 27), .ref (q 32), .ref (q 33), .ref (q 34), .int (-1)])), (q 32, .inl (k 8, 8, .inl (va_cpy (fun _ => -1) (fun _ => 0) 0 0 8)))] U.heap ∧ va_K (dC, dI) vwCl [(k 8, .int)] U ∧ va_D A [(h0, .inr (12, [.ref (q 0), .ref (q 9), .ref (q 11), .ref (q 17), .ref (q 18), .ref (q 19), .ref (q 26), .ref (q 27), .ref (q 32), .ref (q 33), .ref (q 34), .int (-1)])), (q 32, .inl (k 8, 8, .inl (va_cpy (fun _ => -1) (fun _ => 0) 0 0 8)))] ∧ exF A U U.heap)) (va_Qi (fun (r : Int32) => fun (u : Unit) => match u with | () => False) (at_X9_write dC dI A h0 q k fr x) A) (vx_X (fun _ : Unit => True) (fun E _ _ => (E = "java/lang/IllegalArgumentException" ∧ ¬ (0 ≤ x.toInt ∧ x.toInt ≤ 7)) ∨ (E = "java/util/NoSuchElementException" ∧ (0 ≤ x.toInt ∧ x.toInt ≤ 7))) A) (10) (60) A := by
  refine vx_ofW (cc := cX9_write) (maxL := 2) (ret := (some .int)) (by decide) rfl ?_
  intro p e s m args below meth c s₁ B hml htb hv
  obtain ⟨rfl, hsz, hP, hK, hD, hE⟩ := hv
  have hx := B.exec
  have hb := B.bytes
  have hr := B.returns
  have hts := atoms_spec (ws := wd_X9_write) B.pre
  have hown : s.vm.findClass RX9 = some m.cls := findClass_of_methodNamed B.named
  have hlocks := B.notSynchronized
  have bk0 : ∀ w ∈ wd_X9_checkName, w ∈ wd_X9_write := fun _ h => List.mem_cons_of_mem _ (List.mem_append_right _ (List.mem_append_left _ h))
  have bk1 : ∀ w ∈ wd_X9_checkKnown, w ∈ wd_X9_write := fun _ h => List.mem_cons_of_mem _ (List.mem_append_right _ (List.mem_append_right _ (List.mem_append_left _ h)))
  subst hsz
  have hA : ∀ q : Nat, s.heap.size ≤ q → A q := hA0
  have hS : va_S A s.heap s.heap [] := va_S.rf
  have hl := lv_entry ([.ref h0, .int x]) (n := 2) (Nat.le_of_ble_eq_true rfl)
  rw [lg_entry_eq]
  generalize (lg_sl ([.ref h0, .int x]) ++ List.replicate (2 - (lg_sl ([.ref h0, .int x])).length) Slot.unset).toArray = ls at hl ⊢
  have hl : lv_has ls 2 [(0, .ref h0), (1, .int x)] := hl
  refine lv_iload_n hx hb dX9_write_0 rfl (lv_at hl 1 rfl) ?_
  have hPc := hP.sub (ws' := []) [] rfl
  have hDc := hD.sub (ws' := []) [] (by decide) rfl
  have hKc := hK.sub (tys' := []) [] rfl
  have hFc := va_free (wc := []) hD hS hA [] rfl
  refine vx_callv (vx_runS (As := [.int x]) (rest := []) ⟨hx, hb, hml, hown, hts⟩ (c_X9_checkName l hlt dC dI (va_A [] s.heap.size) s.heap.size (fun _ h => Or.inr h) x ) (va_cwS 1 hts (goodIn_app (goodIn_r [Cond.methodLink RX9 115 yX9_checkName, Cond.static yX9_checkName, Cond.initialized RX9] [1, 2, 3] rfl rfl) (goodIn_sub (fun w9 h9 => bk0 w9 h9) gw_X9_checkName)) rfl rfl rfl (by decide +kernel) ⟨Nat.le_of_ble_eq_true rfl, Nat.le_of_ble_eq_true rfl⟩) ⟨fun a U g mk q => by obtain ⟨q0, q1, qP, qK, qD, qE⟩ := q; exact ⟨q0, q1, qP, va_K.moved (u := U) (U := U.calling g mk a) (Vm.Alike.refl U.vm) qK, qD, exF.same rfl rfl qE⟩, fun U hU hW => ⟨rfl, by rw [hU], by rw [hU]; exact hPc, va_K.moved hW.alike hKc, hDc.self, by rw [hU]; exact exF.warm hW ((exF.kept hE hS.2.1).narrow hFc)⟩⟩ rfl rfl hl.1 rfl (lv_room (Nat.le_of_ble_eq_true rfl)) dX9_write_1 ⟨(Nat.le_of_ble_eq_true rfl), (Nat.le_of_ble_eq_true rfl)⟩) hS (fun q _ h => hFc q h) hFc (fun q _ h => hFc q h) (fun E ce q9 u t H1 locs1 ht hvm hpx hbx hz1 hk1 hS hce hcv hcl => vx_out (fun x9 hx9 => (htb x9 hx9).elim) hlocks hce hcv hcl (fun t2 ht2 hvm2 => ⟨(), trivial, Or.inl ⟨hbx.1, by have := hbx.2; omega⟩, hS.F ht2⟩) hS.2.2 (Nat.le_of_ble_eq_true rfl) (Nat.le_of_ble_eq_true rfl)) (fun u t H1 locs ht hvm hw_1 hB hz1 hk1 hS => ?_)
  obtain ⟨⟩ := u
  obtain ⟨hP1, hK1, hD1⟩ := hB
  rw [ht] at hP1
  have hK1 := va_K.moved hvm.symm hK1
  try dsimp only at hw_1
  obtain ⟨hP, hD⟩ := va_join (wr := [(h0, .inr (12, [.ref (q 0), .ref (q 9), .ref (q 11), .ref (q 17), .ref (q 18), .ref (q 19), .ref (q 26), .ref (q 27), .ref (q 32), .ref (q 33), .ref (q 34), .int (-1)])), (q 32, .inl (k 8, 8, .inl (va_cpy (fun _ => -1) (fun _ => 0) 0 0 8)))]) (w1 := []) hP hD [] [0, 1] rfl rfl (by decide) (by decide) hk1 hFc hP1 hD1
  have hK := (hK.sub (tys' := [(k 8, .int)]) [0] rfl).app hK1
  generalize H1 = H at hP hS ⊢
  have hP : va_P (dC, dI) vwCl ([(h0, .inr (12, [.ref (q 0), .ref (q 9), .ref (q 11), .ref (q 17), .ref (q 18), .ref (q 19), .ref (q 26), .ref (q 27), .ref (q 32), .ref (q 33), .ref (q 34), .int (-1)])), (q 32, .inl (k 8, 8, .inl (va_cpy (fun _ => -1) (fun _ => 0) 0 0 8)))]) H := hP
  have hD : va_D A ([(h0, .inr (12, [.ref (q 0), .ref (q 9), .ref (q 11), .ref (q 17), .ref (q 18), .ref (q 19), .ref (q 26), .ref (q 27), .ref (q 32), .ref (q 33), .ref (q 34), .int (-1)])), (q 32, .inl (k 8, 8, .inl (va_cpy (fun _ => -1) (fun _ => 0) 0 0 8)))]) := hD
  have hK : va_K (dC, dI) vwCl [(k 8, .int)] s := hK
  refine W.cs (cells' := 1) (slots' := 6) (by omega) (by omega) ?_
  refine lv_aload_n hx hb dX9_write_4 rfl (lv_at hl 0 rfl) ?_
  refine lv_iload_n hx hb dX9_write_5 rfl (lv_at hl 1 rfl) ?_
  have hPc := hP.sub (ws' := [(h0, .inr (12, [.ref (q 0), .ref (q 9), .ref (q 11), .ref (q 17), .ref (q 18), .ref (q 19), .ref (q 26), .ref (q 27), .ref (q 32), .ref (q 33), .ref (q 34), .int (-1)])), (q 32, .inl (k 8, 8, .inl (va_cpy (fun _ => -1) (fun _ => 0) 0 0 8)))]) [0, 1] rfl
  have hDc := hD.sub (ws' := [(h0, .inr (12, [.ref (q 0), .ref (q 9), .ref (q 11), .ref (q 17), .ref (q 18), .ref (q 19), .ref (q 26), .ref (q 27), .ref (q 32), .ref (q 33), .ref (q 34), .int (-1)])), (q 32, .inl (k 8, 8, .inl (va_cpy (fun _ => -1) (fun _ => 0) 0 0 8)))]) [0, 1] (by decide) rfl
  have hKc := hK.sub (tys' := [(k 8, .int)]) [0] rfl
  have hFc := va_free (wc := [(h0, .inr (12, [.ref (q 0), .ref (q 9), .ref (q 11), .ref (q 17), .ref (q 18), .ref (q 19), .ref (q 26), .ref (q 27), .ref (q 32), .ref (q 33), .ref (q 34), .int (-1)])), (q 32, .inl (k 8, 8, .inl (va_cpy (fun _ => -1) (fun _ => 0) 0 0 8)))]) hD hS hA [0, 1] rfl
  refine vx_callv (vx_runV (As := [.int x]) (rest := []) ⟨hx, hb, hml, hown, hts⟩ (c_X9_checkKnown l hlt dC dI (va_A [(h0, .inr (12, [.ref (q 0), .ref (q 9), .ref (q 11), .ref (q 17), .ref (q 18), .ref (q 19), .ref (q 26), .ref (q 27), .ref (q 32), .ref (q 33), .ref (q 34), .int (-1)])), (q 32, .inl (k 8, 8, .inl (va_cpy (fun _ => -1) (fun _ => 0) 0 0 8)))] H.size) H.size (fun _ h => Or.inr h) h0 q k fr x (by omega) (by omega)) (cwV 1 hts (goodIn_app (goodIn_r [Cond.methodLink RX9 135 yX9_checkKnown, Cond.instanceMethod yX9_checkKnown, Cond.selects RX9 yX9_checkKnown yX9_checkKnown, Cond.initialized RX9] [4, 5, 6, 3] rfl rfl) (goodIn_sub (fun w9 h9 => bk1 w9 h9) gw_X9_checkKnown)) rfl rfl rfl (by decide +kernel) ⟨Nat.le_of_ble_eq_true rfl, Nat.le_of_ble_eq_true rfl⟩) ⟨fun a U g mk q => by obtain ⟨q0, q1, qP, qK, qD, qE⟩ := q; exact ⟨q0, q1, qP, va_K.moved (u := U) (U := U.calling g mk a) (Vm.Alike.refl U.vm) qK, qD, exF.same rfl rfl qE⟩, va_recv hKc hPc (ci := 12) (q0 := 0) rfl rfl, fun U hU hW => ⟨rfl, by rw [hU], by rw [hU]; exact hPc, va_K.moved hW.alike hKc, hDc.self, by rw [hU]; exact exF.warm hW ((exF.kept hE hS.2.1).narrow hFc)⟩⟩ rfl rfl hl.1 rfl (lv_room (Nat.le_of_ble_eq_true rfl)) dX9_write_6 ⟨(Nat.le_of_ble_eq_true rfl), (Nat.le_of_ble_eq_true rfl)⟩) hS (fun q _ h => hFc q h) hFc (fun q _ h => hFc q h) (fun E ce q9 u t H1 locs1 ht hvm hpx hbx hz1 hk1 hS hce hcv hcl => vx_out (fun x9 hx9 => (htb x9 hx9).elim) hlocks hce hcv hcl (fun t2 ht2 hvm2 => ⟨(), trivial, Or.inr ⟨hbx, by omega⟩, hS.F ht2⟩) hS.2.2 (Nat.le_of_ble_eq_true rfl) (Nat.le_of_ble_eq_true rfl)) (fun u t H1 locs ht hvm hw_2 hB hz1 hk1 hS => ?_)
  exact (by obtain ⟨⟩ := u; exact hw_2 : False).elim
def wd_X9_gradient : List Cond := .code yX9_gradient cX9_gradient 2 none :: (([.methodLink RX9 115 yX9_checkName, .static yX9_checkName, .initialized RX9, .methodLink RX9 135 yX9_checkKnown, .instanceMethod yX9_checkKnown, .selects RX9 yX9_checkKnown yX9_checkKnown] : List Cond) ++ (wd_X9_checkName ++ (wd_X9_checkKnown ++ ([]))))
theorem gw_X9_gradient : wd_X9_gradient.all goodWord = true := k_allc rfl (k_all (by decide +kernel) (k_all (gw_X9_checkName) (k_all (gw_X9_checkKnown) (rfl))))
abbrev at_X9_gradient (dC : Nat → ClassId) (dI : Nat → Nat → Nat) (A : Nat → Prop) (h0 : Nat) (q : Nat → Nat) (k : Nat → ClassId) (fr : Nat → Option Nat) (x : Int32) (u : Unit) (t : State) : Prop := match u with
  | () => va_P (dC, dI) vwCl [] t.heap ∧ va_K (dC, dI) vwCl [] t ∧ va_D A []
set_option maxHeartbeats 4000000 in
set_option maxRecDepth 100000 in
theorem c_X9_gradient (l : Launch) (hlt : l.stackTraces = false) (dC : Nat → ClassId) (dI : Nat → Nat → Nat) (A : Nat → Prop) (sz : Nat) (hA0 : ∀ q, sz ≤ q → A q) (h0 : Nat) (q : Nat → Nat) (k : Nat → ClassId) (fr : Nat → Option Nat) (x : Int32)  : vx_Met l yX9_gradient wd_X9_gradient ({ frames := 20, cells := 10, slots := 60, locals := 400 }) (va_Pc [.ref h0, .int x] (fun U => U.heap.size = sz ∧ va_P (dC, dI) vwCl [(h0, .inr (12, [.ref (q 0), .ref (q 9), .ref (q 11), .ref (q 17), .ref (q 18), .ref (q 19), .ref (q 26), .ref (q 27), .ref (q 32), .ref (q 33), .ref (q 34), .int (-1)])), (q 32, .inl (k 8, 8, .inl (va_cpy (fun _ => -1) (fun _ => 0) 0 0 8)))] U.heap ∧ va_K (dC, dI) vwCl [(k 8, .int)] U ∧ va_D A [(h0, .inr (12, [.ref (q 0), .ref (q 9), .ref (q 11), .ref (q 17), .ref (q 18), .ref (q 19), .ref (q 26), .ref (q 27), .ref (q 32), .ref (q 33), .ref (q 34), .int (-1)])), (q 32, .inl (k 8, 8, .inl (va_cpy (fun _ => -1) (fun _ => 0) 0 0 8)))] ∧ exF A U U.heap)) (va_Qv (fun (u : Unit) => match u with | () => False) (at_X9_gradient dC dI A h0 q k fr x) A) (vx_X (fun _ : Unit => True) (fun E _ _ => (E = "java/lang/IllegalArgumentException" ∧ ¬ (0 ≤ x.toInt ∧ x.toInt ≤ 7)) ∨ (E = "java/util/NoSuchElementException" ∧ (0 ≤ x.toInt ∧ x.toInt ≤ 7))) A) (10) (60) A := by
  refine vx_ofW (cc := cX9_gradient) (maxL := 2) (ret := none) (by decide) rfl ?_
  intro p e s m args below meth c s₁ B hml htb hv
  obtain ⟨rfl, hsz, hP, hK, hD, hE⟩ := hv
  have hx := B.exec
  have hb := B.bytes
  have hr := B.returns
  have hts := atoms_spec (ws := wd_X9_gradient) B.pre
  have hown : s.vm.findClass RX9 = some m.cls := findClass_of_methodNamed B.named
  have hlocks := B.notSynchronized
  have bk0 : ∀ w ∈ wd_X9_checkName, w ∈ wd_X9_gradient := fun _ h => List.mem_cons_of_mem _ (List.mem_append_right _ (List.mem_append_left _ h))
  have bk1 : ∀ w ∈ wd_X9_checkKnown, w ∈ wd_X9_gradient := fun _ h => List.mem_cons_of_mem _ (List.mem_append_right _ (List.mem_append_right _ (List.mem_append_left _ h)))
  subst hsz
  have hA : ∀ q : Nat, s.heap.size ≤ q → A q := hA0
  have hS : va_S A s.heap s.heap [] := va_S.rf
  have hl := lv_entry ([.ref h0, .int x]) (n := 2) (Nat.le_of_ble_eq_true rfl)
  rw [lg_entry_eq]
  generalize (lg_sl ([.ref h0, .int x]) ++ List.replicate (2 - (lg_sl ([.ref h0, .int x])).length) Slot.unset).toArray = ls at hl ⊢
  have hl : lv_has ls 2 [(0, .ref h0), (1, .int x)] := hl
  refine lv_iload_n hx hb dX9_gradient_0 rfl (lv_at hl 1 rfl) ?_
  have hPc := hP.sub (ws' := []) [] rfl
  have hDc := hD.sub (ws' := []) [] (by decide) rfl
  have hKc := hK.sub (tys' := []) [] rfl
  have hFc := va_free (wc := []) hD hS hA [] rfl
  refine vx_callv (vx_runS (As := [.int x]) (rest := []) ⟨hx, hb, hml, hown, hts⟩ (c_X9_checkName l hlt dC dI (va_A [] s.heap.size) s.heap.size (fun _ h => Or.inr h) x ) (va_cwS 1 hts (goodIn_app (goodIn_r [Cond.methodLink RX9 115 yX9_checkName, Cond.static yX9_checkName, Cond.initialized RX9] [1, 2, 3] rfl rfl) (goodIn_sub (fun w9 h9 => bk0 w9 h9) gw_X9_checkName)) rfl rfl rfl (by decide +kernel) ⟨Nat.le_of_ble_eq_true rfl, Nat.le_of_ble_eq_true rfl⟩) ⟨fun a U g mk q => by obtain ⟨q0, q1, qP, qK, qD, qE⟩ := q; exact ⟨q0, q1, qP, va_K.moved (u := U) (U := U.calling g mk a) (Vm.Alike.refl U.vm) qK, qD, exF.same rfl rfl qE⟩, fun U hU hW => ⟨rfl, by rw [hU], by rw [hU]; exact hPc, va_K.moved hW.alike hKc, hDc.self, by rw [hU]; exact exF.warm hW ((exF.kept hE hS.2.1).narrow hFc)⟩⟩ rfl rfl hl.1 rfl (lv_room (Nat.le_of_ble_eq_true rfl)) dX9_gradient_1 ⟨(Nat.le_of_ble_eq_true rfl), (Nat.le_of_ble_eq_true rfl)⟩) hS (fun q _ h => hFc q h) hFc (fun q _ h => hFc q h) (fun E ce q9 u t H1 locs1 ht hvm hpx hbx hz1 hk1 hS hce hcv hcl => vx_out (fun x9 hx9 => (htb x9 hx9).elim) hlocks hce hcv hcl (fun t2 ht2 hvm2 => ⟨(), trivial, Or.inl ⟨hbx.1, by have := hbx.2; omega⟩, hS.F ht2⟩) hS.2.2 (Nat.le_of_ble_eq_true rfl) (Nat.le_of_ble_eq_true rfl)) (fun u t H1 locs ht hvm hw_1 hB hz1 hk1 hS => ?_)
  obtain ⟨⟩ := u
  obtain ⟨hP1, hK1, hD1⟩ := hB
  rw [ht] at hP1
  have hK1 := va_K.moved hvm.symm hK1
  try dsimp only at hw_1
  obtain ⟨hP, hD⟩ := va_join (wr := [(h0, .inr (12, [.ref (q 0), .ref (q 9), .ref (q 11), .ref (q 17), .ref (q 18), .ref (q 19), .ref (q 26), .ref (q 27), .ref (q 32), .ref (q 33), .ref (q 34), .int (-1)])), (q 32, .inl (k 8, 8, .inl (va_cpy (fun _ => -1) (fun _ => 0) 0 0 8)))]) (w1 := []) hP hD [] [0, 1] rfl rfl (by decide) (by decide) hk1 hFc hP1 hD1
  have hK := (hK.sub (tys' := [(k 8, .int)]) [0] rfl).app hK1
  generalize H1 = H at hP hS ⊢
  have hP : va_P (dC, dI) vwCl ([(h0, .inr (12, [.ref (q 0), .ref (q 9), .ref (q 11), .ref (q 17), .ref (q 18), .ref (q 19), .ref (q 26), .ref (q 27), .ref (q 32), .ref (q 33), .ref (q 34), .int (-1)])), (q 32, .inl (k 8, 8, .inl (va_cpy (fun _ => -1) (fun _ => 0) 0 0 8)))]) H := hP
  have hD : va_D A ([(h0, .inr (12, [.ref (q 0), .ref (q 9), .ref (q 11), .ref (q 17), .ref (q 18), .ref (q 19), .ref (q 26), .ref (q 27), .ref (q 32), .ref (q 33), .ref (q 34), .int (-1)])), (q 32, .inl (k 8, 8, .inl (va_cpy (fun _ => -1) (fun _ => 0) 0 0 8)))]) := hD
  have hK : va_K (dC, dI) vwCl [(k 8, .int)] s := hK
  refine W.cs (cells' := 1) (slots' := 6) (by omega) (by omega) ?_
  refine lv_aload_n hx hb dX9_gradient_4 rfl (lv_at hl 0 rfl) ?_
  refine lv_iload_n hx hb dX9_gradient_5 rfl (lv_at hl 1 rfl) ?_
  have hPc := hP.sub (ws' := [(h0, .inr (12, [.ref (q 0), .ref (q 9), .ref (q 11), .ref (q 17), .ref (q 18), .ref (q 19), .ref (q 26), .ref (q 27), .ref (q 32), .ref (q 33), .ref (q 34), .int (-1)])), (q 32, .inl (k 8, 8, .inl (va_cpy (fun _ => -1) (fun _ => 0) 0 0 8)))]) [0, 1] rfl
  have hDc := hD.sub (ws' := [(h0, .inr (12, [.ref (q 0), .ref (q 9), .ref (q 11), .ref (q 17), .ref (q 18), .ref (q 19), .ref (q 26), .ref (q 27), .ref (q 32), .ref (q 33), .ref (q 34), .int (-1)])), (q 32, .inl (k 8, 8, .inl (va_cpy (fun _ => -1) (fun _ => 0) 0 0 8)))]) [0, 1] (by decide) rfl
  have hKc := hK.sub (tys' := [(k 8, .int)]) [0] rfl
  have hFc := va_free (wc := [(h0, .inr (12, [.ref (q 0), .ref (q 9), .ref (q 11), .ref (q 17), .ref (q 18), .ref (q 19), .ref (q 26), .ref (q 27), .ref (q 32), .ref (q 33), .ref (q 34), .int (-1)])), (q 32, .inl (k 8, 8, .inl (va_cpy (fun _ => -1) (fun _ => 0) 0 0 8)))]) hD hS hA [0, 1] rfl
  refine vx_callv (vx_runV (As := [.int x]) (rest := []) ⟨hx, hb, hml, hown, hts⟩ (c_X9_checkKnown l hlt dC dI (va_A [(h0, .inr (12, [.ref (q 0), .ref (q 9), .ref (q 11), .ref (q 17), .ref (q 18), .ref (q 19), .ref (q 26), .ref (q 27), .ref (q 32), .ref (q 33), .ref (q 34), .int (-1)])), (q 32, .inl (k 8, 8, .inl (va_cpy (fun _ => -1) (fun _ => 0) 0 0 8)))] H.size) H.size (fun _ h => Or.inr h) h0 q k fr x (by omega) (by omega)) (cwV 1 hts (goodIn_app (goodIn_r [Cond.methodLink RX9 135 yX9_checkKnown, Cond.instanceMethod yX9_checkKnown, Cond.selects RX9 yX9_checkKnown yX9_checkKnown, Cond.initialized RX9] [4, 5, 6, 3] rfl rfl) (goodIn_sub (fun w9 h9 => bk1 w9 h9) gw_X9_checkKnown)) rfl rfl rfl (by decide +kernel) ⟨Nat.le_of_ble_eq_true rfl, Nat.le_of_ble_eq_true rfl⟩) ⟨fun a U g mk q => by obtain ⟨q0, q1, qP, qK, qD, qE⟩ := q; exact ⟨q0, q1, qP, va_K.moved (u := U) (U := U.calling g mk a) (Vm.Alike.refl U.vm) qK, qD, exF.same rfl rfl qE⟩, va_recv hKc hPc (ci := 12) (q0 := 0) rfl rfl, fun U hU hW => ⟨rfl, by rw [hU], by rw [hU]; exact hPc, va_K.moved hW.alike hKc, hDc.self, by rw [hU]; exact exF.warm hW ((exF.kept hE hS.2.1).narrow hFc)⟩⟩ rfl rfl hl.1 rfl (lv_room (Nat.le_of_ble_eq_true rfl)) dX9_gradient_6 ⟨(Nat.le_of_ble_eq_true rfl), (Nat.le_of_ble_eq_true rfl)⟩) hS (fun q _ h => hFc q h) hFc (fun q _ h => hFc q h) (fun E ce q9 u t H1 locs1 ht hvm hpx hbx hz1 hk1 hS hce hcv hcl => vx_out (fun x9 hx9 => (htb x9 hx9).elim) hlocks hce hcv hcl (fun t2 ht2 hvm2 => ⟨(), trivial, Or.inr ⟨hbx, by omega⟩, hS.F ht2⟩) hS.2.2 (Nat.le_of_ble_eq_true rfl) (Nat.le_of_ble_eq_true rfl)) (fun u t H1 locs ht hvm hw_2 hB hz1 hk1 hS => ?_)
  exact (by obtain ⟨⟩ := u; exact hw_2 : False).elim
def wd_X9_along : List Cond := .code yX9_along cX9_along 5 none :: (([.methodLink RX9 115 yX9_checkName, .static yX9_checkName, .initialized RX9, .methodLink RX9 198 yX9_checkStep, .static yX9_checkStep, .methodLink RX9 135 yX9_checkKnown, .instanceMethod yX9_checkKnown, .selects RX9 yX9_checkKnown yX9_checkKnown] : List Cond) ++ (wd_X9_checkName ++ (wd_X9_checkStep ++ (wd_X9_checkKnown ++ ([])))))
theorem gw_X9_along : wd_X9_along.all goodWord = true := k_allc rfl (k_all (by decide +kernel) (k_all (gw_X9_checkName) (k_all (gw_X9_checkStep) (k_all (gw_X9_checkKnown) (rfl)))))
abbrev at_X9_along (dC : Nat → ClassId) (dI : Nat → Nat → Nat) (A : Nat → Prop) (h0 : Nat) (q : Nat → Nat) (k : Nat → ClassId) (fr : Nat → Option Nat) (x : Int32) (x1 : Int32) (x2 : Int32) (x3 : Int32) (u : Unit) (t : State) : Prop := match u with
  | () => va_P (dC, dI) vwCl [] t.heap ∧ va_K (dC, dI) vwCl [] t ∧ va_D A []
set_option maxHeartbeats 4000000 in
set_option maxRecDepth 100000 in
theorem c_X9_along (l : Launch) (hlt : l.stackTraces = false) (dC : Nat → ClassId) (dI : Nat → Nat → Nat) (A : Nat → Prop) (sz : Nat) (hA0 : ∀ q, sz ≤ q → A q) (h0 : Nat) (q : Nat → Nat) (k : Nat → ClassId) (fr : Nat → Option Nat) (x : Int32) (x1 : Int32) (x2 : Int32) (x3 : Int32)  : vx_Met l yX9_along wd_X9_along ({ frames := 20, cells := 10, slots := 60, locals := 400 }) (va_Pc [.ref h0, .int x, .int x1, .int x2, .int x3] (fun U => U.heap.size = sz ∧ va_P (dC, dI) vwCl [(h0, .inr (12, [.ref (q 0), .ref (q 9), .ref (q 11), .ref (q 17), .ref (q 18), .ref (q 19), .ref (q 26), .ref (q 27), .ref (q 32), .ref (q 33), .ref (q 34), .int (-1)])), (q 32, .inl (k 8, 8, .inl (va_cpy (fun _ => -1) (fun _ => 0) 0 0 8)))] U.heap ∧ va_K (dC, dI) vwCl [(k 8, .int)] U ∧ va_D A [(h0, .inr (12, [.ref (q 0), .ref (q 9), .ref (q 11), .ref (q 17), .ref (q 18), .ref (q 19), .ref (q 26), .ref (q 27), .ref (q 32), .ref (q 33), .ref (q 34), .int (-1)])), (q 32, .inl (k 8, 8, .inl (va_cpy (fun _ => -1) (fun _ => 0) 0 0 8)))] ∧ exF A U U.heap)) (va_Qv (fun (u : Unit) => match u with | () => False) (at_X9_along dC dI A h0 q k fr x x1 x2 x3) A) (vx_X (fun _ : Unit => True) (fun E _ _ => (E = "java/lang/IllegalArgumentException" ∧ ¬ ((0 ≤ x.toInt ∧ x.toInt ≤ 7) ∧ (-999 ≤ x1.toInt ∧ x1.toInt ≤ 999) ∧ (-999 ≤ x2.toInt ∧ x2.toInt ≤ 999) ∧ (-999 ≤ x3.toInt ∧ x3.toInt ≤ 999))) ∨ (E = "java/util/NoSuchElementException" ∧ ((0 ≤ x.toInt ∧ x.toInt ≤ 7) ∧ (-999 ≤ x1.toInt ∧ x1.toInt ≤ 999) ∧ (-999 ≤ x2.toInt ∧ x2.toInt ≤ 999) ∧ (-999 ≤ x3.toInt ∧ x3.toInt ≤ 999)))) A) (10) (60) A := by
  refine vx_ofW (cc := cX9_along) (maxL := 5) (ret := none) (by decide) rfl ?_
  intro p e s m args below meth c s₁ B hml htb hv
  obtain ⟨rfl, hsz, hP, hK, hD, hE⟩ := hv
  have hx := B.exec
  have hb := B.bytes
  have hr := B.returns
  have hts := atoms_spec (ws := wd_X9_along) B.pre
  have hown : s.vm.findClass RX9 = some m.cls := findClass_of_methodNamed B.named
  have hlocks := B.notSynchronized
  have bk0 : ∀ w ∈ wd_X9_checkName, w ∈ wd_X9_along := fun _ h => List.mem_cons_of_mem _ (List.mem_append_right _ (List.mem_append_left _ h))
  have bk1 : ∀ w ∈ wd_X9_checkStep, w ∈ wd_X9_along := fun _ h => List.mem_cons_of_mem _ (List.mem_append_right _ (List.mem_append_right _ (List.mem_append_left _ h)))
  have bk2 : ∀ w ∈ wd_X9_checkKnown, w ∈ wd_X9_along := fun _ h => List.mem_cons_of_mem _ (List.mem_append_right _ (List.mem_append_right _ (List.mem_append_right _ (List.mem_append_left _ h))))
  subst hsz
  have hA : ∀ q : Nat, s.heap.size ≤ q → A q := hA0
  have hS : va_S A s.heap s.heap [] := va_S.rf
  have hl := lv_entry ([.ref h0, .int x, .int x1, .int x2, .int x3]) (n := 5) (Nat.le_of_ble_eq_true rfl)
  rw [lg_entry_eq]
  generalize (lg_sl ([.ref h0, .int x, .int x1, .int x2, .int x3]) ++ List.replicate (5 - (lg_sl ([.ref h0, .int x, .int x1, .int x2, .int x3])).length) Slot.unset).toArray = ls at hl ⊢
  have hl : lv_has ls 5 [(0, .ref h0), (1, .int x), (2, .int x1), (3, .int x2), (4, .int x3)] := hl
  refine lv_iload_n hx hb dX9_along_0 rfl (lv_at hl 1 rfl) ?_
  have hPc := hP.sub (ws' := []) [] rfl
  have hDc := hD.sub (ws' := []) [] (by decide) rfl
  have hKc := hK.sub (tys' := []) [] rfl
  have hFc := va_free (wc := []) hD hS hA [] rfl
  refine vx_callv (vx_runS (As := [.int x]) (rest := []) ⟨hx, hb, hml, hown, hts⟩ (c_X9_checkName l hlt dC dI (va_A [] s.heap.size) s.heap.size (fun _ h => Or.inr h) x ) (va_cwS 1 hts (goodIn_app (goodIn_r [Cond.methodLink RX9 115 yX9_checkName, Cond.static yX9_checkName, Cond.initialized RX9] [1, 2, 3] rfl rfl) (goodIn_sub (fun w9 h9 => bk0 w9 h9) gw_X9_checkName)) rfl rfl rfl (by decide +kernel) ⟨Nat.le_of_ble_eq_true rfl, Nat.le_of_ble_eq_true rfl⟩) ⟨fun a U g mk q => by obtain ⟨q0, q1, qP, qK, qD, qE⟩ := q; exact ⟨q0, q1, qP, va_K.moved (u := U) (U := U.calling g mk a) (Vm.Alike.refl U.vm) qK, qD, exF.same rfl rfl qE⟩, fun U hU hW => ⟨rfl, by rw [hU], by rw [hU]; exact hPc, va_K.moved hW.alike hKc, hDc.self, by rw [hU]; exact exF.warm hW ((exF.kept hE hS.2.1).narrow hFc)⟩⟩ rfl rfl hl.1 rfl (lv_room (Nat.le_of_ble_eq_true rfl)) dX9_along_1 ⟨(Nat.le_of_ble_eq_true rfl), (Nat.le_of_ble_eq_true rfl)⟩) hS (fun q _ h => hFc q h) hFc (fun q _ h => hFc q h) (fun E ce q9 u t H1 locs1 ht hvm hpx hbx hz1 hk1 hS hce hcv hcl => vx_out (fun x9 hx9 => (htb x9 hx9).elim) hlocks hce hcv hcl (fun t2 ht2 hvm2 => ⟨(), trivial, Or.inl ⟨hbx.1, by have := hbx.2; omega⟩, hS.F ht2⟩) hS.2.2 (Nat.le_of_ble_eq_true rfl) (Nat.le_of_ble_eq_true rfl)) (fun u t H1 locs ht hvm hw_1 hB hz1 hk1 hS => ?_)
  obtain ⟨⟩ := u
  obtain ⟨hP1, hK1, hD1⟩ := hB
  rw [ht] at hP1
  have hK1 := va_K.moved hvm.symm hK1
  try dsimp only at hw_1
  obtain ⟨hP, hD⟩ := va_join (wr := [(h0, .inr (12, [.ref (q 0), .ref (q 9), .ref (q 11), .ref (q 17), .ref (q 18), .ref (q 19), .ref (q 26), .ref (q 27), .ref (q 32), .ref (q 33), .ref (q 34), .int (-1)])), (q 32, .inl (k 8, 8, .inl (va_cpy (fun _ => -1) (fun _ => 0) 0 0 8)))]) (w1 := []) hP hD [] [0, 1] rfl rfl (by decide) (by decide) hk1 hFc hP1 hD1
  have hK := (hK.sub (tys' := [(k 8, .int)]) [0] rfl).app hK1
  generalize H1 = H at hP hS ⊢
  have hP : va_P (dC, dI) vwCl ([(h0, .inr (12, [.ref (q 0), .ref (q 9), .ref (q 11), .ref (q 17), .ref (q 18), .ref (q 19), .ref (q 26), .ref (q 27), .ref (q 32), .ref (q 33), .ref (q 34), .int (-1)])), (q 32, .inl (k 8, 8, .inl (va_cpy (fun _ => -1) (fun _ => 0) 0 0 8)))]) H := hP
  have hD : va_D A ([(h0, .inr (12, [.ref (q 0), .ref (q 9), .ref (q 11), .ref (q 17), .ref (q 18), .ref (q 19), .ref (q 26), .ref (q 27), .ref (q 32), .ref (q 33), .ref (q 34), .int (-1)])), (q 32, .inl (k 8, 8, .inl (va_cpy (fun _ => -1) (fun _ => 0) 0 0 8)))]) := hD
  have hK : va_K (dC, dI) vwCl [(k 8, .int)] s := hK
  refine W.cs (cells' := 1) (slots' := 6) (by omega) (by omega) ?_
  refine lv_iload_n hx hb dX9_along_4 rfl (lv_at hl 2 rfl) ?_
  have hPc := hP.sub (ws' := []) [] rfl
  have hDc := hD.sub (ws' := []) [] (by decide) rfl
  have hKc := hK.sub (tys' := []) [] rfl
  have hFc := va_free (wc := []) hD hS hA [] rfl
  refine vx_callv (vx_runS (As := [.int x1]) (rest := []) ⟨hx, hb, hml, hown, hts⟩ (c_X9_checkStep l hlt dC dI (va_A [] H.size) H.size (fun _ h => Or.inr h) x1 ) (va_cwS 1 hts (goodIn_app (goodIn_r [Cond.methodLink RX9 198 yX9_checkStep, Cond.static yX9_checkStep, Cond.initialized RX9] [4, 5, 3] rfl rfl) (goodIn_sub (fun w9 h9 => bk1 w9 h9) gw_X9_checkStep)) rfl rfl rfl (by decide +kernel) ⟨Nat.le_of_ble_eq_true rfl, Nat.le_of_ble_eq_true rfl⟩) ⟨fun a U g mk q => by obtain ⟨q0, q1, qP, qK, qD, qE⟩ := q; exact ⟨q0, q1, qP, va_K.moved (u := U) (U := U.calling g mk a) (Vm.Alike.refl U.vm) qK, qD, exF.same rfl rfl qE⟩, fun U hU hW => ⟨rfl, by rw [hU], by rw [hU]; exact hPc, va_K.moved hW.alike hKc, hDc.self, by rw [hU]; exact exF.warm hW ((exF.kept hE hS.2.1).narrow hFc)⟩⟩ rfl rfl hl.1 rfl (lv_room (Nat.le_of_ble_eq_true rfl)) dX9_along_5 ⟨(Nat.le_of_ble_eq_true rfl), (Nat.le_of_ble_eq_true rfl)⟩) hS (fun q _ h => hFc q h) hFc (fun q _ h => hFc q h) (fun E ce q9 u t H1 locs1 ht hvm hpx hbx hz1 hk1 hS hce hcv hcl => vx_out (fun x9 hx9 => (htb x9 hx9).elim) hlocks hce hcv hcl (fun t2 ht2 hvm2 => ⟨(), trivial, Or.inl ⟨hbx.1, by have := hbx.2; omega⟩, hS.F ht2⟩) hS.2.2 (Nat.le_of_ble_eq_true rfl) (Nat.le_of_ble_eq_true rfl)) (fun u t H1 locs ht hvm hw_2 hB hz1 hk1 hS => ?_)
  obtain ⟨⟩ := u
  obtain ⟨hP1, hK1, hD1⟩ := hB
  rw [ht] at hP1
  have hK1 := va_K.moved hvm.symm hK1
  try dsimp only at hw_2
  obtain ⟨hP, hD⟩ := va_join (wr := [(h0, .inr (12, [.ref (q 0), .ref (q 9), .ref (q 11), .ref (q 17), .ref (q 18), .ref (q 19), .ref (q 26), .ref (q 27), .ref (q 32), .ref (q 33), .ref (q 34), .int (-1)])), (q 32, .inl (k 8, 8, .inl (va_cpy (fun _ => -1) (fun _ => 0) 0 0 8)))]) (w1 := []) hP hD [] [0, 1] rfl rfl (by decide) (by decide) hk1 hFc hP1 hD1
  have hK := (hK.sub (tys' := [(k 8, .int)]) [0] rfl).app hK1
  generalize H1 = H at hP hS ⊢
  have hP : va_P (dC, dI) vwCl ([(h0, .inr (12, [.ref (q 0), .ref (q 9), .ref (q 11), .ref (q 17), .ref (q 18), .ref (q 19), .ref (q 26), .ref (q 27), .ref (q 32), .ref (q 33), .ref (q 34), .int (-1)])), (q 32, .inl (k 8, 8, .inl (va_cpy (fun _ => -1) (fun _ => 0) 0 0 8)))]) H := hP
  have hD : va_D A ([(h0, .inr (12, [.ref (q 0), .ref (q 9), .ref (q 11), .ref (q 17), .ref (q 18), .ref (q 19), .ref (q 26), .ref (q 27), .ref (q 32), .ref (q 33), .ref (q 34), .int (-1)])), (q 32, .inl (k 8, 8, .inl (va_cpy (fun _ => -1) (fun _ => 0) 0 0 8)))]) := hD
  have hK : va_K (dC, dI) vwCl [(k 8, .int)] s := hK
  refine W.cs (cells' := 2) (slots' := 12) (by omega) (by omega) ?_
  refine lv_iload_n hx hb dX9_along_8 rfl (lv_at hl 3 rfl) ?_
  have hPc := hP.sub (ws' := []) [] rfl
  have hDc := hD.sub (ws' := []) [] (by decide) rfl
  have hKc := hK.sub (tys' := []) [] rfl
  have hFc := va_free (wc := []) hD hS hA [] rfl
  refine vx_callv (vx_runS (As := [.int x2]) (rest := []) ⟨hx, hb, hml, hown, hts⟩ (c_X9_checkStep l hlt dC dI (va_A [] H.size) H.size (fun _ h => Or.inr h) x2 ) (va_cwS 1 hts (goodIn_app (goodIn_r [Cond.methodLink RX9 198 yX9_checkStep, Cond.static yX9_checkStep, Cond.initialized RX9] [4, 5, 3] rfl rfl) (goodIn_sub (fun w9 h9 => bk1 w9 h9) gw_X9_checkStep)) rfl rfl rfl (by decide +kernel) ⟨Nat.le_of_ble_eq_true rfl, Nat.le_of_ble_eq_true rfl⟩) ⟨fun a U g mk q => by obtain ⟨q0, q1, qP, qK, qD, qE⟩ := q; exact ⟨q0, q1, qP, va_K.moved (u := U) (U := U.calling g mk a) (Vm.Alike.refl U.vm) qK, qD, exF.same rfl rfl qE⟩, fun U hU hW => ⟨rfl, by rw [hU], by rw [hU]; exact hPc, va_K.moved hW.alike hKc, hDc.self, by rw [hU]; exact exF.warm hW ((exF.kept hE hS.2.1).narrow hFc)⟩⟩ rfl rfl hl.1 rfl (lv_room (Nat.le_of_ble_eq_true rfl)) dX9_along_9 ⟨(Nat.le_of_ble_eq_true rfl), (Nat.le_of_ble_eq_true rfl)⟩) hS (fun q _ h => hFc q h) hFc (fun q _ h => hFc q h) (fun E ce q9 u t H1 locs1 ht hvm hpx hbx hz1 hk1 hS hce hcv hcl => vx_out (fun x9 hx9 => (htb x9 hx9).elim) hlocks hce hcv hcl (fun t2 ht2 hvm2 => ⟨(), trivial, Or.inl ⟨hbx.1, by have := hbx.2; omega⟩, hS.F ht2⟩) hS.2.2 (Nat.le_of_ble_eq_true rfl) (Nat.le_of_ble_eq_true rfl)) (fun u t H1 locs ht hvm hw_3 hB hz1 hk1 hS => ?_)
  obtain ⟨⟩ := u
  obtain ⟨hP1, hK1, hD1⟩ := hB
  rw [ht] at hP1
  have hK1 := va_K.moved hvm.symm hK1
  try dsimp only at hw_3
  obtain ⟨hP, hD⟩ := va_join (wr := [(h0, .inr (12, [.ref (q 0), .ref (q 9), .ref (q 11), .ref (q 17), .ref (q 18), .ref (q 19), .ref (q 26), .ref (q 27), .ref (q 32), .ref (q 33), .ref (q 34), .int (-1)])), (q 32, .inl (k 8, 8, .inl (va_cpy (fun _ => -1) (fun _ => 0) 0 0 8)))]) (w1 := []) hP hD [] [0, 1] rfl rfl (by decide) (by decide) hk1 hFc hP1 hD1
  have hK := (hK.sub (tys' := [(k 8, .int)]) [0] rfl).app hK1
  generalize H1 = H at hP hS ⊢
  have hP : va_P (dC, dI) vwCl ([(h0, .inr (12, [.ref (q 0), .ref (q 9), .ref (q 11), .ref (q 17), .ref (q 18), .ref (q 19), .ref (q 26), .ref (q 27), .ref (q 32), .ref (q 33), .ref (q 34), .int (-1)])), (q 32, .inl (k 8, 8, .inl (va_cpy (fun _ => -1) (fun _ => 0) 0 0 8)))]) H := hP
  have hD : va_D A ([(h0, .inr (12, [.ref (q 0), .ref (q 9), .ref (q 11), .ref (q 17), .ref (q 18), .ref (q 19), .ref (q 26), .ref (q 27), .ref (q 32), .ref (q 33), .ref (q 34), .int (-1)])), (q 32, .inl (k 8, 8, .inl (va_cpy (fun _ => -1) (fun _ => 0) 0 0 8)))]) := hD
  have hK : va_K (dC, dI) vwCl [(k 8, .int)] s := hK
  refine W.cs (cells' := 3) (slots' := 18) (by omega) (by omega) ?_
  refine lv_iload hx hb dX9_along_12 (lv_at hl 4 rfl) ?_
  have hPc := hP.sub (ws' := []) [] rfl
  have hDc := hD.sub (ws' := []) [] (by decide) rfl
  have hKc := hK.sub (tys' := []) [] rfl
  have hFc := va_free (wc := []) hD hS hA [] rfl
  refine vx_callv (vx_runS (As := [.int x3]) (rest := []) ⟨hx, hb, hml, hown, hts⟩ (c_X9_checkStep l hlt dC dI (va_A [] H.size) H.size (fun _ h => Or.inr h) x3 ) (va_cwS 1 hts (goodIn_app (goodIn_r [Cond.methodLink RX9 198 yX9_checkStep, Cond.static yX9_checkStep, Cond.initialized RX9] [4, 5, 3] rfl rfl) (goodIn_sub (fun w9 h9 => bk1 w9 h9) gw_X9_checkStep)) rfl rfl rfl (by decide +kernel) ⟨Nat.le_of_ble_eq_true rfl, Nat.le_of_ble_eq_true rfl⟩) ⟨fun a U g mk q => by obtain ⟨q0, q1, qP, qK, qD, qE⟩ := q; exact ⟨q0, q1, qP, va_K.moved (u := U) (U := U.calling g mk a) (Vm.Alike.refl U.vm) qK, qD, exF.same rfl rfl qE⟩, fun U hU hW => ⟨rfl, by rw [hU], by rw [hU]; exact hPc, va_K.moved hW.alike hKc, hDc.self, by rw [hU]; exact exF.warm hW ((exF.kept hE hS.2.1).narrow hFc)⟩⟩ rfl rfl hl.1 rfl (lv_room (Nat.le_of_ble_eq_true rfl)) dX9_along_14 ⟨(Nat.le_of_ble_eq_true rfl), (Nat.le_of_ble_eq_true rfl)⟩) hS (fun q _ h => hFc q h) hFc (fun q _ h => hFc q h) (fun E ce q9 u t H1 locs1 ht hvm hpx hbx hz1 hk1 hS hce hcv hcl => vx_out (fun x9 hx9 => (htb x9 hx9).elim) hlocks hce hcv hcl (fun t2 ht2 hvm2 => ⟨(), trivial, Or.inl ⟨hbx.1, by have := hbx.2; omega⟩, hS.F ht2⟩) hS.2.2 (Nat.le_of_ble_eq_true rfl) (Nat.le_of_ble_eq_true rfl)) (fun u t H1 locs ht hvm hw_4 hB hz1 hk1 hS => ?_)
  obtain ⟨⟩ := u
  obtain ⟨hP1, hK1, hD1⟩ := hB
  rw [ht] at hP1
  have hK1 := va_K.moved hvm.symm hK1
  try dsimp only at hw_4
  obtain ⟨hP, hD⟩ := va_join (wr := [(h0, .inr (12, [.ref (q 0), .ref (q 9), .ref (q 11), .ref (q 17), .ref (q 18), .ref (q 19), .ref (q 26), .ref (q 27), .ref (q 32), .ref (q 33), .ref (q 34), .int (-1)])), (q 32, .inl (k 8, 8, .inl (va_cpy (fun _ => -1) (fun _ => 0) 0 0 8)))]) (w1 := []) hP hD [] [0, 1] rfl rfl (by decide) (by decide) hk1 hFc hP1 hD1
  have hK := (hK.sub (tys' := [(k 8, .int)]) [0] rfl).app hK1
  generalize H1 = H at hP hS ⊢
  have hP : va_P (dC, dI) vwCl ([(h0, .inr (12, [.ref (q 0), .ref (q 9), .ref (q 11), .ref (q 17), .ref (q 18), .ref (q 19), .ref (q 26), .ref (q 27), .ref (q 32), .ref (q 33), .ref (q 34), .int (-1)])), (q 32, .inl (k 8, 8, .inl (va_cpy (fun _ => -1) (fun _ => 0) 0 0 8)))]) H := hP
  have hD : va_D A ([(h0, .inr (12, [.ref (q 0), .ref (q 9), .ref (q 11), .ref (q 17), .ref (q 18), .ref (q 19), .ref (q 26), .ref (q 27), .ref (q 32), .ref (q 33), .ref (q 34), .int (-1)])), (q 32, .inl (k 8, 8, .inl (va_cpy (fun _ => -1) (fun _ => 0) 0 0 8)))]) := hD
  have hK : va_K (dC, dI) vwCl [(k 8, .int)] s := hK
  refine W.cs (cells' := 4) (slots' := 24) (by omega) (by omega) ?_
  refine lv_aload_n hx hb dX9_along_17 rfl (lv_at hl 0 rfl) ?_
  refine lv_iload_n hx hb dX9_along_18 rfl (lv_at hl 1 rfl) ?_
  have hPc := hP.sub (ws' := [(h0, .inr (12, [.ref (q 0), .ref (q 9), .ref (q 11), .ref (q 17), .ref (q 18), .ref (q 19), .ref (q 26), .ref (q 27), .ref (q 32), .ref (q 33), .ref (q 34), .int (-1)])), (q 32, .inl (k 8, 8, .inl (va_cpy (fun _ => -1) (fun _ => 0) 0 0 8)))]) [0, 1] rfl
  have hDc := hD.sub (ws' := [(h0, .inr (12, [.ref (q 0), .ref (q 9), .ref (q 11), .ref (q 17), .ref (q 18), .ref (q 19), .ref (q 26), .ref (q 27), .ref (q 32), .ref (q 33), .ref (q 34), .int (-1)])), (q 32, .inl (k 8, 8, .inl (va_cpy (fun _ => -1) (fun _ => 0) 0 0 8)))]) [0, 1] (by decide) rfl
  have hKc := hK.sub (tys' := [(k 8, .int)]) [0] rfl
  have hFc := va_free (wc := [(h0, .inr (12, [.ref (q 0), .ref (q 9), .ref (q 11), .ref (q 17), .ref (q 18), .ref (q 19), .ref (q 26), .ref (q 27), .ref (q 32), .ref (q 33), .ref (q 34), .int (-1)])), (q 32, .inl (k 8, 8, .inl (va_cpy (fun _ => -1) (fun _ => 0) 0 0 8)))]) hD hS hA [0, 1] rfl
  refine vx_callv (vx_runV (As := [.int x]) (rest := []) ⟨hx, hb, hml, hown, hts⟩ (c_X9_checkKnown l hlt dC dI (va_A [(h0, .inr (12, [.ref (q 0), .ref (q 9), .ref (q 11), .ref (q 17), .ref (q 18), .ref (q 19), .ref (q 26), .ref (q 27), .ref (q 32), .ref (q 33), .ref (q 34), .int (-1)])), (q 32, .inl (k 8, 8, .inl (va_cpy (fun _ => -1) (fun _ => 0) 0 0 8)))] H.size) H.size (fun _ h => Or.inr h) h0 q k fr x (by omega) (by omega)) (cwV 1 hts (goodIn_app (goodIn_r [Cond.methodLink RX9 135 yX9_checkKnown, Cond.instanceMethod yX9_checkKnown, Cond.selects RX9 yX9_checkKnown yX9_checkKnown, Cond.initialized RX9] [6, 7, 8, 3] rfl rfl) (goodIn_sub (fun w9 h9 => bk2 w9 h9) gw_X9_checkKnown)) rfl rfl rfl (by decide +kernel) ⟨Nat.le_of_ble_eq_true rfl, Nat.le_of_ble_eq_true rfl⟩) ⟨fun a U g mk q => by obtain ⟨q0, q1, qP, qK, qD, qE⟩ := q; exact ⟨q0, q1, qP, va_K.moved (u := U) (U := U.calling g mk a) (Vm.Alike.refl U.vm) qK, qD, exF.same rfl rfl qE⟩, va_recv hKc hPc (ci := 12) (q0 := 0) rfl rfl, fun U hU hW => ⟨rfl, by rw [hU], by rw [hU]; exact hPc, va_K.moved hW.alike hKc, hDc.self, by rw [hU]; exact exF.warm hW ((exF.kept hE hS.2.1).narrow hFc)⟩⟩ rfl rfl hl.1 rfl (lv_room (Nat.le_of_ble_eq_true rfl)) dX9_along_19 ⟨(Nat.le_of_ble_eq_true rfl), (Nat.le_of_ble_eq_true rfl)⟩) hS (fun q _ h => hFc q h) hFc (fun q _ h => hFc q h) (fun E ce q9 u t H1 locs1 ht hvm hpx hbx hz1 hk1 hS hce hcv hcl => vx_out (fun x9 hx9 => (htb x9 hx9).elim) hlocks hce hcv hcl (fun t2 ht2 hvm2 => ⟨(), trivial, Or.inr ⟨hbx, by omega⟩, hS.F ht2⟩) hS.2.2 (Nat.le_of_ble_eq_true rfl) (Nat.le_of_ble_eq_true rfl)) (fun u t H1 locs ht hvm hw_5 hB hz1 hk1 hS => ?_)
  exact (by obtain ⟨⟩ := u; exact hw_5 : False).elim
def wd_X9_derive : List Cond := .code yX9_derive cX9_derive 6 (some .int) :: (([.methodLink RX9 115 yX9_checkName, .static yX9_checkName, .initialized RX9, .methodLink RX9 132 yX9_checkVariable, .static yX9_checkVariable, .methodLink RX9 135 yX9_checkKnown, .instanceMethod yX9_checkKnown, .selects RX9 yX9_checkKnown yX9_checkKnown] : List Cond) ++ (wd_X9_checkName ++ (wd_X9_checkVariable ++ (wd_X9_checkKnown ++ ([])))))
theorem gw_X9_derive : wd_X9_derive.all goodWord = true := k_allc rfl (k_all (by decide +kernel) (k_all (gw_X9_checkName) (k_all (gw_X9_checkVariable) (k_all (gw_X9_checkKnown) (rfl)))))
abbrev at_X9_derive (dC : Nat → ClassId) (dI : Nat → Nat → Nat) (A : Nat → Prop) (h0 : Nat) (q : Nat → Nat) (k : Nat → ClassId) (fr : Nat → Option Nat) (x : Int32) (x1 : Int32) (x2 : Int32) (u : Unit) (t : State) : Prop := match u with
  | () => va_P (dC, dI) vwCl [] t.heap ∧ va_K (dC, dI) vwCl [] t ∧ va_D A []
set_option maxHeartbeats 4000000 in
set_option maxRecDepth 100000 in
theorem c_X9_derive (l : Launch) (hlt : l.stackTraces = false) (dC : Nat → ClassId) (dI : Nat → Nat → Nat) (A : Nat → Prop) (sz : Nat) (hA0 : ∀ q, sz ≤ q → A q) (h0 : Nat) (q : Nat → Nat) (k : Nat → ClassId) (fr : Nat → Option Nat) (x : Int32) (x1 : Int32) (x2 : Int32)  : vx_Met l yX9_derive wd_X9_derive ({ frames := 20, cells := 10, slots := 60, locals := 400 }) (va_Pc [.ref h0, .int x, .int x1, .int x2] (fun U => U.heap.size = sz ∧ va_P (dC, dI) vwCl [(h0, .inr (12, [.ref (q 0), .ref (q 9), .ref (q 11), .ref (q 17), .ref (q 18), .ref (q 19), .ref (q 26), .ref (q 27), .ref (q 32), .ref (q 33), .ref (q 34), .int (-1)])), (q 32, .inl (k 8, 8, .inl (va_cpy (fun _ => -1) (fun _ => 0) 0 0 8)))] U.heap ∧ va_K (dC, dI) vwCl [(k 8, .int)] U ∧ va_D A [(h0, .inr (12, [.ref (q 0), .ref (q 9), .ref (q 11), .ref (q 17), .ref (q 18), .ref (q 19), .ref (q 26), .ref (q 27), .ref (q 32), .ref (q 33), .ref (q 34), .int (-1)])), (q 32, .inl (k 8, 8, .inl (va_cpy (fun _ => -1) (fun _ => 0) 0 0 8)))] ∧ exF A U U.heap)) (va_Qi (fun (r : Int32) => fun (u : Unit) => match u with | () => False) (at_X9_derive dC dI A h0 q k fr x x1 x2) A) (vx_X (fun _ : Unit => True) (fun E _ _ => (E = "java/lang/IllegalArgumentException" ∧ ¬ ((0 ≤ x.toInt ∧ x.toInt ≤ 7) ∧ (0 ≤ x1.toInt ∧ x1.toInt ≤ 2) ∧ (0 ≤ x2.toInt ∧ x2.toInt ≤ 7))) ∨ (E = "java/util/NoSuchElementException" ∧ ((0 ≤ x.toInt ∧ x.toInt ≤ 7) ∧ (0 ≤ x1.toInt ∧ x1.toInt ≤ 2) ∧ (0 ≤ x2.toInt ∧ x2.toInt ≤ 7)))) A) (10) (60) A := by
  refine vx_ofW (cc := cX9_derive) (maxL := 6) (ret := (some .int)) (by decide) rfl ?_
  intro p e s m args below meth c s₁ B hml htb hv
  obtain ⟨rfl, hsz, hP, hK, hD, hE⟩ := hv
  have hx := B.exec
  have hb := B.bytes
  have hr := B.returns
  have hts := atoms_spec (ws := wd_X9_derive) B.pre
  have hown : s.vm.findClass RX9 = some m.cls := findClass_of_methodNamed B.named
  have hlocks := B.notSynchronized
  have bk0 : ∀ w ∈ wd_X9_checkName, w ∈ wd_X9_derive := fun _ h => List.mem_cons_of_mem _ (List.mem_append_right _ (List.mem_append_left _ h))
  have bk1 : ∀ w ∈ wd_X9_checkVariable, w ∈ wd_X9_derive := fun _ h => List.mem_cons_of_mem _ (List.mem_append_right _ (List.mem_append_right _ (List.mem_append_left _ h)))
  have bk2 : ∀ w ∈ wd_X9_checkKnown, w ∈ wd_X9_derive := fun _ h => List.mem_cons_of_mem _ (List.mem_append_right _ (List.mem_append_right _ (List.mem_append_right _ (List.mem_append_left _ h))))
  subst hsz
  have hA : ∀ q : Nat, s.heap.size ≤ q → A q := hA0
  have hS : va_S A s.heap s.heap [] := va_S.rf
  have hl := lv_entry ([.ref h0, .int x, .int x1, .int x2]) (n := 6) (Nat.le_of_ble_eq_true rfl)
  rw [lg_entry_eq]
  generalize (lg_sl ([.ref h0, .int x, .int x1, .int x2]) ++ List.replicate (6 - (lg_sl ([.ref h0, .int x, .int x1, .int x2])).length) Slot.unset).toArray = ls at hl ⊢
  have hl : lv_has ls 6 [(0, .ref h0), (1, .int x), (2, .int x1), (3, .int x2)] := hl
  refine lv_iload_n hx hb dX9_derive_0 rfl (lv_at hl 1 rfl) ?_
  have hPc := hP.sub (ws' := []) [] rfl
  have hDc := hD.sub (ws' := []) [] (by decide) rfl
  have hKc := hK.sub (tys' := []) [] rfl
  have hFc := va_free (wc := []) hD hS hA [] rfl
  refine vx_callv (vx_runS (As := [.int x]) (rest := []) ⟨hx, hb, hml, hown, hts⟩ (c_X9_checkName l hlt dC dI (va_A [] s.heap.size) s.heap.size (fun _ h => Or.inr h) x ) (va_cwS 1 hts (goodIn_app (goodIn_r [Cond.methodLink RX9 115 yX9_checkName, Cond.static yX9_checkName, Cond.initialized RX9] [1, 2, 3] rfl rfl) (goodIn_sub (fun w9 h9 => bk0 w9 h9) gw_X9_checkName)) rfl rfl rfl (by decide +kernel) ⟨Nat.le_of_ble_eq_true rfl, Nat.le_of_ble_eq_true rfl⟩) ⟨fun a U g mk q => by obtain ⟨q0, q1, qP, qK, qD, qE⟩ := q; exact ⟨q0, q1, qP, va_K.moved (u := U) (U := U.calling g mk a) (Vm.Alike.refl U.vm) qK, qD, exF.same rfl rfl qE⟩, fun U hU hW => ⟨rfl, by rw [hU], by rw [hU]; exact hPc, va_K.moved hW.alike hKc, hDc.self, by rw [hU]; exact exF.warm hW ((exF.kept hE hS.2.1).narrow hFc)⟩⟩ rfl rfl hl.1 rfl (lv_room (Nat.le_of_ble_eq_true rfl)) dX9_derive_1 ⟨(Nat.le_of_ble_eq_true rfl), (Nat.le_of_ble_eq_true rfl)⟩) hS (fun q _ h => hFc q h) hFc (fun q _ h => hFc q h) (fun E ce q9 u t H1 locs1 ht hvm hpx hbx hz1 hk1 hS hce hcv hcl => vx_out (fun x9 hx9 => (htb x9 hx9).elim) hlocks hce hcv hcl (fun t2 ht2 hvm2 => ⟨(), trivial, Or.inl ⟨hbx.1, by have := hbx.2; omega⟩, hS.F ht2⟩) hS.2.2 (Nat.le_of_ble_eq_true rfl) (Nat.le_of_ble_eq_true rfl)) (fun u t H1 locs ht hvm hw_1 hB hz1 hk1 hS => ?_)
  obtain ⟨⟩ := u
  obtain ⟨hP1, hK1, hD1⟩ := hB
  rw [ht] at hP1
  have hK1 := va_K.moved hvm.symm hK1
  try dsimp only at hw_1
  obtain ⟨hP, hD⟩ := va_join (wr := [(h0, .inr (12, [.ref (q 0), .ref (q 9), .ref (q 11), .ref (q 17), .ref (q 18), .ref (q 19), .ref (q 26), .ref (q 27), .ref (q 32), .ref (q 33), .ref (q 34), .int (-1)])), (q 32, .inl (k 8, 8, .inl (va_cpy (fun _ => -1) (fun _ => 0) 0 0 8)))]) (w1 := []) hP hD [] [0, 1] rfl rfl (by decide) (by decide) hk1 hFc hP1 hD1
  have hK := (hK.sub (tys' := [(k 8, .int)]) [0] rfl).app hK1
  generalize H1 = H at hP hS ⊢
  have hP : va_P (dC, dI) vwCl ([(h0, .inr (12, [.ref (q 0), .ref (q 9), .ref (q 11), .ref (q 17), .ref (q 18), .ref (q 19), .ref (q 26), .ref (q 27), .ref (q 32), .ref (q 33), .ref (q 34), .int (-1)])), (q 32, .inl (k 8, 8, .inl (va_cpy (fun _ => -1) (fun _ => 0) 0 0 8)))]) H := hP
  have hD : va_D A ([(h0, .inr (12, [.ref (q 0), .ref (q 9), .ref (q 11), .ref (q 17), .ref (q 18), .ref (q 19), .ref (q 26), .ref (q 27), .ref (q 32), .ref (q 33), .ref (q 34), .int (-1)])), (q 32, .inl (k 8, 8, .inl (va_cpy (fun _ => -1) (fun _ => 0) 0 0 8)))]) := hD
  have hK : va_K (dC, dI) vwCl [(k 8, .int)] s := hK
  refine W.cs (cells' := 1) (slots' := 6) (by omega) (by omega) ?_
  refine lv_iload_n hx hb dX9_derive_4 rfl (lv_at hl 2 rfl) ?_
  have hPc := hP.sub (ws' := []) [] rfl
  have hDc := hD.sub (ws' := []) [] (by decide) rfl
  have hKc := hK.sub (tys' := []) [] rfl
  have hFc := va_free (wc := []) hD hS hA [] rfl
  refine vx_callv (vx_runS (As := [.int x1]) (rest := []) ⟨hx, hb, hml, hown, hts⟩ (c_X9_checkVariable l hlt dC dI (va_A [] H.size) H.size (fun _ h => Or.inr h) x1 ) (va_cwS 1 hts (goodIn_app (goodIn_r [Cond.methodLink RX9 132 yX9_checkVariable, Cond.static yX9_checkVariable, Cond.initialized RX9] [4, 5, 3] rfl rfl) (goodIn_sub (fun w9 h9 => bk1 w9 h9) gw_X9_checkVariable)) rfl rfl rfl (by decide +kernel) ⟨Nat.le_of_ble_eq_true rfl, Nat.le_of_ble_eq_true rfl⟩) ⟨fun a U g mk q => by obtain ⟨q0, q1, qP, qK, qD, qE⟩ := q; exact ⟨q0, q1, qP, va_K.moved (u := U) (U := U.calling g mk a) (Vm.Alike.refl U.vm) qK, qD, exF.same rfl rfl qE⟩, fun U hU hW => ⟨rfl, by rw [hU], by rw [hU]; exact hPc, va_K.moved hW.alike hKc, hDc.self, by rw [hU]; exact exF.warm hW ((exF.kept hE hS.2.1).narrow hFc)⟩⟩ rfl rfl hl.1 rfl (lv_room (Nat.le_of_ble_eq_true rfl)) dX9_derive_5 ⟨(Nat.le_of_ble_eq_true rfl), (Nat.le_of_ble_eq_true rfl)⟩) hS (fun q _ h => hFc q h) hFc (fun q _ h => hFc q h) (fun E ce q9 u t H1 locs1 ht hvm hpx hbx hz1 hk1 hS hce hcv hcl => vx_out (fun x9 hx9 => (htb x9 hx9).elim) hlocks hce hcv hcl (fun t2 ht2 hvm2 => ⟨(), trivial, Or.inl ⟨hbx.1, by have := hbx.2; omega⟩, hS.F ht2⟩) hS.2.2 (Nat.le_of_ble_eq_true rfl) (Nat.le_of_ble_eq_true rfl)) (fun u t H1 locs ht hvm hw_2 hB hz1 hk1 hS => ?_)
  obtain ⟨⟩ := u
  obtain ⟨hP1, hK1, hD1⟩ := hB
  rw [ht] at hP1
  have hK1 := va_K.moved hvm.symm hK1
  try dsimp only at hw_2
  obtain ⟨hP, hD⟩ := va_join (wr := [(h0, .inr (12, [.ref (q 0), .ref (q 9), .ref (q 11), .ref (q 17), .ref (q 18), .ref (q 19), .ref (q 26), .ref (q 27), .ref (q 32), .ref (q 33), .ref (q 34), .int (-1)])), (q 32, .inl (k 8, 8, .inl (va_cpy (fun _ => -1) (fun _ => 0) 0 0 8)))]) (w1 := []) hP hD [] [0, 1] rfl rfl (by decide) (by decide) hk1 hFc hP1 hD1
  have hK := (hK.sub (tys' := [(k 8, .int)]) [0] rfl).app hK1
  generalize H1 = H at hP hS ⊢
  have hP : va_P (dC, dI) vwCl ([(h0, .inr (12, [.ref (q 0), .ref (q 9), .ref (q 11), .ref (q 17), .ref (q 18), .ref (q 19), .ref (q 26), .ref (q 27), .ref (q 32), .ref (q 33), .ref (q 34), .int (-1)])), (q 32, .inl (k 8, 8, .inl (va_cpy (fun _ => -1) (fun _ => 0) 0 0 8)))]) H := hP
  have hD : va_D A ([(h0, .inr (12, [.ref (q 0), .ref (q 9), .ref (q 11), .ref (q 17), .ref (q 18), .ref (q 19), .ref (q 26), .ref (q 27), .ref (q 32), .ref (q 33), .ref (q 34), .int (-1)])), (q 32, .inl (k 8, 8, .inl (va_cpy (fun _ => -1) (fun _ => 0) 0 0 8)))]) := hD
  have hK : va_K (dC, dI) vwCl [(k 8, .int)] s := hK
  refine W.cs (cells' := 2) (slots' := 12) (by omega) (by omega) ?_
  refine lv_iload_n hx hb dX9_derive_8 rfl (lv_at hl 3 rfl) ?_
  have hPc := hP.sub (ws' := []) [] rfl
  have hDc := hD.sub (ws' := []) [] (by decide) rfl
  have hKc := hK.sub (tys' := []) [] rfl
  have hFc := va_free (wc := []) hD hS hA [] rfl
  refine vx_callv (vx_runS (As := [.int x2]) (rest := []) ⟨hx, hb, hml, hown, hts⟩ (c_X9_checkName l hlt dC dI (va_A [] H.size) H.size (fun _ h => Or.inr h) x2 ) (va_cwS 1 hts (goodIn_app (goodIn_r [Cond.methodLink RX9 115 yX9_checkName, Cond.static yX9_checkName, Cond.initialized RX9] [1, 2, 3] rfl rfl) (goodIn_sub (fun w9 h9 => bk0 w9 h9) gw_X9_checkName)) rfl rfl rfl (by decide +kernel) ⟨Nat.le_of_ble_eq_true rfl, Nat.le_of_ble_eq_true rfl⟩) ⟨fun a U g mk q => by obtain ⟨q0, q1, qP, qK, qD, qE⟩ := q; exact ⟨q0, q1, qP, va_K.moved (u := U) (U := U.calling g mk a) (Vm.Alike.refl U.vm) qK, qD, exF.same rfl rfl qE⟩, fun U hU hW => ⟨rfl, by rw [hU], by rw [hU]; exact hPc, va_K.moved hW.alike hKc, hDc.self, by rw [hU]; exact exF.warm hW ((exF.kept hE hS.2.1).narrow hFc)⟩⟩ rfl rfl hl.1 rfl (lv_room (Nat.le_of_ble_eq_true rfl)) dX9_derive_9 ⟨(Nat.le_of_ble_eq_true rfl), (Nat.le_of_ble_eq_true rfl)⟩) hS (fun q _ h => hFc q h) hFc (fun q _ h => hFc q h) (fun E ce q9 u t H1 locs1 ht hvm hpx hbx hz1 hk1 hS hce hcv hcl => vx_out (fun x9 hx9 => (htb x9 hx9).elim) hlocks hce hcv hcl (fun t2 ht2 hvm2 => ⟨(), trivial, Or.inl ⟨hbx.1, by have := hbx.2; omega⟩, hS.F ht2⟩) hS.2.2 (Nat.le_of_ble_eq_true rfl) (Nat.le_of_ble_eq_true rfl)) (fun u t H1 locs ht hvm hw_3 hB hz1 hk1 hS => ?_)
  obtain ⟨⟩ := u
  obtain ⟨hP1, hK1, hD1⟩ := hB
  rw [ht] at hP1
  have hK1 := va_K.moved hvm.symm hK1
  try dsimp only at hw_3
  obtain ⟨hP, hD⟩ := va_join (wr := [(h0, .inr (12, [.ref (q 0), .ref (q 9), .ref (q 11), .ref (q 17), .ref (q 18), .ref (q 19), .ref (q 26), .ref (q 27), .ref (q 32), .ref (q 33), .ref (q 34), .int (-1)])), (q 32, .inl (k 8, 8, .inl (va_cpy (fun _ => -1) (fun _ => 0) 0 0 8)))]) (w1 := []) hP hD [] [0, 1] rfl rfl (by decide) (by decide) hk1 hFc hP1 hD1
  have hK := (hK.sub (tys' := [(k 8, .int)]) [0] rfl).app hK1
  generalize H1 = H at hP hS ⊢
  have hP : va_P (dC, dI) vwCl ([(h0, .inr (12, [.ref (q 0), .ref (q 9), .ref (q 11), .ref (q 17), .ref (q 18), .ref (q 19), .ref (q 26), .ref (q 27), .ref (q 32), .ref (q 33), .ref (q 34), .int (-1)])), (q 32, .inl (k 8, 8, .inl (va_cpy (fun _ => -1) (fun _ => 0) 0 0 8)))]) H := hP
  have hD : va_D A ([(h0, .inr (12, [.ref (q 0), .ref (q 9), .ref (q 11), .ref (q 17), .ref (q 18), .ref (q 19), .ref (q 26), .ref (q 27), .ref (q 32), .ref (q 33), .ref (q 34), .int (-1)])), (q 32, .inl (k 8, 8, .inl (va_cpy (fun _ => -1) (fun _ => 0) 0 0 8)))]) := hD
  have hK : va_K (dC, dI) vwCl [(k 8, .int)] s := hK
  refine W.cs (cells' := 3) (slots' := 18) (by omega) (by omega) ?_
  refine lv_aload_n hx hb dX9_derive_12 rfl (lv_at hl 0 rfl) ?_
  refine lv_iload_n hx hb dX9_derive_13 rfl (lv_at hl 1 rfl) ?_
  have hPc := hP.sub (ws' := [(h0, .inr (12, [.ref (q 0), .ref (q 9), .ref (q 11), .ref (q 17), .ref (q 18), .ref (q 19), .ref (q 26), .ref (q 27), .ref (q 32), .ref (q 33), .ref (q 34), .int (-1)])), (q 32, .inl (k 8, 8, .inl (va_cpy (fun _ => -1) (fun _ => 0) 0 0 8)))]) [0, 1] rfl
  have hDc := hD.sub (ws' := [(h0, .inr (12, [.ref (q 0), .ref (q 9), .ref (q 11), .ref (q 17), .ref (q 18), .ref (q 19), .ref (q 26), .ref (q 27), .ref (q 32), .ref (q 33), .ref (q 34), .int (-1)])), (q 32, .inl (k 8, 8, .inl (va_cpy (fun _ => -1) (fun _ => 0) 0 0 8)))]) [0, 1] (by decide) rfl
  have hKc := hK.sub (tys' := [(k 8, .int)]) [0] rfl
  have hFc := va_free (wc := [(h0, .inr (12, [.ref (q 0), .ref (q 9), .ref (q 11), .ref (q 17), .ref (q 18), .ref (q 19), .ref (q 26), .ref (q 27), .ref (q 32), .ref (q 33), .ref (q 34), .int (-1)])), (q 32, .inl (k 8, 8, .inl (va_cpy (fun _ => -1) (fun _ => 0) 0 0 8)))]) hD hS hA [0, 1] rfl
  refine vx_callv (vx_runV (As := [.int x]) (rest := []) ⟨hx, hb, hml, hown, hts⟩ (c_X9_checkKnown l hlt dC dI (va_A [(h0, .inr (12, [.ref (q 0), .ref (q 9), .ref (q 11), .ref (q 17), .ref (q 18), .ref (q 19), .ref (q 26), .ref (q 27), .ref (q 32), .ref (q 33), .ref (q 34), .int (-1)])), (q 32, .inl (k 8, 8, .inl (va_cpy (fun _ => -1) (fun _ => 0) 0 0 8)))] H.size) H.size (fun _ h => Or.inr h) h0 q k fr x (by omega) (by omega)) (cwV 1 hts (goodIn_app (goodIn_r [Cond.methodLink RX9 135 yX9_checkKnown, Cond.instanceMethod yX9_checkKnown, Cond.selects RX9 yX9_checkKnown yX9_checkKnown, Cond.initialized RX9] [6, 7, 8, 3] rfl rfl) (goodIn_sub (fun w9 h9 => bk2 w9 h9) gw_X9_checkKnown)) rfl rfl rfl (by decide +kernel) ⟨Nat.le_of_ble_eq_true rfl, Nat.le_of_ble_eq_true rfl⟩) ⟨fun a U g mk q => by obtain ⟨q0, q1, qP, qK, qD, qE⟩ := q; exact ⟨q0, q1, qP, va_K.moved (u := U) (U := U.calling g mk a) (Vm.Alike.refl U.vm) qK, qD, exF.same rfl rfl qE⟩, va_recv hKc hPc (ci := 12) (q0 := 0) rfl rfl, fun U hU hW => ⟨rfl, by rw [hU], by rw [hU]; exact hPc, va_K.moved hW.alike hKc, hDc.self, by rw [hU]; exact exF.warm hW ((exF.kept hE hS.2.1).narrow hFc)⟩⟩ rfl rfl hl.1 rfl (lv_room (Nat.le_of_ble_eq_true rfl)) dX9_derive_14 ⟨(Nat.le_of_ble_eq_true rfl), (Nat.le_of_ble_eq_true rfl)⟩) hS (fun q _ h => hFc q h) hFc (fun q _ h => hFc q h) (fun E ce q9 u t H1 locs1 ht hvm hpx hbx hz1 hk1 hS hce hcv hcl => vx_out (fun x9 hx9 => (htb x9 hx9).elim) hlocks hce hcv hcl (fun t2 ht2 hvm2 => ⟨(), trivial, Or.inr ⟨hbx, by omega⟩, hS.F ht2⟩) hS.2.2 (Nat.le_of_ble_eq_true rfl) (Nat.le_of_ble_eq_true rfl)) (fun u t H1 locs ht hvm hw_4 hB hz1 hk1 hS => ?_)
  exact (by obtain ⟨⟩ := u; exact hw_4 : False).elim
def wd_X9_part : List Cond := .code yX9_part cX9_part 4 (some .int) :: (([.methodLink RX9 146 yX9_checkPart, .instanceMethod yX9_checkPart, .selects RX9 yX9_checkPart yX9_checkPart, .initialized RX9] : List Cond) ++ (wd_X9_checkPart ++ ([])))
theorem gw_X9_part : wd_X9_part.all goodWord = true := k_allc rfl (k_all (by decide +kernel) (k_all (gw_X9_checkPart) (rfl)))
abbrev at_X9_part (dC : Nat → ClassId) (dI : Nat → Nat → Nat) (A : Nat → Prop) (h0 : Nat) (q : Nat → Nat) (k : Nat → ClassId) (fr : Nat → Option Nat) (x : Int32) (x1 : Int32) (u : Unit) (t : State) : Prop := match u with
  | () => va_P (dC, dI) vwCl [] t.heap ∧ va_K (dC, dI) vwCl [] t ∧ va_D A []
set_option maxHeartbeats 4000000 in
set_option maxRecDepth 100000 in
theorem c_X9_part (l : Launch) (hlt : l.stackTraces = false) (dC : Nat → ClassId) (dI : Nat → Nat → Nat) (A : Nat → Prop) (sz : Nat) (hA0 : ∀ q, sz ≤ q → A q) (h0 : Nat) (q : Nat → Nat) (k : Nat → ClassId) (fr : Nat → Option Nat) (x : Int32) (x1 : Int32)  : vx_Met l yX9_part wd_X9_part ({ frames := 20, cells := 10, slots := 60, locals := 400 }) (va_Pc [.ref h0, .int x, .int x1] (fun U => U.heap.size = sz ∧ va_P (dC, dI) vwCl [(h0, .inr (12, [.ref (q 0), .ref (q 9), .ref (q 11), .ref (q 17), .ref (q 18), .ref (q 19), .ref (q 26), .ref (q 27), .ref (q 32), .ref (q 33), .ref (q 34), .int (-1)])), (q 11, .inr (9, [.ref (q 12), .ref (q 13), .int (nI 0), .ref (q 14), .ref (q 0), .ref (q 15), .ref (q 16)]))] U.heap ∧ va_K (dC, dI) vwCl [] U ∧ va_D A [(h0, .inr (12, [.ref (q 0), .ref (q 9), .ref (q 11), .ref (q 17), .ref (q 18), .ref (q 19), .ref (q 26), .ref (q 27), .ref (q 32), .ref (q 33), .ref (q 34), .int (-1)])), (q 11, .inr (9, [.ref (q 12), .ref (q 13), .int (nI 0), .ref (q 14), .ref (q 0), .ref (q 15), .ref (q 16)]))] ∧ exF A U U.heap)) (va_Qi (fun (r : Int32) => fun (u : Unit) => match u with | () => False) (at_X9_part dC dI A h0 q k fr x x1) A) (vx_X (fun _ : Unit => True) (fun E _ _ => E = "java/lang/IndexOutOfBoundsException") A) (10) (60) A := by
  refine vx_ofW (cc := cX9_part) (maxL := 4) (ret := (some .int)) (by decide) rfl ?_
  intro p e s m args below meth c s₁ B hml htb hv
  obtain ⟨rfl, hsz, hP, hK, hD, hE⟩ := hv
  have hx := B.exec
  have hb := B.bytes
  have hr := B.returns
  have hts := atoms_spec (ws := wd_X9_part) B.pre
  have hown : s.vm.findClass RX9 = some m.cls := findClass_of_methodNamed B.named
  have hlocks := B.notSynchronized
  have bk0 : ∀ w ∈ wd_X9_checkPart, w ∈ wd_X9_part := fun _ h => List.mem_cons_of_mem _ (List.mem_append_right _ (List.mem_append_left _ h))
  subst hsz
  have hA : ∀ q : Nat, s.heap.size ≤ q → A q := hA0
  have hS : va_S A s.heap s.heap [] := va_S.rf
  have hl := lv_entry ([.ref h0, .int x, .int x1]) (n := 4) (Nat.le_of_ble_eq_true rfl)
  rw [lg_entry_eq]
  generalize (lg_sl ([.ref h0, .int x, .int x1]) ++ List.replicate (4 - (lg_sl ([.ref h0, .int x, .int x1])).length) Slot.unset).toArray = ls at hl ⊢
  have hl : lv_has ls 4 [(0, .ref h0), (1, .int x), (2, .int x1)] := hl
  refine lv_aload_n hx hb dX9_part_0 rfl (lv_at hl 0 rfl) ?_
  refine lv_iload_n hx hb dX9_part_1 rfl (lv_at hl 1 rfl) ?_
  have hPc := hP.sub (ws' := [(h0, .inr (12, [.ref (q 0), .ref (q 9), .ref (q 11), .ref (q 17), .ref (q 18), .ref (q 19), .ref (q 26), .ref (q 27), .ref (q 32), .ref (q 33), .ref (q 34), .int (-1)])), (q 11, .inr (9, [.ref (q 12), .ref (q 13), .int (nI 0), .ref (q 14), .ref (q 0), .ref (q 15), .ref (q 16)]))]) [0, 1] rfl
  have hDc := hD.sub (ws' := [(h0, .inr (12, [.ref (q 0), .ref (q 9), .ref (q 11), .ref (q 17), .ref (q 18), .ref (q 19), .ref (q 26), .ref (q 27), .ref (q 32), .ref (q 33), .ref (q 34), .int (-1)])), (q 11, .inr (9, [.ref (q 12), .ref (q 13), .int (nI 0), .ref (q 14), .ref (q 0), .ref (q 15), .ref (q 16)]))]) [0, 1] (by decide) rfl
  have hKc := hK.sub (tys' := []) [] rfl
  have hFc := va_free (wc := [(h0, .inr (12, [.ref (q 0), .ref (q 9), .ref (q 11), .ref (q 17), .ref (q 18), .ref (q 19), .ref (q 26), .ref (q 27), .ref (q 32), .ref (q 33), .ref (q 34), .int (-1)])), (q 11, .inr (9, [.ref (q 12), .ref (q 13), .int (nI 0), .ref (q 14), .ref (q 0), .ref (q 15), .ref (q 16)]))]) hD hS hA [0, 1] rfl
  refine vx_callv (vx_runV (As := [.int x]) (rest := []) ⟨hx, hb, hml, hown, hts⟩ (c_X9_checkPart l hlt dC dI (va_A [(h0, .inr (12, [.ref (q 0), .ref (q 9), .ref (q 11), .ref (q 17), .ref (q 18), .ref (q 19), .ref (q 26), .ref (q 27), .ref (q 32), .ref (q 33), .ref (q 34), .int (-1)])), (q 11, .inr (9, [.ref (q 12), .ref (q 13), .int (nI 0), .ref (q 14), .ref (q 0), .ref (q 15), .ref (q 16)]))] s.heap.size) s.heap.size (fun _ h => Or.inr h) h0 q k fr x ) (cwV 1 hts (goodIn_app (goodIn_r [Cond.methodLink RX9 146 yX9_checkPart, Cond.instanceMethod yX9_checkPart, Cond.selects RX9 yX9_checkPart yX9_checkPart, Cond.initialized RX9] [1, 2, 3, 4] rfl rfl) (goodIn_sub (fun w9 h9 => bk0 w9 h9) gw_X9_checkPart)) rfl rfl rfl (by decide +kernel) ⟨Nat.le_of_ble_eq_true rfl, Nat.le_of_ble_eq_true rfl⟩) ⟨fun a U g mk q => by obtain ⟨q0, q1, qP, qK, qD, qE⟩ := q; exact ⟨q0, q1, qP, va_K.moved (u := U) (U := U.calling g mk a) (Vm.Alike.refl U.vm) qK, qD, exF.same rfl rfl qE⟩, va_recv hKc hPc (ci := 12) (q0 := 0) rfl rfl, fun U hU hW => ⟨rfl, by rw [hU], by rw [hU]; exact hPc, va_K.moved hW.alike hKc, hDc.self, by rw [hU]; exact exF.warm hW ((exF.kept hE hS.2.1).narrow hFc)⟩⟩ rfl rfl hl.1 rfl (lv_room (Nat.le_of_ble_eq_true rfl)) dX9_part_2 ⟨(Nat.le_of_ble_eq_true rfl), (Nat.le_of_ble_eq_true rfl)⟩) hS (fun q _ h => hFc q h) hFc (fun q _ h => hFc q h) (fun E ce q9 u t H1 locs1 ht hvm hpx hbx hz1 hk1 hS hce hcv hcl => vx_out (fun x9 hx9 => (htb x9 hx9).elim) hlocks hce hcv hcl (fun t2 ht2 hvm2 => ⟨(), trivial, hbx, hS.F ht2⟩) hS.2.2 (Nat.le_of_ble_eq_true rfl) (Nat.le_of_ble_eq_true rfl)) (fun u t H1 locs ht hvm hw_1 hB hz1 hk1 hS => ?_)
  exact (by obtain ⟨⟩ := u; exact hw_1 : False).elim
def wd_X9_number : List Cond := .code yX9_number cX9_number 4 (some .boolean) :: (([.methodLink RX9 146 yX9_checkPart, .instanceMethod yX9_checkPart, .selects RX9 yX9_checkPart yX9_checkPart, .initialized RX9] : List Cond) ++ (wd_X9_checkPart ++ ([])))
theorem gw_X9_number : wd_X9_number.all goodWord = true := k_allc rfl (k_all (by decide +kernel) (k_all (gw_X9_checkPart) (rfl)))
abbrev at_X9_number (dC : Nat → ClassId) (dI : Nat → Nat → Nat) (A : Nat → Prop) (h0 : Nat) (q : Nat → Nat) (k : Nat → ClassId) (fr : Nat → Option Nat) (x : Int32) (x1 : Int32) (u : Unit) (t : State) : Prop := match u with
  | () => va_P (dC, dI) vwCl [] t.heap ∧ va_K (dC, dI) vwCl [] t ∧ va_D A []
set_option maxHeartbeats 4000000 in
set_option maxRecDepth 100000 in
theorem c_X9_number (l : Launch) (hlt : l.stackTraces = false) (dC : Nat → ClassId) (dI : Nat → Nat → Nat) (A : Nat → Prop) (sz : Nat) (hA0 : ∀ q, sz ≤ q → A q) (h0 : Nat) (q : Nat → Nat) (k : Nat → ClassId) (fr : Nat → Option Nat) (x : Int32) (x1 : Int32)  : vx_Met l yX9_number wd_X9_number ({ frames := 20, cells := 10, slots := 60, locals := 400 }) (va_Pc [.ref h0, .int x, .int x1] (fun U => U.heap.size = sz ∧ va_P (dC, dI) vwCl [(h0, .inr (12, [.ref (q 0), .ref (q 9), .ref (q 11), .ref (q 17), .ref (q 18), .ref (q 19), .ref (q 26), .ref (q 27), .ref (q 32), .ref (q 33), .ref (q 34), .int (-1)])), (q 11, .inr (9, [.ref (q 12), .ref (q 13), .int (nI 0), .ref (q 14), .ref (q 0), .ref (q 15), .ref (q 16)]))] U.heap ∧ va_K (dC, dI) vwCl [] U ∧ va_D A [(h0, .inr (12, [.ref (q 0), .ref (q 9), .ref (q 11), .ref (q 17), .ref (q 18), .ref (q 19), .ref (q 26), .ref (q 27), .ref (q 32), .ref (q 33), .ref (q 34), .int (-1)])), (q 11, .inr (9, [.ref (q 12), .ref (q 13), .int (nI 0), .ref (q 14), .ref (q 0), .ref (q 15), .ref (q 16)]))] ∧ exF A U U.heap)) (va_Qi (fun (r : Int32) => fun (u : Unit) => match u with | () => False) (at_X9_number dC dI A h0 q k fr x x1) A) (vx_X (fun _ : Unit => True) (fun E _ _ => E = "java/lang/IndexOutOfBoundsException") A) (10) (60) A := by
  refine vx_ofW (cc := cX9_number) (maxL := 4) (ret := (some .boolean)) (by decide) rfl ?_
  intro p e s m args below meth c s₁ B hml htb hv
  obtain ⟨rfl, hsz, hP, hK, hD, hE⟩ := hv
  have hx := B.exec
  have hb := B.bytes
  have hr := B.returns
  have hts := atoms_spec (ws := wd_X9_number) B.pre
  have hown : s.vm.findClass RX9 = some m.cls := findClass_of_methodNamed B.named
  have hlocks := B.notSynchronized
  have bk0 : ∀ w ∈ wd_X9_checkPart, w ∈ wd_X9_number := fun _ h => List.mem_cons_of_mem _ (List.mem_append_right _ (List.mem_append_left _ h))
  subst hsz
  have hA : ∀ q : Nat, s.heap.size ≤ q → A q := hA0
  have hS : va_S A s.heap s.heap [] := va_S.rf
  have hl := lv_entry ([.ref h0, .int x, .int x1]) (n := 4) (Nat.le_of_ble_eq_true rfl)
  rw [lg_entry_eq]
  generalize (lg_sl ([.ref h0, .int x, .int x1]) ++ List.replicate (4 - (lg_sl ([.ref h0, .int x, .int x1])).length) Slot.unset).toArray = ls at hl ⊢
  have hl : lv_has ls 4 [(0, .ref h0), (1, .int x), (2, .int x1)] := hl
  refine lv_aload_n hx hb dX9_number_0 rfl (lv_at hl 0 rfl) ?_
  refine lv_iload_n hx hb dX9_number_1 rfl (lv_at hl 1 rfl) ?_
  have hPc := hP.sub (ws' := [(h0, .inr (12, [.ref (q 0), .ref (q 9), .ref (q 11), .ref (q 17), .ref (q 18), .ref (q 19), .ref (q 26), .ref (q 27), .ref (q 32), .ref (q 33), .ref (q 34), .int (-1)])), (q 11, .inr (9, [.ref (q 12), .ref (q 13), .int (nI 0), .ref (q 14), .ref (q 0), .ref (q 15), .ref (q 16)]))]) [0, 1] rfl
  have hDc := hD.sub (ws' := [(h0, .inr (12, [.ref (q 0), .ref (q 9), .ref (q 11), .ref (q 17), .ref (q 18), .ref (q 19), .ref (q 26), .ref (q 27), .ref (q 32), .ref (q 33), .ref (q 34), .int (-1)])), (q 11, .inr (9, [.ref (q 12), .ref (q 13), .int (nI 0), .ref (q 14), .ref (q 0), .ref (q 15), .ref (q 16)]))]) [0, 1] (by decide) rfl
  have hKc := hK.sub (tys' := []) [] rfl
  have hFc := va_free (wc := [(h0, .inr (12, [.ref (q 0), .ref (q 9), .ref (q 11), .ref (q 17), .ref (q 18), .ref (q 19), .ref (q 26), .ref (q 27), .ref (q 32), .ref (q 33), .ref (q 34), .int (-1)])), (q 11, .inr (9, [.ref (q 12), .ref (q 13), .int (nI 0), .ref (q 14), .ref (q 0), .ref (q 15), .ref (q 16)]))]) hD hS hA [0, 1] rfl
  refine vx_callv (vx_runV (As := [.int x]) (rest := []) ⟨hx, hb, hml, hown, hts⟩ (c_X9_checkPart l hlt dC dI (va_A [(h0, .inr (12, [.ref (q 0), .ref (q 9), .ref (q 11), .ref (q 17), .ref (q 18), .ref (q 19), .ref (q 26), .ref (q 27), .ref (q 32), .ref (q 33), .ref (q 34), .int (-1)])), (q 11, .inr (9, [.ref (q 12), .ref (q 13), .int (nI 0), .ref (q 14), .ref (q 0), .ref (q 15), .ref (q 16)]))] s.heap.size) s.heap.size (fun _ h => Or.inr h) h0 q k fr x ) (cwV 1 hts (goodIn_app (goodIn_r [Cond.methodLink RX9 146 yX9_checkPart, Cond.instanceMethod yX9_checkPart, Cond.selects RX9 yX9_checkPart yX9_checkPart, Cond.initialized RX9] [1, 2, 3, 4] rfl rfl) (goodIn_sub (fun w9 h9 => bk0 w9 h9) gw_X9_checkPart)) rfl rfl rfl (by decide +kernel) ⟨Nat.le_of_ble_eq_true rfl, Nat.le_of_ble_eq_true rfl⟩) ⟨fun a U g mk q => by obtain ⟨q0, q1, qP, qK, qD, qE⟩ := q; exact ⟨q0, q1, qP, va_K.moved (u := U) (U := U.calling g mk a) (Vm.Alike.refl U.vm) qK, qD, exF.same rfl rfl qE⟩, va_recv hKc hPc (ci := 12) (q0 := 0) rfl rfl, fun U hU hW => ⟨rfl, by rw [hU], by rw [hU]; exact hPc, va_K.moved hW.alike hKc, hDc.self, by rw [hU]; exact exF.warm hW ((exF.kept hE hS.2.1).narrow hFc)⟩⟩ rfl rfl hl.1 rfl (lv_room (Nat.le_of_ble_eq_true rfl)) dX9_number_2 ⟨(Nat.le_of_ble_eq_true rfl), (Nat.le_of_ble_eq_true rfl)⟩) hS (fun q _ h => hFc q h) hFc (fun q _ h => hFc q h) (fun E ce q9 u t H1 locs1 ht hvm hpx hbx hz1 hk1 hS hce hcv hcl => vx_out (fun x9 hx9 => (htb x9 hx9).elim) hlocks hce hcv hcl (fun t2 ht2 hvm2 => ⟨(), trivial, hbx, hS.F ht2⟩) hS.2.2 (Nat.le_of_ble_eq_true rfl) (Nat.le_of_ble_eq_true rfl)) (fun u t H1 locs ht hvm hw_1 hB hz1 hk1 hS => ?_)
  exact (by obtain ⟨⟩ := u; exact hw_1 : False).elim
def wd_X9_written : List Cond := .code yX9_written cX9_written 2 (some .int) :: (([.classLink RX9 241 "java/lang/IndexOutOfBoundsException", .initialized "java/lang/IndexOutOfBoundsException", .fieldLink RX9 53 "GradientDesk" "script" "LGradientDesk$Script;", .fieldLink RX9 255 "GradientDesk$Script" "length" "I"] : List Cond) ++ ((vx_atS RX9 245 "java/lang/IndexOutOfBoundsException" ["java/lang/RuntimeException", "java/lang/Exception"]).filter goodWord ++ (u_ws RX9 TX9 12 ++ (u_ws RX5 TX5 9 ++ ([])))))
theorem gw_X9_written : wd_X9_written.all goodWord = true := k_allc rfl (k_all (by decide +kernel) (k_all (k_allf _ _) (k_all (gu_X9) (k_all (gu_X5) (rfl)))))
abbrev at_X9_written (dC : Nat → ClassId) (dI : Nat → Nat → Nat) (A : Nat → Prop) (h0 : Nat) (q : Nat → Nat) (k : Nat → ClassId) (fr : Nat → Option Nat) (x : Int32) (u : Unit) (t : State) : Prop := match u with
  | () => va_P (dC, dI) vwCl [] t.heap ∧ va_K (dC, dI) vwCl [] t ∧ va_D A []
set_option maxHeartbeats 4000000 in
set_option maxRecDepth 100000 in
theorem c_X9_written (l : Launch) (hlt : l.stackTraces = false) (dC : Nat → ClassId) (dI : Nat → Nat → Nat) (A : Nat → Prop) (sz : Nat) (hA0 : ∀ q, sz ≤ q → A q) (h0 : Nat) (q : Nat → Nat) (k : Nat → ClassId) (fr : Nat → Option Nat) (x : Int32)  : vx_Met l yX9_written wd_X9_written ({ frames := 10, cells := 10, slots := 60, locals := 200 }) (va_Pc [.ref h0, .int x] (fun U => U.heap.size = sz ∧ va_P (dC, dI) vwCl [(h0, .inr (12, [.ref (q 0), .ref (q 9), .ref (q 11), .ref (q 17), .ref (q 18), .ref (q 19), .ref (q 26), .ref (q 27), .ref (q 32), .ref (q 33), .ref (q 34), .int (-1)])), (q 19, .inr (8, [.ref (q 20), .int (nI 0), .ref (q 11), .ref (q 21), .ref (q 22), .ref (q 23), .ref (q 24), .ref (q 25), .int (nI 0)]))] U.heap ∧ va_K (dC, dI) vwCl [] U ∧ va_D A [(h0, .inr (12, [.ref (q 0), .ref (q 9), .ref (q 11), .ref (q 17), .ref (q 18), .ref (q 19), .ref (q 26), .ref (q 27), .ref (q 32), .ref (q 33), .ref (q 34), .int (-1)])), (q 19, .inr (8, [.ref (q 20), .int (nI 0), .ref (q 11), .ref (q 21), .ref (q 22), .ref (q 23), .ref (q 24), .ref (q 25), .int (nI 0)]))] ∧ exF A U U.heap)) (va_Qi (fun (r : Int32) => fun (u : Unit) => match u with | () => False) (at_X9_written dC dI A h0 q k fr x) A) (vx_X (fun _ : Unit => True) (fun E _ _ => E = "java/lang/IndexOutOfBoundsException") A) (10) (60) A := by
  refine vx_ofW (cc := cX9_written) (maxL := 2) (ret := (some .int)) (by decide) rfl ?_
  intro p e s m args below meth c s₁ B hml htb hv
  obtain ⟨rfl, hsz, hP, hK, hD, hE⟩ := hv
  have hx := B.exec
  have hb := B.bytes
  have hr := B.returns
  have hts := atoms_spec (ws := wd_X9_written) B.pre
  have hown : s.vm.findClass RX9 = some m.cls := findClass_of_methodNamed B.named
  have hlocks := B.notSynchronized
  have bk0 : ∀ w ∈ (vx_atS RX9 245 "java/lang/IndexOutOfBoundsException" ["java/lang/RuntimeException", "java/lang/Exception"]).filter goodWord, w ∈ wd_X9_written := fun _ h => List.mem_cons_of_mem _ (List.mem_append_right _ (List.mem_append_left _ h))
  have bk1 : ∀ w ∈ u_ws RX9 TX9 12, w ∈ wd_X9_written := fun _ h => List.mem_cons_of_mem _ (List.mem_append_right _ (List.mem_append_right _ (List.mem_append_left _ h)))
  have bk2 : ∀ w ∈ u_ws RX5 TX5 9, w ∈ wd_X9_written := fun _ h => List.mem_cons_of_mem _ (List.mem_append_right _ (List.mem_append_right _ (List.mem_append_right _ (List.mem_append_left _ h))))
  subst hsz
  have hA : ∀ q : Nat, s.heap.size ≤ q → A q := hA0
  have hS : va_S A s.heap s.heap [] := va_S.rf
  have hl := lv_entry ([.ref h0, .int x]) (n := 2) (Nat.le_of_ble_eq_true rfl)
  rw [lg_entry_eq]
  generalize (lg_sl ([.ref h0, .int x]) ++ List.replicate (2 - (lg_sl ([.ref h0, .int x])).length) Slot.unset).toArray = ls at hl ⊢
  have hl : lv_has ls 2 [(0, .ref h0), (1, .int x)] := hl
  refine lv_iload_n hx hb dX9_written_0 rfl (lv_at hl 1 rfl) ?_
  refine lv_if_lt (tgt := 15) hx hb dX9_written_1 (by decide) (fun c_1 => ?_) (fun c_1 => ?_)
  · have c_1 := (k_lt x (nI 0)).mp c_1
    rw [show (nI 0).toInt = 0 from by decide] at c_1
    obtain ⟨sa_2, hstr_3⟩ := hE.2.2.1 (256, "there is no such character") (by decide +kernel)
    exact vx_throwSW (own := RX9) (cls := "java/lang/IndexOutOfBoundsException") (text := "there is no such character") (names := ["java/lang/RuntimeException", "java/lang/Exception"]) (ik := 241) (is := 256) (ic := 245) (sa := sa_2) (A := A) hx hb hlt hown (by decide +kernel) (by decide +kernel) (hts (.classLink RX9 241 "java/lang/IndexOutOfBoundsException") (List.mem_of_getElem? (i := 1) rfl)) (hts (.initialized "java/lang/IndexOutOfBoundsException") (List.mem_of_getElem? (i := 2) rfl)) hstr_3 (vx_hat (B := [.declares (Bundle.initS "java/lang/RuntimeException"), .declares (Bundle.initS "java/lang/Exception"), .declares (Bundle.initS Bundle.tN), .castable "java/lang/IndexOutOfBoundsException" "java/lang/IndexOutOfBoundsException"]) (fun w hw => hts w (bk0 w hw)) (by decide +kernel) (vx_c (va_Nw.use rfl hE.2.2.2.1) (vx_c (va_Nw.use rfl hE.2.2.2.2.1) (vx_c (va_Nw.use rfl hE.2.2.2.2.2.1) (vx_c (va_Nw.use rfl hE.2.2.2.2.2.2.2.2.1) vx_n))))) (by decide +kernel) hE.1 hE.2.1 hS (by rw [hml]; exact hl.1) dX9_written_15 dX9_written_18 dX9_written_19 dX9_written_22 dX9_written_25 (fun x9 hx9 => (htb x9 hx9).elim) (Nat.le_of_ble_eq_true rfl) (Nat.le_of_ble_eq_true rfl) (Nat.le_of_ble_eq_true rfl) (Nat.le_of_ble_eq_true rfl) hlocks (fun t9 hvm9 h1 h2 => ⟨(), trivial, rfl, k_F hS h1 h2⟩) hS.2.2 (Nat.le_of_ble_eq_true rfl) (Nat.le_of_ble_eq_true rfl)
  · have c_1 := mt (k_lt x (nI 0)).mpr c_1
    rw [show (nI 0).toInt = 0 from by decide] at c_1
    refine lv_iload_n hx hb dX9_written_4 rfl (lv_at hl 1 rfl) ?_
    refine lv_aload_n hx hb dX9_written_5 rfl (lv_at hl 0 rfl) ?_
    refine va_get (D := (dC, dI)) (ci := 12) (v := .ref (q 19)) (C := RX9) (T := TX9) (N := 12) hx hb hts bk1 hown hK hP 0 rfl rfl 5 (by decide) (hts (.fieldLink RX9 53 "GradientDesk" "script" "LGradientDesk$Script;") (List.mem_of_getElem? (i := 3) rfl)) (fun _ h9 => h9) rfl dX9_written_6 ?_
    refine va_get (D := (dC, dI)) (ci := 8) (v := .int (nI 0)) (C := RX5) (T := TX5) (N := 9) hx hb hts bk2 hown hK hP 1 rfl rfl 1 (by decide) (hts (.fieldLink RX9 255 "GradientDesk$Script" "length" "I") (List.mem_of_getElem? (i := 4) rfl)) (fun _ h9 => h9) rfl dX9_written_9 ?_
    refine lv_icmp_lt (tgt := 26) hx hb dX9_written_12 (by decide) (fun c_4 => ?_) (fun c_4 => ?_)
    · have c_4 := (k_lt x (nI 0)).mp c_4
      rw [show (nI 0).toInt = 0 from by decide] at c_4
      exfalso; omega
    · have c_4 := mt (k_lt x (nI 0)).mpr c_4
      rw [show (nI 0).toInt = 0 from by decide] at c_4
      obtain ⟨sa_5, hstr_6⟩ := hE.2.2.1 (256, "there is no such character") (by decide +kernel)
      exact vx_throwSW (own := RX9) (cls := "java/lang/IndexOutOfBoundsException") (text := "there is no such character") (names := ["java/lang/RuntimeException", "java/lang/Exception"]) (ik := 241) (is := 256) (ic := 245) (sa := sa_5) (A := A) hx hb hlt hown (by decide +kernel) (by decide +kernel) (hts (.classLink RX9 241 "java/lang/IndexOutOfBoundsException") (List.mem_of_getElem? (i := 1) rfl)) (hts (.initialized "java/lang/IndexOutOfBoundsException") (List.mem_of_getElem? (i := 2) rfl)) hstr_6 (vx_hat (B := [.declares (Bundle.initS "java/lang/RuntimeException"), .declares (Bundle.initS "java/lang/Exception"), .declares (Bundle.initS Bundle.tN), .castable "java/lang/IndexOutOfBoundsException" "java/lang/IndexOutOfBoundsException"]) (fun w hw => hts w (bk0 w hw)) (by decide +kernel) (vx_c (va_Nw.use rfl hE.2.2.2.1) (vx_c (va_Nw.use rfl hE.2.2.2.2.1) (vx_c (va_Nw.use rfl hE.2.2.2.2.2.1) (vx_c (va_Nw.use rfl hE.2.2.2.2.2.2.2.2.1) vx_n))))) (by decide +kernel) hE.1 hE.2.1 hS (by rw [hml]; exact hl.1) dX9_written_15 dX9_written_18 dX9_written_19 dX9_written_22 dX9_written_25 (fun x9 hx9 => (htb x9 hx9).elim) (Nat.le_of_ble_eq_true rfl) (Nat.le_of_ble_eq_true rfl) (Nat.le_of_ble_eq_true rfl) (Nat.le_of_ble_eq_true rfl) hlocks (fun t9 hvm9 h1 h2 => ⟨(), trivial, rfl, k_F hS h1 h2⟩) hS.2.2 (Nat.le_of_ble_eq_true rfl) (Nat.le_of_ble_eq_true rfl)
def wd_X9_clear : List Cond := .code yX9_clear cX9_clear 1 none :: (([.fieldLink RX9 28 "GradientDesk" "shelf" "LGradientDesk$Shelf;", .fieldLink RX9 122 "GradientDesk$Shelf" "count" "I", .fieldLink RX9 70 "GradientDesk" "names" "[I", .methodLink RX9 74 yJ7_fill_53178, .static yJ7_fill_53178, .initialized RJ7] : List Cond) ++ (u_ws RX9 TX9 12 ++ (u_ws RX6 TX6 7 ++ (wd_J7_fill ++ ([])))))
theorem gw_X9_clear : wd_X9_clear.all goodWord = true := k_allc rfl (k_all (by decide +kernel) (k_all (gu_X9) (k_all (gu_X6) (k_all (gw_J7_fill) (rfl)))))
abbrev at_X9_clear (dC : Nat → ClassId) (dI : Nat → Nat → Nat) (A : Nat → Prop) (h0 : Nat) (q : Nat → Nat) (k : Nat → ClassId) (fr : Nat → Option Nat) (u : Unit) (t : State) : Prop := match u with
  | () => va_P (dC, dI) vwCl [] t.heap ∧ va_K (dC, dI) vwCl [] t ∧ va_D A []
set_option maxHeartbeats 4000000 in
set_option maxRecDepth 100000 in
theorem c_X9_clear (l : Launch) (dC : Nat → ClassId) (dI : Nat → Nat → Nat) (A : Nat → Prop) (sz : Nat) (hA0 : ∀ q, sz ≤ q → A q) (h0 : Nat) (q : Nat → Nat) (k : Nat → ClassId) (fr : Nat → Option Nat)  : Met l yX9_clear wd_X9_clear ({ frames := 20, cells := 0, slots := 0, locals := 400 }) (va_Pc [.ref h0] (fun U => U.heap.size = sz ∧ va_P (dC, dI) vwCl [(h0, .inr (12, [.ref (q 0), .ref (q 9), .ref (q 11), .ref (q 17), .ref (q 18), .ref (q 19), .ref (q 26), .ref (q 27), .ref (q 32), .ref (q 33), .ref (q 34), .int (-1)])), (q 11, .inr (9, [.ref (q 12), .ref (q 13), .int (nI 0), .ref (q 14), .ref (q 0), .ref (q 15), .ref (q 16)])), (q 32, .inl (k 8, 8, .inl (va_cpy (fun _ => -1) (fun _ => 0) 0 0 8)))] U.heap ∧ va_K (dC, dI) vwCl [(k 8, .int)] U ∧ va_D A [(h0, .inr (12, [.ref (q 0), .ref (q 9), .ref (q 11), .ref (q 17), .ref (q 18), .ref (q 19), .ref (q 26), .ref (q 27), .ref (q 32), .ref (q 33), .ref (q 34), .int (-1)])), (q 11, .inr (9, [.ref (q 12), .ref (q 13), .int (nI 0), .ref (q 14), .ref (q 0), .ref (q 15), .ref (q 16)])), (q 32, .inl (k 8, 8, .inl (va_cpy (fun _ => -1) (fun _ => 0) 0 0 8)))])) (va_Qv (fun (u : Unit) => match u with | () => True) (at_X9_clear dC dI A h0 q k fr) A) (0) (0) A := by
  refine Met.ofW (cc := cX9_clear) (maxL := 1) (ret := none) (by decide) rfl ?_
  intro p e s m args below meth c s₁ B hml hv
  obtain ⟨rfl, hsz, hP, hK, hD⟩ := hv
  have hx := B.exec
  have hb := B.bytes
  have hr := B.returns
  have hts := atoms_spec (ws := wd_X9_clear) B.pre
  have hown : s.vm.findClass RX9 = some m.cls := findClass_of_methodNamed B.named
  have hlocks := B.notSynchronized
  have bk0 : ∀ w ∈ u_ws RX9 TX9 12, w ∈ wd_X9_clear := fun _ h => List.mem_cons_of_mem _ (List.mem_append_right _ (List.mem_append_left _ h))
  have bk1 : ∀ w ∈ u_ws RX6 TX6 7, w ∈ wd_X9_clear := fun _ h => List.mem_cons_of_mem _ (List.mem_append_right _ (List.mem_append_right _ (List.mem_append_left _ h)))
  have bk2 : ∀ w ∈ wd_J7_fill, w ∈ wd_X9_clear := fun _ h => List.mem_cons_of_mem _ (List.mem_append_right _ (List.mem_append_right _ (List.mem_append_right _ (List.mem_append_left _ h))))
  subst hsz
  have hA : ∀ q : Nat, s.heap.size ≤ q → A q := hA0
  have hS : va_S A s.heap s.heap [] := va_S.rf
  have hl := lv_entry ([.ref h0]) (n := 1) (Nat.le_of_ble_eq_true rfl)
  rw [lg_entry_eq]
  generalize (lg_sl ([.ref h0]) ++ List.replicate (1 - (lg_sl ([.ref h0])).length) Slot.unset).toArray = ls at hl ⊢
  have hl : lv_has ls 1 [(0, .ref h0)] := hl
  refine lv_aload_n hx hb dX9_clear_0 rfl (lv_at hl 0 rfl) ?_
  refine va_get (D := (dC, dI)) (ci := 12) (v := .ref (q 11)) (C := RX9) (T := TX9) (N := 12) hx hb hts bk0 hown hK hP 0 rfl rfl 2 (by decide) (hts (.fieldLink RX9 28 "GradientDesk" "shelf" "LGradientDesk$Shelf;") (List.mem_of_getElem? (i := 1) rfl)) (fun _ h9 => h9) rfl dX9_clear_1 ?_
  refine lv_iconst (v := nI 0) hx hb dX9_clear_4 (by decide +kernel) ?_
  refine va_put (D := (dC, dI)) (ci := 9) (v := .int (nI 0)) (ty := .int) (C := RX6) (T := TX6) (N := 7) hx hb hts bk1 tyX6 tyX6_ok nmX6 hown hK hP hD hS 1 rfl rfl 2 (by decide) (hts (.fieldLink RX9 122 "GradientDesk$Shelf" "count" "I") (List.mem_of_getElem? (i := 2) rfl)) (fun _ h9 => h9) rfl (by decide +kernel) rfl rfl (Nat.le_of_ble_eq_true rfl) dX9_clear_5 (fun H locs hP hD hS => ?_)
  have hP : va_P (dC, dI) vwCl ([(h0, .inr (12, [.ref (q 0), .ref (q 9), .ref (q 11), .ref (q 17), .ref (q 18), .ref (q 19), .ref (q 26), .ref (q 27), .ref (q 32), .ref (q 33), .ref (q 34), .int (-1)])), (q 11, .inr (9, [.ref (q 12), .ref (q 13), .int (nI 0), .ref (q 14), .ref (q 0), .ref (q 15), .ref (q 16)])), (q 32, .inl (k 8, 8, .inl (va_cpy (fun _ => -1) (fun _ => 0) 0 0 8)))]) H := hP
  have hD : va_D A ([(h0, .inr (12, [.ref (q 0), .ref (q 9), .ref (q 11), .ref (q 17), .ref (q 18), .ref (q 19), .ref (q 26), .ref (q 27), .ref (q 32), .ref (q 33), .ref (q 34), .int (-1)])), (q 11, .inr (9, [.ref (q 12), .ref (q 13), .int (nI 0), .ref (q 14), .ref (q 0), .ref (q 15), .ref (q 16)])), (q 32, .inl (k 8, 8, .inl (va_cpy (fun _ => -1) (fun _ => 0) 0 0 8)))]) := hD
  refine lv_aload_n hx hb dX9_clear_8 rfl (lv_at hl 0 rfl) ?_
  refine va_get (D := (dC, dI)) (ci := 12) (v := .ref (q 32)) (C := RX9) (T := TX9) (N := 12) hx hb hts bk0 hown hK hP 0 rfl rfl 8 (by decide) (hts (.fieldLink RX9 70 "GradientDesk" "names" "[I") (List.mem_of_getElem? (i := 3) rfl)) (fun _ h9 => h9) rfl dX9_clear_9 ?_
  refine lv_iconst (v := -1) hx hb dX9_clear_12 (by decide +kernel) ?_
  have hPc := hP.sub (ws' := [(q 32, .inl (k 8, 8, .inl (va_cpy (fun _ => -1) (fun _ => 0) 0 0 8)))]) [2] rfl
  have hDc := hD.sub (ws' := [(q 32, .inl (k 8, 8, .inl (va_cpy (fun _ => -1) (fun _ => 0) 0 0 8)))]) [2] (by decide) rfl
  have hKc := hK.sub (tys' := [(k 8, .int)]) [0] rfl
  have hFc := va_free (wc := [(q 32, .inl (k 8, 8, .inl (va_cpy (fun _ => -1) (fun _ => 0) 0 0 8)))]) hD hS hA [2] rfl
  refine va_callv (va_runS (As := [.ref (q 32), .int (-1)]) (rest := []) ⟨hx, hb, hml, hown, hts⟩ (c_J7_fill l dC dI (va_A [(q 32, .inl (k 8, 8, .inl (va_cpy (fun _ => -1) (fun _ => 0) 0 0 8)))] H.size) H.size (fun _ h => Or.inr h) (q 32) (k 8) 8 (va_cpy (fun _ => -1) (fun _ => 0) 0 0 8) (-1) (by decide)) (va_cwS 2 hts (goodIn_app (goodIn_r [Cond.methodLink RX9 74 yJ7_fill_53178, Cond.static yJ7_fill_53178, Cond.initialized RJ7] [4, 5, 6] rfl rfl) (goodIn_sub (fun w9 h9 => bk2 w9 h9) gw_J7_fill)) rfl rfl rfl (by decide +kernel) ⟨Nat.le_of_ble_eq_true rfl, Nat.le_of_ble_eq_true rfl⟩) ⟨fun a U g mk q => by obtain ⟨q0, q1, qP, qK, qD⟩ := q; exact ⟨q0, q1, qP, va_K.moved (u := U) (U := U.calling g mk a) (Vm.Alike.refl U.vm) qK, qD⟩, fun U hU hW => ⟨rfl, by rw [hU], by rw [hU]; exact hPc, va_K.moved hW.alike hKc, hDc.self⟩⟩ rfl rfl hl.1 rfl (lv_room (Nat.le_of_ble_eq_true rfl)) dX9_clear_13 ⟨(Nat.le_of_ble_eq_true rfl), (Nat.le_of_ble_eq_true rfl)⟩) hS (fun q _ h => hFc q h) hFc (fun u t H1 locs ht hvm hw_1 hB hz1 hk1 hS => ?_)
  obtain ⟨⟩ := u
  obtain ⟨hP1, hK1, hD1⟩ := hB
  rw [ht] at hP1
  have hK1 := va_K.moved hvm.symm hK1
  try dsimp only at hw_1
  obtain ⟨hP, hD⟩ := va_join (wr := [(h0, .inr (12, [.ref (q 0), .ref (q 9), .ref (q 11), .ref (q 17), .ref (q 18), .ref (q 19), .ref (q 26), .ref (q 27), .ref (q 32), .ref (q 33), .ref (q 34), .int (-1)])), (q 11, .inr (9, [.ref (q 12), .ref (q 13), .int (nI 0), .ref (q 14), .ref (q 0), .ref (q 15), .ref (q 16)]))]) (w1 := [(q 32, .inl (k 8, 8, .inl (va_cpy (fun _ => -1) (va_cpy (fun _ => -1) (fun _ => 0) 0 0 8) 0 0 8)))]) hP hD [2] [0, 1] rfl rfl (by decide) (by decide) hk1 hFc hP1 hD1
  have hK := (hK.sub (tys' := []) [] rfl).app hK1
  generalize H1 = H at hP hS ⊢
  have hP : va_P (dC, dI) vwCl ([(h0, .inr (12, [.ref (q 0), .ref (q 9), .ref (q 11), .ref (q 17), .ref (q 18), .ref (q 19), .ref (q 26), .ref (q 27), .ref (q 32), .ref (q 33), .ref (q 34), .int (-1)])), (q 11, .inr (9, [.ref (q 12), .ref (q 13), .int (nI 0), .ref (q 14), .ref (q 0), .ref (q 15), .ref (q 16)])), (q 32, .inl (k 8, 8, .inl (va_cpy (fun _ => -1) (va_cpy (fun _ => -1) (fun _ => 0) 0 0 8) 0 0 8)))]) H := hP
  have hD : va_D A ([(h0, .inr (12, [.ref (q 0), .ref (q 9), .ref (q 11), .ref (q 17), .ref (q 18), .ref (q 19), .ref (q 26), .ref (q 27), .ref (q 32), .ref (q 33), .ref (q 34), .int (-1)])), (q 11, .inr (9, [.ref (q 12), .ref (q 13), .int (nI 0), .ref (q 14), .ref (q 0), .ref (q 15), .ref (q 16)])), (q 32, .inl (k 8, 8, .inl (va_cpy (fun _ => -1) (va_cpy (fun _ => -1) (fun _ => 0) 0 0 8) 0 0 8)))]) := hD
  have hK : va_K (dC, dI) vwCl [(k 8, .int)] s := hK
  have hP9 := hP.sub (ws' := []) [] rfl
  have hD9 := hD.sub (ws' := []) [] (by decide) rfl
  have hK9 := hK.sub (tys' := []) [] rfl
  refine W.widen (k := 0) (n := 0) (by omega) (by omega) ?_
  exact W.vret hx hb hr (fun t ht hW => ⟨⟨(), rfl, trivial, by rw [ht]; exact hP9, va_K.moved hW.alike hK9, hD9⟩, hS.F ht⟩) hS.2.2 dX9_clear_16
def wd_X9_set : List Cond := .code yX9_set cX9_set 4 none :: (([.methodLink RX9 132 yX9_checkVariable, .static yX9_checkVariable, .initialized RX9, .classLink RX9 90 "java/lang/IllegalArgumentException", .initialized "java/lang/IllegalArgumentException", .fieldLink RX9 80 "GradientDesk" "pointTops" "[I", .fieldLink RX9 83 "GradientDesk" "pointBottoms" "[I"] : List Cond) ++ (wd_X9_checkVariable ++ ((vx_atS RX9 94 "java/lang/IllegalArgumentException" ["java/lang/RuntimeException", "java/lang/Exception"]).filter goodWord ++ (u_ws RX9 TX9 12 ++ ([])))))
theorem gw_X9_set : wd_X9_set.all goodWord = true := k_allc rfl (k_all (by decide +kernel) (k_all (gw_X9_checkVariable) (k_all (k_allf _ _) (k_all (gu_X9) (rfl)))))
abbrev at_X9_set (dC : Nat → ClassId) (dI : Nat → Nat → Nat) (A : Nat → Prop) (h0 : Nat) (q : Nat → Nat) (k : Nat → ClassId) (fr : Nat → Option Nat) (x : Int32) (x1 : Int32) (x2 : Int32) (u : Unit) (t : State) : Prop := match u with
  | () => va_P (dC, dI) vwCl [] t.heap ∧ va_K (dC, dI) vwCl [] t ∧ va_D A []
set_option maxHeartbeats 4000000 in
set_option maxRecDepth 100000 in
theorem c_X9_set (l : Launch) (hlt : l.stackTraces = false) (dC : Nat → ClassId) (dI : Nat → Nat → Nat) (A : Nat → Prop) (sz : Nat) (hA0 : ∀ q, sz ≤ q → A q) (h0 : Nat) (q : Nat → Nat) (k : Nat → ClassId) (fr : Nat → Option Nat) (x : Int32) (x1 : Int32) (x2 : Int32)  : vx_Met l yX9_set wd_X9_set ({ frames := 20, cells := 10, slots := 60, locals := 400 }) (va_Pc [.ref h0, .int x, .int x1, .int x2] (fun U => U.heap.size = sz ∧ va_P (dC, dI) vwCl [(h0, .inr (12, [.ref (q 0), .ref (q 9), .ref (q 11), .ref (q 17), .ref (q 18), .ref (q 19), .ref (q 26), .ref (q 27), .ref (q 32), .ref (q 33), .ref (q 34), .int (-1)])), (q 33, .inl (k 9, 3, .inl (fun _ => 0))), (q 34, .inl (k 10, 3, .inl (va_cpy (fun _ => nI 1) (fun _ => 0) 0 0 3)))] U.heap ∧ va_K (dC, dI) vwCl [(k 9, .int), (k 10, .int)] U ∧ va_D A [(h0, .inr (12, [.ref (q 0), .ref (q 9), .ref (q 11), .ref (q 17), .ref (q 18), .ref (q 19), .ref (q 26), .ref (q 27), .ref (q 32), .ref (q 33), .ref (q 34), .int (-1)])), (q 33, .inl (k 9, 3, .inl (fun _ => 0))), (q 34, .inl (k 10, 3, .inl (va_cpy (fun _ => nI 1) (fun _ => 0) 0 0 3)))] ∧ exF A U U.heap)) (va_Qv (fun (u : Unit) => match u with | () => (0 ≤ x.toInt ∧ x.toInt ≤ 2) ∧ (-9999 ≤ x1.toInt ∧ x1.toInt ≤ 9999) ∧ (1 ≤ x2.toInt ∧ x2.toInt ≤ 9999)) (at_X9_set dC dI A h0 q k fr x x1 x2) A) (vx_X (fun _ : Unit => True) (fun E _ _ => E = "java/lang/IllegalArgumentException" ∧ ¬ ((0 ≤ x.toInt ∧ x.toInt ≤ 2) ∧ (-9999 ≤ x1.toInt ∧ x1.toInt ≤ 9999) ∧ (1 ≤ x2.toInt ∧ x2.toInt ≤ 9999))) A) (10) (60) A := by
  refine vx_ofW (cc := cX9_set) (maxL := 4) (ret := none) (by decide) rfl ?_
  intro p e s m args below meth c s₁ B hml htb hv
  obtain ⟨rfl, hsz, hP, hK, hD, hE⟩ := hv
  have hx := B.exec
  have hb := B.bytes
  have hr := B.returns
  have hts := atoms_spec (ws := wd_X9_set) B.pre
  have hown : s.vm.findClass RX9 = some m.cls := findClass_of_methodNamed B.named
  have hlocks := B.notSynchronized
  have bk0 : ∀ w ∈ wd_X9_checkVariable, w ∈ wd_X9_set := fun _ h => List.mem_cons_of_mem _ (List.mem_append_right _ (List.mem_append_left _ h))
  have bk1 : ∀ w ∈ (vx_atS RX9 94 "java/lang/IllegalArgumentException" ["java/lang/RuntimeException", "java/lang/Exception"]).filter goodWord, w ∈ wd_X9_set := fun _ h => List.mem_cons_of_mem _ (List.mem_append_right _ (List.mem_append_right _ (List.mem_append_left _ h)))
  have bk2 : ∀ w ∈ u_ws RX9 TX9 12, w ∈ wd_X9_set := fun _ h => List.mem_cons_of_mem _ (List.mem_append_right _ (List.mem_append_right _ (List.mem_append_right _ (List.mem_append_left _ h))))
  subst hsz
  have hA : ∀ q : Nat, s.heap.size ≤ q → A q := hA0
  have hS : va_S A s.heap s.heap [] := va_S.rf
  have hl := lv_entry ([.ref h0, .int x, .int x1, .int x2]) (n := 4) (Nat.le_of_ble_eq_true rfl)
  rw [lg_entry_eq]
  generalize (lg_sl ([.ref h0, .int x, .int x1, .int x2]) ++ List.replicate (4 - (lg_sl ([.ref h0, .int x, .int x1, .int x2])).length) Slot.unset).toArray = ls at hl ⊢
  have hl : lv_has ls 4 [(0, .ref h0), (1, .int x), (2, .int x1), (3, .int x2)] := hl
  refine lv_iload_n hx hb dX9_set_0 rfl (lv_at hl 1 rfl) ?_
  have hPc := hP.sub (ws' := []) [] rfl
  have hDc := hD.sub (ws' := []) [] (by decide) rfl
  have hKc := hK.sub (tys' := []) [] rfl
  have hFc := va_free (wc := []) hD hS hA [] rfl
  refine vx_callv (vx_runS (As := [.int x]) (rest := []) ⟨hx, hb, hml, hown, hts⟩ (c_X9_checkVariable l hlt dC dI (va_A [] s.heap.size) s.heap.size (fun _ h => Or.inr h) x ) (va_cwS 1 hts (goodIn_app (goodIn_r [Cond.methodLink RX9 132 yX9_checkVariable, Cond.static yX9_checkVariable, Cond.initialized RX9] [1, 2, 3] rfl rfl) (goodIn_sub (fun w9 h9 => bk0 w9 h9) gw_X9_checkVariable)) rfl rfl rfl (by decide +kernel) ⟨Nat.le_of_ble_eq_true rfl, Nat.le_of_ble_eq_true rfl⟩) ⟨fun a U g mk q => by obtain ⟨q0, q1, qP, qK, qD, qE⟩ := q; exact ⟨q0, q1, qP, va_K.moved (u := U) (U := U.calling g mk a) (Vm.Alike.refl U.vm) qK, qD, exF.same rfl rfl qE⟩, fun U hU hW => ⟨rfl, by rw [hU], by rw [hU]; exact hPc, va_K.moved hW.alike hKc, hDc.self, by rw [hU]; exact exF.warm hW ((exF.kept hE hS.2.1).narrow hFc)⟩⟩ rfl rfl hl.1 rfl (lv_room (Nat.le_of_ble_eq_true rfl)) dX9_set_1 ⟨(Nat.le_of_ble_eq_true rfl), (Nat.le_of_ble_eq_true rfl)⟩) hS (fun q _ h => hFc q h) hFc (fun q _ h => hFc q h) (fun E ce q9 u t H1 locs1 ht hvm hpx hbx hz1 hk1 hS hce hcv hcl => vx_out (fun x9 hx9 => (htb x9 hx9).elim) hlocks hce hcv hcl (fun t2 ht2 hvm2 => ⟨(), trivial, ⟨hbx.1, by have := hbx.2; omega⟩, hS.F ht2⟩) hS.2.2 (Nat.le_of_ble_eq_true rfl) (Nat.le_of_ble_eq_true rfl)) (fun u t H1 locs ht hvm hw_1 hB hz1 hk1 hS => ?_)
  obtain ⟨⟩ := u
  obtain ⟨hP1, hK1, hD1⟩ := hB
  rw [ht] at hP1
  have hK1 := va_K.moved hvm.symm hK1
  try dsimp only at hw_1
  obtain ⟨hP, hD⟩ := va_join (wr := [(h0, .inr (12, [.ref (q 0), .ref (q 9), .ref (q 11), .ref (q 17), .ref (q 18), .ref (q 19), .ref (q 26), .ref (q 27), .ref (q 32), .ref (q 33), .ref (q 34), .int (-1)])), (q 33, .inl (k 9, 3, .inl (fun _ => 0))), (q 34, .inl (k 10, 3, .inl (va_cpy (fun _ => nI 1) (fun _ => 0) 0 0 3)))]) (w1 := []) hP hD [] [0, 1, 2] rfl rfl (by decide) (by decide) hk1 hFc hP1 hD1
  have hK := (hK.sub (tys' := [(k 9, .int), (k 10, .int)]) [0, 1] rfl).app hK1
  generalize H1 = H at hP hS ⊢
  have hP : va_P (dC, dI) vwCl ([(h0, .inr (12, [.ref (q 0), .ref (q 9), .ref (q 11), .ref (q 17), .ref (q 18), .ref (q 19), .ref (q 26), .ref (q 27), .ref (q 32), .ref (q 33), .ref (q 34), .int (-1)])), (q 33, .inl (k 9, 3, .inl (fun _ => 0))), (q 34, .inl (k 10, 3, .inl (va_cpy (fun _ => nI 1) (fun _ => 0) 0 0 3)))]) H := hP
  have hD : va_D A ([(h0, .inr (12, [.ref (q 0), .ref (q 9), .ref (q 11), .ref (q 17), .ref (q 18), .ref (q 19), .ref (q 26), .ref (q 27), .ref (q 32), .ref (q 33), .ref (q 34), .int (-1)])), (q 33, .inl (k 9, 3, .inl (fun _ => 0))), (q 34, .inl (k 10, 3, .inl (va_cpy (fun _ => nI 1) (fun _ => 0) 0 0 3)))]) := hD
  have hK : va_K (dC, dI) vwCl [(k 9, .int), (k 10, .int)] s := hK
  refine W.cs (cells' := 1) (slots' := 6) (by omega) (by omega) ?_
  refine lv_iload_n hx hb dX9_set_4 rfl (lv_at hl 2 rfl) ?_
  refine lv_sipush (v := -9999) hx hb dX9_set_5 (by decide +kernel) ?_
  refine lv_icmp_lt (tgt := 30) hx hb dX9_set_8 (by decide) (fun c_2 => ?_) (fun c_2 => ?_)
  · have c_2 := (k_lt x1 (-9999)).mp c_2
    rw [show ((-9999 : Int32)).toInt = -9999 from by decide] at c_2
    obtain ⟨sa_3, hstr_4⟩ := hE.2.2.1 (189, "p is not -9999 .. 9999, or q not 1 .. 9999") (by decide +kernel)
    exact vx_throwS (own := RX9) (cls := "java/lang/IllegalArgumentException") (text := "p is not -9999 .. 9999, or q not 1 .. 9999") (names := ["java/lang/RuntimeException", "java/lang/Exception"]) (ik := 90) (is := 189) (ic := 94) (sa := sa_3) (A := A) hx hb hlt hown (by decide +kernel) (by decide +kernel) (hts (.classLink RX9 90 "java/lang/IllegalArgumentException") (List.mem_of_getElem? (i := 4) rfl)) (hts (.initialized "java/lang/IllegalArgumentException") (List.mem_of_getElem? (i := 5) rfl)) hstr_4 (vx_hat (B := [.declares (Bundle.initS "java/lang/RuntimeException"), .declares (Bundle.initS "java/lang/Exception"), .declares (Bundle.initS Bundle.tN), .castable "java/lang/IllegalArgumentException" "java/lang/IllegalArgumentException"]) (fun w hw => hts w (bk1 w hw)) (by decide +kernel) (vx_c (va_Nw.use rfl hE.2.2.2.1) (vx_c (va_Nw.use rfl hE.2.2.2.2.1) (vx_c (va_Nw.use rfl hE.2.2.2.2.2.1) (vx_c (va_Nw.use rfl hE.2.2.2.2.2.2.1) vx_n))))) (by decide +kernel) hE.1 hE.2.1 hS (by rw [hml]; exact hl.1) dX9_set_30 dX9_set_33 dX9_set_34 dX9_set_36 dX9_set_39 (fun x9 hx9 => (htb x9 hx9).elim) (Nat.le_of_ble_eq_true rfl) (Nat.le_of_ble_eq_true rfl) (Nat.le_of_ble_eq_true rfl) (Nat.le_of_ble_eq_true rfl) hlocks (fun t9 hvm9 h1 h2 => ⟨(), trivial, ⟨rfl, by omega⟩, k_F hS h1 h2⟩) hS.2.2 (Nat.le_of_ble_eq_true rfl) (Nat.le_of_ble_eq_true rfl)
  · have c_2 := mt (k_lt x1 (-9999)).mpr c_2
    rw [show ((-9999 : Int32)).toInt = -9999 from by decide] at c_2
    refine lv_iload_n hx hb dX9_set_11 rfl (lv_at hl 2 rfl) ?_
    refine lv_sipush (v := nI 9999) hx hb dX9_set_12 (by decide +kernel) ?_
    refine lv_icmp_gt (tgt := 30) hx hb dX9_set_15 (by decide) (fun c_5 => ?_) (fun c_5 => ?_)
    · have c_5 := (k_lt (nI 9999) x1).mp c_5
      rw [show (nI 9999).toInt = 9999 from by decide] at c_5
      obtain ⟨sa_6, hstr_7⟩ := hE.2.2.1 (189, "p is not -9999 .. 9999, or q not 1 .. 9999") (by decide +kernel)
      exact vx_throwS (own := RX9) (cls := "java/lang/IllegalArgumentException") (text := "p is not -9999 .. 9999, or q not 1 .. 9999") (names := ["java/lang/RuntimeException", "java/lang/Exception"]) (ik := 90) (is := 189) (ic := 94) (sa := sa_6) (A := A) hx hb hlt hown (by decide +kernel) (by decide +kernel) (hts (.classLink RX9 90 "java/lang/IllegalArgumentException") (List.mem_of_getElem? (i := 4) rfl)) (hts (.initialized "java/lang/IllegalArgumentException") (List.mem_of_getElem? (i := 5) rfl)) hstr_7 (vx_hat (B := [.declares (Bundle.initS "java/lang/RuntimeException"), .declares (Bundle.initS "java/lang/Exception"), .declares (Bundle.initS Bundle.tN), .castable "java/lang/IllegalArgumentException" "java/lang/IllegalArgumentException"]) (fun w hw => hts w (bk1 w hw)) (by decide +kernel) (vx_c (va_Nw.use rfl hE.2.2.2.1) (vx_c (va_Nw.use rfl hE.2.2.2.2.1) (vx_c (va_Nw.use rfl hE.2.2.2.2.2.1) (vx_c (va_Nw.use rfl hE.2.2.2.2.2.2.1) vx_n))))) (by decide +kernel) hE.1 hE.2.1 hS (by rw [hml]; exact hl.1) dX9_set_30 dX9_set_33 dX9_set_34 dX9_set_36 dX9_set_39 (fun x9 hx9 => (htb x9 hx9).elim) (Nat.le_of_ble_eq_true rfl) (Nat.le_of_ble_eq_true rfl) (Nat.le_of_ble_eq_true rfl) (Nat.le_of_ble_eq_true rfl) hlocks (fun t9 hvm9 h1 h2 => ⟨(), trivial, ⟨rfl, by omega⟩, k_F hS h1 h2⟩) hS.2.2 (Nat.le_of_ble_eq_true rfl) (Nat.le_of_ble_eq_true rfl)
    · have c_5 := mt (k_lt (nI 9999) x1).mpr c_5
      rw [show (nI 9999).toInt = 9999 from by decide] at c_5
      refine lv_iload_n hx hb dX9_set_18 rfl (lv_at hl 3 rfl) ?_
      refine lv_iconst (v := nI 1) hx hb dX9_set_19 (by decide +kernel) ?_
      refine lv_icmp_lt (tgt := 30) hx hb dX9_set_20 (by decide) (fun c_8 => ?_) (fun c_8 => ?_)
      · have c_8 := (k_lt x2 (nI 1)).mp c_8
        rw [show (nI 1).toInt = 1 from by decide] at c_8
        obtain ⟨sa_9, hstr_10⟩ := hE.2.2.1 (189, "p is not -9999 .. 9999, or q not 1 .. 9999") (by decide +kernel)
        exact vx_throwS (own := RX9) (cls := "java/lang/IllegalArgumentException") (text := "p is not -9999 .. 9999, or q not 1 .. 9999") (names := ["java/lang/RuntimeException", "java/lang/Exception"]) (ik := 90) (is := 189) (ic := 94) (sa := sa_9) (A := A) hx hb hlt hown (by decide +kernel) (by decide +kernel) (hts (.classLink RX9 90 "java/lang/IllegalArgumentException") (List.mem_of_getElem? (i := 4) rfl)) (hts (.initialized "java/lang/IllegalArgumentException") (List.mem_of_getElem? (i := 5) rfl)) hstr_10 (vx_hat (B := [.declares (Bundle.initS "java/lang/RuntimeException"), .declares (Bundle.initS "java/lang/Exception"), .declares (Bundle.initS Bundle.tN), .castable "java/lang/IllegalArgumentException" "java/lang/IllegalArgumentException"]) (fun w hw => hts w (bk1 w hw)) (by decide +kernel) (vx_c (va_Nw.use rfl hE.2.2.2.1) (vx_c (va_Nw.use rfl hE.2.2.2.2.1) (vx_c (va_Nw.use rfl hE.2.2.2.2.2.1) (vx_c (va_Nw.use rfl hE.2.2.2.2.2.2.1) vx_n))))) (by decide +kernel) hE.1 hE.2.1 hS (by rw [hml]; exact hl.1) dX9_set_30 dX9_set_33 dX9_set_34 dX9_set_36 dX9_set_39 (fun x9 hx9 => (htb x9 hx9).elim) (Nat.le_of_ble_eq_true rfl) (Nat.le_of_ble_eq_true rfl) (Nat.le_of_ble_eq_true rfl) (Nat.le_of_ble_eq_true rfl) hlocks (fun t9 hvm9 h1 h2 => ⟨(), trivial, ⟨rfl, by omega⟩, k_F hS h1 h2⟩) hS.2.2 (Nat.le_of_ble_eq_true rfl) (Nat.le_of_ble_eq_true rfl)
      · have c_8 := mt (k_lt x2 (nI 1)).mpr c_8
        rw [show (nI 1).toInt = 1 from by decide] at c_8
        refine lv_iload_n hx hb dX9_set_23 rfl (lv_at hl 3 rfl) ?_
        refine lv_sipush (v := nI 9999) hx hb dX9_set_24 (by decide +kernel) ?_
        refine lv_icmp_le (tgt := 40) hx hb dX9_set_27 (by decide) (fun c_11 => ?_) (fun c_11 => ?_)
        · have c_11 := (k_le x2 (nI 9999)).mp c_11
          rw [show (nI 9999).toInt = 9999 from by decide] at c_11
          refine lv_aload_n hx hb dX9_set_40 rfl (lv_at hl 0 rfl) ?_
          refine va_get (D := (dC, dI)) (ci := 12) (v := .ref (q 33)) (C := RX9) (T := TX9) (N := 12) hx hb hts bk2 hown hK hP 0 rfl rfl 9 (by decide) (hts (.fieldLink RX9 80 "GradientDesk" "pointTops" "[I") (List.mem_of_getElem? (i := 6) rfl)) (fun _ h9 => h9) rfl dX9_set_41 ?_
          refine lv_iload_n hx hb dX9_set_44 rfl (lv_at hl 1 rfl) ?_
          refine lv_iload_n hx hb dX9_set_45 rfl (lv_at hl 2 rfl) ?_
          refine va_iast hx hb hK hP hD hS 1 0 rfl rfl (vp_in_iff.mpr ⟨by omega, by omega⟩) dX9_set_46 (fun H locs hP hD hS => ?_)
          have hP : va_P (dC, dI) vwCl ([(h0, .inr (12, [.ref (q 0), .ref (q 9), .ref (q 11), .ref (q 17), .ref (q 18), .ref (q 19), .ref (q 26), .ref (q 27), .ref (q 32), .ref (q 33), .ref (q 34), .int (-1)])), (q 33, .inl (k 9, 3, .inl (upd (fun _ => 0) x.toNatClampNeg x1))), (q 34, .inl (k 10, 3, .inl (va_cpy (fun _ => nI 1) (fun _ => 0) 0 0 3)))]) H := hP
          have hD : va_D A ([(h0, .inr (12, [.ref (q 0), .ref (q 9), .ref (q 11), .ref (q 17), .ref (q 18), .ref (q 19), .ref (q 26), .ref (q 27), .ref (q 32), .ref (q 33), .ref (q 34), .int (-1)])), (q 33, .inl (k 9, 3, .inl (upd (fun _ => 0) x.toNatClampNeg x1))), (q 34, .inl (k 10, 3, .inl (va_cpy (fun _ => nI 1) (fun _ => 0) 0 0 3)))]) := hD
          refine lv_aload_n hx hb dX9_set_47 rfl (lv_at hl 0 rfl) ?_
          refine va_get (D := (dC, dI)) (ci := 12) (v := .ref (q 34)) (C := RX9) (T := TX9) (N := 12) hx hb hts bk2 hown hK hP 0 rfl rfl 10 (by decide) (hts (.fieldLink RX9 83 "GradientDesk" "pointBottoms" "[I") (List.mem_of_getElem? (i := 7) rfl)) (fun _ h9 => h9) rfl dX9_set_48 ?_
          refine lv_iload_n hx hb dX9_set_51 rfl (lv_at hl 1 rfl) ?_
          refine lv_iload_n hx hb dX9_set_52 rfl (lv_at hl 3 rfl) ?_
          refine va_iast hx hb hK hP hD hS 2 1 rfl rfl (vp_in_iff.mpr ⟨by omega, by omega⟩) dX9_set_53 (fun H locs hP hD hS => ?_)
          have hP : va_P (dC, dI) vwCl ([(h0, .inr (12, [.ref (q 0), .ref (q 9), .ref (q 11), .ref (q 17), .ref (q 18), .ref (q 19), .ref (q 26), .ref (q 27), .ref (q 32), .ref (q 33), .ref (q 34), .int (-1)])), (q 33, .inl (k 9, 3, .inl (upd (fun _ => 0) x.toNatClampNeg x1))), (q 34, .inl (k 10, 3, .inl (upd (va_cpy (fun _ => nI 1) (fun _ => 0) 0 0 3) x.toNatClampNeg x2)))]) H := hP
          have hD : va_D A ([(h0, .inr (12, [.ref (q 0), .ref (q 9), .ref (q 11), .ref (q 17), .ref (q 18), .ref (q 19), .ref (q 26), .ref (q 27), .ref (q 32), .ref (q 33), .ref (q 34), .int (-1)])), (q 33, .inl (k 9, 3, .inl (upd (fun _ => 0) x.toNatClampNeg x1))), (q 34, .inl (k 10, 3, .inl (upd (va_cpy (fun _ => nI 1) (fun _ => 0) 0 0 3) x.toNatClampNeg x2)))]) := hD
          have hP9 := hP.sub (ws' := []) [] rfl
          have hD9 := hD.sub (ws' := []) [] (by decide) rfl
          have hK9 := hK.sub (tys' := []) [] rfl
          refine vx_ret ?_
          refine W.widen (k := 10) (n := 60) (by omega) (by omega) ?_
          exact W.vret hx hb hr (fun t ht hW => ⟨⟨(), rfl, by omega, by rw [ht]; exact hP9, va_K.moved hW.alike hK9, hD9⟩, hS.F ht⟩) hS.2.2 dX9_set_54
        · have c_11 := mt (k_le x2 (nI 9999)).mpr c_11
          rw [show (nI 9999).toInt = 9999 from by decide] at c_11
          obtain ⟨sa_12, hstr_13⟩ := hE.2.2.1 (189, "p is not -9999 .. 9999, or q not 1 .. 9999") (by decide +kernel)
          exact vx_throwS (own := RX9) (cls := "java/lang/IllegalArgumentException") (text := "p is not -9999 .. 9999, or q not 1 .. 9999") (names := ["java/lang/RuntimeException", "java/lang/Exception"]) (ik := 90) (is := 189) (ic := 94) (sa := sa_12) (A := A) hx hb hlt hown (by decide +kernel) (by decide +kernel) (hts (.classLink RX9 90 "java/lang/IllegalArgumentException") (List.mem_of_getElem? (i := 4) rfl)) (hts (.initialized "java/lang/IllegalArgumentException") (List.mem_of_getElem? (i := 5) rfl)) hstr_13 (vx_hat (B := [.declares (Bundle.initS "java/lang/RuntimeException"), .declares (Bundle.initS "java/lang/Exception"), .declares (Bundle.initS Bundle.tN), .castable "java/lang/IllegalArgumentException" "java/lang/IllegalArgumentException"]) (fun w hw => hts w (bk1 w hw)) (by decide +kernel) (vx_c (va_Nw.use rfl hE.2.2.2.1) (vx_c (va_Nw.use rfl hE.2.2.2.2.1) (vx_c (va_Nw.use rfl hE.2.2.2.2.2.1) (vx_c (va_Nw.use rfl hE.2.2.2.2.2.2.1) vx_n))))) (by decide +kernel) hE.1 hE.2.1 hS (by rw [hml]; exact hl.1) dX9_set_30 dX9_set_33 dX9_set_34 dX9_set_36 dX9_set_39 (fun x9 hx9 => (htb x9 hx9).elim) (Nat.le_of_ble_eq_true rfl) (Nat.le_of_ble_eq_true rfl) (Nat.le_of_ble_eq_true rfl) (Nat.le_of_ble_eq_true rfl) hlocks (fun t9 hvm9 h1 h2 => ⟨(), trivial, ⟨rfl, by omega⟩, k_F hS h1 h2⟩) hS.2.2 (Nat.le_of_ble_eq_true rfl) (Nat.le_of_ble_eq_true rfl)
