def wd_X3_init : List Cond := .code yX3_init cX3_init 1 none :: (([.methodLink RX3 3 objectInit, .instanceMethod objectInit, .code objectInit ⟨#[0xb1]⟩ 1 none, .classLink RX3 9 RX2, .instantiable RX2 2, .initialized RX2, .methodLink RX3 11 yX2_init, .instanceMethod yX2_init, .fieldLink RX3 14 "GradientDesk$Part" "number" "LGradientDesk$Fraction;"] : List Cond) ++ (u_ws RX2 TX2 2 ++ (wd_X2_init ++ (u_ws RX3 TX3 7 ++ ([])))))
theorem gw_X3_init : wd_X3_init.all goodWord = true := k_allc rfl (k_all (by decide +kernel) (k_all (gu_X2) (k_all (gw_X2_init) (k_all (gu_X3) (rfl)))))
abbrev at_X3_init (dC : Nat → ClassId) (dI : Nat → Nat → Nat) (A : Nat → Prop) (h0 : Nat) (u : Nat) (t : State) : Prop := match u with
  | qf => va_P (dC, dI) vwCl [(h0, .inr (6, [.ref qf, .int (nI 0), .int (nI 0), .int (nI 0), .int (nI 0), .int (nI 0), .int (nI 0)]))] t.heap ∧ va_K (dC, dI) vwCl [] t ∧ va_D A [(h0, .inr (6, [.ref qf, .int (nI 0), .int (nI 0), .int (nI 0), .int (nI 0), .int (nI 0), .int (nI 0)]))]
set_option maxHeartbeats 4000000 in
set_option maxRecDepth 100000 in
theorem c_X3_init (l : Launch) (dC : Nat → ClassId) (dI : Nat → Nat → Nat) (A : Nat → Prop) (sz : Nat) (hA0 : ∀ q, sz ≤ q → A q) (h0 : Nat)  : Met l yX3_init wd_X3_init ({ frames := 40, cells := 5, slots := 34, locals := 800 }) (va_Pc [.ref h0] (fun U => U.heap.size = sz ∧ va_P (dC, dI) vwCl [(h0, .inr (6, [.null, .int (nI 0), .int (nI 0), .int (nI 0), .int (nI 0), .int (nI 0), .int (nI 0)]))] U.heap ∧ va_K (dC, dI) vwCl [] U ∧ va_D A [(h0, .inr (6, [.null, .int (nI 0), .int (nI 0), .int (nI 0), .int (nI 0), .int (nI 0), .int (nI 0)]))])) (va_Qv (fun (u : Nat) => match u with | qf => True) (at_X3_init dC dI A h0) A) (5) (34) A := by
  refine Met.ofW (cc := cX3_init) (maxL := 1) (ret := none) (by decide) rfl ?_
  intro p e s m args below meth c s₁ B hml hv
  obtain ⟨rfl, hsz, hP, hK, hD⟩ := hv
  have hx := B.exec
  have hb := B.bytes
  have hr := B.returns
  have hts := atoms_spec (ws := wd_X3_init) B.pre
  have hown : s.vm.findClass RX3 = some m.cls := findClass_of_methodNamed B.named
  have hlocks := B.notSynchronized
  have hin : meth.name = "<init>" := (name_of_methodNamed B.named B.method).1
  have bk0 : ∀ w ∈ u_ws RX2 TX2 2, w ∈ wd_X3_init := fun _ h => List.mem_cons_of_mem _ (List.mem_append_right _ (List.mem_append_left _ h))
  have bk1 : ∀ w ∈ wd_X2_init, w ∈ wd_X3_init := fun _ h => List.mem_cons_of_mem _ (List.mem_append_right _ (List.mem_append_right _ (List.mem_append_left _ h)))
  have bk2 : ∀ w ∈ u_ws RX3 TX3 7, w ∈ wd_X3_init := fun _ h => List.mem_cons_of_mem _ (List.mem_append_right _ (List.mem_append_right _ (List.mem_append_right _ (List.mem_append_left _ h))))
  subst hsz
  have hA : ∀ q : Nat, s.heap.size ≤ q → A q := hA0
  have hS : va_S A s.heap s.heap [] := va_S.rf
  have hl := lv_entry ([.ref h0]) (n := 1) (Nat.le_of_ble_eq_true rfl)
  rw [lg_entry_eq]
  generalize (lg_sl ([.ref h0]) ++ List.replicate (1 - (lg_sl ([.ref h0])).length) Slot.unset).toArray = ls at hl ⊢
  have hl : lv_has ls 1 [(0, .ref h0)] := hl
  refine lv_aload_n hx hb dX3_init_0 rfl (lv_at hl 0 rfl) ?_
  refine W.objInit hx hb hown (hts (.methodLink RX3 3 objectInit) (List.mem_of_getElem? (i := 1) rfl)) (hts (.instanceMethod objectInit) (List.mem_of_getElem? (i := 2) rfl)) (hts _ (List.mem_of_getElem? (i := 3) rfl)) rfl (by rw [hml]; exact hl.1) rfl dX3_init_1 (Nat.le_of_ble_eq_true rfl) (Nat.le_of_ble_eq_true rfl) ?_
  refine W.eq (g2 := F0 m 4 ls []) rfl ?_
  refine lv_aload_n hx hb dX3_init_4 rfl (lv_at hl 0 rfl) ?_
  refine va_new (ci := 5) (fs := [.null, .null]) (C := RX2) (T := TX2) (N := 2) hx hb hts bk0 tyX2 tyX2_ok hown (hts (.classLink RX3 9 RX2) (List.mem_of_getElem? (i := 4) rfl)) (hts (.instantiable RX2 2) (List.mem_of_getElem? (i := 5) rfl)) (hts (.initialized RX2) (List.mem_of_getElem? (i := 6) rfl)) hK hP hD hS hA rfl (fun j hj => by rcases (show j = 0 ∨ j = 1 by omega) with rfl | rfl <;> rfl) (Nat.le_of_ble_eq_true rfl) (Nat.le_of_ble_eq_true rfl) dX3_init_5 (fun q_1 H hP hD hS => ?_)
  have hP : va_P (dC, dI) vwCl ([(h0, .inr (6, [.null, .int (nI 0), .int (nI 0), .int (nI 0), .int (nI 0), .int (nI 0), .int (nI 0)])), (q_1, .inr (5, [.null, .null]))]) H := hP
  have hD : va_D A ([(h0, .inr (6, [.null, .int (nI 0), .int (nI 0), .int (nI 0), .int (nI 0), .int (nI 0), .int (nI 0)])), (q_1, .inr (5, [.null, .null]))]) := hD
  refine W.cs (cells' := 1) (slots' := 2) (by omega) (by omega) ?_
  refine lv_dup hx hb dX3_init_8 rfl ?_
  refine lv_bipush (v := nI 13) hx hb dX3_init_9 (by decide +kernel) ?_
  have hPc := hP.sub (ws' := [(q_1, .inr (5, [.null, .null]))]) [1] rfl
  have hDc := hD.sub (ws' := [(q_1, .inr (5, [.null, .null]))]) [1] (by decide) rfl
  have hKc := hK.sub (tys' := []) [] rfl
  have hFc := va_free (wc := [(q_1, .inr (5, [.null, .null]))]) hD hS hA [1] rfl
  refine va_callv (va_runI (As := [.int (nI 13)]) (rest := [.ref q_1, .ref h0]) ⟨hx, hb, hml, hown, hts⟩ (c_X2_init l dC dI (va_A [(q_1, .inr (5, [.null, .null]))] H.size) H.size (fun _ h => Or.inr h) q_1 13 (by decide) (by decide)) (cwI 1 hts (goodIn_sub (fun w9 h9 => bk1 w9 h9) gw_X2_init) rfl rfl rfl (hts (.initialized RX2) (List.mem_of_getElem? (i := 6) rfl)) (hts (.methodLink RX3 11 yX2_init) (List.mem_of_getElem? (i := 7) rfl)) (hts (.instanceMethod yX2_init) (List.mem_of_getElem? (i := 8) rfl)) rfl (by decide +kernel) ⟨Nat.le_of_ble_eq_true rfl, Nat.le_of_ble_eq_true rfl⟩) ⟨fun a U g mk q => by obtain ⟨q0, q1, qP, qK, qD⟩ := q; exact ⟨q0, q1, qP, va_K.moved (u := U) (U := U.calling g mk a) (Vm.Alike.refl U.vm) qK, qD⟩, fun U hU hW => ⟨rfl, by rw [hU], by rw [hU]; exact hPc, va_K.moved hW.alike hKc, hDc.self⟩⟩ rfl rfl hl.1 rfl (lv_room (Nat.le_of_ble_eq_true rfl)) dX3_init_11 ⟨(Nat.le_of_ble_eq_true rfl), (by show _ ≤ 34; omega)⟩) hS (fun q _ h => hFc q h) hFc (fun u t H1 locs ht hvm hw_2 hB hz1 hk1 hS => ?_)
  obtain ⟨qt_3, qta_4, ct_5, qb_6, qba_7, cb_8⟩ := u
  obtain ⟨hP1, hK1, hD1⟩ := hB
  rw [ht] at hP1
  have hK1 := va_K.moved hvm.symm hK1
  try dsimp only at hw_2
  obtain ⟨hP, hD⟩ := va_join (wr := [(h0, .inr (6, [.null, .int (nI 0), .int (nI 0), .int (nI 0), .int (nI 0), .int (nI 0), .int (nI 0)]))]) (w1 := [(q_1, .inr (5, [.ref qt_3, .ref qb_6])), (qt_3, .inr (11, [.ref qta_4, .int (nI 0), .int (nI 0)])), (qta_4, .inl (ct_5, 13, .inl (fun _ => 0))), (qb_6, .inr (11, [.ref qba_7, .int (nI 1), .int (nI 0)])), (qba_7, .inl (cb_8, 13, .inl (upd (fun _ => 0) 0 (nI 1))))]) hP hD [1] [0] rfl rfl (by decide) (by decide) hk1 hFc hP1 hD1
  have hK := (hK.sub (tys' := []) [] rfl).app hK1
  generalize H1 = H at hP hS ⊢
  have hP : va_P (dC, dI) vwCl ([(h0, .inr (6, [.null, .int (nI 0), .int (nI 0), .int (nI 0), .int (nI 0), .int (nI 0), .int (nI 0)])), (q_1, .inr (5, [.ref qt_3, .ref qb_6])), (qt_3, .inr (11, [.ref qta_4, .int (nI 0), .int (nI 0)])), (qta_4, .inl (ct_5, 13, .inl (fun _ => 0))), (qb_6, .inr (11, [.ref qba_7, .int (nI 1), .int (nI 0)])), (qba_7, .inl (cb_8, 13, .inl (upd (fun _ => 0) 0 (nI 1))))]) H := hP
  have hD : va_D A ([(h0, .inr (6, [.null, .int (nI 0), .int (nI 0), .int (nI 0), .int (nI 0), .int (nI 0), .int (nI 0)])), (q_1, .inr (5, [.ref qt_3, .ref qb_6])), (qt_3, .inr (11, [.ref qta_4, .int (nI 0), .int (nI 0)])), (qta_4, .inl (ct_5, 13, .inl (fun _ => 0))), (qb_6, .inr (11, [.ref qba_7, .int (nI 1), .int (nI 0)])), (qba_7, .inl (cb_8, 13, .inl (upd (fun _ => 0) 0 (nI 1))))]) := hD
  have hK : va_K (dC, dI) vwCl [(ct_5, .int), (cb_8, .int)] s := hK
  refine W.cs (cells' := 5) (slots' := 2 + (2 * 13 + 6)) (by omega) (by omega) ?_
  refine va_putF (D := (dC, dI)) (ci := 6) (v := .ref q_1) (ty := .object "GradientDesk$Fraction") (C := RX3) (T := TX3) (N := 7) hx hb hts bk2 tyX3 tyX3_ok nmX3 hown hK hP hD hS 0 rfl rfl 0 (by decide) (hts (.fieldLink RX3 14 "GradientDesk$Part" "number" "LGradientDesk$Fraction;") (List.mem_of_getElem? (i := 9) rfl)) (fun _ h9 => h9) rfl hin rfl (by decide +kernel) rfl rfl (Nat.le_of_ble_eq_true rfl) dX3_init_14 (fun H locs hP hD hS => ?_)
  have hP : va_P (dC, dI) vwCl ([(h0, .inr (6, [.ref q_1, .int (nI 0), .int (nI 0), .int (nI 0), .int (nI 0), .int (nI 0), .int (nI 0)])), (q_1, .inr (5, [.ref qt_3, .ref qb_6])), (qt_3, .inr (11, [.ref qta_4, .int (nI 0), .int (nI 0)])), (qta_4, .inl (ct_5, 13, .inl (fun _ => 0))), (qb_6, .inr (11, [.ref qba_7, .int (nI 1), .int (nI 0)])), (qba_7, .inl (cb_8, 13, .inl (upd (fun _ => 0) 0 (nI 1))))]) H := hP
  have hD : va_D A ([(h0, .inr (6, [.ref q_1, .int (nI 0), .int (nI 0), .int (nI 0), .int (nI 0), .int (nI 0), .int (nI 0)])), (q_1, .inr (5, [.ref qt_3, .ref qb_6])), (qt_3, .inr (11, [.ref qta_4, .int (nI 0), .int (nI 0)])), (qta_4, .inl (ct_5, 13, .inl (fun _ => 0))), (qb_6, .inr (11, [.ref qba_7, .int (nI 1), .int (nI 0)])), (qba_7, .inl (cb_8, 13, .inl (upd (fun _ => 0) 0 (nI 1))))]) := hD
  have hP9 := hP.sub (ws' := [(h0, .inr (6, [.ref q_1, .int (nI 0), .int (nI 0), .int (nI 0), .int (nI 0), .int (nI 0), .int (nI 0)]))]) [0] rfl
  have hD9 := hD.sub (ws' := [(h0, .inr (6, [.ref q_1, .int (nI 0), .int (nI 0), .int (nI 0), .int (nI 0), .int (nI 0), .int (nI 0)]))]) [0] (by decide) rfl
  have hK9 := hK.sub (tys' := []) [] rfl
  refine W.widen (k := 5) (n := 34) (by omega) (by omega) ?_
  exact W.vret hx hb hr (fun t ht hW => ⟨⟨q_1, rfl, trivial, by rw [ht]; exact hP9, va_K.moved hW.alike hK9, hD9⟩, hS.F ht⟩) hS.2.2 dX3_init_17
def wd_X7_init : List Cond := .code yX7_init cX7_init 1 none :: (([.methodLink RX7 3 objectInit, .instanceMethod objectInit, .code objectInit ⟨#[0xb1]⟩ 1 none, .arrayClass .char, .fieldLink RX7 9 "GradientDesk$Text" "letters" "[C"] : List Cond) ++ (u_ws RX7 TX7 5 ++ ([])))
theorem gw_X7_init : wd_X7_init.all goodWord = true := k_allc rfl (k_all (by decide +kernel) (k_all (gu_X7) (rfl)))
abbrev at_X7_init (dC : Nat → ClassId) (dI : Nat → Nat → Nat) (A : Nat → Prop) (h0 : Nat) (u : Nat × ClassId) (t : State) : Prop := match u with
  | (qa, cA) => va_P (dC, dI) vwCl [(h0, .inr (10, [.ref qa, .int (nI 0), .int (nI 0), .int (nI 0), .int (nI 0)])), (qa, .inl (cA, 64, .inl (fun _ => 0)))] t.heap ∧ va_K (dC, dI) vwCl [(cA, .char)] t ∧ va_D A [(h0, .inr (10, [.ref qa, .int (nI 0), .int (nI 0), .int (nI 0), .int (nI 0)])), (qa, .inl (cA, 64, .inl (fun _ => 0)))]
set_option maxHeartbeats 4000000 in
set_option maxRecDepth 100000 in
theorem c_X7_init (l : Launch) (dC : Nat → ClassId) (dI : Nat → Nat → Nat) (A : Nat → Prop) (sz : Nat) (hA0 : ∀ q, sz ≤ q → A q) (h0 : Nat)  : Met l yX7_init wd_X7_init ({ frames := 10, cells := 1, slots := 64, locals := 200 }) (va_Pc [.ref h0] (fun U => U.heap.size = sz ∧ va_P (dC, dI) vwCl [(h0, .inr (10, [.null, .int (nI 0), .int (nI 0), .int (nI 0), .int (nI 0)]))] U.heap ∧ va_K (dC, dI) vwCl [] U ∧ va_D A [(h0, .inr (10, [.null, .int (nI 0), .int (nI 0), .int (nI 0), .int (nI 0)]))])) (va_Qv (fun (u : Nat × ClassId) => match u with | (qa, cA) => True) (at_X7_init dC dI A h0) A) (1) (64) A := by
  refine Met.ofW (cc := cX7_init) (maxL := 1) (ret := none) (by decide) rfl ?_
  intro p e s m args below meth c s₁ B hml hv
  obtain ⟨rfl, hsz, hP, hK, hD⟩ := hv
  have hx := B.exec
  have hb := B.bytes
  have hr := B.returns
  have hts := atoms_spec (ws := wd_X7_init) B.pre
  have hown : s.vm.findClass RX7 = some m.cls := findClass_of_methodNamed B.named
  have hlocks := B.notSynchronized
  have hin : meth.name = "<init>" := (name_of_methodNamed B.named B.method).1
  have bk0 : ∀ w ∈ u_ws RX7 TX7 5, w ∈ wd_X7_init := fun _ h => List.mem_cons_of_mem _ (List.mem_append_right _ (List.mem_append_left _ h))
  subst hsz
  have hA : ∀ q : Nat, s.heap.size ≤ q → A q := hA0
  have hS : va_S A s.heap s.heap [] := va_S.rf
  have hl := lv_entry ([.ref h0]) (n := 1) (Nat.le_of_ble_eq_true rfl)
  rw [lg_entry_eq]
  generalize (lg_sl ([.ref h0]) ++ List.replicate (1 - (lg_sl ([.ref h0])).length) Slot.unset).toArray = ls at hl ⊢
  have hl : lv_has ls 1 [(0, .ref h0)] := hl
  refine lv_aload_n hx hb dX7_init_0 rfl (lv_at hl 0 rfl) ?_
  refine W.objInit hx hb hown (hts (.methodLink RX7 3 objectInit) (List.mem_of_getElem? (i := 1) rfl)) (hts (.instanceMethod objectInit) (List.mem_of_getElem? (i := 2) rfl)) (hts _ (List.mem_of_getElem? (i := 3) rfl)) rfl (by rw [hml]; exact hl.1) rfl dX7_init_1 (Nat.le_of_ble_eq_true rfl) (Nat.le_of_ble_eq_true rfl) ?_
  refine W.eq (g2 := F0 m 4 ls []) rfl ?_
  refine lv_aload_n hx hb dX7_init_4 rfl (lv_at hl 0 rfl) ?_
  refine lv_bipush (v := nI 64) hx hb dX7_init_5 (by decide +kernel) ?_
  refine va_newa (atype := .char) (ty := .char) (N' := 64) (a0 := (64, .inl (fun _ => 0))) hx hb (hts (.arrayClass .char) (List.mem_of_getElem? (i := 4) rfl)) rfl hK hP hD hS hA (fun _ => rfl) (nI_pos (by decide)) (nI_clamp (by decide)) (by decide) (Nat.le_of_ble_eq_true rfl) (Nat.le_of_ble_eq_true rfl) dX7_init_7 (fun q_1 cA_2 H hK hP hD hS => ?_)
  have hP : va_P (dC, dI) vwCl ([(h0, .inr (10, [.null, .int (nI 0), .int (nI 0), .int (nI 0), .int (nI 0)])), (q_1, .inl (cA_2, 64, .inl (fun _ => 0)))]) H := hP
  have hD : va_D A ([(h0, .inr (10, [.null, .int (nI 0), .int (nI 0), .int (nI 0), .int (nI 0)])), (q_1, .inl (cA_2, 64, .inl (fun _ => 0)))]) := hD
  have hK : va_K (dC, dI) vwCl [(cA_2, .char)] s := hK
  refine W.cs (cells' := 1) (slots' := 64) (by omega) (by omega) ?_
  refine va_putF (D := (dC, dI)) (ci := 10) (v := .ref q_1) (ty := .array .char) (C := RX7) (T := TX7) (N := 5) hx hb hts bk0 tyX7 tyX7_ok nmX7 hown hK hP hD hS 0 rfl rfl 0 (by decide) (hts (.fieldLink RX7 9 "GradientDesk$Text" "letters" "[C") (List.mem_of_getElem? (i := 5) rfl)) (fun _ h9 => h9) rfl hin rfl (by decide +kernel) rfl rfl (Nat.le_of_ble_eq_true rfl) dX7_init_9 (fun H locs hP hD hS => ?_)
  have hP : va_P (dC, dI) vwCl ([(h0, .inr (10, [.ref q_1, .int (nI 0), .int (nI 0), .int (nI 0), .int (nI 0)])), (q_1, .inl (cA_2, 64, .inl (fun _ => 0)))]) H := hP
  have hD : va_D A ([(h0, .inr (10, [.ref q_1, .int (nI 0), .int (nI 0), .int (nI 0), .int (nI 0)])), (q_1, .inl (cA_2, 64, .inl (fun _ => 0)))]) := hD
  have hP9 := hP.sub (ws' := [(h0, .inr (10, [.ref q_1, .int (nI 0), .int (nI 0), .int (nI 0), .int (nI 0)])), (q_1, .inl (cA_2, 64, .inl (fun _ => 0)))]) [0, 1] rfl
  have hD9 := hD.sub (ws' := [(h0, .inr (10, [.ref q_1, .int (nI 0), .int (nI 0), .int (nI 0), .int (nI 0)])), (q_1, .inl (cA_2, 64, .inl (fun _ => 0)))]) [0, 1] (by decide) rfl
  have hK9 := hK.sub (tys' := [(cA_2, .char)]) [0] rfl
  refine W.widen (k := 1) (n := 64) (by omega) (by omega) ?_
  exact W.vret hx hb hr (fun t ht hW => ⟨⟨(q_1, cA_2), rfl, trivial, by rw [ht]; exact hP9, va_K.moved hW.alike hK9, hD9⟩, hS.F ht⟩) hS.2.2 dX7_init_12
def wd_X0_init : List Cond := .code yX0_init cX0_init 1 none :: (([.methodLink RX0 3 objectInit, .instanceMethod objectInit, .code objectInit ⟨#[0xb1]⟩ 1 none, .classLink RX0 9 RX8, .instantiable RX8 3, .initialized RX8, .methodLink RX0 11 yX8_init, .instanceMethod yX8_init, .fieldLink RX0 14 "GradientDesk$Arithmetic" "left" "LGradientDesk$Whole;", .fieldLink RX0 20 "GradientDesk$Arithmetic" "right" "LGradientDesk$Whole;", .fieldLink RX0 23 "GradientDesk$Arithmetic" "one" "LGradientDesk$Whole;", .fieldLink RX0 26 "GradientDesk$Arithmetic" "other" "LGradientDesk$Whole;"] : List Cond) ++ (u_ws RX8 TX8 3 ++ (wd_X8_init ++ (u_ws RX0 TX0 4 ++ ([])))))
theorem gw_X0_init : wd_X0_init.all goodWord = true := k_allc rfl (k_all (by decide +kernel) (k_all (gu_X8) (k_all (gw_X8_init) (k_all (gu_X0) (rfl)))))
abbrev at_X0_init (dC : Nat → ClassId) (dI : Nat → Nat → Nat) (A : Nat → Prop) (h0 : Nat) (u : Nat × Nat × ClassId × Nat × Nat × ClassId × Nat × Nat × ClassId × Nat × Nat × ClassId) (t : State) : Prop := match u with
  | (q0, a0, c0, q1, a1, c1, q2, a2, c2, q3, a3, c3) => va_P (dC, dI) vwCl [(h0, .inr (3, [.ref q0, .ref q1, .ref q2, .ref q3])), (q0, .inr (11, [.ref a0, .int (nI 0), .int (nI 0)])), (a0, .inl (c0, 128, .inl (fun _ => 0))), (q1, .inr (11, [.ref a1, .int (nI 0), .int (nI 0)])), (a1, .inl (c1, 128, .inl (fun _ => 0))), (q2, .inr (11, [.ref a2, .int (nI 0), .int (nI 0)])), (a2, .inl (c2, 64, .inl (fun _ => 0))), (q3, .inr (11, [.ref a3, .int (nI 0), .int (nI 0)])), (a3, .inl (c3, 64, .inl (fun _ => 0)))] t.heap ∧ va_K (dC, dI) vwCl [(c0, .int), (c1, .int), (c2, .int), (c3, .int)] t ∧ va_D A [(h0, .inr (3, [.ref q0, .ref q1, .ref q2, .ref q3])), (q0, .inr (11, [.ref a0, .int (nI 0), .int (nI 0)])), (a0, .inl (c0, 128, .inl (fun _ => 0))), (q1, .inr (11, [.ref a1, .int (nI 0), .int (nI 0)])), (a1, .inl (c1, 128, .inl (fun _ => 0))), (q2, .inr (11, [.ref a2, .int (nI 0), .int (nI 0)])), (a2, .inl (c2, 64, .inl (fun _ => 0))), (q3, .inr (11, [.ref a3, .int (nI 0), .int (nI 0)])), (a3, .inl (c3, 64, .inl (fun _ => 0)))]
set_option maxHeartbeats 4000000 in
set_option maxRecDepth 100000 in
theorem c_X0_init (l : Launch) (dC : Nat → ClassId) (dI : Nat → Nat → Nat) (A : Nat → Prop) (sz : Nat) (hA0 : ∀ q, sz ≤ q → A q) (h0 : Nat)  : Met l yX0_init wd_X0_init ({ frames := 20, cells := 8, slots := 396, locals := 400 }) (va_Pc [.ref h0] (fun U => U.heap.size = sz ∧ va_P (dC, dI) vwCl [(h0, .inr (3, [.null, .null, .null, .null]))] U.heap ∧ va_K (dC, dI) vwCl [] U ∧ va_D A [(h0, .inr (3, [.null, .null, .null, .null]))])) (va_Qv (fun (u : Nat × Nat × ClassId × Nat × Nat × ClassId × Nat × Nat × ClassId × Nat × Nat × ClassId) => match u with | (q0, a0, c0, q1, a1, c1, q2, a2, c2, q3, a3, c3) => True) (at_X0_init dC dI A h0) A) (8) (396) A := by
  refine Met.ofW (cc := cX0_init) (maxL := 1) (ret := none) (by decide) rfl ?_
  intro p e s m args below meth c s₁ B hml hv
  obtain ⟨rfl, hsz, hP, hK, hD⟩ := hv
  have hx := B.exec
  have hb := B.bytes
  have hr := B.returns
  have hts := atoms_spec (ws := wd_X0_init) B.pre
  have hown : s.vm.findClass RX0 = some m.cls := findClass_of_methodNamed B.named
  have hlocks := B.notSynchronized
  have hin : meth.name = "<init>" := (name_of_methodNamed B.named B.method).1
  have bk0 : ∀ w ∈ u_ws RX8 TX8 3, w ∈ wd_X0_init := fun _ h => List.mem_cons_of_mem _ (List.mem_append_right _ (List.mem_append_left _ h))
  have bk1 : ∀ w ∈ wd_X8_init, w ∈ wd_X0_init := fun _ h => List.mem_cons_of_mem _ (List.mem_append_right _ (List.mem_append_right _ (List.mem_append_left _ h)))
  have bk2 : ∀ w ∈ u_ws RX0 TX0 4, w ∈ wd_X0_init := fun _ h => List.mem_cons_of_mem _ (List.mem_append_right _ (List.mem_append_right _ (List.mem_append_right _ (List.mem_append_left _ h))))
  subst hsz
  have hA : ∀ q : Nat, s.heap.size ≤ q → A q := hA0
  have hS : va_S A s.heap s.heap [] := va_S.rf
  have hl := lv_entry ([.ref h0]) (n := 1) (Nat.le_of_ble_eq_true rfl)
  rw [lg_entry_eq]
  generalize (lg_sl ([.ref h0]) ++ List.replicate (1 - (lg_sl ([.ref h0])).length) Slot.unset).toArray = ls at hl ⊢
  have hl : lv_has ls 1 [(0, .ref h0)] := hl
  refine lv_aload_n hx hb dX0_init_0 rfl (lv_at hl 0 rfl) ?_
  refine W.objInit hx hb hown (hts (.methodLink RX0 3 objectInit) (List.mem_of_getElem? (i := 1) rfl)) (hts (.instanceMethod objectInit) (List.mem_of_getElem? (i := 2) rfl)) (hts _ (List.mem_of_getElem? (i := 3) rfl)) rfl (by rw [hml]; exact hl.1) rfl dX0_init_1 (Nat.le_of_ble_eq_true rfl) (Nat.le_of_ble_eq_true rfl) ?_
  refine W.eq (g2 := F0 m 4 ls []) rfl ?_
  refine lv_aload_n hx hb dX0_init_4 rfl (lv_at hl 0 rfl) ?_
  refine va_new (ci := 11) (fs := [.null, .int (nI 0), .int (nI 0)]) (C := RX8) (T := TX8) (N := 3) hx hb hts bk0 tyX8 tyX8_ok hown (hts (.classLink RX0 9 RX8) (List.mem_of_getElem? (i := 4) rfl)) (hts (.instantiable RX8 3) (List.mem_of_getElem? (i := 5) rfl)) (hts (.initialized RX8) (List.mem_of_getElem? (i := 6) rfl)) hK hP hD hS hA rfl (fun j hj => by rcases (show j = 0 ∨ j = 1 ∨ j = 2 by omega) with rfl | rfl | rfl <;> rfl) (Nat.le_of_ble_eq_true rfl) (Nat.le_of_ble_eq_true rfl) dX0_init_5 (fun q_1 H hP hD hS => ?_)
  have hP : va_P (dC, dI) vwCl ([(h0, .inr (3, [.null, .null, .null, .null])), (q_1, .inr (11, [.null, .int (nI 0), .int (nI 0)]))]) H := hP
  have hD : va_D A ([(h0, .inr (3, [.null, .null, .null, .null])), (q_1, .inr (11, [.null, .int (nI 0), .int (nI 0)]))]) := hD
  refine W.cs (cells' := 1) (slots' := 3) (by omega) (by omega) ?_
  refine lv_dup hx hb dX0_init_8 rfl ?_
  refine lv_sipush (v := nI 128) hx hb dX0_init_9 (by decide +kernel) ?_
  have hPc := hP.sub (ws' := [(q_1, .inr (11, [.null, .int (nI 0), .int (nI 0)]))]) [1] rfl
  have hDc := hD.sub (ws' := [(q_1, .inr (11, [.null, .int (nI 0), .int (nI 0)]))]) [1] (by decide) rfl
  have hKc := hK.sub (tys' := []) [] rfl
  have hFc := va_free (wc := [(q_1, .inr (11, [.null, .int (nI 0), .int (nI 0)]))]) hD hS hA [1] rfl
  refine va_callv (va_runI (As := [.int (nI 128)]) (rest := [.ref q_1, .ref h0]) ⟨hx, hb, hml, hown, hts⟩ (c_X8_init l dC dI (va_A [(q_1, .inr (11, [.null, .int (nI 0), .int (nI 0)]))] H.size) H.size (fun _ h => Or.inr h) q_1 128 (by decide)) (cwI 1 hts (goodIn_sub (fun w9 h9 => bk1 w9 h9) gw_X8_init) rfl rfl rfl (hts (.initialized RX8) (List.mem_of_getElem? (i := 6) rfl)) (hts (.methodLink RX0 11 yX8_init) (List.mem_of_getElem? (i := 7) rfl)) (hts (.instanceMethod yX8_init) (List.mem_of_getElem? (i := 8) rfl)) rfl (by decide +kernel) ⟨Nat.le_of_ble_eq_true rfl, Nat.le_of_ble_eq_true rfl⟩) ⟨fun a U g mk q => by obtain ⟨q0, q1, qP, qK, qD⟩ := q; exact ⟨q0, q1, qP, va_K.moved (u := U) (U := U.calling g mk a) (Vm.Alike.refl U.vm) qK, qD⟩, fun U hU hW => ⟨rfl, by rw [hU], by rw [hU]; exact hPc, va_K.moved hW.alike hKc, hDc.self⟩⟩ rfl rfl hl.1 rfl (lv_room (Nat.le_of_ble_eq_true rfl)) dX0_init_12 ⟨(Nat.le_of_ble_eq_true rfl), (Nat.le_of_ble_eq_true rfl)⟩) hS (fun q _ h => hFc q h) hFc (fun u t H1 locs ht hvm hw_2 hB hz1 hk1 hS => ?_)
  obtain ⟨qa_3, cA_4⟩ := u
  obtain ⟨hP1, hK1, hD1⟩ := hB
  rw [ht] at hP1
  have hK1 := va_K.moved hvm.symm hK1
  try dsimp only at hw_2
  obtain ⟨hP, hD⟩ := va_join (wr := [(h0, .inr (3, [.null, .null, .null, .null]))]) (w1 := [(q_1, .inr (11, [.ref qa_3, .int (nI 0), .int (nI 0)])), (qa_3, .inl (cA_4, 128, .inl (fun _ => 0)))]) hP hD [1] [0] rfl rfl (by decide) (by decide) hk1 hFc hP1 hD1
  have hK := (hK.sub (tys' := []) [] rfl).app hK1
  generalize H1 = H at hP hS ⊢
  have hP : va_P (dC, dI) vwCl ([(h0, .inr (3, [.null, .null, .null, .null])), (q_1, .inr (11, [.ref qa_3, .int (nI 0), .int (nI 0)])), (qa_3, .inl (cA_4, 128, .inl (fun _ => 0)))]) H := hP
  have hD : va_D A ([(h0, .inr (3, [.null, .null, .null, .null])), (q_1, .inr (11, [.ref qa_3, .int (nI 0), .int (nI 0)])), (qa_3, .inl (cA_4, 128, .inl (fun _ => 0)))]) := hD
  have hK : va_K (dC, dI) vwCl [(cA_4, .int)] s := hK
  refine W.cs (cells' := 2) (slots' := 131) (by omega) (by omega) ?_
  refine va_putF (D := (dC, dI)) (ci := 3) (v := .ref q_1) (ty := .object "GradientDesk$Whole") (C := RX0) (T := TX0) (N := 4) hx hb hts bk2 tyX0 tyX0_ok nmX0 hown hK hP hD hS 0 rfl rfl 0 (by decide) (hts (.fieldLink RX0 14 "GradientDesk$Arithmetic" "left" "LGradientDesk$Whole;") (List.mem_of_getElem? (i := 9) rfl)) (fun _ h9 => h9) rfl hin rfl (by decide +kernel) rfl rfl (Nat.le_of_ble_eq_true rfl) dX0_init_15 (fun H locs hP hD hS => ?_)
  have hP : va_P (dC, dI) vwCl ([(h0, .inr (3, [.ref q_1, .null, .null, .null])), (q_1, .inr (11, [.ref qa_3, .int (nI 0), .int (nI 0)])), (qa_3, .inl (cA_4, 128, .inl (fun _ => 0)))]) H := hP
  have hD : va_D A ([(h0, .inr (3, [.ref q_1, .null, .null, .null])), (q_1, .inr (11, [.ref qa_3, .int (nI 0), .int (nI 0)])), (qa_3, .inl (cA_4, 128, .inl (fun _ => 0)))]) := hD
  refine lv_aload_n hx hb dX0_init_18 rfl (lv_at hl 0 rfl) ?_
  refine va_new (ci := 11) (fs := [.null, .int (nI 0), .int (nI 0)]) (C := RX8) (T := TX8) (N := 3) hx hb hts bk0 tyX8 tyX8_ok hown (hts (.classLink RX0 9 RX8) (List.mem_of_getElem? (i := 4) rfl)) (hts (.instantiable RX8 3) (List.mem_of_getElem? (i := 5) rfl)) (hts (.initialized RX8) (List.mem_of_getElem? (i := 6) rfl)) hK hP hD hS hA rfl (fun j hj => by rcases (show j = 0 ∨ j = 1 ∨ j = 2 by omega) with rfl | rfl | rfl <;> rfl) (Nat.le_of_ble_eq_true rfl) (Nat.le_of_ble_eq_true rfl) dX0_init_19 (fun q_5 H hP hD hS => ?_)
  have hP : va_P (dC, dI) vwCl ([(h0, .inr (3, [.ref q_1, .null, .null, .null])), (q_1, .inr (11, [.ref qa_3, .int (nI 0), .int (nI 0)])), (qa_3, .inl (cA_4, 128, .inl (fun _ => 0))), (q_5, .inr (11, [.null, .int (nI 0), .int (nI 0)]))]) H := hP
  have hD : va_D A ([(h0, .inr (3, [.ref q_1, .null, .null, .null])), (q_1, .inr (11, [.ref qa_3, .int (nI 0), .int (nI 0)])), (qa_3, .inl (cA_4, 128, .inl (fun _ => 0))), (q_5, .inr (11, [.null, .int (nI 0), .int (nI 0)]))]) := hD
  refine W.cs (cells' := 3) (slots' := 134) (by omega) (by omega) ?_
  refine lv_dup hx hb dX0_init_22 rfl ?_
  refine lv_sipush (v := nI 128) hx hb dX0_init_23 (by decide +kernel) ?_
  have hPc := hP.sub (ws' := [(q_5, .inr (11, [.null, .int (nI 0), .int (nI 0)]))]) [3] rfl
  have hDc := hD.sub (ws' := [(q_5, .inr (11, [.null, .int (nI 0), .int (nI 0)]))]) [3] (by decide) rfl
  have hKc := hK.sub (tys' := []) [] rfl
  have hFc := va_free (wc := [(q_5, .inr (11, [.null, .int (nI 0), .int (nI 0)]))]) hD hS hA [3] rfl
  refine va_callv (va_runI (As := [.int (nI 128)]) (rest := [.ref q_5, .ref h0]) ⟨hx, hb, hml, hown, hts⟩ (c_X8_init l dC dI (va_A [(q_5, .inr (11, [.null, .int (nI 0), .int (nI 0)]))] H.size) H.size (fun _ h => Or.inr h) q_5 128 (by decide)) (cwI 1 hts (goodIn_sub (fun w9 h9 => bk1 w9 h9) gw_X8_init) rfl rfl rfl (hts (.initialized RX8) (List.mem_of_getElem? (i := 6) rfl)) (hts (.methodLink RX0 11 yX8_init) (List.mem_of_getElem? (i := 7) rfl)) (hts (.instanceMethod yX8_init) (List.mem_of_getElem? (i := 8) rfl)) rfl (by decide +kernel) ⟨Nat.le_of_ble_eq_true rfl, Nat.le_of_ble_eq_true rfl⟩) ⟨fun a U g mk q => by obtain ⟨q0, q1, qP, qK, qD⟩ := q; exact ⟨q0, q1, qP, va_K.moved (u := U) (U := U.calling g mk a) (Vm.Alike.refl U.vm) qK, qD⟩, fun U hU hW => ⟨rfl, by rw [hU], by rw [hU]; exact hPc, va_K.moved hW.alike hKc, hDc.self⟩⟩ rfl rfl hl.1 rfl (lv_room (Nat.le_of_ble_eq_true rfl)) dX0_init_26 ⟨(Nat.le_of_ble_eq_true rfl), (Nat.le_of_ble_eq_true rfl)⟩) hS (fun q _ h => hFc q h) hFc (fun u t H1 locs ht hvm hw_6 hB hz1 hk1 hS => ?_)
  obtain ⟨qa_7, cA_8⟩ := u
  obtain ⟨hP1, hK1, hD1⟩ := hB
  rw [ht] at hP1
  have hK1 := va_K.moved hvm.symm hK1
  try dsimp only at hw_6
  obtain ⟨hP, hD⟩ := va_join (wr := [(h0, .inr (3, [.ref q_1, .null, .null, .null])), (q_1, .inr (11, [.ref qa_3, .int (nI 0), .int (nI 0)])), (qa_3, .inl (cA_4, 128, .inl (fun _ => 0)))]) (w1 := [(q_5, .inr (11, [.ref qa_7, .int (nI 0), .int (nI 0)])), (qa_7, .inl (cA_8, 128, .inl (fun _ => 0)))]) hP hD [3] [0, 1, 2] rfl rfl (by decide) (by decide) hk1 hFc hP1 hD1
  have hK := (hK.sub (tys' := [(cA_4, .int)]) [0] rfl).app hK1
  generalize H1 = H at hP hS ⊢
  have hP : va_P (dC, dI) vwCl ([(h0, .inr (3, [.ref q_1, .null, .null, .null])), (q_1, .inr (11, [.ref qa_3, .int (nI 0), .int (nI 0)])), (qa_3, .inl (cA_4, 128, .inl (fun _ => 0))), (q_5, .inr (11, [.ref qa_7, .int (nI 0), .int (nI 0)])), (qa_7, .inl (cA_8, 128, .inl (fun _ => 0)))]) H := hP
  have hD : va_D A ([(h0, .inr (3, [.ref q_1, .null, .null, .null])), (q_1, .inr (11, [.ref qa_3, .int (nI 0), .int (nI 0)])), (qa_3, .inl (cA_4, 128, .inl (fun _ => 0))), (q_5, .inr (11, [.ref qa_7, .int (nI 0), .int (nI 0)])), (qa_7, .inl (cA_8, 128, .inl (fun _ => 0)))]) := hD
  have hK : va_K (dC, dI) vwCl [(cA_4, .int), (cA_8, .int)] s := hK
  refine W.cs (cells' := 4) (slots' := 262) (by omega) (by omega) ?_
  refine va_putF (D := (dC, dI)) (ci := 3) (v := .ref q_5) (ty := .object "GradientDesk$Whole") (C := RX0) (T := TX0) (N := 4) hx hb hts bk2 tyX0 tyX0_ok nmX0 hown hK hP hD hS 0 rfl rfl 1 (by decide) (hts (.fieldLink RX0 20 "GradientDesk$Arithmetic" "right" "LGradientDesk$Whole;") (List.mem_of_getElem? (i := 10) rfl)) (fun _ h9 => h9) rfl hin rfl (by decide +kernel) rfl rfl (Nat.le_of_ble_eq_true rfl) dX0_init_29 (fun H locs hP hD hS => ?_)
  have hP : va_P (dC, dI) vwCl ([(h0, .inr (3, [.ref q_1, .ref q_5, .null, .null])), (q_1, .inr (11, [.ref qa_3, .int (nI 0), .int (nI 0)])), (qa_3, .inl (cA_4, 128, .inl (fun _ => 0))), (q_5, .inr (11, [.ref qa_7, .int (nI 0), .int (nI 0)])), (qa_7, .inl (cA_8, 128, .inl (fun _ => 0)))]) H := hP
  have hD : va_D A ([(h0, .inr (3, [.ref q_1, .ref q_5, .null, .null])), (q_1, .inr (11, [.ref qa_3, .int (nI 0), .int (nI 0)])), (qa_3, .inl (cA_4, 128, .inl (fun _ => 0))), (q_5, .inr (11, [.ref qa_7, .int (nI 0), .int (nI 0)])), (qa_7, .inl (cA_8, 128, .inl (fun _ => 0)))]) := hD
  refine lv_aload_n hx hb dX0_init_32 rfl (lv_at hl 0 rfl) ?_
  refine va_new (ci := 11) (fs := [.null, .int (nI 0), .int (nI 0)]) (C := RX8) (T := TX8) (N := 3) hx hb hts bk0 tyX8 tyX8_ok hown (hts (.classLink RX0 9 RX8) (List.mem_of_getElem? (i := 4) rfl)) (hts (.instantiable RX8 3) (List.mem_of_getElem? (i := 5) rfl)) (hts (.initialized RX8) (List.mem_of_getElem? (i := 6) rfl)) hK hP hD hS hA rfl (fun j hj => by rcases (show j = 0 ∨ j = 1 ∨ j = 2 by omega) with rfl | rfl | rfl <;> rfl) (Nat.le_of_ble_eq_true rfl) (Nat.le_of_ble_eq_true rfl) dX0_init_33 (fun q_9 H hP hD hS => ?_)
  have hP : va_P (dC, dI) vwCl ([(h0, .inr (3, [.ref q_1, .ref q_5, .null, .null])), (q_1, .inr (11, [.ref qa_3, .int (nI 0), .int (nI 0)])), (qa_3, .inl (cA_4, 128, .inl (fun _ => 0))), (q_5, .inr (11, [.ref qa_7, .int (nI 0), .int (nI 0)])), (qa_7, .inl (cA_8, 128, .inl (fun _ => 0))), (q_9, .inr (11, [.null, .int (nI 0), .int (nI 0)]))]) H := hP
  have hD : va_D A ([(h0, .inr (3, [.ref q_1, .ref q_5, .null, .null])), (q_1, .inr (11, [.ref qa_3, .int (nI 0), .int (nI 0)])), (qa_3, .inl (cA_4, 128, .inl (fun _ => 0))), (q_5, .inr (11, [.ref qa_7, .int (nI 0), .int (nI 0)])), (qa_7, .inl (cA_8, 128, .inl (fun _ => 0))), (q_9, .inr (11, [.null, .int (nI 0), .int (nI 0)]))]) := hD
  refine W.cs (cells' := 5) (slots' := 265) (by omega) (by omega) ?_
  refine lv_dup hx hb dX0_init_36 rfl ?_
  refine lv_bipush (v := nI 64) hx hb dX0_init_37 (by decide +kernel) ?_
  have hPc := hP.sub (ws' := [(q_9, .inr (11, [.null, .int (nI 0), .int (nI 0)]))]) [5] rfl
  have hDc := hD.sub (ws' := [(q_9, .inr (11, [.null, .int (nI 0), .int (nI 0)]))]) [5] (by decide) rfl
  have hKc := hK.sub (tys' := []) [] rfl
  have hFc := va_free (wc := [(q_9, .inr (11, [.null, .int (nI 0), .int (nI 0)]))]) hD hS hA [5] rfl
  refine va_callv (va_runI (As := [.int (nI 64)]) (rest := [.ref q_9, .ref h0]) ⟨hx, hb, hml, hown, hts⟩ (c_X8_init l dC dI (va_A [(q_9, .inr (11, [.null, .int (nI 0), .int (nI 0)]))] H.size) H.size (fun _ h => Or.inr h) q_9 64 (by decide)) (cwI 1 hts (goodIn_sub (fun w9 h9 => bk1 w9 h9) gw_X8_init) rfl rfl rfl (hts (.initialized RX8) (List.mem_of_getElem? (i := 6) rfl)) (hts (.methodLink RX0 11 yX8_init) (List.mem_of_getElem? (i := 7) rfl)) (hts (.instanceMethod yX8_init) (List.mem_of_getElem? (i := 8) rfl)) rfl (by decide +kernel) ⟨Nat.le_of_ble_eq_true rfl, Nat.le_of_ble_eq_true rfl⟩) ⟨fun a U g mk q => by obtain ⟨q0, q1, qP, qK, qD⟩ := q; exact ⟨q0, q1, qP, va_K.moved (u := U) (U := U.calling g mk a) (Vm.Alike.refl U.vm) qK, qD⟩, fun U hU hW => ⟨rfl, by rw [hU], by rw [hU]; exact hPc, va_K.moved hW.alike hKc, hDc.self⟩⟩ rfl rfl hl.1 rfl (lv_room (Nat.le_of_ble_eq_true rfl)) dX0_init_39 ⟨(Nat.le_of_ble_eq_true rfl), (Nat.le_of_ble_eq_true rfl)⟩) hS (fun q _ h => hFc q h) hFc (fun u t H1 locs ht hvm hw_10 hB hz1 hk1 hS => ?_)
  obtain ⟨qa_11, cA_12⟩ := u
  obtain ⟨hP1, hK1, hD1⟩ := hB
  rw [ht] at hP1
  have hK1 := va_K.moved hvm.symm hK1
  try dsimp only at hw_10
  obtain ⟨hP, hD⟩ := va_join (wr := [(h0, .inr (3, [.ref q_1, .ref q_5, .null, .null])), (q_1, .inr (11, [.ref qa_3, .int (nI 0), .int (nI 0)])), (qa_3, .inl (cA_4, 128, .inl (fun _ => 0))), (q_5, .inr (11, [.ref qa_7, .int (nI 0), .int (nI 0)])), (qa_7, .inl (cA_8, 128, .inl (fun _ => 0)))]) (w1 := [(q_9, .inr (11, [.ref qa_11, .int (nI 0), .int (nI 0)])), (qa_11, .inl (cA_12, 64, .inl (fun _ => 0)))]) hP hD [5] [0, 1, 2, 3, 4] rfl rfl (by decide) (by decide) hk1 hFc hP1 hD1
  have hK := (hK.sub (tys' := [(cA_4, .int), (cA_8, .int)]) [0, 1] rfl).app hK1
  generalize H1 = H at hP hS ⊢
  have hP : va_P (dC, dI) vwCl ([(h0, .inr (3, [.ref q_1, .ref q_5, .null, .null])), (q_1, .inr (11, [.ref qa_3, .int (nI 0), .int (nI 0)])), (qa_3, .inl (cA_4, 128, .inl (fun _ => 0))), (q_5, .inr (11, [.ref qa_7, .int (nI 0), .int (nI 0)])), (qa_7, .inl (cA_8, 128, .inl (fun _ => 0))), (q_9, .inr (11, [.ref qa_11, .int (nI 0), .int (nI 0)])), (qa_11, .inl (cA_12, 64, .inl (fun _ => 0)))]) H := hP
  have hD : va_D A ([(h0, .inr (3, [.ref q_1, .ref q_5, .null, .null])), (q_1, .inr (11, [.ref qa_3, .int (nI 0), .int (nI 0)])), (qa_3, .inl (cA_4, 128, .inl (fun _ => 0))), (q_5, .inr (11, [.ref qa_7, .int (nI 0), .int (nI 0)])), (qa_7, .inl (cA_8, 128, .inl (fun _ => 0))), (q_9, .inr (11, [.ref qa_11, .int (nI 0), .int (nI 0)])), (qa_11, .inl (cA_12, 64, .inl (fun _ => 0)))]) := hD
  have hK : va_K (dC, dI) vwCl [(cA_4, .int), (cA_8, .int), (cA_12, .int)] s := hK
  refine W.cs (cells' := 6) (slots' := 329) (by omega) (by omega) ?_
  refine va_putF (D := (dC, dI)) (ci := 3) (v := .ref q_9) (ty := .object "GradientDesk$Whole") (C := RX0) (T := TX0) (N := 4) hx hb hts bk2 tyX0 tyX0_ok nmX0 hown hK hP hD hS 0 rfl rfl 2 (by decide) (hts (.fieldLink RX0 23 "GradientDesk$Arithmetic" "one" "LGradientDesk$Whole;") (List.mem_of_getElem? (i := 11) rfl)) (fun _ h9 => h9) rfl hin rfl (by decide +kernel) rfl rfl (Nat.le_of_ble_eq_true rfl) dX0_init_42 (fun H locs hP hD hS => ?_)
  have hP : va_P (dC, dI) vwCl ([(h0, .inr (3, [.ref q_1, .ref q_5, .ref q_9, .null])), (q_1, .inr (11, [.ref qa_3, .int (nI 0), .int (nI 0)])), (qa_3, .inl (cA_4, 128, .inl (fun _ => 0))), (q_5, .inr (11, [.ref qa_7, .int (nI 0), .int (nI 0)])), (qa_7, .inl (cA_8, 128, .inl (fun _ => 0))), (q_9, .inr (11, [.ref qa_11, .int (nI 0), .int (nI 0)])), (qa_11, .inl (cA_12, 64, .inl (fun _ => 0)))]) H := hP
  have hD : va_D A ([(h0, .inr (3, [.ref q_1, .ref q_5, .ref q_9, .null])), (q_1, .inr (11, [.ref qa_3, .int (nI 0), .int (nI 0)])), (qa_3, .inl (cA_4, 128, .inl (fun _ => 0))), (q_5, .inr (11, [.ref qa_7, .int (nI 0), .int (nI 0)])), (qa_7, .inl (cA_8, 128, .inl (fun _ => 0))), (q_9, .inr (11, [.ref qa_11, .int (nI 0), .int (nI 0)])), (qa_11, .inl (cA_12, 64, .inl (fun _ => 0)))]) := hD
  refine lv_aload_n hx hb dX0_init_45 rfl (lv_at hl 0 rfl) ?_
  refine va_new (ci := 11) (fs := [.null, .int (nI 0), .int (nI 0)]) (C := RX8) (T := TX8) (N := 3) hx hb hts bk0 tyX8 tyX8_ok hown (hts (.classLink RX0 9 RX8) (List.mem_of_getElem? (i := 4) rfl)) (hts (.instantiable RX8 3) (List.mem_of_getElem? (i := 5) rfl)) (hts (.initialized RX8) (List.mem_of_getElem? (i := 6) rfl)) hK hP hD hS hA rfl (fun j hj => by rcases (show j = 0 ∨ j = 1 ∨ j = 2 by omega) with rfl | rfl | rfl <;> rfl) (Nat.le_of_ble_eq_true rfl) (Nat.le_of_ble_eq_true rfl) dX0_init_46 (fun q_13 H hP hD hS => ?_)
  have hP : va_P (dC, dI) vwCl ([(h0, .inr (3, [.ref q_1, .ref q_5, .ref q_9, .null])), (q_1, .inr (11, [.ref qa_3, .int (nI 0), .int (nI 0)])), (qa_3, .inl (cA_4, 128, .inl (fun _ => 0))), (q_5, .inr (11, [.ref qa_7, .int (nI 0), .int (nI 0)])), (qa_7, .inl (cA_8, 128, .inl (fun _ => 0))), (q_9, .inr (11, [.ref qa_11, .int (nI 0), .int (nI 0)])), (qa_11, .inl (cA_12, 64, .inl (fun _ => 0))), (q_13, .inr (11, [.null, .int (nI 0), .int (nI 0)]))]) H := hP
  have hD : va_D A ([(h0, .inr (3, [.ref q_1, .ref q_5, .ref q_9, .null])), (q_1, .inr (11, [.ref qa_3, .int (nI 0), .int (nI 0)])), (qa_3, .inl (cA_4, 128, .inl (fun _ => 0))), (q_5, .inr (11, [.ref qa_7, .int (nI 0), .int (nI 0)])), (qa_7, .inl (cA_8, 128, .inl (fun _ => 0))), (q_9, .inr (11, [.ref qa_11, .int (nI 0), .int (nI 0)])), (qa_11, .inl (cA_12, 64, .inl (fun _ => 0))), (q_13, .inr (11, [.null, .int (nI 0), .int (nI 0)]))]) := hD
  refine W.cs (cells' := 7) (slots' := 332) (by omega) (by omega) ?_
  refine lv_dup hx hb dX0_init_49 rfl ?_
  refine lv_bipush (v := nI 64) hx hb dX0_init_50 (by decide +kernel) ?_
  have hPc := hP.sub (ws' := [(q_13, .inr (11, [.null, .int (nI 0), .int (nI 0)]))]) [7] rfl
  have hDc := hD.sub (ws' := [(q_13, .inr (11, [.null, .int (nI 0), .int (nI 0)]))]) [7] (by decide) rfl
  have hKc := hK.sub (tys' := []) [] rfl
  have hFc := va_free (wc := [(q_13, .inr (11, [.null, .int (nI 0), .int (nI 0)]))]) hD hS hA [7] rfl
  refine va_callv (va_runI (As := [.int (nI 64)]) (rest := [.ref q_13, .ref h0]) ⟨hx, hb, hml, hown, hts⟩ (c_X8_init l dC dI (va_A [(q_13, .inr (11, [.null, .int (nI 0), .int (nI 0)]))] H.size) H.size (fun _ h => Or.inr h) q_13 64 (by decide)) (cwI 1 hts (goodIn_sub (fun w9 h9 => bk1 w9 h9) gw_X8_init) rfl rfl rfl (hts (.initialized RX8) (List.mem_of_getElem? (i := 6) rfl)) (hts (.methodLink RX0 11 yX8_init) (List.mem_of_getElem? (i := 7) rfl)) (hts (.instanceMethod yX8_init) (List.mem_of_getElem? (i := 8) rfl)) rfl (by decide +kernel) ⟨Nat.le_of_ble_eq_true rfl, Nat.le_of_ble_eq_true rfl⟩) ⟨fun a U g mk q => by obtain ⟨q0, q1, qP, qK, qD⟩ := q; exact ⟨q0, q1, qP, va_K.moved (u := U) (U := U.calling g mk a) (Vm.Alike.refl U.vm) qK, qD⟩, fun U hU hW => ⟨rfl, by rw [hU], by rw [hU]; exact hPc, va_K.moved hW.alike hKc, hDc.self⟩⟩ rfl rfl hl.1 rfl (lv_room (Nat.le_of_ble_eq_true rfl)) dX0_init_52 ⟨(Nat.le_of_ble_eq_true rfl), (Nat.le_of_ble_eq_true rfl)⟩) hS (fun q _ h => hFc q h) hFc (fun u t H1 locs ht hvm hw_14 hB hz1 hk1 hS => ?_)
  obtain ⟨qa_15, cA_16⟩ := u
  obtain ⟨hP1, hK1, hD1⟩ := hB
  rw [ht] at hP1
  have hK1 := va_K.moved hvm.symm hK1
  try dsimp only at hw_14
  obtain ⟨hP, hD⟩ := va_join (wr := [(h0, .inr (3, [.ref q_1, .ref q_5, .ref q_9, .null])), (q_1, .inr (11, [.ref qa_3, .int (nI 0), .int (nI 0)])), (qa_3, .inl (cA_4, 128, .inl (fun _ => 0))), (q_5, .inr (11, [.ref qa_7, .int (nI 0), .int (nI 0)])), (qa_7, .inl (cA_8, 128, .inl (fun _ => 0))), (q_9, .inr (11, [.ref qa_11, .int (nI 0), .int (nI 0)])), (qa_11, .inl (cA_12, 64, .inl (fun _ => 0)))]) (w1 := [(q_13, .inr (11, [.ref qa_15, .int (nI 0), .int (nI 0)])), (qa_15, .inl (cA_16, 64, .inl (fun _ => 0)))]) hP hD [7] [0, 1, 2, 3, 4, 5, 6] rfl rfl (by decide) (by decide) hk1 hFc hP1 hD1
  have hK := (hK.sub (tys' := [(cA_4, .int), (cA_8, .int), (cA_12, .int)]) [0, 1, 2] rfl).app hK1
  generalize H1 = H at hP hS ⊢
  have hP : va_P (dC, dI) vwCl ([(h0, .inr (3, [.ref q_1, .ref q_5, .ref q_9, .null])), (q_1, .inr (11, [.ref qa_3, .int (nI 0), .int (nI 0)])), (qa_3, .inl (cA_4, 128, .inl (fun _ => 0))), (q_5, .inr (11, [.ref qa_7, .int (nI 0), .int (nI 0)])), (qa_7, .inl (cA_8, 128, .inl (fun _ => 0))), (q_9, .inr (11, [.ref qa_11, .int (nI 0), .int (nI 0)])), (qa_11, .inl (cA_12, 64, .inl (fun _ => 0))), (q_13, .inr (11, [.ref qa_15, .int (nI 0), .int (nI 0)])), (qa_15, .inl (cA_16, 64, .inl (fun _ => 0)))]) H := hP
  have hD : va_D A ([(h0, .inr (3, [.ref q_1, .ref q_5, .ref q_9, .null])), (q_1, .inr (11, [.ref qa_3, .int (nI 0), .int (nI 0)])), (qa_3, .inl (cA_4, 128, .inl (fun _ => 0))), (q_5, .inr (11, [.ref qa_7, .int (nI 0), .int (nI 0)])), (qa_7, .inl (cA_8, 128, .inl (fun _ => 0))), (q_9, .inr (11, [.ref qa_11, .int (nI 0), .int (nI 0)])), (qa_11, .inl (cA_12, 64, .inl (fun _ => 0))), (q_13, .inr (11, [.ref qa_15, .int (nI 0), .int (nI 0)])), (qa_15, .inl (cA_16, 64, .inl (fun _ => 0)))]) := hD
  have hK : va_K (dC, dI) vwCl [(cA_4, .int), (cA_8, .int), (cA_12, .int), (cA_16, .int)] s := hK
  refine W.cs (cells' := 8) (slots' := 396) (by omega) (by omega) ?_
  refine va_putF (D := (dC, dI)) (ci := 3) (v := .ref q_13) (ty := .object "GradientDesk$Whole") (C := RX0) (T := TX0) (N := 4) hx hb hts bk2 tyX0 tyX0_ok nmX0 hown hK hP hD hS 0 rfl rfl 3 (by decide) (hts (.fieldLink RX0 26 "GradientDesk$Arithmetic" "other" "LGradientDesk$Whole;") (List.mem_of_getElem? (i := 12) rfl)) (fun _ h9 => h9) rfl hin rfl (by decide +kernel) rfl rfl (Nat.le_of_ble_eq_true rfl) dX0_init_55 (fun H locs hP hD hS => ?_)
  have hP : va_P (dC, dI) vwCl ([(h0, .inr (3, [.ref q_1, .ref q_5, .ref q_9, .ref q_13])), (q_1, .inr (11, [.ref qa_3, .int (nI 0), .int (nI 0)])), (qa_3, .inl (cA_4, 128, .inl (fun _ => 0))), (q_5, .inr (11, [.ref qa_7, .int (nI 0), .int (nI 0)])), (qa_7, .inl (cA_8, 128, .inl (fun _ => 0))), (q_9, .inr (11, [.ref qa_11, .int (nI 0), .int (nI 0)])), (qa_11, .inl (cA_12, 64, .inl (fun _ => 0))), (q_13, .inr (11, [.ref qa_15, .int (nI 0), .int (nI 0)])), (qa_15, .inl (cA_16, 64, .inl (fun _ => 0)))]) H := hP
  have hD : va_D A ([(h0, .inr (3, [.ref q_1, .ref q_5, .ref q_9, .ref q_13])), (q_1, .inr (11, [.ref qa_3, .int (nI 0), .int (nI 0)])), (qa_3, .inl (cA_4, 128, .inl (fun _ => 0))), (q_5, .inr (11, [.ref qa_7, .int (nI 0), .int (nI 0)])), (qa_7, .inl (cA_8, 128, .inl (fun _ => 0))), (q_9, .inr (11, [.ref qa_11, .int (nI 0), .int (nI 0)])), (qa_11, .inl (cA_12, 64, .inl (fun _ => 0))), (q_13, .inr (11, [.ref qa_15, .int (nI 0), .int (nI 0)])), (qa_15, .inl (cA_16, 64, .inl (fun _ => 0)))]) := hD
  have hP9 := hP.sub (ws' := [(h0, .inr (3, [.ref q_1, .ref q_5, .ref q_9, .ref q_13])), (q_1, .inr (11, [.ref qa_3, .int (nI 0), .int (nI 0)])), (qa_3, .inl (cA_4, 128, .inl (fun _ => 0))), (q_5, .inr (11, [.ref qa_7, .int (nI 0), .int (nI 0)])), (qa_7, .inl (cA_8, 128, .inl (fun _ => 0))), (q_9, .inr (11, [.ref qa_11, .int (nI 0), .int (nI 0)])), (qa_11, .inl (cA_12, 64, .inl (fun _ => 0))), (q_13, .inr (11, [.ref qa_15, .int (nI 0), .int (nI 0)])), (qa_15, .inl (cA_16, 64, .inl (fun _ => 0)))]) [0, 1, 2, 3, 4, 5, 6, 7, 8] rfl
  have hD9 := hD.sub (ws' := [(h0, .inr (3, [.ref q_1, .ref q_5, .ref q_9, .ref q_13])), (q_1, .inr (11, [.ref qa_3, .int (nI 0), .int (nI 0)])), (qa_3, .inl (cA_4, 128, .inl (fun _ => 0))), (q_5, .inr (11, [.ref qa_7, .int (nI 0), .int (nI 0)])), (qa_7, .inl (cA_8, 128, .inl (fun _ => 0))), (q_9, .inr (11, [.ref qa_11, .int (nI 0), .int (nI 0)])), (qa_11, .inl (cA_12, 64, .inl (fun _ => 0))), (q_13, .inr (11, [.ref qa_15, .int (nI 0), .int (nI 0)])), (qa_15, .inl (cA_16, 64, .inl (fun _ => 0)))]) [0, 1, 2, 3, 4, 5, 6, 7, 8] (by decide) rfl
  have hK9 := hK.sub (tys' := [(cA_4, .int), (cA_8, .int), (cA_12, .int), (cA_16, .int)]) [0, 1, 2, 3] rfl
  refine W.widen (k := 8) (n := 396) (by omega) (by omega) ?_
  exact W.vret hx hb hr (fun t ht hW => ⟨⟨(q_1, qa_3, cA_4, q_5, qa_7, cA_8, q_9, qa_11, cA_12, q_13, qa_15, cA_16), rfl, trivial, by rw [ht]; exact hP9, va_K.moved hW.alike hK9, hD9⟩, hS.F ht⟩) hS.2.2 dX0_init_58
def wd_X4_init : List Cond := .code yX4_init cX4_init 3 none :: (([.methodLink RX4 3 objectInit, .instanceMethod objectInit, .code objectInit ⟨#[0xb1]⟩ 1 none, .arrayClass .char, .fieldLink RX4 9 "GradientDesk$Reader" "operators" "[C", .arrayClass .int, .fieldLink RX4 15 "GradientDesk$Reader" "kinds" "[I", .fieldLink RX4 19 "GradientDesk$Reader" "firsts" "[I", .fieldLink RX4 22 "GradientDesk$Reader" "seconds" "[I", .fieldLink RX4 25 "GradientDesk$Reader" "operands" "[I", .fieldLink RX4 28 "GradientDesk$Reader" "text" "LGradientDesk$Text;", .fieldLink RX4 32 "GradientDesk$Reader" "shelf" "LGradientDesk$Shelf;"] : List Cond) ++ (u_ws RX4 TX4 10 ++ ([])))
theorem gw_X4_init : wd_X4_init.all goodWord = true := k_allc rfl (k_all (by decide +kernel) (k_all (gu_X4) (rfl)))
abbrev at_X4_init (dC : Nat → ClassId) (dI : Nat → Nat → Nat) (A : Nat → Prop) (h0 : Nat) (tx : Nat) (sh : Nat) (u : Unit) (t : State) : Prop := match u with
  | () => va_P (dC, dI) vwCl [] t.heap ∧ va_K (dC, dI) vwCl [] t ∧ va_D A []
set_option maxHeartbeats 4000000 in
set_option maxRecDepth 100000 in
theorem c_X4_init (l : Launch) (dC : Nat → ClassId) (dI : Nat → Nat → Nat) (A : Nat → Prop) (sz : Nat) (hA0 : ∀ q, sz ≤ q → A q) (h0 : Nat) (tx : Nat) (sh : Nat)  : Met l yX4_init wd_X4_init ({ frames := 10, cells := 5, slots := 576, locals := 200 }) (va_Pc [.ref h0, .ref tx, .ref sh] (fun U => U.heap.size = sz ∧ va_P (dC, dI) vwCl [(h0, .inr (7, [.null, .null, .null, .null, .null, .null, .null, .int (nI 0), .int (nI 0), .int (nI 0)]))] U.heap ∧ va_K (dC, dI) vwCl [] U ∧ va_D A [(h0, .inr (7, [.null, .null, .null, .null, .null, .null, .null, .int (nI 0), .int (nI 0), .int (nI 0)]))])) (va_Qv (fun (u : Unit) => match u with | () => True) (at_X4_init dC dI A h0 tx sh) A) (5) (576) A := by
  refine Met.ofW (cc := cX4_init) (maxL := 3) (ret := none) (by decide) rfl ?_
  intro p e s m args below meth c s₁ B hml hv
  obtain ⟨rfl, hsz, hP, hK, hD⟩ := hv
  have hx := B.exec
  have hb := B.bytes
  have hr := B.returns
  have hts := atoms_spec (ws := wd_X4_init) B.pre
  have hown : s.vm.findClass RX4 = some m.cls := findClass_of_methodNamed B.named
  have hlocks := B.notSynchronized
  have hin : meth.name = "<init>" := (name_of_methodNamed B.named B.method).1
  have bk0 : ∀ w ∈ u_ws RX4 TX4 10, w ∈ wd_X4_init := fun _ h => List.mem_cons_of_mem _ (List.mem_append_right _ (List.mem_append_left _ h))
  subst hsz
  have hA : ∀ q : Nat, s.heap.size ≤ q → A q := hA0
  have hS : va_S A s.heap s.heap [] := va_S.rf
  have hl := lv_entry ([.ref h0, .ref tx, .ref sh]) (n := 3) (Nat.le_of_ble_eq_true rfl)
  rw [lg_entry_eq]
  generalize (lg_sl ([.ref h0, .ref tx, .ref sh]) ++ List.replicate (3 - (lg_sl ([.ref h0, .ref tx, .ref sh])).length) Slot.unset).toArray = ls at hl ⊢
  have hl : lv_has ls 3 [(0, .ref h0), (1, .ref tx), (2, .ref sh)] := hl
  refine lv_aload_n hx hb dX4_init_0 rfl (lv_at hl 0 rfl) ?_
  refine W.objInit hx hb hown (hts (.methodLink RX4 3 objectInit) (List.mem_of_getElem? (i := 1) rfl)) (hts (.instanceMethod objectInit) (List.mem_of_getElem? (i := 2) rfl)) (hts _ (List.mem_of_getElem? (i := 3) rfl)) rfl (by rw [hml]; exact hl.1) rfl dX4_init_1 (Nat.le_of_ble_eq_true rfl) (Nat.le_of_ble_eq_true rfl) ?_
  refine W.eq (g2 := F0 m 4 ls []) rfl ?_
  refine lv_aload_n hx hb dX4_init_4 rfl (lv_at hl 0 rfl) ?_
  refine lv_bipush (v := nI 64) hx hb dX4_init_5 (by decide +kernel) ?_
  refine va_newa (atype := .char) (ty := .char) (N' := 64) (a0 := (64, .inl (fun _ => 0))) hx hb (hts (.arrayClass .char) (List.mem_of_getElem? (i := 4) rfl)) rfl hK hP hD hS hA (fun _ => rfl) (nI_pos (by decide)) (nI_clamp (by decide)) (by decide) (Nat.le_of_ble_eq_true rfl) (Nat.le_of_ble_eq_true rfl) dX4_init_7 (fun q_1 cA_2 H hK hP hD hS => ?_)
  have hP : va_P (dC, dI) vwCl ([(h0, .inr (7, [.null, .null, .null, .null, .null, .null, .null, .int (nI 0), .int (nI 0), .int (nI 0)])), (q_1, .inl (cA_2, 64, .inl (fun _ => 0)))]) H := hP
  have hD : va_D A ([(h0, .inr (7, [.null, .null, .null, .null, .null, .null, .null, .int (nI 0), .int (nI 0), .int (nI 0)])), (q_1, .inl (cA_2, 64, .inl (fun _ => 0)))]) := hD
  have hK : va_K (dC, dI) vwCl [(cA_2, .char)] s := hK
  refine W.cs (cells' := 1) (slots' := 64) (by omega) (by omega) ?_
  refine va_putF (D := (dC, dI)) (ci := 7) (v := .ref q_1) (ty := .array .char) (C := RX4) (T := TX4) (N := 10) hx hb hts bk0 tyX4 tyX4_ok nmX4 hown hK hP hD hS 0 rfl rfl 2 (by decide) (hts (.fieldLink RX4 9 "GradientDesk$Reader" "operators" "[C") (List.mem_of_getElem? (i := 5) rfl)) (fun _ h9 => h9) rfl hin rfl (by decide +kernel) rfl rfl (Nat.le_of_ble_eq_true rfl) dX4_init_9 (fun H locs hP hD hS => ?_)
  have hP : va_P (dC, dI) vwCl ([(h0, .inr (7, [.null, .null, .ref q_1, .null, .null, .null, .null, .int (nI 0), .int (nI 0), .int (nI 0)])), (q_1, .inl (cA_2, 64, .inl (fun _ => 0)))]) H := hP
  have hD : va_D A ([(h0, .inr (7, [.null, .null, .ref q_1, .null, .null, .null, .null, .int (nI 0), .int (nI 0), .int (nI 0)])), (q_1, .inl (cA_2, 64, .inl (fun _ => 0)))]) := hD
  refine lv_aload_n hx hb dX4_init_12 rfl (lv_at hl 0 rfl) ?_
  refine lv_sipush (v := nI 128) hx hb dX4_init_13 (by decide +kernel) ?_
  refine va_newa (atype := .int) (ty := .int) (N' := 128) (a0 := (128, .inl (fun _ => 0))) hx hb (hts (.arrayClass .int) (List.mem_of_getElem? (i := 6) rfl)) rfl hK hP hD hS hA (fun _ => rfl) (nI_pos (by decide)) (nI_clamp (by decide)) (by decide) (Nat.le_of_ble_eq_true rfl) (Nat.le_of_ble_eq_true rfl) dX4_init_16 (fun q_3 cA_4 H hK hP hD hS => ?_)
  have hP : va_P (dC, dI) vwCl ([(h0, .inr (7, [.null, .null, .ref q_1, .null, .null, .null, .null, .int (nI 0), .int (nI 0), .int (nI 0)])), (q_1, .inl (cA_2, 64, .inl (fun _ => 0))), (q_3, .inl (cA_4, 128, .inl (fun _ => 0)))]) H := hP
  have hD : va_D A ([(h0, .inr (7, [.null, .null, .ref q_1, .null, .null, .null, .null, .int (nI 0), .int (nI 0), .int (nI 0)])), (q_1, .inl (cA_2, 64, .inl (fun _ => 0))), (q_3, .inl (cA_4, 128, .inl (fun _ => 0)))]) := hD
  have hK : va_K (dC, dI) vwCl [(cA_2, .char), (cA_4, .int)] s := hK
  refine W.cs (cells' := 2) (slots' := 192) (by omega) (by omega) ?_
  refine va_putF (D := (dC, dI)) (ci := 7) (v := .ref q_3) (ty := .array .int) (C := RX4) (T := TX4) (N := 10) hx hb hts bk0 tyX4 tyX4_ok nmX4 hown hK hP hD hS 0 rfl rfl 3 (by decide) (hts (.fieldLink RX4 15 "GradientDesk$Reader" "kinds" "[I") (List.mem_of_getElem? (i := 7) rfl)) (fun _ h9 => h9) rfl hin rfl (by decide +kernel) rfl rfl (Nat.le_of_ble_eq_true rfl) dX4_init_18 (fun H locs hP hD hS => ?_)
  have hP : va_P (dC, dI) vwCl ([(h0, .inr (7, [.null, .null, .ref q_1, .ref q_3, .null, .null, .null, .int (nI 0), .int (nI 0), .int (nI 0)])), (q_1, .inl (cA_2, 64, .inl (fun _ => 0))), (q_3, .inl (cA_4, 128, .inl (fun _ => 0)))]) H := hP
  have hD : va_D A ([(h0, .inr (7, [.null, .null, .ref q_1, .ref q_3, .null, .null, .null, .int (nI 0), .int (nI 0), .int (nI 0)])), (q_1, .inl (cA_2, 64, .inl (fun _ => 0))), (q_3, .inl (cA_4, 128, .inl (fun _ => 0)))]) := hD
  refine lv_aload_n hx hb dX4_init_21 rfl (lv_at hl 0 rfl) ?_
  refine lv_sipush (v := nI 128) hx hb dX4_init_22 (by decide +kernel) ?_
  refine va_newa (atype := .int) (ty := .int) (N' := 128) (a0 := (128, .inl (fun _ => 0))) hx hb (hts (.arrayClass .int) (List.mem_of_getElem? (i := 6) rfl)) rfl hK hP hD hS hA (fun _ => rfl) (nI_pos (by decide)) (nI_clamp (by decide)) (by decide) (Nat.le_of_ble_eq_true rfl) (Nat.le_of_ble_eq_true rfl) dX4_init_25 (fun q_5 cA_6 H hK hP hD hS => ?_)
  have hP : va_P (dC, dI) vwCl ([(h0, .inr (7, [.null, .null, .ref q_1, .ref q_3, .null, .null, .null, .int (nI 0), .int (nI 0), .int (nI 0)])), (q_1, .inl (cA_2, 64, .inl (fun _ => 0))), (q_3, .inl (cA_4, 128, .inl (fun _ => 0))), (q_5, .inl (cA_6, 128, .inl (fun _ => 0)))]) H := hP
  have hD : va_D A ([(h0, .inr (7, [.null, .null, .ref q_1, .ref q_3, .null, .null, .null, .int (nI 0), .int (nI 0), .int (nI 0)])), (q_1, .inl (cA_2, 64, .inl (fun _ => 0))), (q_3, .inl (cA_4, 128, .inl (fun _ => 0))), (q_5, .inl (cA_6, 128, .inl (fun _ => 0)))]) := hD
  have hK : va_K (dC, dI) vwCl [(cA_2, .char), (cA_4, .int), (cA_6, .int)] s := hK
  refine W.cs (cells' := 3) (slots' := 320) (by omega) (by omega) ?_
  refine va_putF (D := (dC, dI)) (ci := 7) (v := .ref q_5) (ty := .array .int) (C := RX4) (T := TX4) (N := 10) hx hb hts bk0 tyX4 tyX4_ok nmX4 hown hK hP hD hS 0 rfl rfl 4 (by decide) (hts (.fieldLink RX4 19 "GradientDesk$Reader" "firsts" "[I") (List.mem_of_getElem? (i := 8) rfl)) (fun _ h9 => h9) rfl hin rfl (by decide +kernel) rfl rfl (Nat.le_of_ble_eq_true rfl) dX4_init_27 (fun H locs hP hD hS => ?_)
  have hP : va_P (dC, dI) vwCl ([(h0, .inr (7, [.null, .null, .ref q_1, .ref q_3, .ref q_5, .null, .null, .int (nI 0), .int (nI 0), .int (nI 0)])), (q_1, .inl (cA_2, 64, .inl (fun _ => 0))), (q_3, .inl (cA_4, 128, .inl (fun _ => 0))), (q_5, .inl (cA_6, 128, .inl (fun _ => 0)))]) H := hP
  have hD : va_D A ([(h0, .inr (7, [.null, .null, .ref q_1, .ref q_3, .ref q_5, .null, .null, .int (nI 0), .int (nI 0), .int (nI 0)])), (q_1, .inl (cA_2, 64, .inl (fun _ => 0))), (q_3, .inl (cA_4, 128, .inl (fun _ => 0))), (q_5, .inl (cA_6, 128, .inl (fun _ => 0)))]) := hD
  refine lv_aload_n hx hb dX4_init_30 rfl (lv_at hl 0 rfl) ?_
  refine lv_sipush (v := nI 128) hx hb dX4_init_31 (by decide +kernel) ?_
  refine va_newa (atype := .int) (ty := .int) (N' := 128) (a0 := (128, .inl (fun _ => 0))) hx hb (hts (.arrayClass .int) (List.mem_of_getElem? (i := 6) rfl)) rfl hK hP hD hS hA (fun _ => rfl) (nI_pos (by decide)) (nI_clamp (by decide)) (by decide) (Nat.le_of_ble_eq_true rfl) (Nat.le_of_ble_eq_true rfl) dX4_init_34 (fun q_7 cA_8 H hK hP hD hS => ?_)
  have hP : va_P (dC, dI) vwCl ([(h0, .inr (7, [.null, .null, .ref q_1, .ref q_3, .ref q_5, .null, .null, .int (nI 0), .int (nI 0), .int (nI 0)])), (q_1, .inl (cA_2, 64, .inl (fun _ => 0))), (q_3, .inl (cA_4, 128, .inl (fun _ => 0))), (q_5, .inl (cA_6, 128, .inl (fun _ => 0))), (q_7, .inl (cA_8, 128, .inl (fun _ => 0)))]) H := hP
  have hD : va_D A ([(h0, .inr (7, [.null, .null, .ref q_1, .ref q_3, .ref q_5, .null, .null, .int (nI 0), .int (nI 0), .int (nI 0)])), (q_1, .inl (cA_2, 64, .inl (fun _ => 0))), (q_3, .inl (cA_4, 128, .inl (fun _ => 0))), (q_5, .inl (cA_6, 128, .inl (fun _ => 0))), (q_7, .inl (cA_8, 128, .inl (fun _ => 0)))]) := hD
  have hK : va_K (dC, dI) vwCl [(cA_2, .char), (cA_4, .int), (cA_6, .int), (cA_8, .int)] s := hK
  refine W.cs (cells' := 4) (slots' := 448) (by omega) (by omega) ?_
  refine va_putF (D := (dC, dI)) (ci := 7) (v := .ref q_7) (ty := .array .int) (C := RX4) (T := TX4) (N := 10) hx hb hts bk0 tyX4 tyX4_ok nmX4 hown hK hP hD hS 0 rfl rfl 5 (by decide) (hts (.fieldLink RX4 22 "GradientDesk$Reader" "seconds" "[I") (List.mem_of_getElem? (i := 9) rfl)) (fun _ h9 => h9) rfl hin rfl (by decide +kernel) rfl rfl (Nat.le_of_ble_eq_true rfl) dX4_init_36 (fun H locs hP hD hS => ?_)
  have hP : va_P (dC, dI) vwCl ([(h0, .inr (7, [.null, .null, .ref q_1, .ref q_3, .ref q_5, .ref q_7, .null, .int (nI 0), .int (nI 0), .int (nI 0)])), (q_1, .inl (cA_2, 64, .inl (fun _ => 0))), (q_3, .inl (cA_4, 128, .inl (fun _ => 0))), (q_5, .inl (cA_6, 128, .inl (fun _ => 0))), (q_7, .inl (cA_8, 128, .inl (fun _ => 0)))]) H := hP
  have hD : va_D A ([(h0, .inr (7, [.null, .null, .ref q_1, .ref q_3, .ref q_5, .ref q_7, .null, .int (nI 0), .int (nI 0), .int (nI 0)])), (q_1, .inl (cA_2, 64, .inl (fun _ => 0))), (q_3, .inl (cA_4, 128, .inl (fun _ => 0))), (q_5, .inl (cA_6, 128, .inl (fun _ => 0))), (q_7, .inl (cA_8, 128, .inl (fun _ => 0)))]) := hD
  refine lv_aload_n hx hb dX4_init_39 rfl (lv_at hl 0 rfl) ?_
  refine lv_sipush (v := nI 128) hx hb dX4_init_40 (by decide +kernel) ?_
  refine va_newa (atype := .int) (ty := .int) (N' := 128) (a0 := (128, .inl (fun _ => 0))) hx hb (hts (.arrayClass .int) (List.mem_of_getElem? (i := 6) rfl)) rfl hK hP hD hS hA (fun _ => rfl) (nI_pos (by decide)) (nI_clamp (by decide)) (by decide) (Nat.le_of_ble_eq_true rfl) (Nat.le_of_ble_eq_true rfl) dX4_init_43 (fun q_9 cA_10 H hK hP hD hS => ?_)
  have hP : va_P (dC, dI) vwCl ([(h0, .inr (7, [.null, .null, .ref q_1, .ref q_3, .ref q_5, .ref q_7, .null, .int (nI 0), .int (nI 0), .int (nI 0)])), (q_1, .inl (cA_2, 64, .inl (fun _ => 0))), (q_3, .inl (cA_4, 128, .inl (fun _ => 0))), (q_5, .inl (cA_6, 128, .inl (fun _ => 0))), (q_7, .inl (cA_8, 128, .inl (fun _ => 0))), (q_9, .inl (cA_10, 128, .inl (fun _ => 0)))]) H := hP
  have hD : va_D A ([(h0, .inr (7, [.null, .null, .ref q_1, .ref q_3, .ref q_5, .ref q_7, .null, .int (nI 0), .int (nI 0), .int (nI 0)])), (q_1, .inl (cA_2, 64, .inl (fun _ => 0))), (q_3, .inl (cA_4, 128, .inl (fun _ => 0))), (q_5, .inl (cA_6, 128, .inl (fun _ => 0))), (q_7, .inl (cA_8, 128, .inl (fun _ => 0))), (q_9, .inl (cA_10, 128, .inl (fun _ => 0)))]) := hD
  have hK : va_K (dC, dI) vwCl [(cA_2, .char), (cA_4, .int), (cA_6, .int), (cA_8, .int), (cA_10, .int)] s := hK
  refine W.cs (cells' := 5) (slots' := 576) (by omega) (by omega) ?_
  refine va_putF (D := (dC, dI)) (ci := 7) (v := .ref q_9) (ty := .array .int) (C := RX4) (T := TX4) (N := 10) hx hb hts bk0 tyX4 tyX4_ok nmX4 hown hK hP hD hS 0 rfl rfl 6 (by decide) (hts (.fieldLink RX4 25 "GradientDesk$Reader" "operands" "[I") (List.mem_of_getElem? (i := 10) rfl)) (fun _ h9 => h9) rfl hin rfl (by decide +kernel) rfl rfl (Nat.le_of_ble_eq_true rfl) dX4_init_45 (fun H locs hP hD hS => ?_)
  have hP : va_P (dC, dI) vwCl ([(h0, .inr (7, [.null, .null, .ref q_1, .ref q_3, .ref q_5, .ref q_7, .ref q_9, .int (nI 0), .int (nI 0), .int (nI 0)])), (q_1, .inl (cA_2, 64, .inl (fun _ => 0))), (q_3, .inl (cA_4, 128, .inl (fun _ => 0))), (q_5, .inl (cA_6, 128, .inl (fun _ => 0))), (q_7, .inl (cA_8, 128, .inl (fun _ => 0))), (q_9, .inl (cA_10, 128, .inl (fun _ => 0)))]) H := hP
  have hD : va_D A ([(h0, .inr (7, [.null, .null, .ref q_1, .ref q_3, .ref q_5, .ref q_7, .ref q_9, .int (nI 0), .int (nI 0), .int (nI 0)])), (q_1, .inl (cA_2, 64, .inl (fun _ => 0))), (q_3, .inl (cA_4, 128, .inl (fun _ => 0))), (q_5, .inl (cA_6, 128, .inl (fun _ => 0))), (q_7, .inl (cA_8, 128, .inl (fun _ => 0))), (q_9, .inl (cA_10, 128, .inl (fun _ => 0)))]) := hD
  refine lv_aload_n hx hb dX4_init_48 rfl (lv_at hl 0 rfl) ?_
  refine lv_aload_n hx hb dX4_init_49 rfl (lv_at hl 1 rfl) ?_
  refine va_putF (D := (dC, dI)) (ci := 7) (v := .ref tx) (ty := .object "GradientDesk$Text") (C := RX4) (T := TX4) (N := 10) hx hb hts bk0 tyX4 tyX4_ok nmX4 hown hK hP hD hS 0 rfl rfl 0 (by decide) (hts (.fieldLink RX4 28 "GradientDesk$Reader" "text" "LGradientDesk$Text;") (List.mem_of_getElem? (i := 11) rfl)) (fun _ h9 => h9) rfl hin rfl (by decide +kernel) rfl rfl (Nat.le_of_ble_eq_true rfl) dX4_init_50 (fun H locs hP hD hS => ?_)
  have hP : va_P (dC, dI) vwCl ([(h0, .inr (7, [.ref tx, .null, .ref q_1, .ref q_3, .ref q_5, .ref q_7, .ref q_9, .int (nI 0), .int (nI 0), .int (nI 0)])), (q_1, .inl (cA_2, 64, .inl (fun _ => 0))), (q_3, .inl (cA_4, 128, .inl (fun _ => 0))), (q_5, .inl (cA_6, 128, .inl (fun _ => 0))), (q_7, .inl (cA_8, 128, .inl (fun _ => 0))), (q_9, .inl (cA_10, 128, .inl (fun _ => 0)))]) H := hP
  have hD : va_D A ([(h0, .inr (7, [.ref tx, .null, .ref q_1, .ref q_3, .ref q_5, .ref q_7, .ref q_9, .int (nI 0), .int (nI 0), .int (nI 0)])), (q_1, .inl (cA_2, 64, .inl (fun _ => 0))), (q_3, .inl (cA_4, 128, .inl (fun _ => 0))), (q_5, .inl (cA_6, 128, .inl (fun _ => 0))), (q_7, .inl (cA_8, 128, .inl (fun _ => 0))), (q_9, .inl (cA_10, 128, .inl (fun _ => 0)))]) := hD
  refine lv_aload_n hx hb dX4_init_53 rfl (lv_at hl 0 rfl) ?_
  refine lv_aload_n hx hb dX4_init_54 rfl (lv_at hl 2 rfl) ?_
  refine va_putF (D := (dC, dI)) (ci := 7) (v := .ref sh) (ty := .object "GradientDesk$Shelf") (C := RX4) (T := TX4) (N := 10) hx hb hts bk0 tyX4 tyX4_ok nmX4 hown hK hP hD hS 0 rfl rfl 1 (by decide) (hts (.fieldLink RX4 32 "GradientDesk$Reader" "shelf" "LGradientDesk$Shelf;") (List.mem_of_getElem? (i := 12) rfl)) (fun _ h9 => h9) rfl hin rfl (by decide +kernel) rfl rfl (Nat.le_of_ble_eq_true rfl) dX4_init_55 (fun H locs hP hD hS => ?_)
  have hP : va_P (dC, dI) vwCl ([(h0, .inr (7, [.ref tx, .ref sh, .ref q_1, .ref q_3, .ref q_5, .ref q_7, .ref q_9, .int (nI 0), .int (nI 0), .int (nI 0)])), (q_1, .inl (cA_2, 64, .inl (fun _ => 0))), (q_3, .inl (cA_4, 128, .inl (fun _ => 0))), (q_5, .inl (cA_6, 128, .inl (fun _ => 0))), (q_7, .inl (cA_8, 128, .inl (fun _ => 0))), (q_9, .inl (cA_10, 128, .inl (fun _ => 0)))]) H := hP
  have hD : va_D A ([(h0, .inr (7, [.ref tx, .ref sh, .ref q_1, .ref q_3, .ref q_5, .ref q_7, .ref q_9, .int (nI 0), .int (nI 0), .int (nI 0)])), (q_1, .inl (cA_2, 64, .inl (fun _ => 0))), (q_3, .inl (cA_4, 128, .inl (fun _ => 0))), (q_5, .inl (cA_6, 128, .inl (fun _ => 0))), (q_7, .inl (cA_8, 128, .inl (fun _ => 0))), (q_9, .inl (cA_10, 128, .inl (fun _ => 0)))]) := hD
  have hP9 := hP.sub (ws' := []) [] rfl
  have hD9 := hD.sub (ws' := []) [] (by decide) rfl
  have hK9 := hK.sub (tys' := []) [] rfl
  refine W.widen (k := 5) (n := 576) (by omega) (by omega) ?_
  exact W.vret hx hb hr (fun t ht hW => ⟨⟨(), rfl, trivial, by rw [ht]; exact hP9, va_K.moved hW.alike hK9, hD9⟩, hS.F ht⟩) hS.2.2 dX4_init_58
def wd_X5_init : List Cond := .code yX5_init cX5_init 2 none :: (([.methodLink RX5 3 objectInit, .instanceMethod objectInit, .code objectInit ⟨#[0xb1]⟩ 1 none, .arrayClass .char, .fieldLink RX5 9 "GradientDesk$Script" "letters" "[C", .arrayClass .int, .fieldLink RX5 15 "GradientDesk$Script" "lengths" "[I", .fieldLink RX5 19 "GradientDesk$Script" "waiting" "[I", .fieldLink RX5 22 "GradientDesk$Script" "places" "[I", .fieldLink RX5 25 "GradientDesk$Script" "digits" "[C", .classLink RX5 28 RX8, .instantiable RX8 3, .initialized RX8, .methodLink RX5 30 yX8_init, .instanceMethod yX8_init, .fieldLink RX5 33 "GradientDesk$Script" "left" "LGradientDesk$Whole;", .fieldLink RX5 37 "GradientDesk$Script" "shelf" "LGradientDesk$Shelf;"] : List Cond) ++ (u_ws RX5 TX5 9 ++ (u_ws RX8 TX8 3 ++ (wd_X8_init ++ ([])))))
theorem gw_X5_init : wd_X5_init.all goodWord = true := k_allc rfl (k_all (by decide +kernel) (k_all (gu_X5) (k_all (gu_X8) (k_all (gw_X8_init) (rfl)))))
abbrev at_X5_init (dC : Nat → ClassId) (dI : Nat → Nat → Nat) (A : Nat → Prop) (h0 : Nat) (sh : Nat) (u : Nat × Nat × Nat × Nat × Nat × Nat) (t : State) : Prop := match u with
  | (q0, q1, q2, q3, q4, q5) => va_P (dC, dI) vwCl [(h0, .inr (8, [.ref q0, .int (nI 0), .ref sh, .ref q1, .ref q2, .ref q3, .ref q4, .ref q5, .int (nI 0)]))] t.heap ∧ va_K (dC, dI) vwCl [] t ∧ va_D A [(h0, .inr (8, [.ref q0, .int (nI 0), .ref sh, .ref q1, .ref q2, .ref q3, .ref q4, .ref q5, .int (nI 0)]))]
set_option maxHeartbeats 4000000 in
set_option maxRecDepth 100000 in
theorem c_X5_init (l : Launch) (dC : Nat → ClassId) (dI : Nat → Nat → Nat) (A : Nat → Prop) (sz : Nat) (hA0 : ∀ q, sz ≤ q → A q) (h0 : Nat) (sh : Nat)  : Met l yX5_init wd_X5_init ({ frames := 20, cells := 7, slots := 1101, locals := 400 }) (va_Pc [.ref h0, .ref sh] (fun U => U.heap.size = sz ∧ va_P (dC, dI) vwCl [(h0, .inr (8, [.null, .int (nI 0), .null, .null, .null, .null, .null, .null, .int (nI 0)]))] U.heap ∧ va_K (dC, dI) vwCl [] U ∧ va_D A [(h0, .inr (8, [.null, .int (nI 0), .null, .null, .null, .null, .null, .null, .int (nI 0)]))])) (va_Qv (fun (u : Nat × Nat × Nat × Nat × Nat × Nat) => match u with | (q0, q1, q2, q3, q4, q5) => True) (at_X5_init dC dI A h0 sh) A) (7) (1101) A := by
  refine Met.ofW (cc := cX5_init) (maxL := 2) (ret := none) (by decide) rfl ?_
  intro p e s m args below meth c s₁ B hml hv
  obtain ⟨rfl, hsz, hP, hK, hD⟩ := hv
  have hx := B.exec
  have hb := B.bytes
  have hr := B.returns
  have hts := atoms_spec (ws := wd_X5_init) B.pre
  have hown : s.vm.findClass RX5 = some m.cls := findClass_of_methodNamed B.named
  have hlocks := B.notSynchronized
  have hin : meth.name = "<init>" := (name_of_methodNamed B.named B.method).1
  have bk0 : ∀ w ∈ u_ws RX5 TX5 9, w ∈ wd_X5_init := fun _ h => List.mem_cons_of_mem _ (List.mem_append_right _ (List.mem_append_left _ h))
  have bk1 : ∀ w ∈ u_ws RX8 TX8 3, w ∈ wd_X5_init := fun _ h => List.mem_cons_of_mem _ (List.mem_append_right _ (List.mem_append_right _ (List.mem_append_left _ h)))
  have bk2 : ∀ w ∈ wd_X8_init, w ∈ wd_X5_init := fun _ h => List.mem_cons_of_mem _ (List.mem_append_right _ (List.mem_append_right _ (List.mem_append_right _ (List.mem_append_left _ h))))
  subst hsz
  have hA : ∀ q : Nat, s.heap.size ≤ q → A q := hA0
  have hS : va_S A s.heap s.heap [] := va_S.rf
  have hl := lv_entry ([.ref h0, .ref sh]) (n := 2) (Nat.le_of_ble_eq_true rfl)
  rw [lg_entry_eq]
  generalize (lg_sl ([.ref h0, .ref sh]) ++ List.replicate (2 - (lg_sl ([.ref h0, .ref sh])).length) Slot.unset).toArray = ls at hl ⊢
  have hl : lv_has ls 2 [(0, .ref h0), (1, .ref sh)] := hl
  refine lv_aload_n hx hb dX5_init_0 rfl (lv_at hl 0 rfl) ?_
  refine W.objInit hx hb hown (hts (.methodLink RX5 3 objectInit) (List.mem_of_getElem? (i := 1) rfl)) (hts (.instanceMethod objectInit) (List.mem_of_getElem? (i := 2) rfl)) (hts _ (List.mem_of_getElem? (i := 3) rfl)) rfl (by rw [hml]; exact hl.1) rfl dX5_init_1 (Nat.le_of_ble_eq_true rfl) (Nat.le_of_ble_eq_true rfl) ?_
  refine W.eq (g2 := F0 m 4 ls []) rfl ?_
  refine lv_aload_n hx hb dX5_init_4 rfl (lv_at hl 0 rfl) ?_
  refine lv_sipush (v := nI 250) hx hb dX5_init_5 (by decide +kernel) ?_
  refine va_newa (atype := .char) (ty := .char) (N' := 250) (a0 := (250, .inl (fun _ => 0))) hx hb (hts (.arrayClass .char) (List.mem_of_getElem? (i := 4) rfl)) rfl hK hP hD hS hA (fun _ => rfl) (nI_pos (by decide)) (nI_clamp (by decide)) (by decide) (Nat.le_of_ble_eq_true rfl) (Nat.le_of_ble_eq_true rfl) dX5_init_8 (fun q_1 cA_2 H hK hP hD hS => ?_)
  have hP : va_P (dC, dI) vwCl ([(h0, .inr (8, [.null, .int (nI 0), .null, .null, .null, .null, .null, .null, .int (nI 0)])), (q_1, .inl (cA_2, 250, .inl (fun _ => 0)))]) H := hP
  have hD : va_D A ([(h0, .inr (8, [.null, .int (nI 0), .null, .null, .null, .null, .null, .null, .int (nI 0)])), (q_1, .inl (cA_2, 250, .inl (fun _ => 0)))]) := hD
  have hK : va_K (dC, dI) vwCl [(cA_2, .char)] s := hK
  refine W.cs (cells' := 1) (slots' := 250) (by omega) (by omega) ?_
  refine va_putF (D := (dC, dI)) (ci := 8) (v := .ref q_1) (ty := .array .char) (C := RX5) (T := TX5) (N := 9) hx hb hts bk0 tyX5 tyX5_ok nmX5 hown hK hP hD hS 0 rfl rfl 0 (by decide) (hts (.fieldLink RX5 9 "GradientDesk$Script" "letters" "[C") (List.mem_of_getElem? (i := 5) rfl)) (fun _ h9 => h9) rfl hin rfl (by decide +kernel) rfl rfl (Nat.le_of_ble_eq_true rfl) dX5_init_10 (fun H locs hP hD hS => ?_)
  have hP : va_P (dC, dI) vwCl ([(h0, .inr (8, [.ref q_1, .int (nI 0), .null, .null, .null, .null, .null, .null, .int (nI 0)])), (q_1, .inl (cA_2, 250, .inl (fun _ => 0)))]) H := hP
  have hD : va_D A ([(h0, .inr (8, [.ref q_1, .int (nI 0), .null, .null, .null, .null, .null, .null, .int (nI 0)])), (q_1, .inl (cA_2, 250, .inl (fun _ => 0)))]) := hD
  refine lv_aload_n hx hb dX5_init_13 rfl (lv_at hl 0 rfl) ?_
  refine lv_sipush (v := nI 200) hx hb dX5_init_14 (by decide +kernel) ?_
  refine va_newa (atype := .int) (ty := .int) (N' := 200) (a0 := (200, .inl (fun _ => 0))) hx hb (hts (.arrayClass .int) (List.mem_of_getElem? (i := 6) rfl)) rfl hK hP hD hS hA (fun _ => rfl) (nI_pos (by decide)) (nI_clamp (by decide)) (by decide) (Nat.le_of_ble_eq_true rfl) (Nat.le_of_ble_eq_true rfl) dX5_init_17 (fun q_3 cA_4 H hK hP hD hS => ?_)
  have hP : va_P (dC, dI) vwCl ([(h0, .inr (8, [.ref q_1, .int (nI 0), .null, .null, .null, .null, .null, .null, .int (nI 0)])), (q_1, .inl (cA_2, 250, .inl (fun _ => 0))), (q_3, .inl (cA_4, 200, .inl (fun _ => 0)))]) H := hP
  have hD : va_D A ([(h0, .inr (8, [.ref q_1, .int (nI 0), .null, .null, .null, .null, .null, .null, .int (nI 0)])), (q_1, .inl (cA_2, 250, .inl (fun _ => 0))), (q_3, .inl (cA_4, 200, .inl (fun _ => 0)))]) := hD
  have hK : va_K (dC, dI) vwCl [(cA_2, .char), (cA_4, .int)] s := hK
  refine W.cs (cells' := 2) (slots' := 450) (by omega) (by omega) ?_
  refine va_putF (D := (dC, dI)) (ci := 8) (v := .ref q_3) (ty := .array .int) (C := RX5) (T := TX5) (N := 9) hx hb hts bk0 tyX5 tyX5_ok nmX5 hown hK hP hD hS 0 rfl rfl 3 (by decide) (hts (.fieldLink RX5 15 "GradientDesk$Script" "lengths" "[I") (List.mem_of_getElem? (i := 7) rfl)) (fun _ h9 => h9) rfl hin rfl (by decide +kernel) rfl rfl (Nat.le_of_ble_eq_true rfl) dX5_init_19 (fun H locs hP hD hS => ?_)
  have hP : va_P (dC, dI) vwCl ([(h0, .inr (8, [.ref q_1, .int (nI 0), .null, .ref q_3, .null, .null, .null, .null, .int (nI 0)])), (q_1, .inl (cA_2, 250, .inl (fun _ => 0))), (q_3, .inl (cA_4, 200, .inl (fun _ => 0)))]) H := hP
  have hD : va_D A ([(h0, .inr (8, [.ref q_1, .int (nI 0), .null, .ref q_3, .null, .null, .null, .null, .int (nI 0)])), (q_1, .inl (cA_2, 250, .inl (fun _ => 0))), (q_3, .inl (cA_4, 200, .inl (fun _ => 0)))]) := hD
  refine lv_aload_n hx hb dX5_init_22 rfl (lv_at hl 0 rfl) ?_
  refine lv_sipush (v := nI 250) hx hb dX5_init_23 (by decide +kernel) ?_
  refine va_newa (atype := .int) (ty := .int) (N' := 250) (a0 := (250, .inl (fun _ => 0))) hx hb (hts (.arrayClass .int) (List.mem_of_getElem? (i := 6) rfl)) rfl hK hP hD hS hA (fun _ => rfl) (nI_pos (by decide)) (nI_clamp (by decide)) (by decide) (Nat.le_of_ble_eq_true rfl) (Nat.le_of_ble_eq_true rfl) dX5_init_26 (fun q_5 cA_6 H hK hP hD hS => ?_)
  have hP : va_P (dC, dI) vwCl ([(h0, .inr (8, [.ref q_1, .int (nI 0), .null, .ref q_3, .null, .null, .null, .null, .int (nI 0)])), (q_1, .inl (cA_2, 250, .inl (fun _ => 0))), (q_3, .inl (cA_4, 200, .inl (fun _ => 0))), (q_5, .inl (cA_6, 250, .inl (fun _ => 0)))]) H := hP
  have hD : va_D A ([(h0, .inr (8, [.ref q_1, .int (nI 0), .null, .ref q_3, .null, .null, .null, .null, .int (nI 0)])), (q_1, .inl (cA_2, 250, .inl (fun _ => 0))), (q_3, .inl (cA_4, 200, .inl (fun _ => 0))), (q_5, .inl (cA_6, 250, .inl (fun _ => 0)))]) := hD
  have hK : va_K (dC, dI) vwCl [(cA_2, .char), (cA_4, .int), (cA_6, .int)] s := hK
  refine W.cs (cells' := 3) (slots' := 700) (by omega) (by omega) ?_
  refine va_putF (D := (dC, dI)) (ci := 8) (v := .ref q_5) (ty := .array .int) (C := RX5) (T := TX5) (N := 9) hx hb hts bk0 tyX5 tyX5_ok nmX5 hown hK hP hD hS 0 rfl rfl 4 (by decide) (hts (.fieldLink RX5 19 "GradientDesk$Script" "waiting" "[I") (List.mem_of_getElem? (i := 8) rfl)) (fun _ h9 => h9) rfl hin rfl (by decide +kernel) rfl rfl (Nat.le_of_ble_eq_true rfl) dX5_init_28 (fun H locs hP hD hS => ?_)
  have hP : va_P (dC, dI) vwCl ([(h0, .inr (8, [.ref q_1, .int (nI 0), .null, .ref q_3, .ref q_5, .null, .null, .null, .int (nI 0)])), (q_1, .inl (cA_2, 250, .inl (fun _ => 0))), (q_3, .inl (cA_4, 200, .inl (fun _ => 0))), (q_5, .inl (cA_6, 250, .inl (fun _ => 0)))]) H := hP
  have hD : va_D A ([(h0, .inr (8, [.ref q_1, .int (nI 0), .null, .ref q_3, .ref q_5, .null, .null, .null, .int (nI 0)])), (q_1, .inl (cA_2, 250, .inl (fun _ => 0))), (q_3, .inl (cA_4, 200, .inl (fun _ => 0))), (q_5, .inl (cA_6, 250, .inl (fun _ => 0)))]) := hD
  refine lv_aload_n hx hb dX5_init_31 rfl (lv_at hl 0 rfl) ?_
  refine lv_sipush (v := nI 250) hx hb dX5_init_32 (by decide +kernel) ?_
  refine va_newa (atype := .int) (ty := .int) (N' := 250) (a0 := (250, .inl (fun _ => 0))) hx hb (hts (.arrayClass .int) (List.mem_of_getElem? (i := 6) rfl)) rfl hK hP hD hS hA (fun _ => rfl) (nI_pos (by decide)) (nI_clamp (by decide)) (by decide) (Nat.le_of_ble_eq_true rfl) (Nat.le_of_ble_eq_true rfl) dX5_init_35 (fun q_7 cA_8 H hK hP hD hS => ?_)
  have hP : va_P (dC, dI) vwCl ([(h0, .inr (8, [.ref q_1, .int (nI 0), .null, .ref q_3, .ref q_5, .null, .null, .null, .int (nI 0)])), (q_1, .inl (cA_2, 250, .inl (fun _ => 0))), (q_3, .inl (cA_4, 200, .inl (fun _ => 0))), (q_5, .inl (cA_6, 250, .inl (fun _ => 0))), (q_7, .inl (cA_8, 250, .inl (fun _ => 0)))]) H := hP
  have hD : va_D A ([(h0, .inr (8, [.ref q_1, .int (nI 0), .null, .ref q_3, .ref q_5, .null, .null, .null, .int (nI 0)])), (q_1, .inl (cA_2, 250, .inl (fun _ => 0))), (q_3, .inl (cA_4, 200, .inl (fun _ => 0))), (q_5, .inl (cA_6, 250, .inl (fun _ => 0))), (q_7, .inl (cA_8, 250, .inl (fun _ => 0)))]) := hD
  have hK : va_K (dC, dI) vwCl [(cA_2, .char), (cA_4, .int), (cA_6, .int), (cA_8, .int)] s := hK
  refine W.cs (cells' := 4) (slots' := 950) (by omega) (by omega) ?_
  refine va_putF (D := (dC, dI)) (ci := 8) (v := .ref q_7) (ty := .array .int) (C := RX5) (T := TX5) (N := 9) hx hb hts bk0 tyX5 tyX5_ok nmX5 hown hK hP hD hS 0 rfl rfl 5 (by decide) (hts (.fieldLink RX5 22 "GradientDesk$Script" "places" "[I") (List.mem_of_getElem? (i := 9) rfl)) (fun _ h9 => h9) rfl hin rfl (by decide +kernel) rfl rfl (Nat.le_of_ble_eq_true rfl) dX5_init_37 (fun H locs hP hD hS => ?_)
  have hP : va_P (dC, dI) vwCl ([(h0, .inr (8, [.ref q_1, .int (nI 0), .null, .ref q_3, .ref q_5, .ref q_7, .null, .null, .int (nI 0)])), (q_1, .inl (cA_2, 250, .inl (fun _ => 0))), (q_3, .inl (cA_4, 200, .inl (fun _ => 0))), (q_5, .inl (cA_6, 250, .inl (fun _ => 0))), (q_7, .inl (cA_8, 250, .inl (fun _ => 0)))]) H := hP
  have hD : va_D A ([(h0, .inr (8, [.ref q_1, .int (nI 0), .null, .ref q_3, .ref q_5, .ref q_7, .null, .null, .int (nI 0)])), (q_1, .inl (cA_2, 250, .inl (fun _ => 0))), (q_3, .inl (cA_4, 200, .inl (fun _ => 0))), (q_5, .inl (cA_6, 250, .inl (fun _ => 0))), (q_7, .inl (cA_8, 250, .inl (fun _ => 0)))]) := hD
  refine lv_aload_n hx hb dX5_init_40 rfl (lv_at hl 0 rfl) ?_
  refine lv_sipush (v := nI 135) hx hb dX5_init_41 (by decide +kernel) ?_
  refine va_newa (atype := .char) (ty := .char) (N' := 135) (a0 := (135, .inl (fun _ => 0))) hx hb (hts (.arrayClass .char) (List.mem_of_getElem? (i := 4) rfl)) rfl hK hP hD hS hA (fun _ => rfl) (nI_pos (by decide)) (nI_clamp (by decide)) (by decide) (Nat.le_of_ble_eq_true rfl) (Nat.le_of_ble_eq_true rfl) dX5_init_44 (fun q_9 cA_10 H hK hP hD hS => ?_)
  have hP : va_P (dC, dI) vwCl ([(h0, .inr (8, [.ref q_1, .int (nI 0), .null, .ref q_3, .ref q_5, .ref q_7, .null, .null, .int (nI 0)])), (q_1, .inl (cA_2, 250, .inl (fun _ => 0))), (q_3, .inl (cA_4, 200, .inl (fun _ => 0))), (q_5, .inl (cA_6, 250, .inl (fun _ => 0))), (q_7, .inl (cA_8, 250, .inl (fun _ => 0))), (q_9, .inl (cA_10, 135, .inl (fun _ => 0)))]) H := hP
  have hD : va_D A ([(h0, .inr (8, [.ref q_1, .int (nI 0), .null, .ref q_3, .ref q_5, .ref q_7, .null, .null, .int (nI 0)])), (q_1, .inl (cA_2, 250, .inl (fun _ => 0))), (q_3, .inl (cA_4, 200, .inl (fun _ => 0))), (q_5, .inl (cA_6, 250, .inl (fun _ => 0))), (q_7, .inl (cA_8, 250, .inl (fun _ => 0))), (q_9, .inl (cA_10, 135, .inl (fun _ => 0)))]) := hD
  have hK : va_K (dC, dI) vwCl [(cA_2, .char), (cA_4, .int), (cA_6, .int), (cA_8, .int), (cA_10, .char)] s := hK
  refine W.cs (cells' := 5) (slots' := 1085) (by omega) (by omega) ?_
  refine va_putF (D := (dC, dI)) (ci := 8) (v := .ref q_9) (ty := .array .char) (C := RX5) (T := TX5) (N := 9) hx hb hts bk0 tyX5 tyX5_ok nmX5 hown hK hP hD hS 0 rfl rfl 6 (by decide) (hts (.fieldLink RX5 25 "GradientDesk$Script" "digits" "[C") (List.mem_of_getElem? (i := 10) rfl)) (fun _ h9 => h9) rfl hin rfl (by decide +kernel) rfl rfl (Nat.le_of_ble_eq_true rfl) dX5_init_46 (fun H locs hP hD hS => ?_)
  have hP : va_P (dC, dI) vwCl ([(h0, .inr (8, [.ref q_1, .int (nI 0), .null, .ref q_3, .ref q_5, .ref q_7, .ref q_9, .null, .int (nI 0)])), (q_1, .inl (cA_2, 250, .inl (fun _ => 0))), (q_3, .inl (cA_4, 200, .inl (fun _ => 0))), (q_5, .inl (cA_6, 250, .inl (fun _ => 0))), (q_7, .inl (cA_8, 250, .inl (fun _ => 0))), (q_9, .inl (cA_10, 135, .inl (fun _ => 0)))]) H := hP
  have hD : va_D A ([(h0, .inr (8, [.ref q_1, .int (nI 0), .null, .ref q_3, .ref q_5, .ref q_7, .ref q_9, .null, .int (nI 0)])), (q_1, .inl (cA_2, 250, .inl (fun _ => 0))), (q_3, .inl (cA_4, 200, .inl (fun _ => 0))), (q_5, .inl (cA_6, 250, .inl (fun _ => 0))), (q_7, .inl (cA_8, 250, .inl (fun _ => 0))), (q_9, .inl (cA_10, 135, .inl (fun _ => 0)))]) := hD
  refine lv_aload_n hx hb dX5_init_49 rfl (lv_at hl 0 rfl) ?_
  refine va_new (ci := 11) (fs := [.null, .int (nI 0), .int (nI 0)]) (C := RX8) (T := TX8) (N := 3) hx hb hts bk1 tyX8 tyX8_ok hown (hts (.classLink RX5 28 RX8) (List.mem_of_getElem? (i := 11) rfl)) (hts (.instantiable RX8 3) (List.mem_of_getElem? (i := 12) rfl)) (hts (.initialized RX8) (List.mem_of_getElem? (i := 13) rfl)) hK hP hD hS hA rfl (fun j hj => by rcases (show j = 0 ∨ j = 1 ∨ j = 2 by omega) with rfl | rfl | rfl <;> rfl) (Nat.le_of_ble_eq_true rfl) (Nat.le_of_ble_eq_true rfl) dX5_init_50 (fun q_11 H hP hD hS => ?_)
  have hP : va_P (dC, dI) vwCl ([(h0, .inr (8, [.ref q_1, .int (nI 0), .null, .ref q_3, .ref q_5, .ref q_7, .ref q_9, .null, .int (nI 0)])), (q_1, .inl (cA_2, 250, .inl (fun _ => 0))), (q_3, .inl (cA_4, 200, .inl (fun _ => 0))), (q_5, .inl (cA_6, 250, .inl (fun _ => 0))), (q_7, .inl (cA_8, 250, .inl (fun _ => 0))), (q_9, .inl (cA_10, 135, .inl (fun _ => 0))), (q_11, .inr (11, [.null, .int (nI 0), .int (nI 0)]))]) H := hP
  have hD : va_D A ([(h0, .inr (8, [.ref q_1, .int (nI 0), .null, .ref q_3, .ref q_5, .ref q_7, .ref q_9, .null, .int (nI 0)])), (q_1, .inl (cA_2, 250, .inl (fun _ => 0))), (q_3, .inl (cA_4, 200, .inl (fun _ => 0))), (q_5, .inl (cA_6, 250, .inl (fun _ => 0))), (q_7, .inl (cA_8, 250, .inl (fun _ => 0))), (q_9, .inl (cA_10, 135, .inl (fun _ => 0))), (q_11, .inr (11, [.null, .int (nI 0), .int (nI 0)]))]) := hD
  refine W.cs (cells' := 6) (slots' := 1088) (by omega) (by omega) ?_
  refine lv_dup hx hb dX5_init_53 rfl ?_
  refine lv_bipush (v := nI 13) hx hb dX5_init_54 (by decide +kernel) ?_
  have hPc := hP.sub (ws' := [(q_11, .inr (11, [.null, .int (nI 0), .int (nI 0)]))]) [6] rfl
  have hDc := hD.sub (ws' := [(q_11, .inr (11, [.null, .int (nI 0), .int (nI 0)]))]) [6] (by decide) rfl
  have hKc := hK.sub (tys' := []) [] rfl
  have hFc := va_free (wc := [(q_11, .inr (11, [.null, .int (nI 0), .int (nI 0)]))]) hD hS hA [6] rfl
  refine va_callv (va_runI (As := [.int (nI 13)]) (rest := [.ref q_11, .ref h0]) ⟨hx, hb, hml, hown, hts⟩ (c_X8_init l dC dI (va_A [(q_11, .inr (11, [.null, .int (nI 0), .int (nI 0)]))] H.size) H.size (fun _ h => Or.inr h) q_11 13 (by decide)) (cwI 1 hts (goodIn_sub (fun w9 h9 => bk2 w9 h9) gw_X8_init) rfl rfl rfl (hts (.initialized RX8) (List.mem_of_getElem? (i := 13) rfl)) (hts (.methodLink RX5 30 yX8_init) (List.mem_of_getElem? (i := 14) rfl)) (hts (.instanceMethod yX8_init) (List.mem_of_getElem? (i := 15) rfl)) rfl (by decide +kernel) ⟨Nat.le_of_ble_eq_true rfl, Nat.le_of_ble_eq_true rfl⟩) ⟨fun a U g mk q => by obtain ⟨q0, q1, qP, qK, qD⟩ := q; exact ⟨q0, q1, qP, va_K.moved (u := U) (U := U.calling g mk a) (Vm.Alike.refl U.vm) qK, qD⟩, fun U hU hW => ⟨rfl, by rw [hU], by rw [hU]; exact hPc, va_K.moved hW.alike hKc, hDc.self⟩⟩ rfl rfl hl.1 rfl (lv_room (Nat.le_of_ble_eq_true rfl)) dX5_init_56 ⟨(Nat.le_of_ble_eq_true rfl), (Nat.le_of_ble_eq_true rfl)⟩) hS (fun q _ h => hFc q h) hFc (fun u t H1 locs ht hvm hw_12 hB hz1 hk1 hS => ?_)
  obtain ⟨qa_13, cA_14⟩ := u
  obtain ⟨hP1, hK1, hD1⟩ := hB
  rw [ht] at hP1
  have hK1 := va_K.moved hvm.symm hK1
  try dsimp only at hw_12
  obtain ⟨hP, hD⟩ := va_join (wr := [(h0, .inr (8, [.ref q_1, .int (nI 0), .null, .ref q_3, .ref q_5, .ref q_7, .ref q_9, .null, .int (nI 0)])), (q_1, .inl (cA_2, 250, .inl (fun _ => 0))), (q_3, .inl (cA_4, 200, .inl (fun _ => 0))), (q_5, .inl (cA_6, 250, .inl (fun _ => 0))), (q_7, .inl (cA_8, 250, .inl (fun _ => 0))), (q_9, .inl (cA_10, 135, .inl (fun _ => 0)))]) (w1 := [(q_11, .inr (11, [.ref qa_13, .int (nI 0), .int (nI 0)])), (qa_13, .inl (cA_14, 13, .inl (fun _ => 0)))]) hP hD [6] [0, 1, 2, 3, 4, 5] rfl rfl (by decide) (by decide) hk1 hFc hP1 hD1
  have hK := (hK.sub (tys' := [(cA_2, .char), (cA_4, .int), (cA_6, .int), (cA_8, .int), (cA_10, .char)]) [0, 1, 2, 3, 4] rfl).app hK1
  generalize H1 = H at hP hS ⊢
  have hP : va_P (dC, dI) vwCl ([(h0, .inr (8, [.ref q_1, .int (nI 0), .null, .ref q_3, .ref q_5, .ref q_7, .ref q_9, .null, .int (nI 0)])), (q_1, .inl (cA_2, 250, .inl (fun _ => 0))), (q_3, .inl (cA_4, 200, .inl (fun _ => 0))), (q_5, .inl (cA_6, 250, .inl (fun _ => 0))), (q_7, .inl (cA_8, 250, .inl (fun _ => 0))), (q_9, .inl (cA_10, 135, .inl (fun _ => 0))), (q_11, .inr (11, [.ref qa_13, .int (nI 0), .int (nI 0)])), (qa_13, .inl (cA_14, 13, .inl (fun _ => 0)))]) H := hP
  have hD : va_D A ([(h0, .inr (8, [.ref q_1, .int (nI 0), .null, .ref q_3, .ref q_5, .ref q_7, .ref q_9, .null, .int (nI 0)])), (q_1, .inl (cA_2, 250, .inl (fun _ => 0))), (q_3, .inl (cA_4, 200, .inl (fun _ => 0))), (q_5, .inl (cA_6, 250, .inl (fun _ => 0))), (q_7, .inl (cA_8, 250, .inl (fun _ => 0))), (q_9, .inl (cA_10, 135, .inl (fun _ => 0))), (q_11, .inr (11, [.ref qa_13, .int (nI 0), .int (nI 0)])), (qa_13, .inl (cA_14, 13, .inl (fun _ => 0)))]) := hD
  have hK : va_K (dC, dI) vwCl [(cA_2, .char), (cA_4, .int), (cA_6, .int), (cA_8, .int), (cA_10, .char), (cA_14, .int)] s := hK
  refine W.cs (cells' := 7) (slots' := 1101) (by omega) (by omega) ?_
  refine va_putF (D := (dC, dI)) (ci := 8) (v := .ref q_11) (ty := .object "GradientDesk$Whole") (C := RX5) (T := TX5) (N := 9) hx hb hts bk0 tyX5 tyX5_ok nmX5 hown hK hP hD hS 0 rfl rfl 7 (by decide) (hts (.fieldLink RX5 33 "GradientDesk$Script" "left" "LGradientDesk$Whole;") (List.mem_of_getElem? (i := 16) rfl)) (fun _ h9 => h9) rfl hin rfl (by decide +kernel) rfl rfl (Nat.le_of_ble_eq_true rfl) dX5_init_59 (fun H locs hP hD hS => ?_)
  have hP : va_P (dC, dI) vwCl ([(h0, .inr (8, [.ref q_1, .int (nI 0), .null, .ref q_3, .ref q_5, .ref q_7, .ref q_9, .ref q_11, .int (nI 0)])), (q_1, .inl (cA_2, 250, .inl (fun _ => 0))), (q_3, .inl (cA_4, 200, .inl (fun _ => 0))), (q_5, .inl (cA_6, 250, .inl (fun _ => 0))), (q_7, .inl (cA_8, 250, .inl (fun _ => 0))), (q_9, .inl (cA_10, 135, .inl (fun _ => 0))), (q_11, .inr (11, [.ref qa_13, .int (nI 0), .int (nI 0)])), (qa_13, .inl (cA_14, 13, .inl (fun _ => 0)))]) H := hP
  have hD : va_D A ([(h0, .inr (8, [.ref q_1, .int (nI 0), .null, .ref q_3, .ref q_5, .ref q_7, .ref q_9, .ref q_11, .int (nI 0)])), (q_1, .inl (cA_2, 250, .inl (fun _ => 0))), (q_3, .inl (cA_4, 200, .inl (fun _ => 0))), (q_5, .inl (cA_6, 250, .inl (fun _ => 0))), (q_7, .inl (cA_8, 250, .inl (fun _ => 0))), (q_9, .inl (cA_10, 135, .inl (fun _ => 0))), (q_11, .inr (11, [.ref qa_13, .int (nI 0), .int (nI 0)])), (qa_13, .inl (cA_14, 13, .inl (fun _ => 0)))]) := hD
  refine lv_aload_n hx hb dX5_init_62 rfl (lv_at hl 0 rfl) ?_
  refine lv_aload_n hx hb dX5_init_63 rfl (lv_at hl 1 rfl) ?_
  refine va_putF (D := (dC, dI)) (ci := 8) (v := .ref sh) (ty := .object "GradientDesk$Shelf") (C := RX5) (T := TX5) (N := 9) hx hb hts bk0 tyX5 tyX5_ok nmX5 hown hK hP hD hS 0 rfl rfl 2 (by decide) (hts (.fieldLink RX5 37 "GradientDesk$Script" "shelf" "LGradientDesk$Shelf;") (List.mem_of_getElem? (i := 17) rfl)) (fun _ h9 => h9) rfl hin rfl (by decide +kernel) rfl rfl (Nat.le_of_ble_eq_true rfl) dX5_init_64 (fun H locs hP hD hS => ?_)
  have hP : va_P (dC, dI) vwCl ([(h0, .inr (8, [.ref q_1, .int (nI 0), .ref sh, .ref q_3, .ref q_5, .ref q_7, .ref q_9, .ref q_11, .int (nI 0)])), (q_1, .inl (cA_2, 250, .inl (fun _ => 0))), (q_3, .inl (cA_4, 200, .inl (fun _ => 0))), (q_5, .inl (cA_6, 250, .inl (fun _ => 0))), (q_7, .inl (cA_8, 250, .inl (fun _ => 0))), (q_9, .inl (cA_10, 135, .inl (fun _ => 0))), (q_11, .inr (11, [.ref qa_13, .int (nI 0), .int (nI 0)])), (qa_13, .inl (cA_14, 13, .inl (fun _ => 0)))]) H := hP
  have hD : va_D A ([(h0, .inr (8, [.ref q_1, .int (nI 0), .ref sh, .ref q_3, .ref q_5, .ref q_7, .ref q_9, .ref q_11, .int (nI 0)])), (q_1, .inl (cA_2, 250, .inl (fun _ => 0))), (q_3, .inl (cA_4, 200, .inl (fun _ => 0))), (q_5, .inl (cA_6, 250, .inl (fun _ => 0))), (q_7, .inl (cA_8, 250, .inl (fun _ => 0))), (q_9, .inl (cA_10, 135, .inl (fun _ => 0))), (q_11, .inr (11, [.ref qa_13, .int (nI 0), .int (nI 0)])), (qa_13, .inl (cA_14, 13, .inl (fun _ => 0)))]) := hD
  have hP9 := hP.sub (ws' := [(h0, .inr (8, [.ref q_1, .int (nI 0), .ref sh, .ref q_3, .ref q_5, .ref q_7, .ref q_9, .ref q_11, .int (nI 0)]))]) [0] rfl
  have hD9 := hD.sub (ws' := [(h0, .inr (8, [.ref q_1, .int (nI 0), .ref sh, .ref q_3, .ref q_5, .ref q_7, .ref q_9, .ref q_11, .int (nI 0)]))]) [0] (by decide) rfl
  have hK9 := hK.sub (tys' := []) [] rfl
  refine W.widen (k := 7) (n := 1101) (by omega) (by omega) ?_
  exact W.vret hx hb hr (fun t ht hW => ⟨⟨(q_1, q_3, q_5, q_7, q_9, q_11), rfl, trivial, by rw [ht]; exact hP9, va_K.moved hW.alike hK9, hD9⟩, hS.F ht⟩) hS.2.2 dX5_init_67
