def wd_X8_oos0 : List Cond := .code yX8_orderOfSizes cX8_orderOfSizes 3 (some .int) :: (([.fieldLink RX8 15 "GradientDesk$Whole" "size" "I"] : List Cond) ++ (u_ws RX8 TX8 3 ++ ([])))
theorem gw_X8_oos0 : wd_X8_oos0.all goodWord = true := k_allc rfl (k_all (by decide +kernel) (k_all (gu_X8) (rfl)))
abbrev at_X8_oos0 (dC : Nat → ClassId) (dI : Nat → Nat → Nat) (A : Nat → Prop) (h : Nat) (qa : Nat) (y : Nat) (ya : Nat) (u : Unit) (t : State) : Prop := match u with
  | () => va_P (dC, dI) vwCl [] t.heap ∧ va_K (dC, dI) vwCl [] t ∧ va_D A []
set_option maxHeartbeats 4000000 in
set_option maxRecDepth 100000 in
theorem c_X8_oos0 (l : Launch) (dC : Nat → ClassId) (dI : Nat → Nat → Nat) (A : Nat → Prop) (sz : Nat) (hA0 : ∀ q, sz ≤ q → A q) (h : Nat) (qa : Nat) (y : Nat) (ya : Nat)  : Met l yX8_orderOfSizes wd_X8_oos0 ({ frames := 10, cells := 0, slots := 0, locals := 200 }) (va_Pc [.ref h, .ref y] (fun U => U.heap.size = sz ∧ va_P (dC, dI) vwCl [] U.heap ∧ va_K (dC, dI) vwCl [] U ∧ va_D A [] ∧ va_P (dC, dI) vwCl [(h, .inr (11, [.ref qa, .int (nI 0), .int (nI 0)])), (y, .inr (11, [.ref ya, .int (nI 0), .int (nI 0)]))] U.heap ∧ (∀ (k9 : Nat) (q9 : Nat × va_E), ([(h, .inr (11, [.ref qa, .int (nI 0), .int (nI 0)])), (y, .inr (11, [.ref ya, .int (nI 0), .int (nI 0)]))] : va_W)[k9]? = some q9 → ¬ A q9.1))) (va_Qi (fun (r : Int32) => fun (u : Unit) => match u with | () => r = nI 0) (at_X8_oos0 dC dI A h qa y ya) A) (0) (0) A := by
  refine Met.ofW (cc := cX8_orderOfSizes) (maxL := 3) (ret := (some .int)) (by decide) rfl ?_
  intro p e s m args below meth c s₁ B hml hv
  obtain ⟨rfl, hsz, hP, hK, hD, hRO, hROn⟩ := hv
  have hx := B.exec
  have hb := B.bytes
  have hr := B.returns
  have hts := atoms_spec (ws := wd_X8_oos0) B.pre
  have hown : s.vm.findClass RX8 = some m.cls := findClass_of_methodNamed B.named
  have hlocks := B.notSynchronized
  have bk0 : ∀ w ∈ u_ws RX8 TX8 3, w ∈ wd_X8_oos0 := fun _ h => List.mem_cons_of_mem _ (List.mem_append_right _ (List.mem_append_left _ h))
  subst hsz
  have hA : ∀ q : Nat, s.heap.size ≤ q → A q := hA0
  have hS : va_S A s.heap s.heap [] := va_S.rf
  have hl := lv_entry ([.ref h, .ref y]) (n := 3) (Nat.le_of_ble_eq_true rfl)
  rw [lg_entry_eq]
  generalize (lg_sl ([.ref h, .ref y]) ++ List.replicate (3 - (lg_sl ([.ref h, .ref y])).length) Slot.unset).toArray = ls at hl ⊢
  have hl : lv_has ls 3 [(0, .ref h), (1, .ref y)] := hl
  refine lv_aload_n hx hb dX8_orderOfSizes_0 rfl (lv_at hl 0 rfl) ?_
  refine va_get (D := (dC, dI)) (ci := 11) (v := .int (nI 0)) (C := RX8) (T := TX8) (N := 3) hx hb hts bk0 hown hK hRO 0 rfl rfl 1 (by decide) (hts (.fieldLink RX8 15 "GradientDesk$Whole" "size" "I") (List.mem_of_getElem? (i := 1) rfl)) (fun _ h9 => h9) rfl dX8_orderOfSizes_1 ?_
  refine lv_aload_n hx hb dX8_orderOfSizes_4 rfl (lv_at hl 1 rfl) ?_
  refine va_get (D := (dC, dI)) (ci := 11) (v := .int (nI 0)) (C := RX8) (T := TX8) (N := 3) hx hb hts bk0 hown hK hRO 1 rfl rfl 1 (by decide) (hts (.fieldLink RX8 15 "GradientDesk$Whole" "size" "I") (List.mem_of_getElem? (i := 1) rfl)) (fun _ h9 => h9) rfl dX8_orderOfSizes_5 ?_
  refine lv_icmp_eq (tgt := 28) hx hb dX8_orderOfSizes_8 (by decide) (fun c_1 => ?_) (fun c_1 => absurd c_1 (by decide))
  refine lv_aload_n hx hb dX8_orderOfSizes_28 rfl (lv_at hl 0 rfl) ?_
  refine va_get (D := (dC, dI)) (ci := 11) (v := .int (nI 0)) (C := RX8) (T := TX8) (N := 3) hx hb hts bk0 hown hK hRO 0 rfl rfl 1 (by decide) (hts (.fieldLink RX8 15 "GradientDesk$Whole" "size" "I") (List.mem_of_getElem? (i := 1) rfl)) (fun _ h9 => h9) rfl dX8_orderOfSizes_29 ?_
  refine lv_iconst (v := nI 1) hx hb dX8_orderOfSizes_32 (by decide +kernel) ?_
  refine lv_isub hx hb dX8_orderOfSizes_33 ?_
  refine lv_topi (fun x_2 e_3 => ?_)
  obtain rfl : x_2 = -1 := e_3.trans (by decide)
  refine lv_istore_n (lv' := [(2, .int (-1)), (0, .ref h), (1, .ref y)]) hx hb dX8_orderOfSizes_34 rfl hl (by decide) rfl (fun ls hl => ?_)
  refine lv_iload_n hx hb dX8_orderOfSizes_35 rfl (lv_at hl 0 rfl) ?_
  refine lv_if_lt (tgt := 92) hx hb dX8_orderOfSizes_36 (by decide) (fun c_4 => ?_) (fun c_4 => absurd c_4 (by decide))
  refine lv_iconst (v := nI 0) hx hb dX8_orderOfSizes_92 (by decide +kernel) ?_
  have hP9 := hP.sub (ws' := []) [] rfl
  have hD9 := hD.sub (ws' := []) [] (by decide) rfl
  have hK9 := hK.sub (tys' := []) [] rfl
  refine W.widen (k := 0) (n := 0) (by omega) (by omega) ?_
  exact W.iret (v := nI 0) hx hb hr (fun t ht hW => ⟨⟨nI 0, (), rfl, rfl, by rw [ht]; exact hP9, va_K.moved hW.alike hK9, hD9⟩, hS.F ht⟩) hS.2.2 dX8_orderOfSizes_93
def wd_X8_order0 : List Cond := .code yX8_order cX8_order 3 (some .int) :: (([.methodLink RX8 50 yX8_signum, .instanceMethod yX8_signum, .selects RX8 yX8_signum yX8_signum, .initialized RX8, .methodLink RX8 54 yX8_orderOfSizes, .instanceMethod yX8_orderOfSizes, .selects RX8 yX8_orderOfSizes yX8_orderOfSizes, .fieldLink RX8 19 "GradientDesk$Whole" "below" "Z"] : List Cond) ++ (wd_X8_signum0 ++ (wd_X8_oos0 ++ (u_ws RX8 TX8 3 ++ ([])))))
theorem gw_X8_order0 : wd_X8_order0.all goodWord = true := k_allc rfl (k_all (by decide +kernel) (k_all (gw_X8_signum0) (k_all (gw_X8_oos0) (k_all (gu_X8) (rfl)))))
abbrev at_X8_order0 (dC : Nat → ClassId) (dI : Nat → Nat → Nat) (A : Nat → Prop) (h : Nat) (qa : Nat) (y : Nat) (ya : Nat) (u : Unit) (t : State) : Prop := match u with
  | () => va_P (dC, dI) vwCl [] t.heap ∧ va_K (dC, dI) vwCl [] t ∧ va_D A []
set_option maxHeartbeats 4000000 in
set_option maxRecDepth 100000 in
theorem c_X8_order0 (l : Launch) (dC : Nat → ClassId) (dI : Nat → Nat → Nat) (A : Nat → Prop) (sz : Nat) (hA0 : ∀ q, sz ≤ q → A q) (h : Nat) (qa : Nat) (y : Nat) (ya : Nat)  : Met l yX8_order wd_X8_order0 ({ frames := 20, cells := 0, slots := 0, locals := 400 }) (va_Pc [.ref h, .ref y] (fun U => U.heap.size = sz ∧ va_P (dC, dI) vwCl [] U.heap ∧ va_K (dC, dI) vwCl [] U ∧ va_D A [] ∧ va_P (dC, dI) vwCl [(h, .inr (11, [.ref qa, .int (nI 0), .int (nI 0)])), (y, .inr (11, [.ref ya, .int (nI 0), .int (nI 0)]))] U.heap ∧ (∀ (k9 : Nat) (q9 : Nat × va_E), ([(h, .inr (11, [.ref qa, .int (nI 0), .int (nI 0)])), (y, .inr (11, [.ref ya, .int (nI 0), .int (nI 0)]))] : va_W)[k9]? = some q9 → ¬ A q9.1))) (va_Qi (fun (r : Int32) => fun (u : Unit) => match u with | () => r = nI 0) (at_X8_order0 dC dI A h qa y ya) A) (0) (0) A := by
  refine Met.ofW (cc := cX8_order) (maxL := 3) (ret := (some .int)) (by decide) rfl ?_
  intro p e s m args below meth c s₁ B hml hv
  obtain ⟨rfl, hsz, hP, hK, hD, hRO, hROn⟩ := hv
  have hx := B.exec
  have hb := B.bytes
  have hr := B.returns
  have hts := atoms_spec (ws := wd_X8_order0) B.pre
  have hown : s.vm.findClass RX8 = some m.cls := findClass_of_methodNamed B.named
  have hlocks := B.notSynchronized
  have bk0 : ∀ w ∈ wd_X8_signum0, w ∈ wd_X8_order0 := fun _ h => List.mem_cons_of_mem _ (List.mem_append_right _ (List.mem_append_left _ h))
  have bk1 : ∀ w ∈ wd_X8_oos0, w ∈ wd_X8_order0 := fun _ h => List.mem_cons_of_mem _ (List.mem_append_right _ (List.mem_append_right _ (List.mem_append_left _ h)))
  have bk2 : ∀ w ∈ u_ws RX8 TX8 3, w ∈ wd_X8_order0 := fun _ h => List.mem_cons_of_mem _ (List.mem_append_right _ (List.mem_append_right _ (List.mem_append_right _ (List.mem_append_left _ h))))
  subst hsz
  have hA : ∀ q : Nat, s.heap.size ≤ q → A q := hA0
  have hS : va_S A s.heap s.heap [] := va_S.rf
  have hl := lv_entry ([.ref h, .ref y]) (n := 3) (Nat.le_of_ble_eq_true rfl)
  rw [lg_entry_eq]
  generalize (lg_sl ([.ref h, .ref y]) ++ List.replicate (3 - (lg_sl ([.ref h, .ref y])).length) Slot.unset).toArray = ls at hl ⊢
  have hl : lv_has ls 3 [(0, .ref h), (1, .ref y)] := hl
  refine lv_aload_n hx hb dX8_order_0 rfl (lv_at hl 0 rfl) ?_
  have hPc := hP.sub (ws' := []) [] rfl
  have hDc := hD.sub (ws' := []) [] (by decide) rfl
  have hKc := hK.sub (tys' := []) [] rfl
  have hFc := va_free (wc := []) hD hS hA [] rfl
  have hPr : va_P (dC, dI) vwCl [(h, .inr (11, [.ref qa, .int (nI 0), .int (nI 0)]))] s.heap := k_Pc (hRO 0 _ rfl) (k_Pn)
  have hNr : ∀ (k9 : Nat) (q9 : Nat × va_E), ([(h, .inr (11, [.ref qa, .int (nI 0), .int (nI 0)]))] : va_W)[k9]? = some q9 → ¬ va_A [] s.heap.size q9.1 := k_Nc (fun hh => hROn 0 _ rfl (hFc _ hh)) (k_Nn)
  refine va_calli (va_runV (As := []) (rest := []) ⟨hx, hb, hml, hown, hts⟩ (c_X8_signum0 l dC dI (va_A [] s.heap.size) s.heap.size (fun _ h => Or.inr h) h qa ) (cwV 0 hts (goodIn_app (goodIn_r [Cond.methodLink RX8 50 yX8_signum, Cond.instanceMethod yX8_signum, Cond.selects RX8 yX8_signum yX8_signum, Cond.initialized RX8] [1, 2, 3, 4] rfl rfl) (goodIn_sub (fun w9 h9 => bk0 w9 h9) gw_X8_signum0)) rfl rfl rfl (by decide +kernel) ⟨Nat.le_of_ble_eq_true rfl, Nat.le_of_ble_eq_true rfl⟩) ⟨fun a U g mk q => by obtain ⟨q0, q1, qP, qK, qD, qR, qN⟩ := q; exact ⟨q0, q1, qP, va_K.moved (u := U) (U := U.calling g mk a) (Vm.Alike.refl U.vm) qK, qD, qR, qN⟩, va_recv hKc hPr (ci := 11) (q0 := 0) rfl rfl, fun U hU hW => ⟨rfl, by rw [hU], by rw [hU]; exact hPc, va_K.moved hW.alike hKc, hDc.self, by rw [hU]; exact hPr, hNr⟩⟩ rfl rfl hl.1 rfl (lv_room (Nat.le_of_ble_eq_true rfl)) dX8_order_1 ⟨(Nat.le_of_ble_eq_true rfl), (Nat.le_of_ble_eq_true rfl)⟩) hS (fun q _ h => hFc q h) hFc (fun r_1 u t H1 locs ht hvm hw_2 hB hz1 hk1 hS => ?_)
  obtain ⟨⟩ := u
  obtain ⟨hP1, hK1, hD1⟩ := hB
  rw [ht] at hP1
  have hK1 := va_K.moved hvm.symm hK1
  try dsimp only at hw_2
  obtain ⟨hP, hD⟩ := va_join (wr := []) (w1 := []) hP hD [] [] rfl rfl (by decide) (by decide) hk1 hFc hP1 hD1
  have hK := (hK.sub (tys' := []) [] rfl).app hK1
  generalize H1 = H at hP hS ⊢
  have hP : va_P (dC, dI) vwCl ([]) H := hP
  have hD : va_D A ([]) := hD
  have hK : va_K (dC, dI) vwCl [] s := hK
  obtain rfl : r_1 = nI 0 := hw_2
  refine lv_aload_n hx hb dX8_order_4 rfl (lv_at hl 1 rfl) ?_
  have hPc := hP.sub (ws' := []) [] rfl
  have hDc := hD.sub (ws' := []) [] (by decide) rfl
  have hKc := hK.sub (tys' := []) [] rfl
  have hFc := va_free (wc := []) hD hS hA [] rfl
  have hRO9 : va_P (dC, dI) vwCl [(h, .inr (11, [.ref qa, .int (nI 0), .int (nI 0)])), (y, .inr (11, [.ref ya, .int (nI 0), .int (nI 0)]))] H := hRO.kept (fun k9 q9 h9 => hS.2.1 q9.1 (hRO k9 q9 h9).lt (hROn k9 q9 h9))
  have hPr : va_P (dC, dI) vwCl [(y, .inr (11, [.ref ya, .int (nI 0), .int (nI 0)]))] H := k_Pc (hRO9 1 _ rfl) (k_Pn)
  have hNr : ∀ (k9 : Nat) (q9 : Nat × va_E), ([(y, .inr (11, [.ref ya, .int (nI 0), .int (nI 0)]))] : va_W)[k9]? = some q9 → ¬ va_A [] H.size q9.1 := k_Nc (fun hh => hROn 1 _ rfl (hFc _ hh)) (k_Nn)
  refine va_calli (va_runV (As := []) (rest := [.int (nI 0)]) ⟨hx, hb, hml, hown, hts⟩ (c_X8_signum0 l dC dI (va_A [] H.size) H.size (fun _ h => Or.inr h) y ya ) (cwV 0 hts (goodIn_app (goodIn_r [Cond.methodLink RX8 50 yX8_signum, Cond.instanceMethod yX8_signum, Cond.selects RX8 yX8_signum yX8_signum, Cond.initialized RX8] [1, 2, 3, 4] rfl rfl) (goodIn_sub (fun w9 h9 => bk0 w9 h9) gw_X8_signum0)) rfl rfl rfl (by decide +kernel) ⟨Nat.le_of_ble_eq_true rfl, Nat.le_of_ble_eq_true rfl⟩) ⟨fun a U g mk q => by obtain ⟨q0, q1, qP, qK, qD, qR, qN⟩ := q; exact ⟨q0, q1, qP, va_K.moved (u := U) (U := U.calling g mk a) (Vm.Alike.refl U.vm) qK, qD, qR, qN⟩, va_recv hKc hPr (ci := 11) (q0 := 0) rfl rfl, fun U hU hW => ⟨rfl, by rw [hU], by rw [hU]; exact hPc, va_K.moved hW.alike hKc, hDc.self, by rw [hU]; exact hPr, hNr⟩⟩ rfl rfl hl.1 rfl (lv_room (Nat.le_of_ble_eq_true rfl)) dX8_order_5 ⟨(Nat.le_of_ble_eq_true rfl), (Nat.le_of_ble_eq_true rfl)⟩) hS (fun q _ h => hFc q h) hFc (fun r_3 u t H1 locs ht hvm hw_4 hB hz1 hk1 hS => ?_)
  obtain ⟨⟩ := u
  obtain ⟨hP1, hK1, hD1⟩ := hB
  rw [ht] at hP1
  have hK1 := va_K.moved hvm.symm hK1
  try dsimp only at hw_4
  obtain ⟨hP, hD⟩ := va_join (wr := []) (w1 := []) hP hD [] [] rfl rfl (by decide) (by decide) hk1 hFc hP1 hD1
  have hK := (hK.sub (tys' := []) [] rfl).app hK1
  generalize H1 = H at hP hS ⊢
  have hP : va_P (dC, dI) vwCl ([]) H := hP
  have hD : va_D A ([]) := hD
  have hK : va_K (dC, dI) vwCl [] s := hK
  obtain rfl : r_3 = nI 0 := hw_4
  refine lv_icmp_eq (tgt := 28) hx hb dX8_order_8 (by decide) (fun c_5 => ?_) (fun c_5 => absurd c_5 (by decide))
  refine lv_aload_n hx hb dX8_order_28 rfl (lv_at hl 0 rfl) ?_
  refine lv_aload_n hx hb dX8_order_29 rfl (lv_at hl 1 rfl) ?_
  have hPc := hP.sub (ws' := []) [] rfl
  have hDc := hD.sub (ws' := []) [] (by decide) rfl
  have hKc := hK.sub (tys' := []) [] rfl
  have hFc := va_free (wc := []) hD hS hA [] rfl
  have hRO9 : va_P (dC, dI) vwCl [(h, .inr (11, [.ref qa, .int (nI 0), .int (nI 0)])), (y, .inr (11, [.ref ya, .int (nI 0), .int (nI 0)]))] H := hRO.kept (fun k9 q9 h9 => hS.2.1 q9.1 (hRO k9 q9 h9).lt (hROn k9 q9 h9))
  have hRO9 : va_P (dC, dI) vwCl [(h, .inr (11, [.ref qa, .int (nI 0), .int (nI 0)])), (y, .inr (11, [.ref ya, .int (nI 0), .int (nI 0)]))] H := hRO.kept (fun k9 q9 h9 => hS.2.1 q9.1 (hRO k9 q9 h9).lt (hROn k9 q9 h9))
  have hPr : va_P (dC, dI) vwCl [(h, .inr (11, [.ref qa, .int (nI 0), .int (nI 0)])), (y, .inr (11, [.ref ya, .int (nI 0), .int (nI 0)]))] H := k_Pc (hRO9 0 _ rfl) (k_Pc (hRO9 1 _ rfl) (k_Pn))
  have hNr : ∀ (k9 : Nat) (q9 : Nat × va_E), ([(h, .inr (11, [.ref qa, .int (nI 0), .int (nI 0)])), (y, .inr (11, [.ref ya, .int (nI 0), .int (nI 0)]))] : va_W)[k9]? = some q9 → ¬ va_A [] H.size q9.1 := k_Nc (fun hh => hROn 0 _ rfl (hFc _ hh)) (k_Nc (fun hh => hROn 1 _ rfl (hFc _ hh)) (k_Nn))
  refine va_calli (va_runV (As := [.ref y]) (rest := []) ⟨hx, hb, hml, hown, hts⟩ (c_X8_oos0 l dC dI (va_A [] H.size) H.size (fun _ h => Or.inr h) h qa y ya ) (cwV 1 hts (goodIn_app (goodIn_r [Cond.methodLink RX8 54 yX8_orderOfSizes, Cond.instanceMethod yX8_orderOfSizes, Cond.selects RX8 yX8_orderOfSizes yX8_orderOfSizes, Cond.initialized RX8] [5, 6, 7, 4] rfl rfl) (goodIn_sub (fun w9 h9 => bk1 w9 h9) gw_X8_oos0)) rfl rfl rfl (by decide +kernel) ⟨Nat.le_of_ble_eq_true rfl, Nat.le_of_ble_eq_true rfl⟩) ⟨fun a U g mk q => by obtain ⟨q0, q1, qP, qK, qD, qR, qN⟩ := q; exact ⟨q0, q1, qP, va_K.moved (u := U) (U := U.calling g mk a) (Vm.Alike.refl U.vm) qK, qD, qR, qN⟩, va_recv hKc hPr (ci := 11) (q0 := 0) rfl rfl, fun U hU hW => ⟨rfl, by rw [hU], by rw [hU]; exact hPc, va_K.moved hW.alike hKc, hDc.self, by rw [hU]; exact hPr, hNr⟩⟩ rfl rfl hl.1 rfl (lv_room (Nat.le_of_ble_eq_true rfl)) dX8_order_30 ⟨(Nat.le_of_ble_eq_true rfl), (Nat.le_of_ble_eq_true rfl)⟩) hS (fun q _ h => hFc q h) hFc (fun r_6 u t H1 locs ht hvm hw_7 hB hz1 hk1 hS => ?_)
  obtain ⟨⟩ := u
  obtain ⟨hP1, hK1, hD1⟩ := hB
  rw [ht] at hP1
  have hK1 := va_K.moved hvm.symm hK1
  try dsimp only at hw_7
  obtain ⟨hP, hD⟩ := va_join (wr := []) (w1 := []) hP hD [] [] rfl rfl (by decide) (by decide) hk1 hFc hP1 hD1
  have hK := (hK.sub (tys' := []) [] rfl).app hK1
  generalize H1 = H at hP hS ⊢
  have hP : va_P (dC, dI) vwCl ([]) H := hP
  have hD : va_D A ([]) := hD
  have hK : va_K (dC, dI) vwCl [] s := hK
  obtain rfl : r_6 = nI 0 := hw_7
  refine lv_istore_n (lv' := [(2, .int (nI 0)), (0, .ref h), (1, .ref y)]) hx hb dX8_order_33 rfl hl (by decide) rfl (fun ls hl => ?_)
  refine lv_aload_n hx hb dX8_order_34 rfl (lv_at hl 1 rfl) ?_
  have hRO9 : va_P (dC, dI) vwCl [(h, .inr (11, [.ref qa, .int (nI 0), .int (nI 0)])), (y, .inr (11, [.ref ya, .int (nI 0), .int (nI 0)]))] H := hRO.kept (fun k9 q9 h9 => hS.2.1 q9.1 (hRO k9 q9 h9).lt (hROn k9 q9 h9))
  refine va_get (D := (dC, dI)) (ci := 11) (v := .int (nI 0)) (C := RX8) (T := TX8) (N := 3) hx hb hts bk2 hown hK hRO9 0 rfl rfl 2 (by decide) (hts (.fieldLink RX8 19 "GradientDesk$Whole" "below" "Z") (List.mem_of_getElem? (i := 8) rfl)) (fun _ h9 => h9) rfl dX8_order_35 ?_
  refine lv_if_eq (tgt := 46) hx hb dX8_order_38 (by decide) (fun c_8 => ?_) (fun c_8 => absurd c_8 (by decide))
  refine lv_iload_n hx hb dX8_order_46 rfl (lv_at hl 0 rfl) ?_
  have hP9 := hP.sub (ws' := []) [] rfl
  have hD9 := hD.sub (ws' := []) [] (by decide) rfl
  have hK9 := hK.sub (tys' := []) [] rfl
  refine W.widen (k := 0) (n := 0) (by omega) (by omega) ?_
  exact W.iret (v := nI 0) hx hb hr (fun t ht hW => ⟨⟨nI 0, (), rfl, rfl, by rw [ht]; exact hP9, va_K.moved hW.alike hK9, hD9⟩, hS.F ht⟩) hS.2.2 dX8_order_47
def wd_X8_as0 : List Cond := .code yX8_addSizes cX8_addSizes 9 none :: (([.fieldLink RX8 15 "GradientDesk$Whole" "size" "I", .fieldLink RX8 9 "GradientDesk$Whole" "words" "[I", .methodLink RX8 71 Lib.Math.max.name, .static Lib.Math.max.name, .initialized "java/lang/Math", .code Lib.Math.max.name Lib.Math.max.code 2 (some .int), .methodLink RX8 29 Lib.Math.min.name, .static Lib.Math.min.name, .code Lib.Math.min.name Lib.Math.min.code 2 (some .int)] : List Cond) ++ (u_ws RX8 TX8 3 ++ ([])))
theorem gw_X8_as0 : wd_X8_as0.all goodWord = true := k_allc rfl (k_all (by decide +kernel) (k_all (gu_X8) (rfl)))
abbrev at_X8_as0 (dC : Nat → ClassId) (dI : Nat → Nat → Nat) (A : Nat → Prop) (h : Nat) (ha : Nat) (ch : ClassId) (n : Nat) (f : Nat → Int32) (z : Int32) (b : Int32) (x : Nat) (xa : Nat) (y : Nat) (ya : Nat) (u : Nat → Int32) (t : State) : Prop := match u with
  | f2 => va_P (dC, dI) vwCl [(h, .inr (11, [.ref ha, .int (nI 0), .int b])), (ha, .inl (ch, n, .inl f2))] t.heap ∧ va_K (dC, dI) vwCl [(ch, .int)] t ∧ va_D A [(h, .inr (11, [.ref ha, .int (nI 0), .int b])), (ha, .inl (ch, n, .inl f2))]
set_option maxHeartbeats 4000000 in
set_option maxRecDepth 100000 in
theorem c_X8_as0 (l : Launch) (dC : Nat → ClassId) (dI : Nat → Nat → Nat) (A : Nat → Prop) (sz : Nat) (hA0 : ∀ q, sz ≤ q → A q) (h : Nat) (ha : Nat) (ch : ClassId) (n : Nat) (f : Nat → Int32) (z : Int32) (b : Int32) (x : Nat) (xa : Nat) (y : Nat) (ya : Nat) (hn : n ≤ 4096) (hn2 : 2 ≤ n) : Met l yX8_addSizes wd_X8_as0 ({ frames := 20, cells := 0, slots := 0, locals := 400 }) (va_Pc [.ref h, .ref x, .ref y] (fun U => U.heap.size = sz ∧ va_P (dC, dI) vwCl [(h, .inr (11, [.ref ha, .int z, .int b])), (ha, .inl (ch, n, .inl f))] U.heap ∧ va_K (dC, dI) vwCl [(ch, .int)] U ∧ va_D A [(h, .inr (11, [.ref ha, .int z, .int b])), (ha, .inl (ch, n, .inl f))] ∧ va_P (dC, dI) vwCl [(x, .inr (11, [.ref xa, .int (nI 0), .int (nI 0)])), (y, .inr (11, [.ref ya, .int (nI 0), .int (nI 0)]))] U.heap ∧ (∀ (k9 : Nat) (q9 : Nat × va_E), ([(x, .inr (11, [.ref xa, .int (nI 0), .int (nI 0)])), (y, .inr (11, [.ref ya, .int (nI 0), .int (nI 0)]))] : va_W)[k9]? = some q9 → ¬ A q9.1))) (va_Qv (fun (u : Nat → Int32) => match u with | f2 => True) (at_X8_as0 dC dI A h ha ch n f z b x xa y ya) A) (0) (0) A := by
  refine Met.ofW (cc := cX8_addSizes) (maxL := 9) (ret := none) (by decide) rfl ?_
  intro p e s m args below meth c s₁ B hml hv
  obtain ⟨rfl, hsz, hP, hK, hD, hRO, hROn⟩ := hv
  have hx := B.exec
  have hb := B.bytes
  have hr := B.returns
  have hts := atoms_spec (ws := wd_X8_as0) B.pre
  have hown : s.vm.findClass RX8 = some m.cls := findClass_of_methodNamed B.named
  have hlocks := B.notSynchronized
  have bk0 : ∀ w ∈ u_ws RX8 TX8 3, w ∈ wd_X8_as0 := fun _ h => List.mem_cons_of_mem _ (List.mem_append_right _ (List.mem_append_left _ h))
  subst hsz
  have hA : ∀ q : Nat, s.heap.size ≤ q → A q := hA0
  have hS : va_S A s.heap s.heap [] := va_S.rf
  have hl := lv_entry ([.ref h, .ref x, .ref y]) (n := 9) (Nat.le_of_ble_eq_true rfl)
  rw [lg_entry_eq]
  generalize (lg_sl ([.ref h, .ref x, .ref y]) ++ List.replicate (9 - (lg_sl ([.ref h, .ref x, .ref y])).length) Slot.unset).toArray = ls at hl ⊢
  have hl : lv_has ls 9 [(0, .ref h), (1, .ref x), (2, .ref y)] := hl
  refine lv_aload_n hx hb dX8_addSizes_0 rfl (lv_at hl 1 rfl) ?_
  refine va_get (D := (dC, dI)) (ci := 11) (v := .int (nI 0)) (C := RX8) (T := TX8) (N := 3) hx hb hts bk0 hown hK hRO 0 rfl rfl 1 (by decide) (hts (.fieldLink RX8 15 "GradientDesk$Whole" "size" "I") (List.mem_of_getElem? (i := 1) rfl)) (fun _ h9 => h9) rfl dX8_addSizes_1 ?_
  refine lv_istore_n (lv' := [(3, .int (nI 0)), (0, .ref h), (1, .ref x), (2, .ref y)]) hx hb dX8_addSizes_4 rfl hl (by decide) rfl (fun ls hl => ?_)
  refine lv_aload_n hx hb dX8_addSizes_5 rfl (lv_at hl 3 rfl) ?_
  refine va_get (D := (dC, dI)) (ci := 11) (v := .int (nI 0)) (C := RX8) (T := TX8) (N := 3) hx hb hts bk0 hown hK hRO 1 rfl rfl 1 (by decide) (hts (.fieldLink RX8 15 "GradientDesk$Whole" "size" "I") (List.mem_of_getElem? (i := 1) rfl)) (fun _ h9 => h9) rfl dX8_addSizes_6 ?_
  refine lv_istore (lv' := [(4, .int (nI 0)), (3, .int (nI 0)), (0, .ref h), (1, .ref x), (2, .ref y)]) hx hb dX8_addSizes_9 hl (by decide) rfl (fun ls hl => ?_)
  refine lv_aload_n hx hb dX8_addSizes_11 rfl (lv_at hl 2 rfl) ?_
  refine va_get (D := (dC, dI)) (ci := 11) (v := .ref ha) (C := RX8) (T := TX8) (N := 3) hx hb hts bk0 hown hK hP 0 rfl rfl 0 (by decide) (hts (.fieldLink RX8 9 "GradientDesk$Whole" "words" "[I") (List.mem_of_getElem? (i := 2) rfl)) (fun _ h9 => h9) rfl dX8_addSizes_12 ?_
  refine va_alen (v := nI n) hx hb hK hP 1 0 rfl rfl rfl dX8_addSizes_15 ?_
  refine lv_iload_n hx hb dX8_addSizes_16 rfl (lv_at hl 1 rfl) ?_
  refine lv_iload hx hb dX8_addSizes_17 (lv_at hl 0 rfl) ?_
  refine va_mmax hx hb (by rw [hml]; exact hl.1.symm) hown (hts (.methodLink RX8 71 Lib.Math.max.name) (List.mem_of_getElem? (i := 3) rfl)) (hts (.static Lib.Math.max.name) (List.mem_of_getElem? (i := 4) rfl)) (hts (.initialized "java/lang/Math") (List.mem_of_getElem? (i := 5) rfl)) (hts (.code Lib.Math.max.name Lib.Math.max.code 2 (some .int)) (List.mem_of_getElem? (i := 6) rfl)) (Nat.le_of_ble_eq_true rfl) (Nat.le_of_ble_eq_true rfl) (Nat.le_of_ble_eq_true rfl) (Nat.le_of_ble_eq_true rfl) dX8_addSizes_19 ?_
  refine lv_topi (fun x_1 e_2 => ?_)
  obtain rfl : x_1 = nI 0 := e_2.trans (by decide)
  refine lv_iconst (v := nI 1) hx hb dX8_addSizes_22 (by decide +kernel) ?_
  refine lv_iadd hx hb dX8_addSizes_23 ?_
  refine lv_topi (fun x_3 e_4 => ?_)
  obtain rfl : x_3 = nI 1 := e_4.trans (nI_add 0 1)
  refine va_mmin hx hb (by rw [hml]; exact hl.1.symm) hown (hts (.methodLink RX8 29 Lib.Math.min.name) (List.mem_of_getElem? (i := 7) rfl)) (hts (.static Lib.Math.min.name) (List.mem_of_getElem? (i := 8) rfl)) (hts (.initialized "java/lang/Math") (List.mem_of_getElem? (i := 5) rfl)) (hts (.code Lib.Math.min.name Lib.Math.min.code 2 (some .int)) (List.mem_of_getElem? (i := 9) rfl)) (Nat.le_of_ble_eq_true rfl) (Nat.le_of_ble_eq_true rfl) (Nat.le_of_ble_eq_true rfl) (Nat.le_of_ble_eq_true rfl) dX8_addSizes_24 ?_
  refine lv_topi (fun x_5 e_6 => ?_)
  obtain rfl : x_5 = nI 1 := by rw [e_6]; exact if_pos (nI_lt (by omega) (by omega))
  refine lv_istore (lv' := [(5, .int (nI 1)), (4, .int (nI 0)), (3, .int (nI 0)), (0, .ref h), (1, .ref x), (2, .ref y)]) hx hb dX8_addSizes_27 hl (by decide) rfl (fun ls hl => ?_)
  refine lv_lconst (v := lN 0) hx hb dX8_addSizes_29 (by decide +kernel) ?_
  refine lv_lstore (lv' := [(6, .long (lN 0)), (5, .int (nI 1)), (4, .int (nI 0)), (3, .int (nI 0)), (0, .ref h), (1, .ref x), (2, .ref y)]) hx hb dX8_addSizes_30 hl (by decide) rfl (fun ls hl => ?_)
  refine lv_iconst (v := nI 0) hx hb dX8_addSizes_32 (by decide +kernel) ?_
  refine lv_istore (lv' := [(8, .int (nI 0)), (6, .long (lN 0)), (5, .int (nI 1)), (4, .int (nI 0)), (3, .int (nI 0)), (0, .ref h), (1, .ref x), (2, .ref y)]) hx hb dX8_addSizes_33 hl (by decide) rfl (fun ls hl => ?_)
  refine lv_iload hx hb dX8_addSizes_35 (lv_at hl 0 rfl) ?_
  refine lv_iload hx hb dX8_addSizes_37 (lv_at hl 2 rfl) ?_
  refine lv_icmp_ge (tgt := 116) hx hb dX8_addSizes_39 (by decide) (fun c_7 => absurd c_7 (by decide)) (fun c_7 => ?_)
  refine lv_lload hx hb dX8_addSizes_42 (lv_at hl 1 rfl) ?_
  refine lv_iload hx hb dX8_addSizes_44 (lv_at hl 0 rfl) ?_
  refine lv_iload_n hx hb dX8_addSizes_46 rfl (lv_at hl 4 rfl) ?_
  refine lv_icmp_ge (tgt := 65) hx hb dX8_addSizes_47 (by decide) (fun c_8 => ?_) (fun c_8 => absurd c_8 (by decide))
  refine lv_lconst (v := lN 0) hx hb dX8_addSizes_65 (by decide +kernel) ?_
  refine lv_iload hx hb dX8_addSizes_66 (lv_at hl 0 rfl) ?_
  refine lv_iload hx hb dX8_addSizes_68 (lv_at hl 3 rfl) ?_
  refine lv_icmp_ge (tgt := 88) hx hb dX8_addSizes_70 (by decide) (fun c_9 => ?_) (fun c_9 => absurd c_9 (by decide))
  refine lv_lconst (v := lN 0) hx hb dX8_addSizes_88 (by decide +kernel) ?_
  refine lv_ladd hx hb dX8_addSizes_89 ?_
  refine lv_topl (fun y_10 e_11 => ?_)
  obtain rfl : y_10 = lN 0 := e_11.trans (lN_add 0 0)
  refine lv_ladd hx hb dX8_addSizes_90 ?_
  refine lv_topl (fun y_12 e_13 => ?_)
  obtain rfl : y_12 = lN 0 := e_13.trans (lN_add 0 0)
  refine lv_lstore (lv' := [(6, .long (lN 0)), (8, .int (nI 0)), (5, .int (nI 1)), (4, .int (nI 0)), (3, .int (nI 0)), (0, .ref h), (1, .ref x), (2, .ref y)]) hx hb dX8_addSizes_91 hl (by decide) rfl (fun ls hl => ?_)
  refine lv_aload_n hx hb dX8_addSizes_93 rfl (lv_at hl 5 rfl) ?_
  refine va_get (D := (dC, dI)) (ci := 11) (v := .ref ha) (C := RX8) (T := TX8) (N := 3) hx hb hts bk0 hown hK hP 0 rfl rfl 0 (by decide) (hts (.fieldLink RX8 9 "GradientDesk$Whole" "words" "[I") (List.mem_of_getElem? (i := 2) rfl)) (fun _ h9 => h9) rfl dX8_addSizes_94 ?_
  refine lv_iload hx hb dX8_addSizes_97 (lv_at hl 1 rfl) ?_
  refine lv_lload hx hb dX8_addSizes_99 (lv_at hl 0 rfl) ?_
  refine lv_l2i hx hb dX8_addSizes_101 rfl ?_
  refine lv_topi (fun x_14 e_15 => ?_)
  obtain rfl : x_14 = nI 0 := e_15.trans (lN_i 0)
  refine va_iast hx hb hK hP hD hS 1 0 rfl rfl (vp_in_nI (show 0 < n by omega) (by omega)) dX8_addSizes_102 (fun H locs hP hD hS => ?_)
  rw [nI_clamp (show 0 < 2 ^ 31 by decide)] at hP hD
  have hP : va_P (dC, dI) vwCl ([(h, .inr (11, [.ref ha, .int z, .int b])), (ha, .inl (ch, n, .inl (upd f 0 (nI 0))))]) H := hP
  have hD : va_D A ([(h, .inr (11, [.ref ha, .int z, .int b])), (ha, .inl (ch, n, .inl (upd f 0 (nI 0))))]) := hD
  refine lv_lload hx hb dX8_addSizes_103 (lv_at hl 0 rfl) ?_
  refine lv_bipush (v := nI 32) hx hb dX8_addSizes_105 (by decide +kernel) ?_
  refine lv_lushr hx hb dX8_addSizes_107 rfl ?_
  refine lv_topl (fun y_16 e_17 => ?_)
  obtain rfl : y_16 = lN 0 := e_17.trans ((wb_shr (n := 0) (k := 32) (by omega) (by decide)).trans rfl)
  refine lv_lstore (lv' := [(6, .long (lN 0)), (8, .int (nI 0)), (5, .int (nI 1)), (4, .int (nI 0)), (3, .int (nI 0)), (0, .ref h), (1, .ref x), (2, .ref y)]) hx hb dX8_addSizes_108 hl (by decide) rfl (fun ls hl => ?_)
  refine lv_iinc (v := nI 1) (lv' := [(8, .int (nI 1)), (6, .long (lN 0)), (5, .int (nI 1)), (4, .int (nI 0)), (3, .int (nI 0)), (0, .ref h), (1, .ref x), (2, .ref y)]) hx hb dX8_addSizes_110 hl (k := 1) rfl (nI_add 0 1) (by decide) rfl (fun ls hl => ?_)
  refine lv_goto (tgt := 35) hx hb dX8_addSizes_113 (by decide) ?_
  refine lv_iload hx hb dX8_addSizes_35 (lv_at hl 0 rfl) ?_
  refine lv_iload hx hb dX8_addSizes_37 (lv_at hl 2 rfl) ?_
  refine lv_icmp_ge (tgt := 116) hx hb dX8_addSizes_39 (by decide) (fun c_20 => ?_) (fun c_20 => absurd c_20 (by decide))
  refine lv_aload_n hx hb dX8_addSizes_116 rfl (lv_at hl 5 rfl) ?_
  refine lv_iload hx hb dX8_addSizes_117 (lv_at hl 2 rfl) ?_
  refine lv_if_le (tgt := 141) hx hb dX8_addSizes_119 (by decide) (fun c_21 => absurd c_21 (by decide)) (fun c_21 => ?_)
  refine lv_aload_n hx hb dX8_addSizes_122 rfl (lv_at hl 5 rfl) ?_
  refine va_get (D := (dC, dI)) (ci := 11) (v := .ref ha) (C := RX8) (T := TX8) (N := 3) hx hb hts bk0 hown hK hP 0 rfl rfl 0 (by decide) (hts (.fieldLink RX8 9 "GradientDesk$Whole" "words" "[I") (List.mem_of_getElem? (i := 2) rfl)) (fun _ h9 => h9) rfl dX8_addSizes_123 ?_
  refine lv_iload hx hb dX8_addSizes_126 (lv_at hl 2 rfl) ?_
  refine lv_iconst (v := nI 1) hx hb dX8_addSizes_128 (by decide +kernel) ?_
  refine lv_isub hx hb dX8_addSizes_129 ?_
  refine lv_topi (fun x_22 e_23 => ?_)
  obtain rfl : x_22 = nI 0 := e_23.trans (pk_sub (show 1 ≤ 1 by omega))
  refine va_iald hx hb hK hP 1 0 rfl rfl (vp_in_nI (show 0 < n by omega) (by omega)) dX8_addSizes_130 ?_
  refine lv_topi (fun x_24 e_25 => ?_)
  rw [nI_clamp (show 0 < 2 ^ 31 by decide)] at e_25
  obtain rfl : x_24 = nI 0 := e_25.trans pk_us
  refine lv_if_ne (tgt := 141) hx hb dX8_addSizes_131 (by decide) (fun c_26 => absurd c_26 (by decide)) (fun c_26 => ?_)
  refine lv_iload hx hb dX8_addSizes_134 (lv_at hl 2 rfl) ?_
  refine lv_iconst (v := nI 1) hx hb dX8_addSizes_136 (by decide +kernel) ?_
  refine lv_isub hx hb dX8_addSizes_137 ?_
  refine lv_topi (fun x_27 e_28 => ?_)
  obtain rfl : x_27 = nI 0 := e_28.trans (pk_sub (show 1 ≤ 1 by omega))
  refine lv_goto (tgt := 143) hx hb dX8_addSizes_138 (by decide) ?_
  refine va_put (D := (dC, dI)) (ci := 11) (v := .int (nI 0)) (ty := .int) (C := RX8) (T := TX8) (N := 3) hx hb hts bk0 tyX8 tyX8_ok nmX8 hown hK hP hD hS 0 rfl rfl 1 (by decide) (hts (.fieldLink RX8 15 "GradientDesk$Whole" "size" "I") (List.mem_of_getElem? (i := 1) rfl)) (fun _ h9 => h9) rfl (by decide +kernel) rfl rfl (Nat.le_of_ble_eq_true rfl) dX8_addSizes_143 (fun H locs hP hD hS => ?_)
  have hP : va_P (dC, dI) vwCl ([(h, .inr (11, [.ref ha, .int (nI 0), .int b])), (ha, .inl (ch, n, .inl (upd f 0 (nI 0))))]) H := hP
  have hD : va_D A ([(h, .inr (11, [.ref ha, .int (nI 0), .int b])), (ha, .inl (ch, n, .inl (upd f 0 (nI 0))))]) := hD
  have hP9 := hP.sub (ws' := [(h, .inr (11, [.ref ha, .int (nI 0), .int b])), (ha, .inl (ch, n, .inl (upd f 0 (nI 0))))]) [0, 1] rfl
  have hD9 := hD.sub (ws' := [(h, .inr (11, [.ref ha, .int (nI 0), .int b])), (ha, .inl (ch, n, .inl (upd f 0 (nI 0))))]) [0, 1] (by decide) rfl
  have hK9 := hK.sub (tys' := [(ch, .int)]) [0] rfl
  refine W.widen (k := 0) (n := 0) (by omega) (by omega) ?_
  exact W.vret hx hb hr (fun t ht hW => ⟨⟨(upd f 0 (nI 0)), rfl, trivial, by rw [ht]; exact hP9, va_K.moved hW.alike hK9, hD9⟩, hS.F ht⟩) hS.2.2 dX8_addSizes_146
def wd_X8_add0 : List Cond := .code yX8_add cX8_add 5 none :: (([.fieldLink RX8 19 "GradientDesk$Whole" "below" "Z", .methodLink RX8 64 yX8_addSizes, .instanceMethod yX8_addSizes, .selects RX8 yX8_addSizes yX8_addSizes, .initialized RX8] : List Cond) ++ (u_ws RX8 TX8 3 ++ (wd_X8_as0 ++ ([]))))
theorem gw_X8_add0 : wd_X8_add0.all goodWord = true := k_allc rfl (k_all (by decide +kernel) (k_all (gu_X8) (k_all (gw_X8_as0) (rfl))))
abbrev at_X8_add0 (dC : Nat → ClassId) (dI : Nat → Nat → Nat) (A : Nat → Prop) (h : Nat) (ha : Nat) (ch : ClassId) (n : Nat) (f : Nat → Int32) (z : Int32) (b : Int32) (x : Nat) (xa : Nat) (y : Nat) (ya : Nat) (u : Nat → Int32) (t : State) : Prop := match u with
  | f2 => va_P (dC, dI) vwCl [(h, .inr (11, [.ref ha, .int (nI 0), .int (nI 0)])), (ha, .inl (ch, n, .inl f2))] t.heap ∧ va_K (dC, dI) vwCl [(ch, .int)] t ∧ va_D A [(h, .inr (11, [.ref ha, .int (nI 0), .int (nI 0)])), (ha, .inl (ch, n, .inl f2))]
set_option maxHeartbeats 4000000 in
set_option maxRecDepth 100000 in
theorem c_X8_add0 (l : Launch) (dC : Nat → ClassId) (dI : Nat → Nat → Nat) (A : Nat → Prop) (sz : Nat) (hA0 : ∀ q, sz ≤ q → A q) (h : Nat) (ha : Nat) (ch : ClassId) (n : Nat) (f : Nat → Int32) (z : Int32) (b : Int32) (x : Nat) (xa : Nat) (y : Nat) (ya : Nat) (hn : n ≤ 4096) (hn2 : 2 ≤ n) : Met l yX8_add wd_X8_add0 ({ frames := 30, cells := 0, slots := 0, locals := 600 }) (va_Pc [.ref h, .ref x, .ref y] (fun U => U.heap.size = sz ∧ va_P (dC, dI) vwCl [(h, .inr (11, [.ref ha, .int z, .int b])), (ha, .inl (ch, n, .inl f))] U.heap ∧ va_K (dC, dI) vwCl [(ch, .int)] U ∧ va_D A [(h, .inr (11, [.ref ha, .int z, .int b])), (ha, .inl (ch, n, .inl f))] ∧ va_P (dC, dI) vwCl [(x, .inr (11, [.ref xa, .int (nI 0), .int (nI 0)])), (y, .inr (11, [.ref ya, .int (nI 0), .int (nI 0)]))] U.heap ∧ (∀ (k9 : Nat) (q9 : Nat × va_E), ([(x, .inr (11, [.ref xa, .int (nI 0), .int (nI 0)])), (y, .inr (11, [.ref ya, .int (nI 0), .int (nI 0)]))] : va_W)[k9]? = some q9 → ¬ A q9.1))) (va_Qv (fun (u : Nat → Int32) => match u with | f2 => True) (at_X8_add0 dC dI A h ha ch n f z b x xa y ya) A) (0) (0) A := by
  refine Met.ofW (cc := cX8_add) (maxL := 5) (ret := none) (by decide) rfl ?_
  intro p e s m args below meth c s₁ B hml hv
  obtain ⟨rfl, hsz, hP, hK, hD, hRO, hROn⟩ := hv
  have hx := B.exec
  have hb := B.bytes
  have hr := B.returns
  have hts := atoms_spec (ws := wd_X8_add0) B.pre
  have hown : s.vm.findClass RX8 = some m.cls := findClass_of_methodNamed B.named
  have hlocks := B.notSynchronized
  have bk0 : ∀ w ∈ u_ws RX8 TX8 3, w ∈ wd_X8_add0 := fun _ h => List.mem_cons_of_mem _ (List.mem_append_right _ (List.mem_append_left _ h))
  have bk1 : ∀ w ∈ wd_X8_as0, w ∈ wd_X8_add0 := fun _ h => List.mem_cons_of_mem _ (List.mem_append_right _ (List.mem_append_right _ (List.mem_append_left _ h)))
  subst hsz
  have hA : ∀ q : Nat, s.heap.size ≤ q → A q := hA0
  have hS : va_S A s.heap s.heap [] := va_S.rf
  have hl := lv_entry ([.ref h, .ref x, .ref y]) (n := 5) (Nat.le_of_ble_eq_true rfl)
  rw [lg_entry_eq]
  generalize (lg_sl ([.ref h, .ref x, .ref y]) ++ List.replicate (5 - (lg_sl ([.ref h, .ref x, .ref y])).length) Slot.unset).toArray = ls at hl ⊢
  have hl : lv_has ls 5 [(0, .ref h), (1, .ref x), (2, .ref y)] := hl
  refine lv_aload_n hx hb dX8_add_0 rfl (lv_at hl 1 rfl) ?_
  refine va_get (D := (dC, dI)) (ci := 11) (v := .int (nI 0)) (C := RX8) (T := TX8) (N := 3) hx hb hts bk0 hown hK hRO 0 rfl rfl 2 (by decide) (hts (.fieldLink RX8 19 "GradientDesk$Whole" "below" "Z") (List.mem_of_getElem? (i := 1) rfl)) (fun _ h9 => h9) rfl dX8_add_1 ?_
  refine lv_istore_n (lv' := [(3, .int (nI 0)), (0, .ref h), (1, .ref x), (2, .ref y)]) hx hb dX8_add_4 rfl hl (by decide) rfl (fun ls hl => ?_)
  refine lv_aload_n hx hb dX8_add_5 rfl (lv_at hl 3 rfl) ?_
  refine va_get (D := (dC, dI)) (ci := 11) (v := .int (nI 0)) (C := RX8) (T := TX8) (N := 3) hx hb hts bk0 hown hK hRO 1 rfl rfl 2 (by decide) (hts (.fieldLink RX8 19 "GradientDesk$Whole" "below" "Z") (List.mem_of_getElem? (i := 1) rfl)) (fun _ h9 => h9) rfl dX8_add_6 ?_
  refine lv_istore (lv' := [(4, .int (nI 0)), (3, .int (nI 0)), (0, .ref h), (1, .ref x), (2, .ref y)]) hx hb dX8_add_9 hl (by decide) rfl (fun ls hl => ?_)
  refine lv_iload_n hx hb dX8_add_11 rfl (lv_at hl 1 rfl) ?_
  refine lv_iload hx hb dX8_add_12 (lv_at hl 0 rfl) ?_
  refine lv_icmp_ne (tgt := 31) hx hb dX8_add_14 (by decide) (fun c_1 => absurd c_1 (by decide)) (fun c_1 => ?_)
  refine lv_aload_n hx hb dX8_add_17 rfl (lv_at hl 2 rfl) ?_
  refine lv_aload_n hx hb dX8_add_18 rfl (lv_at hl 3 rfl) ?_
  refine lv_aload_n hx hb dX8_add_19 rfl (lv_at hl 4 rfl) ?_
  have hPc := hP.sub (ws' := [(h, .inr (11, [.ref ha, .int z, .int b])), (ha, .inl (ch, n, .inl f))]) [0, 1] rfl
  have hDc := hD.sub (ws' := [(h, .inr (11, [.ref ha, .int z, .int b])), (ha, .inl (ch, n, .inl f))]) [0, 1] (by decide) rfl
  have hKc := hK.sub (tys' := [(ch, .int)]) [0] rfl
  have hFc := va_free (wc := [(h, .inr (11, [.ref ha, .int z, .int b])), (ha, .inl (ch, n, .inl f))]) hD hS hA [0, 1] rfl
  have hPr : va_P (dC, dI) vwCl [(x, .inr (11, [.ref xa, .int (nI 0), .int (nI 0)])), (y, .inr (11, [.ref ya, .int (nI 0), .int (nI 0)]))] s.heap := k_Pc (hRO 0 _ rfl) (k_Pc (hRO 1 _ rfl) (k_Pn))
  have hNr : ∀ (k9 : Nat) (q9 : Nat × va_E), ([(x, .inr (11, [.ref xa, .int (nI 0), .int (nI 0)])), (y, .inr (11, [.ref ya, .int (nI 0), .int (nI 0)]))] : va_W)[k9]? = some q9 → ¬ va_A [(h, .inr (11, [.ref ha, .int z, .int b])), (ha, .inl (ch, n, .inl f))] s.heap.size q9.1 := k_Nc (fun hh => hROn 0 _ rfl (hFc _ hh)) (k_Nc (fun hh => hROn 1 _ rfl (hFc _ hh)) (k_Nn))
  refine va_callv (va_runV (As := [.ref x, .ref y]) (rest := []) ⟨hx, hb, hml, hown, hts⟩ (c_X8_as0 l dC dI (va_A [(h, .inr (11, [.ref ha, .int z, .int b])), (ha, .inl (ch, n, .inl f))] s.heap.size) s.heap.size (fun _ h => Or.inr h) h ha ch n f z b x xa y ya hn hn2) (cwV 2 hts (goodIn_app (goodIn_r [Cond.methodLink RX8 64 yX8_addSizes, Cond.instanceMethod yX8_addSizes, Cond.selects RX8 yX8_addSizes yX8_addSizes, Cond.initialized RX8] [2, 3, 4, 5] rfl rfl) (goodIn_sub (fun w9 h9 => bk1 w9 h9) gw_X8_as0)) rfl rfl rfl (by decide +kernel) ⟨Nat.le_of_ble_eq_true rfl, Nat.le_of_ble_eq_true rfl⟩) ⟨fun a U g mk q => by obtain ⟨q0, q1, qP, qK, qD, qR, qN⟩ := q; exact ⟨q0, q1, qP, va_K.moved (u := U) (U := U.calling g mk a) (Vm.Alike.refl U.vm) qK, qD, qR, qN⟩, va_recv hKc hPc (ci := 11) (q0 := 0) rfl rfl, fun U hU hW => ⟨rfl, by rw [hU], by rw [hU]; exact hPc, va_K.moved hW.alike hKc, hDc.self, by rw [hU]; exact hPr, hNr⟩⟩ rfl rfl hl.1 rfl (lv_room (Nat.le_of_ble_eq_true rfl)) dX8_add_20 ⟨(Nat.le_of_ble_eq_true rfl), (Nat.le_of_ble_eq_true rfl)⟩) hS (fun q _ h => hFc q h) hFc (fun u t H1 locs ht hvm hw_2 hB hz1 hk1 hS => ?_)
  obtain ⟨f2_3, rfl⟩ : ∃ z, z = u := ⟨_, rfl⟩
  obtain ⟨hP1, hK1, hD1⟩ := hB
  rw [ht] at hP1
  have hK1 := va_K.moved hvm.symm hK1
  try dsimp only at hw_2
  obtain ⟨hP, hD⟩ := va_join (wr := []) (w1 := [(h, .inr (11, [.ref ha, .int (nI 0), .int b])), (ha, .inl (ch, n, .inl f2_3))]) hP hD [0, 1] [] rfl rfl (by decide) (by decide) hk1 hFc hP1 hD1
  have hK := (hK.sub (tys' := []) [] rfl).app hK1
  generalize H1 = H at hP hS ⊢
  have hP : va_P (dC, dI) vwCl ([(h, .inr (11, [.ref ha, .int (nI 0), .int b])), (ha, .inl (ch, n, .inl f2_3))]) H := hP
  have hD : va_D A ([(h, .inr (11, [.ref ha, .int (nI 0), .int b])), (ha, .inl (ch, n, .inl f2_3))]) := hD
  have hK : va_K (dC, dI) vwCl [(ch, .int)] s := hK
  refine lv_aload_n hx hb dX8_add_23 rfl (lv_at hl 2 rfl) ?_
  refine lv_iload_n hx hb dX8_add_24 rfl (lv_at hl 1 rfl) ?_
  refine va_put (D := (dC, dI)) (ci := 11) (v := .int (nI 0)) (ty := .boolean) (C := RX8) (T := TX8) (N := 3) hx hb hts bk0 tyX8 tyX8_ok nmX8 hown hK hP hD hS 0 rfl rfl 2 (by decide) (hts (.fieldLink RX8 19 "GradientDesk$Whole" "below" "Z") (List.mem_of_getElem? (i := 1) rfl)) (fun _ h9 => h9) rfl (by decide +kernel) (by decide +kernel) (by decide +kernel) (Nat.le_of_ble_eq_true rfl) dX8_add_25 (fun H locs hP hD hS => ?_)
  have hP : va_P (dC, dI) vwCl ([(h, .inr (11, [.ref ha, .int (nI 0), .int (nI 0)])), (ha, .inl (ch, n, .inl f2_3))]) H := hP
  have hD : va_D A ([(h, .inr (11, [.ref ha, .int (nI 0), .int (nI 0)])), (ha, .inl (ch, n, .inl f2_3))]) := hD
  refine lv_goto (tgt := 80) hx hb dX8_add_28 (by decide) ?_
  have hP9 := hP.sub (ws' := [(h, .inr (11, [.ref ha, .int (nI 0), .int (nI 0)])), (ha, .inl (ch, n, .inl (f2_3)))]) [0, 1] rfl
  have hD9 := hD.sub (ws' := [(h, .inr (11, [.ref ha, .int (nI 0), .int (nI 0)])), (ha, .inl (ch, n, .inl (f2_3)))]) [0, 1] (by decide) rfl
  have hK9 := hK.sub (tys' := [(ch, .int)]) [0] rfl
  refine W.widen (k := 0) (n := 0) (by omega) (by omega) ?_
  exact W.vret hx hb hr (fun t ht hW => ⟨⟨(f2_3), rfl, trivial, by rw [ht]; exact hP9, va_K.moved hW.alike hK9, hD9⟩, hS.F ht⟩) hS.2.2 dX8_add_80
def wd_X8_turn0 : List Cond := .code yX8_turn cX8_turn 1 none :: (([.fieldLink RX8 15 "GradientDesk$Whole" "size" "I", .fieldLink RX8 19 "GradientDesk$Whole" "below" "Z"] : List Cond) ++ (u_ws RX8 TX8 3 ++ ([])))
theorem gw_X8_turn0 : wd_X8_turn0.all goodWord = true := k_allc rfl (k_all (by decide +kernel) (k_all (gu_X8) (rfl)))
abbrev at_X8_turn0 (dC : Nat → ClassId) (dI : Nat → Nat → Nat) (A : Nat → Prop) (h : Nat) (ha : Nat) (u : Unit) (t : State) : Prop := match u with
  | () => va_P (dC, dI) vwCl [(h, .inr (11, [.ref ha, .int (nI 0), .int (nI 0)]))] t.heap ∧ va_K (dC, dI) vwCl [] t ∧ va_D A [(h, .inr (11, [.ref ha, .int (nI 0), .int (nI 0)]))]
set_option maxHeartbeats 4000000 in
set_option maxRecDepth 100000 in
theorem c_X8_turn0 (l : Launch) (dC : Nat → ClassId) (dI : Nat → Nat → Nat) (A : Nat → Prop) (sz : Nat) (hA0 : ∀ q, sz ≤ q → A q) (h : Nat) (ha : Nat)  : Met l yX8_turn wd_X8_turn0 ({ frames := 10, cells := 0, slots := 0, locals := 200 }) (va_Pc [.ref h] (fun U => U.heap.size = sz ∧ va_P (dC, dI) vwCl [(h, .inr (11, [.ref ha, .int (nI 0), .int (nI 0)]))] U.heap ∧ va_K (dC, dI) vwCl [] U ∧ va_D A [(h, .inr (11, [.ref ha, .int (nI 0), .int (nI 0)]))])) (va_Qv (fun (u : Unit) => match u with | () => True) (at_X8_turn0 dC dI A h ha) A) (0) (0) A := by
  refine Met.ofW (cc := cX8_turn) (maxL := 1) (ret := none) (by decide) rfl ?_
  intro p e s m args below meth c s₁ B hml hv
  obtain ⟨rfl, hsz, hP, hK, hD⟩ := hv
  have hx := B.exec
  have hb := B.bytes
  have hr := B.returns
  have hts := atoms_spec (ws := wd_X8_turn0) B.pre
  have hown : s.vm.findClass RX8 = some m.cls := findClass_of_methodNamed B.named
  have hlocks := B.notSynchronized
  have bk0 : ∀ w ∈ u_ws RX8 TX8 3, w ∈ wd_X8_turn0 := fun _ h => List.mem_cons_of_mem _ (List.mem_append_right _ (List.mem_append_left _ h))
  subst hsz
  have hA : ∀ q : Nat, s.heap.size ≤ q → A q := hA0
  have hS : va_S A s.heap s.heap [] := va_S.rf
  have hl := lv_entry ([.ref h]) (n := 1) (Nat.le_of_ble_eq_true rfl)
  rw [lg_entry_eq]
  generalize (lg_sl ([.ref h]) ++ List.replicate (1 - (lg_sl ([.ref h])).length) Slot.unset).toArray = ls at hl ⊢
  have hl : lv_has ls 1 [(0, .ref h)] := hl
  refine lv_aload_n hx hb dX8_turn_0 rfl (lv_at hl 0 rfl) ?_
  refine lv_aload_n hx hb dX8_turn_1 rfl (lv_at hl 0 rfl) ?_
  refine va_get (D := (dC, dI)) (ci := 11) (v := .int (nI 0)) (C := RX8) (T := TX8) (N := 3) hx hb hts bk0 hown hK hP 0 rfl rfl 1 (by decide) (hts (.fieldLink RX8 15 "GradientDesk$Whole" "size" "I") (List.mem_of_getElem? (i := 1) rfl)) (fun _ h9 => h9) rfl dX8_turn_2 ?_
  refine lv_if_le (tgt := 19) hx hb dX8_turn_5 (by decide) (fun c_1 => ?_) (fun c_1 => absurd c_1 (by decide))
  refine lv_iconst (v := nI 0) hx hb dX8_turn_19 (by decide +kernel) ?_
  refine va_put (D := (dC, dI)) (ci := 11) (v := .int (nI 0)) (ty := .boolean) (C := RX8) (T := TX8) (N := 3) hx hb hts bk0 tyX8 tyX8_ok nmX8 hown hK hP hD hS 0 rfl rfl 2 (by decide) (hts (.fieldLink RX8 19 "GradientDesk$Whole" "below" "Z") (List.mem_of_getElem? (i := 2) rfl)) (fun _ h9 => h9) rfl (by decide +kernel) (by decide +kernel) (by decide +kernel) (Nat.le_of_ble_eq_true rfl) dX8_turn_20 (fun H locs hP hD hS => ?_)
  have hP : va_P (dC, dI) vwCl ([(h, .inr (11, [.ref ha, .int (nI 0), .int (nI 0)]))]) H := hP
  have hD : va_D A ([(h, .inr (11, [.ref ha, .int (nI 0), .int (nI 0)]))]) := hD
  have hP9 := hP.sub (ws' := [(h, .inr (11, [.ref ha, .int (nI 0), .int (nI 0)]))]) [0] rfl
  have hD9 := hD.sub (ws' := [(h, .inr (11, [.ref ha, .int (nI 0), .int (nI 0)]))]) [0] (by decide) rfl
  have hK9 := hK.sub (tys' := []) [] rfl
  refine W.widen (k := 0) (n := 0) (by omega) (by omega) ?_
  exact W.vret hx hb hr (fun t ht hW => ⟨⟨(), rfl, trivial, by rw [ht]; exact hP9, va_K.moved hW.alike hK9, hD9⟩, hS.F ht⟩) hS.2.2 dX8_turn_23
def wd_X0_order0 : List Cond := .code yX0_order cX0_order 3 (some .int) :: (([.fieldLink RX0 14 "GradientDesk$Arithmetic" "left" "LGradientDesk$Whole;", .fieldLink RX0 29 "GradientDesk$Fraction" "top" "LGradientDesk$Whole;", .fieldLink RX0 34 "GradientDesk$Fraction" "bottom" "LGradientDesk$Whole;", .methodLink RX0 37 yX8_multiply, .instanceMethod yX8_multiply, .selects RX8 yX8_multiply yX8_multiply, .initialized RX8, .fieldLink RX0 20 "GradientDesk$Arithmetic" "right" "LGradientDesk$Whole;", .methodLink RX0 47 yX8_order, .instanceMethod yX8_order, .selects RX8 yX8_order yX8_order] : List Cond) ++ (u_ws RX0 TX0 4 ++ (u_ws RX2 TX2 2 ++ (wd_X8_mult0 ++ (wd_X8_order0 ++ ([]))))))
theorem gw_X0_order0 : wd_X0_order0.all goodWord = true := k_allc rfl (k_all (by decide +kernel) (k_all (gu_X0) (k_all (gu_X2) (k_all (gw_X8_mult0) (k_all (gw_X8_order0) (rfl))))))
abbrev at_X0_order0 (dC : Nat → ClassId) (dI : Nat → Nat → Nat) (A : Nat → Prop) (ar : Nat) (al : Nat) (ala : Nat) (cl : ClassId) (fl : Nat → Int32) (arr : Nat) (ara : Nat) (cr : ClassId) (fr2 : Nat → Int32) (o1 : Nat) (o2 : Nat) (x : Nat) (xt : Nat) (xta : Nat) (cxt : ClassId) (xb : Nat) (xba : Nat) (cxb : ClassId) (y : Nat) (yt : Nat) (yta : Nat) (cyt : ClassId) (yb : Nat) (yba : Nat) (cyb : ClassId) (u : Unit) (t : State) : Prop := match u with
  | () => va_P (dC, dI) vwCl [] t.heap ∧ va_K (dC, dI) vwCl [] t ∧ va_D A []
set_option maxHeartbeats 4000000 in
set_option maxRecDepth 100000 in
theorem c_X0_order0 (l : Launch) (dC : Nat → ClassId) (dI : Nat → Nat → Nat) (A : Nat → Prop) (sz : Nat) (hA0 : ∀ q, sz ≤ q → A q) (ar : Nat) (al : Nat) (ala : Nat) (cl : ClassId) (fl : Nat → Int32) (arr : Nat) (ara : Nat) (cr : ClassId) (fr2 : Nat → Int32) (o1 : Nat) (o2 : Nat) (x : Nat) (xt : Nat) (xta : Nat) (cxt : ClassId) (xb : Nat) (xba : Nat) (cxb : ClassId) (y : Nat) (yt : Nat) (yta : Nat) (cyt : ClassId) (yb : Nat) (yba : Nat) (cyb : ClassId)  : Met l yX0_order wd_X0_order0 ({ frames := 40, cells := 0, slots := 0, locals := 800 }) (va_Pc [.ref ar, .ref x, .ref y] (fun U => U.heap.size = sz ∧ va_P (dC, dI) vwCl [(ar, .inr (3, [.ref al, .ref arr, .ref o1, .ref o2])), (al, .inr (11, [.ref ala, .int (nI 0), .int (nI 0)])), (ala, .inl (cl, 128, .inl fl)), (arr, .inr (11, [.ref ara, .int (nI 0), .int (nI 0)])), (ara, .inl (cr, 128, .inl fr2))] U.heap ∧ va_K (dC, dI) vwCl [(cl, .int), (cr, .int), (cxt, .int), (cxb, .int), (cyt, .int), (cyb, .int)] U ∧ va_D A [(ar, .inr (3, [.ref al, .ref arr, .ref o1, .ref o2])), (al, .inr (11, [.ref ala, .int (nI 0), .int (nI 0)])), (ala, .inl (cl, 128, .inl fl)), (arr, .inr (11, [.ref ara, .int (nI 0), .int (nI 0)])), (ara, .inl (cr, 128, .inl fr2))] ∧ va_P (dC, dI) vwCl [(x, .inr (5, [.ref xt, .ref xb])), (xt, .inr (11, [.ref xta, .int (nI 0), .int (nI 0)])), (xta, .inl (cxt, 64, .inl (fun _ => 0))), (xb, .inr (11, [.ref xba, .int (nI 1), .int (nI 0)])), (xba, .inl (cxb, 64, .inl (upd (fun _ => 0) 0 (nI 1)))), (y, .inr (5, [.ref yt, .ref yb])), (yt, .inr (11, [.ref yta, .int (nI 0), .int (nI 0)])), (yta, .inl (cyt, 64, .inl (fun _ => 0))), (yb, .inr (11, [.ref yba, .int (nI 1), .int (nI 0)])), (yba, .inl (cyb, 64, .inl (upd (fun _ => 0) 0 (nI 1))))] U.heap ∧ (∀ (k9 : Nat) (q9 : Nat × va_E), ([(x, .inr (5, [.ref xt, .ref xb])), (xt, .inr (11, [.ref xta, .int (nI 0), .int (nI 0)])), (xta, .inl (cxt, 64, .inl (fun _ => 0))), (xb, .inr (11, [.ref xba, .int (nI 1), .int (nI 0)])), (xba, .inl (cxb, 64, .inl (upd (fun _ => 0) 0 (nI 1)))), (y, .inr (5, [.ref yt, .ref yb])), (yt, .inr (11, [.ref yta, .int (nI 0), .int (nI 0)])), (yta, .inl (cyt, 64, .inl (fun _ => 0))), (yb, .inr (11, [.ref yba, .int (nI 1), .int (nI 0)])), (yba, .inl (cyb, 64, .inl (upd (fun _ => 0) 0 (nI 1))))] : va_W)[k9]? = some q9 → ¬ A q9.1))) (va_Qi (fun (r : Int32) => fun (u : Unit) => match u with | () => r = nI 0) (at_X0_order0 dC dI A ar al ala cl fl arr ara cr fr2 o1 o2 x xt xta cxt xb xba cxb y yt yta cyt yb yba cyb) A) (0) (0) A := by
  refine Met.ofW (cc := cX0_order) (maxL := 3) (ret := (some .int)) (by decide) rfl ?_
  intro p e s m args below meth c s₁ B hml hv
  obtain ⟨rfl, hsz, hP, hK, hD, hRO, hROn⟩ := hv
  have hx := B.exec
  have hb := B.bytes
  have hr := B.returns
  have hts := atoms_spec (ws := wd_X0_order0) B.pre
  have hown : s.vm.findClass RX0 = some m.cls := findClass_of_methodNamed B.named
  have hlocks := B.notSynchronized
  have bk0 : ∀ w ∈ u_ws RX0 TX0 4, w ∈ wd_X0_order0 := fun _ h => List.mem_cons_of_mem _ (List.mem_append_right _ (List.mem_append_left _ h))
  have bk1 : ∀ w ∈ u_ws RX2 TX2 2, w ∈ wd_X0_order0 := fun _ h => List.mem_cons_of_mem _ (List.mem_append_right _ (List.mem_append_right _ (List.mem_append_left _ h)))
  have bk2 : ∀ w ∈ wd_X8_mult0, w ∈ wd_X0_order0 := fun _ h => List.mem_cons_of_mem _ (List.mem_append_right _ (List.mem_append_right _ (List.mem_append_right _ (List.mem_append_left _ h))))
  have bk3 : ∀ w ∈ wd_X8_order0, w ∈ wd_X0_order0 := fun _ h => List.mem_cons_of_mem _ (List.mem_append_right _ (List.mem_append_right _ (List.mem_append_right _ (List.mem_append_right _ (List.mem_append_left _ h)))))
  subst hsz
  have hA : ∀ q : Nat, s.heap.size ≤ q → A q := hA0
  have hS : va_S A s.heap s.heap [] := va_S.rf
  have hl := lv_entry ([.ref ar, .ref x, .ref y]) (n := 3) (Nat.le_of_ble_eq_true rfl)
  rw [lg_entry_eq]
  generalize (lg_sl ([.ref ar, .ref x, .ref y]) ++ List.replicate (3 - (lg_sl ([.ref ar, .ref x, .ref y])).length) Slot.unset).toArray = ls at hl ⊢
  have hl : lv_has ls 3 [(0, .ref ar), (1, .ref x), (2, .ref y)] := hl
  refine lv_aload_n hx hb dX0_order_0 rfl (lv_at hl 0 rfl) ?_
  refine va_get (D := (dC, dI)) (ci := 3) (v := .ref al) (C := RX0) (T := TX0) (N := 4) hx hb hts bk0 hown hK hP 0 rfl rfl 0 (by decide) (hts (.fieldLink RX0 14 "GradientDesk$Arithmetic" "left" "LGradientDesk$Whole;") (List.mem_of_getElem? (i := 1) rfl)) (fun _ h9 => h9) rfl dX0_order_1 ?_
  refine lv_aload_n hx hb dX0_order_4 rfl (lv_at hl 1 rfl) ?_
  refine va_get (D := (dC, dI)) (ci := 5) (v := .ref xt) (C := RX2) (T := TX2) (N := 2) hx hb hts bk1 hown hK hRO 0 rfl rfl 0 (by decide) (hts (.fieldLink RX0 29 "GradientDesk$Fraction" "top" "LGradientDesk$Whole;") (List.mem_of_getElem? (i := 2) rfl)) (fun _ h9 => h9) rfl dX0_order_5 ?_
  refine lv_aload_n hx hb dX0_order_8 rfl (lv_at hl 2 rfl) ?_
  refine va_get (D := (dC, dI)) (ci := 5) (v := .ref yb) (C := RX2) (T := TX2) (N := 2) hx hb hts bk1 hown hK hRO 5 rfl rfl 1 (by decide) (hts (.fieldLink RX0 34 "GradientDesk$Fraction" "bottom" "LGradientDesk$Whole;") (List.mem_of_getElem? (i := 3) rfl)) (fun _ h9 => h9) rfl dX0_order_9 ?_
  have hPc := hP.sub (ws' := [(al, .inr (11, [.ref ala, .int (nI 0), .int (nI 0)])), (ala, .inl (cl, 128, .inl fl))]) [1, 2] rfl
  have hDc := hD.sub (ws' := [(al, .inr (11, [.ref ala, .int (nI 0), .int (nI 0)])), (ala, .inl (cl, 128, .inl fl))]) [1, 2] (by decide) rfl
  have hKc := hK.sub (tys' := [(cl, .int)]) [0] rfl
  have hFc := va_free (wc := [(al, .inr (11, [.ref ala, .int (nI 0), .int (nI 0)])), (ala, .inl (cl, 128, .inl fl))]) hD hS hA [1, 2] rfl
  have hPr : va_P (dC, dI) vwCl [(xt, .inr (11, [.ref xta, .int (nI 0), .int (nI 0)]))] s.heap := k_Pc (hRO 1 _ rfl) (k_Pn)
  have hNr : ∀ (k9 : Nat) (q9 : Nat × va_E), ([(xt, .inr (11, [.ref xta, .int (nI 0), .int (nI 0)]))] : va_W)[k9]? = some q9 → ¬ va_A [(al, .inr (11, [.ref ala, .int (nI 0), .int (nI 0)])), (ala, .inl (cl, 128, .inl fl))] s.heap.size q9.1 := k_Nc (fun hh => hROn 1 _ rfl (hFc _ hh)) (k_Nn)
  refine va_callv (va_runV (As := [.ref xt, .ref yb]) (rest := []) ⟨hx, hb, hml, hown, hts⟩ (c_X8_mult0 l dC dI (va_A [(al, .inr (11, [.ref ala, .int (nI 0), .int (nI 0)])), (ala, .inl (cl, 128, .inl fl))] s.heap.size) s.heap.size (fun _ h => Or.inr h) al ala cl 128 fl (nI 0) (nI 0) xt xta yb (by decide) (by decide)) (cwV 2 hts (goodIn_app (goodIn_r [Cond.methodLink RX0 37 yX8_multiply, Cond.instanceMethod yX8_multiply, Cond.selects RX8 yX8_multiply yX8_multiply, Cond.initialized RX8] [4, 5, 6, 7] rfl rfl) (goodIn_sub (fun w9 h9 => bk2 w9 h9) gw_X8_mult0)) rfl rfl rfl (by decide +kernel) ⟨Nat.le_of_ble_eq_true rfl, Nat.le_of_ble_eq_true rfl⟩) ⟨fun a U g mk q => by obtain ⟨q0, q1, qP, qK, qD, qR, qN⟩ := q; exact ⟨q0, q1, qP, va_K.moved (u := U) (U := U.calling g mk a) (Vm.Alike.refl U.vm) qK, qD, qR, qN⟩, va_recv hKc hPc (ci := 11) (q0 := 0) rfl rfl, fun U hU hW => ⟨rfl, by rw [hU], by rw [hU]; exact hPc, va_K.moved hW.alike hKc, hDc.self, by rw [hU]; exact hPr, hNr⟩⟩ rfl rfl hl.1 rfl (lv_room (Nat.le_of_ble_eq_true rfl)) dX0_order_12 ⟨(Nat.le_of_ble_eq_true rfl), (Nat.le_of_ble_eq_true rfl)⟩) hS (fun q _ h => hFc q h) hFc (fun u t H1 locs ht hvm hw_1 hB hz1 hk1 hS => ?_)
  obtain ⟨f2_2, rfl⟩ : ∃ z, z = u := ⟨_, rfl⟩
  obtain ⟨hP1, hK1, hD1⟩ := hB
  rw [ht] at hP1
  have hK1 := va_K.moved hvm.symm hK1
  try dsimp only at hw_1
  obtain ⟨hP, hD⟩ := va_join (wr := [(ar, .inr (3, [.ref al, .ref arr, .ref o1, .ref o2])), (arr, .inr (11, [.ref ara, .int (nI 0), .int (nI 0)])), (ara, .inl (cr, 128, .inl fr2))]) (w1 := [(al, .inr (11, [.ref ala, .int (nI 0), .int (nI 0)])), (ala, .inl (cl, 128, .inl f2_2))]) hP hD [1, 2] [0, 3, 4] rfl rfl (by decide) (by decide) hk1 hFc hP1 hD1
  have hK := (hK.sub (tys' := [(cr, .int), (cxt, .int), (cxb, .int), (cyt, .int), (cyb, .int)]) [1, 2, 3, 4, 5] rfl).app hK1
  generalize H1 = H at hP hS ⊢
  have hP : va_P (dC, dI) vwCl ([(ar, .inr (3, [.ref al, .ref arr, .ref o1, .ref o2])), (arr, .inr (11, [.ref ara, .int (nI 0), .int (nI 0)])), (ara, .inl (cr, 128, .inl fr2)), (al, .inr (11, [.ref ala, .int (nI 0), .int (nI 0)])), (ala, .inl (cl, 128, .inl f2_2))]) H := hP
  have hD : va_D A ([(ar, .inr (3, [.ref al, .ref arr, .ref o1, .ref o2])), (arr, .inr (11, [.ref ara, .int (nI 0), .int (nI 0)])), (ara, .inl (cr, 128, .inl fr2)), (al, .inr (11, [.ref ala, .int (nI 0), .int (nI 0)])), (ala, .inl (cl, 128, .inl f2_2))]) := hD
  have hK : va_K (dC, dI) vwCl [(cr, .int), (cxt, .int), (cxb, .int), (cyt, .int), (cyb, .int), (cl, .int)] s := hK
  refine lv_aload_n hx hb dX0_order_15 rfl (lv_at hl 0 rfl) ?_
  refine va_get (D := (dC, dI)) (ci := 3) (v := .ref arr) (C := RX0) (T := TX0) (N := 4) hx hb hts bk0 hown hK hP 0 rfl rfl 1 (by decide) (hts (.fieldLink RX0 20 "GradientDesk$Arithmetic" "right" "LGradientDesk$Whole;") (List.mem_of_getElem? (i := 8) rfl)) (fun _ h9 => h9) rfl dX0_order_16 ?_
  refine lv_aload_n hx hb dX0_order_19 rfl (lv_at hl 2 rfl) ?_
  have hRO9 : va_P (dC, dI) vwCl [(x, .inr (5, [.ref xt, .ref xb])), (xt, .inr (11, [.ref xta, .int (nI 0), .int (nI 0)])), (xta, .inl (cxt, 64, .inl (fun _ => 0))), (xb, .inr (11, [.ref xba, .int (nI 1), .int (nI 0)])), (xba, .inl (cxb, 64, .inl (upd (fun _ => 0) 0 (nI 1)))), (y, .inr (5, [.ref yt, .ref yb])), (yt, .inr (11, [.ref yta, .int (nI 0), .int (nI 0)])), (yta, .inl (cyt, 64, .inl (fun _ => 0))), (yb, .inr (11, [.ref yba, .int (nI 1), .int (nI 0)])), (yba, .inl (cyb, 64, .inl (upd (fun _ => 0) 0 (nI 1))))] H := hRO.kept (fun k9 q9 h9 => hS.2.1 q9.1 (hRO k9 q9 h9).lt (hROn k9 q9 h9))
  refine va_get (D := (dC, dI)) (ci := 5) (v := .ref yt) (C := RX2) (T := TX2) (N := 2) hx hb hts bk1 hown hK hRO9 5 rfl rfl 0 (by decide) (hts (.fieldLink RX0 29 "GradientDesk$Fraction" "top" "LGradientDesk$Whole;") (List.mem_of_getElem? (i := 2) rfl)) (fun _ h9 => h9) rfl dX0_order_20 ?_
  refine lv_aload_n hx hb dX0_order_23 rfl (lv_at hl 1 rfl) ?_
  have hRO9 : va_P (dC, dI) vwCl [(x, .inr (5, [.ref xt, .ref xb])), (xt, .inr (11, [.ref xta, .int (nI 0), .int (nI 0)])), (xta, .inl (cxt, 64, .inl (fun _ => 0))), (xb, .inr (11, [.ref xba, .int (nI 1), .int (nI 0)])), (xba, .inl (cxb, 64, .inl (upd (fun _ => 0) 0 (nI 1)))), (y, .inr (5, [.ref yt, .ref yb])), (yt, .inr (11, [.ref yta, .int (nI 0), .int (nI 0)])), (yta, .inl (cyt, 64, .inl (fun _ => 0))), (yb, .inr (11, [.ref yba, .int (nI 1), .int (nI 0)])), (yba, .inl (cyb, 64, .inl (upd (fun _ => 0) 0 (nI 1))))] H := hRO.kept (fun k9 q9 h9 => hS.2.1 q9.1 (hRO k9 q9 h9).lt (hROn k9 q9 h9))
  refine va_get (D := (dC, dI)) (ci := 5) (v := .ref xb) (C := RX2) (T := TX2) (N := 2) hx hb hts bk1 hown hK hRO9 0 rfl rfl 1 (by decide) (hts (.fieldLink RX0 34 "GradientDesk$Fraction" "bottom" "LGradientDesk$Whole;") (List.mem_of_getElem? (i := 3) rfl)) (fun _ h9 => h9) rfl dX0_order_24 ?_
  have hPc := hP.sub (ws' := [(arr, .inr (11, [.ref ara, .int (nI 0), .int (nI 0)])), (ara, .inl (cr, 128, .inl fr2))]) [1, 2] rfl
  have hDc := hD.sub (ws' := [(arr, .inr (11, [.ref ara, .int (nI 0), .int (nI 0)])), (ara, .inl (cr, 128, .inl fr2))]) [1, 2] (by decide) rfl
  have hKc := hK.sub (tys' := [(cr, .int)]) [0] rfl
  have hFc := va_free (wc := [(arr, .inr (11, [.ref ara, .int (nI 0), .int (nI 0)])), (ara, .inl (cr, 128, .inl fr2))]) hD hS hA [1, 2] rfl
  have hRO9 : va_P (dC, dI) vwCl [(x, .inr (5, [.ref xt, .ref xb])), (xt, .inr (11, [.ref xta, .int (nI 0), .int (nI 0)])), (xta, .inl (cxt, 64, .inl (fun _ => 0))), (xb, .inr (11, [.ref xba, .int (nI 1), .int (nI 0)])), (xba, .inl (cxb, 64, .inl (upd (fun _ => 0) 0 (nI 1)))), (y, .inr (5, [.ref yt, .ref yb])), (yt, .inr (11, [.ref yta, .int (nI 0), .int (nI 0)])), (yta, .inl (cyt, 64, .inl (fun _ => 0))), (yb, .inr (11, [.ref yba, .int (nI 1), .int (nI 0)])), (yba, .inl (cyb, 64, .inl (upd (fun _ => 0) 0 (nI 1))))] H := hRO.kept (fun k9 q9 h9 => hS.2.1 q9.1 (hRO k9 q9 h9).lt (hROn k9 q9 h9))
  have hPr : va_P (dC, dI) vwCl [(yt, .inr (11, [.ref yta, .int (nI 0), .int (nI 0)]))] H := k_Pc (hRO9 6 _ rfl) (k_Pn)
  have hNr : ∀ (k9 : Nat) (q9 : Nat × va_E), ([(yt, .inr (11, [.ref yta, .int (nI 0), .int (nI 0)]))] : va_W)[k9]? = some q9 → ¬ va_A [(arr, .inr (11, [.ref ara, .int (nI 0), .int (nI 0)])), (ara, .inl (cr, 128, .inl fr2))] H.size q9.1 := k_Nc (fun hh => hROn 6 _ rfl (hFc _ hh)) (k_Nn)
  refine va_callv (va_runV (As := [.ref yt, .ref xb]) (rest := []) ⟨hx, hb, hml, hown, hts⟩ (c_X8_mult0 l dC dI (va_A [(arr, .inr (11, [.ref ara, .int (nI 0), .int (nI 0)])), (ara, .inl (cr, 128, .inl fr2))] H.size) H.size (fun _ h => Or.inr h) arr ara cr 128 fr2 (nI 0) (nI 0) yt yta xb (by decide) (by decide)) (cwV 2 hts (goodIn_app (goodIn_r [Cond.methodLink RX0 37 yX8_multiply, Cond.instanceMethod yX8_multiply, Cond.selects RX8 yX8_multiply yX8_multiply, Cond.initialized RX8] [4, 5, 6, 7] rfl rfl) (goodIn_sub (fun w9 h9 => bk2 w9 h9) gw_X8_mult0)) rfl rfl rfl (by decide +kernel) ⟨Nat.le_of_ble_eq_true rfl, Nat.le_of_ble_eq_true rfl⟩) ⟨fun a U g mk q => by obtain ⟨q0, q1, qP, qK, qD, qR, qN⟩ := q; exact ⟨q0, q1, qP, va_K.moved (u := U) (U := U.calling g mk a) (Vm.Alike.refl U.vm) qK, qD, qR, qN⟩, va_recv hKc hPc (ci := 11) (q0 := 0) rfl rfl, fun U hU hW => ⟨rfl, by rw [hU], by rw [hU]; exact hPc, va_K.moved hW.alike hKc, hDc.self, by rw [hU]; exact hPr, hNr⟩⟩ rfl rfl hl.1 rfl (lv_room (Nat.le_of_ble_eq_true rfl)) dX0_order_27 ⟨(Nat.le_of_ble_eq_true rfl), (Nat.le_of_ble_eq_true rfl)⟩) hS (fun q _ h => hFc q h) hFc (fun u t H1 locs ht hvm hw_3 hB hz1 hk1 hS => ?_)
  obtain ⟨f2_4, rfl⟩ : ∃ z, z = u := ⟨_, rfl⟩
  obtain ⟨hP1, hK1, hD1⟩ := hB
  rw [ht] at hP1
  have hK1 := va_K.moved hvm.symm hK1
  try dsimp only at hw_3
  obtain ⟨hP, hD⟩ := va_join (wr := [(ar, .inr (3, [.ref al, .ref arr, .ref o1, .ref o2])), (al, .inr (11, [.ref ala, .int (nI 0), .int (nI 0)])), (ala, .inl (cl, 128, .inl f2_2))]) (w1 := [(arr, .inr (11, [.ref ara, .int (nI 0), .int (nI 0)])), (ara, .inl (cr, 128, .inl f2_4))]) hP hD [1, 2] [0, 3, 4] rfl rfl (by decide) (by decide) hk1 hFc hP1 hD1
  have hK := (hK.sub (tys' := [(cxt, .int), (cxb, .int), (cyt, .int), (cyb, .int), (cl, .int)]) [1, 2, 3, 4, 5] rfl).app hK1
  generalize H1 = H at hP hS ⊢
  have hP : va_P (dC, dI) vwCl ([(ar, .inr (3, [.ref al, .ref arr, .ref o1, .ref o2])), (al, .inr (11, [.ref ala, .int (nI 0), .int (nI 0)])), (ala, .inl (cl, 128, .inl f2_2)), (arr, .inr (11, [.ref ara, .int (nI 0), .int (nI 0)])), (ara, .inl (cr, 128, .inl f2_4))]) H := hP
  have hD : va_D A ([(ar, .inr (3, [.ref al, .ref arr, .ref o1, .ref o2])), (al, .inr (11, [.ref ala, .int (nI 0), .int (nI 0)])), (ala, .inl (cl, 128, .inl f2_2)), (arr, .inr (11, [.ref ara, .int (nI 0), .int (nI 0)])), (ara, .inl (cr, 128, .inl f2_4))]) := hD
  have hK : va_K (dC, dI) vwCl [(cxt, .int), (cxb, .int), (cyt, .int), (cyb, .int), (cl, .int), (cr, .int)] s := hK
  refine lv_aload_n hx hb dX0_order_30 rfl (lv_at hl 0 rfl) ?_
  refine va_get (D := (dC, dI)) (ci := 3) (v := .ref al) (C := RX0) (T := TX0) (N := 4) hx hb hts bk0 hown hK hP 0 rfl rfl 0 (by decide) (hts (.fieldLink RX0 14 "GradientDesk$Arithmetic" "left" "LGradientDesk$Whole;") (List.mem_of_getElem? (i := 1) rfl)) (fun _ h9 => h9) rfl dX0_order_31 ?_
  refine lv_aload_n hx hb dX0_order_34 rfl (lv_at hl 0 rfl) ?_
  refine va_get (D := (dC, dI)) (ci := 3) (v := .ref arr) (C := RX0) (T := TX0) (N := 4) hx hb hts bk0 hown hK hP 0 rfl rfl 1 (by decide) (hts (.fieldLink RX0 20 "GradientDesk$Arithmetic" "right" "LGradientDesk$Whole;") (List.mem_of_getElem? (i := 8) rfl)) (fun _ h9 => h9) rfl dX0_order_35 ?_
  have hPc := hP.sub (ws' := []) [] rfl
  have hDc := hD.sub (ws' := []) [] (by decide) rfl
  have hKc := hK.sub (tys' := []) [] rfl
  have hFc := va_free (wc := []) hD hS hA [] rfl
  have hPr : va_P (dC, dI) vwCl [(al, .inr (11, [.ref ala, .int (nI 0), .int (nI 0)])), (arr, .inr (11, [.ref ara, .int (nI 0), .int (nI 0)]))] H := k_Pc (hP 1 _ rfl) (k_Pc (hP 3 _ rfl) (k_Pn))
  have hNr : ∀ (k9 : Nat) (q9 : Nat × va_E), ([(al, .inr (11, [.ref ala, .int (nI 0), .int (nI 0)])), (arr, .inr (11, [.ref ara, .int (nI 0), .int (nI 0)]))] : va_W)[k9]? = some q9 → ¬ va_A [] H.size q9.1 := k_Nc (k_own hD [] rfl 1 rfl (by decide) (hP 1 _ rfl).lt) (k_Nc (k_own hD [] rfl 3 rfl (by decide) (hP 3 _ rfl).lt) (k_Nn))
  refine va_calli (va_runV (As := [.ref arr]) (rest := []) ⟨hx, hb, hml, hown, hts⟩ (c_X8_order0 l dC dI (va_A [] H.size) H.size (fun _ h => Or.inr h) al ala arr ara ) (cwV 1 hts (goodIn_app (goodIn_r [Cond.methodLink RX0 47 yX8_order, Cond.instanceMethod yX8_order, Cond.selects RX8 yX8_order yX8_order, Cond.initialized RX8] [9, 10, 11, 7] rfl rfl) (goodIn_sub (fun w9 h9 => bk3 w9 h9) gw_X8_order0)) rfl rfl rfl (by decide +kernel) ⟨Nat.le_of_ble_eq_true rfl, Nat.le_of_ble_eq_true rfl⟩) ⟨fun a U g mk q => by obtain ⟨q0, q1, qP, qK, qD, qR, qN⟩ := q; exact ⟨q0, q1, qP, va_K.moved (u := U) (U := U.calling g mk a) (Vm.Alike.refl U.vm) qK, qD, qR, qN⟩, va_recv hKc hPr (ci := 11) (q0 := 0) rfl rfl, fun U hU hW => ⟨rfl, by rw [hU], by rw [hU]; exact hPc, va_K.moved hW.alike hKc, hDc.self, by rw [hU]; exact hPr, hNr⟩⟩ rfl rfl hl.1 rfl (lv_room (Nat.le_of_ble_eq_true rfl)) dX0_order_38 ⟨(Nat.le_of_ble_eq_true rfl), (Nat.le_of_ble_eq_true rfl)⟩) hS (fun q _ h => hFc q h) hFc (fun r_5 u t H1 locs ht hvm hw_6 hB hz1 hk1 hS => ?_)
  obtain ⟨⟩ := u
  obtain ⟨hP1, hK1, hD1⟩ := hB
  rw [ht] at hP1
  have hK1 := va_K.moved hvm.symm hK1
  try dsimp only at hw_6
  obtain ⟨hP, hD⟩ := va_join (wr := [(ar, .inr (3, [.ref al, .ref arr, .ref o1, .ref o2])), (al, .inr (11, [.ref ala, .int (nI 0), .int (nI 0)])), (ala, .inl (cl, 128, .inl f2_2)), (arr, .inr (11, [.ref ara, .int (nI 0), .int (nI 0)])), (ara, .inl (cr, 128, .inl f2_4))]) (w1 := []) hP hD [] [0, 1, 2, 3, 4] rfl rfl (by decide) (by decide) hk1 hFc hP1 hD1
  have hK := (hK.sub (tys' := [(cxt, .int), (cxb, .int), (cyt, .int), (cyb, .int), (cl, .int), (cr, .int)]) [0, 1, 2, 3, 4, 5] rfl).app hK1
  generalize H1 = H at hP hS ⊢
  have hP : va_P (dC, dI) vwCl ([(ar, .inr (3, [.ref al, .ref arr, .ref o1, .ref o2])), (al, .inr (11, [.ref ala, .int (nI 0), .int (nI 0)])), (ala, .inl (cl, 128, .inl f2_2)), (arr, .inr (11, [.ref ara, .int (nI 0), .int (nI 0)])), (ara, .inl (cr, 128, .inl f2_4))]) H := hP
  have hD : va_D A ([(ar, .inr (3, [.ref al, .ref arr, .ref o1, .ref o2])), (al, .inr (11, [.ref ala, .int (nI 0), .int (nI 0)])), (ala, .inl (cl, 128, .inl f2_2)), (arr, .inr (11, [.ref ara, .int (nI 0), .int (nI 0)])), (ara, .inl (cr, 128, .inl f2_4))]) := hD
  have hK : va_K (dC, dI) vwCl [(cxt, .int), (cxb, .int), (cyt, .int), (cyb, .int), (cl, .int), (cr, .int)] s := hK
  obtain rfl : r_5 = nI 0 := hw_6
  have hP9 := hP.sub (ws' := []) [] rfl
  have hD9 := hD.sub (ws' := []) [] (by decide) rfl
  have hK9 := hK.sub (tys' := []) [] rfl
  refine W.widen (k := 0) (n := 0) (by omega) (by omega) ?_
  exact W.iret (v := nI 0) hx hb hr (fun t ht hW => ⟨⟨nI 0, (), rfl, rfl, by rw [ht]; exact hP9, va_K.moved hW.alike hK9, hD9⟩, hS.F ht⟩) hS.2.2 dX0_order_41
