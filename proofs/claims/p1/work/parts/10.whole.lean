def wd_X8_init : List Cond := .code yX8_init cX8_init 2 none :: (([.methodLink RX8 3 objectInit, .instanceMethod objectInit, .code objectInit ⟨#[0xb1]⟩ 1 none, .arrayClass .int, .fieldLink RX8 9 "GradientDesk$Whole" "words" "[I", .fieldLink RX8 15 "GradientDesk$Whole" "size" "I", .fieldLink RX8 19 "GradientDesk$Whole" "below" "Z"] : List Cond) ++ (u_ws RX8 TX8 3 ++ ([])))
theorem gw_X8_init : wd_X8_init.all goodWord = true := k_allc rfl (k_all (by decide +kernel) (k_all (gu_X8) (rfl)))
abbrev at_X8_init (dC : Nat → ClassId) (dI : Nat → Nat → Nat) (A : Nat → Prop) (h0 : Nat) (n : Nat) (u : Nat × ClassId) (t : State) : Prop := match u with
  | (qa, cA) => va_P (dC, dI) vwCl [(h0, .inr (11, [.ref qa, .int (nI 0), .int (nI 0)])), (qa, .inl (cA, n, .inl (fun _ => 0)))] t.heap ∧ va_K (dC, dI) vwCl [(cA, .int)] t ∧ va_D A [(h0, .inr (11, [.ref qa, .int (nI 0), .int (nI 0)])), (qa, .inl (cA, n, .inl (fun _ => 0)))]
set_option maxHeartbeats 4000000 in
set_option maxRecDepth 100000 in
theorem c_X8_init (l : Launch) (dC : Nat → ClassId) (dI : Nat → Nat → Nat) (A : Nat → Prop) (sz : Nat) (hA0 : ∀ q, sz ≤ q → A q) (h0 : Nat) (n : Nat) (hn : n ≤ 4096) : Met l yX8_init wd_X8_init ({ frames := 10, cells := 1, slots := n, locals := 200 }) (va_Pc [.ref h0, .int (nI n)] (fun U => U.heap.size = sz ∧ va_P (dC, dI) vwCl [(h0, .inr (11, [.null, .int (nI 0), .int (nI 0)]))] U.heap ∧ va_K (dC, dI) vwCl [] U ∧ va_D A [(h0, .inr (11, [.null, .int (nI 0), .int (nI 0)]))])) (va_Qv (fun (u : Nat × ClassId) => match u with | (qa, cA) => True) (at_X8_init dC dI A h0 n) A) (1) (n) A := by
  refine Met.ofW (cc := cX8_init) (maxL := 2) (ret := none) (by decide) rfl ?_
  intro p e s m args below meth c s₁ B hml hv
  obtain ⟨rfl, hsz, hP, hK, hD⟩ := hv
  have hx := B.exec
  have hb := B.bytes
  have hr := B.returns
  have hts := atoms_spec (ws := wd_X8_init) B.pre
  have hown : s.vm.findClass RX8 = some m.cls := findClass_of_methodNamed B.named
  have hlocks := B.notSynchronized
  have hin : meth.name = "<init>" := (name_of_methodNamed B.named B.method).1
  have bk0 : ∀ w ∈ u_ws RX8 TX8 3, w ∈ wd_X8_init := fun _ h => List.mem_cons_of_mem _ (List.mem_append_right _ (List.mem_append_left _ h))
  subst hsz
  have hA : ∀ q : Nat, s.heap.size ≤ q → A q := hA0
  have hS : va_S A s.heap s.heap [] := va_S.rf
  have hl := lv_entry ([.ref h0, .int (nI n)]) (n := 2) (Nat.le_of_ble_eq_true rfl)
  rw [lg_entry_eq]
  generalize (lg_sl ([.ref h0, .int (nI n)]) ++ List.replicate (2 - (lg_sl ([.ref h0, .int (nI n)])).length) Slot.unset).toArray = ls at hl ⊢
  have hl : lv_has ls 2 [(0, .ref h0), (1, .int (nI n))] := hl
  refine lv_aload_n hx hb dX8_init_0 rfl (lv_at hl 0 rfl) ?_
  refine W.objInit hx hb hown (hts (.methodLink RX8 3 objectInit) (List.mem_of_getElem? (i := 1) rfl)) (hts (.instanceMethod objectInit) (List.mem_of_getElem? (i := 2) rfl)) (hts _ (List.mem_of_getElem? (i := 3) rfl)) rfl (by rw [hml]; exact hl.1) rfl dX8_init_1 (Nat.le_of_ble_eq_true rfl) (Nat.le_of_ble_eq_true rfl) ?_
  refine W.eq (g2 := F0 m 4 ls []) rfl ?_
  refine lv_aload_n hx hb dX8_init_4 rfl (lv_at hl 0 rfl) ?_
  refine lv_iload_n hx hb dX8_init_5 rfl (lv_at hl 1 rfl) ?_
  refine va_newa (atype := .int) (ty := .int) (N' := n) (a0 := (n, .inl (fun _ => 0))) hx hb (hts (.arrayClass .int) (List.mem_of_getElem? (i := 4) rfl)) rfl hK hP hD hS hA (fun _ => rfl) (nI_pos (by omega)) (nI_clamp (by omega)) (by show n * 4 ≤ _; omega) (Nat.le_of_ble_eq_true rfl) (by show _ ≤ n; omega) dX8_init_6 (fun q_1 cA_2 H hK hP hD hS => ?_)
  have hP : va_P (dC, dI) vwCl ([(h0, .inr (11, [.null, .int (nI 0), .int (nI 0)])), (q_1, .inl (cA_2, n, .inl (fun _ => 0)))]) H := hP
  have hD : va_D A ([(h0, .inr (11, [.null, .int (nI 0), .int (nI 0)])), (q_1, .inl (cA_2, n, .inl (fun _ => 0)))]) := hD
  have hK : va_K (dC, dI) vwCl [(cA_2, .int)] s := hK
  refine W.cs (cells' := 1) (slots' := n) (by omega) (by omega) ?_
  refine va_putF (D := (dC, dI)) (ci := 11) (v := .ref q_1) (ty := .array .int) (C := RX8) (T := TX8) (N := 3) hx hb hts bk0 tyX8 tyX8_ok nmX8 hown hK hP hD hS 0 rfl rfl 0 (by decide) (hts (.fieldLink RX8 9 "GradientDesk$Whole" "words" "[I") (List.mem_of_getElem? (i := 5) rfl)) (fun _ h9 => h9) rfl hin rfl (by decide +kernel) rfl rfl (Nat.le_of_ble_eq_true rfl) dX8_init_8 (fun H locs hP hD hS => ?_)
  have hP : va_P (dC, dI) vwCl ([(h0, .inr (11, [.ref q_1, .int (nI 0), .int (nI 0)])), (q_1, .inl (cA_2, n, .inl (fun _ => 0)))]) H := hP
  have hD : va_D A ([(h0, .inr (11, [.ref q_1, .int (nI 0), .int (nI 0)])), (q_1, .inl (cA_2, n, .inl (fun _ => 0)))]) := hD
  refine lv_aload_n hx hb dX8_init_11 rfl (lv_at hl 0 rfl) ?_
  refine lv_iconst (v := nI 0) hx hb dX8_init_12 (by decide +kernel) ?_
  refine va_put (D := (dC, dI)) (ci := 11) (v := .int (nI 0)) (ty := .int) (C := RX8) (T := TX8) (N := 3) hx hb hts bk0 tyX8 tyX8_ok nmX8 hown hK hP hD hS 0 rfl rfl 1 (by decide) (hts (.fieldLink RX8 15 "GradientDesk$Whole" "size" "I") (List.mem_of_getElem? (i := 6) rfl)) (fun _ h9 => h9) rfl (by decide +kernel) rfl rfl (Nat.le_of_ble_eq_true rfl) dX8_init_13 (fun H locs hP hD hS => ?_)
  have hP : va_P (dC, dI) vwCl ([(h0, .inr (11, [.ref q_1, .int (nI 0), .int (nI 0)])), (q_1, .inl (cA_2, n, .inl (fun _ => 0)))]) H := hP
  have hD : va_D A ([(h0, .inr (11, [.ref q_1, .int (nI 0), .int (nI 0)])), (q_1, .inl (cA_2, n, .inl (fun _ => 0)))]) := hD
  refine lv_aload_n hx hb dX8_init_16 rfl (lv_at hl 0 rfl) ?_
  refine lv_iconst (v := nI 0) hx hb dX8_init_17 (by decide +kernel) ?_
  refine va_put (D := (dC, dI)) (ci := 11) (v := .int (nI 0)) (ty := .boolean) (C := RX8) (T := TX8) (N := 3) hx hb hts bk0 tyX8 tyX8_ok nmX8 hown hK hP hD hS 0 rfl rfl 2 (by decide) (hts (.fieldLink RX8 19 "GradientDesk$Whole" "below" "Z") (List.mem_of_getElem? (i := 7) rfl)) (fun _ h9 => h9) rfl (by decide +kernel) (by decide +kernel) (by decide +kernel) (Nat.le_of_ble_eq_true rfl) dX8_init_18 (fun H locs hP hD hS => ?_)
  have hP : va_P (dC, dI) vwCl ([(h0, .inr (11, [.ref q_1, .int (nI 0), .int (nI 0)])), (q_1, .inl (cA_2, n, .inl (fun _ => 0)))]) H := hP
  have hD : va_D A ([(h0, .inr (11, [.ref q_1, .int (nI 0), .int (nI 0)])), (q_1, .inl (cA_2, n, .inl (fun _ => 0)))]) := hD
  have hP9 := hP.sub (ws' := [(h0, .inr (11, [.ref q_1, .int (nI 0), .int (nI 0)])), (q_1, .inl (cA_2, n, .inl (fun _ => 0)))]) [0, 1] rfl
  have hD9 := hD.sub (ws' := [(h0, .inr (11, [.ref q_1, .int (nI 0), .int (nI 0)])), (q_1, .inl (cA_2, n, .inl (fun _ => 0)))]) [0, 1] (by decide) rfl
  have hK9 := hK.sub (tys' := [(cA_2, .int)]) [0] rfl
  refine W.widen (k := 1) (n := n) (by omega) (by omega) ?_
  exact W.vret hx hb hr (fun t ht hW => ⟨⟨(q_1, cA_2), rfl, trivial, by rw [ht]; exact hP9, va_K.moved hW.alike hK9, hD9⟩, hS.F ht⟩) hS.2.2 dX8_init_21
def wd_X8_put1 : List Cond := .code yX8_put cX8_put 6 none :: (([.methodLink RX8 23 Lib.MathLoose.abs_long.x, .static Lib.MathLoose.abs_long.x, .initialized "java/lang/Math", .code Lib.MathLoose.abs_long.x Lib.MathLoose.abs_long.code 2 (some .long), .fieldLink RX8 19 "GradientDesk$Whole" "below" "Z", .fieldLink RX8 15 "GradientDesk$Whole" "size" "I", .fieldLink RX8 9 "GradientDesk$Whole" "words" "[I"] : List Cond) ++ (u_ws RX8 TX8 3 ++ ([])))
theorem gw_X8_put1 : wd_X8_put1.all goodWord = true := k_allc rfl (k_all (by decide +kernel) (k_all (gu_X8) (rfl)))
abbrev at_X8_put1 (dC : Nat → ClassId) (dI : Nat → Nat → Nat) (A : Nat → Prop) (h0 : Nat) (qa : Nat) (cA : ClassId) (n : Nat) (f : Nat → Int32) (z : Int32) (b : Int32) (u : Unit) (t : State) : Prop := match u with
  | () => va_P (dC, dI) vwCl [(h0, .inr (11, [.ref qa, .int (nI 1), .int (nI 0)])), (qa, .inl (cA, n, .inl (upd f 0 (nI 1))))] t.heap ∧ va_K (dC, dI) vwCl [(cA, .int)] t ∧ va_D A [(h0, .inr (11, [.ref qa, .int (nI 1), .int (nI 0)])), (qa, .inl (cA, n, .inl (upd f 0 (nI 1))))]
set_option maxHeartbeats 4000000 in
set_option maxRecDepth 100000 in
theorem c_X8_put1 (l : Launch) (dC : Nat → ClassId) (dI : Nat → Nat → Nat) (A : Nat → Prop) (sz : Nat) (hA0 : ∀ q, sz ≤ q → A q) (h0 : Nat) (qa : Nat) (cA : ClassId) (n : Nat) (f : Nat → Int32) (z : Int32) (b : Int32) (hn : n ≤ 4096) (hn2 : 2 ≤ n) : Met l yX8_put wd_X8_put1 ({ frames := 20, cells := 0, slots := 0, locals := 400 }) (va_Pc [.ref h0, .long (lN 1)] (fun U => U.heap.size = sz ∧ va_P (dC, dI) vwCl [(h0, .inr (11, [.ref qa, .int z, .int b])), (qa, .inl (cA, n, .inl f))] U.heap ∧ va_K (dC, dI) vwCl [(cA, .int)] U ∧ va_D A [(h0, .inr (11, [.ref qa, .int z, .int b])), (qa, .inl (cA, n, .inl f))])) (va_Qv (fun (u : Unit) => match u with | () => True) (at_X8_put1 dC dI A h0 qa cA n f z b) A) (0) (0) A := by
  refine Met.ofW (cc := cX8_put) (maxL := 6) (ret := none) (by decide) rfl ?_
  intro p e s m args below meth c s₁ B hml hv
  obtain ⟨rfl, hsz, hP, hK, hD⟩ := hv
  have hx := B.exec
  have hb := B.bytes
  have hr := B.returns
  have hts := atoms_spec (ws := wd_X8_put1) B.pre
  have hown : s.vm.findClass RX8 = some m.cls := findClass_of_methodNamed B.named
  have hlocks := B.notSynchronized
  have bk0 : ∀ w ∈ u_ws RX8 TX8 3, w ∈ wd_X8_put1 := fun _ h => List.mem_cons_of_mem _ (List.mem_append_right _ (List.mem_append_left _ h))
  subst hsz
  have hA : ∀ q : Nat, s.heap.size ≤ q → A q := hA0
  have hS : va_S A s.heap s.heap [] := va_S.rf
  have hl := lv_entry ([.ref h0, .long (lN 1)]) (n := 6) (Nat.le_of_ble_eq_true rfl)
  rw [lg_entry_eq]
  generalize (lg_sl ([.ref h0, .long (lN 1)]) ++ List.replicate (6 - (lg_sl ([.ref h0, .long (lN 1)])).length) Slot.unset).toArray = ls at hl ⊢
  have hl : lv_has ls 6 [(0, .ref h0), (1, .long (lN 1))] := hl
  refine lv_lload_n hx hb dX8_put_0 rfl (lv_at hl 1 rfl) ?_
  refine va_mabs_long hx hb (by rw [hml]; exact hl.1.symm) hown (hts (.methodLink RX8 23 Lib.MathLoose.abs_long.x) (List.mem_of_getElem? (i := 1) rfl)) (hts (.static Lib.MathLoose.abs_long.x) (List.mem_of_getElem? (i := 2) rfl)) (hts (.initialized "java/lang/Math") (List.mem_of_getElem? (i := 3) rfl)) (hts (.code Lib.MathLoose.abs_long.x Lib.MathLoose.abs_long.code 2 (some .long)) (List.mem_of_getElem? (i := 4) rfl)) (Nat.le_of_ble_eq_true rfl) (Nat.le_of_ble_eq_true rfl) (Nat.le_of_ble_eq_true rfl) (Nat.le_of_ble_eq_true rfl) dX8_put_1 ?_
  refine lv_topl (fun y_1 e_2 => ?_)
  obtain rfl : y_1 = lN 1 := e_2.trans (by decide)
  refine lv_lstore_n (lv' := [(3, .long (lN 1)), (0, .ref h0), (1, .long (lN 1))]) hx hb dX8_put_4 rfl hl (by decide) rfl (fun ls hl => ?_)
  refine lv_aload_n hx hb dX8_put_5 rfl (lv_at hl 1 rfl) ?_
  refine lv_lload_n hx hb dX8_put_6 rfl (lv_at hl 2 rfl) ?_
  refine lv_lconst (v := lN 0) hx hb dX8_put_7 (by decide +kernel) ?_
  refine W.lcmp hx hb dX8_put_8 ?_
  refine lv_if_ge (tgt := 16) hx hb dX8_put_9 (by decide) (fun c_3 => ?_) (fun c_3 => absurd (mt (pk_lLE (a := 0) (b := 1) (by decide) (by decide)).mpr (mt (k_cmp_ge (lN 1) (lN 0)).mpr c_3)) (by decide))
  refine lv_iconst (v := nI 0) hx hb dX8_put_16 (by decide +kernel) ?_
  refine va_put (D := (dC, dI)) (ci := 11) (v := .int (nI 0)) (ty := .boolean) (C := RX8) (T := TX8) (N := 3) hx hb hts bk0 tyX8 tyX8_ok nmX8 hown hK hP hD hS 0 rfl rfl 2 (by decide) (hts (.fieldLink RX8 19 "GradientDesk$Whole" "below" "Z") (List.mem_of_getElem? (i := 5) rfl)) (fun _ h9 => h9) rfl (by decide +kernel) (by decide +kernel) (by decide +kernel) (Nat.le_of_ble_eq_true rfl) dX8_put_17 (fun H locs hP hD hS => ?_)
  have hP : va_P (dC, dI) vwCl ([(h0, .inr (11, [.ref qa, .int z, .int (nI 0)])), (qa, .inl (cA, n, .inl f))]) H := hP
  have hD : va_D A ([(h0, .inr (11, [.ref qa, .int z, .int (nI 0)])), (qa, .inl (cA, n, .inl f))]) := hD
  refine lv_aload_n hx hb dX8_put_20 rfl (lv_at hl 1 rfl) ?_
  refine lv_iconst (v := nI 0) hx hb dX8_put_21 (by decide +kernel) ?_
  refine va_put (D := (dC, dI)) (ci := 11) (v := .int (nI 0)) (ty := .int) (C := RX8) (T := TX8) (N := 3) hx hb hts bk0 tyX8 tyX8_ok nmX8 hown hK hP hD hS 0 rfl rfl 1 (by decide) (hts (.fieldLink RX8 15 "GradientDesk$Whole" "size" "I") (List.mem_of_getElem? (i := 6) rfl)) (fun _ h9 => h9) rfl (by decide +kernel) rfl rfl (Nat.le_of_ble_eq_true rfl) dX8_put_22 (fun H locs hP hD hS => ?_)
  have hP : va_P (dC, dI) vwCl ([(h0, .inr (11, [.ref qa, .int (nI 0), .int (nI 0)])), (qa, .inl (cA, n, .inl f))]) H := hP
  have hD : va_D A ([(h0, .inr (11, [.ref qa, .int (nI 0), .int (nI 0)])), (qa, .inl (cA, n, .inl f))]) := hD
  refine lv_iconst (v := nI 0) hx hb dX8_put_25 (by decide +kernel) ?_
  refine lv_istore (lv' := [(5, .int (nI 0)), (3, .long (lN 1)), (0, .ref h0), (1, .long (lN 1))]) hx hb dX8_put_26 hl (by decide) rfl (fun ls hl => ?_)
  refine lv_iload hx hb dX8_put_28 (lv_at hl 0 rfl) ?_
  refine lv_iconst (v := nI 2) hx hb dX8_put_30 (by decide +kernel) ?_
  refine lv_icmp_ge (tgt := 78) hx hb dX8_put_31 (by decide) (fun c_4 => absurd c_4 (by decide)) (fun c_4 => ?_)
  refine lv_iload hx hb dX8_put_34 (lv_at hl 0 rfl) ?_
  refine lv_aload_n hx hb dX8_put_36 rfl (lv_at hl 2 rfl) ?_
  refine va_get (D := (dC, dI)) (ci := 11) (v := .ref qa) (C := RX8) (T := TX8) (N := 3) hx hb hts bk0 hown hK hP 0 rfl rfl 0 (by decide) (hts (.fieldLink RX8 9 "GradientDesk$Whole" "words" "[I") (List.mem_of_getElem? (i := 7) rfl)) (fun _ h9 => h9) rfl dX8_put_37 ?_
  refine va_alen (v := nI n) hx hb hK hP 1 0 rfl rfl rfl dX8_put_40 ?_
  refine lv_icmp_ge (tgt := 78) hx hb dX8_put_41 (by decide) (fun c_5 => absurd ((nI_leI (a := n) (b := 0) (by omega) (by decide)).mp c_5) (by omega)) (fun c_5 => ?_)
  refine lv_lload_n hx hb dX8_put_44 rfl (lv_at hl 1 rfl) ?_
  refine lv_lconst (v := lN 0) hx hb dX8_put_45 (by decide +kernel) ?_
  refine W.lcmp hx hb dX8_put_46 ?_
  refine lv_if_eq (tgt := 78) hx hb dX8_put_47 (by decide) (fun c_6 => absurd ((pk_lEQ (a := 1) (b := 0) (by decide) (by decide)).mp ((k_cmp_eq (lN 1) (lN 0)).mp c_6)) (by decide)) (fun c_6 => ?_)
  refine lv_aload_n hx hb dX8_put_50 rfl (lv_at hl 2 rfl) ?_
  refine va_get (D := (dC, dI)) (ci := 11) (v := .ref qa) (C := RX8) (T := TX8) (N := 3) hx hb hts bk0 hown hK hP 0 rfl rfl 0 (by decide) (hts (.fieldLink RX8 9 "GradientDesk$Whole" "words" "[I") (List.mem_of_getElem? (i := 7) rfl)) (fun _ h9 => h9) rfl dX8_put_51 ?_
  refine lv_iload hx hb dX8_put_54 (lv_at hl 0 rfl) ?_
  refine lv_lload_n hx hb dX8_put_56 rfl (lv_at hl 1 rfl) ?_
  refine lv_l2i hx hb dX8_put_57 rfl ?_
  refine lv_topi (fun x_7 e_8 => ?_)
  obtain rfl : x_7 = nI 1 := e_8.trans (lN_i 1)
  refine va_iast hx hb hK hP hD hS 1 0 rfl rfl (vp_in_nI (show 0 < n by omega) (by omega)) dX8_put_58 (fun H locs hP hD hS => ?_)
  rw [nI_clamp (show 0 < 2 ^ 31 by decide)] at hP hD
  have hP : va_P (dC, dI) vwCl ([(h0, .inr (11, [.ref qa, .int (nI 0), .int (nI 0)])), (qa, .inl (cA, n, .inl (upd f 0 (nI 1))))]) H := hP
  have hD : va_D A ([(h0, .inr (11, [.ref qa, .int (nI 0), .int (nI 0)])), (qa, .inl (cA, n, .inl (upd f 0 (nI 1))))]) := hD
  refine lv_lload_n hx hb dX8_put_59 rfl (lv_at hl 1 rfl) ?_
  refine lv_bipush (v := nI 32) hx hb dX8_put_60 (by decide +kernel) ?_
  refine lv_lushr hx hb dX8_put_62 rfl ?_
  refine lv_topl (fun y_9 e_10 => ?_)
  obtain rfl : y_9 = lN 0 := e_10.trans ((wb_shr (n := 1) (k := 32) (by omega) (by decide)).trans rfl)
  refine lv_lstore_n (lv' := [(3, .long (lN 0)), (5, .int (nI 0)), (0, .ref h0), (1, .long (lN 1))]) hx hb dX8_put_63 rfl hl (by decide) rfl (fun ls hl => ?_)
  refine lv_aload_n hx hb dX8_put_64 rfl (lv_at hl 2 rfl) ?_
  refine lv_iload hx hb dX8_put_65 (lv_at hl 1 rfl) ?_
  refine lv_iconst (v := nI 1) hx hb dX8_put_67 (by decide +kernel) ?_
  refine lv_iadd hx hb dX8_put_68 ?_
  refine lv_topi (fun x_11 e_12 => ?_)
  obtain rfl : x_11 = nI 1 := e_12.trans (nI_add 0 1)
  refine va_put (D := (dC, dI)) (ci := 11) (v := .int (nI 1)) (ty := .int) (C := RX8) (T := TX8) (N := 3) hx hb hts bk0 tyX8 tyX8_ok nmX8 hown hK hP hD hS 0 rfl rfl 1 (by decide) (hts (.fieldLink RX8 15 "GradientDesk$Whole" "size" "I") (List.mem_of_getElem? (i := 6) rfl)) (fun _ h9 => h9) rfl (by decide +kernel) rfl rfl (Nat.le_of_ble_eq_true rfl) dX8_put_69 (fun H locs hP hD hS => ?_)
  have hP : va_P (dC, dI) vwCl ([(h0, .inr (11, [.ref qa, .int (nI 1), .int (nI 0)])), (qa, .inl (cA, n, .inl (upd f 0 (nI 1))))]) H := hP
  have hD : va_D A ([(h0, .inr (11, [.ref qa, .int (nI 1), .int (nI 0)])), (qa, .inl (cA, n, .inl (upd f 0 (nI 1))))]) := hD
  refine lv_iinc (v := nI 1) (lv' := [(5, .int (nI 1)), (3, .long (lN 0)), (0, .ref h0), (1, .long (lN 1))]) hx hb dX8_put_72 hl (k := 1) rfl (nI_add 0 1) (by decide) rfl (fun ls hl => ?_)
  refine lv_goto (tgt := 28) hx hb dX8_put_75 (by decide) ?_
  refine lv_iload hx hb dX8_put_28 (lv_at hl 0 rfl) ?_
  refine lv_iconst (v := nI 2) hx hb dX8_put_30 (by decide +kernel) ?_
  refine lv_icmp_ge (tgt := 78) hx hb dX8_put_31 (by decide) (fun c_15 => absurd c_15 (by decide)) (fun c_15 => ?_)
  refine lv_iload hx hb dX8_put_34 (lv_at hl 0 rfl) ?_
  refine lv_aload_n hx hb dX8_put_36 rfl (lv_at hl 2 rfl) ?_
  refine va_get (D := (dC, dI)) (ci := 11) (v := .ref qa) (C := RX8) (T := TX8) (N := 3) hx hb hts bk0 hown hK hP 0 rfl rfl 0 (by decide) (hts (.fieldLink RX8 9 "GradientDesk$Whole" "words" "[I") (List.mem_of_getElem? (i := 7) rfl)) (fun _ h9 => h9) rfl dX8_put_37 ?_
  refine va_alen (v := nI n) hx hb hK hP 1 0 rfl rfl rfl dX8_put_40 ?_
  refine lv_icmp_ge (tgt := 78) hx hb dX8_put_41 (by decide) (fun c_16 => absurd ((nI_leI (a := n) (b := 1) (by omega) (by decide)).mp c_16) (by omega)) (fun c_16 => ?_)
  refine lv_lload_n hx hb dX8_put_44 rfl (lv_at hl 1 rfl) ?_
  refine lv_lconst (v := lN 0) hx hb dX8_put_45 (by decide +kernel) ?_
  refine W.lcmp hx hb dX8_put_46 ?_
  refine lv_if_eq (tgt := 78) hx hb dX8_put_47 (by decide) (fun c_17 => ?_) (fun c_17 => absurd (mt (pk_lEQ (a := 0) (b := 0) (by decide) (by decide)).mpr (mt (k_cmp_eq (lN 0) (lN 0)).mpr c_17)) (by decide))
  have hP9 := hP.sub (ws' := [(h0, .inr (11, [.ref qa, .int (nI 1), .int (nI 0)])), (qa, .inl (cA, n, .inl (upd f 0 (nI 1))))]) [0, 1] rfl
  have hD9 := hD.sub (ws' := [(h0, .inr (11, [.ref qa, .int (nI 1), .int (nI 0)])), (qa, .inl (cA, n, .inl (upd f 0 (nI 1))))]) [0, 1] (by decide) rfl
  have hK9 := hK.sub (tys' := [(cA, .int)]) [0] rfl
  refine W.widen (k := 0) (n := 0) (by omega) (by omega) ?_
  exact W.vret hx hb hr (fun t ht hW => ⟨⟨(), rfl, trivial, by rw [ht]; exact hP9, va_K.moved hW.alike hK9, hD9⟩, hS.F ht⟩) hS.2.2 dX8_put_78
def wd_X2_init : List Cond := .code yX2_init cX2_init 2 none :: (([.methodLink RX2 1 objectInit, .instanceMethod objectInit, .code objectInit ⟨#[0xb1]⟩ 1 none, .classLink RX2 7 RX8, .instantiable RX8 3, .initialized RX8, .methodLink RX2 9 yX8_init, .instanceMethod yX8_init, .fieldLink RX2 12 "GradientDesk$Fraction" "top" "LGradientDesk$Whole;", .fieldLink RX2 18 "GradientDesk$Fraction" "bottom" "LGradientDesk$Whole;", .methodLink RX2 21 yX8_put, .instanceMethod yX8_put, .selects RX8 yX8_put yX8_put] : List Cond) ++ (u_ws RX8 TX8 3 ++ (wd_X8_init ++ (u_ws RX2 TX2 2 ++ (wd_X8_put1 ++ ([]))))))
theorem gw_X2_init : wd_X2_init.all goodWord = true := k_allc rfl (k_all (by decide +kernel) (k_all (gu_X8) (k_all (gw_X8_init) (k_all (gu_X2) (k_all (gw_X8_put1) (rfl))))))
abbrev at_X2_init (dC : Nat → ClassId) (dI : Nat → Nat → Nat) (A : Nat → Prop) (h0 : Nat) (n : Nat) (u : Nat × Nat × ClassId × Nat × Nat × ClassId) (t : State) : Prop := match u with
  | (qt, qta, ct, qb, qba, cb) => va_P (dC, dI) vwCl [(h0, .inr (5, [.ref qt, .ref qb])), (qt, .inr (11, [.ref qta, .int (nI 0), .int (nI 0)])), (qta, .inl (ct, n, .inl (fun _ => 0))), (qb, .inr (11, [.ref qba, .int (nI 1), .int (nI 0)])), (qba, .inl (cb, n, .inl (upd (fun _ => 0) 0 (nI 1))))] t.heap ∧ va_K (dC, dI) vwCl [(ct, .int), (cb, .int)] t ∧ va_D A [(h0, .inr (5, [.ref qt, .ref qb])), (qt, .inr (11, [.ref qta, .int (nI 0), .int (nI 0)])), (qta, .inl (ct, n, .inl (fun _ => 0))), (qb, .inr (11, [.ref qba, .int (nI 1), .int (nI 0)])), (qba, .inl (cb, n, .inl (upd (fun _ => 0) 0 (nI 1))))]
set_option maxHeartbeats 4000000 in
set_option maxRecDepth 100000 in
theorem c_X2_init (l : Launch) (dC : Nat → ClassId) (dI : Nat → Nat → Nat) (A : Nat → Prop) (sz : Nat) (hA0 : ∀ q, sz ≤ q → A q) (h0 : Nat) (n : Nat) (hn : n ≤ 4096) (hn2 : 2 ≤ n) : Met l yX2_init wd_X2_init ({ frames := 30, cells := 4, slots := 2 * n + 6, locals := 600 }) (va_Pc [.ref h0, .int (nI n)] (fun U => U.heap.size = sz ∧ va_P (dC, dI) vwCl [(h0, .inr (5, [.null, .null]))] U.heap ∧ va_K (dC, dI) vwCl [] U ∧ va_D A [(h0, .inr (5, [.null, .null]))])) (va_Qv (fun (u : Nat × Nat × ClassId × Nat × Nat × ClassId) => match u with | (qt, qta, ct, qb, qba, cb) => True) (at_X2_init dC dI A h0 n) A) (4) (2 * n + 6) A := by
  refine Met.ofW (cc := cX2_init) (maxL := 2) (ret := none) (by decide) rfl ?_
  intro p e s m args below meth c s₁ B hml hv
  obtain ⟨rfl, hsz, hP, hK, hD⟩ := hv
  have hx := B.exec
  have hb := B.bytes
  have hr := B.returns
  have hts := atoms_spec (ws := wd_X2_init) B.pre
  have hown : s.vm.findClass RX2 = some m.cls := findClass_of_methodNamed B.named
  have hlocks := B.notSynchronized
  have hin : meth.name = "<init>" := (name_of_methodNamed B.named B.method).1
  have bk0 : ∀ w ∈ u_ws RX8 TX8 3, w ∈ wd_X2_init := fun _ h => List.mem_cons_of_mem _ (List.mem_append_right _ (List.mem_append_left _ h))
  have bk1 : ∀ w ∈ wd_X8_init, w ∈ wd_X2_init := fun _ h => List.mem_cons_of_mem _ (List.mem_append_right _ (List.mem_append_right _ (List.mem_append_left _ h)))
  have bk2 : ∀ w ∈ u_ws RX2 TX2 2, w ∈ wd_X2_init := fun _ h => List.mem_cons_of_mem _ (List.mem_append_right _ (List.mem_append_right _ (List.mem_append_right _ (List.mem_append_left _ h))))
  have bk3 : ∀ w ∈ wd_X8_put1, w ∈ wd_X2_init := fun _ h => List.mem_cons_of_mem _ (List.mem_append_right _ (List.mem_append_right _ (List.mem_append_right _ (List.mem_append_right _ (List.mem_append_left _ h)))))
  subst hsz
  have hA : ∀ q : Nat, s.heap.size ≤ q → A q := hA0
  have hS : va_S A s.heap s.heap [] := va_S.rf
  have hl := lv_entry ([.ref h0, .int (nI n)]) (n := 2) (Nat.le_of_ble_eq_true rfl)
  rw [lg_entry_eq]
  generalize (lg_sl ([.ref h0, .int (nI n)]) ++ List.replicate (2 - (lg_sl ([.ref h0, .int (nI n)])).length) Slot.unset).toArray = ls at hl ⊢
  have hl : lv_has ls 2 [(0, .ref h0), (1, .int (nI n))] := hl
  refine lv_aload_n hx hb dX2_init_0 rfl (lv_at hl 0 rfl) ?_
  refine W.objInit hx hb hown (hts (.methodLink RX2 1 objectInit) (List.mem_of_getElem? (i := 1) rfl)) (hts (.instanceMethod objectInit) (List.mem_of_getElem? (i := 2) rfl)) (hts _ (List.mem_of_getElem? (i := 3) rfl)) rfl (by rw [hml]; exact hl.1) rfl dX2_init_1 (Nat.le_of_ble_eq_true rfl) (Nat.le_of_ble_eq_true rfl) ?_
  refine W.eq (g2 := F0 m 4 ls []) rfl ?_
  refine lv_aload_n hx hb dX2_init_4 rfl (lv_at hl 0 rfl) ?_
  refine va_new (ci := 11) (fs := [.null, .int (nI 0), .int (nI 0)]) (C := RX8) (T := TX8) (N := 3) hx hb hts bk0 tyX8 tyX8_ok hown (hts (.classLink RX2 7 RX8) (List.mem_of_getElem? (i := 4) rfl)) (hts (.instantiable RX8 3) (List.mem_of_getElem? (i := 5) rfl)) (hts (.initialized RX8) (List.mem_of_getElem? (i := 6) rfl)) hK hP hD hS hA rfl (fun j hj => by rcases (show j = 0 ∨ j = 1 ∨ j = 2 by omega) with rfl | rfl | rfl <;> rfl) (Nat.le_of_ble_eq_true rfl) (by show _ ≤ 2 * n + 6; omega) dX2_init_5 (fun q_1 H hP hD hS => ?_)
  have hP : va_P (dC, dI) vwCl ([(h0, .inr (5, [.null, .null])), (q_1, .inr (11, [.null, .int (nI 0), .int (nI 0)]))]) H := hP
  have hD : va_D A ([(h0, .inr (5, [.null, .null])), (q_1, .inr (11, [.null, .int (nI 0), .int (nI 0)]))]) := hD
  refine W.cs (cells' := 1) (slots' := 3) (by omega) (by omega) ?_
  refine lv_dup hx hb dX2_init_8 rfl ?_
  refine lv_iload_n hx hb dX2_init_9 rfl (lv_at hl 1 rfl) ?_
  have hPc := hP.sub (ws' := [(q_1, .inr (11, [.null, .int (nI 0), .int (nI 0)]))]) [1] rfl
  have hDc := hD.sub (ws' := [(q_1, .inr (11, [.null, .int (nI 0), .int (nI 0)]))]) [1] (by decide) rfl
  have hKc := hK.sub (tys' := []) [] rfl
  have hFc := va_free (wc := [(q_1, .inr (11, [.null, .int (nI 0), .int (nI 0)]))]) hD hS hA [1] rfl
  refine va_callv (va_runI (As := [.int (nI n)]) (rest := [.ref q_1, .ref h0]) ⟨hx, hb, hml, hown, hts⟩ (c_X8_init l dC dI (va_A [(q_1, .inr (11, [.null, .int (nI 0), .int (nI 0)]))] H.size) H.size (fun _ h => Or.inr h) q_1 n (by omega)) (cwI 1 hts (goodIn_sub (fun w9 h9 => bk1 w9 h9) gw_X8_init) rfl rfl rfl (hts (.initialized RX8) (List.mem_of_getElem? (i := 6) rfl)) (hts (.methodLink RX2 9 yX8_init) (List.mem_of_getElem? (i := 7) rfl)) (hts (.instanceMethod yX8_init) (List.mem_of_getElem? (i := 8) rfl)) rfl (by decide +kernel) ⟨Nat.le_of_ble_eq_true rfl, Nat.le_of_ble_eq_true rfl⟩) ⟨fun a U g mk q => by obtain ⟨q0, q1, qP, qK, qD⟩ := q; exact ⟨q0, q1, qP, va_K.moved (u := U) (U := U.calling g mk a) (Vm.Alike.refl U.vm) qK, qD⟩, fun U hU hW => ⟨rfl, by rw [hU], by rw [hU]; exact hPc, va_K.moved hW.alike hKc, hDc.self⟩⟩ rfl rfl hl.1 rfl (lv_room (Nat.le_of_ble_eq_true rfl)) dX2_init_10 ⟨(Nat.le_of_ble_eq_true rfl), (by show _ ≤ 2 * n + 6; omega)⟩) hS (fun q _ h => hFc q h) hFc (fun u t H1 locs ht hvm hw_2 hB hz1 hk1 hS => ?_)
  obtain ⟨qa_3, cA_4⟩ := u
  obtain ⟨hP1, hK1, hD1⟩ := hB
  rw [ht] at hP1
  have hK1 := va_K.moved hvm.symm hK1
  try dsimp only at hw_2
  obtain ⟨hP, hD⟩ := va_join (wr := [(h0, .inr (5, [.null, .null]))]) (w1 := [(q_1, .inr (11, [.ref qa_3, .int (nI 0), .int (nI 0)])), (qa_3, .inl (cA_4, n, .inl (fun _ => 0)))]) hP hD [1] [0] rfl rfl (by decide) (by decide) hk1 hFc hP1 hD1
  have hK := (hK.sub (tys' := []) [] rfl).app hK1
  generalize H1 = H at hP hS ⊢
  have hP : va_P (dC, dI) vwCl ([(h0, .inr (5, [.null, .null])), (q_1, .inr (11, [.ref qa_3, .int (nI 0), .int (nI 0)])), (qa_3, .inl (cA_4, n, .inl (fun _ => 0)))]) H := hP
  have hD : va_D A ([(h0, .inr (5, [.null, .null])), (q_1, .inr (11, [.ref qa_3, .int (nI 0), .int (nI 0)])), (qa_3, .inl (cA_4, n, .inl (fun _ => 0)))]) := hD
  have hK : va_K (dC, dI) vwCl [(cA_4, .int)] s := hK
  refine W.cs (cells' := 2) (slots' := 3 + n) (by omega) (by omega) ?_
  refine va_putF (D := (dC, dI)) (ci := 5) (v := .ref q_1) (ty := .object "GradientDesk$Whole") (C := RX2) (T := TX2) (N := 2) hx hb hts bk2 tyX2 tyX2_ok nmX2 hown hK hP hD hS 0 rfl rfl 0 (by decide) (hts (.fieldLink RX2 12 "GradientDesk$Fraction" "top" "LGradientDesk$Whole;") (List.mem_of_getElem? (i := 9) rfl)) (fun _ h9 => h9) rfl hin rfl (by decide +kernel) rfl rfl (Nat.le_of_ble_eq_true rfl) dX2_init_13 (fun H locs hP hD hS => ?_)
  have hP : va_P (dC, dI) vwCl ([(h0, .inr (5, [.ref q_1, .null])), (q_1, .inr (11, [.ref qa_3, .int (nI 0), .int (nI 0)])), (qa_3, .inl (cA_4, n, .inl (fun _ => 0)))]) H := hP
  have hD : va_D A ([(h0, .inr (5, [.ref q_1, .null])), (q_1, .inr (11, [.ref qa_3, .int (nI 0), .int (nI 0)])), (qa_3, .inl (cA_4, n, .inl (fun _ => 0)))]) := hD
  refine lv_aload_n hx hb dX2_init_16 rfl (lv_at hl 0 rfl) ?_
  refine va_new (ci := 11) (fs := [.null, .int (nI 0), .int (nI 0)]) (C := RX8) (T := TX8) (N := 3) hx hb hts bk0 tyX8 tyX8_ok hown (hts (.classLink RX2 7 RX8) (List.mem_of_getElem? (i := 4) rfl)) (hts (.instantiable RX8 3) (List.mem_of_getElem? (i := 5) rfl)) (hts (.initialized RX8) (List.mem_of_getElem? (i := 6) rfl)) hK hP hD hS hA rfl (fun j hj => by rcases (show j = 0 ∨ j = 1 ∨ j = 2 by omega) with rfl | rfl | rfl <;> rfl) (Nat.le_of_ble_eq_true rfl) (by show _ ≤ 2 * n + 6; omega) dX2_init_17 (fun q_5 H hP hD hS => ?_)
  have hP : va_P (dC, dI) vwCl ([(h0, .inr (5, [.ref q_1, .null])), (q_1, .inr (11, [.ref qa_3, .int (nI 0), .int (nI 0)])), (qa_3, .inl (cA_4, n, .inl (fun _ => 0))), (q_5, .inr (11, [.null, .int (nI 0), .int (nI 0)]))]) H := hP
  have hD : va_D A ([(h0, .inr (5, [.ref q_1, .null])), (q_1, .inr (11, [.ref qa_3, .int (nI 0), .int (nI 0)])), (qa_3, .inl (cA_4, n, .inl (fun _ => 0))), (q_5, .inr (11, [.null, .int (nI 0), .int (nI 0)]))]) := hD
  refine W.cs (cells' := 3) (slots' := 3 + n + 3) (by omega) (by omega) ?_
  refine lv_dup hx hb dX2_init_20 rfl ?_
  refine lv_iload_n hx hb dX2_init_21 rfl (lv_at hl 1 rfl) ?_
  have hPc := hP.sub (ws' := [(q_5, .inr (11, [.null, .int (nI 0), .int (nI 0)]))]) [3] rfl
  have hDc := hD.sub (ws' := [(q_5, .inr (11, [.null, .int (nI 0), .int (nI 0)]))]) [3] (by decide) rfl
  have hKc := hK.sub (tys' := []) [] rfl
  have hFc := va_free (wc := [(q_5, .inr (11, [.null, .int (nI 0), .int (nI 0)]))]) hD hS hA [3] rfl
  refine va_callv (va_runI (As := [.int (nI n)]) (rest := [.ref q_5, .ref h0]) ⟨hx, hb, hml, hown, hts⟩ (c_X8_init l dC dI (va_A [(q_5, .inr (11, [.null, .int (nI 0), .int (nI 0)]))] H.size) H.size (fun _ h => Or.inr h) q_5 n (by omega)) (cwI 1 hts (goodIn_sub (fun w9 h9 => bk1 w9 h9) gw_X8_init) rfl rfl rfl (hts (.initialized RX8) (List.mem_of_getElem? (i := 6) rfl)) (hts (.methodLink RX2 9 yX8_init) (List.mem_of_getElem? (i := 7) rfl)) (hts (.instanceMethod yX8_init) (List.mem_of_getElem? (i := 8) rfl)) rfl (by decide +kernel) ⟨Nat.le_of_ble_eq_true rfl, Nat.le_of_ble_eq_true rfl⟩) ⟨fun a U g mk q => by obtain ⟨q0, q1, qP, qK, qD⟩ := q; exact ⟨q0, q1, qP, va_K.moved (u := U) (U := U.calling g mk a) (Vm.Alike.refl U.vm) qK, qD⟩, fun U hU hW => ⟨rfl, by rw [hU], by rw [hU]; exact hPc, va_K.moved hW.alike hKc, hDc.self⟩⟩ rfl rfl hl.1 rfl (lv_room (Nat.le_of_ble_eq_true rfl)) dX2_init_22 ⟨(Nat.le_of_ble_eq_true rfl), (by show _ ≤ 2 * n + 6; omega)⟩) hS (fun q _ h => hFc q h) hFc (fun u t H1 locs ht hvm hw_6 hB hz1 hk1 hS => ?_)
  obtain ⟨qa_7, cA_8⟩ := u
  obtain ⟨hP1, hK1, hD1⟩ := hB
  rw [ht] at hP1
  have hK1 := va_K.moved hvm.symm hK1
  try dsimp only at hw_6
  obtain ⟨hP, hD⟩ := va_join (wr := [(h0, .inr (5, [.ref q_1, .null])), (q_1, .inr (11, [.ref qa_3, .int (nI 0), .int (nI 0)])), (qa_3, .inl (cA_4, n, .inl (fun _ => 0)))]) (w1 := [(q_5, .inr (11, [.ref qa_7, .int (nI 0), .int (nI 0)])), (qa_7, .inl (cA_8, n, .inl (fun _ => 0)))]) hP hD [3] [0, 1, 2] rfl rfl (by decide) (by decide) hk1 hFc hP1 hD1
  have hK := (hK.sub (tys' := [(cA_4, .int)]) [0] rfl).app hK1
  generalize H1 = H at hP hS ⊢
  have hP : va_P (dC, dI) vwCl ([(h0, .inr (5, [.ref q_1, .null])), (q_1, .inr (11, [.ref qa_3, .int (nI 0), .int (nI 0)])), (qa_3, .inl (cA_4, n, .inl (fun _ => 0))), (q_5, .inr (11, [.ref qa_7, .int (nI 0), .int (nI 0)])), (qa_7, .inl (cA_8, n, .inl (fun _ => 0)))]) H := hP
  have hD : va_D A ([(h0, .inr (5, [.ref q_1, .null])), (q_1, .inr (11, [.ref qa_3, .int (nI 0), .int (nI 0)])), (qa_3, .inl (cA_4, n, .inl (fun _ => 0))), (q_5, .inr (11, [.ref qa_7, .int (nI 0), .int (nI 0)])), (qa_7, .inl (cA_8, n, .inl (fun _ => 0)))]) := hD
  have hK : va_K (dC, dI) vwCl [(cA_4, .int), (cA_8, .int)] s := hK
  refine W.cs (cells' := 4) (slots' := 3 + n + 3 + n) (by omega) (by omega) ?_
  refine va_putF (D := (dC, dI)) (ci := 5) (v := .ref q_5) (ty := .object "GradientDesk$Whole") (C := RX2) (T := TX2) (N := 2) hx hb hts bk2 tyX2 tyX2_ok nmX2 hown hK hP hD hS 0 rfl rfl 1 (by decide) (hts (.fieldLink RX2 18 "GradientDesk$Fraction" "bottom" "LGradientDesk$Whole;") (List.mem_of_getElem? (i := 10) rfl)) (fun _ h9 => h9) rfl hin rfl (by decide +kernel) rfl rfl (Nat.le_of_ble_eq_true rfl) dX2_init_25 (fun H locs hP hD hS => ?_)
  have hP : va_P (dC, dI) vwCl ([(h0, .inr (5, [.ref q_1, .ref q_5])), (q_1, .inr (11, [.ref qa_3, .int (nI 0), .int (nI 0)])), (qa_3, .inl (cA_4, n, .inl (fun _ => 0))), (q_5, .inr (11, [.ref qa_7, .int (nI 0), .int (nI 0)])), (qa_7, .inl (cA_8, n, .inl (fun _ => 0)))]) H := hP
  have hD : va_D A ([(h0, .inr (5, [.ref q_1, .ref q_5])), (q_1, .inr (11, [.ref qa_3, .int (nI 0), .int (nI 0)])), (qa_3, .inl (cA_4, n, .inl (fun _ => 0))), (q_5, .inr (11, [.ref qa_7, .int (nI 0), .int (nI 0)])), (qa_7, .inl (cA_8, n, .inl (fun _ => 0)))]) := hD
  refine lv_aload_n hx hb dX2_init_28 rfl (lv_at hl 0 rfl) ?_
  refine va_get (D := (dC, dI)) (ci := 5) (v := .ref q_5) (C := RX2) (T := TX2) (N := 2) hx hb hts bk2 hown hK hP 0 rfl rfl 1 (by decide) (hts (.fieldLink RX2 18 "GradientDesk$Fraction" "bottom" "LGradientDesk$Whole;") (List.mem_of_getElem? (i := 10) rfl)) (fun _ h9 => h9) rfl dX2_init_29 ?_
  refine lv_lconst (v := lN 1) hx hb dX2_init_32 (by decide +kernel) ?_
  have hPc := hP.sub (ws' := [(q_5, .inr (11, [.ref qa_7, .int (nI 0), .int (nI 0)])), (qa_7, .inl (cA_8, n, .inl (fun _ => 0)))]) [3, 4] rfl
  have hDc := hD.sub (ws' := [(q_5, .inr (11, [.ref qa_7, .int (nI 0), .int (nI 0)])), (qa_7, .inl (cA_8, n, .inl (fun _ => 0)))]) [3, 4] (by decide) rfl
  have hKc := hK.sub (tys' := [(cA_8, .int)]) [1] rfl
  have hFc := va_free (wc := [(q_5, .inr (11, [.ref qa_7, .int (nI 0), .int (nI 0)])), (qa_7, .inl (cA_8, n, .inl (fun _ => 0)))]) hD hS hA [3, 4] rfl
  refine va_callv (va_runV (As := [.long (lN 1)]) (rest := []) ⟨hx, hb, hml, hown, hts⟩ (c_X8_put1 l dC dI (va_A [(q_5, .inr (11, [.ref qa_7, .int (nI 0), .int (nI 0)])), (qa_7, .inl (cA_8, n, .inl (fun _ => 0)))] H.size) H.size (fun _ h => Or.inr h) q_5 qa_7 cA_8 n (fun _ => 0) (nI 0) (nI 0) hn hn2) (cwV 1 hts (goodIn_app (goodIn_r [Cond.methodLink RX2 21 yX8_put, Cond.instanceMethod yX8_put, Cond.selects RX8 yX8_put yX8_put, Cond.initialized RX8] [11, 12, 13, 6] rfl rfl) (goodIn_sub (fun w9 h9 => bk3 w9 h9) gw_X8_put1)) rfl rfl rfl (by decide +kernel) ⟨Nat.le_of_ble_eq_true rfl, Nat.le_of_ble_eq_true rfl⟩) ⟨fun a U g mk q => by obtain ⟨q0, q1, qP, qK, qD⟩ := q; exact ⟨q0, q1, qP, va_K.moved (u := U) (U := U.calling g mk a) (Vm.Alike.refl U.vm) qK, qD⟩, va_recv hKc hPc (ci := 11) (q0 := 0) rfl rfl, fun U hU hW => ⟨rfl, by rw [hU], by rw [hU]; exact hPc, va_K.moved hW.alike hKc, hDc.self⟩⟩ rfl rfl hl.1 rfl (lv_room (Nat.le_of_ble_eq_true rfl)) dX2_init_33 ⟨(Nat.le_of_ble_eq_true rfl), (by show _ ≤ 2 * n + 6; omega)⟩) hS (fun q _ h => hFc q h) hFc (fun u t H1 locs ht hvm hw_9 hB hz1 hk1 hS => ?_)
  obtain ⟨⟩ := u
  obtain ⟨hP1, hK1, hD1⟩ := hB
  rw [ht] at hP1
  have hK1 := va_K.moved hvm.symm hK1
  try dsimp only at hw_9
  obtain ⟨hP, hD⟩ := va_join (wr := [(h0, .inr (5, [.ref q_1, .ref q_5])), (q_1, .inr (11, [.ref qa_3, .int (nI 0), .int (nI 0)])), (qa_3, .inl (cA_4, n, .inl (fun _ => 0)))]) (w1 := [(q_5, .inr (11, [.ref qa_7, .int (nI 1), .int (nI 0)])), (qa_7, .inl (cA_8, n, .inl (upd (fun _ => 0) 0 (nI 1))))]) hP hD [3, 4] [0, 1, 2] rfl rfl (by decide) (by decide) hk1 hFc hP1 hD1
  have hK := (hK.sub (tys' := [(cA_4, .int)]) [0] rfl).app hK1
  generalize H1 = H at hP hS ⊢
  have hP : va_P (dC, dI) vwCl ([(h0, .inr (5, [.ref q_1, .ref q_5])), (q_1, .inr (11, [.ref qa_3, .int (nI 0), .int (nI 0)])), (qa_3, .inl (cA_4, n, .inl (fun _ => 0))), (q_5, .inr (11, [.ref qa_7, .int (nI 1), .int (nI 0)])), (qa_7, .inl (cA_8, n, .inl (upd (fun _ => 0) 0 (nI 1))))]) H := hP
  have hD : va_D A ([(h0, .inr (5, [.ref q_1, .ref q_5])), (q_1, .inr (11, [.ref qa_3, .int (nI 0), .int (nI 0)])), (qa_3, .inl (cA_4, n, .inl (fun _ => 0))), (q_5, .inr (11, [.ref qa_7, .int (nI 1), .int (nI 0)])), (qa_7, .inl (cA_8, n, .inl (upd (fun _ => 0) 0 (nI 1))))]) := hD
  have hK : va_K (dC, dI) vwCl [(cA_4, .int), (cA_8, .int)] s := hK
  have hP9 := hP.sub (ws' := [(h0, .inr (5, [.ref q_1, .ref q_5])), (q_1, .inr (11, [.ref qa_3, .int (nI 0), .int (nI 0)])), (qa_3, .inl (cA_4, n, .inl (fun _ => 0))), (q_5, .inr (11, [.ref qa_7, .int (nI 1), .int (nI 0)])), (qa_7, .inl (cA_8, n, .inl (upd (fun _ => 0) 0 (nI 1))))]) [0, 1, 2, 3, 4] rfl
  have hD9 := hD.sub (ws' := [(h0, .inr (5, [.ref q_1, .ref q_5])), (q_1, .inr (11, [.ref qa_3, .int (nI 0), .int (nI 0)])), (qa_3, .inl (cA_4, n, .inl (fun _ => 0))), (q_5, .inr (11, [.ref qa_7, .int (nI 1), .int (nI 0)])), (qa_7, .inl (cA_8, n, .inl (upd (fun _ => 0) 0 (nI 1))))]) [0, 1, 2, 3, 4] (by decide) rfl
  have hK9 := hK.sub (tys' := [(cA_4, .int), (cA_8, .int)]) [0, 1] rfl
  refine W.widen (k := 4) (n := 2 * n + 6) (by omega) (by omega) ?_
  exact W.vret hx hb hr (fun t ht hW => ⟨⟨(q_1, qa_3, cA_4, q_5, qa_7, cA_8), rfl, trivial, by rw [ht]; exact hP9, va_K.moved hW.alike hK9, hD9⟩, hS.F ht⟩) hS.2.2 dX2_init_36
