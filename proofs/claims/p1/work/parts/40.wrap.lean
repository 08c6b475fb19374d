theorem k_ofWH {l : Launch} {y : MethodName} {ws ws' : List Cond} {rm : Room} {Pc : Array Value → State → Prop} {Qc : Array Value → State → Outcome → State → Prop} {mc ms : Nat} {free : Addr → Prop} {cc : ByteArray} {maxL : Nat} {ret : Option FieldType} {hh : List (Nat × Nat × Nat × Nat)}
    (hy : plainName y.cls = true) (hw : ws = Cond.codeWith y cc maxL ret hh :: ws')
    (body : ∀ p e s m args below meth c s₁, BodyLoose p l y (headSpec ws rm) cc maxL ret e s m args below meth c s₁ → c.maxLocals = maxL → Pc args s →
      W p l e (headSpec ws rm).room s m args below meth c s.heap [] 0 0 (MQ below Qc args s mc ms free) (entryFrame m args maxL)) : Met l y ws rm Pc Qc mc ms free := by
  refine MetFree.of_bodyS (code := cc) (maxLocals := maxL) (ret := ret) hy ?_ ?_
  · intro args s m h hn
    obtain ⟨m9, meth, c, hn9, h1, h2, h3, h4, -, h5, h6, -⟩ := Cond.codeWith_spec (atoms_spec (ws := ws) h _ (by rw [hw]; exact List.mem_cons_self))
    cases hn.symm.trans hn9
    exact ⟨meth, c, h1, h2, h3, h4, h5, h6⟩
  · intro p e s m args below meth c s₁ B hml hP _
    have hh0 : s₁.heap = s.heap := by rw [B.state]; rfl
    obtain ⟨t, a1, o, b1, b2, b3⟩ := body p e s m args below meth c s₁ B hml hP s₁ hh0 (Stand.of_body B)
    exact ⟨t, o, a1, b1, b2, b3⟩
theorem k_Dno {A : Nat → Prop} {X : va_W} {ou : Nat} {v : va_E} (hD : va_D A (X ++ [(ou, v)])) : va_D (fun q => A q ∧ q ≠ ou) X := by
  refine ⟨fun i j x y hi hj hxy => ?_, fun i x hi => ⟨?_, ?_⟩⟩
  · exact hD.1 i j x y (by rw [List.getElem?_append_left (List.getElem?_eq_some_iff.mp hi).1]; exact hi) (by rw [List.getElem?_append_left (List.getElem?_eq_some_iff.mp hj).1]; exact hj) hxy
  · exact hD.2 i x (by rw [List.getElem?_append_left (List.getElem?_eq_some_iff.mp hi).1]; exact hi)
  · intro he
    have hl := (List.getElem?_eq_some_iff.mp hi).1
    have := hD.1 i X.length x (ou, v) (by rw [List.getElem?_append_left hl]; exact hi) (by rw [List.getElem?_append_right (Nat.le_refl _), Nat.sub_self]; rfl) he
    omega
theorem FXr.moved {dC : Nat → ClassId} {dI : Nat → Nat → Nat} {A : Nat → Prop} {h0 : Nat} {q : Nat → Nat} {k : Nat → ClassId} {fr : Nat → Option Nat} {u U : State} {H : Heap} (ha : u.vm.Alike U.vm) (h : FXr dC dI A h0 q k fr u H) : FXr dC dI A h0 q k fr U H := fun j hj => by
  obtain ⟨a, qt, qta, ct, qb, qba, cb, h1, h2, h3, h4⟩ := h j hj
  exact ⟨a, qt, qta, ct, qb, qba, cb, h1, h2, h3, va_K.moved ha h4⟩
def wd_L_type : List Cond := .codeWith yL_type cL_type 6 (some .int) [(0, 11, 14, 13), (0, 11, 18, 15)] :: (([.methodLink RL 7 yX9_type, .instanceMethod yX9_type, .selects RX9 yX9_type yX9_type, .initialized RX9, .classLink RL 13 "java/lang/IllegalArgumentException"] : List Cond) ++ (wd_X9_type ++ ([])))
theorem gw_L_type : wd_L_type.all goodWord = true := k_allc rfl (k_all (by decide +kernel) (k_all (gw_X9_type) (rfl)))
abbrev at_L_type (dC : Nat → ClassId) (dI : Nat → Nat → Nat) (A : Nat → Prop) (h0 : Nat) (q : Nat → Nat) (k : Nat → ClassId) (fr : Nat → Option Nat) (w : Int64) (n : Int32) (ou : Nat) (cO : ClassId) (u : Nat → Int64) (t : State) : Prop := match u with
  | f2 => va_P (dC, dI) vwCl [(ou, .inl (cO, 1, .inr (.inl f2)))] t.heap ∧ va_K (dC, dI) vwCl [(cO, .long)] t ∧ va_D A [(ou, .inl (cO, 1, .inr (.inl f2)))]
set_option maxHeartbeats 4000000 in
set_option maxRecDepth 100000 in
theorem c_L_type (l : Launch) (hlt : l.stackTraces = false) (dC : Nat → ClassId) (dI : Nat → Nat → Nat) (A : Nat → Prop) (sz : Nat) (hA0 : ∀ q, sz ≤ q → A q) (h0 : Nat) (q : Nat → Nat) (k : Nat → ClassId) (fr : Nat → Option Nat) (w : Int64) (n : Int32) (ou : Nat) (cO : ClassId)  : Met l yL_type wd_L_type ({ frames := 30, cells := 10, slots := 60, locals := 600 }) (va_Pc [.ref h0, .long w, .int n, .ref ou] (fun U => U.heap.size = sz ∧ va_P (dC, dI) vwCl [(h0, .inr (12, [.ref (q 0), .ref (q 9), .ref (q 11), .ref (q 17), .ref (q 18), .ref (q 19), .ref (q 26), .ref (q 27), .ref (q 32), .ref (q 33), .ref (q 34), .int (-1)])), (q 9, .inr (10, [.ref (q 10), .int (nI 0), .int (nI 0), .int (nI 0), .int (nI 0)])), (q 10, .inl (k 4, 64, .inl (fun _ => 0))), (ou, .inl (cO, 1, .inr (.inl (fun _ => 0))))] U.heap ∧ va_K (dC, dI) vwCl [(k 4, .char), (cO, .long)] U ∧ va_D A [(h0, .inr (12, [.ref (q 0), .ref (q 9), .ref (q 11), .ref (q 17), .ref (q 18), .ref (q 19), .ref (q 26), .ref (q 27), .ref (q 32), .ref (q 33), .ref (q 34), .int (-1)])), (q 9, .inr (10, [.ref (q 10), .int (nI 0), .int (nI 0), .int (nI 0), .int (nI 0)])), (q 10, .inl (k 4, 64, .inl (fun _ => 0))), (ou, .inl (cO, 1, .inr (.inl (fun _ => 0))))] ∧ exF A U U.heap)) (va_Qi (fun (r : Int32) => fun (u : Nat → Int64) => match u with | f2 => (∃ r0 : Int32, (r0 = n ∧ goodT w n) ∧ r = nI 0 ∧ f2 0 = r0.toInt64) ∨ (r = nI 1 ∧ ¬ goodT w n)) (at_L_type dC dI A h0 q k fr w n ou cO) A) (10) (60) A := by
  refine k_ofWH (hh := [(0, 11, 14, 13), (0, 11, 18, 15)]) (cc := cL_type) (maxL := 6) (ret := (some .int)) (by decide) rfl ?_
  intro p e s m args below meth c s₁ B hml hv
  obtain ⟨rfl, hsz, hP, hK, hD, hE⟩ := hv
  have hx := B.exec
  have hb := B.bytes
  have hr := B.returns
  have hts := atoms_spec (ws := wd_L_type) B.pre
  have hown : s.vm.findClass RL = some m.cls := findClass_of_methodNamed B.named
  have hlocks := B.notSynchronized
  have bk0 : ∀ w ∈ wd_X9_type, w ∈ wd_L_type := fun _ h => List.mem_cons_of_mem _ (List.mem_append_right _ (List.mem_append_left _ h))
  subst hsz
  have hA : ∀ q : Nat, s.heap.size ≤ q → A q := hA0
  have hS : va_S A s.heap s.heap [] := va_S.rf
  have hl := lv_entry ([.ref h0, .long w, .int n, .ref ou]) (n := 6) (Nat.le_of_ble_eq_true rfl)
  rw [lg_entry_eq]
  generalize (lg_sl ([.ref h0, .long w, .int n, .ref ou]) ++ List.replicate (6 - (lg_sl ([.ref h0, .long w, .int n, .ref ou])).length) Slot.unset).toArray = ls at hl ⊢
  have hl : lv_has ls 6 [(0, .ref h0), (1, .long w), (3, .int n), (4, .ref ou)] := hl
  have htb : c.exceptionTable.toList = [⟨0, 11, 14, 13⟩, ⟨0, 11, 18, 15⟩] := (vx_table (x := yL_type) B (hts (.codeWith yL_type cL_type 6 (some .int) [(0, 11, 14, 13), (0, 11, 18, 15)]) List.mem_cons_self)).trans rfl
  refine lv_aload hx hb dL_type_0 (lv_at hl 3 rfl) ?_
  refine lv_iconst (v := nI 0) hx hb dL_type_2 (by decide +kernel) ?_
  refine lv_aload_n hx hb dL_type_3 rfl (lv_at hl 0 rfl) ?_
  refine lv_lload_n hx hb dL_type_4 rfl (lv_at hl 1 rfl) ?_
  refine lv_iload_n hx hb dL_type_5 rfl (lv_at hl 2 rfl) ?_
  have hPc := hP.sub (ws' := [(h0, .inr (12, [.ref (q 0), .ref (q 9), .ref (q 11), .ref (q 17), .ref (q 18), .ref (q 19), .ref (q 26), .ref (q 27), .ref (q 32), .ref (q 33), .ref (q 34), .int (-1)])), (q 9, .inr (10, [.ref (q 10), .int (nI 0), .int (nI 0), .int (nI 0), .int (nI 0)])), (q 10, .inl (k 4, 64, .inl (fun _ => 0)))]) [0, 1, 2] rfl
  have hKc := hK.sub (tys' := [(k 4, .char)]) [0] rfl
  have hDc : va_D (fun q9 => A q9 ∧ q9 ≠ ou) [(h0, .inr (12, [.ref (q 0), .ref (q 9), .ref (q 11), .ref (q 17), .ref (q 18), .ref (q 19), .ref (q 26), .ref (q 27), .ref (q 32), .ref (q 33), .ref (q 34), .int (-1)])), (q 9, .inr (10, [.ref (q 10), .int (nI 0), .int (nI 0), .int (nI 0), .int (nI 0)])), (q 10, .inl (k 4, 64, .inl (fun _ => 0)))] := k_Dno (X := [(h0, .inr (12, [.ref (q 0), .ref (q 9), .ref (q 11), .ref (q 17), .ref (q 18), .ref (q 19), .ref (q 26), .ref (q 27), .ref (q 32), .ref (q 33), .ref (q 34), .int (-1)])), (q 9, .inr (10, [.ref (q 10), .int (nI 0), .int (nI 0), .int (nI 0), .int (nI 0)])), (q 10, .inl (k 4, 64, .inl (fun _ => 0)))]) hD
  have hFc : ∀ q9, (fun q9 => A q9 ∧ q9 ≠ ou) q9 → A q9 := fun _ h => h.1
  have hoL := (hP 3 _ rfl).lt
  have hA2 : ∀ q9, s.heap.size ≤ q9 → (fun q9 => A q9 ∧ q9 ≠ ou) q9 := fun q9 h => ⟨hA0 q9 h, by intro he; subst he; exact absurd hoL (Nat.not_lt.mpr h)⟩
  refine vx_calli (vx_runV (As := [.long w, .int n]) (rest := [.int (nI 0), .ref ou]) ⟨hx, hb, hml, hown, hts⟩ (c_X9_type l hlt dC dI (fun q9 => A q9 ∧ q9 ≠ ou) s.heap.size hA2 h0 q k fr w n) (cwV 2 hts (goodIn_app (goodIn_r [Cond.methodLink RL 7 yX9_type, Cond.instanceMethod yX9_type, Cond.selects RX9 yX9_type yX9_type, Cond.initialized RX9] [1, 2, 3, 4] rfl rfl) (goodIn_sub (fun w9 h9 => bk0 w9 h9) gw_X9_type)) rfl rfl rfl (by decide +kernel) ⟨Nat.le_of_ble_eq_true rfl, Nat.le_of_ble_eq_true rfl⟩) ⟨fun a U g mk q => by obtain ⟨q0, q1, qP, qK, qD, qE⟩ := q; exact ⟨q0, q1, qP, va_K.moved (u := U) (U := U.calling g mk a) (Vm.Alike.refl U.vm) qK, qD, exF.same rfl rfl qE⟩, va_recv hKc hPc (ci := 12) (q0 := 0) rfl rfl, fun U hU hW => ⟨rfl, by rw [hU], by rw [hU]; exact hPc, va_K.moved hW.alike hKc, hDc, by rw [hU]; exact exF.warm hW (hE.narrow hFc)⟩⟩ rfl rfl hl.1 rfl (lv_room (Nat.le_of_ble_eq_true rfl)) dL_type_6 ⟨Nat.le_of_ble_eq_true rfl, Nat.le_of_ble_eq_true rfl⟩) hS (fun q _ h => hFc q h) hFc (fun q _ h => hFc q h) (fun E ce q9 u t H1 locs1 ht hvm hpx hbx hz1 hk1 hS hce hcv hcl => ?_) (fun r_1 u t H1 locs ht hvm hw_2 hB hz1 hk1 hS => ?_)
  · obtain ⟨dx1, dx2, dx3, dx4, dx5, dx6, dx7, dx8, dx9⟩ := hE.2.2.2
    obtain ⟨rfl, hx9⟩ := hbx
    refine k_catch1 (own := RL) (name := "java/lang/IllegalArgumentException") hown ⟨0, 11, 14, 13⟩ _ htb (by decide) (by decide) (hts (.classLink RL 13 "java/lang/IllegalArgumentException") (List.mem_of_getElem? (i := 5) rfl)) (va_Nw.use rfl dx4) hce hcv hcl ?_
    have hP : va_P (dC, dI) vwCl [(ou, .inl (cO, 1, .inr (.inl (fun _ => 0))))] H1 := (hP.sub (ws' := [(ou, .inl (cO, 1, .inr (.inl (fun _ => 0))))]) [3] rfl).kept (fun k9 q8 h9 => by rcases k9 with _ | k9; (cases h9; exact hk1 _ hoL (fun h => h.2 rfl)); cases h9)
    have hD := hD.sub (ws' := [(ou, .inl (cO, 1, .inr (.inl (fun _ => 0))))]) [3] (by decide) rfl
    have hK := hK.sub (tys' := [(cO, .long)]) [1] rfl
    generalize H1 = H at hP hS ⊢
    have hP : va_P (dC, dI) vwCl ([(ou, .inl (cO, 1, .inr (.inl (fun _ => 0))))]) H := hP
    have hD : va_D A ([(ou, .inl (cO, 1, .inr (.inl (fun _ => 0))))]) := hD
    have hK : va_K (dC, dI) vwCl [(cO, .long)] s := hK
    refine W.cs (cells' := 10) (slots' := 60) (by omega) (by omega) ?_
    refine lv_astore (lv' := [(5, .ref q9), (0, .ref h0), (1, .long w), (3, .int n), (4, .ref ou)]) hx hb dL_type_14 hl (by decide) rfl (fun ls hl => ?_)
    refine lv_iconst (v := nI 1) hx hb dL_type_16 (by decide +kernel) ?_
    have hP9 := hP.sub (ws' := [(ou, .inl (cO, 1, .inr (.inl (fun _ => 0))))]) [0] rfl
    have hD9 := hD.sub (ws' := [(ou, .inl (cO, 1, .inr (.inl (fun _ => 0))))]) [0] (by decide) rfl
    have hK9 := hK.sub (tys' := [(cO, .long)]) [0] rfl
    refine W.widen (k := 10) (n := 60) (by omega) (by omega) ?_
    exact W.iret (v := nI 1) hx hb hr (fun t ht hW => ⟨⟨nI 1, (fun _ => 0), rfl, Or.inr ⟨rfl, hx9⟩, by rw [ht]; exact hP9, va_K.moved hW.alike hK9, hD9⟩, hS.F ht⟩) hS.2.2 dL_type_17
  · obtain ⟨⟩ := u
    try dsimp only at hw_2
    have hP : va_P (dC, dI) vwCl [(ou, .inl (cO, 1, .inr (.inl (fun _ => 0))))] H1 := (hP.sub (ws' := [(ou, .inl (cO, 1, .inr (.inl (fun _ => 0))))]) [3] rfl).kept (fun k9 q8 h9 => by rcases k9 with _ | k9; (cases h9; exact hk1 _ hoL (fun h => h.2 rfl)); cases h9)
    have hD := hD.sub (ws' := [(ou, .inl (cO, 1, .inr (.inl (fun _ => 0))))]) [3] (by decide) rfl
    have hK := hK.sub (tys' := [(cO, .long)]) [1] rfl
    generalize H1 = H at hP hS ⊢
    have hP : va_P (dC, dI) vwCl ([(ou, .inl (cO, 1, .inr (.inl (fun _ => 0))))]) H := hP
    have hD : va_D A ([(ou, .inl (cO, 1, .inr (.inl (fun _ => 0))))]) := hD
    have hK : va_K (dC, dI) vwCl [(cO, .long)] s := hK
    refine W.cs (cells' := 10) (slots' := 60) (by omega) (by omega) ?_
    refine lv_i2l hx hb dL_type_9 rfl ?_
    refine lv_topl (fun y_3 e_4 => ?_)
    refine va_last hx hb hK hP hD hS 0 0 rfl rfl (vp_in_nI (show 0 < 1 by decide) (by decide)) dL_type_10 (fun H locs hP hD hS => ?_)
    rw [nI_clamp (show 0 < 2 ^ 31 by decide)] at hP hD
    have hP : va_P (dC, dI) vwCl ([(ou, .inl (cO, 1, .inr (.inl (vp_updL ((fun _ => 0)) 0 y_3))))]) H := hP
    have hD : va_D A ([(ou, .inl (cO, 1, .inr (.inl (vp_updL ((fun _ => 0)) 0 y_3))))]) := hD
    refine lv_goto (tgt := 22) hx hb dL_type_11 (by decide) ?_
    refine lv_iconst (v := nI 0) hx hb dL_type_22 (by decide +kernel) ?_
    have hP9 := hP.sub (ws' := [(ou, .inl (cO, 1, .inr (.inl (vp_updL ((fun _ => 0)) 0 y_3))))]) [0] rfl
    have hD9 := hD.sub (ws' := [(ou, .inl (cO, 1, .inr (.inl (vp_updL ((fun _ => 0)) 0 y_3))))]) [0] (by decide) rfl
    have hK9 := hK.sub (tys' := [(cO, .long)]) [0] rfl
    refine W.widen (k := 10) (n := 60) (by omega) (by omega) ?_
    exact W.iret (v := nI 0) hx hb hr (fun t ht hW => ⟨⟨nI 0, (vp_updL ((fun _ => 0)) 0 y_3), rfl, Or.inl ⟨_, hw_2, rfl, e_4⟩, by rw [ht]; exact hP9, va_K.moved hW.alike hK9, hD9⟩, hS.F ht⟩) hS.2.2 dL_type_23
def wd_L_define : List Cond := .codeWith yL_define cL_define 4 (some .int) [(0, 9, 12, 13)] :: (([.methodLink RL 17 yX9_define, .instanceMethod yX9_define, .selects RX9 yX9_define yX9_define, .initialized RX9, .classLink RL 13 "java/lang/IllegalArgumentException"] : List Cond) ++ (wd_X9_define ++ ([])))
theorem gw_L_define : wd_L_define.all goodWord = true := k_allc rfl (k_all (by decide +kernel) (k_all (gw_X9_define) (rfl)))
abbrev at_L_define (dC : Nat → ClassId) (dI : Nat → Nat → Nat) (A : Nat → Prop) (h0 : Nat) (q : Nat → Nat) (k : Nat → ClassId) (fr : Nat → Option Nat) (x : Int32) (ou : Nat) (cO : ClassId) (u : Nat → Int64) (t : State) : Prop := match u with
  | f2 => va_P (dC, dI) vwCl [(ou, .inl (cO, 1, .inr (.inl f2)))] t.heap ∧ va_K (dC, dI) vwCl [(cO, .long)] t ∧ va_D A [(ou, .inl (cO, 1, .inr (.inl f2)))]
set_option maxHeartbeats 4000000 in
set_option maxRecDepth 100000 in
theorem c_L_define (l : Launch) (hlt : l.stackTraces = false) (dC : Nat → ClassId) (dI : Nat → Nat → Nat) (A : Nat → Prop) (sz : Nat) (hA0 : ∀ q, sz ≤ q → A q) (h0 : Nat) (q : Nat → Nat) (k : Nat → ClassId) (fr : Nat → Option Nat) (x : Int32) (ou : Nat) (cO : ClassId)  : Met l yL_define wd_L_define ({ frames := 30, cells := 10, slots := 60, locals := 600 }) (va_Pc [.ref h0, .int x, .ref ou] (fun U => U.heap.size = sz ∧ va_P (dC, dI) vwCl [(h0, .inr (12, [.ref (q 0), .ref (q 9), .ref (q 11), .ref (q 17), .ref (q 18), .ref (q 19), .ref (q 26), .ref (q 27), .ref (q 32), .ref (q 33), .ref (q 34), .int (-1)])), (q 9, .inr (10, [.ref (q 10), .int (nI 0), .int (nI 0), .int (nI 0), .int (nI 0)])), (q 11, .inr (9, [.ref (q 12), .ref (q 13), .int (nI 0), .ref (q 14), .ref (q 0), .ref (q 15), .ref (q 16)])), (ou, .inl (cO, 1, .inr (.inl (fun _ => 0))))] U.heap ∧ va_K (dC, dI) vwCl [(cO, .long)] U ∧ va_D A [(h0, .inr (12, [.ref (q 0), .ref (q 9), .ref (q 11), .ref (q 17), .ref (q 18), .ref (q 19), .ref (q 26), .ref (q 27), .ref (q 32), .ref (q 33), .ref (q 34), .int (-1)])), (q 9, .inr (10, [.ref (q 10), .int (nI 0), .int (nI 0), .int (nI 0), .int (nI 0)])), (q 11, .inr (9, [.ref (q 12), .ref (q 13), .int (nI 0), .ref (q 14), .ref (q 0), .ref (q 15), .ref (q 16)])), (ou, .inl (cO, 1, .inr (.inl (fun _ => 0))))] ∧ exF A U U.heap)) (va_Qi (fun (r : Int32) => fun (u : Nat → Int64) => match u with | f2 => (∃ r0 : Int32, (r0 = -1 ∧ 0 ≤ x.toInt ∧ x.toInt ≤ 7) ∧ r = nI 0 ∧ f2 0 = r0.toInt64) ∨ (r = nI 1 ∧ ¬ (0 ≤ x.toInt ∧ x.toInt ≤ 7))) (at_L_define dC dI A h0 q k fr x ou cO) A) (10) (60) A := by
  refine k_ofWH (hh := [(0, 9, 12, 13)]) (cc := cL_define) (maxL := 4) (ret := (some .int)) (by decide) rfl ?_
  intro p e s m args below meth c s₁ B hml hv
  obtain ⟨rfl, hsz, hP, hK, hD, hE⟩ := hv
  have hx := B.exec
  have hb := B.bytes
  have hr := B.returns
  have hts := atoms_spec (ws := wd_L_define) B.pre
  have hown : s.vm.findClass RL = some m.cls := findClass_of_methodNamed B.named
  have hlocks := B.notSynchronized
  have bk0 : ∀ w ∈ wd_X9_define, w ∈ wd_L_define := fun _ h => List.mem_cons_of_mem _ (List.mem_append_right _ (List.mem_append_left _ h))
  subst hsz
  have hA : ∀ q : Nat, s.heap.size ≤ q → A q := hA0
  have hS : va_S A s.heap s.heap [] := va_S.rf
  have hl := lv_entry ([.ref h0, .int x, .ref ou]) (n := 4) (Nat.le_of_ble_eq_true rfl)
  rw [lg_entry_eq]
  generalize (lg_sl ([.ref h0, .int x, .ref ou]) ++ List.replicate (4 - (lg_sl ([.ref h0, .int x, .ref ou])).length) Slot.unset).toArray = ls at hl ⊢
  have hl : lv_has ls 4 [(0, .ref h0), (1, .int x), (2, .ref ou)] := hl
  have htb : c.exceptionTable.toList = [⟨0, 9, 12, 13⟩] := (vx_table (x := yL_define) B (hts (.codeWith yL_define cL_define 4 (some .int) [(0, 9, 12, 13)]) List.mem_cons_self)).trans rfl
  refine lv_aload_n hx hb dL_define_0 rfl (lv_at hl 2 rfl) ?_
  refine lv_iconst (v := nI 0) hx hb dL_define_1 (by decide +kernel) ?_
  refine lv_aload_n hx hb dL_define_2 rfl (lv_at hl 0 rfl) ?_
  refine lv_iload_n hx hb dL_define_3 rfl (lv_at hl 1 rfl) ?_
  have hPc := hP.sub (ws' := [(h0, .inr (12, [.ref (q 0), .ref (q 9), .ref (q 11), .ref (q 17), .ref (q 18), .ref (q 19), .ref (q 26), .ref (q 27), .ref (q 32), .ref (q 33), .ref (q 34), .int (-1)])), (q 9, .inr (10, [.ref (q 10), .int (nI 0), .int (nI 0), .int (nI 0), .int (nI 0)])), (q 11, .inr (9, [.ref (q 12), .ref (q 13), .int (nI 0), .ref (q 14), .ref (q 0), .ref (q 15), .ref (q 16)]))]) [0, 1, 2] rfl
  have hKc := hK.sub (tys' := []) [] rfl
  have hDc : va_D (fun q9 => A q9 ∧ q9 ≠ ou) [(h0, .inr (12, [.ref (q 0), .ref (q 9), .ref (q 11), .ref (q 17), .ref (q 18), .ref (q 19), .ref (q 26), .ref (q 27), .ref (q 32), .ref (q 33), .ref (q 34), .int (-1)])), (q 9, .inr (10, [.ref (q 10), .int (nI 0), .int (nI 0), .int (nI 0), .int (nI 0)])), (q 11, .inr (9, [.ref (q 12), .ref (q 13), .int (nI 0), .ref (q 14), .ref (q 0), .ref (q 15), .ref (q 16)]))] := k_Dno (X := [(h0, .inr (12, [.ref (q 0), .ref (q 9), .ref (q 11), .ref (q 17), .ref (q 18), .ref (q 19), .ref (q 26), .ref (q 27), .ref (q 32), .ref (q 33), .ref (q 34), .int (-1)])), (q 9, .inr (10, [.ref (q 10), .int (nI 0), .int (nI 0), .int (nI 0), .int (nI 0)])), (q 11, .inr (9, [.ref (q 12), .ref (q 13), .int (nI 0), .ref (q 14), .ref (q 0), .ref (q 15), .ref (q 16)]))]) hD
  have hFc : ∀ q9, (fun q9 => A q9 ∧ q9 ≠ ou) q9 → A q9 := fun _ h => h.1
  have hoL := (hP 3 _ rfl).lt
  have hA2 : ∀ q9, s.heap.size ≤ q9 → (fun q9 => A q9 ∧ q9 ≠ ou) q9 := fun q9 h => ⟨hA0 q9 h, by intro he; subst he; exact absurd hoL (Nat.not_lt.mpr h)⟩
  refine vx_calli (vx_runV (As := [.int x]) (rest := [.int (nI 0), .ref ou]) ⟨hx, hb, hml, hown, hts⟩ (c_X9_define l hlt dC dI (fun q9 => A q9 ∧ q9 ≠ ou) s.heap.size hA2 h0 q k fr x) (cwV 1 hts (goodIn_app (goodIn_r [Cond.methodLink RL 17 yX9_define, Cond.instanceMethod yX9_define, Cond.selects RX9 yX9_define yX9_define, Cond.initialized RX9] [1, 2, 3, 4] rfl rfl) (goodIn_sub (fun w9 h9 => bk0 w9 h9) gw_X9_define)) rfl rfl rfl (by decide +kernel) ⟨Nat.le_of_ble_eq_true rfl, Nat.le_of_ble_eq_true rfl⟩) ⟨fun a U g mk q => by obtain ⟨q0, q1, qP, qK, qD, qE⟩ := q; exact ⟨q0, q1, qP, va_K.moved (u := U) (U := U.calling g mk a) (Vm.Alike.refl U.vm) qK, qD, exF.same rfl rfl qE⟩, va_recv hKc hPc (ci := 12) (q0 := 0) rfl rfl, fun U hU hW => ⟨rfl, by rw [hU], by rw [hU]; exact hPc, va_K.moved hW.alike hKc, hDc, by rw [hU]; exact exF.warm hW (hE.narrow hFc)⟩⟩ rfl rfl hl.1 rfl (lv_room (Nat.le_of_ble_eq_true rfl)) dL_define_4 ⟨Nat.le_of_ble_eq_true rfl, Nat.le_of_ble_eq_true rfl⟩) hS (fun q _ h => hFc q h) hFc (fun q _ h => hFc q h) (fun E ce q9 u t H1 locs1 ht hvm hpx hbx hz1 hk1 hS hce hcv hcl => ?_) (fun r_1 u t H1 locs ht hvm hw_2 hB hz1 hk1 hS => ?_)
  · obtain ⟨dx1, dx2, dx3, dx4, dx5, dx6, dx7, dx8, dx9⟩ := hE.2.2.2
    obtain ⟨rfl, hx9⟩ := hbx
    refine k_catch1 (own := RL) (name := "java/lang/IllegalArgumentException") hown ⟨0, 9, 12, 13⟩ _ htb (by decide) (by decide) (hts (.classLink RL 13 "java/lang/IllegalArgumentException") (List.mem_of_getElem? (i := 5) rfl)) (va_Nw.use rfl dx4) hce hcv hcl ?_
    have hP : va_P (dC, dI) vwCl [(ou, .inl (cO, 1, .inr (.inl (fun _ => 0))))] H1 := (hP.sub (ws' := [(ou, .inl (cO, 1, .inr (.inl (fun _ => 0))))]) [3] rfl).kept (fun k9 q8 h9 => by rcases k9 with _ | k9; (cases h9; exact hk1 _ hoL (fun h => h.2 rfl)); cases h9)
    have hD := hD.sub (ws' := [(ou, .inl (cO, 1, .inr (.inl (fun _ => 0))))]) [3] (by decide) rfl
    have hK := hK.sub (tys' := [(cO, .long)]) [0] rfl
    generalize H1 = H at hP hS ⊢
    have hP : va_P (dC, dI) vwCl ([(ou, .inl (cO, 1, .inr (.inl (fun _ => 0))))]) H := hP
    have hD : va_D A ([(ou, .inl (cO, 1, .inr (.inl (fun _ => 0))))]) := hD
    have hK : va_K (dC, dI) vwCl [(cO, .long)] s := hK
    refine W.cs (cells' := 10) (slots' := 60) (by omega) (by omega) ?_
    refine lv_astore_n (lv' := [(3, .ref q9), (0, .ref h0), (1, .int x), (2, .ref ou)]) hx hb dL_define_12 rfl hl (by decide) rfl (fun ls hl => ?_)
    refine lv_iconst (v := nI 1) hx hb dL_define_13 (by decide +kernel) ?_
    have hP9 := hP.sub (ws' := [(ou, .inl (cO, 1, .inr (.inl (fun _ => 0))))]) [0] rfl
    have hD9 := hD.sub (ws' := [(ou, .inl (cO, 1, .inr (.inl (fun _ => 0))))]) [0] (by decide) rfl
    have hK9 := hK.sub (tys' := [(cO, .long)]) [0] rfl
    refine W.widen (k := 10) (n := 60) (by omega) (by omega) ?_
    exact W.iret (v := nI 1) hx hb hr (fun t ht hW => ⟨⟨nI 1, (fun _ => 0), rfl, Or.inr ⟨rfl, hx9⟩, by rw [ht]; exact hP9, va_K.moved hW.alike hK9, hD9⟩, hS.F ht⟩) hS.2.2 dL_define_14
  · obtain ⟨⟩ := u
    try dsimp only at hw_2
    have hP : va_P (dC, dI) vwCl [(ou, .inl (cO, 1, .inr (.inl (fun _ => 0))))] H1 := (hP.sub (ws' := [(ou, .inl (cO, 1, .inr (.inl (fun _ => 0))))]) [3] rfl).kept (fun k9 q8 h9 => by rcases k9 with _ | k9; (cases h9; exact hk1 _ hoL (fun h => h.2 rfl)); cases h9)
    have hD := hD.sub (ws' := [(ou, .inl (cO, 1, .inr (.inl (fun _ => 0))))]) [3] (by decide) rfl
    have hK := hK.sub (tys' := [(cO, .long)]) [0] rfl
    generalize H1 = H at hP hS ⊢
    have hP : va_P (dC, dI) vwCl ([(ou, .inl (cO, 1, .inr (.inl (fun _ => 0))))]) H := hP
    have hD : va_D A ([(ou, .inl (cO, 1, .inr (.inl (fun _ => 0))))]) := hD
    have hK : va_K (dC, dI) vwCl [(cO, .long)] s := hK
    refine W.cs (cells' := 10) (slots' := 60) (by omega) (by omega) ?_
    refine lv_i2l hx hb dL_define_7 rfl ?_
    refine lv_topl (fun y_3 e_4 => ?_)
    refine va_last hx hb hK hP hD hS 0 0 rfl rfl (vp_in_nI (show 0 < 1 by decide) (by decide)) dL_define_8 (fun H locs hP hD hS => ?_)
    rw [nI_clamp (show 0 < 2 ^ 31 by decide)] at hP hD
    have hP : va_P (dC, dI) vwCl ([(ou, .inl (cO, 1, .inr (.inl (vp_updL ((fun _ => 0)) 0 y_3))))]) H := hP
    have hD : va_D A ([(ou, .inl (cO, 1, .inr (.inl (vp_updL ((fun _ => 0)) 0 y_3))))]) := hD
    refine lv_goto (tgt := 15) hx hb dL_define_9 (by decide) ?_
    refine lv_iconst (v := nI 0) hx hb dL_define_15 (by decide +kernel) ?_
    have hP9 := hP.sub (ws' := [(ou, .inl (cO, 1, .inr (.inl (vp_updL ((fun _ => 0)) 0 y_3))))]) [0] rfl
    have hD9 := hD.sub (ws' := [(ou, .inl (cO, 1, .inr (.inl (vp_updL ((fun _ => 0)) 0 y_3))))]) [0] (by decide) rfl
    have hK9 := hK.sub (tys' := [(cO, .long)]) [0] rfl
    refine W.widen (k := 10) (n := 60) (by omega) (by omega) ?_
    exact W.iret (v := nI 0) hx hb hr (fun t ht hW => ⟨⟨nI 0, (vp_updL ((fun _ => 0)) 0 y_3), rfl, Or.inl ⟨_, hw_2, rfl, e_4⟩, by rw [ht]; exact hP9, va_K.moved hW.alike hK9, hD9⟩, hS.F ht⟩) hS.2.2 dL_define_16
def wd_L_derive : List Cond := .codeWith yL_derive cL_derive 6 (some .int) [(0, 12, 15, 13), (0, 12, 19, 25)] :: (([.methodLink RL 21 yX9_derive, .instanceMethod yX9_derive, .selects RX9 yX9_derive yX9_derive, .initialized RX9, .classLink RL 13 "java/lang/IllegalArgumentException", .classLink RL 25 "java/util/NoSuchElementException"] : List Cond) ++ (wd_X9_derive ++ ([])))
theorem gw_L_derive : wd_L_derive.all goodWord = true := k_allc rfl (k_all (by decide +kernel) (k_all (gw_X9_derive) (rfl)))
abbrev at_L_derive (dC : Nat → ClassId) (dI : Nat → Nat → Nat) (A : Nat → Prop) (h0 : Nat) (q : Nat → Nat) (k : Nat → ClassId) (fr : Nat → Option Nat) (x : Int32) (x1 : Int32) (x2 : Int32) (ou : Nat) (cO : ClassId) (u : Nat → Int64) (t : State) : Prop := match u with
  | f2 => va_P (dC, dI) vwCl [(ou, .inl (cO, 1, .inr (.inl f2)))] t.heap ∧ va_K (dC, dI) vwCl [(cO, .long)] t ∧ va_D A [(ou, .inl (cO, 1, .inr (.inl f2)))]
set_option maxHeartbeats 4000000 in
set_option maxRecDepth 100000 in
theorem c_L_derive (l : Launch) (hlt : l.stackTraces = false) (dC : Nat → ClassId) (dI : Nat → Nat → Nat) (A : Nat → Prop) (sz : Nat) (hA0 : ∀ q, sz ≤ q → A q) (h0 : Nat) (q : Nat → Nat) (k : Nat → ClassId) (fr : Nat → Option Nat) (x : Int32) (x1 : Int32) (x2 : Int32) (ou : Nat) (cO : ClassId)  : Met l yL_derive wd_L_derive ({ frames := 30, cells := 10, slots := 60, locals := 600 }) (va_Pc [.ref h0, .int x, .int x1, .int x2, .ref ou] (fun U => U.heap.size = sz ∧ va_P (dC, dI) vwCl [(h0, .inr (12, [.ref (q 0), .ref (q 9), .ref (q 11), .ref (q 17), .ref (q 18), .ref (q 19), .ref (q 26), .ref (q 27), .ref (q 32), .ref (q 33), .ref (q 34), .int (-1)])), (q 32, .inl (k 8, 8, .inl (va_cpy (fun _ => -1) (fun _ => 0) 0 0 8))), (ou, .inl (cO, 1, .inr (.inl (fun _ => 0))))] U.heap ∧ va_K (dC, dI) vwCl [(k 8, .int), (cO, .long)] U ∧ va_D A [(h0, .inr (12, [.ref (q 0), .ref (q 9), .ref (q 11), .ref (q 17), .ref (q 18), .ref (q 19), .ref (q 26), .ref (q 27), .ref (q 32), .ref (q 33), .ref (q 34), .int (-1)])), (q 32, .inl (k 8, 8, .inl (va_cpy (fun _ => -1) (fun _ => 0) 0 0 8))), (ou, .inl (cO, 1, .inr (.inl (fun _ => 0))))] ∧ exF A U U.heap)) (va_Qi (fun (r : Int32) => fun (u : Nat → Int64) => match u with | f2 => (r = nI 1 ∧ ¬ ((0 ≤ x.toInt ∧ x.toInt ≤ 7) ∧ (0 ≤ x1.toInt ∧ x1.toInt ≤ 2) ∧ (0 ≤ x2.toInt ∧ x2.toInt ≤ 7))) ∨ (r = nI 2 ∧ ((0 ≤ x.toInt ∧ x.toInt ≤ 7) ∧ (0 ≤ x1.toInt ∧ x1.toInt ≤ 2) ∧ (0 ≤ x2.toInt ∧ x2.toInt ≤ 7)))) (at_L_derive dC dI A h0 q k fr x x1 x2 ou cO) A) (10) (60) A := by
  refine k_ofWH (hh := [(0, 12, 15, 13), (0, 12, 19, 25)]) (cc := cL_derive) (maxL := 6) (ret := (some .int)) (by decide) rfl ?_
  intro p e s m args below meth c s₁ B hml hv
  obtain ⟨rfl, hsz, hP, hK, hD, hE⟩ := hv
  have hx := B.exec
  have hb := B.bytes
  have hr := B.returns
  have hts := atoms_spec (ws := wd_L_derive) B.pre
  have hown : s.vm.findClass RL = some m.cls := findClass_of_methodNamed B.named
  have hlocks := B.notSynchronized
  have bk0 : ∀ w ∈ wd_X9_derive, w ∈ wd_L_derive := fun _ h => List.mem_cons_of_mem _ (List.mem_append_right _ (List.mem_append_left _ h))
  subst hsz
  have hA : ∀ q : Nat, s.heap.size ≤ q → A q := hA0
  have hS : va_S A s.heap s.heap [] := va_S.rf
  have hl := lv_entry ([.ref h0, .int x, .int x1, .int x2, .ref ou]) (n := 6) (Nat.le_of_ble_eq_true rfl)
  rw [lg_entry_eq]
  generalize (lg_sl ([.ref h0, .int x, .int x1, .int x2, .ref ou]) ++ List.replicate (6 - (lg_sl ([.ref h0, .int x, .int x1, .int x2, .ref ou])).length) Slot.unset).toArray = ls at hl ⊢
  have hl : lv_has ls 6 [(0, .ref h0), (1, .int x), (2, .int x1), (3, .int x2), (4, .ref ou)] := hl
  have htb : c.exceptionTable.toList = [⟨0, 12, 15, 13⟩, ⟨0, 12, 19, 25⟩] := (vx_table (x := yL_derive) B (hts (.codeWith yL_derive cL_derive 6 (some .int) [(0, 12, 15, 13), (0, 12, 19, 25)]) List.mem_cons_self)).trans rfl
  refine lv_aload hx hb dL_derive_0 (lv_at hl 4 rfl) ?_
  refine lv_iconst (v := nI 0) hx hb dL_derive_2 (by decide +kernel) ?_
  refine lv_aload_n hx hb dL_derive_3 rfl (lv_at hl 0 rfl) ?_
  refine lv_iload_n hx hb dL_derive_4 rfl (lv_at hl 1 rfl) ?_
  refine lv_iload_n hx hb dL_derive_5 rfl (lv_at hl 2 rfl) ?_
  refine lv_iload_n hx hb dL_derive_6 rfl (lv_at hl 3 rfl) ?_
  have hPc := hP.sub (ws' := [(h0, .inr (12, [.ref (q 0), .ref (q 9), .ref (q 11), .ref (q 17), .ref (q 18), .ref (q 19), .ref (q 26), .ref (q 27), .ref (q 32), .ref (q 33), .ref (q 34), .int (-1)])), (q 32, .inl (k 8, 8, .inl (va_cpy (fun _ => -1) (fun _ => 0) 0 0 8)))]) [0, 1] rfl
  have hKc := hK.sub (tys' := [(k 8, .int)]) [0] rfl
  have hDc : va_D (fun q9 => A q9 ∧ q9 ≠ ou) [(h0, .inr (12, [.ref (q 0), .ref (q 9), .ref (q 11), .ref (q 17), .ref (q 18), .ref (q 19), .ref (q 26), .ref (q 27), .ref (q 32), .ref (q 33), .ref (q 34), .int (-1)])), (q 32, .inl (k 8, 8, .inl (va_cpy (fun _ => -1) (fun _ => 0) 0 0 8)))] := k_Dno (X := [(h0, .inr (12, [.ref (q 0), .ref (q 9), .ref (q 11), .ref (q 17), .ref (q 18), .ref (q 19), .ref (q 26), .ref (q 27), .ref (q 32), .ref (q 33), .ref (q 34), .int (-1)])), (q 32, .inl (k 8, 8, .inl (va_cpy (fun _ => -1) (fun _ => 0) 0 0 8)))]) hD
  have hFc : ∀ q9, (fun q9 => A q9 ∧ q9 ≠ ou) q9 → A q9 := fun _ h => h.1
  have hoL := (hP 2 _ rfl).lt
  have hA2 : ∀ q9, s.heap.size ≤ q9 → (fun q9 => A q9 ∧ q9 ≠ ou) q9 := fun q9 h => ⟨hA0 q9 h, by intro he; subst he; exact absurd hoL (Nat.not_lt.mpr h)⟩
  refine vx_calli (vx_runV (As := [.int x, .int x1, .int x2]) (rest := [.int (nI 0), .ref ou]) ⟨hx, hb, hml, hown, hts⟩ (c_X9_derive l hlt dC dI (fun q9 => A q9 ∧ q9 ≠ ou) s.heap.size hA2 h0 q k fr x x1 x2) (cwV 3 hts (goodIn_app (goodIn_r [Cond.methodLink RL 21 yX9_derive, Cond.instanceMethod yX9_derive, Cond.selects RX9 yX9_derive yX9_derive, Cond.initialized RX9] [1, 2, 3, 4] rfl rfl) (goodIn_sub (fun w9 h9 => bk0 w9 h9) gw_X9_derive)) rfl rfl rfl (by decide +kernel) ⟨Nat.le_of_ble_eq_true rfl, Nat.le_of_ble_eq_true rfl⟩) ⟨fun a U g mk q => by obtain ⟨q0, q1, qP, qK, qD, qE⟩ := q; exact ⟨q0, q1, qP, va_K.moved (u := U) (U := U.calling g mk a) (Vm.Alike.refl U.vm) qK, qD, exF.same rfl rfl qE⟩, va_recv hKc hPc (ci := 12) (q0 := 0) rfl rfl, fun U hU hW => ⟨rfl, by rw [hU], by rw [hU]; exact hPc, va_K.moved hW.alike hKc, hDc, by rw [hU]; exact exF.warm hW (hE.narrow hFc)⟩⟩ rfl rfl hl.1 rfl (lv_room (Nat.le_of_ble_eq_true rfl)) dL_derive_7 ⟨Nat.le_of_ble_eq_true rfl, Nat.le_of_ble_eq_true rfl⟩) hS (fun q _ h => hFc q h) hFc (fun q _ h => hFc q h) (fun E ce q9 u t H1 locs1 ht hvm hpx hbx hz1 hk1 hS hce hcv hcl => ?_) (fun r_1 u t H1 locs ht hvm hw_2 hB hz1 hk1 hS => ?_)
  · obtain ⟨dx1, dx2, dx3, dx4, dx5, dx6, dx7, dx8, dx9⟩ := hE.2.2.2
    rcases hbx with ⟨rfl, hx9⟩ | ⟨rfl, hx9⟩
    · refine k_catch1 (own := RL) (name := "java/lang/IllegalArgumentException") hown ⟨0, 12, 15, 13⟩ _ htb (by decide) (by decide) (hts (.classLink RL 13 "java/lang/IllegalArgumentException") (List.mem_of_getElem? (i := 5) rfl)) (va_Nw.use rfl dx4) hce hcv hcl ?_
      have hP : va_P (dC, dI) vwCl [(ou, .inl (cO, 1, .inr (.inl (fun _ => 0))))] H1 := (hP.sub (ws' := [(ou, .inl (cO, 1, .inr (.inl (fun _ => 0))))]) [2] rfl).kept (fun k9 q8 h9 => by rcases k9 with _ | k9; (cases h9; exact hk1 _ hoL (fun h => h.2 rfl)); cases h9)
      have hD := hD.sub (ws' := [(ou, .inl (cO, 1, .inr (.inl (fun _ => 0))))]) [2] (by decide) rfl
      have hK := hK.sub (tys' := [(cO, .long)]) [1] rfl
      generalize H1 = H at hP hS ⊢
      have hP : va_P (dC, dI) vwCl ([(ou, .inl (cO, 1, .inr (.inl (fun _ => 0))))]) H := hP
      have hD : va_D A ([(ou, .inl (cO, 1, .inr (.inl (fun _ => 0))))]) := hD
      have hK : va_K (dC, dI) vwCl [(cO, .long)] s := hK
      refine W.cs (cells' := 10) (slots' := 60) (by omega) (by omega) ?_
      refine lv_astore (lv' := [(5, .ref q9), (0, .ref h0), (1, .int x), (2, .int x1), (3, .int x2), (4, .ref ou)]) hx hb dL_derive_15 hl (by decide) rfl (fun ls hl => ?_)
      refine lv_iconst (v := nI 1) hx hb dL_derive_17 (by decide +kernel) ?_
      have hP9 := hP.sub (ws' := [(ou, .inl (cO, 1, .inr (.inl (fun _ => 0))))]) [0] rfl
      have hD9 := hD.sub (ws' := [(ou, .inl (cO, 1, .inr (.inl (fun _ => 0))))]) [0] (by decide) rfl
      have hK9 := hK.sub (tys' := [(cO, .long)]) [0] rfl
      refine W.widen (k := 10) (n := 60) (by omega) (by omega) ?_
      exact W.iret (v := nI 1) hx hb hr (fun t ht hW => ⟨⟨nI 1, (fun _ => 0), rfl, (Or.inl ⟨rfl, hx9⟩), by rw [ht]; exact hP9, va_K.moved hW.alike hK9, hD9⟩, hS.F ht⟩) hS.2.2 dL_derive_18
    · refine k_catch2 (own := RL) (name := "java/util/NoSuchElementException") (nm := "java/lang/IllegalArgumentException") hown ⟨0, 12, 15, 13⟩ ⟨0, 12, 19, 25⟩ _ htb (by decide) (by decide) (hts (.classLink RL 13 "java/lang/IllegalArgumentException") (List.mem_of_getElem? (i := 5) rfl)) dx8 (by decide) (by decide) (hts (.classLink RL 25 "java/util/NoSuchElementException") (List.mem_of_getElem? (i := 6) rfl)) (va_Nw.use rfl dx7) hce hcv hcl ?_
      have hP : va_P (dC, dI) vwCl [(ou, .inl (cO, 1, .inr (.inl (fun _ => 0))))] H1 := (hP.sub (ws' := [(ou, .inl (cO, 1, .inr (.inl (fun _ => 0))))]) [2] rfl).kept (fun k9 q8 h9 => by rcases k9 with _ | k9; (cases h9; exact hk1 _ hoL (fun h => h.2 rfl)); cases h9)
      have hD := hD.sub (ws' := [(ou, .inl (cO, 1, .inr (.inl (fun _ => 0))))]) [2] (by decide) rfl
      have hK := hK.sub (tys' := [(cO, .long)]) [1] rfl
      generalize H1 = H at hP hS ⊢
      have hP : va_P (dC, dI) vwCl ([(ou, .inl (cO, 1, .inr (.inl (fun _ => 0))))]) H := hP
      have hD : va_D A ([(ou, .inl (cO, 1, .inr (.inl (fun _ => 0))))]) := hD
      have hK : va_K (dC, dI) vwCl [(cO, .long)] s := hK
      refine W.cs (cells' := 10) (slots' := 60) (by omega) (by omega) ?_
      refine lv_astore (lv' := [(5, .ref q9), (0, .ref h0), (1, .int x), (2, .int x1), (3, .int x2), (4, .ref ou)]) hx hb dL_derive_19 hl (by decide) rfl (fun ls hl => ?_)
      refine lv_iconst (v := nI 2) hx hb dL_derive_21 (by decide +kernel) ?_
      have hP9 := hP.sub (ws' := [(ou, .inl (cO, 1, .inr (.inl (fun _ => 0))))]) [0] rfl
      have hD9 := hD.sub (ws' := [(ou, .inl (cO, 1, .inr (.inl (fun _ => 0))))]) [0] (by decide) rfl
      have hK9 := hK.sub (tys' := [(cO, .long)]) [0] rfl
      refine W.widen (k := 10) (n := 60) (by omega) (by omega) ?_
      exact W.iret (v := nI 2) hx hb hr (fun t ht hW => ⟨⟨nI 2, (fun _ => 0), rfl, (Or.inr ⟨rfl, hx9⟩), by rw [ht]; exact hP9, va_K.moved hW.alike hK9, hD9⟩, hS.F ht⟩) hS.2.2 dL_derive_22
  · exact (hw_2 : False).elim
def wd_L_parts : List Cond := .codeWith yL_parts cL_parts 4 (some .int) [(0, 9, 12, 13), (0, 9, 15, 25)] :: (([.methodLink RL 27 yX9_parts, .instanceMethod yX9_parts, .selects RX9 yX9_parts yX9_parts, .initialized RX9, .classLink RL 13 "java/lang/IllegalArgumentException", .classLink RL 25 "java/util/NoSuchElementException"] : List Cond) ++ (wd_X9_parts ++ ([])))
theorem gw_L_parts : wd_L_parts.all goodWord = true := k_allc rfl (k_all (by decide +kernel) (k_all (gw_X9_parts) (rfl)))
abbrev at_L_parts (dC : Nat → ClassId) (dI : Nat → Nat → Nat) (A : Nat → Prop) (h0 : Nat) (q : Nat → Nat) (k : Nat → ClassId) (fr : Nat → Option Nat) (x : Int32) (ou : Nat) (cO : ClassId) (u : Nat → Int64) (t : State) : Prop := match u with
  | f2 => va_P (dC, dI) vwCl [(ou, .inl (cO, 1, .inr (.inl f2)))] t.heap ∧ va_K (dC, dI) vwCl [(cO, .long)] t ∧ va_D A [(ou, .inl (cO, 1, .inr (.inl f2)))]
set_option maxHeartbeats 4000000 in
set_option maxRecDepth 100000 in
theorem c_L_parts (l : Launch) (hlt : l.stackTraces = false) (dC : Nat → ClassId) (dI : Nat → Nat → Nat) (A : Nat → Prop) (sz : Nat) (hA0 : ∀ q, sz ≤ q → A q) (h0 : Nat) (q : Nat → Nat) (k : Nat → ClassId) (fr : Nat → Option Nat) (x : Int32) (ou : Nat) (cO : ClassId)  : Met l yL_parts wd_L_parts ({ frames := 30, cells := 10, slots := 60, locals := 600 }) (va_Pc [.ref h0, .int x, .ref ou] (fun U => U.heap.size = sz ∧ va_P (dC, dI) vwCl [(h0, .inr (12, [.ref (q 0), .ref (q 9), .ref (q 11), .ref (q 17), .ref (q 18), .ref (q 19), .ref (q 26), .ref (q 27), .ref (q 32), .ref (q 33), .ref (q 34), .int (-1)])), (q 32, .inl (k 8, 8, .inl (va_cpy (fun _ => -1) (fun _ => 0) 0 0 8))), (ou, .inl (cO, 1, .inr (.inl (fun _ => 0))))] U.heap ∧ va_K (dC, dI) vwCl [(k 8, .int), (cO, .long)] U ∧ va_D A [(h0, .inr (12, [.ref (q 0), .ref (q 9), .ref (q 11), .ref (q 17), .ref (q 18), .ref (q 19), .ref (q 26), .ref (q 27), .ref (q 32), .ref (q 33), .ref (q 34), .int (-1)])), (q 32, .inl (k 8, 8, .inl (va_cpy (fun _ => -1) (fun _ => 0) 0 0 8))), (ou, .inl (cO, 1, .inr (.inl (fun _ => 0))))] ∧ exF A U U.heap)) (va_Qi (fun (r : Int32) => fun (u : Nat → Int64) => match u with | f2 => (r = nI 1 ∧ ¬ (0 ≤ x.toInt ∧ x.toInt ≤ 7)) ∨ (r = nI 2 ∧ (0 ≤ x.toInt ∧ x.toInt ≤ 7))) (at_L_parts dC dI A h0 q k fr x ou cO) A) (10) (60) A := by
  refine k_ofWH (hh := [(0, 9, 12, 13), (0, 9, 15, 25)]) (cc := cL_parts) (maxL := 4) (ret := (some .int)) (by decide) rfl ?_
  intro p e s m args below meth c s₁ B hml hv
  obtain ⟨rfl, hsz, hP, hK, hD, hE⟩ := hv
  have hx := B.exec
  have hb := B.bytes
  have hr := B.returns
  have hts := atoms_spec (ws := wd_L_parts) B.pre
  have hown : s.vm.findClass RL = some m.cls := findClass_of_methodNamed B.named
  have hlocks := B.notSynchronized
  have bk0 : ∀ w ∈ wd_X9_parts, w ∈ wd_L_parts := fun _ h => List.mem_cons_of_mem _ (List.mem_append_right _ (List.mem_append_left _ h))
  subst hsz
  have hA : ∀ q : Nat, s.heap.size ≤ q → A q := hA0
  have hS : va_S A s.heap s.heap [] := va_S.rf
  have hl := lv_entry ([.ref h0, .int x, .ref ou]) (n := 4) (Nat.le_of_ble_eq_true rfl)
  rw [lg_entry_eq]
  generalize (lg_sl ([.ref h0, .int x, .ref ou]) ++ List.replicate (4 - (lg_sl ([.ref h0, .int x, .ref ou])).length) Slot.unset).toArray = ls at hl ⊢
  have hl : lv_has ls 4 [(0, .ref h0), (1, .int x), (2, .ref ou)] := hl
  have htb : c.exceptionTable.toList = [⟨0, 9, 12, 13⟩, ⟨0, 9, 15, 25⟩] := (vx_table (x := yL_parts) B (hts (.codeWith yL_parts cL_parts 4 (some .int) [(0, 9, 12, 13), (0, 9, 15, 25)]) List.mem_cons_self)).trans rfl
  refine lv_aload_n hx hb dL_parts_0 rfl (lv_at hl 2 rfl) ?_
  refine lv_iconst (v := nI 0) hx hb dL_parts_1 (by decide +kernel) ?_
  refine lv_aload_n hx hb dL_parts_2 rfl (lv_at hl 0 rfl) ?_
  refine lv_iload_n hx hb dL_parts_3 rfl (lv_at hl 1 rfl) ?_
  have hPc := hP.sub (ws' := [(h0, .inr (12, [.ref (q 0), .ref (q 9), .ref (q 11), .ref (q 17), .ref (q 18), .ref (q 19), .ref (q 26), .ref (q 27), .ref (q 32), .ref (q 33), .ref (q 34), .int (-1)])), (q 32, .inl (k 8, 8, .inl (va_cpy (fun _ => -1) (fun _ => 0) 0 0 8)))]) [0, 1] rfl
  have hKc := hK.sub (tys' := [(k 8, .int)]) [0] rfl
  have hDc : va_D (fun q9 => A q9 ∧ q9 ≠ ou) [(h0, .inr (12, [.ref (q 0), .ref (q 9), .ref (q 11), .ref (q 17), .ref (q 18), .ref (q 19), .ref (q 26), .ref (q 27), .ref (q 32), .ref (q 33), .ref (q 34), .int (-1)])), (q 32, .inl (k 8, 8, .inl (va_cpy (fun _ => -1) (fun _ => 0) 0 0 8)))] := k_Dno (X := [(h0, .inr (12, [.ref (q 0), .ref (q 9), .ref (q 11), .ref (q 17), .ref (q 18), .ref (q 19), .ref (q 26), .ref (q 27), .ref (q 32), .ref (q 33), .ref (q 34), .int (-1)])), (q 32, .inl (k 8, 8, .inl (va_cpy (fun _ => -1) (fun _ => 0) 0 0 8)))]) hD
  have hFc : ∀ q9, (fun q9 => A q9 ∧ q9 ≠ ou) q9 → A q9 := fun _ h => h.1
  have hoL := (hP 2 _ rfl).lt
  have hA2 : ∀ q9, s.heap.size ≤ q9 → (fun q9 => A q9 ∧ q9 ≠ ou) q9 := fun q9 h => ⟨hA0 q9 h, by intro he; subst he; exact absurd hoL (Nat.not_lt.mpr h)⟩
  refine vx_calli (vx_runV (As := [.int x]) (rest := [.int (nI 0), .ref ou]) ⟨hx, hb, hml, hown, hts⟩ (c_X9_parts l hlt dC dI (fun q9 => A q9 ∧ q9 ≠ ou) s.heap.size hA2 h0 q k fr x) (cwV 1 hts (goodIn_app (goodIn_r [Cond.methodLink RL 27 yX9_parts, Cond.instanceMethod yX9_parts, Cond.selects RX9 yX9_parts yX9_parts, Cond.initialized RX9] [1, 2, 3, 4] rfl rfl) (goodIn_sub (fun w9 h9 => bk0 w9 h9) gw_X9_parts)) rfl rfl rfl (by decide +kernel) ⟨Nat.le_of_ble_eq_true rfl, Nat.le_of_ble_eq_true rfl⟩) ⟨fun a U g mk q => by obtain ⟨q0, q1, qP, qK, qD, qE⟩ := q; exact ⟨q0, q1, qP, va_K.moved (u := U) (U := U.calling g mk a) (Vm.Alike.refl U.vm) qK, qD, exF.same rfl rfl qE⟩, va_recv hKc hPc (ci := 12) (q0 := 0) rfl rfl, fun U hU hW => ⟨rfl, by rw [hU], by rw [hU]; exact hPc, va_K.moved hW.alike hKc, hDc, by rw [hU]; exact exF.warm hW (hE.narrow hFc)⟩⟩ rfl rfl hl.1 rfl (lv_room (Nat.le_of_ble_eq_true rfl)) dL_parts_4 ⟨Nat.le_of_ble_eq_true rfl, Nat.le_of_ble_eq_true rfl⟩) hS (fun q _ h => hFc q h) hFc (fun q _ h => hFc q h) (fun E ce q9 u t H1 locs1 ht hvm hpx hbx hz1 hk1 hS hce hcv hcl => ?_) (fun r_1 u t H1 locs ht hvm hw_2 hB hz1 hk1 hS => ?_)
  · obtain ⟨dx1, dx2, dx3, dx4, dx5, dx6, dx7, dx8, dx9⟩ := hE.2.2.2
    rcases hbx with ⟨rfl, hx9⟩ | ⟨rfl, hx9⟩
    · refine k_catch1 (own := RL) (name := "java/lang/IllegalArgumentException") hown ⟨0, 9, 12, 13⟩ _ htb (by decide) (by decide) (hts (.classLink RL 13 "java/lang/IllegalArgumentException") (List.mem_of_getElem? (i := 5) rfl)) (va_Nw.use rfl dx4) hce hcv hcl ?_
      have hP : va_P (dC, dI) vwCl [(ou, .inl (cO, 1, .inr (.inl (fun _ => 0))))] H1 := (hP.sub (ws' := [(ou, .inl (cO, 1, .inr (.inl (fun _ => 0))))]) [2] rfl).kept (fun k9 q8 h9 => by rcases k9 with _ | k9; (cases h9; exact hk1 _ hoL (fun h => h.2 rfl)); cases h9)
      have hD := hD.sub (ws' := [(ou, .inl (cO, 1, .inr (.inl (fun _ => 0))))]) [2] (by decide) rfl
      have hK := hK.sub (tys' := [(cO, .long)]) [1] rfl
      generalize H1 = H at hP hS ⊢
      have hP : va_P (dC, dI) vwCl ([(ou, .inl (cO, 1, .inr (.inl (fun _ => 0))))]) H := hP
      have hD : va_D A ([(ou, .inl (cO, 1, .inr (.inl (fun _ => 0))))]) := hD
      have hK : va_K (dC, dI) vwCl [(cO, .long)] s := hK
      refine W.cs (cells' := 10) (slots' := 60) (by omega) (by omega) ?_
      refine lv_astore_n (lv' := [(3, .ref q9), (0, .ref h0), (1, .int x), (2, .ref ou)]) hx hb dL_parts_12 rfl hl (by decide) rfl (fun ls hl => ?_)
      refine lv_iconst (v := nI 1) hx hb dL_parts_13 (by decide +kernel) ?_
      have hP9 := hP.sub (ws' := [(ou, .inl (cO, 1, .inr (.inl (fun _ => 0))))]) [0] rfl
      have hD9 := hD.sub (ws' := [(ou, .inl (cO, 1, .inr (.inl (fun _ => 0))))]) [0] (by decide) rfl
      have hK9 := hK.sub (tys' := [(cO, .long)]) [0] rfl
      refine W.widen (k := 10) (n := 60) (by omega) (by omega) ?_
      exact W.iret (v := nI 1) hx hb hr (fun t ht hW => ⟨⟨nI 1, (fun _ => 0), rfl, (Or.inl ⟨rfl, hx9⟩), by rw [ht]; exact hP9, va_K.moved hW.alike hK9, hD9⟩, hS.F ht⟩) hS.2.2 dL_parts_14
    · refine k_catch2 (own := RL) (name := "java/util/NoSuchElementException") (nm := "java/lang/IllegalArgumentException") hown ⟨0, 9, 12, 13⟩ ⟨0, 9, 15, 25⟩ _ htb (by decide) (by decide) (hts (.classLink RL 13 "java/lang/IllegalArgumentException") (List.mem_of_getElem? (i := 5) rfl)) dx8 (by decide) (by decide) (hts (.classLink RL 25 "java/util/NoSuchElementException") (List.mem_of_getElem? (i := 6) rfl)) (va_Nw.use rfl dx7) hce hcv hcl ?_
      have hP : va_P (dC, dI) vwCl [(ou, .inl (cO, 1, .inr (.inl (fun _ => 0))))] H1 := (hP.sub (ws' := [(ou, .inl (cO, 1, .inr (.inl (fun _ => 0))))]) [2] rfl).kept (fun k9 q8 h9 => by rcases k9 with _ | k9; (cases h9; exact hk1 _ hoL (fun h => h.2 rfl)); cases h9)
      have hD := hD.sub (ws' := [(ou, .inl (cO, 1, .inr (.inl (fun _ => 0))))]) [2] (by decide) rfl
      have hK := hK.sub (tys' := [(cO, .long)]) [1] rfl
      generalize H1 = H at hP hS ⊢
      have hP : va_P (dC, dI) vwCl ([(ou, .inl (cO, 1, .inr (.inl (fun _ => 0))))]) H := hP
      have hD : va_D A ([(ou, .inl (cO, 1, .inr (.inl (fun _ => 0))))]) := hD
      have hK : va_K (dC, dI) vwCl [(cO, .long)] s := hK
      refine W.cs (cells' := 10) (slots' := 60) (by omega) (by omega) ?_
      refine lv_astore_n (lv' := [(3, .ref q9), (0, .ref h0), (1, .int x), (2, .ref ou)]) hx hb dL_parts_15 rfl hl (by decide) rfl (fun ls hl => ?_)
      refine lv_iconst (v := nI 2) hx hb dL_parts_16 (by decide +kernel) ?_
      have hP9 := hP.sub (ws' := [(ou, .inl (cO, 1, .inr (.inl (fun _ => 0))))]) [0] rfl
      have hD9 := hD.sub (ws' := [(ou, .inl (cO, 1, .inr (.inl (fun _ => 0))))]) [0] (by decide) rfl
      have hK9 := hK.sub (tys' := [(cO, .long)]) [0] rfl
      refine W.widen (k := 10) (n := 60) (by omega) (by omega) ?_
      exact W.iret (v := nI 2) hx hb hr (fun t ht hW => ⟨⟨nI 2, (fun _ => 0), rfl, (Or.inr ⟨rfl, hx9⟩), by rw [ht]; exact hP9, va_K.moved hW.alike hK9, hD9⟩, hS.F ht⟩) hS.2.2 dL_parts_17
  · exact (hw_2 : False).elim
def wd_L_part : List Cond := .codeWith yL_part cL_part 5 (some .int) [(0, 10, 13, 34), (0, 10, 17, 13)] :: (([.methodLink RL 30 yX9_part, .instanceMethod yX9_part, .selects RX9 yX9_part yX9_part, .initialized RX9, .classLink RL 34 "java/lang/IndexOutOfBoundsException"] : List Cond) ++ (wd_X9_part ++ ([])))
theorem gw_L_part : wd_L_part.all goodWord = true := k_allc rfl (k_all (by decide +kernel) (k_all (gw_X9_part) (rfl)))
abbrev at_L_part (dC : Nat → ClassId) (dI : Nat → Nat → Nat) (A : Nat → Prop) (h0 : Nat) (q : Nat → Nat) (k : Nat → ClassId) (fr : Nat → Option Nat) (x : Int32) (x1 : Int32) (ou : Nat) (cO : ClassId) (u : Nat → Int64) (t : State) : Prop := match u with
  | f2 => va_P (dC, dI) vwCl [(ou, .inl (cO, 1, .inr (.inl f2)))] t.heap ∧ va_K (dC, dI) vwCl [(cO, .long)] t ∧ va_D A [(ou, .inl (cO, 1, .inr (.inl f2)))]
set_option maxHeartbeats 4000000 in
set_option maxRecDepth 100000 in
theorem c_L_part (l : Launch) (hlt : l.stackTraces = false) (dC : Nat → ClassId) (dI : Nat → Nat → Nat) (A : Nat → Prop) (sz : Nat) (hA0 : ∀ q, sz ≤ q → A q) (h0 : Nat) (q : Nat → Nat) (k : Nat → ClassId) (fr : Nat → Option Nat) (x : Int32) (x1 : Int32) (ou : Nat) (cO : ClassId)  : Met l yL_part wd_L_part ({ frames := 30, cells := 10, slots := 60, locals := 600 }) (va_Pc [.ref h0, .int x, .int x1, .ref ou] (fun U => U.heap.size = sz ∧ va_P (dC, dI) vwCl [(h0, .inr (12, [.ref (q 0), .ref (q 9), .ref (q 11), .ref (q 17), .ref (q 18), .ref (q 19), .ref (q 26), .ref (q 27), .ref (q 32), .ref (q 33), .ref (q 34), .int (-1)])), (q 11, .inr (9, [.ref (q 12), .ref (q 13), .int (nI 0), .ref (q 14), .ref (q 0), .ref (q 15), .ref (q 16)])), (ou, .inl (cO, 1, .inr (.inl (fun _ => 0))))] U.heap ∧ va_K (dC, dI) vwCl [(cO, .long)] U ∧ va_D A [(h0, .inr (12, [.ref (q 0), .ref (q 9), .ref (q 11), .ref (q 17), .ref (q 18), .ref (q 19), .ref (q 26), .ref (q 27), .ref (q 32), .ref (q 33), .ref (q 34), .int (-1)])), (q 11, .inr (9, [.ref (q 12), .ref (q 13), .int (nI 0), .ref (q 14), .ref (q 0), .ref (q 15), .ref (q 16)])), (ou, .inl (cO, 1, .inr (.inl (fun _ => 0))))] ∧ exF A U U.heap)) (va_Qi (fun (r : Int32) => fun (u : Nat → Int64) => match u with | f2 => r = nI 1) (at_L_part dC dI A h0 q k fr x x1 ou cO) A) (10) (60) A := by
  refine k_ofWH (hh := [(0, 10, 13, 34), (0, 10, 17, 13)]) (cc := cL_part) (maxL := 5) (ret := (some .int)) (by decide) rfl ?_
  intro p e s m args below meth c s₁ B hml hv
  obtain ⟨rfl, hsz, hP, hK, hD, hE⟩ := hv
  have hx := B.exec
  have hb := B.bytes
  have hr := B.returns
  have hts := atoms_spec (ws := wd_L_part) B.pre
  have hown : s.vm.findClass RL = some m.cls := findClass_of_methodNamed B.named
  have hlocks := B.notSynchronized
  have bk0 : ∀ w ∈ wd_X9_part, w ∈ wd_L_part := fun _ h => List.mem_cons_of_mem _ (List.mem_append_right _ (List.mem_append_left _ h))
  subst hsz
  have hA : ∀ q : Nat, s.heap.size ≤ q → A q := hA0
  have hS : va_S A s.heap s.heap [] := va_S.rf
  have hl := lv_entry ([.ref h0, .int x, .int x1, .ref ou]) (n := 5) (Nat.le_of_ble_eq_true rfl)
  rw [lg_entry_eq]
  generalize (lg_sl ([.ref h0, .int x, .int x1, .ref ou]) ++ List.replicate (5 - (lg_sl ([.ref h0, .int x, .int x1, .ref ou])).length) Slot.unset).toArray = ls at hl ⊢
  have hl : lv_has ls 5 [(0, .ref h0), (1, .int x), (2, .int x1), (3, .ref ou)] := hl
  have htb : c.exceptionTable.toList = [⟨0, 10, 13, 34⟩, ⟨0, 10, 17, 13⟩] := (vx_table (x := yL_part) B (hts (.codeWith yL_part cL_part 5 (some .int) [(0, 10, 13, 34), (0, 10, 17, 13)]) List.mem_cons_self)).trans rfl
  refine lv_aload_n hx hb dL_part_0 rfl (lv_at hl 3 rfl) ?_
  refine lv_iconst (v := nI 0) hx hb dL_part_1 (by decide +kernel) ?_
  refine lv_aload_n hx hb dL_part_2 rfl (lv_at hl 0 rfl) ?_
  refine lv_iload_n hx hb dL_part_3 rfl (lv_at hl 1 rfl) ?_
  refine lv_iload_n hx hb dL_part_4 rfl (lv_at hl 2 rfl) ?_
  have hPc := hP.sub (ws' := [(h0, .inr (12, [.ref (q 0), .ref (q 9), .ref (q 11), .ref (q 17), .ref (q 18), .ref (q 19), .ref (q 26), .ref (q 27), .ref (q 32), .ref (q 33), .ref (q 34), .int (-1)])), (q 11, .inr (9, [.ref (q 12), .ref (q 13), .int (nI 0), .ref (q 14), .ref (q 0), .ref (q 15), .ref (q 16)]))]) [0, 1] rfl
  have hKc := hK.sub (tys' := []) [] rfl
  have hDc : va_D (fun q9 => A q9 ∧ q9 ≠ ou) [(h0, .inr (12, [.ref (q 0), .ref (q 9), .ref (q 11), .ref (q 17), .ref (q 18), .ref (q 19), .ref (q 26), .ref (q 27), .ref (q 32), .ref (q 33), .ref (q 34), .int (-1)])), (q 11, .inr (9, [.ref (q 12), .ref (q 13), .int (nI 0), .ref (q 14), .ref (q 0), .ref (q 15), .ref (q 16)]))] := k_Dno (X := [(h0, .inr (12, [.ref (q 0), .ref (q 9), .ref (q 11), .ref (q 17), .ref (q 18), .ref (q 19), .ref (q 26), .ref (q 27), .ref (q 32), .ref (q 33), .ref (q 34), .int (-1)])), (q 11, .inr (9, [.ref (q 12), .ref (q 13), .int (nI 0), .ref (q 14), .ref (q 0), .ref (q 15), .ref (q 16)]))]) hD
  have hFc : ∀ q9, (fun q9 => A q9 ∧ q9 ≠ ou) q9 → A q9 := fun _ h => h.1
  have hoL := (hP 2 _ rfl).lt
  have hA2 : ∀ q9, s.heap.size ≤ q9 → (fun q9 => A q9 ∧ q9 ≠ ou) q9 := fun q9 h => ⟨hA0 q9 h, by intro he; subst he; exact absurd hoL (Nat.not_lt.mpr h)⟩
  refine vx_calli (vx_runV (As := [.int x, .int x1]) (rest := [.int (nI 0), .ref ou]) ⟨hx, hb, hml, hown, hts⟩ (c_X9_part l hlt dC dI (fun q9 => A q9 ∧ q9 ≠ ou) s.heap.size hA2 h0 q k fr x x1) (cwV 2 hts (goodIn_app (goodIn_r [Cond.methodLink RL 30 yX9_part, Cond.instanceMethod yX9_part, Cond.selects RX9 yX9_part yX9_part, Cond.initialized RX9] [1, 2, 3, 4] rfl rfl) (goodIn_sub (fun w9 h9 => bk0 w9 h9) gw_X9_part)) rfl rfl rfl (by decide +kernel) ⟨Nat.le_of_ble_eq_true rfl, Nat.le_of_ble_eq_true rfl⟩) ⟨fun a U g mk q => by obtain ⟨q0, q1, qP, qK, qD, qE⟩ := q; exact ⟨q0, q1, qP, va_K.moved (u := U) (U := U.calling g mk a) (Vm.Alike.refl U.vm) qK, qD, exF.same rfl rfl qE⟩, va_recv hKc hPc (ci := 12) (q0 := 0) rfl rfl, fun U hU hW => ⟨rfl, by rw [hU], by rw [hU]; exact hPc, va_K.moved hW.alike hKc, hDc, by rw [hU]; exact exF.warm hW (hE.narrow hFc)⟩⟩ rfl rfl hl.1 rfl (lv_room (Nat.le_of_ble_eq_true rfl)) dL_part_5 ⟨Nat.le_of_ble_eq_true rfl, Nat.le_of_ble_eq_true rfl⟩) hS (fun q _ h => hFc q h) hFc (fun q _ h => hFc q h) (fun E ce q9 u t H1 locs1 ht hvm hpx hbx hz1 hk1 hS hce hcv hcl => ?_) (fun r_1 u t H1 locs ht hvm hw_2 hB hz1 hk1 hS => ?_)
  · obtain ⟨dx1, dx2, dx3, dx4, dx5, dx6, dx7, dx8, dx9⟩ := hE.2.2.2
    obtain rfl : E = "java/lang/IndexOutOfBoundsException" := hbx
    refine k_catch1 (own := RL) (name := "java/lang/IndexOutOfBoundsException") hown ⟨0, 10, 13, 34⟩ _ htb (by decide) (by decide) (hts (.classLink RL 34 "java/lang/IndexOutOfBoundsException") (List.mem_of_getElem? (i := 5) rfl)) (va_Nw.use rfl dx6) hce hcv hcl ?_
    have hP : va_P (dC, dI) vwCl [(ou, .inl (cO, 1, .inr (.inl (fun _ => 0))))] H1 := (hP.sub (ws' := [(ou, .inl (cO, 1, .inr (.inl (fun _ => 0))))]) [2] rfl).kept (fun k9 q8 h9 => by rcases k9 with _ | k9; (cases h9; exact hk1 _ hoL (fun h => h.2 rfl)); cases h9)
    have hD := hD.sub (ws' := [(ou, .inl (cO, 1, .inr (.inl (fun _ => 0))))]) [2] (by decide) rfl
    have hK := hK.sub (tys' := [(cO, .long)]) [0] rfl
    generalize H1 = H at hP hS ⊢
    have hP : va_P (dC, dI) vwCl ([(ou, .inl (cO, 1, .inr (.inl (fun _ => 0))))]) H := hP
    have hD : va_D A ([(ou, .inl (cO, 1, .inr (.inl (fun _ => 0))))]) := hD
    have hK : va_K (dC, dI) vwCl [(cO, .long)] s := hK
    refine W.cs (cells' := 10) (slots' := 60) (by omega) (by omega) ?_
    refine lv_astore (lv' := [(4, .ref q9), (0, .ref h0), (1, .int x), (2, .int x1), (3, .ref ou)]) hx hb dL_part_13 hl (by decide) rfl (fun ls hl => ?_)
    refine lv_iconst (v := nI 1) hx hb dL_part_15 (by decide +kernel) ?_
    have hP9 := hP.sub (ws' := [(ou, .inl (cO, 1, .inr (.inl (fun _ => 0))))]) [0] rfl
    have hD9 := hD.sub (ws' := [(ou, .inl (cO, 1, .inr (.inl (fun _ => 0))))]) [0] (by decide) rfl
    have hK9 := hK.sub (tys' := [(cO, .long)]) [0] rfl
    refine W.widen (k := 10) (n := 60) (by omega) (by omega) ?_
    exact W.iret (v := nI 1) hx hb hr (fun t ht hW => ⟨⟨nI 1, (fun _ => 0), rfl, rfl, by rw [ht]; exact hP9, va_K.moved hW.alike hK9, hD9⟩, hS.F ht⟩) hS.2.2 dL_part_16
  · exact (hw_2 : False).elim
def wd_L_number : List Cond := .codeWith yL_number cL_number 5 (some .int) [(0, 17, 20, 34)] :: (([.methodLink RL 36 yX9_number, .instanceMethod yX9_number, .selects RX9 yX9_number yX9_number, .initialized RX9, .classLink RL 34 "java/lang/IndexOutOfBoundsException"] : List Cond) ++ (wd_X9_number ++ ([])))
theorem gw_L_number : wd_L_number.all goodWord = true := k_allc rfl (k_all (by decide +kernel) (k_all (gw_X9_number) (rfl)))
abbrev at_L_number (dC : Nat → ClassId) (dI : Nat → Nat → Nat) (A : Nat → Prop) (h0 : Nat) (q : Nat → Nat) (k : Nat → ClassId) (fr : Nat → Option Nat) (x : Int32) (x1 : Int32) (ou : Nat) (cO : ClassId) (u : Nat → Int64) (t : State) : Prop := match u with
  | f2 => va_P (dC, dI) vwCl [(ou, .inl (cO, 1, .inr (.inl f2)))] t.heap ∧ va_K (dC, dI) vwCl [(cO, .long)] t ∧ va_D A [(ou, .inl (cO, 1, .inr (.inl f2)))]
set_option maxHeartbeats 4000000 in
set_option maxRecDepth 100000 in
theorem c_L_number (l : Launch) (hlt : l.stackTraces = false) (dC : Nat → ClassId) (dI : Nat → Nat → Nat) (A : Nat → Prop) (sz : Nat) (hA0 : ∀ q, sz ≤ q → A q) (h0 : Nat) (q : Nat → Nat) (k : Nat → ClassId) (fr : Nat → Option Nat) (x : Int32) (x1 : Int32) (ou : Nat) (cO : ClassId)  : Met l yL_number wd_L_number ({ frames := 30, cells := 10, slots := 60, locals := 600 }) (va_Pc [.ref h0, .int x, .int x1, .ref ou] (fun U => U.heap.size = sz ∧ va_P (dC, dI) vwCl [(h0, .inr (12, [.ref (q 0), .ref (q 9), .ref (q 11), .ref (q 17), .ref (q 18), .ref (q 19), .ref (q 26), .ref (q 27), .ref (q 32), .ref (q 33), .ref (q 34), .int (-1)])), (q 11, .inr (9, [.ref (q 12), .ref (q 13), .int (nI 0), .ref (q 14), .ref (q 0), .ref (q 15), .ref (q 16)])), (ou, .inl (cO, 1, .inr (.inl (fun _ => 0))))] U.heap ∧ va_K (dC, dI) vwCl [(cO, .long)] U ∧ va_D A [(h0, .inr (12, [.ref (q 0), .ref (q 9), .ref (q 11), .ref (q 17), .ref (q 18), .ref (q 19), .ref (q 26), .ref (q 27), .ref (q 32), .ref (q 33), .ref (q 34), .int (-1)])), (q 11, .inr (9, [.ref (q 12), .ref (q 13), .int (nI 0), .ref (q 14), .ref (q 0), .ref (q 15), .ref (q 16)])), (ou, .inl (cO, 1, .inr (.inl (fun _ => 0))))] ∧ exF A U U.heap)) (va_Qi (fun (r : Int32) => fun (u : Nat → Int64) => match u with | f2 => r = nI 1) (at_L_number dC dI A h0 q k fr x x1 ou cO) A) (10) (60) A := by
  refine k_ofWH (hh := [(0, 17, 20, 34)]) (cc := cL_number) (maxL := 5) (ret := (some .int)) (by decide) rfl ?_
  intro p e s m args below meth c s₁ B hml hv
  obtain ⟨rfl, hsz, hP, hK, hD, hE⟩ := hv
  have hx := B.exec
  have hb := B.bytes
  have hr := B.returns
  have hts := atoms_spec (ws := wd_L_number) B.pre
  have hown : s.vm.findClass RL = some m.cls := findClass_of_methodNamed B.named
  have hlocks := B.notSynchronized
  have bk0 : ∀ w ∈ wd_X9_number, w ∈ wd_L_number := fun _ h => List.mem_cons_of_mem _ (List.mem_append_right _ (List.mem_append_left _ h))
  subst hsz
  have hA : ∀ q : Nat, s.heap.size ≤ q → A q := hA0
  have hS : va_S A s.heap s.heap [] := va_S.rf
  have hl := lv_entry ([.ref h0, .int x, .int x1, .ref ou]) (n := 5) (Nat.le_of_ble_eq_true rfl)
  rw [lg_entry_eq]
  generalize (lg_sl ([.ref h0, .int x, .int x1, .ref ou]) ++ List.replicate (5 - (lg_sl ([.ref h0, .int x, .int x1, .ref ou])).length) Slot.unset).toArray = ls at hl ⊢
  have hl : lv_has ls 5 [(0, .ref h0), (1, .int x), (2, .int x1), (3, .ref ou)] := hl
  have htb : c.exceptionTable.toList = [⟨0, 17, 20, 34⟩] := (vx_table (x := yL_number) B (hts (.codeWith yL_number cL_number 5 (some .int) [(0, 17, 20, 34)]) List.mem_cons_self)).trans rfl
  refine lv_aload_n hx hb dL_number_0 rfl (lv_at hl 3 rfl) ?_
  refine lv_iconst (v := nI 0) hx hb dL_number_1 (by decide +kernel) ?_
  refine lv_aload_n hx hb dL_number_2 rfl (lv_at hl 0 rfl) ?_
  refine lv_iload_n hx hb dL_number_3 rfl (lv_at hl 1 rfl) ?_
  refine lv_iload_n hx hb dL_number_4 rfl (lv_at hl 2 rfl) ?_
  have hPc := hP.sub (ws' := [(h0, .inr (12, [.ref (q 0), .ref (q 9), .ref (q 11), .ref (q 17), .ref (q 18), .ref (q 19), .ref (q 26), .ref (q 27), .ref (q 32), .ref (q 33), .ref (q 34), .int (-1)])), (q 11, .inr (9, [.ref (q 12), .ref (q 13), .int (nI 0), .ref (q 14), .ref (q 0), .ref (q 15), .ref (q 16)]))]) [0, 1] rfl
  have hKc := hK.sub (tys' := []) [] rfl
  have hDc : va_D (fun q9 => A q9 ∧ q9 ≠ ou) [(h0, .inr (12, [.ref (q 0), .ref (q 9), .ref (q 11), .ref (q 17), .ref (q 18), .ref (q 19), .ref (q 26), .ref (q 27), .ref (q 32), .ref (q 33), .ref (q 34), .int (-1)])), (q 11, .inr (9, [.ref (q 12), .ref (q 13), .int (nI 0), .ref (q 14), .ref (q 0), .ref (q 15), .ref (q 16)]))] := k_Dno (X := [(h0, .inr (12, [.ref (q 0), .ref (q 9), .ref (q 11), .ref (q 17), .ref (q 18), .ref (q 19), .ref (q 26), .ref (q 27), .ref (q 32), .ref (q 33), .ref (q 34), .int (-1)])), (q 11, .inr (9, [.ref (q 12), .ref (q 13), .int (nI 0), .ref (q 14), .ref (q 0), .ref (q 15), .ref (q 16)]))]) hD
  have hFc : ∀ q9, (fun q9 => A q9 ∧ q9 ≠ ou) q9 → A q9 := fun _ h => h.1
  have hoL := (hP 2 _ rfl).lt
  have hA2 : ∀ q9, s.heap.size ≤ q9 → (fun q9 => A q9 ∧ q9 ≠ ou) q9 := fun q9 h => ⟨hA0 q9 h, by intro he; subst he; exact absurd hoL (Nat.not_lt.mpr h)⟩
  refine vx_calli (vx_runV (As := [.int x, .int x1]) (rest := [.int (nI 0), .ref ou]) ⟨hx, hb, hml, hown, hts⟩ (c_X9_number l hlt dC dI (fun q9 => A q9 ∧ q9 ≠ ou) s.heap.size hA2 h0 q k fr x x1) (cwV 2 hts (goodIn_app (goodIn_r [Cond.methodLink RL 36 yX9_number, Cond.instanceMethod yX9_number, Cond.selects RX9 yX9_number yX9_number, Cond.initialized RX9] [1, 2, 3, 4] rfl rfl) (goodIn_sub (fun w9 h9 => bk0 w9 h9) gw_X9_number)) rfl rfl rfl (by decide +kernel) ⟨Nat.le_of_ble_eq_true rfl, Nat.le_of_ble_eq_true rfl⟩) ⟨fun a U g mk q => by obtain ⟨q0, q1, qP, qK, qD, qE⟩ := q; exact ⟨q0, q1, qP, va_K.moved (u := U) (U := U.calling g mk a) (Vm.Alike.refl U.vm) qK, qD, exF.same rfl rfl qE⟩, va_recv hKc hPc (ci := 12) (q0 := 0) rfl rfl, fun U hU hW => ⟨rfl, by rw [hU], by rw [hU]; exact hPc, va_K.moved hW.alike hKc, hDc, by rw [hU]; exact exF.warm hW (hE.narrow hFc)⟩⟩ rfl rfl hl.1 rfl (lv_room (Nat.le_of_ble_eq_true rfl)) dL_number_5 ⟨Nat.le_of_ble_eq_true rfl, Nat.le_of_ble_eq_true rfl⟩) hS (fun q _ h => hFc q h) hFc (fun q _ h => hFc q h) (fun E ce q9 u t H1 locs1 ht hvm hpx hbx hz1 hk1 hS hce hcv hcl => ?_) (fun r_1 u t H1 locs ht hvm hw_2 hB hz1 hk1 hS => ?_)
  · obtain ⟨dx1, dx2, dx3, dx4, dx5, dx6, dx7, dx8, dx9⟩ := hE.2.2.2
    obtain rfl : E = "java/lang/IndexOutOfBoundsException" := hbx
    refine k_catch1 (own := RL) (name := "java/lang/IndexOutOfBoundsException") hown ⟨0, 17, 20, 34⟩ _ htb (by decide) (by decide) (hts (.classLink RL 34 "java/lang/IndexOutOfBoundsException") (List.mem_of_getElem? (i := 5) rfl)) (va_Nw.use rfl dx6) hce hcv hcl ?_
    have hP : va_P (dC, dI) vwCl [(ou, .inl (cO, 1, .inr (.inl (fun _ => 0))))] H1 := (hP.sub (ws' := [(ou, .inl (cO, 1, .inr (.inl (fun _ => 0))))]) [2] rfl).kept (fun k9 q8 h9 => by rcases k9 with _ | k9; (cases h9; exact hk1 _ hoL (fun h => h.2 rfl)); cases h9)
    have hD := hD.sub (ws' := [(ou, .inl (cO, 1, .inr (.inl (fun _ => 0))))]) [2] (by decide) rfl
    have hK := hK.sub (tys' := [(cO, .long)]) [0] rfl
    generalize H1 = H at hP hS ⊢
    have hP : va_P (dC, dI) vwCl ([(ou, .inl (cO, 1, .inr (.inl (fun _ => 0))))]) H := hP
    have hD : va_D A ([(ou, .inl (cO, 1, .inr (.inl (fun _ => 0))))]) := hD
    have hK : va_K (dC, dI) vwCl [(cO, .long)] s := hK
    refine W.cs (cells' := 10) (slots' := 60) (by omega) (by omega) ?_
    refine lv_astore (lv' := [(4, .ref q9), (0, .ref h0), (1, .int x), (2, .int x1), (3, .ref ou)]) hx hb dL_number_20 hl (by decide) rfl (fun ls hl => ?_)
    refine lv_iconst (v := nI 1) hx hb dL_number_22 (by decide +kernel) ?_
    have hP9 := hP.sub (ws' := [(ou, .inl (cO, 1, .inr (.inl (fun _ => 0))))]) [0] rfl
    have hD9 := hD.sub (ws' := [(ou, .inl (cO, 1, .inr (.inl (fun _ => 0))))]) [0] (by decide) rfl
    have hK9 := hK.sub (tys' := [(cO, .long)]) [0] rfl
    refine W.widen (k := 10) (n := 60) (by omega) (by omega) ?_
    exact W.iret (v := nI 1) hx hb hr (fun t ht hW => ⟨⟨nI 1, (fun _ => 0), rfl, rfl, by rw [ht]; exact hP9, va_K.moved hW.alike hK9, hD9⟩, hS.F ht⟩) hS.2.2 dL_number_23
  · exact (hw_2 : False).elim
def wd_L_set : List Cond := .codeWith yL_set cL_set 5 (some .int) [(0, 7, 10, 13)] :: (([.methodLink RL 40 yX9_set, .instanceMethod yX9_set, .selects RX9 yX9_set yX9_set, .initialized RX9, .classLink RL 13 "java/lang/IllegalArgumentException"] : List Cond) ++ (wd_X9_set ++ ([])))
theorem gw_L_set : wd_L_set.all goodWord = true := k_allc rfl (k_all (by decide +kernel) (k_all (gw_X9_set) (rfl)))
abbrev at_L_set (dC : Nat → ClassId) (dI : Nat → Nat → Nat) (A : Nat → Prop) (h0 : Nat) (q : Nat → Nat) (k : Nat → ClassId) (fr : Nat → Option Nat) (x : Int32) (x1 : Int32) (x2 : Int32) (u : Unit) (t : State) : Prop := match u with
  | () => va_P (dC, dI) vwCl [] t.heap ∧ va_K (dC, dI) vwCl [] t ∧ va_D A []
set_option maxHeartbeats 4000000 in
set_option maxRecDepth 100000 in
theorem c_L_set (l : Launch) (hlt : l.stackTraces = false) (dC : Nat → ClassId) (dI : Nat → Nat → Nat) (A : Nat → Prop) (sz : Nat) (hA0 : ∀ q, sz ≤ q → A q) (h0 : Nat) (q : Nat → Nat) (k : Nat → ClassId) (fr : Nat → Option Nat) (x : Int32) (x1 : Int32) (x2 : Int32)  : Met l yL_set wd_L_set ({ frames := 30, cells := 10, slots := 60, locals := 600 }) (va_Pc [.ref h0, .int x, .int x1, .int x2] (fun U => U.heap.size = sz ∧ va_P (dC, dI) vwCl [(h0, .inr (12, [.ref (q 0), .ref (q 9), .ref (q 11), .ref (q 17), .ref (q 18), .ref (q 19), .ref (q 26), .ref (q 27), .ref (q 32), .ref (q 33), .ref (q 34), .int (-1)])), (q 33, .inl (k 9, 3, .inl (fun _ => 0))), (q 34, .inl (k 10, 3, .inl (va_cpy (fun _ => nI 1) (fun _ => 0) 0 0 3)))] U.heap ∧ va_K (dC, dI) vwCl [(k 9, .int), (k 10, .int)] U ∧ va_D A [(h0, .inr (12, [.ref (q 0), .ref (q 9), .ref (q 11), .ref (q 17), .ref (q 18), .ref (q 19), .ref (q 26), .ref (q 27), .ref (q 32), .ref (q 33), .ref (q 34), .int (-1)])), (q 33, .inl (k 9, 3, .inl (fun _ => 0))), (q 34, .inl (k 10, 3, .inl (va_cpy (fun _ => nI 1) (fun _ => 0) 0 0 3)))] ∧ exF A U U.heap)) (va_Qi (fun (r : Int32) => fun (u : Unit) => match u with | () => (((0 ≤ x.toInt ∧ x.toInt ≤ 2) ∧ (-9999 ≤ x1.toInt ∧ x1.toInt ≤ 9999) ∧ (1 ≤ x2.toInt ∧ x2.toInt ≤ 9999)) ∧ r = nI 0) ∨ (r = nI 1 ∧ ¬ ((0 ≤ x.toInt ∧ x.toInt ≤ 2) ∧ (-9999 ≤ x1.toInt ∧ x1.toInt ≤ 9999) ∧ (1 ≤ x2.toInt ∧ x2.toInt ≤ 9999)))) (at_L_set dC dI A h0 q k fr x x1 x2) A) (10) (60) A := by
  refine k_ofWH (hh := [(0, 7, 10, 13)]) (cc := cL_set) (maxL := 5) (ret := (some .int)) (by decide) rfl ?_
  intro p e s m args below meth c s₁ B hml hv
  obtain ⟨rfl, hsz, hP, hK, hD, hE⟩ := hv
  have hx := B.exec
  have hb := B.bytes
  have hr := B.returns
  have hts := atoms_spec (ws := wd_L_set) B.pre
  have hown : s.vm.findClass RL = some m.cls := findClass_of_methodNamed B.named
  have hlocks := B.notSynchronized
  have bk0 : ∀ w ∈ wd_X9_set, w ∈ wd_L_set := fun _ h => List.mem_cons_of_mem _ (List.mem_append_right _ (List.mem_append_left _ h))
  subst hsz
  have hA : ∀ q : Nat, s.heap.size ≤ q → A q := hA0
  have hS : va_S A s.heap s.heap [] := va_S.rf
  have hl := lv_entry ([.ref h0, .int x, .int x1, .int x2]) (n := 5) (Nat.le_of_ble_eq_true rfl)
  rw [lg_entry_eq]
  generalize (lg_sl ([.ref h0, .int x, .int x1, .int x2]) ++ List.replicate (5 - (lg_sl ([.ref h0, .int x, .int x1, .int x2])).length) Slot.unset).toArray = ls at hl ⊢
  have hl : lv_has ls 5 [(0, .ref h0), (1, .int x), (2, .int x1), (3, .int x2)] := hl
  have htb : c.exceptionTable.toList = [⟨0, 7, 10, 13⟩] := (vx_table (x := yL_set) B (hts (.codeWith yL_set cL_set 5 (some .int) [(0, 7, 10, 13)]) List.mem_cons_self)).trans rfl
  refine lv_aload_n hx hb dL_set_0 rfl (lv_at hl 0 rfl) ?_
  refine lv_iload_n hx hb dL_set_1 rfl (lv_at hl 1 rfl) ?_
  refine lv_iload_n hx hb dL_set_2 rfl (lv_at hl 2 rfl) ?_
  refine lv_iload_n hx hb dL_set_3 rfl (lv_at hl 3 rfl) ?_
  have hPc := hP.sub (ws' := [(h0, .inr (12, [.ref (q 0), .ref (q 9), .ref (q 11), .ref (q 17), .ref (q 18), .ref (q 19), .ref (q 26), .ref (q 27), .ref (q 32), .ref (q 33), .ref (q 34), .int (-1)])), (q 33, .inl (k 9, 3, .inl (fun _ => 0))), (q 34, .inl (k 10, 3, .inl (va_cpy (fun _ => nI 1) (fun _ => 0) 0 0 3)))]) [0, 1, 2] rfl
  have hKc := hK.sub (tys' := [(k 9, .int), (k 10, .int)]) [0, 1] rfl
  have hDc : va_D A [(h0, .inr (12, [.ref (q 0), .ref (q 9), .ref (q 11), .ref (q 17), .ref (q 18), .ref (q 19), .ref (q 26), .ref (q 27), .ref (q 32), .ref (q 33), .ref (q 34), .int (-1)])), (q 33, .inl (k 9, 3, .inl (fun _ => 0))), (q 34, .inl (k 10, 3, .inl (va_cpy (fun _ => nI 1) (fun _ => 0) 0 0 3)))] := hD
  have hFc : ∀ q9, A q9 → A q9 := fun _ h => h
  have hA2 : ∀ q9, s.heap.size ≤ q9 → A q9 := fun q9 h => hA0 q9 h
  refine vx_callv (vx_runV (As := [.int x, .int x1, .int x2]) (rest := []) ⟨hx, hb, hml, hown, hts⟩ (c_X9_set l hlt dC dI A s.heap.size hA2 h0 q k fr x x1 x2) (cwV 3 hts (goodIn_app (goodIn_r [Cond.methodLink RL 40 yX9_set, Cond.instanceMethod yX9_set, Cond.selects RX9 yX9_set yX9_set, Cond.initialized RX9] [1, 2, 3, 4] rfl rfl) (goodIn_sub (fun w9 h9 => bk0 w9 h9) gw_X9_set)) rfl rfl rfl (by decide +kernel) ⟨Nat.le_of_ble_eq_true rfl, Nat.le_of_ble_eq_true rfl⟩) ⟨fun a U g mk q => by obtain ⟨q0, q1, qP, qK, qD, qE⟩ := q; exact ⟨q0, q1, qP, va_K.moved (u := U) (U := U.calling g mk a) (Vm.Alike.refl U.vm) qK, qD, exF.same rfl rfl qE⟩, va_recv hKc hPc (ci := 12) (q0 := 0) rfl rfl, fun U hU hW => ⟨rfl, by rw [hU], by rw [hU]; exact hPc, va_K.moved hW.alike hKc, hDc, by rw [hU]; exact exF.warm hW (hE.narrow hFc)⟩⟩ rfl rfl hl.1 rfl (lv_room (Nat.le_of_ble_eq_true rfl)) dL_set_4 ⟨Nat.le_of_ble_eq_true rfl, Nat.le_of_ble_eq_true rfl⟩) hS (fun q _ h => hFc q h) hFc (fun q _ h => hFc q h) (fun E ce q9 u t H1 locs1 ht hvm hpx hbx hz1 hk1 hS hce hcv hcl => ?_) (fun u t H1 locs ht hvm hw_1 hB hz1 hk1 hS => ?_)
  · obtain ⟨dx1, dx2, dx3, dx4, dx5, dx6, dx7, dx8, dx9⟩ := hE.2.2.2
    obtain ⟨rfl, hx9⟩ := hbx
    refine k_catch1 (own := RL) (name := "java/lang/IllegalArgumentException") hown ⟨0, 7, 10, 13⟩ _ htb (by decide) (by decide) (hts (.classLink RL 13 "java/lang/IllegalArgumentException") (List.mem_of_getElem? (i := 5) rfl)) (va_Nw.use rfl dx4) hce hcv hcl ?_
    have hP : va_P (dC, dI) vwCl [] H1 := fun k9 q8 h9 => by cases h9
    have hD := hD.sub (ws' := []) [] (by decide) rfl
    have hK := hK.sub (tys' := []) [] rfl
    generalize H1 = H at hP hS ⊢
    have hP : va_P (dC, dI) vwCl ([]) H := hP
    have hD : va_D A ([]) := hD
    have hK : va_K (dC, dI) vwCl [] s := hK
    refine W.cs (cells' := 10) (slots' := 60) (by omega) (by omega) ?_
    refine lv_astore (lv' := [(4, .ref q9), (0, .ref h0), (1, .int x), (2, .int x1), (3, .int x2)]) hx hb dL_set_10 hl (by decide) rfl (fun ls hl => ?_)
    refine lv_iconst (v := nI 1) hx hb dL_set_12 (by decide +kernel) ?_
    have hP9 := hP.sub (ws' := []) [] rfl
    have hD9 := hD.sub (ws' := []) [] (by decide) rfl
    have hK9 := hK.sub (tys' := []) [] rfl
    refine W.widen (k := 10) (n := 60) (by omega) (by omega) ?_
    exact W.iret (v := nI 1) hx hb hr (fun t ht hW => ⟨⟨nI 1, (), rfl, Or.inr ⟨rfl, hx9⟩, by rw [ht]; exact hP9, va_K.moved hW.alike hK9, hD9⟩, hS.F ht⟩) hS.2.2 dL_set_13
  · obtain ⟨⟩ := u
    try dsimp only at hw_1
    have hP : va_P (dC, dI) vwCl [] H1 := fun k9 q8 h9 => by cases h9
    have hD := hD.sub (ws' := []) [] (by decide) rfl
    have hK := hK.sub (tys' := []) [] rfl
    generalize H1 = H at hP hS ⊢
    have hP : va_P (dC, dI) vwCl ([]) H := hP
    have hD : va_D A ([]) := hD
    have hK : va_K (dC, dI) vwCl [] s := hK
    refine W.cs (cells' := 10) (slots' := 60) (by omega) (by omega) ?_
    refine lv_goto (tgt := 14) hx hb dL_set_7 (by decide) ?_
    refine lv_iconst (v := nI 0) hx hb dL_set_14 (by decide +kernel) ?_
    have hP9 := hP.sub (ws' := []) [] rfl
    have hD9 := hD.sub (ws' := []) [] (by decide) rfl
    have hK9 := hK.sub (tys' := []) [] rfl
    refine W.widen (k := 10) (n := 60) (by omega) (by omega) ?_
    exact W.iret (v := nI 0) hx hb hr (fun t ht hW => ⟨⟨nI 0, (), rfl, Or.inl ⟨hw_1, rfl⟩, by rw [ht]; exact hP9, va_K.moved hW.alike hK9, hD9⟩, hS.F ht⟩) hS.2.2 dL_set_15
def wd_L_gradient : List Cond := .codeWith yL_gradient cL_gradient 3 (some .int) [(0, 5, 8, 13), (0, 5, 11, 25)] :: (([.methodLink RL 44 yX9_gradient, .instanceMethod yX9_gradient, .selects RX9 yX9_gradient yX9_gradient, .initialized RX9, .classLink RL 13 "java/lang/IllegalArgumentException", .classLink RL 25 "java/util/NoSuchElementException"] : List Cond) ++ (wd_X9_gradient ++ ([])))
theorem gw_L_gradient : wd_L_gradient.all goodWord = true := k_allc rfl (k_all (by decide +kernel) (k_all (gw_X9_gradient) (rfl)))
abbrev at_L_gradient (dC : Nat → ClassId) (dI : Nat → Nat → Nat) (A : Nat → Prop) (h0 : Nat) (q : Nat → Nat) (k : Nat → ClassId) (fr : Nat → Option Nat) (x : Int32) (u : Unit) (t : State) : Prop := match u with
  | () => va_P (dC, dI) vwCl [] t.heap ∧ va_K (dC, dI) vwCl [] t ∧ va_D A []
set_option maxHeartbeats 4000000 in
set_option maxRecDepth 100000 in
theorem c_L_gradient (l : Launch) (hlt : l.stackTraces = false) (dC : Nat → ClassId) (dI : Nat → Nat → Nat) (A : Nat → Prop) (sz : Nat) (hA0 : ∀ q, sz ≤ q → A q) (h0 : Nat) (q : Nat → Nat) (k : Nat → ClassId) (fr : Nat → Option Nat) (x : Int32)  : Met l yL_gradient wd_L_gradient ({ frames := 30, cells := 10, slots := 60, locals := 600 }) (va_Pc [.ref h0, .int x] (fun U => U.heap.size = sz ∧ va_P (dC, dI) vwCl [(h0, .inr (12, [.ref (q 0), .ref (q 9), .ref (q 11), .ref (q 17), .ref (q 18), .ref (q 19), .ref (q 26), .ref (q 27), .ref (q 32), .ref (q 33), .ref (q 34), .int (-1)])), (q 32, .inl (k 8, 8, .inl (va_cpy (fun _ => -1) (fun _ => 0) 0 0 8)))] U.heap ∧ va_K (dC, dI) vwCl [(k 8, .int)] U ∧ va_D A [(h0, .inr (12, [.ref (q 0), .ref (q 9), .ref (q 11), .ref (q 17), .ref (q 18), .ref (q 19), .ref (q 26), .ref (q 27), .ref (q 32), .ref (q 33), .ref (q 34), .int (-1)])), (q 32, .inl (k 8, 8, .inl (va_cpy (fun _ => -1) (fun _ => 0) 0 0 8)))] ∧ exF A U U.heap)) (va_Qi (fun (r : Int32) => fun (u : Unit) => match u with | () => (r = nI 1 ∧ ¬ (0 ≤ x.toInt ∧ x.toInt ≤ 7)) ∨ (r = nI 2 ∧ (0 ≤ x.toInt ∧ x.toInt ≤ 7))) (at_L_gradient dC dI A h0 q k fr x) A) (10) (60) A := by
  refine k_ofWH (hh := [(0, 5, 8, 13), (0, 5, 11, 25)]) (cc := cL_gradient) (maxL := 3) (ret := (some .int)) (by decide) rfl ?_
  intro p e s m args below meth c s₁ B hml hv
  obtain ⟨rfl, hsz, hP, hK, hD, hE⟩ := hv
  have hx := B.exec
  have hb := B.bytes
  have hr := B.returns
  have hts := atoms_spec (ws := wd_L_gradient) B.pre
  have hown : s.vm.findClass RL = some m.cls := findClass_of_methodNamed B.named
  have hlocks := B.notSynchronized
  have bk0 : ∀ w ∈ wd_X9_gradient, w ∈ wd_L_gradient := fun _ h => List.mem_cons_of_mem _ (List.mem_append_right _ (List.mem_append_left _ h))
  subst hsz
  have hA : ∀ q : Nat, s.heap.size ≤ q → A q := hA0
  have hS : va_S A s.heap s.heap [] := va_S.rf
  have hl := lv_entry ([.ref h0, .int x]) (n := 3) (Nat.le_of_ble_eq_true rfl)
  rw [lg_entry_eq]
  generalize (lg_sl ([.ref h0, .int x]) ++ List.replicate (3 - (lg_sl ([.ref h0, .int x])).length) Slot.unset).toArray = ls at hl ⊢
  have hl : lv_has ls 3 [(0, .ref h0), (1, .int x)] := hl
  have htb : c.exceptionTable.toList = [⟨0, 5, 8, 13⟩, ⟨0, 5, 11, 25⟩] := (vx_table (x := yL_gradient) B (hts (.codeWith yL_gradient cL_gradient 3 (some .int) [(0, 5, 8, 13), (0, 5, 11, 25)]) List.mem_cons_self)).trans rfl
  refine lv_aload_n hx hb dL_gradient_0 rfl (lv_at hl 0 rfl) ?_
  refine lv_iload_n hx hb dL_gradient_1 rfl (lv_at hl 1 rfl) ?_
  have hPc := hP.sub (ws' := [(h0, .inr (12, [.ref (q 0), .ref (q 9), .ref (q 11), .ref (q 17), .ref (q 18), .ref (q 19), .ref (q 26), .ref (q 27), .ref (q 32), .ref (q 33), .ref (q 34), .int (-1)])), (q 32, .inl (k 8, 8, .inl (va_cpy (fun _ => -1) (fun _ => 0) 0 0 8)))]) [0, 1] rfl
  have hKc := hK.sub (tys' := [(k 8, .int)]) [0] rfl
  have hDc : va_D A [(h0, .inr (12, [.ref (q 0), .ref (q 9), .ref (q 11), .ref (q 17), .ref (q 18), .ref (q 19), .ref (q 26), .ref (q 27), .ref (q 32), .ref (q 33), .ref (q 34), .int (-1)])), (q 32, .inl (k 8, 8, .inl (va_cpy (fun _ => -1) (fun _ => 0) 0 0 8)))] := hD
  have hFc : ∀ q9, A q9 → A q9 := fun _ h => h
  have hA2 : ∀ q9, s.heap.size ≤ q9 → A q9 := fun q9 h => hA0 q9 h
  refine vx_callv (vx_runV (As := [.int x]) (rest := []) ⟨hx, hb, hml, hown, hts⟩ (c_X9_gradient l hlt dC dI A s.heap.size hA2 h0 q k fr x) (cwV 1 hts (goodIn_app (goodIn_r [Cond.methodLink RL 44 yX9_gradient, Cond.instanceMethod yX9_gradient, Cond.selects RX9 yX9_gradient yX9_gradient, Cond.initialized RX9] [1, 2, 3, 4] rfl rfl) (goodIn_sub (fun w9 h9 => bk0 w9 h9) gw_X9_gradient)) rfl rfl rfl (by decide +kernel) ⟨Nat.le_of_ble_eq_true rfl, Nat.le_of_ble_eq_true rfl⟩) ⟨fun a U g mk q => by obtain ⟨q0, q1, qP, qK, qD, qE⟩ := q; exact ⟨q0, q1, qP, va_K.moved (u := U) (U := U.calling g mk a) (Vm.Alike.refl U.vm) qK, qD, exF.same rfl rfl qE⟩, va_recv hKc hPc (ci := 12) (q0 := 0) rfl rfl, fun U hU hW => ⟨rfl, by rw [hU], by rw [hU]; exact hPc, va_K.moved hW.alike hKc, hDc, by rw [hU]; exact exF.warm hW (hE.narrow hFc)⟩⟩ rfl rfl hl.1 rfl (lv_room (Nat.le_of_ble_eq_true rfl)) dL_gradient_2 ⟨Nat.le_of_ble_eq_true rfl, Nat.le_of_ble_eq_true rfl⟩) hS (fun q _ h => hFc q h) hFc (fun q _ h => hFc q h) (fun E ce q9 u t H1 locs1 ht hvm hpx hbx hz1 hk1 hS hce hcv hcl => ?_) (fun u t H1 locs ht hvm hw_1 hB hz1 hk1 hS => ?_)
  · obtain ⟨dx1, dx2, dx3, dx4, dx5, dx6, dx7, dx8, dx9⟩ := hE.2.2.2
    rcases hbx with ⟨rfl, hx9⟩ | ⟨rfl, hx9⟩
    · refine k_catch1 (own := RL) (name := "java/lang/IllegalArgumentException") hown ⟨0, 5, 8, 13⟩ _ htb (by decide) (by decide) (hts (.classLink RL 13 "java/lang/IllegalArgumentException") (List.mem_of_getElem? (i := 5) rfl)) (va_Nw.use rfl dx4) hce hcv hcl ?_
      have hP : va_P (dC, dI) vwCl [] H1 := fun k9 q8 h9 => by cases h9
      have hD := hD.sub (ws' := []) [] (by decide) rfl
      have hK := hK.sub (tys' := []) [] rfl
      generalize H1 = H at hP hS ⊢
      have hP : va_P (dC, dI) vwCl ([]) H := hP
      have hD : va_D A ([]) := hD
      have hK : va_K (dC, dI) vwCl [] s := hK
      refine W.cs (cells' := 10) (slots' := 60) (by omega) (by omega) ?_
      refine lv_astore_n (lv' := [(2, .ref q9), (0, .ref h0), (1, .int x)]) hx hb dL_gradient_8 rfl hl (by decide) rfl (fun ls hl => ?_)
      refine lv_iconst (v := nI 1) hx hb dL_gradient_9 (by decide +kernel) ?_
      have hP9 := hP.sub (ws' := []) [] rfl
      have hD9 := hD.sub (ws' := []) [] (by decide) rfl
      have hK9 := hK.sub (tys' := []) [] rfl
      refine W.widen (k := 10) (n := 60) (by omega) (by omega) ?_
      exact W.iret (v := nI 1) hx hb hr (fun t ht hW => ⟨⟨nI 1, (), rfl, (Or.inl ⟨rfl, hx9⟩), by rw [ht]; exact hP9, va_K.moved hW.alike hK9, hD9⟩, hS.F ht⟩) hS.2.2 dL_gradient_10
    · refine k_catch2 (own := RL) (name := "java/util/NoSuchElementException") (nm := "java/lang/IllegalArgumentException") hown ⟨0, 5, 8, 13⟩ ⟨0, 5, 11, 25⟩ _ htb (by decide) (by decide) (hts (.classLink RL 13 "java/lang/IllegalArgumentException") (List.mem_of_getElem? (i := 5) rfl)) dx8 (by decide) (by decide) (hts (.classLink RL 25 "java/util/NoSuchElementException") (List.mem_of_getElem? (i := 6) rfl)) (va_Nw.use rfl dx7) hce hcv hcl ?_
      have hP : va_P (dC, dI) vwCl [] H1 := fun k9 q8 h9 => by cases h9
      have hD := hD.sub (ws' := []) [] (by decide) rfl
      have hK := hK.sub (tys' := []) [] rfl
      generalize H1 = H at hP hS ⊢
      have hP : va_P (dC, dI) vwCl ([]) H := hP
      have hD : va_D A ([]) := hD
      have hK : va_K (dC, dI) vwCl [] s := hK
      refine W.cs (cells' := 10) (slots' := 60) (by omega) (by omega) ?_
      refine lv_astore_n (lv' := [(2, .ref q9), (0, .ref h0), (1, .int x)]) hx hb dL_gradient_11 rfl hl (by decide) rfl (fun ls hl => ?_)
      refine lv_iconst (v := nI 2) hx hb dL_gradient_12 (by decide +kernel) ?_
      have hP9 := hP.sub (ws' := []) [] rfl
      have hD9 := hD.sub (ws' := []) [] (by decide) rfl
      have hK9 := hK.sub (tys' := []) [] rfl
      refine W.widen (k := 10) (n := 60) (by omega) (by omega) ?_
      exact W.iret (v := nI 2) hx hb hr (fun t ht hW => ⟨⟨nI 2, (), rfl, (Or.inr ⟨rfl, hx9⟩), by rw [ht]; exact hP9, va_K.moved hW.alike hK9, hD9⟩, hS.F ht⟩) hS.2.2 dL_gradient_13
  · exact (hw_1 : False).elim
def wd_L_along : List Cond := .codeWith yL_along cL_along 6 (some .int) [(0, 9, 12, 13), (0, 9, 16, 25)] :: (([.methodLink RL 48 yX9_along, .instanceMethod yX9_along, .selects RX9 yX9_along yX9_along, .initialized RX9, .classLink RL 13 "java/lang/IllegalArgumentException", .classLink RL 25 "java/util/NoSuchElementException"] : List Cond) ++ (wd_X9_along ++ ([])))
theorem gw_L_along : wd_L_along.all goodWord = true := k_allc rfl (k_all (by decide +kernel) (k_all (gw_X9_along) (rfl)))
abbrev at_L_along (dC : Nat → ClassId) (dI : Nat → Nat → Nat) (A : Nat → Prop) (h0 : Nat) (q : Nat → Nat) (k : Nat → ClassId) (fr : Nat → Option Nat) (x : Int32) (x1 : Int32) (x2 : Int32) (x3 : Int32) (u : Unit) (t : State) : Prop := match u with
  | () => va_P (dC, dI) vwCl [] t.heap ∧ va_K (dC, dI) vwCl [] t ∧ va_D A []
set_option maxHeartbeats 4000000 in
set_option maxRecDepth 100000 in
theorem c_L_along (l : Launch) (hlt : l.stackTraces = false) (dC : Nat → ClassId) (dI : Nat → Nat → Nat) (A : Nat → Prop) (sz : Nat) (hA0 : ∀ q, sz ≤ q → A q) (h0 : Nat) (q : Nat → Nat) (k : Nat → ClassId) (fr : Nat → Option Nat) (x : Int32) (x1 : Int32) (x2 : Int32) (x3 : Int32)  : Met l yL_along wd_L_along ({ frames := 30, cells := 10, slots := 60, locals := 600 }) (va_Pc [.ref h0, .int x, .int x1, .int x2, .int x3] (fun U => U.heap.size = sz ∧ va_P (dC, dI) vwCl [(h0, .inr (12, [.ref (q 0), .ref (q 9), .ref (q 11), .ref (q 17), .ref (q 18), .ref (q 19), .ref (q 26), .ref (q 27), .ref (q 32), .ref (q 33), .ref (q 34), .int (-1)])), (q 32, .inl (k 8, 8, .inl (va_cpy (fun _ => -1) (fun _ => 0) 0 0 8)))] U.heap ∧ va_K (dC, dI) vwCl [(k 8, .int)] U ∧ va_D A [(h0, .inr (12, [.ref (q 0), .ref (q 9), .ref (q 11), .ref (q 17), .ref (q 18), .ref (q 19), .ref (q 26), .ref (q 27), .ref (q 32), .ref (q 33), .ref (q 34), .int (-1)])), (q 32, .inl (k 8, 8, .inl (va_cpy (fun _ => -1) (fun _ => 0) 0 0 8)))] ∧ exF A U U.heap)) (va_Qi (fun (r : Int32) => fun (u : Unit) => match u with | () => (r = nI 1 ∧ ¬ ((0 ≤ x.toInt ∧ x.toInt ≤ 7) ∧ (-999 ≤ x1.toInt ∧ x1.toInt ≤ 999) ∧ (-999 ≤ x2.toInt ∧ x2.toInt ≤ 999) ∧ (-999 ≤ x3.toInt ∧ x3.toInt ≤ 999))) ∨ (r = nI 2 ∧ ((0 ≤ x.toInt ∧ x.toInt ≤ 7) ∧ (-999 ≤ x1.toInt ∧ x1.toInt ≤ 999) ∧ (-999 ≤ x2.toInt ∧ x2.toInt ≤ 999) ∧ (-999 ≤ x3.toInt ∧ x3.toInt ≤ 999)))) (at_L_along dC dI A h0 q k fr x x1 x2 x3) A) (10) (60) A := by
  refine k_ofWH (hh := [(0, 9, 12, 13), (0, 9, 16, 25)]) (cc := cL_along) (maxL := 6) (ret := (some .int)) (by decide) rfl ?_
  intro p e s m args below meth c s₁ B hml hv
  obtain ⟨rfl, hsz, hP, hK, hD, hE⟩ := hv
  have hx := B.exec
  have hb := B.bytes
  have hr := B.returns
  have hts := atoms_spec (ws := wd_L_along) B.pre
  have hown : s.vm.findClass RL = some m.cls := findClass_of_methodNamed B.named
  have hlocks := B.notSynchronized
  have bk0 : ∀ w ∈ wd_X9_along, w ∈ wd_L_along := fun _ h => List.mem_cons_of_mem _ (List.mem_append_right _ (List.mem_append_left _ h))
  subst hsz
  have hA : ∀ q : Nat, s.heap.size ≤ q → A q := hA0
  have hS : va_S A s.heap s.heap [] := va_S.rf
  have hl := lv_entry ([.ref h0, .int x, .int x1, .int x2, .int x3]) (n := 6) (Nat.le_of_ble_eq_true rfl)
  rw [lg_entry_eq]
  generalize (lg_sl ([.ref h0, .int x, .int x1, .int x2, .int x3]) ++ List.replicate (6 - (lg_sl ([.ref h0, .int x, .int x1, .int x2, .int x3])).length) Slot.unset).toArray = ls at hl ⊢
  have hl : lv_has ls 6 [(0, .ref h0), (1, .int x), (2, .int x1), (3, .int x2), (4, .int x3)] := hl
  have htb : c.exceptionTable.toList = [⟨0, 9, 12, 13⟩, ⟨0, 9, 16, 25⟩] := (vx_table (x := yL_along) B (hts (.codeWith yL_along cL_along 6 (some .int) [(0, 9, 12, 13), (0, 9, 16, 25)]) List.mem_cons_self)).trans rfl
  refine lv_aload_n hx hb dL_along_0 rfl (lv_at hl 0 rfl) ?_
  refine lv_iload_n hx hb dL_along_1 rfl (lv_at hl 1 rfl) ?_
  refine lv_iload_n hx hb dL_along_2 rfl (lv_at hl 2 rfl) ?_
  refine lv_iload_n hx hb dL_along_3 rfl (lv_at hl 3 rfl) ?_
  refine lv_iload hx hb dL_along_4 (lv_at hl 4 rfl) ?_
  have hPc := hP.sub (ws' := [(h0, .inr (12, [.ref (q 0), .ref (q 9), .ref (q 11), .ref (q 17), .ref (q 18), .ref (q 19), .ref (q 26), .ref (q 27), .ref (q 32), .ref (q 33), .ref (q 34), .int (-1)])), (q 32, .inl (k 8, 8, .inl (va_cpy (fun _ => -1) (fun _ => 0) 0 0 8)))]) [0, 1] rfl
  have hKc := hK.sub (tys' := [(k 8, .int)]) [0] rfl
  have hDc : va_D A [(h0, .inr (12, [.ref (q 0), .ref (q 9), .ref (q 11), .ref (q 17), .ref (q 18), .ref (q 19), .ref (q 26), .ref (q 27), .ref (q 32), .ref (q 33), .ref (q 34), .int (-1)])), (q 32, .inl (k 8, 8, .inl (va_cpy (fun _ => -1) (fun _ => 0) 0 0 8)))] := hD
  have hFc : ∀ q9, A q9 → A q9 := fun _ h => h
  have hA2 : ∀ q9, s.heap.size ≤ q9 → A q9 := fun q9 h => hA0 q9 h
  refine vx_callv (vx_runV (As := [.int x, .int x1, .int x2, .int x3]) (rest := []) ⟨hx, hb, hml, hown, hts⟩ (c_X9_along l hlt dC dI A s.heap.size hA2 h0 q k fr x x1 x2 x3) (cwV 4 hts (goodIn_app (goodIn_r [Cond.methodLink RL 48 yX9_along, Cond.instanceMethod yX9_along, Cond.selects RX9 yX9_along yX9_along, Cond.initialized RX9] [1, 2, 3, 4] rfl rfl) (goodIn_sub (fun w9 h9 => bk0 w9 h9) gw_X9_along)) rfl rfl rfl (by decide +kernel) ⟨Nat.le_of_ble_eq_true rfl, Nat.le_of_ble_eq_true rfl⟩) ⟨fun a U g mk q => by obtain ⟨q0, q1, qP, qK, qD, qE⟩ := q; exact ⟨q0, q1, qP, va_K.moved (u := U) (U := U.calling g mk a) (Vm.Alike.refl U.vm) qK, qD, exF.same rfl rfl qE⟩, va_recv hKc hPc (ci := 12) (q0 := 0) rfl rfl, fun U hU hW => ⟨rfl, by rw [hU], by rw [hU]; exact hPc, va_K.moved hW.alike hKc, hDc, by rw [hU]; exact exF.warm hW (hE.narrow hFc)⟩⟩ rfl rfl hl.1 rfl (lv_room (Nat.le_of_ble_eq_true rfl)) dL_along_6 ⟨Nat.le_of_ble_eq_true rfl, Nat.le_of_ble_eq_true rfl⟩) hS (fun q _ h => hFc q h) hFc (fun q _ h => hFc q h) (fun E ce q9 u t H1 locs1 ht hvm hpx hbx hz1 hk1 hS hce hcv hcl => ?_) (fun u t H1 locs ht hvm hw_1 hB hz1 hk1 hS => ?_)
  · obtain ⟨dx1, dx2, dx3, dx4, dx5, dx6, dx7, dx8, dx9⟩ := hE.2.2.2
    rcases hbx with ⟨rfl, hx9⟩ | ⟨rfl, hx9⟩
    · refine k_catch1 (own := RL) (name := "java/lang/IllegalArgumentException") hown ⟨0, 9, 12, 13⟩ _ htb (by decide) (by decide) (hts (.classLink RL 13 "java/lang/IllegalArgumentException") (List.mem_of_getElem? (i := 5) rfl)) (va_Nw.use rfl dx4) hce hcv hcl ?_
      have hP : va_P (dC, dI) vwCl [] H1 := fun k9 q8 h9 => by cases h9
      have hD := hD.sub (ws' := []) [] (by decide) rfl
      have hK := hK.sub (tys' := []) [] rfl
      generalize H1 = H at hP hS ⊢
      have hP : va_P (dC, dI) vwCl ([]) H := hP
      have hD : va_D A ([]) := hD
      have hK : va_K (dC, dI) vwCl [] s := hK
      refine W.cs (cells' := 10) (slots' := 60) (by omega) (by omega) ?_
      refine lv_astore (lv' := [(5, .ref q9), (0, .ref h0), (1, .int x), (2, .int x1), (3, .int x2), (4, .int x3)]) hx hb dL_along_12 hl (by decide) rfl (fun ls hl => ?_)
      refine lv_iconst (v := nI 1) hx hb dL_along_14 (by decide +kernel) ?_
      have hP9 := hP.sub (ws' := []) [] rfl
      have hD9 := hD.sub (ws' := []) [] (by decide) rfl
      have hK9 := hK.sub (tys' := []) [] rfl
      refine W.widen (k := 10) (n := 60) (by omega) (by omega) ?_
      exact W.iret (v := nI 1) hx hb hr (fun t ht hW => ⟨⟨nI 1, (), rfl, (Or.inl ⟨rfl, hx9⟩), by rw [ht]; exact hP9, va_K.moved hW.alike hK9, hD9⟩, hS.F ht⟩) hS.2.2 dL_along_15
    · refine k_catch2 (own := RL) (name := "java/util/NoSuchElementException") (nm := "java/lang/IllegalArgumentException") hown ⟨0, 9, 12, 13⟩ ⟨0, 9, 16, 25⟩ _ htb (by decide) (by decide) (hts (.classLink RL 13 "java/lang/IllegalArgumentException") (List.mem_of_getElem? (i := 5) rfl)) dx8 (by decide) (by decide) (hts (.classLink RL 25 "java/util/NoSuchElementException") (List.mem_of_getElem? (i := 6) rfl)) (va_Nw.use rfl dx7) hce hcv hcl ?_
      have hP : va_P (dC, dI) vwCl [] H1 := fun k9 q8 h9 => by cases h9
      have hD := hD.sub (ws' := []) [] (by decide) rfl
      have hK := hK.sub (tys' := []) [] rfl
      generalize H1 = H at hP hS ⊢
      have hP : va_P (dC, dI) vwCl ([]) H := hP
      have hD : va_D A ([]) := hD
      have hK : va_K (dC, dI) vwCl [] s := hK
      refine W.cs (cells' := 10) (slots' := 60) (by omega) (by omega) ?_
      refine lv_astore (lv' := [(5, .ref q9), (0, .ref h0), (1, .int x), (2, .int x1), (3, .int x2), (4, .int x3)]) hx hb dL_along_16 hl (by decide) rfl (fun ls hl => ?_)
      refine lv_iconst (v := nI 2) hx hb dL_along_18 (by decide +kernel) ?_
      have hP9 := hP.sub (ws' := []) [] rfl
      have hD9 := hD.sub (ws' := []) [] (by decide) rfl
      have hK9 := hK.sub (tys' := []) [] rfl
      refine W.widen (k := 10) (n := 60) (by omega) (by omega) ?_
      exact W.iret (v := nI 2) hx hb hr (fun t ht hW => ⟨⟨nI 2, (), rfl, (Or.inr ⟨rfl, hx9⟩), by rw [ht]; exact hP9, va_K.moved hW.alike hK9, hD9⟩, hS.F ht⟩) hS.2.2 dL_along_19
  · exact (hw_1 : False).elim
def wd_L_reckon : List Cond := .codeWith yL_reckon cL_reckon 7 (some .int) [(0, 21, 24, 34), (0, 21, 28, 13)] :: (([.methodLink RL 52 yX9_reckon, .instanceMethod yX9_reckon, .selects RX9 yX9_reckon yX9_reckon, .initialized RX9, .classLink RL 34 "java/lang/IndexOutOfBoundsException", .classLink RL 13 "java/lang/IllegalArgumentException"] : List Cond) ++ (wd_X9_reckon ++ ([])))
theorem gw_L_reckon : wd_L_reckon.all goodWord = true := k_allc rfl (k_all (by decide +kernel) (k_all (gw_X9_reckon) (rfl)))
abbrev at_L_reckon (dC : Nat → ClassId) (dI : Nat → Nat → Nat) (A : Nat → Prop) (h0 : Nat) (q : Nat → Nat) (k : Nat → ClassId) (fr : Nat → Option Nat) (w0 : Int32) (x : Int32) (y : Int32) (z : Int32) (ou : Nat) (cO : ClassId) (u : Nat → Int64) (t : State) : Prop := match u with
  | f2 => va_P (dC, dI) vwCl [(ou, .inl (cO, 1, .inr (.inl f2)))] t.heap ∧ va_K (dC, dI) vwCl [(cO, .long)] t ∧ va_D A [(ou, .inl (cO, 1, .inr (.inl f2)))]
set_option maxHeartbeats 4000000 in
set_option maxRecDepth 100000 in
theorem c_L_reckon (l : Launch) (hlt : l.stackTraces = false) (dC : Nat → ClassId) (dI : Nat → Nat → Nat) (A : Nat → Prop) (sz : Nat) (hA0 : ∀ q, sz ≤ q → A q) (h0 : Nat) (q : Nat → Nat) (k : Nat → ClassId) (fr : Nat → Option Nat) (w0 : Int32) (x : Int32) (y : Int32) (z : Int32) (ou : Nat) (cO : ClassId)  : Met l yL_reckon wd_L_reckon ({ frames := 60, cells := 10, slots := 60, locals := 1200 }) (va_Pc [.ref h0, .int w0, .int x, .int y, .int z, .ref ou] (fun U => U.heap.size = sz ∧ va_P (dC, dI) vwCl [(h0, .inr (12, [.ref (q 0), .ref (q 9), .ref (q 11), .ref (q 17), .ref (q 18), .ref (q 19), .ref (q 26), .ref (q 27), .ref (q 32), .ref (q 33), .ref (q 34), .int (-1)])), (q 26, .inl (k 5, 8, .inr (.inr (.inr (.inr fr))))), (q 0, .inr (3, [.ref (q 1), .ref (q 3), .ref (q 5), .ref (q 7)])), (q 1, .inr (11, [.ref (q 2), .int (nI 0), .int (nI 0)])), (q 2, .inl (k 0, 128, .inl (fun _ => 0))), (q 3, .inr (11, [.ref (q 4), .int (nI 0), .int (nI 0)])), (q 4, .inl (k 1, 128, .inl (fun _ => 0))), (q 27, .inr (5, [.ref (q 28), .ref (q 30)])), (q 28, .inr (11, [.ref (q 29), .int (nI 0), .int (nI 0)])), (q 29, .inl (k 6, 64, .inl (fun _ => 0))), (q 30, .inr (11, [.ref (q 31), .int (nI 1), .int (nI 0)])), (q 31, .inl (k 7, 64, .inl (upd (fun _ => 0) 0 (nI 1)))), (ou, .inl (cO, 1, .inr (.inl (fun _ => 0))))] U.heap ∧ va_K (dC, dI) vwCl [(k 5, .object "GradientDesk$Fraction"), (k 0, .int), (k 1, .int), (k 6, .int), (k 7, .int), (cO, .long)] U ∧ va_D A [(h0, .inr (12, [.ref (q 0), .ref (q 9), .ref (q 11), .ref (q 17), .ref (q 18), .ref (q 19), .ref (q 26), .ref (q 27), .ref (q 32), .ref (q 33), .ref (q 34), .int (-1)])), (q 26, .inl (k 5, 8, .inr (.inr (.inr (.inr fr))))), (q 0, .inr (3, [.ref (q 1), .ref (q 3), .ref (q 5), .ref (q 7)])), (q 1, .inr (11, [.ref (q 2), .int (nI 0), .int (nI 0)])), (q 2, .inl (k 0, 128, .inl (fun _ => 0))), (q 3, .inr (11, [.ref (q 4), .int (nI 0), .int (nI 0)])), (q 4, .inl (k 1, 128, .inl (fun _ => 0))), (q 27, .inr (5, [.ref (q 28), .ref (q 30)])), (q 28, .inr (11, [.ref (q 29), .int (nI 0), .int (nI 0)])), (q 29, .inl (k 6, 64, .inl (fun _ => 0))), (q 30, .inr (11, [.ref (q 31), .int (nI 1), .int (nI 0)])), (q 31, .inl (k 7, 64, .inl (upd (fun _ => 0) 0 (nI 1)))), (ou, .inl (cO, 1, .inr (.inl (fun _ => 0))))] ∧ exF A U U.heap ∧ FXr dC dI (fun q9 => A q9 ∧ q9 ≠ ou) h0 q k fr U U.heap)) (va_Qi (fun (r : Int32) => fun (u : Nat → Int64) => match u with | f2 => ((((0 ≤ x.toInt ∧ x.toInt ≤ 7) ∧ (0 ≤ y.toInt ∧ y.toInt ≤ 7) ∧ (0 ≤ z.toInt ∧ z.toInt ≤ 7)) ∧ (0 ≤ w0.toInt ∧ w0.toInt ≤ 2)) ∧ r = nI 0 ∧ f2 0 = lN 1) ∨ ((r = nI 1 ∧ ¬ ((0 ≤ x.toInt ∧ x.toInt ≤ 7) ∧ (0 ≤ y.toInt ∧ y.toInt ≤ 7) ∧ (0 ≤ z.toInt ∧ z.toInt ≤ 7))) ∨ (r = nI 2 ∧ ((0 ≤ x.toInt ∧ x.toInt ≤ 7) ∧ (0 ≤ y.toInt ∧ y.toInt ≤ 7) ∧ (0 ≤ z.toInt ∧ z.toInt ≤ 7)) ∧ ¬ (0 ≤ w0.toInt ∧ w0.toInt ≤ 2)))) (at_L_reckon dC dI A h0 q k fr w0 x y z ou cO) A) (10) (60) A := by
  refine k_ofWH (hh := [(0, 21, 24, 34), (0, 21, 28, 13)]) (cc := cL_reckon) (maxL := 7) (ret := (some .int)) (by decide) rfl ?_
  intro p e s m args below meth c s₁ B hml hv
  obtain ⟨rfl, hsz, hP, hK, hD, hE, hR⟩ := hv
  have hx := B.exec
  have hb := B.bytes
  have hr := B.returns
  have hts := atoms_spec (ws := wd_L_reckon) B.pre
  have hown : s.vm.findClass RL = some m.cls := findClass_of_methodNamed B.named
  have hlocks := B.notSynchronized
  have bk0 : ∀ w ∈ wd_X9_reckon, w ∈ wd_L_reckon := fun _ h => List.mem_cons_of_mem _ (List.mem_append_right _ (List.mem_append_left _ h))
  subst hsz
  have hA : ∀ q : Nat, s.heap.size ≤ q → A q := hA0
  have hS : va_S A s.heap s.heap [] := va_S.rf
  have hl := lv_entry ([.ref h0, .int w0, .int x, .int y, .int z, .ref ou]) (n := 7) (Nat.le_of_ble_eq_true rfl)
  rw [lg_entry_eq]
  generalize (lg_sl ([.ref h0, .int w0, .int x, .int y, .int z, .ref ou]) ++ List.replicate (7 - (lg_sl ([.ref h0, .int w0, .int x, .int y, .int z, .ref ou])).length) Slot.unset).toArray = ls at hl ⊢
  have hl : lv_has ls 7 [(0, .ref h0), (1, .int w0), (2, .int x), (3, .int y), (4, .int z), (5, .ref ou)] := hl
  have htb : c.exceptionTable.toList = [⟨0, 21, 24, 34⟩, ⟨0, 21, 28, 13⟩] := (vx_table (x := yL_reckon) B (hts (.codeWith yL_reckon cL_reckon 7 (some .int) [(0, 21, 24, 34), (0, 21, 28, 13)]) List.mem_cons_self)).trans rfl
  refine lv_aload hx hb dL_reckon_0 (lv_at hl 5 rfl) ?_
  refine lv_iconst (v := nI 0) hx hb dL_reckon_2 (by decide +kernel) ?_
  refine lv_aload_n hx hb dL_reckon_3 rfl (lv_at hl 0 rfl) ?_
  refine lv_iload_n hx hb dL_reckon_4 rfl (lv_at hl 1 rfl) ?_
  refine lv_iload_n hx hb dL_reckon_5 rfl (lv_at hl 2 rfl) ?_
  refine lv_iload_n hx hb dL_reckon_6 rfl (lv_at hl 3 rfl) ?_
  refine lv_iload hx hb dL_reckon_7 (lv_at hl 4 rfl) ?_
  have hPc := hP.sub (ws' := [(h0, .inr (12, [.ref (q 0), .ref (q 9), .ref (q 11), .ref (q 17), .ref (q 18), .ref (q 19), .ref (q 26), .ref (q 27), .ref (q 32), .ref (q 33), .ref (q 34), .int (-1)])), (q 26, .inl (k 5, 8, .inr (.inr (.inr (.inr fr))))), (q 0, .inr (3, [.ref (q 1), .ref (q 3), .ref (q 5), .ref (q 7)])), (q 1, .inr (11, [.ref (q 2), .int (nI 0), .int (nI 0)])), (q 2, .inl (k 0, 128, .inl (fun _ => 0))), (q 3, .inr (11, [.ref (q 4), .int (nI 0), .int (nI 0)])), (q 4, .inl (k 1, 128, .inl (fun _ => 0))), (q 27, .inr (5, [.ref (q 28), .ref (q 30)])), (q 28, .inr (11, [.ref (q 29), .int (nI 0), .int (nI 0)])), (q 29, .inl (k 6, 64, .inl (fun _ => 0))), (q 30, .inr (11, [.ref (q 31), .int (nI 1), .int (nI 0)])), (q 31, .inl (k 7, 64, .inl (upd (fun _ => 0) 0 (nI 1))))]) [0, 1, 2, 3, 4, 5, 6, 7, 8, 9, 10, 11] rfl
  have hKc := hK.sub (tys' := [(k 5, .object "GradientDesk$Fraction"), (k 0, .int), (k 1, .int), (k 6, .int), (k 7, .int)]) [0, 1, 2, 3, 4] rfl
  have hDc : va_D (fun q9 => A q9 ∧ q9 ≠ ou) [(h0, .inr (12, [.ref (q 0), .ref (q 9), .ref (q 11), .ref (q 17), .ref (q 18), .ref (q 19), .ref (q 26), .ref (q 27), .ref (q 32), .ref (q 33), .ref (q 34), .int (-1)])), (q 26, .inl (k 5, 8, .inr (.inr (.inr (.inr fr))))), (q 0, .inr (3, [.ref (q 1), .ref (q 3), .ref (q 5), .ref (q 7)])), (q 1, .inr (11, [.ref (q 2), .int (nI 0), .int (nI 0)])), (q 2, .inl (k 0, 128, .inl (fun _ => 0))), (q 3, .inr (11, [.ref (q 4), .int (nI 0), .int (nI 0)])), (q 4, .inl (k 1, 128, .inl (fun _ => 0))), (q 27, .inr (5, [.ref (q 28), .ref (q 30)])), (q 28, .inr (11, [.ref (q 29), .int (nI 0), .int (nI 0)])), (q 29, .inl (k 6, 64, .inl (fun _ => 0))), (q 30, .inr (11, [.ref (q 31), .int (nI 1), .int (nI 0)])), (q 31, .inl (k 7, 64, .inl (upd (fun _ => 0) 0 (nI 1))))] := k_Dno (X := [(h0, .inr (12, [.ref (q 0), .ref (q 9), .ref (q 11), .ref (q 17), .ref (q 18), .ref (q 19), .ref (q 26), .ref (q 27), .ref (q 32), .ref (q 33), .ref (q 34), .int (-1)])), (q 26, .inl (k 5, 8, .inr (.inr (.inr (.inr fr))))), (q 0, .inr (3, [.ref (q 1), .ref (q 3), .ref (q 5), .ref (q 7)])), (q 1, .inr (11, [.ref (q 2), .int (nI 0), .int (nI 0)])), (q 2, .inl (k 0, 128, .inl (fun _ => 0))), (q 3, .inr (11, [.ref (q 4), .int (nI 0), .int (nI 0)])), (q 4, .inl (k 1, 128, .inl (fun _ => 0))), (q 27, .inr (5, [.ref (q 28), .ref (q 30)])), (q 28, .inr (11, [.ref (q 29), .int (nI 0), .int (nI 0)])), (q 29, .inl (k 6, 64, .inl (fun _ => 0))), (q 30, .inr (11, [.ref (q 31), .int (nI 1), .int (nI 0)])), (q 31, .inl (k 7, 64, .inl (upd (fun _ => 0) 0 (nI 1))))]) hD
  have hFc : ∀ q9, (fun q9 => A q9 ∧ q9 ≠ ou) q9 → A q9 := fun _ h => h.1
  have hoL := (hP 12 _ rfl).lt
  have hA2 : ∀ q9, s.heap.size ≤ q9 → (fun q9 => A q9 ∧ q9 ≠ ou) q9 := fun q9 h => ⟨hA0 q9 h, by intro he; subst he; exact absurd hoL (Nat.not_lt.mpr h)⟩
  refine vx_calli (vx_runV (As := [.int w0, .int x, .int y, .int z]) (rest := [.int (nI 0), .ref ou]) ⟨hx, hb, hml, hown, hts⟩ (c_X9_reckon l hlt dC dI (fun q9 => A q9 ∧ q9 ≠ ou) s.heap.size hA2 h0 q k fr w0 x y z) (cwV 4 hts (goodIn_app (goodIn_r [Cond.methodLink RL 52 yX9_reckon, Cond.instanceMethod yX9_reckon, Cond.selects RX9 yX9_reckon yX9_reckon, Cond.initialized RX9] [1, 2, 3, 4] rfl rfl) (goodIn_sub (fun w9 h9 => bk0 w9 h9) gw_X9_reckon)) rfl rfl rfl (by decide +kernel) ⟨Nat.le_of_ble_eq_true rfl, Nat.le_of_ble_eq_true rfl⟩) ⟨fun a U g mk q => by obtain ⟨q0, q1, qP, qK, qD, qE, qR⟩ := q; exact ⟨q0, q1, qP, va_K.moved (u := U) (U := U.calling g mk a) (Vm.Alike.refl U.vm) qK, qD, exF.same rfl rfl qE, FXr.moved (u := U) (U := U.calling g mk a) (Vm.Alike.refl U.vm) qR⟩, va_recv hKc hPc (ci := 12) (q0 := 0) rfl rfl, fun U hU hW => ⟨rfl, by rw [hU], by rw [hU]; exact hPc, va_K.moved hW.alike hKc, hDc, by rw [hU]; exact exF.warm hW (hE.narrow hFc), by rw [hU]; exact FXr.moved hW.alike hR⟩⟩ rfl rfl hl.1 rfl (lv_room (Nat.le_of_ble_eq_true rfl)) dL_reckon_9 ⟨Nat.le_of_ble_eq_true rfl, Nat.le_of_ble_eq_true rfl⟩) hS (fun q _ h => hFc q h) hFc (fun q _ h => hFc q h) (fun E ce q9 u t H1 locs1 ht hvm hpx hbx hz1 hk1 hS hce hcv hcl => ?_) (fun r_1 u t H1 locs ht hvm hw_2 hB hz1 hk1 hS => ?_)
  · obtain ⟨dx1, dx2, dx3, dx4, dx5, dx6, dx7, dx8, dx9⟩ := hE.2.2.2
    rcases hbx with ⟨rfl, hx9⟩ | ⟨rfl, hx9⟩
    · refine k_catch1 (own := RL) (name := "java/lang/IndexOutOfBoundsException") hown ⟨0, 21, 24, 34⟩ _ htb (by decide) (by decide) (hts (.classLink RL 34 "java/lang/IndexOutOfBoundsException") (List.mem_of_getElem? (i := 5) rfl)) (va_Nw.use rfl dx6) hce hcv hcl ?_
      have hP : va_P (dC, dI) vwCl [(ou, .inl (cO, 1, .inr (.inl (fun _ => 0))))] H1 := (hP.sub (ws' := [(ou, .inl (cO, 1, .inr (.inl (fun _ => 0))))]) [12] rfl).kept (fun k9 q8 h9 => by rcases k9 with _ | k9; (cases h9; exact hk1 _ hoL (fun h => h.2 rfl)); cases h9)
      have hD := hD.sub (ws' := [(ou, .inl (cO, 1, .inr (.inl (fun _ => 0))))]) [12] (by decide) rfl
      have hK := hK.sub (tys' := [(cO, .long)]) [5] rfl
      generalize H1 = H at hP hS ⊢
      have hP : va_P (dC, dI) vwCl ([(ou, .inl (cO, 1, .inr (.inl (fun _ => 0))))]) H := hP
      have hD : va_D A ([(ou, .inl (cO, 1, .inr (.inl (fun _ => 0))))]) := hD
      have hK : va_K (dC, dI) vwCl [(cO, .long)] s := hK
      refine W.cs (cells' := 10) (slots' := 60) (by omega) (by omega) ?_
      refine lv_astore (lv' := [(6, .ref q9), (0, .ref h0), (1, .int w0), (2, .int x), (3, .int y), (4, .int z), (5, .ref ou)]) hx hb dL_reckon_24 hl (by decide) rfl (fun ls hl => ?_)
      refine lv_iconst (v := nI 1) hx hb dL_reckon_26 (by decide +kernel) ?_
      have hP9 := hP.sub (ws' := [(ou, .inl (cO, 1, .inr (.inl (fun _ => 0))))]) [0] rfl
      have hD9 := hD.sub (ws' := [(ou, .inl (cO, 1, .inr (.inl (fun _ => 0))))]) [0] (by decide) rfl
      have hK9 := hK.sub (tys' := [(cO, .long)]) [0] rfl
      refine W.widen (k := 10) (n := 60) (by omega) (by omega) ?_
      exact W.iret (v := nI 1) hx hb hr (fun t ht hW => ⟨⟨nI 1, (fun _ => 0), rfl, Or.inr (Or.inl ⟨rfl, hx9⟩), by rw [ht]; exact hP9, va_K.moved hW.alike hK9, hD9⟩, hS.F ht⟩) hS.2.2 dL_reckon_27
    · refine k_catch2 (own := RL) (name := "java/lang/IllegalArgumentException") (nm := "java/lang/IndexOutOfBoundsException") hown ⟨0, 21, 24, 34⟩ ⟨0, 21, 28, 13⟩ _ htb (by decide) (by decide) (hts (.classLink RL 34 "java/lang/IndexOutOfBoundsException") (List.mem_of_getElem? (i := 5) rfl)) dx9 (by decide) (by decide) (hts (.classLink RL 13 "java/lang/IllegalArgumentException") (List.mem_of_getElem? (i := 6) rfl)) (va_Nw.use rfl dx4) hce hcv hcl ?_
      have hP : va_P (dC, dI) vwCl [(ou, .inl (cO, 1, .inr (.inl (fun _ => 0))))] H1 := (hP.sub (ws' := [(ou, .inl (cO, 1, .inr (.inl (fun _ => 0))))]) [12] rfl).kept (fun k9 q8 h9 => by rcases k9 with _ | k9; (cases h9; exact hk1 _ hoL (fun h => h.2 rfl)); cases h9)
      have hD := hD.sub (ws' := [(ou, .inl (cO, 1, .inr (.inl (fun _ => 0))))]) [12] (by decide) rfl
      have hK := hK.sub (tys' := [(cO, .long)]) [5] rfl
      generalize H1 = H at hP hS ⊢
      have hP : va_P (dC, dI) vwCl ([(ou, .inl (cO, 1, .inr (.inl (fun _ => 0))))]) H := hP
      have hD : va_D A ([(ou, .inl (cO, 1, .inr (.inl (fun _ => 0))))]) := hD
      have hK : va_K (dC, dI) vwCl [(cO, .long)] s := hK
      refine W.cs (cells' := 10) (slots' := 60) (by omega) (by omega) ?_
      refine lv_astore (lv' := [(6, .ref q9), (0, .ref h0), (1, .int w0), (2, .int x), (3, .int y), (4, .int z), (5, .ref ou)]) hx hb dL_reckon_28 hl (by decide) rfl (fun ls hl => ?_)
      refine lv_iconst (v := nI 2) hx hb dL_reckon_30 (by decide +kernel) ?_
      have hP9 := hP.sub (ws' := [(ou, .inl (cO, 1, .inr (.inl (fun _ => 0))))]) [0] rfl
      have hD9 := hD.sub (ws' := [(ou, .inl (cO, 1, .inr (.inl (fun _ => 0))))]) [0] (by decide) rfl
      have hK9 := hK.sub (tys' := [(cO, .long)]) [0] rfl
      refine W.widen (k := 10) (n := 60) (by omega) (by omega) ?_
      exact W.iret (v := nI 2) hx hb hr (fun t ht hW => ⟨⟨nI 2, (fun _ => 0), rfl, Or.inr (Or.inr ⟨rfl, hx9⟩), by rw [ht]; exact hP9, va_K.moved hW.alike hK9, hD9⟩, hS.F ht⟩) hS.2.2 dL_reckon_31
  · obtain ⟨⟩ := u
    try dsimp only at hw_2
    have hP : va_P (dC, dI) vwCl [(ou, .inl (cO, 1, .inr (.inl (fun _ => 0))))] H1 := (hP.sub (ws' := [(ou, .inl (cO, 1, .inr (.inl (fun _ => 0))))]) [12] rfl).kept (fun k9 q8 h9 => by rcases k9 with _ | k9; (cases h9; exact hk1 _ hoL (fun h => h.2 rfl)); cases h9)
    have hD := hD.sub (ws' := [(ou, .inl (cO, 1, .inr (.inl (fun _ => 0))))]) [12] (by decide) rfl
    have hK := hK.sub (tys' := [(cO, .long)]) [5] rfl
    generalize H1 = H at hP hS ⊢
    have hP : va_P (dC, dI) vwCl ([(ou, .inl (cO, 1, .inr (.inl (fun _ => 0))))]) H := hP
    have hD : va_D A ([(ou, .inl (cO, 1, .inr (.inl (fun _ => 0))))]) := hD
    have hK : va_K (dC, dI) vwCl [(cO, .long)] s := hK
    refine W.cs (cells' := 10) (slots' := 60) (by omega) (by omega) ?_
    obtain ⟨hr1, hr2⟩ := hw_2
    obtain rfl : r_1 = nI 1 := hr1
    refine lv_if_eq (tgt := 19) hx hb dL_reckon_12 (by decide) (fun c_3 => absurd c_3 (by decide)) (fun c_3 => ?_)
    refine lv_lconst (v := lN 1) hx hb dL_reckon_15 (by decide +kernel) ?_
    refine lv_goto (tgt := 20) hx hb dL_reckon_16 (by decide) ?_
    refine va_last hx hb hK hP hD hS 0 0 rfl rfl (vp_in_nI (show 0 < 1 by decide) (by decide)) dL_reckon_20 (fun H locs hP hD hS => ?_)
    rw [nI_clamp (show 0 < 2 ^ 31 by decide)] at hP hD
    have hP : va_P (dC, dI) vwCl ([(ou, .inl (cO, 1, .inr (.inl (vp_updL ((fun _ => 0)) 0 (lN 1)))))]) H := hP
    have hD : va_D A ([(ou, .inl (cO, 1, .inr (.inl (vp_updL ((fun _ => 0)) 0 (lN 1)))))]) := hD
    refine lv_goto (tgt := 32) hx hb dL_reckon_21 (by decide) ?_
    refine lv_iconst (v := nI 0) hx hb dL_reckon_32 (by decide +kernel) ?_
    have hP9 := hP.sub (ws' := [(ou, .inl (cO, 1, .inr (.inl (vp_updL ((fun _ => 0)) 0 (lN 1)))))]) [0] rfl
    have hD9 := hD.sub (ws' := [(ou, .inl (cO, 1, .inr (.inl (vp_updL ((fun _ => 0)) 0 (lN 1)))))]) [0] (by decide) rfl
    have hK9 := hK.sub (tys' := [(cO, .long)]) [0] rfl
    refine W.widen (k := 10) (n := 60) (by omega) (by omega) ?_
    exact W.iret (v := nI 0) hx hb hr (fun t ht hW => ⟨⟨nI 0, (vp_updL ((fun _ => 0)) 0 (lN 1)), rfl, Or.inl ⟨hr2, rfl, rfl⟩, by rw [ht]; exact hP9, va_K.moved hW.alike hK9, hD9⟩, hS.F ht⟩) hS.2.2 dL_reckon_33
def wd_L_compare : List Cond := .codeWith yL_compare cL_compare 5 (some .int) [(0, 10, 13, 34)] :: (([.methodLink RL 56 yX9_compare, .instanceMethod yX9_compare, .selects RX9 yX9_compare yX9_compare, .initialized RX9, .classLink RL 34 "java/lang/IndexOutOfBoundsException"] : List Cond) ++ (wd_X9_compare ++ ([])))
theorem gw_L_compare : wd_L_compare.all goodWord = true := k_allc rfl (k_all (by decide +kernel) (k_all (gw_X9_compare) (rfl)))
abbrev at_L_compare (dC : Nat → ClassId) (dI : Nat → Nat → Nat) (A : Nat → Prop) (h0 : Nat) (q : Nat → Nat) (k : Nat → ClassId) (fr : Nat → Option Nat) (x : Int32) (y : Int32) (ou : Nat) (cO : ClassId) (u : Nat → Int64) (t : State) : Prop := match u with
  | f2 => va_P (dC, dI) vwCl [(ou, .inl (cO, 1, .inr (.inl f2)))] t.heap ∧ va_K (dC, dI) vwCl [(cO, .long)] t ∧ va_D A [(ou, .inl (cO, 1, .inr (.inl f2)))]
set_option maxHeartbeats 4000000 in
set_option maxRecDepth 100000 in
theorem c_L_compare (l : Launch) (hlt : l.stackTraces = false) (dC : Nat → ClassId) (dI : Nat → Nat → Nat) (A : Nat → Prop) (sz : Nat) (hA0 : ∀ q, sz ≤ q → A q) (h0 : Nat) (q : Nat → Nat) (k : Nat → ClassId) (fr : Nat → Option Nat) (x : Int32) (y : Int32) (ou : Nat) (cO : ClassId)  : Met l yL_compare wd_L_compare ({ frames := 60, cells := 10, slots := 60, locals := 1200 }) (va_Pc [.ref h0, .int x, .int y, .ref ou] (fun U => U.heap.size = sz ∧ va_P (dC, dI) vwCl [(h0, .inr (12, [.ref (q 0), .ref (q 9), .ref (q 11), .ref (q 17), .ref (q 18), .ref (q 19), .ref (q 26), .ref (q 27), .ref (q 32), .ref (q 33), .ref (q 34), .int (-1)])), (q 26, .inl (k 5, 8, .inr (.inr (.inr (.inr fr))))), (q 0, .inr (3, [.ref (q 1), .ref (q 3), .ref (q 5), .ref (q 7)])), (q 1, .inr (11, [.ref (q 2), .int (nI 0), .int (nI 0)])), (q 2, .inl (k 0, 128, .inl (fun _ => 0))), (q 3, .inr (11, [.ref (q 4), .int (nI 0), .int (nI 0)])), (q 4, .inl (k 1, 128, .inl (fun _ => 0))), (ou, .inl (cO, 1, .inr (.inl (fun _ => 0))))] U.heap ∧ va_K (dC, dI) vwCl [(k 5, .object "GradientDesk$Fraction"), (k 0, .int), (k 1, .int), (cO, .long)] U ∧ va_D A [(h0, .inr (12, [.ref (q 0), .ref (q 9), .ref (q 11), .ref (q 17), .ref (q 18), .ref (q 19), .ref (q 26), .ref (q 27), .ref (q 32), .ref (q 33), .ref (q 34), .int (-1)])), (q 26, .inl (k 5, 8, .inr (.inr (.inr (.inr fr))))), (q 0, .inr (3, [.ref (q 1), .ref (q 3), .ref (q 5), .ref (q 7)])), (q 1, .inr (11, [.ref (q 2), .int (nI 0), .int (nI 0)])), (q 2, .inl (k 0, 128, .inl (fun _ => 0))), (q 3, .inr (11, [.ref (q 4), .int (nI 0), .int (nI 0)])), (q 4, .inl (k 1, 128, .inl (fun _ => 0))), (ou, .inl (cO, 1, .inr (.inl (fun _ => 0))))] ∧ exF A U U.heap ∧ FXr dC dI (fun q9 => A q9 ∧ q9 ≠ ou) h0 q k fr U U.heap)) (va_Qi (fun (r : Int32) => fun (u : Nat → Int64) => match u with | f2 => (∃ r0 : Int32, (r0 = nI 0 ∧ (0 ≤ x.toInt ∧ x.toInt ≤ 7) ∧ (0 ≤ y.toInt ∧ y.toInt ≤ 7)) ∧ r = nI 0 ∧ f2 0 = r0.toInt64) ∨ (r = nI 1 ∧ ¬ ((0 ≤ x.toInt ∧ x.toInt ≤ 7) ∧ (0 ≤ y.toInt ∧ y.toInt ≤ 7)))) (at_L_compare dC dI A h0 q k fr x y ou cO) A) (10) (60) A := by
  refine k_ofWH (hh := [(0, 10, 13, 34)]) (cc := cL_compare) (maxL := 5) (ret := (some .int)) (by decide) rfl ?_
  intro p e s m args below meth c s₁ B hml hv
  obtain ⟨rfl, hsz, hP, hK, hD, hE, hR⟩ := hv
  have hx := B.exec
  have hb := B.bytes
  have hr := B.returns
  have hts := atoms_spec (ws := wd_L_compare) B.pre
  have hown : s.vm.findClass RL = some m.cls := findClass_of_methodNamed B.named
  have hlocks := B.notSynchronized
  have bk0 : ∀ w ∈ wd_X9_compare, w ∈ wd_L_compare := fun _ h => List.mem_cons_of_mem _ (List.mem_append_right _ (List.mem_append_left _ h))
  subst hsz
  have hA : ∀ q : Nat, s.heap.size ≤ q → A q := hA0
  have hS : va_S A s.heap s.heap [] := va_S.rf
  have hl := lv_entry ([.ref h0, .int x, .int y, .ref ou]) (n := 5) (Nat.le_of_ble_eq_true rfl)
  rw [lg_entry_eq]
  generalize (lg_sl ([.ref h0, .int x, .int y, .ref ou]) ++ List.replicate (5 - (lg_sl ([.ref h0, .int x, .int y, .ref ou])).length) Slot.unset).toArray = ls at hl ⊢
  have hl : lv_has ls 5 [(0, .ref h0), (1, .int x), (2, .int y), (3, .ref ou)] := hl
  have htb : c.exceptionTable.toList = [⟨0, 10, 13, 34⟩] := (vx_table (x := yL_compare) B (hts (.codeWith yL_compare cL_compare 5 (some .int) [(0, 10, 13, 34)]) List.mem_cons_self)).trans rfl
  refine lv_aload_n hx hb dL_compare_0 rfl (lv_at hl 3 rfl) ?_
  refine lv_iconst (v := nI 0) hx hb dL_compare_1 (by decide +kernel) ?_
  refine lv_aload_n hx hb dL_compare_2 rfl (lv_at hl 0 rfl) ?_
  refine lv_iload_n hx hb dL_compare_3 rfl (lv_at hl 1 rfl) ?_
  refine lv_iload_n hx hb dL_compare_4 rfl (lv_at hl 2 rfl) ?_
  have hPc := hP.sub (ws' := [(h0, .inr (12, [.ref (q 0), .ref (q 9), .ref (q 11), .ref (q 17), .ref (q 18), .ref (q 19), .ref (q 26), .ref (q 27), .ref (q 32), .ref (q 33), .ref (q 34), .int (-1)])), (q 26, .inl (k 5, 8, .inr (.inr (.inr (.inr fr))))), (q 0, .inr (3, [.ref (q 1), .ref (q 3), .ref (q 5), .ref (q 7)])), (q 1, .inr (11, [.ref (q 2), .int (nI 0), .int (nI 0)])), (q 2, .inl (k 0, 128, .inl (fun _ => 0))), (q 3, .inr (11, [.ref (q 4), .int (nI 0), .int (nI 0)])), (q 4, .inl (k 1, 128, .inl (fun _ => 0)))]) [0, 1, 2, 3, 4, 5, 6] rfl
  have hKc := hK.sub (tys' := [(k 5, .object "GradientDesk$Fraction"), (k 0, .int), (k 1, .int)]) [0, 1, 2] rfl
  have hDc : va_D (fun q9 => A q9 ∧ q9 ≠ ou) [(h0, .inr (12, [.ref (q 0), .ref (q 9), .ref (q 11), .ref (q 17), .ref (q 18), .ref (q 19), .ref (q 26), .ref (q 27), .ref (q 32), .ref (q 33), .ref (q 34), .int (-1)])), (q 26, .inl (k 5, 8, .inr (.inr (.inr (.inr fr))))), (q 0, .inr (3, [.ref (q 1), .ref (q 3), .ref (q 5), .ref (q 7)])), (q 1, .inr (11, [.ref (q 2), .int (nI 0), .int (nI 0)])), (q 2, .inl (k 0, 128, .inl (fun _ => 0))), (q 3, .inr (11, [.ref (q 4), .int (nI 0), .int (nI 0)])), (q 4, .inl (k 1, 128, .inl (fun _ => 0)))] := k_Dno (X := [(h0, .inr (12, [.ref (q 0), .ref (q 9), .ref (q 11), .ref (q 17), .ref (q 18), .ref (q 19), .ref (q 26), .ref (q 27), .ref (q 32), .ref (q 33), .ref (q 34), .int (-1)])), (q 26, .inl (k 5, 8, .inr (.inr (.inr (.inr fr))))), (q 0, .inr (3, [.ref (q 1), .ref (q 3), .ref (q 5), .ref (q 7)])), (q 1, .inr (11, [.ref (q 2), .int (nI 0), .int (nI 0)])), (q 2, .inl (k 0, 128, .inl (fun _ => 0))), (q 3, .inr (11, [.ref (q 4), .int (nI 0), .int (nI 0)])), (q 4, .inl (k 1, 128, .inl (fun _ => 0)))]) hD
  have hFc : ∀ q9, (fun q9 => A q9 ∧ q9 ≠ ou) q9 → A q9 := fun _ h => h.1
  have hoL := (hP 7 _ rfl).lt
  have hA2 : ∀ q9, s.heap.size ≤ q9 → (fun q9 => A q9 ∧ q9 ≠ ou) q9 := fun q9 h => ⟨hA0 q9 h, by intro he; subst he; exact absurd hoL (Nat.not_lt.mpr h)⟩
  refine vx_calli (vx_runV (As := [.int x, .int y]) (rest := [.int (nI 0), .ref ou]) ⟨hx, hb, hml, hown, hts⟩ (c_X9_compare l hlt dC dI (fun q9 => A q9 ∧ q9 ≠ ou) s.heap.size hA2 h0 q k fr x y) (cwV 2 hts (goodIn_app (goodIn_r [Cond.methodLink RL 56 yX9_compare, Cond.instanceMethod yX9_compare, Cond.selects RX9 yX9_compare yX9_compare, Cond.initialized RX9] [1, 2, 3, 4] rfl rfl) (goodIn_sub (fun w9 h9 => bk0 w9 h9) gw_X9_compare)) rfl rfl rfl (by decide +kernel) ⟨Nat.le_of_ble_eq_true rfl, Nat.le_of_ble_eq_true rfl⟩) ⟨fun a U g mk q => by obtain ⟨q0, q1, qP, qK, qD, qE, qR⟩ := q; exact ⟨q0, q1, qP, va_K.moved (u := U) (U := U.calling g mk a) (Vm.Alike.refl U.vm) qK, qD, exF.same rfl rfl qE, FXr.moved (u := U) (U := U.calling g mk a) (Vm.Alike.refl U.vm) qR⟩, va_recv hKc hPc (ci := 12) (q0 := 0) rfl rfl, fun U hU hW => ⟨rfl, by rw [hU], by rw [hU]; exact hPc, va_K.moved hW.alike hKc, hDc, by rw [hU]; exact exF.warm hW (hE.narrow hFc), by rw [hU]; exact FXr.moved hW.alike hR⟩⟩ rfl rfl hl.1 rfl (lv_room (Nat.le_of_ble_eq_true rfl)) dL_compare_5 ⟨Nat.le_of_ble_eq_true rfl, Nat.le_of_ble_eq_true rfl⟩) hS (fun q _ h => hFc q h) hFc (fun q _ h => hFc q h) (fun E ce q9 u t H1 locs1 ht hvm hpx hbx hz1 hk1 hS hce hcv hcl => ?_) (fun r_1 u t H1 locs ht hvm hw_2 hB hz1 hk1 hS => ?_)
  · obtain ⟨dx1, dx2, dx3, dx4, dx5, dx6, dx7, dx8, dx9⟩ := hE.2.2.2
    obtain ⟨rfl, hx9⟩ := hbx
    refine k_catch1 (own := RL) (name := "java/lang/IndexOutOfBoundsException") hown ⟨0, 10, 13, 34⟩ _ htb (by decide) (by decide) (hts (.classLink RL 34 "java/lang/IndexOutOfBoundsException") (List.mem_of_getElem? (i := 5) rfl)) (va_Nw.use rfl dx6) hce hcv hcl ?_
    have hP : va_P (dC, dI) vwCl [(ou, .inl (cO, 1, .inr (.inl (fun _ => 0))))] H1 := (hP.sub (ws' := [(ou, .inl (cO, 1, .inr (.inl (fun _ => 0))))]) [7] rfl).kept (fun k9 q8 h9 => by rcases k9 with _ | k9; (cases h9; exact hk1 _ hoL (fun h => h.2 rfl)); cases h9)
    have hD := hD.sub (ws' := [(ou, .inl (cO, 1, .inr (.inl (fun _ => 0))))]) [7] (by decide) rfl
    have hK := hK.sub (tys' := [(cO, .long)]) [3] rfl
    generalize H1 = H at hP hS ⊢
    have hP : va_P (dC, dI) vwCl ([(ou, .inl (cO, 1, .inr (.inl (fun _ => 0))))]) H := hP
    have hD : va_D A ([(ou, .inl (cO, 1, .inr (.inl (fun _ => 0))))]) := hD
    have hK : va_K (dC, dI) vwCl [(cO, .long)] s := hK
    refine W.cs (cells' := 10) (slots' := 60) (by omega) (by omega) ?_
    refine lv_astore (lv' := [(4, .ref q9), (0, .ref h0), (1, .int x), (2, .int y), (3, .ref ou)]) hx hb dL_compare_13 hl (by decide) rfl (fun ls hl => ?_)
    refine lv_iconst (v := nI 1) hx hb dL_compare_15 (by decide +kernel) ?_
    have hP9 := hP.sub (ws' := [(ou, .inl (cO, 1, .inr (.inl (fun _ => 0))))]) [0] rfl
    have hD9 := hD.sub (ws' := [(ou, .inl (cO, 1, .inr (.inl (fun _ => 0))))]) [0] (by decide) rfl
    have hK9 := hK.sub (tys' := [(cO, .long)]) [0] rfl
    refine W.widen (k := 10) (n := 60) (by omega) (by omega) ?_
    exact W.iret (v := nI 1) hx hb hr (fun t ht hW => ⟨⟨nI 1, (fun _ => 0), rfl, Or.inr ⟨rfl, hx9⟩, by rw [ht]; exact hP9, va_K.moved hW.alike hK9, hD9⟩, hS.F ht⟩) hS.2.2 dL_compare_16
  · obtain ⟨⟩ := u
    try dsimp only at hw_2
    have hP : va_P (dC, dI) vwCl [(ou, .inl (cO, 1, .inr (.inl (fun _ => 0))))] H1 := (hP.sub (ws' := [(ou, .inl (cO, 1, .inr (.inl (fun _ => 0))))]) [7] rfl).kept (fun k9 q8 h9 => by rcases k9 with _ | k9; (cases h9; exact hk1 _ hoL (fun h => h.2 rfl)); cases h9)
    have hD := hD.sub (ws' := [(ou, .inl (cO, 1, .inr (.inl (fun _ => 0))))]) [7] (by decide) rfl
    have hK := hK.sub (tys' := [(cO, .long)]) [3] rfl
    generalize H1 = H at hP hS ⊢
    have hP : va_P (dC, dI) vwCl ([(ou, .inl (cO, 1, .inr (.inl (fun _ => 0))))]) H := hP
    have hD : va_D A ([(ou, .inl (cO, 1, .inr (.inl (fun _ => 0))))]) := hD
    have hK : va_K (dC, dI) vwCl [(cO, .long)] s := hK
    refine W.cs (cells' := 10) (slots' := 60) (by omega) (by omega) ?_
    refine lv_i2l hx hb dL_compare_8 rfl ?_
    refine lv_topl (fun y_3 e_4 => ?_)
    refine va_last hx hb hK hP hD hS 0 0 rfl rfl (vp_in_nI (show 0 < 1 by decide) (by decide)) dL_compare_9 (fun H locs hP hD hS => ?_)
    rw [nI_clamp (show 0 < 2 ^ 31 by decide)] at hP hD
    have hP : va_P (dC, dI) vwCl ([(ou, .inl (cO, 1, .inr (.inl (vp_updL ((fun _ => 0)) 0 y_3))))]) H := hP
    have hD : va_D A ([(ou, .inl (cO, 1, .inr (.inl (vp_updL ((fun _ => 0)) 0 y_3))))]) := hD
    refine lv_goto (tgt := 17) hx hb dL_compare_10 (by decide) ?_
    refine lv_iconst (v := nI 0) hx hb dL_compare_17 (by decide +kernel) ?_
    have hP9 := hP.sub (ws' := [(ou, .inl (cO, 1, .inr (.inl (vp_updL ((fun _ => 0)) 0 y_3))))]) [0] rfl
    have hD9 := hD.sub (ws' := [(ou, .inl (cO, 1, .inr (.inl (vp_updL ((fun _ => 0)) 0 y_3))))]) [0] (by decide) rfl
    have hK9 := hK.sub (tys' := [(cO, .long)]) [0] rfl
    refine W.widen (k := 10) (n := 60) (by omega) (by omega) ?_
    exact W.iret (v := nI 0) hx hb hr (fun t ht hW => ⟨⟨nI 0, (vp_updL ((fun _ => 0)) 0 y_3), rfl, Or.inl ⟨_, hw_2, rfl, e_4⟩, by rw [ht]; exact hP9, va_K.moved hW.alike hK9, hD9⟩, hS.F ht⟩) hS.2.2 dL_compare_18
def wd_L_sign : List Cond := .codeWith yL_sign cL_sign 4 (some .int) [(0, 9, 12, 34)] :: (([.methodLink RL 59 yX9_sign, .instanceMethod yX9_sign, .selects RX9 yX9_sign yX9_sign, .initialized RX9, .classLink RL 34 "java/lang/IndexOutOfBoundsException"] : List Cond) ++ (wd_X9_sign ++ ([])))
theorem gw_L_sign : wd_L_sign.all goodWord = true := k_allc rfl (k_all (by decide +kernel) (k_all (gw_X9_sign) (rfl)))
abbrev at_L_sign (dC : Nat → ClassId) (dI : Nat → Nat → Nat) (A : Nat → Prop) (h0 : Nat) (q : Nat → Nat) (k : Nat → ClassId) (fr : Nat → Option Nat) (x : Int32) (ou : Nat) (cO : ClassId) (u : Nat → Int64) (t : State) : Prop := match u with
  | f2 => va_P (dC, dI) vwCl [(ou, .inl (cO, 1, .inr (.inl f2)))] t.heap ∧ va_K (dC, dI) vwCl [(cO, .long)] t ∧ va_D A [(ou, .inl (cO, 1, .inr (.inl f2)))]
set_option maxHeartbeats 4000000 in
set_option maxRecDepth 100000 in
theorem c_L_sign (l : Launch) (hlt : l.stackTraces = false) (dC : Nat → ClassId) (dI : Nat → Nat → Nat) (A : Nat → Prop) (sz : Nat) (hA0 : ∀ q, sz ≤ q → A q) (h0 : Nat) (q : Nat → Nat) (k : Nat → ClassId) (fr : Nat → Option Nat) (x : Int32) (ou : Nat) (cO : ClassId)  : Met l yL_sign wd_L_sign ({ frames := 30, cells := 10, slots := 60, locals := 600 }) (va_Pc [.ref h0, .int x, .ref ou] (fun U => U.heap.size = sz ∧ va_P (dC, dI) vwCl [(h0, .inr (12, [.ref (q 0), .ref (q 9), .ref (q 11), .ref (q 17), .ref (q 18), .ref (q 19), .ref (q 26), .ref (q 27), .ref (q 32), .ref (q 33), .ref (q 34), .int (-1)])), (q 26, .inl (k 5, 8, .inr (.inr (.inr (.inr fr))))), (ou, .inl (cO, 1, .inr (.inl (fun _ => 0))))] U.heap ∧ va_K (dC, dI) vwCl [(k 5, .object "GradientDesk$Fraction"), (cO, .long)] U ∧ va_D A [(h0, .inr (12, [.ref (q 0), .ref (q 9), .ref (q 11), .ref (q 17), .ref (q 18), .ref (q 19), .ref (q 26), .ref (q 27), .ref (q 32), .ref (q 33), .ref (q 34), .int (-1)])), (q 26, .inl (k 5, 8, .inr (.inr (.inr (.inr fr))))), (ou, .inl (cO, 1, .inr (.inl (fun _ => 0))))] ∧ exF A U U.heap ∧ FXr dC dI (fun q9 => A q9 ∧ q9 ≠ ou) h0 q k fr U U.heap)) (va_Qi (fun (r : Int32) => fun (u : Nat → Int64) => match u with | f2 => (∃ r0 : Int32, (r0 = nI 0 ∧ 0 ≤ x.toInt ∧ x.toInt ≤ 7) ∧ r = nI 0 ∧ f2 0 = r0.toInt64) ∨ (r = nI 1 ∧ ¬ (0 ≤ x.toInt ∧ x.toInt ≤ 7))) (at_L_sign dC dI A h0 q k fr x ou cO) A) (10) (60) A := by
  refine k_ofWH (hh := [(0, 9, 12, 34)]) (cc := cL_sign) (maxL := 4) (ret := (some .int)) (by decide) rfl ?_
  intro p e s m args below meth c s₁ B hml hv
  obtain ⟨rfl, hsz, hP, hK, hD, hE, hR⟩ := hv
  have hx := B.exec
  have hb := B.bytes
  have hr := B.returns
  have hts := atoms_spec (ws := wd_L_sign) B.pre
  have hown : s.vm.findClass RL = some m.cls := findClass_of_methodNamed B.named
  have hlocks := B.notSynchronized
  have bk0 : ∀ w ∈ wd_X9_sign, w ∈ wd_L_sign := fun _ h => List.mem_cons_of_mem _ (List.mem_append_right _ (List.mem_append_left _ h))
  subst hsz
  have hA : ∀ q : Nat, s.heap.size ≤ q → A q := hA0
  have hS : va_S A s.heap s.heap [] := va_S.rf
  have hl := lv_entry ([.ref h0, .int x, .ref ou]) (n := 4) (Nat.le_of_ble_eq_true rfl)
  rw [lg_entry_eq]
  generalize (lg_sl ([.ref h0, .int x, .ref ou]) ++ List.replicate (4 - (lg_sl ([.ref h0, .int x, .ref ou])).length) Slot.unset).toArray = ls at hl ⊢
  have hl : lv_has ls 4 [(0, .ref h0), (1, .int x), (2, .ref ou)] := hl
  have htb : c.exceptionTable.toList = [⟨0, 9, 12, 34⟩] := (vx_table (x := yL_sign) B (hts (.codeWith yL_sign cL_sign 4 (some .int) [(0, 9, 12, 34)]) List.mem_cons_self)).trans rfl
  refine lv_aload_n hx hb dL_sign_0 rfl (lv_at hl 2 rfl) ?_
  refine lv_iconst (v := nI 0) hx hb dL_sign_1 (by decide +kernel) ?_
  refine lv_aload_n hx hb dL_sign_2 rfl (lv_at hl 0 rfl) ?_
  refine lv_iload_n hx hb dL_sign_3 rfl (lv_at hl 1 rfl) ?_
  have hPc := hP.sub (ws' := [(h0, .inr (12, [.ref (q 0), .ref (q 9), .ref (q 11), .ref (q 17), .ref (q 18), .ref (q 19), .ref (q 26), .ref (q 27), .ref (q 32), .ref (q 33), .ref (q 34), .int (-1)])), (q 26, .inl (k 5, 8, .inr (.inr (.inr (.inr fr)))))]) [0, 1] rfl
  have hKc := hK.sub (tys' := [(k 5, .object "GradientDesk$Fraction")]) [0] rfl
  have hDc : va_D (fun q9 => A q9 ∧ q9 ≠ ou) [(h0, .inr (12, [.ref (q 0), .ref (q 9), .ref (q 11), .ref (q 17), .ref (q 18), .ref (q 19), .ref (q 26), .ref (q 27), .ref (q 32), .ref (q 33), .ref (q 34), .int (-1)])), (q 26, .inl (k 5, 8, .inr (.inr (.inr (.inr fr)))))] := k_Dno (X := [(h0, .inr (12, [.ref (q 0), .ref (q 9), .ref (q 11), .ref (q 17), .ref (q 18), .ref (q 19), .ref (q 26), .ref (q 27), .ref (q 32), .ref (q 33), .ref (q 34), .int (-1)])), (q 26, .inl (k 5, 8, .inr (.inr (.inr (.inr fr)))))]) hD
  have hFc : ∀ q9, (fun q9 => A q9 ∧ q9 ≠ ou) q9 → A q9 := fun _ h => h.1
  have hoL := (hP 2 _ rfl).lt
  have hA2 : ∀ q9, s.heap.size ≤ q9 → (fun q9 => A q9 ∧ q9 ≠ ou) q9 := fun q9 h => ⟨hA0 q9 h, by intro he; subst he; exact absurd hoL (Nat.not_lt.mpr h)⟩
  refine vx_calli (vx_runV (As := [.int x]) (rest := [.int (nI 0), .ref ou]) ⟨hx, hb, hml, hown, hts⟩ (c_X9_sign l hlt dC dI (fun q9 => A q9 ∧ q9 ≠ ou) s.heap.size hA2 h0 q k fr x) (cwV 1 hts (goodIn_app (goodIn_r [Cond.methodLink RL 59 yX9_sign, Cond.instanceMethod yX9_sign, Cond.selects RX9 yX9_sign yX9_sign, Cond.initialized RX9] [1, 2, 3, 4] rfl rfl) (goodIn_sub (fun w9 h9 => bk0 w9 h9) gw_X9_sign)) rfl rfl rfl (by decide +kernel) ⟨Nat.le_of_ble_eq_true rfl, Nat.le_of_ble_eq_true rfl⟩) ⟨fun a U g mk q => by obtain ⟨q0, q1, qP, qK, qD, qE, qR⟩ := q; exact ⟨q0, q1, qP, va_K.moved (u := U) (U := U.calling g mk a) (Vm.Alike.refl U.vm) qK, qD, exF.same rfl rfl qE, FXr.moved (u := U) (U := U.calling g mk a) (Vm.Alike.refl U.vm) qR⟩, va_recv hKc hPc (ci := 12) (q0 := 0) rfl rfl, fun U hU hW => ⟨rfl, by rw [hU], by rw [hU]; exact hPc, va_K.moved hW.alike hKc, hDc, by rw [hU]; exact exF.warm hW (hE.narrow hFc), by rw [hU]; exact FXr.moved hW.alike hR⟩⟩ rfl rfl hl.1 rfl (lv_room (Nat.le_of_ble_eq_true rfl)) dL_sign_4 ⟨Nat.le_of_ble_eq_true rfl, Nat.le_of_ble_eq_true rfl⟩) hS (fun q _ h => hFc q h) hFc (fun q _ h => hFc q h) (fun E ce q9 u t H1 locs1 ht hvm hpx hbx hz1 hk1 hS hce hcv hcl => ?_) (fun r_1 u t H1 locs ht hvm hw_2 hB hz1 hk1 hS => ?_)
  · obtain ⟨dx1, dx2, dx3, dx4, dx5, dx6, dx7, dx8, dx9⟩ := hE.2.2.2
    obtain ⟨rfl, hx9⟩ := hbx
    refine k_catch1 (own := RL) (name := "java/lang/IndexOutOfBoundsException") hown ⟨0, 9, 12, 34⟩ _ htb (by decide) (by decide) (hts (.classLink RL 34 "java/lang/IndexOutOfBoundsException") (List.mem_of_getElem? (i := 5) rfl)) (va_Nw.use rfl dx6) hce hcv hcl ?_
    have hP : va_P (dC, dI) vwCl [(ou, .inl (cO, 1, .inr (.inl (fun _ => 0))))] H1 := (hP.sub (ws' := [(ou, .inl (cO, 1, .inr (.inl (fun _ => 0))))]) [2] rfl).kept (fun k9 q8 h9 => by rcases k9 with _ | k9; (cases h9; exact hk1 _ hoL (fun h => h.2 rfl)); cases h9)
    have hD := hD.sub (ws' := [(ou, .inl (cO, 1, .inr (.inl (fun _ => 0))))]) [2] (by decide) rfl
    have hK := hK.sub (tys' := [(cO, .long)]) [1] rfl
    generalize H1 = H at hP hS ⊢
    have hP : va_P (dC, dI) vwCl ([(ou, .inl (cO, 1, .inr (.inl (fun _ => 0))))]) H := hP
    have hD : va_D A ([(ou, .inl (cO, 1, .inr (.inl (fun _ => 0))))]) := hD
    have hK : va_K (dC, dI) vwCl [(cO, .long)] s := hK
    refine W.cs (cells' := 10) (slots' := 60) (by omega) (by omega) ?_
    refine lv_astore_n (lv' := [(3, .ref q9), (0, .ref h0), (1, .int x), (2, .ref ou)]) hx hb dL_sign_12 rfl hl (by decide) rfl (fun ls hl => ?_)
    refine lv_iconst (v := nI 1) hx hb dL_sign_13 (by decide +kernel) ?_
    have hP9 := hP.sub (ws' := [(ou, .inl (cO, 1, .inr (.inl (fun _ => 0))))]) [0] rfl
    have hD9 := hD.sub (ws' := [(ou, .inl (cO, 1, .inr (.inl (fun _ => 0))))]) [0] (by decide) rfl
    have hK9 := hK.sub (tys' := [(cO, .long)]) [0] rfl
    refine W.widen (k := 10) (n := 60) (by omega) (by omega) ?_
    exact W.iret (v := nI 1) hx hb hr (fun t ht hW => ⟨⟨nI 1, (fun _ => 0), rfl, Or.inr ⟨rfl, hx9⟩, by rw [ht]; exact hP9, va_K.moved hW.alike hK9, hD9⟩, hS.F ht⟩) hS.2.2 dL_sign_14
  · obtain ⟨⟩ := u
    try dsimp only at hw_2
    have hP : va_P (dC, dI) vwCl [(ou, .inl (cO, 1, .inr (.inl (fun _ => 0))))] H1 := (hP.sub (ws' := [(ou, .inl (cO, 1, .inr (.inl (fun _ => 0))))]) [2] rfl).kept (fun k9 q8 h9 => by rcases k9 with _ | k9; (cases h9; exact hk1 _ hoL (fun h => h.2 rfl)); cases h9)
    have hD := hD.sub (ws' := [(ou, .inl (cO, 1, .inr (.inl (fun _ => 0))))]) [2] (by decide) rfl
    have hK := hK.sub (tys' := [(cO, .long)]) [1] rfl
    generalize H1 = H at hP hS ⊢
    have hP : va_P (dC, dI) vwCl ([(ou, .inl (cO, 1, .inr (.inl (fun _ => 0))))]) H := hP
    have hD : va_D A ([(ou, .inl (cO, 1, .inr (.inl (fun _ => 0))))]) := hD
    have hK : va_K (dC, dI) vwCl [(cO, .long)] s := hK
    refine W.cs (cells' := 10) (slots' := 60) (by omega) (by omega) ?_
    refine lv_i2l hx hb dL_sign_7 rfl ?_
    refine lv_topl (fun y_3 e_4 => ?_)
    refine va_last hx hb hK hP hD hS 0 0 rfl rfl (vp_in_nI (show 0 < 1 by decide) (by decide)) dL_sign_8 (fun H locs hP hD hS => ?_)
    rw [nI_clamp (show 0 < 2 ^ 31 by decide)] at hP hD
    have hP : va_P (dC, dI) vwCl ([(ou, .inl (cO, 1, .inr (.inl (vp_updL ((fun _ => 0)) 0 y_3))))]) H := hP
    have hD : va_D A ([(ou, .inl (cO, 1, .inr (.inl (vp_updL ((fun _ => 0)) 0 y_3))))]) := hD
    refine lv_goto (tgt := 15) hx hb dL_sign_9 (by decide) ?_
    refine lv_iconst (v := nI 0) hx hb dL_sign_15 (by decide +kernel) ?_
    have hP9 := hP.sub (ws' := [(ou, .inl (cO, 1, .inr (.inl (vp_updL ((fun _ => 0)) 0 y_3))))]) [0] rfl
    have hD9 := hD.sub (ws' := [(ou, .inl (cO, 1, .inr (.inl (vp_updL ((fun _ => 0)) 0 y_3))))]) [0] (by decide) rfl
    have hK9 := hK.sub (tys' := [(cO, .long)]) [0] rfl
    refine W.widen (k := 10) (n := 60) (by omega) (by omega) ?_
    exact W.iret (v := nI 0) hx hb hr (fun t ht hW => ⟨⟨nI 0, (vp_updL ((fun _ => 0)) 0 y_3), rfl, Or.inl ⟨_, hw_2, rfl, e_4⟩, by rw [ht]; exact hP9, va_K.moved hW.alike hK9, hD9⟩, hS.F ht⟩) hS.2.2 dL_sign_16
def wd_L_bits : List Cond := .codeWith yL_bits cL_bits 5 (some .int) [(0, 10, 13, 34), (0, 10, 17, 13)] :: (([.methodLink RL 62 yX9_bits, .instanceMethod yX9_bits, .selects RX9 yX9_bits yX9_bits, .initialized RX9, .classLink RL 34 "java/lang/IndexOutOfBoundsException", .classLink RL 13 "java/lang/IllegalArgumentException"] : List Cond) ++ (wd_X9_bits ++ ([])))
theorem gw_L_bits : wd_L_bits.all goodWord = true := k_allc rfl (k_all (by decide +kernel) (k_all (gw_X9_bits) (rfl)))
abbrev at_L_bits (dC : Nat → ClassId) (dI : Nat → Nat → Nat) (A : Nat → Prop) (h0 : Nat) (q : Nat → Nat) (k : Nat → ClassId) (fr : Nat → Option Nat) (x : Int32) (y : Int32) (ou : Nat) (cO : ClassId) (u : Nat → Int64) (t : State) : Prop := match u with
  | f2 => va_P (dC, dI) vwCl [(ou, .inl (cO, 1, .inr (.inl f2)))] t.heap ∧ va_K (dC, dI) vwCl [(cO, .long)] t ∧ va_D A [(ou, .inl (cO, 1, .inr (.inl f2)))]
set_option maxHeartbeats 4000000 in
set_option maxRecDepth 100000 in
theorem c_L_bits (l : Launch) (hlt : l.stackTraces = false) (dC : Nat → ClassId) (dI : Nat → Nat → Nat) (A : Nat → Prop) (sz : Nat) (hA0 : ∀ q, sz ≤ q → A q) (h0 : Nat) (q : Nat → Nat) (k : Nat → ClassId) (fr : Nat → Option Nat) (x : Int32) (y : Int32) (ou : Nat) (cO : ClassId)  : Met l yL_bits wd_L_bits ({ frames := 50, cells := 10, slots := 60, locals := 1000 }) (va_Pc [.ref h0, .int x, .int y, .ref ou] (fun U => U.heap.size = sz ∧ va_P (dC, dI) vwCl [(h0, .inr (12, [.ref (q 0), .ref (q 9), .ref (q 11), .ref (q 17), .ref (q 18), .ref (q 19), .ref (q 26), .ref (q 27), .ref (q 32), .ref (q 33), .ref (q 34), .int (-1)])), (q 26, .inl (k 5, 8, .inr (.inr (.inr (.inr fr))))), (ou, .inl (cO, 1, .inr (.inl (fun _ => 0))))] U.heap ∧ va_K (dC, dI) vwCl [(k 5, .object "GradientDesk$Fraction"), (cO, .long)] U ∧ va_D A [(h0, .inr (12, [.ref (q 0), .ref (q 9), .ref (q 11), .ref (q 17), .ref (q 18), .ref (q 19), .ref (q 26), .ref (q 27), .ref (q 32), .ref (q 33), .ref (q 34), .int (-1)])), (q 26, .inl (k 5, 8, .inr (.inr (.inr (.inr fr))))), (ou, .inl (cO, 1, .inr (.inl (fun _ => 0))))] ∧ exF A U U.heap ∧ FXr dC dI (fun q9 => A q9 ∧ q9 ≠ ou) h0 q k fr U U.heap)) (va_Qi (fun (r : Int32) => fun (u : Nat → Int64) => match u with | f2 => (∃ r0 : Int32, (((r0 = nI 0 ∧ y.toInt = 0) ∨ (r0 = nI 1 ∧ y.toInt = 1)) ∧ (0 ≤ x.toInt ∧ x.toInt ≤ 7)) ∧ r = nI 0 ∧ f2 0 = r0.toInt64) ∨ ((r = nI 1 ∧ ¬ (0 ≤ x.toInt ∧ x.toInt ≤ 7)) ∨ (r = nI 2 ∧ (0 ≤ x.toInt ∧ x.toInt ≤ 7) ∧ ¬ (0 ≤ y.toInt ∧ y.toInt ≤ 1)))) (at_L_bits dC dI A h0 q k fr x y ou cO) A) (10) (60) A := by
  refine k_ofWH (hh := [(0, 10, 13, 34), (0, 10, 17, 13)]) (cc := cL_bits) (maxL := 5) (ret := (some .int)) (by decide) rfl ?_
  intro p e s m args below meth c s₁ B hml hv
  obtain ⟨rfl, hsz, hP, hK, hD, hE, hR⟩ := hv
  have hx := B.exec
  have hb := B.bytes
  have hr := B.returns
  have hts := atoms_spec (ws := wd_L_bits) B.pre
  have hown : s.vm.findClass RL = some m.cls := findClass_of_methodNamed B.named
  have hlocks := B.notSynchronized
  have bk0 : ∀ w ∈ wd_X9_bits, w ∈ wd_L_bits := fun _ h => List.mem_cons_of_mem _ (List.mem_append_right _ (List.mem_append_left _ h))
  subst hsz
  have hA : ∀ q : Nat, s.heap.size ≤ q → A q := hA0
  have hS : va_S A s.heap s.heap [] := va_S.rf
  have hl := lv_entry ([.ref h0, .int x, .int y, .ref ou]) (n := 5) (Nat.le_of_ble_eq_true rfl)
  rw [lg_entry_eq]
  generalize (lg_sl ([.ref h0, .int x, .int y, .ref ou]) ++ List.replicate (5 - (lg_sl ([.ref h0, .int x, .int y, .ref ou])).length) Slot.unset).toArray = ls at hl ⊢
  have hl : lv_has ls 5 [(0, .ref h0), (1, .int x), (2, .int y), (3, .ref ou)] := hl
  have htb : c.exceptionTable.toList = [⟨0, 10, 13, 34⟩, ⟨0, 10, 17, 13⟩] := (vx_table (x := yL_bits) B (hts (.codeWith yL_bits cL_bits 5 (some .int) [(0, 10, 13, 34), (0, 10, 17, 13)]) List.mem_cons_self)).trans rfl
  refine lv_aload_n hx hb dL_bits_0 rfl (lv_at hl 3 rfl) ?_
  refine lv_iconst (v := nI 0) hx hb dL_bits_1 (by decide +kernel) ?_
  refine lv_aload_n hx hb dL_bits_2 rfl (lv_at hl 0 rfl) ?_
  refine lv_iload_n hx hb dL_bits_3 rfl (lv_at hl 1 rfl) ?_
  refine lv_iload_n hx hb dL_bits_4 rfl (lv_at hl 2 rfl) ?_
  have hPc := hP.sub (ws' := [(h0, .inr (12, [.ref (q 0), .ref (q 9), .ref (q 11), .ref (q 17), .ref (q 18), .ref (q 19), .ref (q 26), .ref (q 27), .ref (q 32), .ref (q 33), .ref (q 34), .int (-1)])), (q 26, .inl (k 5, 8, .inr (.inr (.inr (.inr fr)))))]) [0, 1] rfl
  have hKc := hK.sub (tys' := [(k 5, .object "GradientDesk$Fraction")]) [0] rfl
  have hDc : va_D (fun q9 => A q9 ∧ q9 ≠ ou) [(h0, .inr (12, [.ref (q 0), .ref (q 9), .ref (q 11), .ref (q 17), .ref (q 18), .ref (q 19), .ref (q 26), .ref (q 27), .ref (q 32), .ref (q 33), .ref (q 34), .int (-1)])), (q 26, .inl (k 5, 8, .inr (.inr (.inr (.inr fr)))))] := k_Dno (X := [(h0, .inr (12, [.ref (q 0), .ref (q 9), .ref (q 11), .ref (q 17), .ref (q 18), .ref (q 19), .ref (q 26), .ref (q 27), .ref (q 32), .ref (q 33), .ref (q 34), .int (-1)])), (q 26, .inl (k 5, 8, .inr (.inr (.inr (.inr fr)))))]) hD
  have hFc : ∀ q9, (fun q9 => A q9 ∧ q9 ≠ ou) q9 → A q9 := fun _ h => h.1
  have hoL := (hP 2 _ rfl).lt
  have hA2 : ∀ q9, s.heap.size ≤ q9 → (fun q9 => A q9 ∧ q9 ≠ ou) q9 := fun q9 h => ⟨hA0 q9 h, by intro he; subst he; exact absurd hoL (Nat.not_lt.mpr h)⟩
  refine vx_calli (vx_runV (As := [.int x, .int y]) (rest := [.int (nI 0), .ref ou]) ⟨hx, hb, hml, hown, hts⟩ (c_X9_bits l hlt dC dI (fun q9 => A q9 ∧ q9 ≠ ou) s.heap.size hA2 h0 q k fr x y) (cwV 2 hts (goodIn_app (goodIn_r [Cond.methodLink RL 62 yX9_bits, Cond.instanceMethod yX9_bits, Cond.selects RX9 yX9_bits yX9_bits, Cond.initialized RX9] [1, 2, 3, 4] rfl rfl) (goodIn_sub (fun w9 h9 => bk0 w9 h9) gw_X9_bits)) rfl rfl rfl (by decide +kernel) ⟨Nat.le_of_ble_eq_true rfl, Nat.le_of_ble_eq_true rfl⟩) ⟨fun a U g mk q => by obtain ⟨q0, q1, qP, qK, qD, qE, qR⟩ := q; exact ⟨q0, q1, qP, va_K.moved (u := U) (U := U.calling g mk a) (Vm.Alike.refl U.vm) qK, qD, exF.same rfl rfl qE, FXr.moved (u := U) (U := U.calling g mk a) (Vm.Alike.refl U.vm) qR⟩, va_recv hKc hPc (ci := 12) (q0 := 0) rfl rfl, fun U hU hW => ⟨rfl, by rw [hU], by rw [hU]; exact hPc, va_K.moved hW.alike hKc, hDc, by rw [hU]; exact exF.warm hW (hE.narrow hFc), by rw [hU]; exact FXr.moved hW.alike hR⟩⟩ rfl rfl hl.1 rfl (lv_room (Nat.le_of_ble_eq_true rfl)) dL_bits_5 ⟨Nat.le_of_ble_eq_true rfl, Nat.le_of_ble_eq_true rfl⟩) hS (fun q _ h => hFc q h) hFc (fun q _ h => hFc q h) (fun E ce q9 u t H1 locs1 ht hvm hpx hbx hz1 hk1 hS hce hcv hcl => ?_) (fun r_1 u t H1 locs ht hvm hw_2 hB hz1 hk1 hS => ?_)
  · obtain ⟨dx1, dx2, dx3, dx4, dx5, dx6, dx7, dx8, dx9⟩ := hE.2.2.2
    rcases hbx with ⟨rfl, hx9⟩ | ⟨rfl, hx9⟩
    · refine k_catch1 (own := RL) (name := "java/lang/IndexOutOfBoundsException") hown ⟨0, 10, 13, 34⟩ _ htb (by decide) (by decide) (hts (.classLink RL 34 "java/lang/IndexOutOfBoundsException") (List.mem_of_getElem? (i := 5) rfl)) (va_Nw.use rfl dx6) hce hcv hcl ?_
      have hP : va_P (dC, dI) vwCl [(ou, .inl (cO, 1, .inr (.inl (fun _ => 0))))] H1 := (hP.sub (ws' := [(ou, .inl (cO, 1, .inr (.inl (fun _ => 0))))]) [2] rfl).kept (fun k9 q8 h9 => by rcases k9 with _ | k9; (cases h9; exact hk1 _ hoL (fun h => h.2 rfl)); cases h9)
      have hD := hD.sub (ws' := [(ou, .inl (cO, 1, .inr (.inl (fun _ => 0))))]) [2] (by decide) rfl
      have hK := hK.sub (tys' := [(cO, .long)]) [1] rfl
      generalize H1 = H at hP hS ⊢
      have hP : va_P (dC, dI) vwCl ([(ou, .inl (cO, 1, .inr (.inl (fun _ => 0))))]) H := hP
      have hD : va_D A ([(ou, .inl (cO, 1, .inr (.inl (fun _ => 0))))]) := hD
      have hK : va_K (dC, dI) vwCl [(cO, .long)] s := hK
      refine W.cs (cells' := 10) (slots' := 60) (by omega) (by omega) ?_
      refine lv_astore (lv' := [(4, .ref q9), (0, .ref h0), (1, .int x), (2, .int y), (3, .ref ou)]) hx hb dL_bits_13 hl (by decide) rfl (fun ls hl => ?_)
      refine lv_iconst (v := nI 1) hx hb dL_bits_15 (by decide +kernel) ?_
      have hP9 := hP.sub (ws' := [(ou, .inl (cO, 1, .inr (.inl (fun _ => 0))))]) [0] rfl
      have hD9 := hD.sub (ws' := [(ou, .inl (cO, 1, .inr (.inl (fun _ => 0))))]) [0] (by decide) rfl
      have hK9 := hK.sub (tys' := [(cO, .long)]) [0] rfl
      refine W.widen (k := 10) (n := 60) (by omega) (by omega) ?_
      exact W.iret (v := nI 1) hx hb hr (fun t ht hW => ⟨⟨nI 1, (fun _ => 0), rfl, Or.inr (Or.inl ⟨rfl, hx9⟩), by rw [ht]; exact hP9, va_K.moved hW.alike hK9, hD9⟩, hS.F ht⟩) hS.2.2 dL_bits_16
    · refine k_catch2 (own := RL) (name := "java/lang/IllegalArgumentException") (nm := "java/lang/IndexOutOfBoundsException") hown ⟨0, 10, 13, 34⟩ ⟨0, 10, 17, 13⟩ _ htb (by decide) (by decide) (hts (.classLink RL 34 "java/lang/IndexOutOfBoundsException") (List.mem_of_getElem? (i := 5) rfl)) dx9 (by decide) (by decide) (hts (.classLink RL 13 "java/lang/IllegalArgumentException") (List.mem_of_getElem? (i := 6) rfl)) (va_Nw.use rfl dx4) hce hcv hcl ?_
      have hP : va_P (dC, dI) vwCl [(ou, .inl (cO, 1, .inr (.inl (fun _ => 0))))] H1 := (hP.sub (ws' := [(ou, .inl (cO, 1, .inr (.inl (fun _ => 0))))]) [2] rfl).kept (fun k9 q8 h9 => by rcases k9 with _ | k9; (cases h9; exact hk1 _ hoL (fun h => h.2 rfl)); cases h9)
      have hD := hD.sub (ws' := [(ou, .inl (cO, 1, .inr (.inl (fun _ => 0))))]) [2] (by decide) rfl
      have hK := hK.sub (tys' := [(cO, .long)]) [1] rfl
      generalize H1 = H at hP hS ⊢
      have hP : va_P (dC, dI) vwCl ([(ou, .inl (cO, 1, .inr (.inl (fun _ => 0))))]) H := hP
      have hD : va_D A ([(ou, .inl (cO, 1, .inr (.inl (fun _ => 0))))]) := hD
      have hK : va_K (dC, dI) vwCl [(cO, .long)] s := hK
      refine W.cs (cells' := 10) (slots' := 60) (by omega) (by omega) ?_
      refine lv_astore (lv' := [(4, .ref q9), (0, .ref h0), (1, .int x), (2, .int y), (3, .ref ou)]) hx hb dL_bits_17 hl (by decide) rfl (fun ls hl => ?_)
      refine lv_iconst (v := nI 2) hx hb dL_bits_19 (by decide +kernel) ?_
      have hP9 := hP.sub (ws' := [(ou, .inl (cO, 1, .inr (.inl (fun _ => 0))))]) [0] rfl
      have hD9 := hD.sub (ws' := [(ou, .inl (cO, 1, .inr (.inl (fun _ => 0))))]) [0] (by decide) rfl
      have hK9 := hK.sub (tys' := [(cO, .long)]) [0] rfl
      refine W.widen (k := 10) (n := 60) (by omega) (by omega) ?_
      exact W.iret (v := nI 2) hx hb hr (fun t ht hW => ⟨⟨nI 2, (fun _ => 0), rfl, Or.inr (Or.inr ⟨rfl, hx9⟩), by rw [ht]; exact hP9, va_K.moved hW.alike hK9, hD9⟩, hS.F ht⟩) hS.2.2 dL_bits_20
  · obtain ⟨⟩ := u
    try dsimp only at hw_2
    have hP : va_P (dC, dI) vwCl [(ou, .inl (cO, 1, .inr (.inl (fun _ => 0))))] H1 := (hP.sub (ws' := [(ou, .inl (cO, 1, .inr (.inl (fun _ => 0))))]) [2] rfl).kept (fun k9 q8 h9 => by rcases k9 with _ | k9; (cases h9; exact hk1 _ hoL (fun h => h.2 rfl)); cases h9)
    have hD := hD.sub (ws' := [(ou, .inl (cO, 1, .inr (.inl (fun _ => 0))))]) [2] (by decide) rfl
    have hK := hK.sub (tys' := [(cO, .long)]) [1] rfl
    generalize H1 = H at hP hS ⊢
    have hP : va_P (dC, dI) vwCl ([(ou, .inl (cO, 1, .inr (.inl (fun _ => 0))))]) H := hP
    have hD : va_D A ([(ou, .inl (cO, 1, .inr (.inl (fun _ => 0))))]) := hD
    have hK : va_K (dC, dI) vwCl [(cO, .long)] s := hK
    refine W.cs (cells' := 10) (slots' := 60) (by omega) (by omega) ?_
    refine lv_i2l hx hb dL_bits_8 rfl ?_
    refine lv_topl (fun y_3 e_4 => ?_)
    refine va_last hx hb hK hP hD hS 0 0 rfl rfl (vp_in_nI (show 0 < 1 by decide) (by decide)) dL_bits_9 (fun H locs hP hD hS => ?_)
    rw [nI_clamp (show 0 < 2 ^ 31 by decide)] at hP hD
    have hP : va_P (dC, dI) vwCl ([(ou, .inl (cO, 1, .inr (.inl (vp_updL ((fun _ => 0)) 0 y_3))))]) H := hP
    have hD : va_D A ([(ou, .inl (cO, 1, .inr (.inl (vp_updL ((fun _ => 0)) 0 y_3))))]) := hD
    refine lv_goto (tgt := 21) hx hb dL_bits_10 (by decide) ?_
    refine lv_iconst (v := nI 0) hx hb dL_bits_21 (by decide +kernel) ?_
    have hP9 := hP.sub (ws' := [(ou, .inl (cO, 1, .inr (.inl (vp_updL ((fun _ => 0)) 0 y_3))))]) [0] rfl
    have hD9 := hD.sub (ws' := [(ou, .inl (cO, 1, .inr (.inl (vp_updL ((fun _ => 0)) 0 y_3))))]) [0] (by decide) rfl
    have hK9 := hK.sub (tys' := [(cO, .long)]) [0] rfl
    refine W.widen (k := 10) (n := 60) (by omega) (by omega) ?_
    exact W.iret (v := nI 0) hx hb hr (fun t ht hW => ⟨⟨nI 0, (vp_updL ((fun _ => 0)) 0 y_3), rfl, Or.inl ⟨_, hw_2, rfl, e_4⟩, by rw [ht]; exact hP9, va_K.moved hW.alike hK9, hD9⟩, hS.F ht⟩) hS.2.2 dL_bits_22
def wd_L_word : List Cond := .codeWith yL_word cL_word 6 (some .int) [(0, 12, 15, 34), (0, 12, 19, 13)] :: (([.methodLink RL 65 yX9_word, .instanceMethod yX9_word, .selects RX9 yX9_word yX9_word, .initialized RX9, .classLink RL 34 "java/lang/IndexOutOfBoundsException", .classLink RL 13 "java/lang/IllegalArgumentException"] : List Cond) ++ (wd_X9_word ++ ([])))
theorem gw_L_word : wd_L_word.all goodWord = true := k_allc rfl (k_all (by decide +kernel) (k_all (gw_X9_word) (rfl)))
abbrev at_L_word (dC : Nat → ClassId) (dI : Nat → Nat → Nat) (A : Nat → Prop) (h0 : Nat) (q : Nat → Nat) (k : Nat → ClassId) (fr : Nat → Option Nat) (x : Int32) (y : Int32) (z : Int32) (ou : Nat) (cO : ClassId) (u : Nat → Int64) (t : State) : Prop := match u with
  | f2 => va_P (dC, dI) vwCl [(ou, .inl (cO, 1, .inr (.inl f2)))] t.heap ∧ va_K (dC, dI) vwCl [(cO, .long)] t ∧ va_D A [(ou, .inl (cO, 1, .inr (.inl f2)))]
set_option maxHeartbeats 4000000 in
set_option maxRecDepth 100000 in
theorem c_L_word (l : Launch) (hlt : l.stackTraces = false) (dC : Nat → ClassId) (dI : Nat → Nat → Nat) (A : Nat → Prop) (sz : Nat) (hA0 : ∀ q, sz ≤ q → A q) (h0 : Nat) (q : Nat → Nat) (k : Nat → ClassId) (fr : Nat → Option Nat) (x : Int32) (y : Int32) (z : Int32) (ou : Nat) (cO : ClassId)  : Met l yL_word wd_L_word ({ frames := 50, cells := 10, slots := 60, locals := 1000 }) (va_Pc [.ref h0, .int x, .int y, .int z, .ref ou] (fun U => U.heap.size = sz ∧ va_P (dC, dI) vwCl [(h0, .inr (12, [.ref (q 0), .ref (q 9), .ref (q 11), .ref (q 17), .ref (q 18), .ref (q 19), .ref (q 26), .ref (q 27), .ref (q 32), .ref (q 33), .ref (q 34), .int (-1)])), (q 26, .inl (k 5, 8, .inr (.inr (.inr (.inr fr))))), (ou, .inl (cO, 1, .inr (.inl (fun _ => 0))))] U.heap ∧ va_K (dC, dI) vwCl [(k 5, .object "GradientDesk$Fraction"), (cO, .long)] U ∧ va_D A [(h0, .inr (12, [.ref (q 0), .ref (q 9), .ref (q 11), .ref (q 17), .ref (q 18), .ref (q 19), .ref (q 26), .ref (q 27), .ref (q 32), .ref (q 33), .ref (q 34), .int (-1)])), (q 26, .inl (k 5, 8, .inr (.inr (.inr (.inr fr))))), (ou, .inl (cO, 1, .inr (.inl (fun _ => 0))))] ∧ exF A U U.heap ∧ FXr dC dI (fun q9 => A q9 ∧ q9 ≠ ou) h0 q k fr U U.heap)) (va_Qi (fun (r : Int32) => fun (u : Nat → Int64) => match u with | f2 => (∃ r0 : Int32, (((r0 = nI 1 ∧ y.toInt = 1 ∧ z.toInt = 0) ∨ (r0 = nI 0 ∧ ¬ (y.toInt = 1 ∧ z.toInt = 0) ∧ (0 ≤ y.toInt ∧ y.toInt ≤ 1))) ∧ (0 ≤ x.toInt ∧ x.toInt ≤ 7) ∧ (0 ≤ z.toInt ∧ z.toInt ≤ 63)) ∧ r = nI 0 ∧ f2 0 = r0.toInt64) ∨ ((r = nI 1 ∧ ¬ ((0 ≤ x.toInt ∧ x.toInt ≤ 7) ∧ (0 ≤ z.toInt ∧ z.toInt ≤ 63))) ∨ (r = nI 2 ∧ ((0 ≤ x.toInt ∧ x.toInt ≤ 7) ∧ (0 ≤ z.toInt ∧ z.toInt ≤ 63)) ∧ ¬ (0 ≤ y.toInt ∧ y.toInt ≤ 1)))) (at_L_word dC dI A h0 q k fr x y z ou cO) A) (10) (60) A := by
  refine k_ofWH (hh := [(0, 12, 15, 34), (0, 12, 19, 13)]) (cc := cL_word) (maxL := 6) (ret := (some .int)) (by decide) rfl ?_
  intro p e s m args below meth c s₁ B hml hv
  obtain ⟨rfl, hsz, hP, hK, hD, hE, hR⟩ := hv
  have hx := B.exec
  have hb := B.bytes
  have hr := B.returns
  have hts := atoms_spec (ws := wd_L_word) B.pre
  have hown : s.vm.findClass RL = some m.cls := findClass_of_methodNamed B.named
  have hlocks := B.notSynchronized
  have bk0 : ∀ w ∈ wd_X9_word, w ∈ wd_L_word := fun _ h => List.mem_cons_of_mem _ (List.mem_append_right _ (List.mem_append_left _ h))
  subst hsz
  have hA : ∀ q : Nat, s.heap.size ≤ q → A q := hA0
  have hS : va_S A s.heap s.heap [] := va_S.rf
  have hl := lv_entry ([.ref h0, .int x, .int y, .int z, .ref ou]) (n := 6) (Nat.le_of_ble_eq_true rfl)
  rw [lg_entry_eq]
  generalize (lg_sl ([.ref h0, .int x, .int y, .int z, .ref ou]) ++ List.replicate (6 - (lg_sl ([.ref h0, .int x, .int y, .int z, .ref ou])).length) Slot.unset).toArray = ls at hl ⊢
  have hl : lv_has ls 6 [(0, .ref h0), (1, .int x), (2, .int y), (3, .int z), (4, .ref ou)] := hl
  have htb : c.exceptionTable.toList = [⟨0, 12, 15, 34⟩, ⟨0, 12, 19, 13⟩] := (vx_table (x := yL_word) B (hts (.codeWith yL_word cL_word 6 (some .int) [(0, 12, 15, 34), (0, 12, 19, 13)]) List.mem_cons_self)).trans rfl
  refine lv_aload hx hb dL_word_0 (lv_at hl 4 rfl) ?_
  refine lv_iconst (v := nI 0) hx hb dL_word_2 (by decide +kernel) ?_
  refine lv_aload_n hx hb dL_word_3 rfl (lv_at hl 0 rfl) ?_
  refine lv_iload_n hx hb dL_word_4 rfl (lv_at hl 1 rfl) ?_
  refine lv_iload_n hx hb dL_word_5 rfl (lv_at hl 2 rfl) ?_
  refine lv_iload_n hx hb dL_word_6 rfl (lv_at hl 3 rfl) ?_
  have hPc := hP.sub (ws' := [(h0, .inr (12, [.ref (q 0), .ref (q 9), .ref (q 11), .ref (q 17), .ref (q 18), .ref (q 19), .ref (q 26), .ref (q 27), .ref (q 32), .ref (q 33), .ref (q 34), .int (-1)])), (q 26, .inl (k 5, 8, .inr (.inr (.inr (.inr fr)))))]) [0, 1] rfl
  have hKc := hK.sub (tys' := [(k 5, .object "GradientDesk$Fraction")]) [0] rfl
  have hDc : va_D (fun q9 => A q9 ∧ q9 ≠ ou) [(h0, .inr (12, [.ref (q 0), .ref (q 9), .ref (q 11), .ref (q 17), .ref (q 18), .ref (q 19), .ref (q 26), .ref (q 27), .ref (q 32), .ref (q 33), .ref (q 34), .int (-1)])), (q 26, .inl (k 5, 8, .inr (.inr (.inr (.inr fr)))))] := k_Dno (X := [(h0, .inr (12, [.ref (q 0), .ref (q 9), .ref (q 11), .ref (q 17), .ref (q 18), .ref (q 19), .ref (q 26), .ref (q 27), .ref (q 32), .ref (q 33), .ref (q 34), .int (-1)])), (q 26, .inl (k 5, 8, .inr (.inr (.inr (.inr fr)))))]) hD
  have hFc : ∀ q9, (fun q9 => A q9 ∧ q9 ≠ ou) q9 → A q9 := fun _ h => h.1
  have hoL := (hP 2 _ rfl).lt
  have hA2 : ∀ q9, s.heap.size ≤ q9 → (fun q9 => A q9 ∧ q9 ≠ ou) q9 := fun q9 h => ⟨hA0 q9 h, by intro he; subst he; exact absurd hoL (Nat.not_lt.mpr h)⟩
  refine vx_calli (vx_runV (As := [.int x, .int y, .int z]) (rest := [.int (nI 0), .ref ou]) ⟨hx, hb, hml, hown, hts⟩ (c_X9_word l hlt dC dI (fun q9 => A q9 ∧ q9 ≠ ou) s.heap.size hA2 h0 q k fr x y z) (cwV 3 hts (goodIn_app (goodIn_r [Cond.methodLink RL 65 yX9_word, Cond.instanceMethod yX9_word, Cond.selects RX9 yX9_word yX9_word, Cond.initialized RX9] [1, 2, 3, 4] rfl rfl) (goodIn_sub (fun w9 h9 => bk0 w9 h9) gw_X9_word)) rfl rfl rfl (by decide +kernel) ⟨Nat.le_of_ble_eq_true rfl, Nat.le_of_ble_eq_true rfl⟩) ⟨fun a U g mk q => by obtain ⟨q0, q1, qP, qK, qD, qE, qR⟩ := q; exact ⟨q0, q1, qP, va_K.moved (u := U) (U := U.calling g mk a) (Vm.Alike.refl U.vm) qK, qD, exF.same rfl rfl qE, FXr.moved (u := U) (U := U.calling g mk a) (Vm.Alike.refl U.vm) qR⟩, va_recv hKc hPc (ci := 12) (q0 := 0) rfl rfl, fun U hU hW => ⟨rfl, by rw [hU], by rw [hU]; exact hPc, va_K.moved hW.alike hKc, hDc, by rw [hU]; exact exF.warm hW (hE.narrow hFc), by rw [hU]; exact FXr.moved hW.alike hR⟩⟩ rfl rfl hl.1 rfl (lv_room (Nat.le_of_ble_eq_true rfl)) dL_word_7 ⟨Nat.le_of_ble_eq_true rfl, Nat.le_of_ble_eq_true rfl⟩) hS (fun q _ h => hFc q h) hFc (fun q _ h => hFc q h) (fun E ce q9 u t H1 locs1 ht hvm hpx hbx hz1 hk1 hS hce hcv hcl => ?_) (fun r_1 u t H1 locs ht hvm hw_2 hB hz1 hk1 hS => ?_)
  · obtain ⟨dx1, dx2, dx3, dx4, dx5, dx6, dx7, dx8, dx9⟩ := hE.2.2.2
    rcases hbx with ⟨rfl, hx9⟩ | ⟨rfl, hx9⟩
    · refine k_catch1 (own := RL) (name := "java/lang/IndexOutOfBoundsException") hown ⟨0, 12, 15, 34⟩ _ htb (by decide) (by decide) (hts (.classLink RL 34 "java/lang/IndexOutOfBoundsException") (List.mem_of_getElem? (i := 5) rfl)) (va_Nw.use rfl dx6) hce hcv hcl ?_
      have hP : va_P (dC, dI) vwCl [(ou, .inl (cO, 1, .inr (.inl (fun _ => 0))))] H1 := (hP.sub (ws' := [(ou, .inl (cO, 1, .inr (.inl (fun _ => 0))))]) [2] rfl).kept (fun k9 q8 h9 => by rcases k9 with _ | k9; (cases h9; exact hk1 _ hoL (fun h => h.2 rfl)); cases h9)
      have hD := hD.sub (ws' := [(ou, .inl (cO, 1, .inr (.inl (fun _ => 0))))]) [2] (by decide) rfl
      have hK := hK.sub (tys' := [(cO, .long)]) [1] rfl
      generalize H1 = H at hP hS ⊢
      have hP : va_P (dC, dI) vwCl ([(ou, .inl (cO, 1, .inr (.inl (fun _ => 0))))]) H := hP
      have hD : va_D A ([(ou, .inl (cO, 1, .inr (.inl (fun _ => 0))))]) := hD
      have hK : va_K (dC, dI) vwCl [(cO, .long)] s := hK
      refine W.cs (cells' := 10) (slots' := 60) (by omega) (by omega) ?_
      refine lv_astore (lv' := [(5, .ref q9), (0, .ref h0), (1, .int x), (2, .int y), (3, .int z), (4, .ref ou)]) hx hb dL_word_15 hl (by decide) rfl (fun ls hl => ?_)
      refine lv_iconst (v := nI 1) hx hb dL_word_17 (by decide +kernel) ?_
      have hP9 := hP.sub (ws' := [(ou, .inl (cO, 1, .inr (.inl (fun _ => 0))))]) [0] rfl
      have hD9 := hD.sub (ws' := [(ou, .inl (cO, 1, .inr (.inl (fun _ => 0))))]) [0] (by decide) rfl
      have hK9 := hK.sub (tys' := [(cO, .long)]) [0] rfl
      refine W.widen (k := 10) (n := 60) (by omega) (by omega) ?_
      exact W.iret (v := nI 1) hx hb hr (fun t ht hW => ⟨⟨nI 1, (fun _ => 0), rfl, Or.inr (Or.inl ⟨rfl, hx9⟩), by rw [ht]; exact hP9, va_K.moved hW.alike hK9, hD9⟩, hS.F ht⟩) hS.2.2 dL_word_18
    · refine k_catch2 (own := RL) (name := "java/lang/IllegalArgumentException") (nm := "java/lang/IndexOutOfBoundsException") hown ⟨0, 12, 15, 34⟩ ⟨0, 12, 19, 13⟩ _ htb (by decide) (by decide) (hts (.classLink RL 34 "java/lang/IndexOutOfBoundsException") (List.mem_of_getElem? (i := 5) rfl)) dx9 (by decide) (by decide) (hts (.classLink RL 13 "java/lang/IllegalArgumentException") (List.mem_of_getElem? (i := 6) rfl)) (va_Nw.use rfl dx4) hce hcv hcl ?_
      have hP : va_P (dC, dI) vwCl [(ou, .inl (cO, 1, .inr (.inl (fun _ => 0))))] H1 := (hP.sub (ws' := [(ou, .inl (cO, 1, .inr (.inl (fun _ => 0))))]) [2] rfl).kept (fun k9 q8 h9 => by rcases k9 with _ | k9; (cases h9; exact hk1 _ hoL (fun h => h.2 rfl)); cases h9)
      have hD := hD.sub (ws' := [(ou, .inl (cO, 1, .inr (.inl (fun _ => 0))))]) [2] (by decide) rfl
      have hK := hK.sub (tys' := [(cO, .long)]) [1] rfl
      generalize H1 = H at hP hS ⊢
      have hP : va_P (dC, dI) vwCl ([(ou, .inl (cO, 1, .inr (.inl (fun _ => 0))))]) H := hP
      have hD : va_D A ([(ou, .inl (cO, 1, .inr (.inl (fun _ => 0))))]) := hD
      have hK : va_K (dC, dI) vwCl [(cO, .long)] s := hK
      refine W.cs (cells' := 10) (slots' := 60) (by omega) (by omega) ?_
      refine lv_astore (lv' := [(5, .ref q9), (0, .ref h0), (1, .int x), (2, .int y), (3, .int z), (4, .ref ou)]) hx hb dL_word_19 hl (by decide) rfl (fun ls hl => ?_)
      refine lv_iconst (v := nI 2) hx hb dL_word_21 (by decide +kernel) ?_
      have hP9 := hP.sub (ws' := [(ou, .inl (cO, 1, .inr (.inl (fun _ => 0))))]) [0] rfl
      have hD9 := hD.sub (ws' := [(ou, .inl (cO, 1, .inr (.inl (fun _ => 0))))]) [0] (by decide) rfl
      have hK9 := hK.sub (tys' := [(cO, .long)]) [0] rfl
      refine W.widen (k := 10) (n := 60) (by omega) (by omega) ?_
      exact W.iret (v := nI 2) hx hb hr (fun t ht hW => ⟨⟨nI 2, (fun _ => 0), rfl, Or.inr (Or.inr ⟨rfl, hx9⟩), by rw [ht]; exact hP9, va_K.moved hW.alike hK9, hD9⟩, hS.F ht⟩) hS.2.2 dL_word_22
  · obtain ⟨⟩ := u
    try dsimp only at hw_2
    have hP : va_P (dC, dI) vwCl [(ou, .inl (cO, 1, .inr (.inl (fun _ => 0))))] H1 := (hP.sub (ws' := [(ou, .inl (cO, 1, .inr (.inl (fun _ => 0))))]) [2] rfl).kept (fun k9 q8 h9 => by rcases k9 with _ | k9; (cases h9; exact hk1 _ hoL (fun h => h.2 rfl)); cases h9)
    have hD := hD.sub (ws' := [(ou, .inl (cO, 1, .inr (.inl (fun _ => 0))))]) [2] (by decide) rfl
    have hK := hK.sub (tys' := [(cO, .long)]) [1] rfl
    generalize H1 = H at hP hS ⊢
    have hP : va_P (dC, dI) vwCl ([(ou, .inl (cO, 1, .inr (.inl (fun _ => 0))))]) H := hP
    have hD : va_D A ([(ou, .inl (cO, 1, .inr (.inl (fun _ => 0))))]) := hD
    have hK : va_K (dC, dI) vwCl [(cO, .long)] s := hK
    refine W.cs (cells' := 10) (slots' := 60) (by omega) (by omega) ?_
    refine lv_i2l hx hb dL_word_10 rfl ?_
    refine lv_topl (fun y_3 e_4 => ?_)
    refine va_last hx hb hK hP hD hS 0 0 rfl rfl (vp_in_nI (show 0 < 1 by decide) (by decide)) dL_word_11 (fun H locs hP hD hS => ?_)
    rw [nI_clamp (show 0 < 2 ^ 31 by decide)] at hP hD
    have hP : va_P (dC, dI) vwCl ([(ou, .inl (cO, 1, .inr (.inl (vp_updL ((fun _ => 0)) 0 y_3))))]) H := hP
    have hD : va_D A ([(ou, .inl (cO, 1, .inr (.inl (vp_updL ((fun _ => 0)) 0 y_3))))]) := hD
    refine lv_goto (tgt := 23) hx hb dL_word_12 (by decide) ?_
    refine lv_iconst (v := nI 0) hx hb dL_word_23 (by decide +kernel) ?_
    have hP9 := hP.sub (ws' := [(ou, .inl (cO, 1, .inr (.inl (vp_updL ((fun _ => 0)) 0 y_3))))]) [0] rfl
    have hD9 := hD.sub (ws' := [(ou, .inl (cO, 1, .inr (.inl (vp_updL ((fun _ => 0)) 0 y_3))))]) [0] (by decide) rfl
    have hK9 := hK.sub (tys' := [(cO, .long)]) [0] rfl
    refine W.widen (k := 10) (n := 60) (by omega) (by omega) ?_
    exact W.iret (v := nI 0) hx hb hr (fun t ht hW => ⟨⟨nI 0, (vp_updL ((fun _ => 0)) 0 y_3), rfl, Or.inl ⟨_, hw_2, rfl, e_4⟩, by rw [ht]; exact hP9, va_K.moved hW.alike hK9, hD9⟩, hS.F ht⟩) hS.2.2 dL_word_24
def wd_L_write : List Cond := .codeWith yL_write cL_write 4 (some .int) [(0, 9, 12, 13), (0, 9, 15, 25)] :: (([.methodLink RL 68 yX9_write, .instanceMethod yX9_write, .selects RX9 yX9_write yX9_write, .initialized RX9, .classLink RL 13 "java/lang/IllegalArgumentException", .classLink RL 25 "java/util/NoSuchElementException"] : List Cond) ++ (wd_X9_write ++ ([])))
theorem gw_L_write : wd_L_write.all goodWord = true := k_allc rfl (k_all (by decide +kernel) (k_all (gw_X9_write) (rfl)))
abbrev at_L_write (dC : Nat → ClassId) (dI : Nat → Nat → Nat) (A : Nat → Prop) (h0 : Nat) (q : Nat → Nat) (k : Nat → ClassId) (fr : Nat → Option Nat) (x : Int32) (ou : Nat) (cO : ClassId) (u : Nat → Int64) (t : State) : Prop := match u with
  | f2 => va_P (dC, dI) vwCl [(ou, .inl (cO, 1, .inr (.inl f2)))] t.heap ∧ va_K (dC, dI) vwCl [(cO, .long)] t ∧ va_D A [(ou, .inl (cO, 1, .inr (.inl f2)))]
set_option maxHeartbeats 4000000 in
set_option maxRecDepth 100000 in
theorem c_L_write (l : Launch) (hlt : l.stackTraces = false) (dC : Nat → ClassId) (dI : Nat → Nat → Nat) (A : Nat → Prop) (sz : Nat) (hA0 : ∀ q, sz ≤ q → A q) (h0 : Nat) (q : Nat → Nat) (k : Nat → ClassId) (fr : Nat → Option Nat) (x : Int32) (ou : Nat) (cO : ClassId)  : Met l yL_write wd_L_write ({ frames := 30, cells := 10, slots := 60, locals := 600 }) (va_Pc [.ref h0, .int x, .ref ou] (fun U => U.heap.size = sz ∧ va_P (dC, dI) vwCl [(h0, .inr (12, [.ref (q 0), .ref (q 9), .ref (q 11), .ref (q 17), .ref (q 18), .ref (q 19), .ref (q 26), .ref (q 27), .ref (q 32), .ref (q 33), .ref (q 34), .int (-1)])), (q 32, .inl (k 8, 8, .inl (va_cpy (fun _ => -1) (fun _ => 0) 0 0 8))), (ou, .inl (cO, 1, .inr (.inl (fun _ => 0))))] U.heap ∧ va_K (dC, dI) vwCl [(k 8, .int), (cO, .long)] U ∧ va_D A [(h0, .inr (12, [.ref (q 0), .ref (q 9), .ref (q 11), .ref (q 17), .ref (q 18), .ref (q 19), .ref (q 26), .ref (q 27), .ref (q 32), .ref (q 33), .ref (q 34), .int (-1)])), (q 32, .inl (k 8, 8, .inl (va_cpy (fun _ => -1) (fun _ => 0) 0 0 8))), (ou, .inl (cO, 1, .inr (.inl (fun _ => 0))))] ∧ exF A U U.heap)) (va_Qi (fun (r : Int32) => fun (u : Nat → Int64) => match u with | f2 => (r = nI 1 ∧ ¬ (0 ≤ x.toInt ∧ x.toInt ≤ 7)) ∨ (r = nI 2 ∧ (0 ≤ x.toInt ∧ x.toInt ≤ 7))) (at_L_write dC dI A h0 q k fr x ou cO) A) (10) (60) A := by
  refine k_ofWH (hh := [(0, 9, 12, 13), (0, 9, 15, 25)]) (cc := cL_write) (maxL := 4) (ret := (some .int)) (by decide) rfl ?_
  intro p e s m args below meth c s₁ B hml hv
  obtain ⟨rfl, hsz, hP, hK, hD, hE⟩ := hv
  have hx := B.exec
  have hb := B.bytes
  have hr := B.returns
  have hts := atoms_spec (ws := wd_L_write) B.pre
  have hown : s.vm.findClass RL = some m.cls := findClass_of_methodNamed B.named
  have hlocks := B.notSynchronized
  have bk0 : ∀ w ∈ wd_X9_write, w ∈ wd_L_write := fun _ h => List.mem_cons_of_mem _ (List.mem_append_right _ (List.mem_append_left _ h))
  subst hsz
  have hA : ∀ q : Nat, s.heap.size ≤ q → A q := hA0
  have hS : va_S A s.heap s.heap [] := va_S.rf
  have hl := lv_entry ([.ref h0, .int x, .ref ou]) (n := 4) (Nat.le_of_ble_eq_true rfl)
  rw [lg_entry_eq]
  generalize (lg_sl ([.ref h0, .int x, .ref ou]) ++ List.replicate (4 - (lg_sl ([.ref h0, .int x, .ref ou])).length) Slot.unset).toArray = ls at hl ⊢
  have hl : lv_has ls 4 [(0, .ref h0), (1, .int x), (2, .ref ou)] := hl
  have htb : c.exceptionTable.toList = [⟨0, 9, 12, 13⟩, ⟨0, 9, 15, 25⟩] := (vx_table (x := yL_write) B (hts (.codeWith yL_write cL_write 4 (some .int) [(0, 9, 12, 13), (0, 9, 15, 25)]) List.mem_cons_self)).trans rfl
  refine lv_aload_n hx hb dL_write_0 rfl (lv_at hl 2 rfl) ?_
  refine lv_iconst (v := nI 0) hx hb dL_write_1 (by decide +kernel) ?_
  refine lv_aload_n hx hb dL_write_2 rfl (lv_at hl 0 rfl) ?_
  refine lv_iload_n hx hb dL_write_3 rfl (lv_at hl 1 rfl) ?_
  have hPc := hP.sub (ws' := [(h0, .inr (12, [.ref (q 0), .ref (q 9), .ref (q 11), .ref (q 17), .ref (q 18), .ref (q 19), .ref (q 26), .ref (q 27), .ref (q 32), .ref (q 33), .ref (q 34), .int (-1)])), (q 32, .inl (k 8, 8, .inl (va_cpy (fun _ => -1) (fun _ => 0) 0 0 8)))]) [0, 1] rfl
  have hKc := hK.sub (tys' := [(k 8, .int)]) [0] rfl
  have hDc : va_D (fun q9 => A q9 ∧ q9 ≠ ou) [(h0, .inr (12, [.ref (q 0), .ref (q 9), .ref (q 11), .ref (q 17), .ref (q 18), .ref (q 19), .ref (q 26), .ref (q 27), .ref (q 32), .ref (q 33), .ref (q 34), .int (-1)])), (q 32, .inl (k 8, 8, .inl (va_cpy (fun _ => -1) (fun _ => 0) 0 0 8)))] := k_Dno (X := [(h0, .inr (12, [.ref (q 0), .ref (q 9), .ref (q 11), .ref (q 17), .ref (q 18), .ref (q 19), .ref (q 26), .ref (q 27), .ref (q 32), .ref (q 33), .ref (q 34), .int (-1)])), (q 32, .inl (k 8, 8, .inl (va_cpy (fun _ => -1) (fun _ => 0) 0 0 8)))]) hD
  have hFc : ∀ q9, (fun q9 => A q9 ∧ q9 ≠ ou) q9 → A q9 := fun _ h => h.1
  have hoL := (hP 2 _ rfl).lt
  have hA2 : ∀ q9, s.heap.size ≤ q9 → (fun q9 => A q9 ∧ q9 ≠ ou) q9 := fun q9 h => ⟨hA0 q9 h, by intro he; subst he; exact absurd hoL (Nat.not_lt.mpr h)⟩
  refine vx_calli (vx_runV (As := [.int x]) (rest := [.int (nI 0), .ref ou]) ⟨hx, hb, hml, hown, hts⟩ (c_X9_write l hlt dC dI (fun q9 => A q9 ∧ q9 ≠ ou) s.heap.size hA2 h0 q k fr x) (cwV 1 hts (goodIn_app (goodIn_r [Cond.methodLink RL 68 yX9_write, Cond.instanceMethod yX9_write, Cond.selects RX9 yX9_write yX9_write, Cond.initialized RX9] [1, 2, 3, 4] rfl rfl) (goodIn_sub (fun w9 h9 => bk0 w9 h9) gw_X9_write)) rfl rfl rfl (by decide +kernel) ⟨Nat.le_of_ble_eq_true rfl, Nat.le_of_ble_eq_true rfl⟩) ⟨fun a U g mk q => by obtain ⟨q0, q1, qP, qK, qD, qE⟩ := q; exact ⟨q0, q1, qP, va_K.moved (u := U) (U := U.calling g mk a) (Vm.Alike.refl U.vm) qK, qD, exF.same rfl rfl qE⟩, va_recv hKc hPc (ci := 12) (q0 := 0) rfl rfl, fun U hU hW => ⟨rfl, by rw [hU], by rw [hU]; exact hPc, va_K.moved hW.alike hKc, hDc, by rw [hU]; exact exF.warm hW (hE.narrow hFc)⟩⟩ rfl rfl hl.1 rfl (lv_room (Nat.le_of_ble_eq_true rfl)) dL_write_4 ⟨Nat.le_of_ble_eq_true rfl, Nat.le_of_ble_eq_true rfl⟩) hS (fun q _ h => hFc q h) hFc (fun q _ h => hFc q h) (fun E ce q9 u t H1 locs1 ht hvm hpx hbx hz1 hk1 hS hce hcv hcl => ?_) (fun r_1 u t H1 locs ht hvm hw_2 hB hz1 hk1 hS => ?_)
  · obtain ⟨dx1, dx2, dx3, dx4, dx5, dx6, dx7, dx8, dx9⟩ := hE.2.2.2
    rcases hbx with ⟨rfl, hx9⟩ | ⟨rfl, hx9⟩
    · refine k_catch1 (own := RL) (name := "java/lang/IllegalArgumentException") hown ⟨0, 9, 12, 13⟩ _ htb (by decide) (by decide) (hts (.classLink RL 13 "java/lang/IllegalArgumentException") (List.mem_of_getElem? (i := 5) rfl)) (va_Nw.use rfl dx4) hce hcv hcl ?_
      have hP : va_P (dC, dI) vwCl [(ou, .inl (cO, 1, .inr (.inl (fun _ => 0))))] H1 := (hP.sub (ws' := [(ou, .inl (cO, 1, .inr (.inl (fun _ => 0))))]) [2] rfl).kept (fun k9 q8 h9 => by rcases k9 with _ | k9; (cases h9; exact hk1 _ hoL (fun h => h.2 rfl)); cases h9)
      have hD := hD.sub (ws' := [(ou, .inl (cO, 1, .inr (.inl (fun _ => 0))))]) [2] (by decide) rfl
      have hK := hK.sub (tys' := [(cO, .long)]) [1] rfl
      generalize H1 = H at hP hS ⊢
      have hP : va_P (dC, dI) vwCl ([(ou, .inl (cO, 1, .inr (.inl (fun _ => 0))))]) H := hP
      have hD : va_D A ([(ou, .inl (cO, 1, .inr (.inl (fun _ => 0))))]) := hD
      have hK : va_K (dC, dI) vwCl [(cO, .long)] s := hK
      refine W.cs (cells' := 10) (slots' := 60) (by omega) (by omega) ?_
      refine lv_astore_n (lv' := [(3, .ref q9), (0, .ref h0), (1, .int x), (2, .ref ou)]) hx hb dL_write_12 rfl hl (by decide) rfl (fun ls hl => ?_)
      refine lv_iconst (v := nI 1) hx hb dL_write_13 (by decide +kernel) ?_
      have hP9 := hP.sub (ws' := [(ou, .inl (cO, 1, .inr (.inl (fun _ => 0))))]) [0] rfl
      have hD9 := hD.sub (ws' := [(ou, .inl (cO, 1, .inr (.inl (fun _ => 0))))]) [0] (by decide) rfl
      have hK9 := hK.sub (tys' := [(cO, .long)]) [0] rfl
      refine W.widen (k := 10) (n := 60) (by omega) (by omega) ?_
      exact W.iret (v := nI 1) hx hb hr (fun t ht hW => ⟨⟨nI 1, (fun _ => 0), rfl, (Or.inl ⟨rfl, hx9⟩), by rw [ht]; exact hP9, va_K.moved hW.alike hK9, hD9⟩, hS.F ht⟩) hS.2.2 dL_write_14
    · refine k_catch2 (own := RL) (name := "java/util/NoSuchElementException") (nm := "java/lang/IllegalArgumentException") hown ⟨0, 9, 12, 13⟩ ⟨0, 9, 15, 25⟩ _ htb (by decide) (by decide) (hts (.classLink RL 13 "java/lang/IllegalArgumentException") (List.mem_of_getElem? (i := 5) rfl)) dx8 (by decide) (by decide) (hts (.classLink RL 25 "java/util/NoSuchElementException") (List.mem_of_getElem? (i := 6) rfl)) (va_Nw.use rfl dx7) hce hcv hcl ?_
      have hP : va_P (dC, dI) vwCl [(ou, .inl (cO, 1, .inr (.inl (fun _ => 0))))] H1 := (hP.sub (ws' := [(ou, .inl (cO, 1, .inr (.inl (fun _ => 0))))]) [2] rfl).kept (fun k9 q8 h9 => by rcases k9 with _ | k9; (cases h9; exact hk1 _ hoL (fun h => h.2 rfl)); cases h9)
      have hD := hD.sub (ws' := [(ou, .inl (cO, 1, .inr (.inl (fun _ => 0))))]) [2] (by decide) rfl
      have hK := hK.sub (tys' := [(cO, .long)]) [1] rfl
      generalize H1 = H at hP hS ⊢
      have hP : va_P (dC, dI) vwCl ([(ou, .inl (cO, 1, .inr (.inl (fun _ => 0))))]) H := hP
      have hD : va_D A ([(ou, .inl (cO, 1, .inr (.inl (fun _ => 0))))]) := hD
      have hK : va_K (dC, dI) vwCl [(cO, .long)] s := hK
      refine W.cs (cells' := 10) (slots' := 60) (by omega) (by omega) ?_
      refine lv_astore_n (lv' := [(3, .ref q9), (0, .ref h0), (1, .int x), (2, .ref ou)]) hx hb dL_write_15 rfl hl (by decide) rfl (fun ls hl => ?_)
      refine lv_iconst (v := nI 2) hx hb dL_write_16 (by decide +kernel) ?_
      have hP9 := hP.sub (ws' := [(ou, .inl (cO, 1, .inr (.inl (fun _ => 0))))]) [0] rfl
      have hD9 := hD.sub (ws' := [(ou, .inl (cO, 1, .inr (.inl (fun _ => 0))))]) [0] (by decide) rfl
      have hK9 := hK.sub (tys' := [(cO, .long)]) [0] rfl
      refine W.widen (k := 10) (n := 60) (by omega) (by omega) ?_
      exact W.iret (v := nI 2) hx hb hr (fun t ht hW => ⟨⟨nI 2, (fun _ => 0), rfl, (Or.inr ⟨rfl, hx9⟩), by rw [ht]; exact hP9, va_K.moved hW.alike hK9, hD9⟩, hS.F ht⟩) hS.2.2 dL_write_17
  · exact (hw_2 : False).elim
def wd_L_written : List Cond := .codeWith yL_written cL_written 4 (some .int) [(0, 9, 12, 34)] :: (([.methodLink RL 71 yX9_written, .instanceMethod yX9_written, .selects RX9 yX9_written yX9_written, .initialized RX9, .classLink RL 34 "java/lang/IndexOutOfBoundsException"] : List Cond) ++ (wd_X9_written ++ ([])))
theorem gw_L_written : wd_L_written.all goodWord = true := k_allc rfl (k_all (by decide +kernel) (k_all (gw_X9_written) (rfl)))
abbrev at_L_written (dC : Nat → ClassId) (dI : Nat → Nat → Nat) (A : Nat → Prop) (h0 : Nat) (q : Nat → Nat) (k : Nat → ClassId) (fr : Nat → Option Nat) (x : Int32) (ou : Nat) (cO : ClassId) (u : Nat → Int64) (t : State) : Prop := match u with
  | f2 => va_P (dC, dI) vwCl [(ou, .inl (cO, 1, .inr (.inl f2)))] t.heap ∧ va_K (dC, dI) vwCl [(cO, .long)] t ∧ va_D A [(ou, .inl (cO, 1, .inr (.inl f2)))]
set_option maxHeartbeats 4000000 in
set_option maxRecDepth 100000 in
theorem c_L_written (l : Launch) (hlt : l.stackTraces = false) (dC : Nat → ClassId) (dI : Nat → Nat → Nat) (A : Nat → Prop) (sz : Nat) (hA0 : ∀ q, sz ≤ q → A q) (h0 : Nat) (q : Nat → Nat) (k : Nat → ClassId) (fr : Nat → Option Nat) (x : Int32) (ou : Nat) (cO : ClassId)  : Met l yL_written wd_L_written ({ frames := 20, cells := 10, slots := 60, locals := 400 }) (va_Pc [.ref h0, .int x, .ref ou] (fun U => U.heap.size = sz ∧ va_P (dC, dI) vwCl [(h0, .inr (12, [.ref (q 0), .ref (q 9), .ref (q 11), .ref (q 17), .ref (q 18), .ref (q 19), .ref (q 26), .ref (q 27), .ref (q 32), .ref (q 33), .ref (q 34), .int (-1)])), (q 19, .inr (8, [.ref (q 20), .int (nI 0), .ref (q 11), .ref (q 21), .ref (q 22), .ref (q 23), .ref (q 24), .ref (q 25), .int (nI 0)])), (ou, .inl (cO, 1, .inr (.inl (fun _ => 0))))] U.heap ∧ va_K (dC, dI) vwCl [(cO, .long)] U ∧ va_D A [(h0, .inr (12, [.ref (q 0), .ref (q 9), .ref (q 11), .ref (q 17), .ref (q 18), .ref (q 19), .ref (q 26), .ref (q 27), .ref (q 32), .ref (q 33), .ref (q 34), .int (-1)])), (q 19, .inr (8, [.ref (q 20), .int (nI 0), .ref (q 11), .ref (q 21), .ref (q 22), .ref (q 23), .ref (q 24), .ref (q 25), .int (nI 0)])), (ou, .inl (cO, 1, .inr (.inl (fun _ => 0))))] ∧ exF A U U.heap)) (va_Qi (fun (r : Int32) => fun (u : Nat → Int64) => match u with | f2 => r = nI 1) (at_L_written dC dI A h0 q k fr x ou cO) A) (10) (60) A := by
  refine k_ofWH (hh := [(0, 9, 12, 34)]) (cc := cL_written) (maxL := 4) (ret := (some .int)) (by decide) rfl ?_
  intro p e s m args below meth c s₁ B hml hv
  obtain ⟨rfl, hsz, hP, hK, hD, hE⟩ := hv
  have hx := B.exec
  have hb := B.bytes
  have hr := B.returns
  have hts := atoms_spec (ws := wd_L_written) B.pre
  have hown : s.vm.findClass RL = some m.cls := findClass_of_methodNamed B.named
  have hlocks := B.notSynchronized
  have bk0 : ∀ w ∈ wd_X9_written, w ∈ wd_L_written := fun _ h => List.mem_cons_of_mem _ (List.mem_append_right _ (List.mem_append_left _ h))
  subst hsz
  have hA : ∀ q : Nat, s.heap.size ≤ q → A q := hA0
  have hS : va_S A s.heap s.heap [] := va_S.rf
  have hl := lv_entry ([.ref h0, .int x, .ref ou]) (n := 4) (Nat.le_of_ble_eq_true rfl)
  rw [lg_entry_eq]
  generalize (lg_sl ([.ref h0, .int x, .ref ou]) ++ List.replicate (4 - (lg_sl ([.ref h0, .int x, .ref ou])).length) Slot.unset).toArray = ls at hl ⊢
  have hl : lv_has ls 4 [(0, .ref h0), (1, .int x), (2, .ref ou)] := hl
  have htb : c.exceptionTable.toList = [⟨0, 9, 12, 34⟩] := (vx_table (x := yL_written) B (hts (.codeWith yL_written cL_written 4 (some .int) [(0, 9, 12, 34)]) List.mem_cons_self)).trans rfl
  refine lv_aload_n hx hb dL_written_0 rfl (lv_at hl 2 rfl) ?_
  refine lv_iconst (v := nI 0) hx hb dL_written_1 (by decide +kernel) ?_
  refine lv_aload_n hx hb dL_written_2 rfl (lv_at hl 0 rfl) ?_
  refine lv_iload_n hx hb dL_written_3 rfl (lv_at hl 1 rfl) ?_
  have hPc := hP.sub (ws' := [(h0, .inr (12, [.ref (q 0), .ref (q 9), .ref (q 11), .ref (q 17), .ref (q 18), .ref (q 19), .ref (q 26), .ref (q 27), .ref (q 32), .ref (q 33), .ref (q 34), .int (-1)])), (q 19, .inr (8, [.ref (q 20), .int (nI 0), .ref (q 11), .ref (q 21), .ref (q 22), .ref (q 23), .ref (q 24), .ref (q 25), .int (nI 0)]))]) [0, 1] rfl
  have hKc := hK.sub (tys' := []) [] rfl
  have hDc : va_D (fun q9 => A q9 ∧ q9 ≠ ou) [(h0, .inr (12, [.ref (q 0), .ref (q 9), .ref (q 11), .ref (q 17), .ref (q 18), .ref (q 19), .ref (q 26), .ref (q 27), .ref (q 32), .ref (q 33), .ref (q 34), .int (-1)])), (q 19, .inr (8, [.ref (q 20), .int (nI 0), .ref (q 11), .ref (q 21), .ref (q 22), .ref (q 23), .ref (q 24), .ref (q 25), .int (nI 0)]))] := k_Dno (X := [(h0, .inr (12, [.ref (q 0), .ref (q 9), .ref (q 11), .ref (q 17), .ref (q 18), .ref (q 19), .ref (q 26), .ref (q 27), .ref (q 32), .ref (q 33), .ref (q 34), .int (-1)])), (q 19, .inr (8, [.ref (q 20), .int (nI 0), .ref (q 11), .ref (q 21), .ref (q 22), .ref (q 23), .ref (q 24), .ref (q 25), .int (nI 0)]))]) hD
  have hFc : ∀ q9, (fun q9 => A q9 ∧ q9 ≠ ou) q9 → A q9 := fun _ h => h.1
  have hoL := (hP 2 _ rfl).lt
  have hA2 : ∀ q9, s.heap.size ≤ q9 → (fun q9 => A q9 ∧ q9 ≠ ou) q9 := fun q9 h => ⟨hA0 q9 h, by intro he; subst he; exact absurd hoL (Nat.not_lt.mpr h)⟩
  refine vx_calli (vx_runV (As := [.int x]) (rest := [.int (nI 0), .ref ou]) ⟨hx, hb, hml, hown, hts⟩ (c_X9_written l hlt dC dI (fun q9 => A q9 ∧ q9 ≠ ou) s.heap.size hA2 h0 q k fr x) (cwV 1 hts (goodIn_app (goodIn_r [Cond.methodLink RL 71 yX9_written, Cond.instanceMethod yX9_written, Cond.selects RX9 yX9_written yX9_written, Cond.initialized RX9] [1, 2, 3, 4] rfl rfl) (goodIn_sub (fun w9 h9 => bk0 w9 h9) gw_X9_written)) rfl rfl rfl (by decide +kernel) ⟨Nat.le_of_ble_eq_true rfl, Nat.le_of_ble_eq_true rfl⟩) ⟨fun a U g mk q => by obtain ⟨q0, q1, qP, qK, qD, qE⟩ := q; exact ⟨q0, q1, qP, va_K.moved (u := U) (U := U.calling g mk a) (Vm.Alike.refl U.vm) qK, qD, exF.same rfl rfl qE⟩, va_recv hKc hPc (ci := 12) (q0 := 0) rfl rfl, fun U hU hW => ⟨rfl, by rw [hU], by rw [hU]; exact hPc, va_K.moved hW.alike hKc, hDc, by rw [hU]; exact exF.warm hW (hE.narrow hFc)⟩⟩ rfl rfl hl.1 rfl (lv_room (Nat.le_of_ble_eq_true rfl)) dL_written_4 ⟨Nat.le_of_ble_eq_true rfl, Nat.le_of_ble_eq_true rfl⟩) hS (fun q _ h => hFc q h) hFc (fun q _ h => hFc q h) (fun E ce q9 u t H1 locs1 ht hvm hpx hbx hz1 hk1 hS hce hcv hcl => ?_) (fun r_1 u t H1 locs ht hvm hw_2 hB hz1 hk1 hS => ?_)
  · obtain ⟨dx1, dx2, dx3, dx4, dx5, dx6, dx7, dx8, dx9⟩ := hE.2.2.2
    obtain rfl : E = "java/lang/IndexOutOfBoundsException" := hbx
    refine k_catch1 (own := RL) (name := "java/lang/IndexOutOfBoundsException") hown ⟨0, 9, 12, 34⟩ _ htb (by decide) (by decide) (hts (.classLink RL 34 "java/lang/IndexOutOfBoundsException") (List.mem_of_getElem? (i := 5) rfl)) (va_Nw.use rfl dx6) hce hcv hcl ?_
    have hP : va_P (dC, dI) vwCl [(ou, .inl (cO, 1, .inr (.inl (fun _ => 0))))] H1 := (hP.sub (ws' := [(ou, .inl (cO, 1, .inr (.inl (fun _ => 0))))]) [2] rfl).kept (fun k9 q8 h9 => by rcases k9 with _ | k9; (cases h9; exact hk1 _ hoL (fun h => h.2 rfl)); cases h9)
    have hD := hD.sub (ws' := [(ou, .inl (cO, 1, .inr (.inl (fun _ => 0))))]) [2] (by decide) rfl
    have hK := hK.sub (tys' := [(cO, .long)]) [0] rfl
    generalize H1 = H at hP hS ⊢
    have hP : va_P (dC, dI) vwCl ([(ou, .inl (cO, 1, .inr (.inl (fun _ => 0))))]) H := hP
    have hD : va_D A ([(ou, .inl (cO, 1, .inr (.inl (fun _ => 0))))]) := hD
    have hK : va_K (dC, dI) vwCl [(cO, .long)] s := hK
    refine W.cs (cells' := 10) (slots' := 60) (by omega) (by omega) ?_
    refine lv_astore_n (lv' := [(3, .ref q9), (0, .ref h0), (1, .int x), (2, .ref ou)]) hx hb dL_written_12 rfl hl (by decide) rfl (fun ls hl => ?_)
    refine lv_iconst (v := nI 1) hx hb dL_written_13 (by decide +kernel) ?_
    have hP9 := hP.sub (ws' := [(ou, .inl (cO, 1, .inr (.inl (fun _ => 0))))]) [0] rfl
    have hD9 := hD.sub (ws' := [(ou, .inl (cO, 1, .inr (.inl (fun _ => 0))))]) [0] (by decide) rfl
    have hK9 := hK.sub (tys' := [(cO, .long)]) [0] rfl
    refine W.widen (k := 10) (n := 60) (by omega) (by omega) ?_
    exact W.iret (v := nI 1) hx hb hr (fun t ht hW => ⟨⟨nI 1, (fun _ => 0), rfl, rfl, by rw [ht]; exact hP9, va_K.moved hW.alike hK9, hD9⟩, hS.F ht⟩) hS.2.2 dL_written_14
  · exact (hw_2 : False).elim
