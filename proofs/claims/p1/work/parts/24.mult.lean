theorem k_min {n : Nat} (h : 2 ≤ n) (h2 : n ≤ 4096) : (if nI 2 < nI n then nI 2 else nI n) = nI 2 := by
  by_cases h3 : n = 2
  · subst h3; rfl
  · exact if_pos (nI_lt (by omega) (by omega))
def wd_J7_rc : List Cond := .code yJ7_rangeCheck_23922 cJ7_rangeCheck_23922 3 none :: (([] : List Cond) ++ ([]))
theorem gw_J7_rc : wd_J7_rc.all goodWord = true := k_allc rfl (k_all (by decide +kernel) (rfl))
abbrev at_J7_rc (dC : Nat → ClassId) (dI : Nat → Nat → Nat) (A : Nat → Prop) (n : Nat) (b : Nat) (u : Unit) (t : State) : Prop := match u with
  | () => va_P (dC, dI) vwCl [] t.heap ∧ va_K (dC, dI) vwCl [] t ∧ va_D A []
set_option maxHeartbeats 4000000 in
set_option maxRecDepth 100000 in
theorem c_J7_rc (l : Launch) (dC : Nat → ClassId) (dI : Nat → Nat → Nat) (A : Nat → Prop) (sz : Nat) (hA0 : ∀ q, sz ≤ q → A q) (n : Nat) (b : Nat) (hb9 : b ≤ n) (hn : n ≤ 4096) : Met l yJ7_rangeCheck_23922 wd_J7_rc ({ frames := 10, cells := 0, slots := 0, locals := 200 }) (va_Pc [.int (nI n), .int (nI 0), .int (nI b)] (fun U => U.heap.size = sz ∧ va_P (dC, dI) vwCl [] U.heap ∧ va_K (dC, dI) vwCl [] U ∧ va_D A [])) (va_Qv (fun (u : Unit) => match u with | () => True) (at_J7_rc dC dI A n b) A) (0) (0) A := by
  refine Met.ofW (cc := cJ7_rangeCheck_23922) (maxL := 3) (ret := none) (by decide) rfl ?_
  intro p e s m args below meth c s₁ B hml hv
  obtain ⟨rfl, hsz, hP, hK, hD⟩ := hv
  have hx := B.exec
  have hb := B.bytes
  have hr := B.returns
  have hts := atoms_spec (ws := wd_J7_rc) B.pre
  have hown : s.vm.findClass RJ7 = some m.cls := findClass_of_methodNamed B.named
  have hlocks := B.notSynchronized
  subst hsz
  have hA : ∀ q : Nat, s.heap.size ≤ q → A q := hA0
  have hS : va_S A s.heap s.heap [] := va_S.rf
  have hl := lv_entry ([.int (nI n), .int (nI 0), .int (nI b)]) (n := 3) (Nat.le_of_ble_eq_true rfl)
  rw [lg_entry_eq]
  generalize (lg_sl ([.int (nI n), .int (nI 0), .int (nI b)]) ++ List.replicate (3 - (lg_sl ([.int (nI n), .int (nI 0), .int (nI b)])).length) Slot.unset).toArray = ls at hl ⊢
  have hl : lv_has ls 3 [(0, .int (nI n)), (1, .int (nI 0)), (2, .int (nI b))] := hl
  refine lv_iload_n hx hb dJ7_rangeCheck_23922_0 rfl (lv_at hl 1 rfl) ?_
  refine lv_iload_n hx hb dJ7_rangeCheck_23922_1 rfl (lv_at hl 2 rfl) ?_
  refine lv_icmp_le (tgt := 46) hx hb dJ7_rangeCheck_23922_2 (by decide) (fun c_1 => ?_) (fun c_1 => absurd (mt (nI_leI (a := 0) (b := b) (by decide) (by omega)).mpr c_1) (by omega))
  refine lv_iload_n hx hb dJ7_rangeCheck_23922_46 rfl (lv_at hl 1 rfl) ?_
  refine lv_if_ge (tgt := 59) hx hb dJ7_rangeCheck_23922_47 (by decide) (fun c_2 => ?_) (fun c_2 => absurd c_2 (by decide))
  refine lv_iload_n hx hb dJ7_rangeCheck_23922_59 rfl (lv_at hl 2 rfl) ?_
  refine lv_iload_n hx hb dJ7_rangeCheck_23922_60 rfl (lv_at hl 0 rfl) ?_
  refine lv_icmp_le (tgt := 73) hx hb dJ7_rangeCheck_23922_61 (by decide) (fun c_3 => ?_) (fun c_3 => absurd (mt (nI_leI (a := b) (b := n) (by omega) (by omega)).mpr c_3) (by omega))
  have hP9 := hP.sub (ws' := []) [] rfl
  have hD9 := hD.sub (ws' := []) [] (by decide) rfl
  have hK9 := hK.sub (tys' := []) [] rfl
  refine W.widen (k := 0) (n := 0) (by omega) (by omega) ?_
  exact W.vret hx hb hr (fun t ht hW => ⟨⟨(), rfl, trivial, by rw [ht]; exact hP9, va_K.moved hW.alike hK9, hD9⟩, hS.F ht⟩) hS.2.2 dJ7_rangeCheck_23922_73
def wd_J7_fill4 : List Cond := .code yJ7_fill_fda19 cJ7_fill_fda19 5 none :: (([.methodLink RJ7 13 yJ7_rangeCheck_23922, .static yJ7_rangeCheck_23922, .initialized RJ7] : List Cond) ++ (wd_J7_rc ++ ([])))
theorem gw_J7_fill4 : wd_J7_fill4.all goodWord = true := k_allc rfl (k_all (by decide +kernel) (k_all (gw_J7_rc) (rfl)))
abbrev at_J7_fill4 (dC : Nat → ClassId) (dI : Nat → Nat → Nat) (A : Nat → Prop) (qa : Nat) (cA : ClassId) (n : Nat) (f : Nat → Int32) (b : Nat) (u : Unit) (t : State) : Prop := match u with
  | () => va_P (dC, dI) vwCl [(qa, .inl (cA, n, .inl (va_cpy (fun _ => nI 0) f 0 0 b)))] t.heap ∧ va_K (dC, dI) vwCl [(cA, .int)] t ∧ va_D A [(qa, .inl (cA, n, .inl (va_cpy (fun _ => nI 0) f 0 0 b)))]
set_option maxHeartbeats 4000000 in
set_option maxRecDepth 100000 in
theorem c_J7_fill4 (l : Launch) (dC : Nat → ClassId) (dI : Nat → Nat → Nat) (A : Nat → Prop) (sz : Nat) (hA0 : ∀ q, sz ≤ q → A q) (qa : Nat) (cA : ClassId) (n : Nat) (f : Nat → Int32) (b : Nat) (hb9 : b ≤ n) (hn : n ≤ 4096) : Met l yJ7_fill_fda19 wd_J7_fill4 ({ frames := 20, cells := 0, slots := 0, locals := 400 }) (va_Pc [.ref qa, .int (nI 0), .int (nI b), .int (nI 0)] (fun U => U.heap.size = sz ∧ va_P (dC, dI) vwCl [(qa, .inl (cA, n, .inl f))] U.heap ∧ va_K (dC, dI) vwCl [(cA, .int)] U ∧ va_D A [(qa, .inl (cA, n, .inl f))])) (va_Qv (fun (u : Unit) => match u with | () => True) (at_J7_fill4 dC dI A qa cA n f b) A) (0) (0) A := by
  refine Met.ofW (cc := cJ7_fill_fda19) (maxL := 5) (ret := none) (by decide) rfl ?_
  intro p e s m args below meth c s₁ B hml hv
  obtain ⟨rfl, hsz, hP, hK, hD⟩ := hv
  have hx := B.exec
  have hb := B.bytes
  have hr := B.returns
  have hts := atoms_spec (ws := wd_J7_fill4) B.pre
  have hown : s.vm.findClass RJ7 = some m.cls := findClass_of_methodNamed B.named
  have hlocks := B.notSynchronized
  have bk0 : ∀ w ∈ wd_J7_rc, w ∈ wd_J7_fill4 := fun _ h => List.mem_cons_of_mem _ (List.mem_append_right _ (List.mem_append_left _ h))
  subst hsz
  have hA : ∀ q : Nat, s.heap.size ≤ q → A q := hA0
  have hS : va_S A s.heap s.heap [] := va_S.rf
  have hl := lv_entry ([.ref qa, .int (nI 0), .int (nI b), .int (nI 0)]) (n := 5) (Nat.le_of_ble_eq_true rfl)
  rw [lg_entry_eq]
  generalize (lg_sl ([.ref qa, .int (nI 0), .int (nI b), .int (nI 0)]) ++ List.replicate (5 - (lg_sl ([.ref qa, .int (nI 0), .int (nI b), .int (nI 0)])).length) Slot.unset).toArray = ls at hl ⊢
  have hl : lv_has ls 5 [(0, .ref qa), (1, .int (nI 0)), (2, .int (nI b)), (3, .int (nI 0))] := hl
  refine lv_aload_n hx hb dJ7_fill_fda19_0 rfl (lv_at hl 0 rfl) ?_
  refine va_alen (v := nI n) hx hb hK hP 0 0 rfl rfl rfl dJ7_fill_fda19_1 ?_
  refine lv_iload_n hx hb dJ7_fill_fda19_2 rfl (lv_at hl 1 rfl) ?_
  refine lv_iload_n hx hb dJ7_fill_fda19_3 rfl (lv_at hl 2 rfl) ?_
  have hPc := hP.sub (ws' := []) [] rfl
  have hDc := hD.sub (ws' := []) [] (by decide) rfl
  have hKc := hK.sub (tys' := []) [] rfl
  have hFc := va_free (wc := []) hD hS hA [] rfl
  refine va_callv (va_runS (As := [.int (nI n), .int (nI 0), .int (nI b)]) (rest := []) ⟨hx, hb, hml, hown, hts⟩ (c_J7_rc l dC dI (va_A [] s.heap.size) s.heap.size (fun _ h => Or.inr h) n b hb9 hn) (va_cwS 3 hts (goodIn_app (goodIn_r [Cond.methodLink RJ7 13 yJ7_rangeCheck_23922, Cond.static yJ7_rangeCheck_23922, Cond.initialized RJ7] [1, 2, 3] rfl rfl) (goodIn_sub (fun w9 h9 => bk0 w9 h9) gw_J7_rc)) rfl rfl rfl (by decide +kernel) ⟨Nat.le_of_ble_eq_true rfl, Nat.le_of_ble_eq_true rfl⟩) ⟨fun a U g mk q => by obtain ⟨q0, q1, qP, qK, qD⟩ := q; exact ⟨q0, q1, qP, va_K.moved (u := U) (U := U.calling g mk a) (Vm.Alike.refl U.vm) qK, qD⟩, fun U hU hW => ⟨rfl, by rw [hU], by rw [hU]; exact hPc, va_K.moved hW.alike hKc, hDc.self⟩⟩ rfl rfl hl.1 rfl (lv_room (Nat.le_of_ble_eq_true rfl)) dJ7_fill_fda19_4 ⟨(Nat.le_of_ble_eq_true rfl), (Nat.le_of_ble_eq_true rfl)⟩) hS (fun q _ h => hFc q h) hFc (fun u t H1 locs ht hvm hw_1 hB hz1 hk1 hS => ?_)
  obtain ⟨⟩ := u
  obtain ⟨hP1, hK1, hD1⟩ := hB
  rw [ht] at hP1
  have hK1 := va_K.moved hvm.symm hK1
  try dsimp only at hw_1
  obtain ⟨hP, hD⟩ := va_join (wr := [(qa, .inl (cA, n, .inl f))]) (w1 := []) hP hD [] [0] rfl rfl (by decide) (by decide) hk1 hFc hP1 hD1
  have hK := (hK.sub (tys' := [(cA, .int)]) [0] rfl).app hK1
  generalize H1 = H at hP hS ⊢
  have hP : va_P (dC, dI) vwCl ([(qa, .inl (cA, n, .inl f))]) H := hP
  have hD : va_D A ([(qa, .inl (cA, n, .inl f))]) := hD
  have hK : va_K (dC, dI) vwCl [(cA, .int)] s := hK
  refine lv_iload_n hx hb dJ7_fill_fda19_7 rfl (lv_at hl 1 rfl) ?_
  refine lv_istore (lv' := [(4, .int (nI 0)), (0, .ref qa), (1, .int (nI 0)), (2, .int (nI b)), (3, .int (nI 0))]) hx hb dJ7_fill_fda19_8 hl (by decide) rfl (fun ls hl => ?_)
  have hP : va_P (dC, dI) vwCl [(qa, .inl (cA, n, .inl (va_cpy (fun _ => nI 0) f 0 0 0)))] H := by rw [k_cpy0]; exact hP
  have hD : va_D A [(qa, .inl (cA, n, .inl (va_cpy (fun _ => nI 0) f 0 0 0)))] := by rw [k_cpy0]; exact hD
  have loop_2 : ∀ (k9 : Nat) (i : Nat), b - i < k9 → i ≤ b → ∀ (H : Heap) (locs : List Loc) (ls : Array Slot), va_P (dC, dI) vwCl [(qa, .inl (cA, n, .inl (va_cpy (fun _ => nI 0) f 0 0 i)))] H → va_D A [(qa, .inl (cA, n, .inl (va_cpy (fun _ => nI 0) f 0 0 i)))] → va_K (dC, dI) vwCl [(cA, .int)] s → va_S A s.heap H locs → lv_has ls 5 [(0, .ref qa), (2, .int (nI b)), (3, .int (nI 0)), (4, .int (nI i))] → W p l e (headSpec wd_J7_fill4 ({ frames := 20, cells := 0, slots := 0, locals := 400 })).room s m ([.ref qa, .int (nI 0), .int (nI b), .int (nI 0)] : List Value).toArray below meth c H locs (0) (0) (MQ below (va_Qv (fun (u : Unit) => match u with | () => True) (at_J7_fill4 dC dI A qa cA n f b) A) ([.ref qa, .int (nI 0), .int (nI b), .int (nI 0)] : List Value).toArray s (0) (0) A) (F0 m 10 ls []) := by
    intro k9
    induction k9 with
    | zero => intro i h9; exact absurd h9 (Nat.not_lt_zero _)
    | succ k9 ih_3 =>
      intro i h9 hi H locs ls hP hD hK hS hl
      refine lv_iload hx hb dJ7_fill_fda19_10 (lv_at hl 3 rfl) ?_
      refine lv_iload_n hx hb dJ7_fill_fda19_12 rfl (lv_at hl 1 rfl) ?_
      refine lv_icmp_ge (tgt := 27) hx hb dJ7_fill_fda19_13 (by decide) (fun c_4 => ?_) (fun c_4 => ?_)
      · have c_4 := (nI_leI (a := b) (b := i) (by omega) (by omega)).mp c_4
        have hib : i = b := by omega
        rw [hib] at hP hD
        have hP9 := hP.sub (ws' := [(qa, .inl (cA, n, .inl (va_cpy (fun _ => nI 0) f 0 0 b)))]) [0] rfl
        have hD9 := hD.sub (ws' := [(qa, .inl (cA, n, .inl (va_cpy (fun _ => nI 0) f 0 0 b)))]) [0] (by decide) rfl
        have hK9 := hK.sub (tys' := [(cA, .int)]) [0] rfl
        refine W.widen (k := 0) (n := 0) (by omega) (by omega) ?_
        exact W.vret hx hb hr (fun t ht hW => ⟨⟨(), rfl, trivial, by rw [ht]; exact hP9, va_K.moved hW.alike hK9, hD9⟩, hS.F ht⟩) hS.2.2 dJ7_fill_fda19_27
      · have c_4 := mt (nI_leI (a := b) (b := i) (by omega) (by omega)).mpr c_4
        refine lv_aload_n hx hb dJ7_fill_fda19_16 rfl (lv_at hl 0 rfl) ?_
        refine lv_iload hx hb dJ7_fill_fda19_17 (lv_at hl 3 rfl) ?_
        refine lv_iload_n hx hb dJ7_fill_fda19_19 rfl (lv_at hl 2 rfl) ?_
        refine va_iast hx hb hK hP hD hS 0 0 rfl rfl (vp_in_nI (show i < n by omega) (by omega)) dJ7_fill_fda19_20 (fun H locs hP hD hS => ?_)
        rw [nI_clamp (show i < 2 ^ 31 by omega)] at hP hD
        have hP : va_P (dC, dI) vwCl ([(qa, .inl (cA, n, .inl (upd (va_cpy (fun _ => nI 0) f 0 0 i) i (nI 0))))]) H := hP
        have hD : va_D A ([(qa, .inl (cA, n, .inl (upd (va_cpy (fun _ => nI 0) f 0 0 i) i (nI 0))))]) := hD
        refine lv_iinc (v := nI (i + 1)) (lv' := [(4, .int (nI (i + 1))), (0, .ref qa), (2, .int (nI b)), (3, .int (nI 0))]) hx hb dJ7_fill_fda19_21 hl (k := 3) rfl (nI_add i 1) (by decide) rfl (fun ls hl => ?_)
        refine lv_goto (tgt := 10) hx hb dJ7_fill_fda19_24 (by decide) ?_
        rw [k_cpyS] at hP hD
        exact ih_3 (i + 1) (by omega) (by omega) _ _ _ (hP.sub (ws' := [(qa, .inl (cA, n, .inl (va_cpy (fun _ => nI 0) f 0 0 (i + 1))))]) [0] rfl) (hD.sub (ws' := [(qa, .inl (cA, n, .inl (va_cpy (fun _ => nI 0) f 0 0 (i + 1))))]) [0] (by decide) rfl) (hK.sub (tys' := [(cA, .int)]) [0] rfl) hS (lv_sub (l' := [(0, .ref qa), (2, .int (nI b)), (3, .int (nI 0)), (4, .int (nI (i + 1)))]) hl [1, 2, 3, 0] rfl)
  exact loop_2 _ 0 (Nat.lt_succ_self _) (Nat.zero_le _) _ _ _ (hP.sub (ws' := [(qa, .inl (cA, n, .inl (va_cpy (fun _ => nI 0) f 0 0 0)))]) [0] rfl) (hD.sub (ws' := [(qa, .inl (cA, n, .inl (va_cpy (fun _ => nI 0) f 0 0 0)))]) [0] (by decide) rfl) (hK.sub (tys' := [(cA, .int)]) [0] rfl) hS (lv_sub (l' := [(0, .ref qa), (2, .int (nI b)), (3, .int (nI 0)), (4, .int (nI 0))]) hl [1, 3, 4, 0] rfl)
def wd_X8_mult0 : List Cond := .code yX8_multiply cX8_multiply 10 none :: (([.fieldLink RX8 15 "GradientDesk$Whole" "size" "I", .fieldLink RX8 9 "GradientDesk$Whole" "words" "[I", .methodLink RX8 58 yJ7_fill_fda19, .static yJ7_fill_fda19, .initialized RJ7, .fieldLink RX8 19 "GradientDesk$Whole" "below" "Z"] : List Cond) ++ (u_ws RX8 TX8 3 ++ (wd_J7_fill4 ++ ([]))))
theorem gw_X8_mult0 : wd_X8_mult0.all goodWord = true := k_allc rfl (k_all (by decide +kernel) (k_all (gu_X8) (k_all (gw_J7_fill4) (rfl))))
abbrev at_X8_mult0 (dC : Nat → ClassId) (dI : Nat → Nat → Nat) (A : Nat → Prop) (h : Nat) (ha : Nat) (ch : ClassId) (n : Nat) (f : Nat → Int32) (z : Int32) (b : Int32) (x : Nat) (xa : Nat) (y : Nat) (u : Nat → Int32) (t : State) : Prop := match u with
  | f2 => va_P (dC, dI) vwCl [(h, .inr (11, [.ref ha, .int (nI 0), .int (nI 0)])), (ha, .inl (ch, n, .inl f2))] t.heap ∧ va_K (dC, dI) vwCl [(ch, .int)] t ∧ va_D A [(h, .inr (11, [.ref ha, .int (nI 0), .int (nI 0)])), (ha, .inl (ch, n, .inl f2))]
set_option maxHeartbeats 4000000 in
set_option maxRecDepth 100000 in
theorem c_X8_mult0 (l : Launch) (dC : Nat → ClassId) (dI : Nat → Nat → Nat) (A : Nat → Prop) (sz : Nat) (hA0 : ∀ q, sz ≤ q → A q) (h : Nat) (ha : Nat) (ch : ClassId) (n : Nat) (f : Nat → Int32) (z : Int32) (b : Int32) (x : Nat) (xa : Nat) (y : Nat) (hn : n ≤ 4096) (hn2 : 2 ≤ n) : Met l yX8_multiply wd_X8_mult0 ({ frames := 30, cells := 0, slots := 0, locals := 600 }) (va_Pc [.ref h, .ref x, .ref y] (fun U => U.heap.size = sz ∧ va_P (dC, dI) vwCl [(h, .inr (11, [.ref ha, .int z, .int b])), (ha, .inl (ch, n, .inl f))] U.heap ∧ va_K (dC, dI) vwCl [(ch, .int)] U ∧ va_D A [(h, .inr (11, [.ref ha, .int z, .int b])), (ha, .inl (ch, n, .inl f))] ∧ va_P (dC, dI) vwCl [(x, .inr (11, [.ref xa, .int (nI 0), .int (nI 0)]))] U.heap ∧ (∀ (k9 : Nat) (q9 : Nat × va_E), ([(x, .inr (11, [.ref xa, .int (nI 0), .int (nI 0)]))] : va_W)[k9]? = some q9 → ¬ A q9.1))) (va_Qv (fun (u : Nat → Int32) => match u with | f2 => True) (at_X8_mult0 dC dI A h ha ch n f z b x xa y) A) (0) (0) A := by
  refine Met.ofW (cc := cX8_multiply) (maxL := 10) (ret := none) (by decide) rfl ?_
  intro p e s m args below meth c s₁ B hml hv
  obtain ⟨rfl, hsz, hP, hK, hD, hRO, hROn⟩ := hv
  have hx := B.exec
  have hb := B.bytes
  have hr := B.returns
  have hts := atoms_spec (ws := wd_X8_mult0) B.pre
  have hown : s.vm.findClass RX8 = some m.cls := findClass_of_methodNamed B.named
  have hlocks := B.notSynchronized
  have bk0 : ∀ w ∈ u_ws RX8 TX8 3, w ∈ wd_X8_mult0 := fun _ h => List.mem_cons_of_mem _ (List.mem_append_right _ (List.mem_append_left _ h))
  have bk1 : ∀ w ∈ wd_J7_fill4, w ∈ wd_X8_mult0 := fun _ h => List.mem_cons_of_mem _ (List.mem_append_right _ (List.mem_append_right _ (List.mem_append_left _ h)))
  subst hsz
  have hA : ∀ q : Nat, s.heap.size ≤ q → A q := hA0
  have hS : va_S A s.heap s.heap [] := va_S.rf
  have hl := lv_entry ([.ref h, .ref x, .ref y]) (n := 10) (Nat.le_of_ble_eq_true rfl)
  rw [lg_entry_eq]
  generalize (lg_sl ([.ref h, .ref x, .ref y]) ++ List.replicate (10 - (lg_sl ([.ref h, .ref x, .ref y])).length) Slot.unset).toArray = ls at hl ⊢
  have hl : lv_has ls 10 [(0, .ref h), (1, .ref x), (2, .ref y)] := hl
  refine lv_aload_n hx hb dX8_multiply_0 rfl (lv_at hl 1 rfl) ?_
  refine va_get (D := (dC, dI)) (ci := 11) (v := .int (nI 0)) (C := RX8) (T := TX8) (N := 3) hx hb hts bk0 hown hK hRO 0 rfl rfl 1 (by decide) (hts (.fieldLink RX8 15 "GradientDesk$Whole" "size" "I") (List.mem_of_getElem? (i := 1) rfl)) (fun _ h9 => h9) rfl dX8_multiply_1 ?_
  refine lv_if_eq (tgt := 14) hx hb dX8_multiply_4 (by decide) (fun c_1 => ?_) (fun c_1 => absurd c_1 (by decide))
  refine lv_iconst (v := nI 0) hx hb dX8_multiply_14 (by decide +kernel) ?_
  refine lv_goto (tgt := 35) hx hb dX8_multiply_15 (by decide) ?_
  refine lv_istore_n (lv' := [(3, .int (nI 0)), (0, .ref h), (1, .ref x), (2, .ref y)]) hx hb dX8_multiply_35 rfl hl (by decide) rfl (fun ls hl => ?_)
  refine lv_aload_n hx hb dX8_multiply_36 rfl (lv_at hl 1 rfl) ?_
  refine va_get (D := (dC, dI)) (ci := 11) (v := .ref ha) (C := RX8) (T := TX8) (N := 3) hx hb hts bk0 hown hK hP 0 rfl rfl 0 (by decide) (hts (.fieldLink RX8 9 "GradientDesk$Whole" "words" "[I") (List.mem_of_getElem? (i := 2) rfl)) (fun _ h9 => h9) rfl dX8_multiply_37 ?_
  refine lv_iconst (v := nI 0) hx hb dX8_multiply_40 (by decide +kernel) ?_
  refine lv_iload_n hx hb dX8_multiply_41 rfl (lv_at hl 0 rfl) ?_
  refine lv_iconst (v := nI 0) hx hb dX8_multiply_42 (by decide +kernel) ?_
  have hPc := hP.sub (ws' := [(ha, .inl (ch, n, .inl f))]) [1] rfl
  have hDc := hD.sub (ws' := [(ha, .inl (ch, n, .inl f))]) [1] (by decide) rfl
  have hKc := hK.sub (tys' := [(ch, .int)]) [0] rfl
  have hFc := va_free (wc := [(ha, .inl (ch, n, .inl f))]) hD hS hA [1] rfl
  refine va_callv (va_runS (As := [.ref ha, .int (nI 0), .int (nI 0), .int (nI 0)]) (rest := []) ⟨hx, hb, hml, hown, hts⟩ (c_J7_fill4 l dC dI (va_A [(ha, .inl (ch, n, .inl f))] s.heap.size) s.heap.size (fun _ h => Or.inr h) ha ch n f 0 (by omega) hn) (va_cwS 4 hts (goodIn_app (goodIn_r [Cond.methodLink RX8 58 yJ7_fill_fda19, Cond.static yJ7_fill_fda19, Cond.initialized RJ7] [3, 4, 5] rfl rfl) (goodIn_sub (fun w9 h9 => bk1 w9 h9) gw_J7_fill4)) rfl rfl rfl (by decide +kernel) ⟨Nat.le_of_ble_eq_true rfl, Nat.le_of_ble_eq_true rfl⟩) ⟨fun a U g mk q => by obtain ⟨q0, q1, qP, qK, qD⟩ := q; exact ⟨q0, q1, qP, va_K.moved (u := U) (U := U.calling g mk a) (Vm.Alike.refl U.vm) qK, qD⟩, fun U hU hW => ⟨rfl, by rw [hU], by rw [hU]; exact hPc, va_K.moved hW.alike hKc, hDc.self⟩⟩ rfl rfl hl.1 rfl (lv_room (Nat.le_of_ble_eq_true rfl)) dX8_multiply_43 ⟨(Nat.le_of_ble_eq_true rfl), (Nat.le_of_ble_eq_true rfl)⟩) hS (fun q _ h => hFc q h) hFc (fun u t H1 locs ht hvm hw_2 hB hz1 hk1 hS => ?_)
  obtain ⟨⟩ := u
  obtain ⟨hP1, hK1, hD1⟩ := hB
  rw [ht] at hP1
  have hK1 := va_K.moved hvm.symm hK1
  try dsimp only at hw_2
  obtain ⟨hP, hD⟩ := va_join (wr := [(h, .inr (11, [.ref ha, .int z, .int b]))]) (w1 := [(ha, .inl (ch, n, .inl (va_cpy (fun _ => nI 0) f 0 0 0)))]) hP hD [1] [0] rfl rfl (by decide) (by decide) hk1 hFc hP1 hD1
  have hK := (hK.sub (tys' := []) [] rfl).app hK1
  generalize H1 = H at hP hS ⊢
  have hP : va_P (dC, dI) vwCl ([(h, .inr (11, [.ref ha, .int z, .int b])), (ha, .inl (ch, n, .inl (va_cpy (fun _ => nI 0) f 0 0 0)))]) H := hP
  have hD : va_D A ([(h, .inr (11, [.ref ha, .int z, .int b])), (ha, .inl (ch, n, .inl (va_cpy (fun _ => nI 0) f 0 0 0)))]) := hD
  have hK : va_K (dC, dI) vwCl [(ch, .int)] s := hK
  refine lv_iconst (v := nI 0) hx hb dX8_multiply_46 (by decide +kernel) ?_
  refine lv_istore (lv' := [(4, .int (nI 0)), (3, .int (nI 0)), (0, .ref h), (1, .ref x), (2, .ref y)]) hx hb dX8_multiply_47 hl (by decide) rfl (fun ls hl => ?_)
  refine lv_iload hx hb dX8_multiply_49 (lv_at hl 0 rfl) ?_
  refine lv_aload_n hx hb dX8_multiply_51 rfl (lv_at hl 3 rfl) ?_
  have hRO9 : va_P (dC, dI) vwCl [(x, .inr (11, [.ref xa, .int (nI 0), .int (nI 0)]))] H := hRO.kept (fun k9 q9 h9 => hS.2.1 q9.1 (hRO k9 q9 h9).lt (hROn k9 q9 h9))
  refine va_get (D := (dC, dI)) (ci := 11) (v := .int (nI 0)) (C := RX8) (T := TX8) (N := 3) hx hb hts bk0 hown hK hRO9 0 rfl rfl 1 (by decide) (hts (.fieldLink RX8 15 "GradientDesk$Whole" "size" "I") (List.mem_of_getElem? (i := 1) rfl)) (fun _ h9 => h9) rfl dX8_multiply_52 ?_
  refine lv_icmp_ge (tgt := 196) hx hb dX8_multiply_55 (by decide) (fun c_3 => ?_) (fun c_3 => absurd c_3 (by decide))
  refine lv_aload_n hx hb dX8_multiply_196 rfl (lv_at hl 2 rfl) ?_
  refine lv_iload_n hx hb dX8_multiply_197 rfl (lv_at hl 1 rfl) ?_
  refine lv_if_le (tgt := 218) hx hb dX8_multiply_198 (by decide) (fun c_4 => ?_) (fun c_4 => absurd c_4 (by decide))
  refine lv_iload_n hx hb dX8_multiply_218 rfl (lv_at hl 1 rfl) ?_
  refine va_put (D := (dC, dI)) (ci := 11) (v := .int (nI 0)) (ty := .int) (C := RX8) (T := TX8) (N := 3) hx hb hts bk0 tyX8 tyX8_ok nmX8 hown hK hP hD hS 0 rfl rfl 1 (by decide) (hts (.fieldLink RX8 15 "GradientDesk$Whole" "size" "I") (List.mem_of_getElem? (i := 1) rfl)) (fun _ h9 => h9) rfl (by decide +kernel) rfl rfl (Nat.le_of_ble_eq_true rfl) dX8_multiply_219 (fun H locs hP hD hS => ?_)
  have hP : va_P (dC, dI) vwCl ([(h, .inr (11, [.ref ha, .int (nI 0), .int b])), (ha, .inl (ch, n, .inl (va_cpy (fun _ => nI 0) f 0 0 0)))]) H := hP
  have hD : va_D A ([(h, .inr (11, [.ref ha, .int (nI 0), .int b])), (ha, .inl (ch, n, .inl (va_cpy (fun _ => nI 0) f 0 0 0)))]) := hD
  refine lv_aload_n hx hb dX8_multiply_222 rfl (lv_at hl 2 rfl) ?_
  refine lv_aload_n hx hb dX8_multiply_223 rfl (lv_at hl 2 rfl) ?_
  refine va_get (D := (dC, dI)) (ci := 11) (v := .int (nI 0)) (C := RX8) (T := TX8) (N := 3) hx hb hts bk0 hown hK hP 0 rfl rfl 1 (by decide) (hts (.fieldLink RX8 15 "GradientDesk$Whole" "size" "I") (List.mem_of_getElem? (i := 1) rfl)) (fun _ h9 => h9) rfl dX8_multiply_224 ?_
  refine lv_if_le (tgt := 245) hx hb dX8_multiply_227 (by decide) (fun c_5 => ?_) (fun c_5 => absurd c_5 (by decide))
  refine lv_iconst (v := nI 0) hx hb dX8_multiply_245 (by decide +kernel) ?_
  refine va_put (D := (dC, dI)) (ci := 11) (v := .int (nI 0)) (ty := .boolean) (C := RX8) (T := TX8) (N := 3) hx hb hts bk0 tyX8 tyX8_ok nmX8 hown hK hP hD hS 0 rfl rfl 2 (by decide) (hts (.fieldLink RX8 19 "GradientDesk$Whole" "below" "Z") (List.mem_of_getElem? (i := 6) rfl)) (fun _ h9 => h9) rfl (by decide +kernel) (by decide +kernel) (by decide +kernel) (Nat.le_of_ble_eq_true rfl) dX8_multiply_246 (fun H locs hP hD hS => ?_)
  have hP : va_P (dC, dI) vwCl ([(h, .inr (11, [.ref ha, .int (nI 0), .int (nI 0)])), (ha, .inl (ch, n, .inl (va_cpy (fun _ => nI 0) f 0 0 0)))]) H := hP
  have hD : va_D A ([(h, .inr (11, [.ref ha, .int (nI 0), .int (nI 0)])), (ha, .inl (ch, n, .inl (va_cpy (fun _ => nI 0) f 0 0 0)))]) := hD
  have hP9 := hP.sub (ws' := [(h, .inr (11, [.ref ha, .int (nI 0), .int (nI 0)])), (ha, .inl (ch, n, .inl (va_cpy (fun _ => nI 0) f 0 0 0)))]) [0, 1] rfl
  have hD9 := hD.sub (ws' := [(h, .inr (11, [.ref ha, .int (nI 0), .int (nI 0)])), (ha, .inl (ch, n, .inl (va_cpy (fun _ => nI 0) f 0 0 0)))]) [0, 1] (by decide) rfl
  have hK9 := hK.sub (tys' := [(ch, .int)]) [0] rfl
  refine W.widen (k := 0) (n := 0) (by omega) (by omega) ?_
  exact W.vret hx hb hr (fun t ht hW => ⟨⟨(va_cpy (fun _ => nI 0) f 0 0 0), rfl, trivial, by rw [ht]; exact hP9, va_K.moved hW.alike hK9, hD9⟩, hS.F ht⟩) hS.2.2 dX8_multiply_249
def wd_X8_mult1 : List Cond := .code yX8_multiply cX8_multiply 10 none :: (([.fieldLink RX8 15 "GradientDesk$Whole" "size" "I", .fieldLink RX8 9 "GradientDesk$Whole" "words" "[I", .methodLink RX8 29 Lib.Math.min.name, .static Lib.Math.min.name, .initialized "java/lang/Math", .code Lib.Math.min.name Lib.Math.min.code 2 (some .int), .methodLink RX8 58 yJ7_fill_fda19, .static yJ7_fill_fda19, .initialized RJ7, .constantLong RX8 48 (4294967295), .fieldLink RX8 19 "GradientDesk$Whole" "below" "Z"] : List Cond) ++ (u_ws RX8 TX8 3 ++ (wd_J7_fill4 ++ ([]))))
theorem gw_X8_mult1 : wd_X8_mult1.all goodWord = true := k_allc rfl (k_all (by decide +kernel) (k_all (gu_X8) (k_all (gw_J7_fill4) (rfl))))
abbrev at_X8_mult1 (dC : Nat → ClassId) (dI : Nat → Nat → Nat) (A : Nat → Prop) (h : Nat) (ha : Nat) (ch : ClassId) (n : Nat) (f : Nat → Int32) (z : Int32) (b : Int32) (x : Nat) (xa : Nat) (cx : ClassId) (nx : Nat) (fx : Nat → Int32) (y : Nat) (ya : Nat) (cy : ClassId) (ny : Nat) (fy : Nat → Int32) (u : Nat → Int32) (t : State) : Prop := match u with
  | f2 => va_P (dC, dI) vwCl [(h, .inr (11, [.ref ha, .int (nI 1), .int (nI 0)])), (ha, .inl (ch, n, .inl f2))] t.heap ∧ va_K (dC, dI) vwCl [(ch, .int)] t ∧ va_D A [(h, .inr (11, [.ref ha, .int (nI 1), .int (nI 0)])), (ha, .inl (ch, n, .inl f2))]
set_option maxHeartbeats 4000000 in
set_option maxRecDepth 100000 in
theorem c_X8_mult1 (l : Launch) (dC : Nat → ClassId) (dI : Nat → Nat → Nat) (A : Nat → Prop) (sz : Nat) (hA0 : ∀ q, sz ≤ q → A q) (h : Nat) (ha : Nat) (ch : ClassId) (n : Nat) (f : Nat → Int32) (z : Int32) (b : Int32) (x : Nat) (xa : Nat) (cx : ClassId) (nx : Nat) (fx : Nat → Int32) (y : Nat) (ya : Nat) (cy : ClassId) (ny : Nat) (fy : Nat → Int32) (hn : n ≤ 4096) (hn2 : 2 ≤ n) (hnx : nx ≤ 4096) (hnx2 : 2 ≤ nx) (hny : ny ≤ 4096) (hny2 : 2 ≤ ny) (hfx : fx 0 = nI 1) (hfy : fy 0 = nI 1) : Met l yX8_multiply wd_X8_mult1 ({ frames := 30, cells := 0, slots := 0, locals := 600 }) (va_Pc [.ref h, .ref x, .ref y] (fun U => U.heap.size = sz ∧ va_P (dC, dI) vwCl [(h, .inr (11, [.ref ha, .int z, .int b])), (ha, .inl (ch, n, .inl f))] U.heap ∧ va_K (dC, dI) vwCl [(ch, .int), (cx, .int), (cy, .int)] U ∧ va_D A [(h, .inr (11, [.ref ha, .int z, .int b])), (ha, .inl (ch, n, .inl f))] ∧ va_P (dC, dI) vwCl [(x, .inr (11, [.ref xa, .int (nI 1), .int (nI 0)])), (xa, .inl (cx, nx, .inl fx)), (y, .inr (11, [.ref ya, .int (nI 1), .int (nI 0)])), (ya, .inl (cy, ny, .inl fy))] U.heap ∧ (∀ (k9 : Nat) (q9 : Nat × va_E), ([(x, .inr (11, [.ref xa, .int (nI 1), .int (nI 0)])), (xa, .inl (cx, nx, .inl fx)), (y, .inr (11, [.ref ya, .int (nI 1), .int (nI 0)])), (ya, .inl (cy, ny, .inl fy))] : va_W)[k9]? = some q9 → ¬ A q9.1))) (va_Qv (fun (u : Nat → Int32) => match u with | f2 => True) (at_X8_mult1 dC dI A h ha ch n f z b x xa cx nx fx y ya cy ny fy) A) (0) (0) A := by
  refine Met.ofW (cc := cX8_multiply) (maxL := 10) (ret := none) (by decide) rfl ?_
  intro p e s m args below meth c s₁ B hml hv
  obtain ⟨rfl, hsz, hP, hK, hD, hRO, hROn⟩ := hv
  have hx := B.exec
  have hb := B.bytes
  have hr := B.returns
  have hts := atoms_spec (ws := wd_X8_mult1) B.pre
  have hown : s.vm.findClass RX8 = some m.cls := findClass_of_methodNamed B.named
  have hlocks := B.notSynchronized
  have bk0 : ∀ w ∈ u_ws RX8 TX8 3, w ∈ wd_X8_mult1 := fun _ h => List.mem_cons_of_mem _ (List.mem_append_right _ (List.mem_append_left _ h))
  have bk1 : ∀ w ∈ wd_J7_fill4, w ∈ wd_X8_mult1 := fun _ h => List.mem_cons_of_mem _ (List.mem_append_right _ (List.mem_append_right _ (List.mem_append_left _ h)))
  subst hsz
  have hA : ∀ q : Nat, s.heap.size ≤ q → A q := hA0
  have hS : va_S A s.heap s.heap [] := va_S.rf
  have hl := lv_entry ([.ref h, .ref x, .ref y]) (n := 10) (Nat.le_of_ble_eq_true rfl)
  rw [lg_entry_eq]
  generalize (lg_sl ([.ref h, .ref x, .ref y]) ++ List.replicate (10 - (lg_sl ([.ref h, .ref x, .ref y])).length) Slot.unset).toArray = ls at hl ⊢
  have hl : lv_has ls 10 [(0, .ref h), (1, .ref x), (2, .ref y)] := hl
  refine lv_aload_n hx hb dX8_multiply_0 rfl (lv_at hl 1 rfl) ?_
  refine va_get (D := (dC, dI)) (ci := 11) (v := .int (nI 1)) (C := RX8) (T := TX8) (N := 3) hx hb hts bk0 hown hK hRO 0 rfl rfl 1 (by decide) (hts (.fieldLink RX8 15 "GradientDesk$Whole" "size" "I") (List.mem_of_getElem? (i := 1) rfl)) (fun _ h9 => h9) rfl dX8_multiply_1 ?_
  refine lv_if_eq (tgt := 14) hx hb dX8_multiply_4 (by decide) (fun c_1 => absurd c_1 (by decide)) (fun c_1 => ?_)
  refine lv_aload_n hx hb dX8_multiply_7 rfl (lv_at hl 2 rfl) ?_
  refine va_get (D := (dC, dI)) (ci := 11) (v := .int (nI 1)) (C := RX8) (T := TX8) (N := 3) hx hb hts bk0 hown hK hRO 2 rfl rfl 1 (by decide) (hts (.fieldLink RX8 15 "GradientDesk$Whole" "size" "I") (List.mem_of_getElem? (i := 1) rfl)) (fun _ h9 => h9) rfl dX8_multiply_8 ?_
  refine lv_if_ne (tgt := 18) hx hb dX8_multiply_11 (by decide) (fun c_2 => ?_) (fun c_2 => absurd c_2 (by decide))
  refine lv_aload_n hx hb dX8_multiply_18 rfl (lv_at hl 0 rfl) ?_
  refine va_get (D := (dC, dI)) (ci := 11) (v := .ref ha) (C := RX8) (T := TX8) (N := 3) hx hb hts bk0 hown hK hP 0 rfl rfl 0 (by decide) (hts (.fieldLink RX8 9 "GradientDesk$Whole" "words" "[I") (List.mem_of_getElem? (i := 2) rfl)) (fun _ h9 => h9) rfl dX8_multiply_19 ?_
  refine va_alen (v := nI n) hx hb hK hP 1 0 rfl rfl rfl dX8_multiply_22 ?_
  refine lv_aload_n hx hb dX8_multiply_23 rfl (lv_at hl 1 rfl) ?_
  refine va_get (D := (dC, dI)) (ci := 11) (v := .int (nI 1)) (C := RX8) (T := TX8) (N := 3) hx hb hts bk0 hown hK hRO 0 rfl rfl 1 (by decide) (hts (.fieldLink RX8 15 "GradientDesk$Whole" "size" "I") (List.mem_of_getElem? (i := 1) rfl)) (fun _ h9 => h9) rfl dX8_multiply_24 ?_
  refine lv_aload_n hx hb dX8_multiply_27 rfl (lv_at hl 2 rfl) ?_
  refine va_get (D := (dC, dI)) (ci := 11) (v := .int (nI 1)) (C := RX8) (T := TX8) (N := 3) hx hb hts bk0 hown hK hRO 2 rfl rfl 1 (by decide) (hts (.fieldLink RX8 15 "GradientDesk$Whole" "size" "I") (List.mem_of_getElem? (i := 1) rfl)) (fun _ h9 => h9) rfl dX8_multiply_28 ?_
  refine lv_iadd hx hb dX8_multiply_31 ?_
  refine lv_topi (fun x_3 e_4 => ?_)
  obtain rfl : x_3 = nI 2 := e_4.trans (nI_add 1 1)
  refine va_mmin hx hb (by rw [hml]; exact hl.1.symm) hown (hts (.methodLink RX8 29 Lib.Math.min.name) (List.mem_of_getElem? (i := 3) rfl)) (hts (.static Lib.Math.min.name) (List.mem_of_getElem? (i := 4) rfl)) (hts (.initialized "java/lang/Math") (List.mem_of_getElem? (i := 5) rfl)) (hts (.code Lib.Math.min.name Lib.Math.min.code 2 (some .int)) (List.mem_of_getElem? (i := 6) rfl)) (Nat.le_of_ble_eq_true rfl) (Nat.le_of_ble_eq_true rfl) (Nat.le_of_ble_eq_true rfl) (Nat.le_of_ble_eq_true rfl) dX8_multiply_32 ?_
  refine lv_topi (fun x_5 e_6 => ?_)
  obtain rfl : x_5 = nI 2 := by rw [e_6]; exact k_min (by omega) (by omega)
  refine lv_istore_n (lv' := [(3, .int (nI 2)), (0, .ref h), (1, .ref x), (2, .ref y)]) hx hb dX8_multiply_35 rfl hl (by decide) rfl (fun ls hl => ?_)
  refine lv_aload_n hx hb dX8_multiply_36 rfl (lv_at hl 1 rfl) ?_
  refine va_get (D := (dC, dI)) (ci := 11) (v := .ref ha) (C := RX8) (T := TX8) (N := 3) hx hb hts bk0 hown hK hP 0 rfl rfl 0 (by decide) (hts (.fieldLink RX8 9 "GradientDesk$Whole" "words" "[I") (List.mem_of_getElem? (i := 2) rfl)) (fun _ h9 => h9) rfl dX8_multiply_37 ?_
  refine lv_iconst (v := nI 0) hx hb dX8_multiply_40 (by decide +kernel) ?_
  refine lv_iload_n hx hb dX8_multiply_41 rfl (lv_at hl 0 rfl) ?_
  refine lv_iconst (v := nI 0) hx hb dX8_multiply_42 (by decide +kernel) ?_
  have hPc := hP.sub (ws' := [(ha, .inl (ch, n, .inl f))]) [1] rfl
  have hDc := hD.sub (ws' := [(ha, .inl (ch, n, .inl f))]) [1] (by decide) rfl
  have hKc := hK.sub (tys' := [(ch, .int)]) [0] rfl
  have hFc := va_free (wc := [(ha, .inl (ch, n, .inl f))]) hD hS hA [1] rfl
  refine va_callv (va_runS (As := [.ref ha, .int (nI 0), .int (nI 2), .int (nI 0)]) (rest := []) ⟨hx, hb, hml, hown, hts⟩ (c_J7_fill4 l dC dI (va_A [(ha, .inl (ch, n, .inl f))] s.heap.size) s.heap.size (fun _ h => Or.inr h) ha ch n f 2 (by omega) hn) (va_cwS 4 hts (goodIn_app (goodIn_r [Cond.methodLink RX8 58 yJ7_fill_fda19, Cond.static yJ7_fill_fda19, Cond.initialized RJ7] [7, 8, 9] rfl rfl) (goodIn_sub (fun w9 h9 => bk1 w9 h9) gw_J7_fill4)) rfl rfl rfl (by decide +kernel) ⟨Nat.le_of_ble_eq_true rfl, Nat.le_of_ble_eq_true rfl⟩) ⟨fun a U g mk q => by obtain ⟨q0, q1, qP, qK, qD⟩ := q; exact ⟨q0, q1, qP, va_K.moved (u := U) (U := U.calling g mk a) (Vm.Alike.refl U.vm) qK, qD⟩, fun U hU hW => ⟨rfl, by rw [hU], by rw [hU]; exact hPc, va_K.moved hW.alike hKc, hDc.self⟩⟩ rfl rfl hl.1 rfl (lv_room (Nat.le_of_ble_eq_true rfl)) dX8_multiply_43 ⟨(Nat.le_of_ble_eq_true rfl), (Nat.le_of_ble_eq_true rfl)⟩) hS (fun q _ h => hFc q h) hFc (fun u t H1 locs ht hvm hw_7 hB hz1 hk1 hS => ?_)
  obtain ⟨⟩ := u
  obtain ⟨hP1, hK1, hD1⟩ := hB
  rw [ht] at hP1
  have hK1 := va_K.moved hvm.symm hK1
  try dsimp only at hw_7
  obtain ⟨hP, hD⟩ := va_join (wr := [(h, .inr (11, [.ref ha, .int z, .int b]))]) (w1 := [(ha, .inl (ch, n, .inl (va_cpy (fun _ => nI 0) f 0 0 2)))]) hP hD [1] [0] rfl rfl (by decide) (by decide) hk1 hFc hP1 hD1
  have hK := (hK.sub (tys' := [(cx, .int), (cy, .int)]) [1, 2] rfl).app hK1
  generalize H1 = H at hP hS ⊢
  have hP : va_P (dC, dI) vwCl ([(h, .inr (11, [.ref ha, .int z, .int b])), (ha, .inl (ch, n, .inl (va_cpy (fun _ => nI 0) f 0 0 2)))]) H := hP
  have hD : va_D A ([(h, .inr (11, [.ref ha, .int z, .int b])), (ha, .inl (ch, n, .inl (va_cpy (fun _ => nI 0) f 0 0 2)))]) := hD
  have hK : va_K (dC, dI) vwCl [(cx, .int), (cy, .int), (ch, .int)] s := hK
  refine lv_iconst (v := nI 0) hx hb dX8_multiply_46 (by decide +kernel) ?_
  refine lv_istore (lv' := [(4, .int (nI 0)), (3, .int (nI 2)), (0, .ref h), (1, .ref x), (2, .ref y)]) hx hb dX8_multiply_47 hl (by decide) rfl (fun ls hl => ?_)
  refine lv_iload hx hb dX8_multiply_49 (lv_at hl 0 rfl) ?_
  refine lv_aload_n hx hb dX8_multiply_51 rfl (lv_at hl 3 rfl) ?_
  have hRO9 : va_P (dC, dI) vwCl [(x, .inr (11, [.ref xa, .int (nI 1), .int (nI 0)])), (xa, .inl (cx, nx, .inl fx)), (y, .inr (11, [.ref ya, .int (nI 1), .int (nI 0)])), (ya, .inl (cy, ny, .inl fy))] H := hRO.kept (fun k9 q9 h9 => hS.2.1 q9.1 (hRO k9 q9 h9).lt (hROn k9 q9 h9))
  refine va_get (D := (dC, dI)) (ci := 11) (v := .int (nI 1)) (C := RX8) (T := TX8) (N := 3) hx hb hts bk0 hown hK hRO9 0 rfl rfl 1 (by decide) (hts (.fieldLink RX8 15 "GradientDesk$Whole" "size" "I") (List.mem_of_getElem? (i := 1) rfl)) (fun _ h9 => h9) rfl dX8_multiply_52 ?_
  refine lv_icmp_ge (tgt := 196) hx hb dX8_multiply_55 (by decide) (fun c_8 => absurd c_8 (by decide)) (fun c_8 => ?_)
  refine lv_iload hx hb dX8_multiply_58 (lv_at hl 0 rfl) ?_
  refine lv_iload_n hx hb dX8_multiply_60 rfl (lv_at hl 1 rfl) ?_
  refine lv_icmp_ge (tgt := 196) hx hb dX8_multiply_61 (by decide) (fun c_9 => absurd c_9 (by decide)) (fun c_9 => ?_)
  refine lv_aload_n hx hb dX8_multiply_64 rfl (lv_at hl 3 rfl) ?_
  have hRO9 : va_P (dC, dI) vwCl [(x, .inr (11, [.ref xa, .int (nI 1), .int (nI 0)])), (xa, .inl (cx, nx, .inl fx)), (y, .inr (11, [.ref ya, .int (nI 1), .int (nI 0)])), (ya, .inl (cy, ny, .inl fy))] H := hRO.kept (fun k9 q9 h9 => hS.2.1 q9.1 (hRO k9 q9 h9).lt (hROn k9 q9 h9))
  refine va_get (D := (dC, dI)) (ci := 11) (v := .ref xa) (C := RX8) (T := TX8) (N := 3) hx hb hts bk0 hown hK hRO9 0 rfl rfl 0 (by decide) (hts (.fieldLink RX8 9 "GradientDesk$Whole" "words" "[I") (List.mem_of_getElem? (i := 2) rfl)) (fun _ h9 => h9) rfl dX8_multiply_65 ?_
  refine lv_iload hx hb dX8_multiply_68 (lv_at hl 0 rfl) ?_
  have hRO9 : va_P (dC, dI) vwCl [(x, .inr (11, [.ref xa, .int (nI 1), .int (nI 0)])), (xa, .inl (cx, nx, .inl fx)), (y, .inr (11, [.ref ya, .int (nI 1), .int (nI 0)])), (ya, .inl (cy, ny, .inl fy))] H := hRO.kept (fun k9 q9 h9 => hS.2.1 q9.1 (hRO k9 q9 h9).lt (hROn k9 q9 h9))
  refine va_iald hx hb hK hRO9 1 0 rfl rfl (vp_in_nI (show 0 < nx by omega) (by omega)) dX8_multiply_70 ?_
  refine lv_topi (fun x_10 e_11 => ?_)
  rw [nI_clamp (show 0 < 2 ^ 31 by decide)] at e_11
  obtain rfl : x_10 = nI 1 := e_11.trans hfx
  refine lv_i2l hx hb dX8_multiply_71 rfl ?_
  refine lv_topl (fun y_12 e_13 => ?_)
  obtain rfl : y_12 = lN 1 := e_13.trans (nI_l (by decide))
  refine lv_ldc2 (v := 4294967295) hx hb hown (hts (.constantLong RX8 48 (4294967295)) (List.mem_of_getElem? (i := 10) rfl)) dX8_multiply_72 ?_
  refine lv_topl (fun y_14 e_15 => ?_)
  obtain rfl : y_14 = lN 4294967295 := e_15
  refine lv_land hx hb dX8_multiply_75 ?_
  refine lv_topl (fun y_16 e_17 => ?_)
  obtain rfl : y_16 = lN 1 := e_17.trans (g_mask (a := 1) (s := 32) (p := 4294967296) (by decide) (by decide) (by omega))
  refine lv_lstore (lv' := [(5, .long (lN 1)), (4, .int (nI 0)), (3, .int (nI 2)), (0, .ref h), (1, .ref x), (2, .ref y)]) hx hb dX8_multiply_76 hl (by decide) rfl (fun ls hl => ?_)
  refine lv_lconst (v := lN 0) hx hb dX8_multiply_78 (by decide +kernel) ?_
  refine lv_lstore (lv' := [(7, .long (lN 0)), (5, .long (lN 1)), (4, .int (nI 0)), (3, .int (nI 2)), (0, .ref h), (1, .ref x), (2, .ref y)]) hx hb dX8_multiply_79 hl (by decide) rfl (fun ls hl => ?_)
  refine lv_iconst (v := nI 0) hx hb dX8_multiply_81 (by decide +kernel) ?_
  refine lv_istore (lv' := [(9, .int (nI 0)), (7, .long (lN 0)), (5, .long (lN 1)), (4, .int (nI 0)), (3, .int (nI 2)), (0, .ref h), (1, .ref x), (2, .ref y)]) hx hb dX8_multiply_82 hl (by decide) rfl (fun ls hl => ?_)
  refine lv_iload hx hb dX8_multiply_84 (lv_at hl 0 rfl) ?_
  refine lv_aload_n hx hb dX8_multiply_86 rfl (lv_at hl 7 rfl) ?_
  have hRO9 : va_P (dC, dI) vwCl [(x, .inr (11, [.ref xa, .int (nI 1), .int (nI 0)])), (xa, .inl (cx, nx, .inl fx)), (y, .inr (11, [.ref ya, .int (nI 1), .int (nI 0)])), (ya, .inl (cy, ny, .inl fy))] H := hRO.kept (fun k9 q9 h9 => hS.2.1 q9.1 (hRO k9 q9 h9).lt (hROn k9 q9 h9))
  refine va_get (D := (dC, dI)) (ci := 11) (v := .int (nI 1)) (C := RX8) (T := TX8) (N := 3) hx hb hts bk0 hown hK hRO9 2 rfl rfl 1 (by decide) (hts (.fieldLink RX8 15 "GradientDesk$Whole" "size" "I") (List.mem_of_getElem? (i := 1) rfl)) (fun _ h9 => h9) rfl dX8_multiply_87 ?_
  refine lv_icmp_ge (tgt := 164) hx hb dX8_multiply_90 (by decide) (fun c_18 => absurd c_18 (by decide)) (fun c_18 => ?_)
  refine lv_iload hx hb dX8_multiply_93 (lv_at hl 3 rfl) ?_
  refine lv_iload hx hb dX8_multiply_95 (lv_at hl 0 rfl) ?_
  refine lv_iadd hx hb dX8_multiply_97 ?_
  refine lv_topi (fun x_19 e_20 => ?_)
  obtain rfl : x_19 = nI 0 := e_20.trans (nI_add 0 0)
  refine lv_iload_n hx hb dX8_multiply_98 rfl (lv_at hl 4 rfl) ?_
  refine lv_icmp_ge (tgt := 164) hx hb dX8_multiply_99 (by decide) (fun c_21 => absurd c_21 (by decide)) (fun c_21 => ?_)
  refine lv_lload hx hb dX8_multiply_102 (lv_at hl 1 rfl) ?_
  refine lv_lload hx hb dX8_multiply_104 (lv_at hl 2 rfl) ?_
  refine lv_aload_n hx hb dX8_multiply_106 rfl (lv_at hl 7 rfl) ?_
  have hRO9 : va_P (dC, dI) vwCl [(x, .inr (11, [.ref xa, .int (nI 1), .int (nI 0)])), (xa, .inl (cx, nx, .inl fx)), (y, .inr (11, [.ref ya, .int (nI 1), .int (nI 0)])), (ya, .inl (cy, ny, .inl fy))] H := hRO.kept (fun k9 q9 h9 => hS.2.1 q9.1 (hRO k9 q9 h9).lt (hROn k9 q9 h9))
  refine va_get (D := (dC, dI)) (ci := 11) (v := .ref ya) (C := RX8) (T := TX8) (N := 3) hx hb hts bk0 hown hK hRO9 2 rfl rfl 0 (by decide) (hts (.fieldLink RX8 9 "GradientDesk$Whole" "words" "[I") (List.mem_of_getElem? (i := 2) rfl)) (fun _ h9 => h9) rfl dX8_multiply_107 ?_
  refine lv_iload hx hb dX8_multiply_110 (lv_at hl 0 rfl) ?_
  have hRO9 : va_P (dC, dI) vwCl [(x, .inr (11, [.ref xa, .int (nI 1), .int (nI 0)])), (xa, .inl (cx, nx, .inl fx)), (y, .inr (11, [.ref ya, .int (nI 1), .int (nI 0)])), (ya, .inl (cy, ny, .inl fy))] H := hRO.kept (fun k9 q9 h9 => hS.2.1 q9.1 (hRO k9 q9 h9).lt (hROn k9 q9 h9))
  refine va_iald hx hb hK hRO9 3 1 rfl rfl (vp_in_nI (show 0 < ny by omega) (by omega)) dX8_multiply_112 ?_
  refine lv_topi (fun x_22 e_23 => ?_)
  rw [nI_clamp (show 0 < 2 ^ 31 by decide)] at e_23
  obtain rfl : x_22 = nI 1 := e_23.trans hfy
  refine lv_i2l hx hb dX8_multiply_113 rfl ?_
  refine lv_topl (fun y_24 e_25 => ?_)
  obtain rfl : y_24 = lN 1 := e_25.trans (nI_l (by decide))
  refine lv_ldc2 (v := 4294967295) hx hb hown (hts (.constantLong RX8 48 (4294967295)) (List.mem_of_getElem? (i := 10) rfl)) dX8_multiply_114 ?_
  refine lv_topl (fun y_26 e_27 => ?_)
  obtain rfl : y_26 = lN 4294967295 := e_27
  refine lv_land hx hb dX8_multiply_117 ?_
  refine lv_topl (fun y_28 e_29 => ?_)
  obtain rfl : y_28 = lN 1 := e_29.trans (g_mask (a := 1) (s := 32) (p := 4294967296) (by decide) (by decide) (by omega))
  refine lv_lmul hx hb dX8_multiply_118 ?_
  refine lv_topl (fun y_30 e_31 => ?_)
  obtain rfl : y_30 = lN 1 := e_31.trans (lN_mul 1 1)
  refine lv_aload_n hx hb dX8_multiply_119 rfl (lv_at hl 5 rfl) ?_
  refine va_get (D := (dC, dI)) (ci := 11) (v := .ref ha) (C := RX8) (T := TX8) (N := 3) hx hb hts bk0 hown hK hP 0 rfl rfl 0 (by decide) (hts (.fieldLink RX8 9 "GradientDesk$Whole" "words" "[I") (List.mem_of_getElem? (i := 2) rfl)) (fun _ h9 => h9) rfl dX8_multiply_120 ?_
  refine lv_iload hx hb dX8_multiply_123 (lv_at hl 3 rfl) ?_
  refine lv_iload hx hb dX8_multiply_125 (lv_at hl 0 rfl) ?_
  refine lv_iadd hx hb dX8_multiply_127 ?_
  refine lv_topi (fun x_32 e_33 => ?_)
  obtain rfl : x_32 = nI 0 := e_33.trans (nI_add 0 0)
  refine va_iald hx hb hK hP 1 2 rfl rfl (vp_in_nI (show 0 < n by omega) (by omega)) dX8_multiply_128 ?_
  refine lv_topi (fun x_34 e_35 => ?_)
  rw [nI_clamp (show 0 < 2 ^ 31 by decide)] at e_35
  obtain rfl : x_34 = nI 0 := e_35.trans (k_cpyin (by decide))
  refine lv_i2l hx hb dX8_multiply_129 rfl ?_
  refine lv_topl (fun y_36 e_37 => ?_)
  obtain rfl : y_36 = lN 0 := e_37.trans (nI_l (by decide))
  refine lv_ldc2 (v := 4294967295) hx hb hown (hts (.constantLong RX8 48 (4294967295)) (List.mem_of_getElem? (i := 10) rfl)) dX8_multiply_130 ?_
  refine lv_topl (fun y_38 e_39 => ?_)
  obtain rfl : y_38 = lN 4294967295 := e_39
  refine lv_land hx hb dX8_multiply_133 ?_
  refine lv_topl (fun y_40 e_41 => ?_)
  obtain rfl : y_40 = lN 0 := e_41.trans (g_mask (a := 0) (s := 32) (p := 4294967296) (by decide) (by decide) (by omega))
  refine lv_ladd hx hb dX8_multiply_134 ?_
  refine lv_topl (fun y_42 e_43 => ?_)
  obtain rfl : y_42 = lN 1 := e_43.trans (lN_add 1 0)
  refine lv_ladd hx hb dX8_multiply_135 ?_
  refine lv_topl (fun y_44 e_45 => ?_)
  obtain rfl : y_44 = lN 1 := e_45.trans (lN_add 0 1)
  refine lv_lstore (lv' := [(7, .long (lN 1)), (9, .int (nI 0)), (5, .long (lN 1)), (4, .int (nI 0)), (3, .int (nI 2)), (0, .ref h), (1, .ref x), (2, .ref y)]) hx hb dX8_multiply_136 hl (by decide) rfl (fun ls hl => ?_)
  refine lv_aload_n hx hb dX8_multiply_138 rfl (lv_at hl 5 rfl) ?_
  refine va_get (D := (dC, dI)) (ci := 11) (v := .ref ha) (C := RX8) (T := TX8) (N := 3) hx hb hts bk0 hown hK hP 0 rfl rfl 0 (by decide) (hts (.fieldLink RX8 9 "GradientDesk$Whole" "words" "[I") (List.mem_of_getElem? (i := 2) rfl)) (fun _ h9 => h9) rfl dX8_multiply_139 ?_
  refine lv_iload hx hb dX8_multiply_142 (lv_at hl 3 rfl) ?_
  refine lv_iload hx hb dX8_multiply_144 (lv_at hl 1 rfl) ?_
  refine lv_iadd hx hb dX8_multiply_146 ?_
  refine lv_topi (fun x_46 e_47 => ?_)
  obtain rfl : x_46 = nI 0 := e_47.trans (nI_add 0 0)
  refine lv_lload hx hb dX8_multiply_147 (lv_at hl 0 rfl) ?_
  refine lv_l2i hx hb dX8_multiply_149 rfl ?_
  refine lv_topi (fun x_48 e_49 => ?_)
  obtain rfl : x_48 = nI 1 := e_49.trans (lN_i 1)
  refine va_iast hx hb hK hP hD hS 1 2 rfl rfl (vp_in_nI (show 0 < n by omega) (by omega)) dX8_multiply_150 (fun H locs hP hD hS => ?_)
  rw [nI_clamp (show 0 < 2 ^ 31 by decide)] at hP hD
  have hP : va_P (dC, dI) vwCl ([(h, .inr (11, [.ref ha, .int z, .int b])), (ha, .inl (ch, n, .inl (upd (va_cpy (fun _ => nI 0) f 0 0 2) 0 (nI 1))))]) H := hP
  have hD : va_D A ([(h, .inr (11, [.ref ha, .int z, .int b])), (ha, .inl (ch, n, .inl (upd (va_cpy (fun _ => nI 0) f 0 0 2) 0 (nI 1))))]) := hD
  refine lv_lload hx hb dX8_multiply_151 (lv_at hl 0 rfl) ?_
  refine lv_bipush (v := nI 32) hx hb dX8_multiply_153 (by decide +kernel) ?_
  refine lv_lushr hx hb dX8_multiply_155 rfl ?_
  refine lv_topl (fun y_50 e_51 => ?_)
  obtain rfl : y_50 = lN 0 := e_51.trans ((wb_shr (n := 1) (k := 32) (by omega) (by decide)).trans rfl)
  refine lv_lstore (lv' := [(7, .long (lN 0)), (9, .int (nI 0)), (5, .long (lN 1)), (4, .int (nI 0)), (3, .int (nI 2)), (0, .ref h), (1, .ref x), (2, .ref y)]) hx hb dX8_multiply_156 hl (by decide) rfl (fun ls hl => ?_)
  refine lv_iinc (v := nI 1) (lv' := [(9, .int (nI 1)), (7, .long (lN 0)), (5, .long (lN 1)), (4, .int (nI 0)), (3, .int (nI 2)), (0, .ref h), (1, .ref x), (2, .ref y)]) hx hb dX8_multiply_158 hl (k := 1) rfl (nI_add 0 1) (by decide) rfl (fun ls hl => ?_)
  refine lv_goto (tgt := 84) hx hb dX8_multiply_161 (by decide) ?_
  refine lv_iload hx hb dX8_multiply_84 (lv_at hl 0 rfl) ?_
  refine lv_aload_n hx hb dX8_multiply_86 rfl (lv_at hl 7 rfl) ?_
  have hRO9 : va_P (dC, dI) vwCl [(x, .inr (11, [.ref xa, .int (nI 1), .int (nI 0)])), (xa, .inl (cx, nx, .inl fx)), (y, .inr (11, [.ref ya, .int (nI 1), .int (nI 0)])), (ya, .inl (cy, ny, .inl fy))] H := hRO.kept (fun k9 q9 h9 => hS.2.1 q9.1 (hRO k9 q9 h9).lt (hROn k9 q9 h9))
  refine va_get (D := (dC, dI)) (ci := 11) (v := .int (nI 1)) (C := RX8) (T := TX8) (N := 3) hx hb hts bk0 hown hK hRO9 2 rfl rfl 1 (by decide) (hts (.fieldLink RX8 15 "GradientDesk$Whole" "size" "I") (List.mem_of_getElem? (i := 1) rfl)) (fun _ h9 => h9) rfl dX8_multiply_87 ?_
  refine lv_icmp_ge (tgt := 164) hx hb dX8_multiply_90 (by decide) (fun c_54 => ?_) (fun c_54 => absurd c_54 (by decide))
  refine lv_iload hx hb dX8_multiply_164 (lv_at hl 3 rfl) ?_
  refine lv_aload_n hx hb dX8_multiply_166 rfl (lv_at hl 7 rfl) ?_
  have hRO9 : va_P (dC, dI) vwCl [(x, .inr (11, [.ref xa, .int (nI 1), .int (nI 0)])), (xa, .inl (cx, nx, .inl fx)), (y, .inr (11, [.ref ya, .int (nI 1), .int (nI 0)])), (ya, .inl (cy, ny, .inl fy))] H := hRO.kept (fun k9 q9 h9 => hS.2.1 q9.1 (hRO k9 q9 h9).lt (hROn k9 q9 h9))
  refine va_get (D := (dC, dI)) (ci := 11) (v := .int (nI 1)) (C := RX8) (T := TX8) (N := 3) hx hb hts bk0 hown hK hRO9 2 rfl rfl 1 (by decide) (hts (.fieldLink RX8 15 "GradientDesk$Whole" "size" "I") (List.mem_of_getElem? (i := 1) rfl)) (fun _ h9 => h9) rfl dX8_multiply_167 ?_
  refine lv_iadd hx hb dX8_multiply_170 ?_
  refine lv_topi (fun x_55 e_56 => ?_)
  obtain rfl : x_55 = nI 1 := e_56.trans (nI_add 0 1)
  refine lv_iload_n hx hb dX8_multiply_171 rfl (lv_at hl 4 rfl) ?_
  refine lv_icmp_ge (tgt := 190) hx hb dX8_multiply_172 (by decide) (fun c_57 => absurd c_57 (by decide)) (fun c_57 => ?_)
  refine lv_aload_n hx hb dX8_multiply_175 rfl (lv_at hl 5 rfl) ?_
  refine va_get (D := (dC, dI)) (ci := 11) (v := .ref ha) (C := RX8) (T := TX8) (N := 3) hx hb hts bk0 hown hK hP 0 rfl rfl 0 (by decide) (hts (.fieldLink RX8 9 "GradientDesk$Whole" "words" "[I") (List.mem_of_getElem? (i := 2) rfl)) (fun _ h9 => h9) rfl dX8_multiply_176 ?_
  refine lv_iload hx hb dX8_multiply_179 (lv_at hl 3 rfl) ?_
  refine lv_aload_n hx hb dX8_multiply_181 rfl (lv_at hl 7 rfl) ?_
  have hRO9 : va_P (dC, dI) vwCl [(x, .inr (11, [.ref xa, .int (nI 1), .int (nI 0)])), (xa, .inl (cx, nx, .inl fx)), (y, .inr (11, [.ref ya, .int (nI 1), .int (nI 0)])), (ya, .inl (cy, ny, .inl fy))] H := hRO.kept (fun k9 q9 h9 => hS.2.1 q9.1 (hRO k9 q9 h9).lt (hROn k9 q9 h9))
  refine va_get (D := (dC, dI)) (ci := 11) (v := .int (nI 1)) (C := RX8) (T := TX8) (N := 3) hx hb hts bk0 hown hK hRO9 2 rfl rfl 1 (by decide) (hts (.fieldLink RX8 15 "GradientDesk$Whole" "size" "I") (List.mem_of_getElem? (i := 1) rfl)) (fun _ h9 => h9) rfl dX8_multiply_182 ?_
  refine lv_iadd hx hb dX8_multiply_185 ?_
  refine lv_topi (fun x_58 e_59 => ?_)
  obtain rfl : x_58 = nI 1 := e_59.trans (nI_add 0 1)
  refine lv_lload hx hb dX8_multiply_186 (lv_at hl 1 rfl) ?_
  refine lv_l2i hx hb dX8_multiply_188 rfl ?_
  refine lv_topi (fun x_60 e_61 => ?_)
  obtain rfl : x_60 = nI 0 := e_61.trans (lN_i 0)
  refine va_iast hx hb hK hP hD hS 1 2 rfl rfl (vp_in_nI (show 1 < n by omega) (by omega)) dX8_multiply_189 (fun H locs hP hD hS => ?_)
  rw [nI_clamp (show 1 < 2 ^ 31 by decide)] at hP hD
  have hP : va_P (dC, dI) vwCl ([(h, .inr (11, [.ref ha, .int z, .int b])), (ha, .inl (ch, n, .inl (upd (upd (va_cpy (fun _ => nI 0) f 0 0 2) 0 (nI 1)) 1 (nI 0))))]) H := hP
  have hD : va_D A ([(h, .inr (11, [.ref ha, .int z, .int b])), (ha, .inl (ch, n, .inl (upd (upd (va_cpy (fun _ => nI 0) f 0 0 2) 0 (nI 1)) 1 (nI 0))))]) := hD
  refine lv_iinc (v := nI 1) (lv' := [(4, .int (nI 1)), (9, .int (nI 1)), (7, .long (lN 0)), (5, .long (lN 1)), (3, .int (nI 2)), (0, .ref h), (1, .ref x), (2, .ref y)]) hx hb dX8_multiply_190 hl (k := 3) rfl (nI_add 0 1) (by decide) rfl (fun ls hl => ?_)
  refine lv_goto (tgt := 49) hx hb dX8_multiply_193 (by decide) ?_
  refine lv_iload hx hb dX8_multiply_49 (lv_at hl 0 rfl) ?_
  refine lv_aload_n hx hb dX8_multiply_51 rfl (lv_at hl 6 rfl) ?_
  have hRO9 : va_P (dC, dI) vwCl [(x, .inr (11, [.ref xa, .int (nI 1), .int (nI 0)])), (xa, .inl (cx, nx, .inl fx)), (y, .inr (11, [.ref ya, .int (nI 1), .int (nI 0)])), (ya, .inl (cy, ny, .inl fy))] H := hRO.kept (fun k9 q9 h9 => hS.2.1 q9.1 (hRO k9 q9 h9).lt (hROn k9 q9 h9))
  refine va_get (D := (dC, dI)) (ci := 11) (v := .int (nI 1)) (C := RX8) (T := TX8) (N := 3) hx hb hts bk0 hown hK hRO9 0 rfl rfl 1 (by decide) (hts (.fieldLink RX8 15 "GradientDesk$Whole" "size" "I") (List.mem_of_getElem? (i := 1) rfl)) (fun _ h9 => h9) rfl dX8_multiply_52 ?_
  refine lv_icmp_ge (tgt := 196) hx hb dX8_multiply_55 (by decide) (fun c_64 => ?_) (fun c_64 => absurd c_64 (by decide))
  refine lv_aload_n hx hb dX8_multiply_196 rfl (lv_at hl 5 rfl) ?_
  refine lv_iload_n hx hb dX8_multiply_197 rfl (lv_at hl 4 rfl) ?_
  refine lv_if_le (tgt := 218) hx hb dX8_multiply_198 (by decide) (fun c_65 => absurd c_65 (by decide)) (fun c_65 => ?_)
  refine lv_aload_n hx hb dX8_multiply_201 rfl (lv_at hl 5 rfl) ?_
  refine va_get (D := (dC, dI)) (ci := 11) (v := .ref ha) (C := RX8) (T := TX8) (N := 3) hx hb hts bk0 hown hK hP 0 rfl rfl 0 (by decide) (hts (.fieldLink RX8 9 "GradientDesk$Whole" "words" "[I") (List.mem_of_getElem? (i := 2) rfl)) (fun _ h9 => h9) rfl dX8_multiply_202 ?_
  refine lv_iload_n hx hb dX8_multiply_205 rfl (lv_at hl 4 rfl) ?_
  refine lv_iconst (v := nI 1) hx hb dX8_multiply_206 (by decide +kernel) ?_
  refine lv_isub hx hb dX8_multiply_207 ?_
  refine lv_topi (fun x_66 e_67 => ?_)
  obtain rfl : x_66 = nI 1 := e_67.trans (pk_sub (show 1 ≤ 2 by omega))
  refine va_iald hx hb hK hP 1 2 rfl rfl (vp_in_nI (show 1 < n by omega) (by omega)) dX8_multiply_208 ?_
  refine lv_topi (fun x_68 e_69 => ?_)
  rw [nI_clamp (show 1 < 2 ^ 31 by decide)] at e_69
  obtain rfl : x_68 = nI 0 := e_69.trans pk_us
  refine lv_if_ne (tgt := 218) hx hb dX8_multiply_209 (by decide) (fun c_70 => absurd c_70 (by decide)) (fun c_70 => ?_)
  refine lv_iload_n hx hb dX8_multiply_212 rfl (lv_at hl 4 rfl) ?_
  refine lv_iconst (v := nI 1) hx hb dX8_multiply_213 (by decide +kernel) ?_
  refine lv_isub hx hb dX8_multiply_214 ?_
  refine lv_topi (fun x_71 e_72 => ?_)
  obtain rfl : x_71 = nI 1 := e_72.trans (pk_sub (show 1 ≤ 2 by omega))
  refine lv_goto (tgt := 219) hx hb dX8_multiply_215 (by decide) ?_
  refine va_put (D := (dC, dI)) (ci := 11) (v := .int (nI 1)) (ty := .int) (C := RX8) (T := TX8) (N := 3) hx hb hts bk0 tyX8 tyX8_ok nmX8 hown hK hP hD hS 0 rfl rfl 1 (by decide) (hts (.fieldLink RX8 15 "GradientDesk$Whole" "size" "I") (List.mem_of_getElem? (i := 1) rfl)) (fun _ h9 => h9) rfl (by decide +kernel) rfl rfl (Nat.le_of_ble_eq_true rfl) dX8_multiply_219 (fun H locs hP hD hS => ?_)
  have hP : va_P (dC, dI) vwCl ([(h, .inr (11, [.ref ha, .int (nI 1), .int b])), (ha, .inl (ch, n, .inl (upd (upd (va_cpy (fun _ => nI 0) f 0 0 2) 0 (nI 1)) 1 (nI 0))))]) H := hP
  have hD : va_D A ([(h, .inr (11, [.ref ha, .int (nI 1), .int b])), (ha, .inl (ch, n, .inl (upd (upd (va_cpy (fun _ => nI 0) f 0 0 2) 0 (nI 1)) 1 (nI 0))))]) := hD
  refine lv_aload_n hx hb dX8_multiply_222 rfl (lv_at hl 5 rfl) ?_
  refine lv_aload_n hx hb dX8_multiply_223 rfl (lv_at hl 5 rfl) ?_
  refine va_get (D := (dC, dI)) (ci := 11) (v := .int (nI 1)) (C := RX8) (T := TX8) (N := 3) hx hb hts bk0 hown hK hP 0 rfl rfl 1 (by decide) (hts (.fieldLink RX8 15 "GradientDesk$Whole" "size" "I") (List.mem_of_getElem? (i := 1) rfl)) (fun _ h9 => h9) rfl dX8_multiply_224 ?_
  refine lv_if_le (tgt := 245) hx hb dX8_multiply_227 (by decide) (fun c_73 => absurd c_73 (by decide)) (fun c_73 => ?_)
  refine lv_aload_n hx hb dX8_multiply_230 rfl (lv_at hl 6 rfl) ?_
  have hRO9 : va_P (dC, dI) vwCl [(x, .inr (11, [.ref xa, .int (nI 1), .int (nI 0)])), (xa, .inl (cx, nx, .inl fx)), (y, .inr (11, [.ref ya, .int (nI 1), .int (nI 0)])), (ya, .inl (cy, ny, .inl fy))] H := hRO.kept (fun k9 q9 h9 => hS.2.1 q9.1 (hRO k9 q9 h9).lt (hROn k9 q9 h9))
  refine va_get (D := (dC, dI)) (ci := 11) (v := .int (nI 0)) (C := RX8) (T := TX8) (N := 3) hx hb hts bk0 hown hK hRO9 0 rfl rfl 2 (by decide) (hts (.fieldLink RX8 19 "GradientDesk$Whole" "below" "Z") (List.mem_of_getElem? (i := 11) rfl)) (fun _ h9 => h9) rfl dX8_multiply_231 ?_
  refine lv_aload_n hx hb dX8_multiply_234 rfl (lv_at hl 7 rfl) ?_
  have hRO9 : va_P (dC, dI) vwCl [(x, .inr (11, [.ref xa, .int (nI 1), .int (nI 0)])), (xa, .inl (cx, nx, .inl fx)), (y, .inr (11, [.ref ya, .int (nI 1), .int (nI 0)])), (ya, .inl (cy, ny, .inl fy))] H := hRO.kept (fun k9 q9 h9 => hS.2.1 q9.1 (hRO k9 q9 h9).lt (hROn k9 q9 h9))
  refine va_get (D := (dC, dI)) (ci := 11) (v := .int (nI 0)) (C := RX8) (T := TX8) (N := 3) hx hb hts bk0 hown hK hRO9 2 rfl rfl 2 (by decide) (hts (.fieldLink RX8 19 "GradientDesk$Whole" "below" "Z") (List.mem_of_getElem? (i := 11) rfl)) (fun _ h9 => h9) rfl dX8_multiply_235 ?_
  refine lv_icmp_eq (tgt := 245) hx hb dX8_multiply_238 (by decide) (fun c_74 => ?_) (fun c_74 => absurd c_74 (by decide))
  refine lv_iconst (v := nI 0) hx hb dX8_multiply_245 (by decide +kernel) ?_
  refine va_put (D := (dC, dI)) (ci := 11) (v := .int (nI 0)) (ty := .boolean) (C := RX8) (T := TX8) (N := 3) hx hb hts bk0 tyX8 tyX8_ok nmX8 hown hK hP hD hS 0 rfl rfl 2 (by decide) (hts (.fieldLink RX8 19 "GradientDesk$Whole" "below" "Z") (List.mem_of_getElem? (i := 11) rfl)) (fun _ h9 => h9) rfl (by decide +kernel) (by decide +kernel) (by decide +kernel) (Nat.le_of_ble_eq_true rfl) dX8_multiply_246 (fun H locs hP hD hS => ?_)
  have hP : va_P (dC, dI) vwCl ([(h, .inr (11, [.ref ha, .int (nI 1), .int (nI 0)])), (ha, .inl (ch, n, .inl (upd (upd (va_cpy (fun _ => nI 0) f 0 0 2) 0 (nI 1)) 1 (nI 0))))]) H := hP
  have hD : va_D A ([(h, .inr (11, [.ref ha, .int (nI 1), .int (nI 0)])), (ha, .inl (ch, n, .inl (upd (upd (va_cpy (fun _ => nI 0) f 0 0 2) 0 (nI 1)) 1 (nI 0))))]) := hD
  have hP9 := hP.sub (ws' := [(h, .inr (11, [.ref ha, .int (nI 1), .int (nI 0)])), (ha, .inl (ch, n, .inl (upd (upd (va_cpy (fun _ => nI 0) f 0 0 2) 0 (nI 1)) 1 (nI 0))))]) [0, 1] rfl
  have hD9 := hD.sub (ws' := [(h, .inr (11, [.ref ha, .int (nI 1), .int (nI 0)])), (ha, .inl (ch, n, .inl (upd (upd (va_cpy (fun _ => nI 0) f 0 0 2) 0 (nI 1)) 1 (nI 0))))]) [0, 1] (by decide) rfl
  have hK9 := hK.sub (tys' := [(ch, .int)]) [2] rfl
  refine W.widen (k := 0) (n := 0) (by omega) (by omega) ?_
  exact W.vret hx hb hr (fun t ht hW => ⟨⟨(upd (upd (va_cpy (fun _ => nI 0) f 0 0 2) 0 (nI 1)) 1 (nI 0)), rfl, trivial, by rw [ht]; exact hP9, va_K.moved hW.alike hK9, hD9⟩, hS.F ht⟩) hS.2.2 dX8_multiply_249
