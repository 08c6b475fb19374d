theorem k_fr0 {pn ln : Nat → Nat} (hL : ∀ j, ln j = if j % 2 = 1 ∧ j < 2068 then 1 else 0) {j : Nat} (h : j % 2 = 0) : On1 pn ln j 0 := ⟨by rw [hL, if_neg (by omega), if_pos rfl], fun h => absurd rfl h⟩
theorem k_fr1 {pn ln : Nat → Nat} (hL : ∀ j, ln j = if j % 2 = 1 ∧ j < 2068 then 1 else 0) (hP : ∀ j, j % 2 = 1 → j < 2068 → pn (80 * j) = 1) {j : Nat} (h : j % 2 = 1) (h2 : j < 2068) : On1 pn ln j 1 := ⟨by rw [hL, if_pos ⟨h, h2⟩, if_neg (by decide)], fun _ => hP j h h2⟩
theorem k_natR {x : Int32} {n : Nat} (h0 : 0 ≤ x.toInt) (h : x.toInt < n) (hn : n ≤ 2147483648) : ∃ i, i < n ∧ x = nI i := ⟨x.toInt.toNat, by omega, Int32.toInt_inj.mp (by rw [nI_toInt (by omega)]; omega)⟩
theorem k_p2 {a b : Nat} (h : 2 ^ a < 2 ^ b) : a < b := (Nat.pow_lt_pow_iff_right (by decide)).mp h
def wd_X10_bitsOf : List Cond := .code yX10_bitsOf cX10_bitsOf 5 (some .int) :: (([.fieldLink RX10 14 "GradientDeskModel" "length" "[I", .fieldLink RX10 8 "GradientDeskModel" "pieces" "[J"] : List Cond) ++ (u_ws RX10 TX10 29 ++ ([])))
theorem gw_X10_bitsOf : wd_X10_bitsOf.all goodWord = true := k_allc rfl (k_all (by decide +kernel) (k_all (gu_X10) (rfl)))
abbrev at_X10_bitsOf (dC : Nat → ClassId) (dI : Nat → Nat → Nat) (A : Nat → Prop) (o : Nat) (fs : List Value) (p1 : Nat) (l1 : Nat) (b1 : Nat) (cP : ClassId) (cL : ClassId) (cB : ClassId) (pn : Nat → Nat) (ln : Nat → Nat) (bn : Nat → Nat) (s9 : Nat) (v9 : Nat) (u : Nat) (t : State) : Prop := match u with
  | m9 => va_P (dC, dI) vwCl [(o, .inr (13, fs)), (p1, .inl (cP, 165440, .inr (.inl (fun j => lN (pn j))))), (l1, .inl (cL, 2068, .inl (fun j => nI (ln j)))), (b1, .inl (cB, 2068, .inl (fun j => nI (bn j))))] t.heap ∧ va_K (dC, dI) vwCl [(cP, .long), (cL, .int), (cB, .boolean)] t ∧ va_D A [(o, .inr (13, fs)), (p1, .inl (cP, 165440, .inr (.inl (fun j => lN (pn j))))), (l1, .inl (cL, 2068, .inl (fun j => nI (ln j)))), (b1, .inl (cB, 2068, .inl (fun j => nI (bn j))))]
set_option maxHeartbeats 4000000 in
set_option maxRecDepth 100000 in
theorem c_X10_bitsOf (l : Launch) (dC : Nat → ClassId) (dI : Nat → Nat → Nat) (A : Nat → Prop) (sz : Nat) (hA0 : ∀ q, sz ≤ q → A q) (o : Nat) (fs : List Value) (p1 : Nat) (l1 : Nat) (b1 : Nat) (cP : ClassId) (cL : ClassId) (cB : ClassId) (pn : Nat → Nat) (ln : Nat → Nat) (bn : Nat → Nat) (s9 : Nat) (v9 : Nat) (h1 : fs[1]? = some (.ref p1)) (h2 : fs[2]? = some (.ref l1)) (h3 : fs[3]? = some (.ref b1)) (hpn : ∀ j, pn j < 4294967296) (hln : ∀ j, ln j < 81) (hbn : ∀ j, bn j < 2) (hs : s9 < 2068) (ha : On1 pn ln s9 v9) (hv4 : v9 < 2147483648) : Met l yX10_bitsOf wd_X10_bitsOf ({ frames := 20, cells := 0, slots := 0, locals := 400 }) (va_Pc [.ref o, .int (nI s9)] (fun U => U.heap.size = sz ∧ va_P (dC, dI) vwCl [(o, .inr (13, fs)), (p1, .inl (cP, 165440, .inr (.inl (fun j => lN (pn j))))), (l1, .inl (cL, 2068, .inl (fun j => nI (ln j)))), (b1, .inl (cB, 2068, .inl (fun j => nI (bn j))))] U.heap ∧ va_K (dC, dI) vwCl [(cP, .long), (cL, .int), (cB, .boolean)] U ∧ va_D A [(o, .inr (13, fs)), (p1, .inl (cP, 165440, .inr (.inl (fun j => lN (pn j))))), (l1, .inl (cL, 2068, .inl (fun j => nI (ln j)))), (b1, .inl (cB, 2068, .inl (fun j => nI (bn j))))])) (va_Qi (fun (r : Int32) => fun (u : Nat) => match u with | m9 => (r = nI m9 ∧ m9 ≤ 31 ∧ (v9 = 0 → m9 = 0) ∧ (v9 = 1 → m9 = 1) ∧ (v9 < 16384 → m9 ≤ 14))) (at_X10_bitsOf dC dI A o fs p1 l1 b1 cP cL cB pn ln bn s9 v9) A) (0) (0) A := by
  refine Met.ofW (cc := cX10_bitsOf) (maxL := 5) (ret := (some .int)) (by decide) rfl ?_
  intro p e s m args below meth c s₁ B hml hv
  obtain ⟨rfl, hsz, hP, hK, hD⟩ := hv
  have hx := B.exec
  have hb := B.bytes
  have hr := B.returns
  have hts := atoms_spec (ws := wd_X10_bitsOf) B.pre
  have hown : s.vm.findClass RX10 = some m.cls := findClass_of_methodNamed B.named
  have hlocks := B.notSynchronized
  have bk0 : ∀ w ∈ u_ws RX10 TX10 29, w ∈ wd_X10_bitsOf := fun _ h => List.mem_cons_of_mem _ (List.mem_append_right _ (List.mem_append_left _ h))
  subst hsz
  have hA : ∀ q : Nat, s.heap.size ≤ q → A q := hA0
  have hS : va_S A s.heap s.heap [] := va_S.rf
  have hl := lv_entry ([.ref o, .int (nI s9)]) (n := 5) (Nat.le_of_ble_eq_true rfl)
  rw [lg_entry_eq]
  generalize (lg_sl ([.ref o, .int (nI s9)]) ++ List.replicate (5 - (lg_sl ([.ref o, .int (nI s9)])).length) Slot.unset).toArray = ls at hl ⊢
  have hl : lv_has ls 5 [(0, .ref o), (1, .int (nI s9))] := hl
  by_cases hv : v9 = 0
  · have hl0 : ln s9 = 0 := ha.zero.mpr hv
    refine lv_iconst (v := nI 0) hx hb dX10_bitsOf_0 (by decide +kernel) ?_
    refine lv_istore_n (lv' := [(2, .int (nI 0)), (0, .ref o), (1, .int (nI s9))]) hx hb dX10_bitsOf_1 rfl hl (by decide) rfl (fun ls hl => ?_)
    refine lv_aload_n hx hb dX10_bitsOf_2 rfl (lv_at hl 1 rfl) ?_
    refine va_get (D := (dC, dI)) (ci := 13) (v := .ref l1) (C := RX10) (T := TX10) (N := 29) hx hb hts bk0 hown hK hP 0 rfl rfl 2 (by decide) (hts (.fieldLink RX10 14 "GradientDeskModel" "length" "[I") (List.mem_of_getElem? (i := 1) rfl)) (fun _ h9 => h9) h2 dX10_bitsOf_3 ?_
    refine lv_iload_n hx hb dX10_bitsOf_6 rfl (lv_at hl 2 rfl) ?_
    refine va_iald hx hb hK hP 2 1 rfl rfl (vp_in_nI (show s9 < 2068 by omega) (by decide)) dX10_bitsOf_7 ?_
    refine lv_topi (fun x_1 e_2 => ?_)
    rw [nI_clamp (show s9 < 2 ^ 31 by omega)] at e_2
    obtain rfl : x_1 = nI 0 := e_2.trans (congrArg nI hl0)
    refine lv_if_ne (tgt := 15) hx hb dX10_bitsOf_8 (by decide) (fun c_3 => absurd c_3 (by decide)) (fun c_3 => ?_)
    refine lv_lconst (v := lN 0) hx hb dX10_bitsOf_11 (by decide +kernel) ?_
    refine lv_goto (tgt := 33) hx hb dX10_bitsOf_12 (by decide) ?_
    refine lv_lstore_n (lv' := [(3, .long (lN 0)), (2, .int (nI 0)), (0, .ref o), (1, .int (nI s9))]) hx hb dX10_bitsOf_33 rfl hl (by decide) rfl (fun ls hl => ?_)
    refine lv_lload_n hx hb dX10_bitsOf_34 rfl (lv_at hl 0 rfl) ?_
    refine lv_iload_n hx hb dX10_bitsOf_35 rfl (lv_at hl 1 rfl) ?_
    refine lv_lshr hx hb dX10_bitsOf_36 rfl ?_
    refine lv_topl (fun y_4 e_5 => ?_)
    obtain rfl : y_4 = lN 0 := e_5.trans (by decide)
    refine lv_lconst (v := lN 0) hx hb dX10_bitsOf_37 (by decide +kernel) ?_
    refine W.lcmp hx hb dX10_bitsOf_38 ?_
    refine lv_if_le (tgt := 48) hx hb dX10_bitsOf_39 (by decide) (fun c_6 => ?_) (fun c_6 => absurd (mt (pk_lLE (a := 0) (b := 0) (by decide) (by decide)).mpr (mt (k_cmp_le (lN 0) (lN 0)).mpr c_6)) (by decide))
    refine lv_aload_n hx hb dX10_bitsOf_48 rfl (lv_at hl 2 rfl) ?_
    refine va_get (D := (dC, dI)) (ci := 13) (v := .ref l1) (C := RX10) (T := TX10) (N := 29) hx hb hts bk0 hown hK hP 0 rfl rfl 2 (by decide) (hts (.fieldLink RX10 14 "GradientDeskModel" "length" "[I") (List.mem_of_getElem? (i := 1) rfl)) (fun _ h9 => h9) h2 dX10_bitsOf_49 ?_
    refine lv_iload_n hx hb dX10_bitsOf_52 rfl (lv_at hl 3 rfl) ?_
    refine va_iald hx hb hK hP 2 1 rfl rfl (vp_in_nI (show s9 < 2068 by omega) (by decide)) dX10_bitsOf_53 ?_
    refine lv_topi (fun x_7 e_8 => ?_)
    rw [nI_clamp (show s9 < 2 ^ 31 by omega)] at e_8
    obtain rfl : x_7 = nI 0 := e_8.trans (congrArg nI hl0)
    refine lv_if_ne (tgt := 61) hx hb dX10_bitsOf_54 (by decide) (fun c_9 => absurd c_9 (by decide)) (fun c_9 => ?_)
    refine lv_iconst (v := nI 0) hx hb dX10_bitsOf_57 (by decide +kernel) ?_
    refine lv_goto (tgt := 74) hx hb dX10_bitsOf_58 (by decide) ?_
    have hP9 := hP.sub (ws' := [(o, .inr (13, fs)), (p1, .inl (cP, 165440, .inr (.inl (fun j => lN (pn j))))), (l1, .inl (cL, 2068, .inl (fun j => nI (ln j)))), (b1, .inl (cB, 2068, .inl (fun j => nI (bn j))))]) [0, 1, 2, 3] rfl
    have hD9 := hD.sub (ws' := [(o, .inr (13, fs)), (p1, .inl (cP, 165440, .inr (.inl (fun j => lN (pn j))))), (l1, .inl (cL, 2068, .inl (fun j => nI (ln j)))), (b1, .inl (cB, 2068, .inl (fun j => nI (bn j))))]) [0, 1, 2, 3] (by decide) rfl
    have hK9 := hK.sub (tys' := [(cP, .long), (cL, .int), (cB, .boolean)]) [0, 1, 2] rfl
    refine W.widen (k := 0) (n := 0) (by omega) (by omega) ?_
    exact W.iret (v := nI 0) hx hb hr (fun t ht hW => ⟨⟨nI 0, 0, rfl, ⟨rfl, by decide, fun _ => rfl, fun h => by omega, fun _ => by decide⟩, by rw [ht]; exact hP9, va_K.moved hW.alike hK9, hD9⟩, hS.F ht⟩) hS.2.2 dX10_bitsOf_74
  · have hl0 : ln s9 = 1 := by have := ha.zero; have := ha.le; omega
    have hp0 : pn (80 * s9) = v9 := ha.2 hv
    refine lv_iconst (v := nI 0) hx hb dX10_bitsOf_0 (by decide +kernel) ?_
    refine lv_istore_n (lv' := [(2, .int (nI 0)), (0, .ref o), (1, .int (nI s9))]) hx hb dX10_bitsOf_1 rfl hl (by decide) rfl (fun ls hl => ?_)
    refine lv_aload_n hx hb dX10_bitsOf_2 rfl (lv_at hl 1 rfl) ?_
    refine va_get (D := (dC, dI)) (ci := 13) (v := .ref l1) (C := RX10) (T := TX10) (N := 29) hx hb hts bk0 hown hK hP 0 rfl rfl 2 (by decide) (hts (.fieldLink RX10 14 "GradientDeskModel" "length" "[I") (List.mem_of_getElem? (i := 1) rfl)) (fun _ h9 => h9) h2 dX10_bitsOf_3 ?_
    refine lv_iload_n hx hb dX10_bitsOf_6 rfl (lv_at hl 2 rfl) ?_
    refine va_iald hx hb hK hP 2 1 rfl rfl (vp_in_nI (show s9 < 2068 by omega) (by decide)) dX10_bitsOf_7 ?_
    refine lv_topi (fun x_10 e_11 => ?_)
    rw [nI_clamp (show s9 < 2 ^ 31 by omega)] at e_11
    obtain rfl : x_10 = nI 1 := e_11.trans (congrArg nI hl0)
    refine lv_if_ne (tgt := 15) hx hb dX10_bitsOf_8 (by decide) (fun c_12 => ?_) (fun c_12 => absurd c_12 (by decide))
    refine lv_aload_n hx hb dX10_bitsOf_15 rfl (lv_at hl 1 rfl) ?_
    refine va_get (D := (dC, dI)) (ci := 13) (v := .ref p1) (C := RX10) (T := TX10) (N := 29) hx hb hts bk0 hown hK hP 0 rfl rfl 1 (by decide) (hts (.fieldLink RX10 8 "GradientDeskModel" "pieces" "[J") (List.mem_of_getElem? (i := 2) rfl)) (fun _ h9 => h9) h1 dX10_bitsOf_16 ?_
    refine lv_bipush (v := nI 80) hx hb dX10_bitsOf_19 (by decide +kernel) ?_
    refine lv_iload_n hx hb dX10_bitsOf_21 rfl (lv_at hl 2 rfl) ?_
    refine lv_imul hx hb dX10_bitsOf_22 ?_
    refine lv_topi (fun x_13 e_14 => ?_)
    obtain rfl : x_13 = nI (80 * s9) := e_14.trans (pk_mul 80 s9)
    refine lv_aload_n hx hb dX10_bitsOf_23 rfl (lv_at hl 1 rfl) ?_
    refine va_get (D := (dC, dI)) (ci := 13) (v := .ref l1) (C := RX10) (T := TX10) (N := 29) hx hb hts bk0 hown hK hP 0 rfl rfl 2 (by decide) (hts (.fieldLink RX10 14 "GradientDeskModel" "length" "[I") (List.mem_of_getElem? (i := 1) rfl)) (fun _ h9 => h9) h2 dX10_bitsOf_24 ?_
    refine lv_iload_n hx hb dX10_bitsOf_27 rfl (lv_at hl 2 rfl) ?_
    refine va_iald hx hb hK hP 2 1 rfl rfl (vp_in_nI (show s9 < 2068 by omega) (by decide)) dX10_bitsOf_28 ?_
    refine lv_topi (fun x_15 e_16 => ?_)
    rw [nI_clamp (show s9 < 2 ^ 31 by omega)] at e_16
    obtain rfl : x_15 = nI 1 := e_16.trans (congrArg nI hl0)
    refine lv_iadd hx hb dX10_bitsOf_29 ?_
    refine lv_topi (fun x_17 e_18 => ?_)
    obtain rfl : x_17 = nI (80 * s9 + 1) := e_18.trans (nI_add (80 * s9) 1)
    refine lv_iconst (v := nI 1) hx hb dX10_bitsOf_30 (by decide +kernel) ?_
    refine lv_isub hx hb dX10_bitsOf_31 ?_
    refine lv_topi (fun x_19 e_20 => ?_)
    obtain rfl : x_19 = nI ((80 * s9 + 1) - 1) := e_20.trans (pk_sub (show 1 ≤ 80 * s9 + 1 by omega))
    refine va_lald hx hb hK hP 1 0 rfl rfl (vp_in_nI (show (80 * s9 + 1) - 1 < 165440 by omega) (by decide)) dX10_bitsOf_32 ?_
    refine lv_topl (fun y_21 e_22 => ?_)
    rw [nI_clamp (show (80 * s9 + 1) - 1 < 2 ^ 31 by omega)] at e_22
    obtain rfl : y_21 = lN v9 := e_22.trans (congrArg lN hp0)
    refine lv_lstore_n (lv' := [(3, .long (lN v9)), (2, .int (nI 0)), (0, .ref o), (1, .int (nI s9))]) hx hb dX10_bitsOf_33 rfl hl (by decide) rfl (fun ls hl => ?_)
    have loop_23 : ∀ (k9 : Nat) (n9 : Nat), 31 - n9 < k9 → n9 ≤ 31 → (n9 = 0 ∨ 2 ^ (n9 - 1) ≤ v9) → ∀ (H : Heap) (locs : List Loc) (ls : Array Slot), va_P (dC, dI) vwCl [(o, .inr (13, fs)), (p1, .inl (cP, 165440, .inr (.inl (fun j => lN (pn j))))), (l1, .inl (cL, 2068, .inl (fun j => nI (ln j)))), (b1, .inl (cB, 2068, .inl (fun j => nI (bn j))))] H → va_D A [(o, .inr (13, fs)), (p1, .inl (cP, 165440, .inr (.inl (fun j => lN (pn j))))), (l1, .inl (cL, 2068, .inl (fun j => nI (ln j)))), (b1, .inl (cB, 2068, .inl (fun j => nI (bn j))))] → va_K (dC, dI) vwCl [(cP, .long), (cL, .int), (cB, .boolean)] s → va_S A s.heap H locs → lv_has ls 5 [(0, .ref o), (1, .int (nI s9)), (2, .int (nI n9)), (3, .long (lN v9))] → W p l e (headSpec wd_X10_bitsOf ({ frames := 20, cells := 0, slots := 0, locals := 400 })).room s m ([.ref o, .int (nI s9)] : List Value).toArray below meth c H locs (0) (0) (MQ below (va_Qi (fun (r : Int32) => fun (u : Nat) => match u with | m9 => (r = nI m9 ∧ m9 ≤ 31 ∧ (v9 = 0 → m9 = 0) ∧ (v9 = 1 → m9 = 1) ∧ (v9 < 16384 → m9 ≤ 14))) (at_X10_bitsOf dC dI A o fs p1 l1 b1 cP cL cB pn ln bn s9 v9) A) ([.ref o, .int (nI s9)] : List Value).toArray s (0) (0) A) (F0 m 34 ls []) := by
      intro k9
      induction k9 with
      | zero => intro n9 h9; exact absurd h9 (Nat.not_lt_zero _)
      | succ k9 ih_24 =>
        intro n9 h9 hn9 hn2 H locs ls hP hD hK hS hl
        refine lv_lload_n hx hb dX10_bitsOf_34 rfl (lv_at hl 3 rfl) ?_
        refine lv_iload_n hx hb dX10_bitsOf_35 rfl (lv_at hl 2 rfl) ?_
        refine lv_lshr hx hb dX10_bitsOf_36 rfl ?_
        obtain ⟨z9, hz9⟩ : ∃ z, z = v9 / 2 ^ n9 := ⟨_, rfl⟩
        have hzb : z9 ≤ v9 := by rw [hz9]; exact Nat.div_le_self _ _
        refine lv_topl (fun y_25 e_26 => ?_)
        obtain rfl : y_25 = lN z9 := e_26.trans ((k_sarN (by omega) (by omega)).trans (by rw [hz9]))
        refine lv_lconst (v := lN 0) hx hb dX10_bitsOf_37 (by decide +kernel) ?_
        refine W.lcmp hx hb dX10_bitsOf_38 ?_
        refine lv_if_le (tgt := 48) hx hb dX10_bitsOf_39 (by decide) (fun c_27 => ?_) (fun c_27 => ?_)
        · have c_27 := (pk_lLE (a := z9) (b := 0) (by omega) (by decide)).mp ((k_cmp_le (lN z9) (lN 0)).mp c_27)
          have hb2 : v9 < 2 ^ n9 := by rcases Nat.lt_or_ge v9 (2 ^ n9) with h | h; exact h; have := Nat.div_pos h (Nat.pow_pos (by decide)); omega
          have hn0 : n9 ≠ 0 := by rintro rfl; have : v9 < 1 := hb2; omega
          have hb3 : 2 ^ (n9 - 1) ≤ v9 := by rcases hn2 with h | h; exact absurd h hn0; exact h
          have q1 : v9 = 1 → n9 = 1 := fun h => by have : n9 - 1 < 1 := k_p2 (Nat.lt_of_le_of_lt hb3 (by omega)); omega
          have q2 : v9 < 16384 → n9 ≤ 14 := fun h => by have : n9 - 1 < 14 := k_p2 (Nat.lt_of_le_of_lt hb3 (by omega)); omega
          refine lv_aload_n hx hb dX10_bitsOf_48 rfl (lv_at hl 0 rfl) ?_
          refine va_get (D := (dC, dI)) (ci := 13) (v := .ref l1) (C := RX10) (T := TX10) (N := 29) hx hb hts bk0 hown hK hP 0 rfl rfl 2 (by decide) (hts (.fieldLink RX10 14 "GradientDeskModel" "length" "[I") (List.mem_of_getElem? (i := 1) rfl)) (fun _ h9 => h9) h2 dX10_bitsOf_49 ?_
          refine lv_iload_n hx hb dX10_bitsOf_52 rfl (lv_at hl 1 rfl) ?_
          refine va_iald hx hb hK hP 2 1 rfl rfl (vp_in_nI (show s9 < 2068 by omega) (by decide)) dX10_bitsOf_53 ?_
          refine lv_topi (fun x_28 e_29 => ?_)
          rw [nI_clamp (show s9 < 2 ^ 31 by omega)] at e_29
          obtain rfl : x_28 = nI 1 := e_29.trans (congrArg nI hl0)
          refine lv_if_ne (tgt := 61) hx hb dX10_bitsOf_54 (by decide) (fun c_30 => ?_) (fun c_30 => absurd c_30 (by decide))
          refine lv_bipush (v := nI 32) hx hb dX10_bitsOf_61 (by decide +kernel) ?_
          refine lv_aload_n hx hb dX10_bitsOf_63 rfl (lv_at hl 0 rfl) ?_
          refine va_get (D := (dC, dI)) (ci := 13) (v := .ref l1) (C := RX10) (T := TX10) (N := 29) hx hb hts bk0 hown hK hP 0 rfl rfl 2 (by decide) (hts (.fieldLink RX10 14 "GradientDeskModel" "length" "[I") (List.mem_of_getElem? (i := 1) rfl)) (fun _ h9 => h9) h2 dX10_bitsOf_64 ?_
          refine lv_iload_n hx hb dX10_bitsOf_67 rfl (lv_at hl 1 rfl) ?_
          refine va_iald hx hb hK hP 2 1 rfl rfl (vp_in_nI (show s9 < 2068 by omega) (by decide)) dX10_bitsOf_68 ?_
          refine lv_topi (fun x_31 e_32 => ?_)
          rw [nI_clamp (show s9 < 2 ^ 31 by omega)] at e_32
          obtain rfl : x_31 = nI 1 := e_32.trans (congrArg nI hl0)
          refine lv_iconst (v := nI 1) hx hb dX10_bitsOf_69 (by decide +kernel) ?_
          refine lv_isub hx hb dX10_bitsOf_70 ?_
          refine lv_topi (fun x_33 e_34 => ?_)
          obtain rfl : x_33 = nI 0 := e_34.trans (pk_sub (show 1 ≤ 1 by omega))
          refine lv_imul hx hb dX10_bitsOf_71 ?_
          refine lv_topi (fun x_35 e_36 => ?_)
          obtain rfl : x_35 = nI 0 := e_36.trans (pk_mul 32 0)
          refine lv_iload_n hx hb dX10_bitsOf_72 rfl (lv_at hl 2 rfl) ?_
          refine lv_iadd hx hb dX10_bitsOf_73 ?_
          refine lv_topi (fun x_37 e_38 => ?_)
          obtain rfl : x_37 = nI n9 := e_38.trans ((nI_add 0 n9).trans (congrArg nI (Nat.zero_add _)))
          have hP9 := hP.sub (ws' := [(o, .inr (13, fs)), (p1, .inl (cP, 165440, .inr (.inl (fun j => lN (pn j))))), (l1, .inl (cL, 2068, .inl (fun j => nI (ln j)))), (b1, .inl (cB, 2068, .inl (fun j => nI (bn j))))]) [0, 1, 2, 3] rfl
          have hD9 := hD.sub (ws' := [(o, .inr (13, fs)), (p1, .inl (cP, 165440, .inr (.inl (fun j => lN (pn j))))), (l1, .inl (cL, 2068, .inl (fun j => nI (ln j)))), (b1, .inl (cB, 2068, .inl (fun j => nI (bn j))))]) [0, 1, 2, 3] (by decide) rfl
          have hK9 := hK.sub (tys' := [(cP, .long), (cL, .int), (cB, .boolean)]) [0, 1, 2] rfl
          refine W.widen (k := 0) (n := 0) (by omega) (by omega) ?_
          exact W.iret (v := nI n9) hx hb hr (fun t ht hW => ⟨⟨nI n9, n9, rfl, ⟨rfl, hn9, fun h => absurd h hv, q1, q2⟩, by rw [ht]; exact hP9, va_K.moved hW.alike hK9, hD9⟩, hS.F ht⟩) hS.2.2 dX10_bitsOf_74
        · have c_27 := mt (pk_lLE (a := z9) (b := 0) (by omega) (by decide)).mpr (mt (k_cmp_le (lN z9) (lN 0)).mpr c_27)
          have hb2 : 2 ^ n9 ≤ v9 := by rcases Nat.lt_or_ge v9 (2 ^ n9) with h | h; exact absurd (Nat.div_eq_of_lt h) (by omega); exact h
          have hb3 : n9 < 31 := k_p2 (Nat.lt_of_le_of_lt hb2 (by omega))
          refine lv_iinc (v := nI (n9 + 1)) (lv' := [(2, .int (nI (n9 + 1))), (0, .ref o), (1, .int (nI s9)), (3, .long (lN v9))]) hx hb dX10_bitsOf_42 hl (k := 2) rfl (nI_add n9 1) (by decide) rfl (fun ls hl => ?_)
          refine lv_goto (tgt := 34) hx hb dX10_bitsOf_45 (by decide) ?_
          exact ih_24 (n9 + 1) (by omega) (by omega) (Or.inr (by rw [Nat.add_sub_cancel]; exact hb2)) _ _ _ (hP.sub (ws' := [(o, .inr (13, fs)), (p1, .inl (cP, 165440, .inr (.inl (fun j => lN (pn j))))), (l1, .inl (cL, 2068, .inl (fun j => nI (ln j)))), (b1, .inl (cB, 2068, .inl (fun j => nI (bn j))))]) [0, 1, 2, 3] rfl) (hD.sub (ws' := [(o, .inr (13, fs)), (p1, .inl (cP, 165440, .inr (.inl (fun j => lN (pn j))))), (l1, .inl (cL, 2068, .inl (fun j => nI (ln j)))), (b1, .inl (cB, 2068, .inl (fun j => nI (bn j))))]) [0, 1, 2, 3] (by decide) rfl) (hK.sub (tys' := [(cP, .long), (cL, .int), (cB, .boolean)]) [0, 1, 2] rfl) hS (lv_sub (l' := [(0, .ref o), (1, .int (nI s9)), (2, .int (nI (n9 + 1))), (3, .long (lN v9))]) hl [1, 2, 0, 3] rfl)
    exact loop_23 _ 0 (Nat.lt_succ_self _) (by decide) (Or.inl rfl) _ _ _ (hP.sub (ws' := [(o, .inr (13, fs)), (p1, .inl (cP, 165440, .inr (.inl (fun j => lN (pn j))))), (l1, .inl (cL, 2068, .inl (fun j => nI (ln j)))), (b1, .inl (cB, 2068, .inl (fun j => nI (bn j))))]) [0, 1, 2, 3] rfl) (hD.sub (ws' := [(o, .inr (13, fs)), (p1, .inl (cP, 165440, .inr (.inl (fun j => lN (pn j))))), (l1, .inl (cL, 2068, .inl (fun j => nI (ln j)))), (b1, .inl (cB, 2068, .inl (fun j => nI (bn j))))]) [0, 1, 2, 3] (by decide) rfl) (hK.sub (tys' := [(cP, .long), (cL, .int), (cB, .boolean)]) [0, 1, 2] rfl) hS (lv_sub (l' := [(0, .ref o), (1, .int (nI s9)), (2, .int (nI 0)), (3, .long (lN v9))]) hl [2, 3, 1, 0] rfl)
def wd_X10_times00 : List Cond := .code yX10_times cX10_times 12 none :: (([.fieldLink RX10 18 "GradientDeskModel" "below" "[Z", .fieldLink RX10 14 "GradientDeskModel" "length" "[I", .methodLink RX10 83 yX10_trim, .instanceMethod yX10_trim, .selects RX10 yX10_trim yX10_trim, .initialized RX10, .methodLink RX10 92 yX10_copy, .instanceMethod yX10_copy, .selects RX10 yX10_copy yX10_copy] : List Cond) ++ (u_ws RX10 TX10 29 ++ (wd_X10_trim ++ (wd_X10_copy ++ ([])))))
theorem gw_X10_times00 : wd_X10_times00.all goodWord = true := k_allc rfl (k_all (by decide +kernel) (k_all (gu_X10) (k_all (gw_X10_trim) (k_all (gw_X10_copy) (rfl)))))
abbrev at_X10_times00 (dC : Nat → ClassId) (dI : Nat → Nat → Nat) (A : Nat → Prop) (o : Nat) (fs : List Value) (p1 : Nat) (l1 : Nat) (b1 : Nat) (cP : ClassId) (cL : ClassId) (cB : ClassId) (pn : Nat → Nat) (ln : Nat → Nat) (bn : Nat → Nat) (t9 : Nat) (s9 : Nat) (r9 : Nat) (u : (Nat → Nat) × (Nat → Nat) × (Nat → Nat)) (t : State) : Prop := match u with
  | (pn2, ln2, bn2) => va_P (dC, dI) vwCl [(o, .inr (13, fs)), (p1, .inl (cP, 165440, .inr (.inl (fun j => lN (pn2 j))))), (l1, .inl (cL, 2068, .inl (fun j => nI (ln2 j)))), (b1, .inl (cB, 2068, .inl (fun j => nI (bn2 j))))] t.heap ∧ va_K (dC, dI) vwCl [(cP, .long), (cL, .int), (cB, .boolean)] t ∧ va_D A [(o, .inr (13, fs)), (p1, .inl (cP, 165440, .inr (.inl (fun j => lN (pn2 j))))), (l1, .inl (cL, 2068, .inl (fun j => nI (ln2 j)))), (b1, .inl (cB, 2068, .inl (fun j => nI (bn2 j))))]
set_option maxHeartbeats 4000000 in
set_option maxRecDepth 100000 in
theorem c_X10_times00 (l : Launch) (dC : Nat → ClassId) (dI : Nat → Nat → Nat) (A : Nat → Prop) (sz : Nat) (hA0 : ∀ q, sz ≤ q → A q) (o : Nat) (fs : List Value) (p1 : Nat) (l1 : Nat) (b1 : Nat) (cP : ClassId) (cL : ClassId) (cB : ClassId) (pn : Nat → Nat) (ln : Nat → Nat) (bn : Nat → Nat) (t9 : Nat) (s9 : Nat) (r9 : Nat) (h1 : fs[1]? = some (.ref p1)) (h2 : fs[2]? = some (.ref l1)) (h3 : fs[3]? = some (.ref b1)) (hpn : ∀ j, pn j < 4294967296) (hln : ∀ j, ln j < 81) (hbn : ∀ j, bn j < 2) (htq : t9 < 2066) (hs : s9 < 2066) (hr9 : r9 < 2066) (ha : On1 pn ln s9 0) (hb9 : On1 pn ln r9 0) (hB : ∀ j, bn j = 0) : Met l yX10_times wd_X10_times00 ({ frames := 30, cells := 0, slots := 0, locals := 600 }) (va_Pc [.ref o, .int (nI t9), .int (nI s9), .int (nI r9)] (fun U => U.heap.size = sz ∧ va_P (dC, dI) vwCl [(o, .inr (13, fs)), (p1, .inl (cP, 165440, .inr (.inl (fun j => lN (pn j))))), (l1, .inl (cL, 2068, .inl (fun j => nI (ln j)))), (b1, .inl (cB, 2068, .inl (fun j => nI (bn j))))] U.heap ∧ va_K (dC, dI) vwCl [(cP, .long), (cL, .int), (cB, .boolean)] U ∧ va_D A [(o, .inr (13, fs)), (p1, .inl (cP, 165440, .inr (.inl (fun j => lN (pn j))))), (l1, .inl (cL, 2068, .inl (fun j => nI (ln j)))), (b1, .inl (cB, 2068, .inl (fun j => nI (bn j))))])) (va_Qv (fun (u : (Nat → Nat) × (Nat → Nat) × (Nat → Nat)) => match u with | (pn2, ln2, bn2) => (∀ j, pn2 j < 4294967296) ∧ (∀ j, ln2 j < 81) ∧ (∀ j, bn2 j < 2) ∧ (Fr9 [t9, 2066] pn ln pn2 ln2 ∧ On1 pn2 ln2 t9 0 ∧ (∀ j, bn2 j = 0))) (at_X10_times00 dC dI A o fs p1 l1 b1 cP cL cB pn ln bn t9 s9 r9) A) (0) (0) A := by
  refine Met.ofW (cc := cX10_times) (maxL := 12) (ret := none) (by decide) rfl ?_
  intro p e s m args below meth c s₁ B hml hv
  obtain ⟨rfl, hsz, hP, hK, hD⟩ := hv
  have hx := B.exec
  have hb := B.bytes
  have hr := B.returns
  have hts := atoms_spec (ws := wd_X10_times00) B.pre
  have hown : s.vm.findClass RX10 = some m.cls := findClass_of_methodNamed B.named
  have hlocks := B.notSynchronized
  have bk0 : ∀ w ∈ u_ws RX10 TX10 29, w ∈ wd_X10_times00 := fun _ h => List.mem_cons_of_mem _ (List.mem_append_right _ (List.mem_append_left _ h))
  have bk1 : ∀ w ∈ wd_X10_trim, w ∈ wd_X10_times00 := fun _ h => List.mem_cons_of_mem _ (List.mem_append_right _ (List.mem_append_right _ (List.mem_append_left _ h)))
  have bk2 : ∀ w ∈ wd_X10_copy, w ∈ wd_X10_times00 := fun _ h => List.mem_cons_of_mem _ (List.mem_append_right _ (List.mem_append_right _ (List.mem_append_right _ (List.mem_append_left _ h))))
  subst hsz
  have hA : ∀ q : Nat, s.heap.size ≤ q → A q := hA0
  have hS : va_S A s.heap s.heap [] := va_S.rf
  have hl := lv_entry ([.ref o, .int (nI t9), .int (nI s9), .int (nI r9)]) (n := 12) (Nat.le_of_ble_eq_true rfl)
  rw [lg_entry_eq]
  generalize (lg_sl ([.ref o, .int (nI t9), .int (nI s9), .int (nI r9)]) ++ List.replicate (12 - (lg_sl ([.ref o, .int (nI t9), .int (nI s9), .int (nI r9)])).length) Slot.unset).toArray = ls at hl ⊢
  have hl : lv_has ls 12 [(0, .ref o), (1, .int (nI t9)), (2, .int (nI s9)), (3, .int (nI r9))] := hl
  refine lv_aload_n hx hb dX10_times_0 rfl (lv_at hl 0 rfl) ?_
  refine va_get (D := (dC, dI)) (ci := 13) (v := .ref b1) (C := RX10) (T := TX10) (N := 29) hx hb hts bk0 hown hK hP 0 rfl rfl 3 (by decide) (hts (.fieldLink RX10 18 "GradientDeskModel" "below" "[Z") (List.mem_of_getElem? (i := 1) rfl)) (fun _ h9 => h9) h3 dX10_times_1 ?_
  refine lv_iload_n hx hb dX10_times_4 rfl (lv_at hl 2 rfl) ?_
  refine va_zald hx hb hK hP 3 2 rfl rfl (vp_in_nI (show s9 < 2068 by omega) (by decide)) dX10_times_5 ?_
  refine lv_topi (fun x_1 e_2 => ?_)
  rw [nI_clamp (show s9 < 2 ^ 31 by omega)] at e_2
  obtain rfl : x_1 = nI 0 := e_2.trans (congrArg nI (hB _))
  refine lv_aload_n hx hb dX10_times_6 rfl (lv_at hl 0 rfl) ?_
  refine va_get (D := (dC, dI)) (ci := 13) (v := .ref b1) (C := RX10) (T := TX10) (N := 29) hx hb hts bk0 hown hK hP 0 rfl rfl 3 (by decide) (hts (.fieldLink RX10 18 "GradientDeskModel" "below" "[Z") (List.mem_of_getElem? (i := 1) rfl)) (fun _ h9 => h9) h3 dX10_times_7 ?_
  refine lv_iload_n hx hb dX10_times_10 rfl (lv_at hl 3 rfl) ?_
  refine va_zald hx hb hK hP 3 2 rfl rfl (vp_in_nI (show r9 < 2068 by omega) (by decide)) dX10_times_11 ?_
  refine lv_topi (fun x_3 e_4 => ?_)
  rw [nI_clamp (show r9 < 2 ^ 31 by omega)] at e_4
  obtain rfl : x_3 = nI 0 := e_4.trans (congrArg nI (hB _))
  refine lv_icmp_eq (tgt := 19) hx hb dX10_times_12 (by decide) (fun c_5 => ?_) (fun c_5 => absurd c_5 (by decide))
  refine lv_iconst (v := nI 0) hx hb dX10_times_19 (by decide +kernel) ?_
  refine lv_istore (lv' := [(4, .int (nI 0)), (0, .ref o), (1, .int (nI t9)), (2, .int (nI s9)), (3, .int (nI r9))]) hx hb dX10_times_20 hl (by decide) rfl (fun ls hl => ?_)
  refine lv_aload_n hx hb dX10_times_22 rfl (lv_at hl 1 rfl) ?_
  refine va_get (D := (dC, dI)) (ci := 13) (v := .ref l1) (C := RX10) (T := TX10) (N := 29) hx hb hts bk0 hown hK hP 0 rfl rfl 2 (by decide) (hts (.fieldLink RX10 14 "GradientDeskModel" "length" "[I") (List.mem_of_getElem? (i := 2) rfl)) (fun _ h9 => h9) h2 dX10_times_23 ?_
  refine lv_iload_n hx hb dX10_times_26 rfl (lv_at hl 3 rfl) ?_
  refine va_iald hx hb hK hP 2 1 rfl rfl (vp_in_nI (show s9 < 2068 by omega) (by decide)) dX10_times_27 ?_
  refine lv_topi (fun x_6 e_7 => ?_)
  rw [nI_clamp (show s9 < 2 ^ 31 by omega)] at e_7
  obtain rfl : x_6 = nI 0 := e_7.trans (congrArg nI (ha.zero.mpr rfl))
  refine lv_aload_n hx hb dX10_times_28 rfl (lv_at hl 1 rfl) ?_
  refine va_get (D := (dC, dI)) (ci := 13) (v := .ref l1) (C := RX10) (T := TX10) (N := 29) hx hb hts bk0 hown hK hP 0 rfl rfl 2 (by decide) (hts (.fieldLink RX10 14 "GradientDeskModel" "length" "[I") (List.mem_of_getElem? (i := 2) rfl)) (fun _ h9 => h9) h2 dX10_times_29 ?_
  refine lv_iload_n hx hb dX10_times_32 rfl (lv_at hl 4 rfl) ?_
  refine va_iald hx hb hK hP 2 1 rfl rfl (vp_in_nI (show r9 < 2068 by omega) (by decide)) dX10_times_33 ?_
  refine lv_topi (fun x_8 e_9 => ?_)
  rw [nI_clamp (show r9 < 2 ^ 31 by omega)] at e_9
  obtain rfl : x_8 = nI 0 := e_9.trans (congrArg nI (hb9.zero.mpr rfl))
  refine lv_iadd hx hb dX10_times_34 ?_
  refine lv_topi (fun x_10 e_11 => ?_)
  obtain rfl : x_10 = nI 0 := e_11.trans (nI_add 0 0)
  refine lv_istore (lv' := [(5, .int (nI 0)), (4, .int (nI 0)), (0, .ref o), (1, .int (nI t9)), (2, .int (nI s9)), (3, .int (nI r9))]) hx hb dX10_times_35 hl (by decide) rfl (fun ls hl => ?_)
  refine lv_iconst (v := nI 0) hx hb dX10_times_37 (by decide +kernel) ?_
  refine lv_istore (lv' := [(6, .int (nI 0)), (5, .int (nI 0)), (4, .int (nI 0)), (0, .ref o), (1, .int (nI t9)), (2, .int (nI s9)), (3, .int (nI r9))]) hx hb dX10_times_38 hl (by decide) rfl (fun ls hl => ?_)
  refine lv_iload hx hb dX10_times_40 (lv_at hl 0 rfl) ?_
  refine lv_iload hx hb dX10_times_42 (lv_at hl 1 rfl) ?_
  refine lv_icmp_ge (tgt := 64) hx hb dX10_times_44 (by decide) (fun c_12 => ?_) (fun c_12 => absurd c_12 (by decide))
  refine lv_iconst (v := nI 0) hx hb dX10_times_64 (by decide +kernel) ?_
  refine lv_istore (lv' := [(6, .int (nI 0)), (5, .int (nI 0)), (4, .int (nI 0)), (0, .ref o), (1, .int (nI t9)), (2, .int (nI s9)), (3, .int (nI r9))]) hx hb dX10_times_65 hl (by decide) rfl (fun ls hl => ?_)
  refine lv_iload hx hb dX10_times_67 (lv_at hl 0 rfl) ?_
  refine lv_aload_n hx hb dX10_times_69 rfl (lv_at hl 3 rfl) ?_
  refine va_get (D := (dC, dI)) (ci := 13) (v := .ref l1) (C := RX10) (T := TX10) (N := 29) hx hb hts bk0 hown hK hP 0 rfl rfl 2 (by decide) (hts (.fieldLink RX10 14 "GradientDeskModel" "length" "[I") (List.mem_of_getElem? (i := 2) rfl)) (fun _ h9 => h9) h2 dX10_times_70 ?_
  refine lv_iload_n hx hb dX10_times_73 rfl (lv_at hl 5 rfl) ?_
  refine va_iald hx hb hK hP 2 1 rfl rfl (vp_in_nI (show s9 < 2068 by omega) (by decide)) dX10_times_74 ?_
  refine lv_topi (fun x_13 e_14 => ?_)
  rw [nI_clamp (show s9 < 2 ^ 31 by omega)] at e_14
  obtain rfl : x_13 = nI 0 := e_14.trans (congrArg nI (ha.zero.mpr rfl))
  refine lv_icmp_ge (tgt := 196) hx hb dX10_times_75 (by decide) (fun c_15 => ?_) (fun c_15 => absurd c_15 (by decide))
  refine lv_aload_n hx hb dX10_times_196 rfl (lv_at hl 3 rfl) ?_
  refine va_get (D := (dC, dI)) (ci := 13) (v := .ref l1) (C := RX10) (T := TX10) (N := 29) hx hb hts bk0 hown hK hP 0 rfl rfl 2 (by decide) (hts (.fieldLink RX10 14 "GradientDeskModel" "length" "[I") (List.mem_of_getElem? (i := 2) rfl)) (fun _ h9 => h9) h2 dX10_times_197 ?_
  refine lv_sipush (v := nI 2066) hx hb dX10_times_200 (by decide +kernel) ?_
  refine lv_iload hx hb dX10_times_203 (lv_at hl 1 rfl) ?_
  refine va_iast hx hb hK hP hD hS 2 1 rfl rfl (vp_in_nI (show 2066 < 2068 by decide) (by decide)) dX10_times_205 (fun H locs hP hD hS => ?_)
  rw [nI_clamp (show 2066 < 2 ^ 31 by decide)] at hP hD
  rw [k_updI] at hP hD
  have hb_16 : ∀ j, (va_up ln 2066 0) j < 81 := k_up_lt hln (by omega)
  have hP : va_P (dC, dI) vwCl ([(o, .inr (13, fs)), (p1, .inl (cP, 165440, .inr (.inl (fun j => lN (pn j))))), (l1, .inl (cL, 2068, .inl (fun j => nI ((va_up ln 2066 0) j)))), (b1, .inl (cB, 2068, .inl (fun j => nI (bn j))))]) H := hP
  have hD : va_D A ([(o, .inr (13, fs)), (p1, .inl (cP, 165440, .inr (.inl (fun j => lN (pn j))))), (l1, .inl (cL, 2068, .inl (fun j => nI ((va_up ln 2066 0) j)))), (b1, .inl (cB, 2068, .inl (fun j => nI (bn j))))]) := hD
  refine lv_aload_n hx hb dX10_times_206 rfl (lv_at hl 3 rfl) ?_
  refine va_get (D := (dC, dI)) (ci := 13) (v := .ref b1) (C := RX10) (T := TX10) (N := 29) hx hb hts bk0 hown hK hP 0 rfl rfl 3 (by decide) (hts (.fieldLink RX10 18 "GradientDeskModel" "below" "[Z") (List.mem_of_getElem? (i := 1) rfl)) (fun _ h9 => h9) h3 dX10_times_207 ?_
  refine lv_sipush (v := nI 2066) hx hb dX10_times_210 (by decide +kernel) ?_
  refine lv_iload hx hb dX10_times_213 (lv_at hl 2 rfl) ?_
  refine va_zast hx hb hK hP hD hS 3 2 rfl rfl (vp_in_nI (show 2066 < 2068 by decide) (by decide)) dX10_times_215 (fun H locs hP hD hS => ?_)
  rw [nI_clamp (show 2066 < 2 ^ 31 by decide)] at hP hD
  rw [k_narZ (show 0 ≤ 1 by omega)] at hP hD
  rw [k_updI] at hP hD
  have hb_17 : ∀ j, (va_up bn 2066 0) j < 2 := k_up_lt hbn (by omega)
  have hP : va_P (dC, dI) vwCl ([(o, .inr (13, fs)), (p1, .inl (cP, 165440, .inr (.inl (fun j => lN (pn j))))), (l1, .inl (cL, 2068, .inl (fun j => nI ((va_up ln 2066 0) j)))), (b1, .inl (cB, 2068, .inl (fun j => nI ((va_up bn 2066 0) j))))]) H := hP
  have hD : va_D A ([(o, .inr (13, fs)), (p1, .inl (cP, 165440, .inr (.inl (fun j => lN (pn j))))), (l1, .inl (cL, 2068, .inl (fun j => nI ((va_up ln 2066 0) j)))), (b1, .inl (cB, 2068, .inl (fun j => nI ((va_up bn 2066 0) j))))]) := hD
  refine lv_aload_n hx hb dX10_times_216 rfl (lv_at hl 3 rfl) ?_
  refine lv_sipush (v := nI 2066) hx hb dX10_times_217 (by decide +kernel) ?_
  have hPc := hP.sub (ws' := [(o, .inr (13, fs)), (p1, .inl (cP, 165440, .inr (.inl (fun j => lN (pn j))))), (l1, .inl (cL, 2068, .inl (fun j => nI ((va_up ln 2066 0) j)))), (b1, .inl (cB, 2068, .inl (fun j => nI ((va_up bn 2066 0) j))))]) [0, 1, 2, 3] rfl
  have hDc := hD.sub (ws' := [(o, .inr (13, fs)), (p1, .inl (cP, 165440, .inr (.inl (fun j => lN (pn j))))), (l1, .inl (cL, 2068, .inl (fun j => nI ((va_up ln 2066 0) j)))), (b1, .inl (cB, 2068, .inl (fun j => nI ((va_up bn 2066 0) j))))]) [0, 1, 2, 3] (by decide) rfl
  have hKc := hK.sub (tys' := [(cP, .long), (cL, .int), (cB, .boolean)]) [0, 1, 2] rfl
  have hFc := va_free (wc := [(o, .inr (13, fs)), (p1, .inl (cP, 165440, .inr (.inl (fun j => lN (pn j))))), (l1, .inl (cL, 2068, .inl (fun j => nI ((va_up ln 2066 0) j)))), (b1, .inl (cB, 2068, .inl (fun j => nI ((va_up bn 2066 0) j))))]) hD hS hA [0, 1, 2, 3] rfl
  refine va_callv (va_runV (As := [.int (nI 2066)]) (rest := []) ⟨hx, hb, hml, hown, hts⟩ (c_X10_trim l dC dI (va_A [(o, .inr (13, fs)), (p1, .inl (cP, 165440, .inr (.inl (fun j => lN (pn j))))), (l1, .inl (cL, 2068, .inl (fun j => nI ((va_up ln 2066 0) j)))), (b1, .inl (cB, 2068, .inl (fun j => nI ((va_up bn 2066 0) j))))] H.size) H.size (fun _ h => Or.inr h) o fs p1 l1 b1 cP cL cB pn (va_up ln 2066 0) (va_up bn 2066 0) 2066 h1 h2 h3 hpn hb_16 hb_17 (by decide)) (cwV 1 hts (goodIn_app (goodIn_r [Cond.methodLink RX10 83 yX10_trim, Cond.instanceMethod yX10_trim, Cond.selects RX10 yX10_trim yX10_trim, Cond.initialized RX10] [3, 4, 5, 6] rfl rfl) (goodIn_sub (fun w9 h9 => bk1 w9 h9) gw_X10_trim)) rfl rfl rfl (by decide +kernel) ⟨Nat.le_of_ble_eq_true rfl, Nat.le_of_ble_eq_true rfl⟩) ⟨fun a U g mk q => by obtain ⟨q0, q1, qP, qK, qD⟩ := q; exact ⟨q0, q1, qP, va_K.moved (u := U) (U := U.calling g mk a) (Vm.Alike.refl U.vm) qK, qD⟩, va_recv hKc hPc (ci := 13) (q0 := 0) rfl rfl, fun U hU hW => ⟨rfl, by rw [hU], by rw [hU]; exact hPc, va_K.moved hW.alike hKc, hDc.self⟩⟩ rfl rfl hl.1 rfl (lv_room (Nat.le_of_ble_eq_true rfl)) dX10_times_220 ⟨(Nat.le_of_ble_eq_true rfl), (Nat.le_of_ble_eq_true rfl)⟩) hS (fun q _ h => hFc q h) hFc (fun u t H1 locs ht hvm hw_18 hB hz1 hk1 hS => ?_)
  obtain ⟨pn2_19, ln2_20, bn2_21⟩ := u
  obtain ⟨hP1, hK1, hD1⟩ := hB
  rw [ht] at hP1
  have hK1 := va_K.moved hvm.symm hK1
  try dsimp only at hw_18
  obtain ⟨hP, hD⟩ := va_join (wr := []) (w1 := [(o, .inr (13, fs)), (p1, .inl (cP, 165440, .inr (.inl (fun j => lN (pn2_19 j))))), (l1, .inl (cL, 2068, .inl (fun j => nI (ln2_20 j)))), (b1, .inl (cB, 2068, .inl (fun j => nI (bn2_21 j))))]) hP hD [0, 1, 2, 3] [] rfl rfl (by decide) (by decide) hk1 hFc hP1 hD1
  have hK := (hK.sub (tys' := []) [] rfl).app hK1
  generalize H1 = H at hP hS ⊢
  have hP : va_P (dC, dI) vwCl ([(o, .inr (13, fs)), (p1, .inl (cP, 165440, .inr (.inl (fun j => lN (pn2_19 j))))), (l1, .inl (cL, 2068, .inl (fun j => nI (ln2_20 j)))), (b1, .inl (cB, 2068, .inl (fun j => nI (bn2_21 j))))]) H := hP
  have hD : va_D A ([(o, .inr (13, fs)), (p1, .inl (cP, 165440, .inr (.inl (fun j => lN (pn2_19 j))))), (l1, .inl (cL, 2068, .inl (fun j => nI (ln2_20 j)))), (b1, .inl (cB, 2068, .inl (fun j => nI (bn2_21 j))))]) := hD
  have hK : va_K (dC, dI) vwCl [(cP, .long), (cL, .int), (cB, .boolean)] s := hK
  obtain ⟨hb_22, hb_23, hb_24, hpq, m9, hm, hz, ht9, rfl, rfl⟩ := hw_18
  obtain rfl := hpq.symm
  have hl9 : (va_up ln 2066 0) 2066 = 0 := va_up_self _ _ _
  have hT : On1 pn (va_up (va_up ln 2066 0) 2066 m9) 2066 0 := k_On1_eq (k_ltrim (Or.inl (by omega)) hm hz ht9) (by rw [hl9]; rfl)
  have f9 : Fr9 [2066] pn ln pn (va_up (va_up ln 2066 0) 2066 m9) := (by intro j hj; simp only [List.mem_cons, List.not_mem_nil, or_false, not_or] at hj; constructor <;> first | rfl | (simp only [va_up]; (repeat' split) <;> first | rfl | omega))
  have zb9 : ∀ j, (va_up (va_up bn 2066 0) 2066 (if m9 = 0 then 0 else (va_up bn 2066 0) 2066)) j = 0 := by intro j; simp only [va_up]; (repeat' split) <;> first | rfl | exact hB _ | omega
  refine lv_aload_n hx hb dX10_times_223 rfl (lv_at hl 3 rfl) ?_
  refine lv_iload_n hx hb dX10_times_224 rfl (lv_at hl 4 rfl) ?_
  refine lv_sipush (v := nI 2066) hx hb dX10_times_225 (by decide +kernel) ?_
  have hPc := hP.sub (ws' := [(o, .inr (13, fs)), (p1, .inl (cP, 165440, .inr (.inl (fun j => lN (pn j))))), (l1, .inl (cL, 2068, .inl (fun j => nI ((va_up (va_up ln 2066 0) 2066 m9) j)))), (b1, .inl (cB, 2068, .inl (fun j => nI ((va_up (va_up bn 2066 0) 2066 (if m9 = 0 then 0 else (va_up bn 2066 0) 2066)) j))))]) [0, 1, 2, 3] rfl
  have hDc := hD.sub (ws' := [(o, .inr (13, fs)), (p1, .inl (cP, 165440, .inr (.inl (fun j => lN (pn j))))), (l1, .inl (cL, 2068, .inl (fun j => nI ((va_up (va_up ln 2066 0) 2066 m9) j)))), (b1, .inl (cB, 2068, .inl (fun j => nI ((va_up (va_up bn 2066 0) 2066 (if m9 = 0 then 0 else (va_up bn 2066 0) 2066)) j))))]) [0, 1, 2, 3] (by decide) rfl
  have hKc := hK.sub (tys' := [(cP, .long), (cL, .int), (cB, .boolean)]) [0, 1, 2] rfl
  have hFc := va_free (wc := [(o, .inr (13, fs)), (p1, .inl (cP, 165440, .inr (.inl (fun j => lN (pn j))))), (l1, .inl (cL, 2068, .inl (fun j => nI ((va_up (va_up ln 2066 0) 2066 m9) j)))), (b1, .inl (cB, 2068, .inl (fun j => nI ((va_up (va_up bn 2066 0) 2066 (if m9 = 0 then 0 else (va_up bn 2066 0) 2066)) j))))]) hD hS hA [0, 1, 2, 3] rfl
  refine va_callv (va_runV (As := [.int (nI t9), .int (nI 2066)]) (rest := []) ⟨hx, hb, hml, hown, hts⟩ (c_X10_copy l dC dI (va_A [(o, .inr (13, fs)), (p1, .inl (cP, 165440, .inr (.inl (fun j => lN (pn j))))), (l1, .inl (cL, 2068, .inl (fun j => nI ((va_up (va_up ln 2066 0) 2066 m9) j)))), (b1, .inl (cB, 2068, .inl (fun j => nI ((va_up (va_up bn 2066 0) 2066 (if m9 = 0 then 0 else (va_up bn 2066 0) 2066)) j))))] H.size) H.size (fun _ h => Or.inr h) o fs p1 l1 b1 cP cL cB pn (va_up (va_up ln 2066 0) 2066 m9) (va_up (va_up bn 2066 0) 2066 (if m9 = 0 then 0 else (va_up bn 2066 0) 2066)) t9 2066 0 h1 h2 h3 hb_22 hb_23 hb_24 (by omega) (by decide) hT) (cwV 2 hts (goodIn_app (goodIn_r [Cond.methodLink RX10 92 yX10_copy, Cond.instanceMethod yX10_copy, Cond.selects RX10 yX10_copy yX10_copy, Cond.initialized RX10] [7, 8, 9, 6] rfl rfl) (goodIn_sub (fun w9 h9 => bk2 w9 h9) gw_X10_copy)) rfl rfl rfl (by decide +kernel) ⟨Nat.le_of_ble_eq_true rfl, Nat.le_of_ble_eq_true rfl⟩) ⟨fun a U g mk q => by obtain ⟨q0, q1, qP, qK, qD⟩ := q; exact ⟨q0, q1, qP, va_K.moved (u := U) (U := U.calling g mk a) (Vm.Alike.refl U.vm) qK, qD⟩, va_recv hKc hPc (ci := 13) (q0 := 0) rfl rfl, fun U hU hW => ⟨rfl, by rw [hU], by rw [hU]; exact hPc, va_K.moved hW.alike hKc, hDc.self⟩⟩ rfl rfl hl.1 rfl (lv_room (Nat.le_of_ble_eq_true rfl)) dX10_times_228 ⟨(Nat.le_of_ble_eq_true rfl), (Nat.le_of_ble_eq_true rfl)⟩) hS (fun q _ h => hFc q h) hFc (fun u t H1 locs ht hvm hw_26 hB hz1 hk1 hS => ?_)
  obtain ⟨pn2_27, ln2_28, bn2_29⟩ := u
  obtain ⟨hP1, hK1, hD1⟩ := hB
  rw [ht] at hP1
  have hK1 := va_K.moved hvm.symm hK1
  try dsimp only at hw_26
  obtain ⟨hP, hD⟩ := va_join (wr := []) (w1 := [(o, .inr (13, fs)), (p1, .inl (cP, 165440, .inr (.inl (fun j => lN (pn2_27 j))))), (l1, .inl (cL, 2068, .inl (fun j => nI (ln2_28 j)))), (b1, .inl (cB, 2068, .inl (fun j => nI (bn2_29 j))))]) hP hD [0, 1, 2, 3] [] rfl rfl (by decide) (by decide) hk1 hFc hP1 hD1
  have hK := (hK.sub (tys' := []) [] rfl).app hK1
  generalize H1 = H at hP hS ⊢
  have hP : va_P (dC, dI) vwCl ([(o, .inr (13, fs)), (p1, .inl (cP, 165440, .inr (.inl (fun j => lN (pn2_27 j))))), (l1, .inl (cL, 2068, .inl (fun j => nI (ln2_28 j)))), (b1, .inl (cB, 2068, .inl (fun j => nI (bn2_29 j))))]) H := hP
  have hD : va_D A ([(o, .inr (13, fs)), (p1, .inl (cP, 165440, .inr (.inl (fun j => lN (pn2_27 j))))), (l1, .inl (cL, 2068, .inl (fun j => nI (ln2_28 j)))), (b1, .inl (cB, 2068, .inl (fun j => nI (bn2_29 j))))]) := hD
  have hK : va_K (dC, dI) vwCl [(cP, .long), (cL, .int), (cB, .boolean)] s := hK
  obtain ⟨hb_30, hb_31, hb_32, rel_33⟩ := hw_26
  have rel9 := rel_33
  have st9 := f9.tr (S := [t9, 2066]) rel9.1 (fun j h => by simp at h ⊢; omega) (fun j h => by simp at h ⊢; omega)
  have hP9 := hP.sub (ws' := [(o, .inr (13, fs)), (p1, .inl (cP, 165440, .inr (.inl (fun j => lN (pn2_27 j))))), (l1, .inl (cL, 2068, .inl (fun j => nI (ln2_28 j)))), (b1, .inl (cB, 2068, .inl (fun j => nI (bn2_29 j))))]) [0, 1, 2, 3] rfl
  have hD9 := hD.sub (ws' := [(o, .inr (13, fs)), (p1, .inl (cP, 165440, .inr (.inl (fun j => lN (pn2_27 j))))), (l1, .inl (cL, 2068, .inl (fun j => nI (ln2_28 j)))), (b1, .inl (cB, 2068, .inl (fun j => nI (bn2_29 j))))]) [0, 1, 2, 3] (by decide) rfl
  have hK9 := hK.sub (tys' := [(cP, .long), (cL, .int), (cB, .boolean)]) [0, 1, 2] rfl
  refine W.widen (k := 0) (n := 0) (by omega) (by omega) ?_
  exact W.vret hx hb hr (fun t ht hW => ⟨⟨(pn2_27, ln2_28, bn2_29), rfl, ⟨hb_30, hb_31, hb_32, st9, rel9.2.1, rel9.2.2 zb9⟩, by rw [ht]; exact hP9, va_K.moved hW.alike hK9, hD9⟩, hS.F ht⟩) hS.2.2 dX10_times_231
def wd_X10_times01 : List Cond := .code yX10_times cX10_times 12 none :: (([.fieldLink RX10 18 "GradientDeskModel" "below" "[Z", .fieldLink RX10 14 "GradientDeskModel" "length" "[I", .fieldLink RX10 8 "GradientDeskModel" "pieces" "[J", .constant RX10 91 (165280), .methodLink RX10 83 yX10_trim, .instanceMethod yX10_trim, .selects RX10 yX10_trim yX10_trim, .initialized RX10, .methodLink RX10 92 yX10_copy, .instanceMethod yX10_copy, .selects RX10 yX10_copy yX10_copy] : List Cond) ++ (u_ws RX10 TX10 29 ++ (wd_X10_trim ++ (wd_X10_copy ++ ([])))))
theorem gw_X10_times01 : wd_X10_times01.all goodWord = true := k_allc rfl (k_all (by decide +kernel) (k_all (gu_X10) (k_all (gw_X10_trim) (k_all (gw_X10_copy) (rfl)))))
abbrev at_X10_times01 (dC : Nat → ClassId) (dI : Nat → Nat → Nat) (A : Nat → Prop) (o : Nat) (fs : List Value) (p1 : Nat) (l1 : Nat) (b1 : Nat) (cP : ClassId) (cL : ClassId) (cB : ClassId) (pn : Nat → Nat) (ln : Nat → Nat) (bn : Nat → Nat) (t9 : Nat) (s9 : Nat) (r9 : Nat) (u : (Nat → Nat) × (Nat → Nat) × (Nat → Nat)) (t : State) : Prop := match u with
  | (pn2, ln2, bn2) => va_P (dC, dI) vwCl [(o, .inr (13, fs)), (p1, .inl (cP, 165440, .inr (.inl (fun j => lN (pn2 j))))), (l1, .inl (cL, 2068, .inl (fun j => nI (ln2 j)))), (b1, .inl (cB, 2068, .inl (fun j => nI (bn2 j))))] t.heap ∧ va_K (dC, dI) vwCl [(cP, .long), (cL, .int), (cB, .boolean)] t ∧ va_D A [(o, .inr (13, fs)), (p1, .inl (cP, 165440, .inr (.inl (fun j => lN (pn2 j))))), (l1, .inl (cL, 2068, .inl (fun j => nI (ln2 j)))), (b1, .inl (cB, 2068, .inl (fun j => nI (bn2 j))))]
set_option maxHeartbeats 4000000 in
set_option maxRecDepth 100000 in
theorem c_X10_times01 (l : Launch) (dC : Nat → ClassId) (dI : Nat → Nat → Nat) (A : Nat → Prop) (sz : Nat) (hA0 : ∀ q, sz ≤ q → A q) (o : Nat) (fs : List Value) (p1 : Nat) (l1 : Nat) (b1 : Nat) (cP : ClassId) (cL : ClassId) (cB : ClassId) (pn : Nat → Nat) (ln : Nat → Nat) (bn : Nat → Nat) (t9 : Nat) (s9 : Nat) (r9 : Nat) (h1 : fs[1]? = some (.ref p1)) (h2 : fs[2]? = some (.ref l1)) (h3 : fs[3]? = some (.ref b1)) (hpn : ∀ j, pn j < 4294967296) (hln : ∀ j, ln j < 81) (hbn : ∀ j, bn j < 2) (htq : t9 < 2066) (hs : s9 < 2066) (hr9 : r9 < 2066) (ha : On1 pn ln s9 0) (hb9 : On1 pn ln r9 1) (hB : ∀ j, bn j = 0) : Met l yX10_times wd_X10_times01 ({ frames := 30, cells := 0, slots := 0, locals := 600 }) (va_Pc [.ref o, .int (nI t9), .int (nI s9), .int (nI r9)] (fun U => U.heap.size = sz ∧ va_P (dC, dI) vwCl [(o, .inr (13, fs)), (p1, .inl (cP, 165440, .inr (.inl (fun j => lN (pn j))))), (l1, .inl (cL, 2068, .inl (fun j => nI (ln j)))), (b1, .inl (cB, 2068, .inl (fun j => nI (bn j))))] U.heap ∧ va_K (dC, dI) vwCl [(cP, .long), (cL, .int), (cB, .boolean)] U ∧ va_D A [(o, .inr (13, fs)), (p1, .inl (cP, 165440, .inr (.inl (fun j => lN (pn j))))), (l1, .inl (cL, 2068, .inl (fun j => nI (ln j)))), (b1, .inl (cB, 2068, .inl (fun j => nI (bn j))))])) (va_Qv (fun (u : (Nat → Nat) × (Nat → Nat) × (Nat → Nat)) => match u with | (pn2, ln2, bn2) => (∀ j, pn2 j < 4294967296) ∧ (∀ j, ln2 j < 81) ∧ (∀ j, bn2 j < 2) ∧ (Fr9 [t9, 2066] pn ln pn2 ln2 ∧ On1 pn2 ln2 t9 0 ∧ (∀ j, bn2 j = 0))) (at_X10_times01 dC dI A o fs p1 l1 b1 cP cL cB pn ln bn t9 s9 r9) A) (0) (0) A := by
  refine Met.ofW (cc := cX10_times) (maxL := 12) (ret := none) (by decide) rfl ?_
  intro p e s m args below meth c s₁ B hml hv
  obtain ⟨rfl, hsz, hP, hK, hD⟩ := hv
  have hx := B.exec
  have hb := B.bytes
  have hr := B.returns
  have hts := atoms_spec (ws := wd_X10_times01) B.pre
  have hown : s.vm.findClass RX10 = some m.cls := findClass_of_methodNamed B.named
  have hlocks := B.notSynchronized
  have bk0 : ∀ w ∈ u_ws RX10 TX10 29, w ∈ wd_X10_times01 := fun _ h => List.mem_cons_of_mem _ (List.mem_append_right _ (List.mem_append_left _ h))
  have bk1 : ∀ w ∈ wd_X10_trim, w ∈ wd_X10_times01 := fun _ h => List.mem_cons_of_mem _ (List.mem_append_right _ (List.mem_append_right _ (List.mem_append_left _ h)))
  have bk2 : ∀ w ∈ wd_X10_copy, w ∈ wd_X10_times01 := fun _ h => List.mem_cons_of_mem _ (List.mem_append_right _ (List.mem_append_right _ (List.mem_append_right _ (List.mem_append_left _ h))))
  subst hsz
  have hA : ∀ q : Nat, s.heap.size ≤ q → A q := hA0
  have hS : va_S A s.heap s.heap [] := va_S.rf
  have hl := lv_entry ([.ref o, .int (nI t9), .int (nI s9), .int (nI r9)]) (n := 12) (Nat.le_of_ble_eq_true rfl)
  rw [lg_entry_eq]
  generalize (lg_sl ([.ref o, .int (nI t9), .int (nI s9), .int (nI r9)]) ++ List.replicate (12 - (lg_sl ([.ref o, .int (nI t9), .int (nI s9), .int (nI r9)])).length) Slot.unset).toArray = ls at hl ⊢
  have hl : lv_has ls 12 [(0, .ref o), (1, .int (nI t9)), (2, .int (nI s9)), (3, .int (nI r9))] := hl
  refine lv_aload_n hx hb dX10_times_0 rfl (lv_at hl 0 rfl) ?_
  refine va_get (D := (dC, dI)) (ci := 13) (v := .ref b1) (C := RX10) (T := TX10) (N := 29) hx hb hts bk0 hown hK hP 0 rfl rfl 3 (by decide) (hts (.fieldLink RX10 18 "GradientDeskModel" "below" "[Z") (List.mem_of_getElem? (i := 1) rfl)) (fun _ h9 => h9) h3 dX10_times_1 ?_
  refine lv_iload_n hx hb dX10_times_4 rfl (lv_at hl 2 rfl) ?_
  refine va_zald hx hb hK hP 3 2 rfl rfl (vp_in_nI (show s9 < 2068 by omega) (by decide)) dX10_times_5 ?_
  refine lv_topi (fun x_1 e_2 => ?_)
  rw [nI_clamp (show s9 < 2 ^ 31 by omega)] at e_2
  obtain rfl : x_1 = nI 0 := e_2.trans (congrArg nI (hB _))
  refine lv_aload_n hx hb dX10_times_6 rfl (lv_at hl 0 rfl) ?_
  refine va_get (D := (dC, dI)) (ci := 13) (v := .ref b1) (C := RX10) (T := TX10) (N := 29) hx hb hts bk0 hown hK hP 0 rfl rfl 3 (by decide) (hts (.fieldLink RX10 18 "GradientDeskModel" "below" "[Z") (List.mem_of_getElem? (i := 1) rfl)) (fun _ h9 => h9) h3 dX10_times_7 ?_
  refine lv_iload_n hx hb dX10_times_10 rfl (lv_at hl 3 rfl) ?_
  refine va_zald hx hb hK hP 3 2 rfl rfl (vp_in_nI (show r9 < 2068 by omega) (by decide)) dX10_times_11 ?_
  refine lv_topi (fun x_3 e_4 => ?_)
  rw [nI_clamp (show r9 < 2 ^ 31 by omega)] at e_4
  obtain rfl : x_3 = nI 0 := e_4.trans (congrArg nI (hB _))
  refine lv_icmp_eq (tgt := 19) hx hb dX10_times_12 (by decide) (fun c_5 => ?_) (fun c_5 => absurd c_5 (by decide))
  refine lv_iconst (v := nI 0) hx hb dX10_times_19 (by decide +kernel) ?_
  refine lv_istore (lv' := [(4, .int (nI 0)), (0, .ref o), (1, .int (nI t9)), (2, .int (nI s9)), (3, .int (nI r9))]) hx hb dX10_times_20 hl (by decide) rfl (fun ls hl => ?_)
  refine lv_aload_n hx hb dX10_times_22 rfl (lv_at hl 1 rfl) ?_
  refine va_get (D := (dC, dI)) (ci := 13) (v := .ref l1) (C := RX10) (T := TX10) (N := 29) hx hb hts bk0 hown hK hP 0 rfl rfl 2 (by decide) (hts (.fieldLink RX10 14 "GradientDeskModel" "length" "[I") (List.mem_of_getElem? (i := 2) rfl)) (fun _ h9 => h9) h2 dX10_times_23 ?_
  refine lv_iload_n hx hb dX10_times_26 rfl (lv_at hl 3 rfl) ?_
  refine va_iald hx hb hK hP 2 1 rfl rfl (vp_in_nI (show s9 < 2068 by omega) (by decide)) dX10_times_27 ?_
  refine lv_topi (fun x_6 e_7 => ?_)
  rw [nI_clamp (show s9 < 2 ^ 31 by omega)] at e_7
  obtain rfl : x_6 = nI 0 := e_7.trans (congrArg nI (ha.zero.mpr rfl))
  refine lv_aload_n hx hb dX10_times_28 rfl (lv_at hl 1 rfl) ?_
  refine va_get (D := (dC, dI)) (ci := 13) (v := .ref l1) (C := RX10) (T := TX10) (N := 29) hx hb hts bk0 hown hK hP 0 rfl rfl 2 (by decide) (hts (.fieldLink RX10 14 "GradientDeskModel" "length" "[I") (List.mem_of_getElem? (i := 2) rfl)) (fun _ h9 => h9) h2 dX10_times_29 ?_
  refine lv_iload_n hx hb dX10_times_32 rfl (lv_at hl 4 rfl) ?_
  refine va_iald hx hb hK hP 2 1 rfl rfl (vp_in_nI (show r9 < 2068 by omega) (by decide)) dX10_times_33 ?_
  refine lv_topi (fun x_8 e_9 => ?_)
  rw [nI_clamp (show r9 < 2 ^ 31 by omega)] at e_9
  obtain rfl : x_8 = nI 1 := e_9.trans (congrArg nI hb9.1)
  refine lv_iadd hx hb dX10_times_34 ?_
  refine lv_topi (fun x_10 e_11 => ?_)
  obtain rfl : x_10 = nI 1 := e_11.trans (nI_add 0 1)
  refine lv_istore (lv' := [(5, .int (nI 1)), (4, .int (nI 0)), (0, .ref o), (1, .int (nI t9)), (2, .int (nI s9)), (3, .int (nI r9))]) hx hb dX10_times_35 hl (by decide) rfl (fun ls hl => ?_)
  refine lv_iconst (v := nI 0) hx hb dX10_times_37 (by decide +kernel) ?_
  refine lv_istore (lv' := [(6, .int (nI 0)), (5, .int (nI 1)), (4, .int (nI 0)), (0, .ref o), (1, .int (nI t9)), (2, .int (nI s9)), (3, .int (nI r9))]) hx hb dX10_times_38 hl (by decide) rfl (fun ls hl => ?_)
  refine lv_iload hx hb dX10_times_40 (lv_at hl 0 rfl) ?_
  refine lv_iload hx hb dX10_times_42 (lv_at hl 1 rfl) ?_
  refine lv_icmp_ge (tgt := 64) hx hb dX10_times_44 (by decide) (fun c_12 => absurd c_12 (by decide)) (fun c_12 => ?_)
  refine lv_aload_n hx hb dX10_times_47 rfl (lv_at hl 3 rfl) ?_
  refine va_get (D := (dC, dI)) (ci := 13) (v := .ref p1) (C := RX10) (T := TX10) (N := 29) hx hb hts bk0 hown hK hP 0 rfl rfl 1 (by decide) (hts (.fieldLink RX10 8 "GradientDeskModel" "pieces" "[J") (List.mem_of_getElem? (i := 3) rfl)) (fun _ h9 => h9) h1 dX10_times_48 ?_
  refine lv_ldc (v := 165280) hx hb hown (hts (.constant RX10 91 (165280)) (List.mem_of_getElem? (i := 4) rfl)) dX10_times_51 ?_
  refine lv_iload hx hb dX10_times_53 (lv_at hl 0 rfl) ?_
  refine lv_iadd hx hb dX10_times_55 ?_
  refine lv_topi (fun x_13 e_14 => ?_)
  obtain rfl : x_13 = nI 165280 := e_14.trans (nI_add 165280 0)
  refine lv_lconst (v := lN 0) hx hb dX10_times_56 (by decide +kernel) ?_
  refine va_last hx hb hK hP hD hS 1 0 rfl rfl (vp_in_nI (show 165280 < 165440 by decide) (by decide)) dX10_times_57 (fun H locs hP hD hS => ?_)
  rw [nI_clamp (show 165280 < 2 ^ 31 by decide)] at hP hD
  rw [k_updL] at hP hD
  have hb_15 : ∀ j, (va_up pn 165280 0) j < 4294967296 := k_up_lt hpn (by omega)
  have hP : va_P (dC, dI) vwCl ([(o, .inr (13, fs)), (p1, .inl (cP, 165440, .inr (.inl (fun j => lN ((va_up pn 165280 0) j))))), (l1, .inl (cL, 2068, .inl (fun j => nI (ln j)))), (b1, .inl (cB, 2068, .inl (fun j => nI (bn j))))]) H := hP
  have hD : va_D A ([(o, .inr (13, fs)), (p1, .inl (cP, 165440, .inr (.inl (fun j => lN ((va_up pn 165280 0) j))))), (l1, .inl (cL, 2068, .inl (fun j => nI (ln j)))), (b1, .inl (cB, 2068, .inl (fun j => nI (bn j))))]) := hD
  refine lv_iinc (v := nI 1) (lv' := [(6, .int (nI 1)), (5, .int (nI 1)), (4, .int (nI 0)), (0, .ref o), (1, .int (nI t9)), (2, .int (nI s9)), (3, .int (nI r9))]) hx hb dX10_times_58 hl (k := 0) rfl (nI_add 0 1) (by decide) rfl (fun ls hl => ?_)
  refine lv_goto (tgt := 40) hx hb dX10_times_61 (by decide) ?_
  refine lv_iload hx hb dX10_times_40 (lv_at hl 0 rfl) ?_
  refine lv_iload hx hb dX10_times_42 (lv_at hl 1 rfl) ?_
  refine lv_icmp_ge (tgt := 64) hx hb dX10_times_44 (by decide) (fun c_18 => ?_) (fun c_18 => absurd c_18 (by decide))
  refine lv_iconst (v := nI 0) hx hb dX10_times_64 (by decide +kernel) ?_
  refine lv_istore (lv' := [(6, .int (nI 0)), (5, .int (nI 1)), (4, .int (nI 0)), (0, .ref o), (1, .int (nI t9)), (2, .int (nI s9)), (3, .int (nI r9))]) hx hb dX10_times_65 hl (by decide) rfl (fun ls hl => ?_)
  refine lv_iload hx hb dX10_times_67 (lv_at hl 0 rfl) ?_
  refine lv_aload_n hx hb dX10_times_69 rfl (lv_at hl 3 rfl) ?_
  refine va_get (D := (dC, dI)) (ci := 13) (v := .ref l1) (C := RX10) (T := TX10) (N := 29) hx hb hts bk0 hown hK hP 0 rfl rfl 2 (by decide) (hts (.fieldLink RX10 14 "GradientDeskModel" "length" "[I") (List.mem_of_getElem? (i := 2) rfl)) (fun _ h9 => h9) h2 dX10_times_70 ?_
  refine lv_iload_n hx hb dX10_times_73 rfl (lv_at hl 5 rfl) ?_
  refine va_iald hx hb hK hP 2 1 rfl rfl (vp_in_nI (show s9 < 2068 by omega) (by decide)) dX10_times_74 ?_
  refine lv_topi (fun x_19 e_20 => ?_)
  rw [nI_clamp (show s9 < 2 ^ 31 by omega)] at e_20
  obtain rfl : x_19 = nI 0 := e_20.trans (congrArg nI (ha.zero.mpr rfl))
  refine lv_icmp_ge (tgt := 196) hx hb dX10_times_75 (by decide) (fun c_21 => ?_) (fun c_21 => absurd c_21 (by decide))
  refine lv_aload_n hx hb dX10_times_196 rfl (lv_at hl 3 rfl) ?_
  refine va_get (D := (dC, dI)) (ci := 13) (v := .ref l1) (C := RX10) (T := TX10) (N := 29) hx hb hts bk0 hown hK hP 0 rfl rfl 2 (by decide) (hts (.fieldLink RX10 14 "GradientDeskModel" "length" "[I") (List.mem_of_getElem? (i := 2) rfl)) (fun _ h9 => h9) h2 dX10_times_197 ?_
  refine lv_sipush (v := nI 2066) hx hb dX10_times_200 (by decide +kernel) ?_
  refine lv_iload hx hb dX10_times_203 (lv_at hl 1 rfl) ?_
  refine va_iast hx hb hK hP hD hS 2 1 rfl rfl (vp_in_nI (show 2066 < 2068 by decide) (by decide)) dX10_times_205 (fun H locs hP hD hS => ?_)
  rw [nI_clamp (show 2066 < 2 ^ 31 by decide)] at hP hD
  rw [k_updI] at hP hD
  have hb_22 : ∀ j, (va_up ln 2066 1) j < 81 := k_up_lt hln (by omega)
  have hP : va_P (dC, dI) vwCl ([(o, .inr (13, fs)), (p1, .inl (cP, 165440, .inr (.inl (fun j => lN ((va_up pn 165280 0) j))))), (l1, .inl (cL, 2068, .inl (fun j => nI ((va_up ln 2066 1) j)))), (b1, .inl (cB, 2068, .inl (fun j => nI (bn j))))]) H := hP
  have hD : va_D A ([(o, .inr (13, fs)), (p1, .inl (cP, 165440, .inr (.inl (fun j => lN ((va_up pn 165280 0) j))))), (l1, .inl (cL, 2068, .inl (fun j => nI ((va_up ln 2066 1) j)))), (b1, .inl (cB, 2068, .inl (fun j => nI (bn j))))]) := hD
  refine lv_aload_n hx hb dX10_times_206 rfl (lv_at hl 3 rfl) ?_
  refine va_get (D := (dC, dI)) (ci := 13) (v := .ref b1) (C := RX10) (T := TX10) (N := 29) hx hb hts bk0 hown hK hP 0 rfl rfl 3 (by decide) (hts (.fieldLink RX10 18 "GradientDeskModel" "below" "[Z") (List.mem_of_getElem? (i := 1) rfl)) (fun _ h9 => h9) h3 dX10_times_207 ?_
  refine lv_sipush (v := nI 2066) hx hb dX10_times_210 (by decide +kernel) ?_
  refine lv_iload hx hb dX10_times_213 (lv_at hl 2 rfl) ?_
  refine va_zast hx hb hK hP hD hS 3 2 rfl rfl (vp_in_nI (show 2066 < 2068 by decide) (by decide)) dX10_times_215 (fun H locs hP hD hS => ?_)
  rw [nI_clamp (show 2066 < 2 ^ 31 by decide)] at hP hD
  rw [k_narZ (show 0 ≤ 1 by omega)] at hP hD
  rw [k_updI] at hP hD
  have hb_23 : ∀ j, (va_up bn 2066 0) j < 2 := k_up_lt hbn (by omega)
  have hP : va_P (dC, dI) vwCl ([(o, .inr (13, fs)), (p1, .inl (cP, 165440, .inr (.inl (fun j => lN ((va_up pn 165280 0) j))))), (l1, .inl (cL, 2068, .inl (fun j => nI ((va_up ln 2066 1) j)))), (b1, .inl (cB, 2068, .inl (fun j => nI ((va_up bn 2066 0) j))))]) H := hP
  have hD : va_D A ([(o, .inr (13, fs)), (p1, .inl (cP, 165440, .inr (.inl (fun j => lN ((va_up pn 165280 0) j))))), (l1, .inl (cL, 2068, .inl (fun j => nI ((va_up ln 2066 1) j)))), (b1, .inl (cB, 2068, .inl (fun j => nI ((va_up bn 2066 0) j))))]) := hD
  refine lv_aload_n hx hb dX10_times_216 rfl (lv_at hl 3 rfl) ?_
  refine lv_sipush (v := nI 2066) hx hb dX10_times_217 (by decide +kernel) ?_
  have hPc := hP.sub (ws' := [(o, .inr (13, fs)), (p1, .inl (cP, 165440, .inr (.inl (fun j => lN ((va_up pn 165280 0) j))))), (l1, .inl (cL, 2068, .inl (fun j => nI ((va_up ln 2066 1) j)))), (b1, .inl (cB, 2068, .inl (fun j => nI ((va_up bn 2066 0) j))))]) [0, 1, 2, 3] rfl
  have hDc := hD.sub (ws' := [(o, .inr (13, fs)), (p1, .inl (cP, 165440, .inr (.inl (fun j => lN ((va_up pn 165280 0) j))))), (l1, .inl (cL, 2068, .inl (fun j => nI ((va_up ln 2066 1) j)))), (b1, .inl (cB, 2068, .inl (fun j => nI ((va_up bn 2066 0) j))))]) [0, 1, 2, 3] (by decide) rfl
  have hKc := hK.sub (tys' := [(cP, .long), (cL, .int), (cB, .boolean)]) [0, 1, 2] rfl
  have hFc := va_free (wc := [(o, .inr (13, fs)), (p1, .inl (cP, 165440, .inr (.inl (fun j => lN ((va_up pn 165280 0) j))))), (l1, .inl (cL, 2068, .inl (fun j => nI ((va_up ln 2066 1) j)))), (b1, .inl (cB, 2068, .inl (fun j => nI ((va_up bn 2066 0) j))))]) hD hS hA [0, 1, 2, 3] rfl
  refine va_callv (va_runV (As := [.int (nI 2066)]) (rest := []) ⟨hx, hb, hml, hown, hts⟩ (c_X10_trim l dC dI (va_A [(o, .inr (13, fs)), (p1, .inl (cP, 165440, .inr (.inl (fun j => lN ((va_up pn 165280 0) j))))), (l1, .inl (cL, 2068, .inl (fun j => nI ((va_up ln 2066 1) j)))), (b1, .inl (cB, 2068, .inl (fun j => nI ((va_up bn 2066 0) j))))] H.size) H.size (fun _ h => Or.inr h) o fs p1 l1 b1 cP cL cB (va_up pn 165280 0) (va_up ln 2066 1) (va_up bn 2066 0) 2066 h1 h2 h3 hb_15 hb_22 hb_23 (by decide)) (cwV 1 hts (goodIn_app (goodIn_r [Cond.methodLink RX10 83 yX10_trim, Cond.instanceMethod yX10_trim, Cond.selects RX10 yX10_trim yX10_trim, Cond.initialized RX10] [5, 6, 7, 8] rfl rfl) (goodIn_sub (fun w9 h9 => bk1 w9 h9) gw_X10_trim)) rfl rfl rfl (by decide +kernel) ⟨Nat.le_of_ble_eq_true rfl, Nat.le_of_ble_eq_true rfl⟩) ⟨fun a U g mk q => by obtain ⟨q0, q1, qP, qK, qD⟩ := q; exact ⟨q0, q1, qP, va_K.moved (u := U) (U := U.calling g mk a) (Vm.Alike.refl U.vm) qK, qD⟩, va_recv hKc hPc (ci := 13) (q0 := 0) rfl rfl, fun U hU hW => ⟨rfl, by rw [hU], by rw [hU]; exact hPc, va_K.moved hW.alike hKc, hDc.self⟩⟩ rfl rfl hl.1 rfl (lv_room (Nat.le_of_ble_eq_true rfl)) dX10_times_220 ⟨(Nat.le_of_ble_eq_true rfl), (Nat.le_of_ble_eq_true rfl)⟩) hS (fun q _ h => hFc q h) hFc (fun u t H1 locs ht hvm hw_24 hB hz1 hk1 hS => ?_)
  obtain ⟨pn2_25, ln2_26, bn2_27⟩ := u
  obtain ⟨hP1, hK1, hD1⟩ := hB
  rw [ht] at hP1
  have hK1 := va_K.moved hvm.symm hK1
  try dsimp only at hw_24
  obtain ⟨hP, hD⟩ := va_join (wr := []) (w1 := [(o, .inr (13, fs)), (p1, .inl (cP, 165440, .inr (.inl (fun j => lN (pn2_25 j))))), (l1, .inl (cL, 2068, .inl (fun j => nI (ln2_26 j)))), (b1, .inl (cB, 2068, .inl (fun j => nI (bn2_27 j))))]) hP hD [0, 1, 2, 3] [] rfl rfl (by decide) (by decide) hk1 hFc hP1 hD1
  have hK := (hK.sub (tys' := []) [] rfl).app hK1
  generalize H1 = H at hP hS ⊢
  have hP : va_P (dC, dI) vwCl ([(o, .inr (13, fs)), (p1, .inl (cP, 165440, .inr (.inl (fun j => lN (pn2_25 j))))), (l1, .inl (cL, 2068, .inl (fun j => nI (ln2_26 j)))), (b1, .inl (cB, 2068, .inl (fun j => nI (bn2_27 j))))]) H := hP
  have hD : va_D A ([(o, .inr (13, fs)), (p1, .inl (cP, 165440, .inr (.inl (fun j => lN (pn2_25 j))))), (l1, .inl (cL, 2068, .inl (fun j => nI (ln2_26 j)))), (b1, .inl (cB, 2068, .inl (fun j => nI (bn2_27 j))))]) := hD
  have hK : va_K (dC, dI) vwCl [(cP, .long), (cL, .int), (cB, .boolean)] s := hK
  obtain ⟨hb_28, hb_29, hb_30, hpq, m9, hm, hz, ht9, rfl, rfl⟩ := hw_24
  obtain rfl := hpq.symm
  have hl9 : (va_up ln 2066 1) 2066 = 1 := va_up_self _ _ _
  have hx9 : (va_up pn 165280 0) (80 * 2066) = 0 := (by simp [va_up])
  have hT : On1 (va_up pn 165280 0) (va_up (va_up ln 2066 1) 2066 m9) 2066 0 := k_On1_eq (k_ltrim (Or.inl (by omega)) hm hz ht9) (by rw [hl9, if_neg (show ¬ 1 = 0 by decide), hx9])
  have f9 : Fr9 [2066] pn ln (va_up pn 165280 0) (va_up (va_up ln 2066 1) 2066 m9) := (by intro j hj; simp only [List.mem_cons, List.not_mem_nil, or_false, not_or] at hj; constructor <;> first | rfl | (simp only [va_up]; (repeat' split) <;> first | rfl | omega))
  have zb9 : ∀ j, (va_up (va_up bn 2066 0) 2066 (if m9 = 0 then 0 else (va_up bn 2066 0) 2066)) j = 0 := by intro j; simp only [va_up]; (repeat' split) <;> first | rfl | exact hB _ | omega
  refine lv_aload_n hx hb dX10_times_223 rfl (lv_at hl 3 rfl) ?_
  refine lv_iload_n hx hb dX10_times_224 rfl (lv_at hl 4 rfl) ?_
  refine lv_sipush (v := nI 2066) hx hb dX10_times_225 (by decide +kernel) ?_
  have hPc := hP.sub (ws' := [(o, .inr (13, fs)), (p1, .inl (cP, 165440, .inr (.inl (fun j => lN ((va_up pn 165280 0) j))))), (l1, .inl (cL, 2068, .inl (fun j => nI ((va_up (va_up ln 2066 1) 2066 m9) j)))), (b1, .inl (cB, 2068, .inl (fun j => nI ((va_up (va_up bn 2066 0) 2066 (if m9 = 0 then 0 else (va_up bn 2066 0) 2066)) j))))]) [0, 1, 2, 3] rfl
  have hDc := hD.sub (ws' := [(o, .inr (13, fs)), (p1, .inl (cP, 165440, .inr (.inl (fun j => lN ((va_up pn 165280 0) j))))), (l1, .inl (cL, 2068, .inl (fun j => nI ((va_up (va_up ln 2066 1) 2066 m9) j)))), (b1, .inl (cB, 2068, .inl (fun j => nI ((va_up (va_up bn 2066 0) 2066 (if m9 = 0 then 0 else (va_up bn 2066 0) 2066)) j))))]) [0, 1, 2, 3] (by decide) rfl
  have hKc := hK.sub (tys' := [(cP, .long), (cL, .int), (cB, .boolean)]) [0, 1, 2] rfl
  have hFc := va_free (wc := [(o, .inr (13, fs)), (p1, .inl (cP, 165440, .inr (.inl (fun j => lN ((va_up pn 165280 0) j))))), (l1, .inl (cL, 2068, .inl (fun j => nI ((va_up (va_up ln 2066 1) 2066 m9) j)))), (b1, .inl (cB, 2068, .inl (fun j => nI ((va_up (va_up bn 2066 0) 2066 (if m9 = 0 then 0 else (va_up bn 2066 0) 2066)) j))))]) hD hS hA [0, 1, 2, 3] rfl
  refine va_callv (va_runV (As := [.int (nI t9), .int (nI 2066)]) (rest := []) ⟨hx, hb, hml, hown, hts⟩ (c_X10_copy l dC dI (va_A [(o, .inr (13, fs)), (p1, .inl (cP, 165440, .inr (.inl (fun j => lN ((va_up pn 165280 0) j))))), (l1, .inl (cL, 2068, .inl (fun j => nI ((va_up (va_up ln 2066 1) 2066 m9) j)))), (b1, .inl (cB, 2068, .inl (fun j => nI ((va_up (va_up bn 2066 0) 2066 (if m9 = 0 then 0 else (va_up bn 2066 0) 2066)) j))))] H.size) H.size (fun _ h => Or.inr h) o fs p1 l1 b1 cP cL cB (va_up pn 165280 0) (va_up (va_up ln 2066 1) 2066 m9) (va_up (va_up bn 2066 0) 2066 (if m9 = 0 then 0 else (va_up bn 2066 0) 2066)) t9 2066 0 h1 h2 h3 hb_28 hb_29 hb_30 (by omega) (by decide) hT) (cwV 2 hts (goodIn_app (goodIn_r [Cond.methodLink RX10 92 yX10_copy, Cond.instanceMethod yX10_copy, Cond.selects RX10 yX10_copy yX10_copy, Cond.initialized RX10] [9, 10, 11, 8] rfl rfl) (goodIn_sub (fun w9 h9 => bk2 w9 h9) gw_X10_copy)) rfl rfl rfl (by decide +kernel) ⟨Nat.le_of_ble_eq_true rfl, Nat.le_of_ble_eq_true rfl⟩) ⟨fun a U g mk q => by obtain ⟨q0, q1, qP, qK, qD⟩ := q; exact ⟨q0, q1, qP, va_K.moved (u := U) (U := U.calling g mk a) (Vm.Alike.refl U.vm) qK, qD⟩, va_recv hKc hPc (ci := 13) (q0 := 0) rfl rfl, fun U hU hW => ⟨rfl, by rw [hU], by rw [hU]; exact hPc, va_K.moved hW.alike hKc, hDc.self⟩⟩ rfl rfl hl.1 rfl (lv_room (Nat.le_of_ble_eq_true rfl)) dX10_times_228 ⟨(Nat.le_of_ble_eq_true rfl), (Nat.le_of_ble_eq_true rfl)⟩) hS (fun q _ h => hFc q h) hFc (fun u t H1 locs ht hvm hw_32 hB hz1 hk1 hS => ?_)
  obtain ⟨pn2_33, ln2_34, bn2_35⟩ := u
  obtain ⟨hP1, hK1, hD1⟩ := hB
  rw [ht] at hP1
  have hK1 := va_K.moved hvm.symm hK1
  try dsimp only at hw_32
  obtain ⟨hP, hD⟩ := va_join (wr := []) (w1 := [(o, .inr (13, fs)), (p1, .inl (cP, 165440, .inr (.inl (fun j => lN (pn2_33 j))))), (l1, .inl (cL, 2068, .inl (fun j => nI (ln2_34 j)))), (b1, .inl (cB, 2068, .inl (fun j => nI (bn2_35 j))))]) hP hD [0, 1, 2, 3] [] rfl rfl (by decide) (by decide) hk1 hFc hP1 hD1
  have hK := (hK.sub (tys' := []) [] rfl).app hK1
  generalize H1 = H at hP hS ⊢
  have hP : va_P (dC, dI) vwCl ([(o, .inr (13, fs)), (p1, .inl (cP, 165440, .inr (.inl (fun j => lN (pn2_33 j))))), (l1, .inl (cL, 2068, .inl (fun j => nI (ln2_34 j)))), (b1, .inl (cB, 2068, .inl (fun j => nI (bn2_35 j))))]) H := hP
  have hD : va_D A ([(o, .inr (13, fs)), (p1, .inl (cP, 165440, .inr (.inl (fun j => lN (pn2_33 j))))), (l1, .inl (cL, 2068, .inl (fun j => nI (ln2_34 j)))), (b1, .inl (cB, 2068, .inl (fun j => nI (bn2_35 j))))]) := hD
  have hK : va_K (dC, dI) vwCl [(cP, .long), (cL, .int), (cB, .boolean)] s := hK
  obtain ⟨hb_36, hb_37, hb_38, rel_39⟩ := hw_32
  have rel9 := rel_39
  have st9 := f9.tr (S := [t9, 2066]) rel9.1 (fun j h => by simp at h ⊢; omega) (fun j h => by simp at h ⊢; omega)
  have hP9 := hP.sub (ws' := [(o, .inr (13, fs)), (p1, .inl (cP, 165440, .inr (.inl (fun j => lN (pn2_33 j))))), (l1, .inl (cL, 2068, .inl (fun j => nI (ln2_34 j)))), (b1, .inl (cB, 2068, .inl (fun j => nI (bn2_35 j))))]) [0, 1, 2, 3] rfl
  have hD9 := hD.sub (ws' := [(o, .inr (13, fs)), (p1, .inl (cP, 165440, .inr (.inl (fun j => lN (pn2_33 j))))), (l1, .inl (cL, 2068, .inl (fun j => nI (ln2_34 j)))), (b1, .inl (cB, 2068, .inl (fun j => nI (bn2_35 j))))]) [0, 1, 2, 3] (by decide) rfl
  have hK9 := hK.sub (tys' := [(cP, .long), (cL, .int), (cB, .boolean)]) [0, 1, 2] rfl
  refine W.widen (k := 0) (n := 0) (by omega) (by omega) ?_
  exact W.vret hx hb hr (fun t ht hW => ⟨⟨(pn2_33, ln2_34, bn2_35), rfl, ⟨hb_36, hb_37, hb_38, st9, rel9.2.1, rel9.2.2 zb9⟩, by rw [ht]; exact hP9, va_K.moved hW.alike hK9, hD9⟩, hS.F ht⟩) hS.2.2 dX10_times_231
def wd_X10_times11 : List Cond := .code yX10_times cX10_times 12 none :: (([.fieldLink RX10 18 "GradientDeskModel" "below" "[Z", .fieldLink RX10 14 "GradientDeskModel" "length" "[I", .fieldLink RX10 8 "GradientDeskModel" "pieces" "[J", .constant RX10 91 (165280), .constantLong RX10 81 (4294967295), .methodLink RX10 83 yX10_trim, .instanceMethod yX10_trim, .selects RX10 yX10_trim yX10_trim, .initialized RX10, .methodLink RX10 92 yX10_copy, .instanceMethod yX10_copy, .selects RX10 yX10_copy yX10_copy] : List Cond) ++ (u_ws RX10 TX10 29 ++ (wd_X10_trim ++ (wd_X10_copy ++ ([])))))
theorem gw_X10_times11 : wd_X10_times11.all goodWord = true := k_allc rfl (k_all (by decide +kernel) (k_all (gu_X10) (k_all (gw_X10_trim) (k_all (gw_X10_copy) (rfl)))))
abbrev at_X10_times11 (dC : Nat → ClassId) (dI : Nat → Nat → Nat) (A : Nat → Prop) (o : Nat) (fs : List Value) (p1 : Nat) (l1 : Nat) (b1 : Nat) (cP : ClassId) (cL : ClassId) (cB : ClassId) (pn : Nat → Nat) (ln : Nat → Nat) (bn : Nat → Nat) (t9 : Nat) (s9 : Nat) (r9 : Nat) (u : (Nat → Nat) × (Nat → Nat) × (Nat → Nat)) (t : State) : Prop := match u with
  | (pn2, ln2, bn2) => va_P (dC, dI) vwCl [(o, .inr (13, fs)), (p1, .inl (cP, 165440, .inr (.inl (fun j => lN (pn2 j))))), (l1, .inl (cL, 2068, .inl (fun j => nI (ln2 j)))), (b1, .inl (cB, 2068, .inl (fun j => nI (bn2 j))))] t.heap ∧ va_K (dC, dI) vwCl [(cP, .long), (cL, .int), (cB, .boolean)] t ∧ va_D A [(o, .inr (13, fs)), (p1, .inl (cP, 165440, .inr (.inl (fun j => lN (pn2 j))))), (l1, .inl (cL, 2068, .inl (fun j => nI (ln2 j)))), (b1, .inl (cB, 2068, .inl (fun j => nI (bn2 j))))]
set_option maxHeartbeats 4000000 in
set_option maxRecDepth 100000 in
theorem c_X10_times11 (l : Launch) (dC : Nat → ClassId) (dI : Nat → Nat → Nat) (A : Nat → Prop) (sz : Nat) (hA0 : ∀ q, sz ≤ q → A q) (o : Nat) (fs : List Value) (p1 : Nat) (l1 : Nat) (b1 : Nat) (cP : ClassId) (cL : ClassId) (cB : ClassId) (pn : Nat → Nat) (ln : Nat → Nat) (bn : Nat → Nat) (t9 : Nat) (s9 : Nat) (r9 : Nat) (h1 : fs[1]? = some (.ref p1)) (h2 : fs[2]? = some (.ref l1)) (h3 : fs[3]? = some (.ref b1)) (hpn : ∀ j, pn j < 4294967296) (hln : ∀ j, ln j < 81) (hbn : ∀ j, bn j < 2) (htq : t9 < 2066) (hs : s9 < 2066) (hr9 : r9 < 2066) (ha : On1 pn ln s9 1) (hb9 : On1 pn ln r9 1) (hB : ∀ j, bn j = 0) : Met l yX10_times wd_X10_times11 ({ frames := 30, cells := 0, slots := 0, locals := 600 }) (va_Pc [.ref o, .int (nI t9), .int (nI s9), .int (nI r9)] (fun U => U.heap.size = sz ∧ va_P (dC, dI) vwCl [(o, .inr (13, fs)), (p1, .inl (cP, 165440, .inr (.inl (fun j => lN (pn j))))), (l1, .inl (cL, 2068, .inl (fun j => nI (ln j)))), (b1, .inl (cB, 2068, .inl (fun j => nI (bn j))))] U.heap ∧ va_K (dC, dI) vwCl [(cP, .long), (cL, .int), (cB, .boolean)] U ∧ va_D A [(o, .inr (13, fs)), (p1, .inl (cP, 165440, .inr (.inl (fun j => lN (pn j))))), (l1, .inl (cL, 2068, .inl (fun j => nI (ln j)))), (b1, .inl (cB, 2068, .inl (fun j => nI (bn j))))])) (va_Qv (fun (u : (Nat → Nat) × (Nat → Nat) × (Nat → Nat)) => match u with | (pn2, ln2, bn2) => (∀ j, pn2 j < 4294967296) ∧ (∀ j, ln2 j < 81) ∧ (∀ j, bn2 j < 2) ∧ (Fr9 [t9, 2066] pn ln pn2 ln2 ∧ On1 pn2 ln2 t9 1 ∧ (∀ j, bn2 j = 0))) (at_X10_times11 dC dI A o fs p1 l1 b1 cP cL cB pn ln bn t9 s9 r9) A) (0) (0) A := by
  refine Met.ofW (cc := cX10_times) (maxL := 12) (ret := none) (by decide) rfl ?_
  intro p e s m args below meth c s₁ B hml hv
  obtain ⟨rfl, hsz, hP, hK, hD⟩ := hv
  have hx := B.exec
  have hb := B.bytes
  have hr := B.returns
  have hts := atoms_spec (ws := wd_X10_times11) B.pre
  have hown : s.vm.findClass RX10 = some m.cls := findClass_of_methodNamed B.named
  have hlocks := B.notSynchronized
  have bk0 : ∀ w ∈ u_ws RX10 TX10 29, w ∈ wd_X10_times11 := fun _ h => List.mem_cons_of_mem _ (List.mem_append_right _ (List.mem_append_left _ h))
  have bk1 : ∀ w ∈ wd_X10_trim, w ∈ wd_X10_times11 := fun _ h => List.mem_cons_of_mem _ (List.mem_append_right _ (List.mem_append_right _ (List.mem_append_left _ h)))
  have bk2 : ∀ w ∈ wd_X10_copy, w ∈ wd_X10_times11 := fun _ h => List.mem_cons_of_mem _ (List.mem_append_right _ (List.mem_append_right _ (List.mem_append_right _ (List.mem_append_left _ h))))
  subst hsz
  have hA : ∀ q : Nat, s.heap.size ≤ q → A q := hA0
  have hS : va_S A s.heap s.heap [] := va_S.rf
  have hl := lv_entry ([.ref o, .int (nI t9), .int (nI s9), .int (nI r9)]) (n := 12) (Nat.le_of_ble_eq_true rfl)
  rw [lg_entry_eq]
  generalize (lg_sl ([.ref o, .int (nI t9), .int (nI s9), .int (nI r9)]) ++ List.replicate (12 - (lg_sl ([.ref o, .int (nI t9), .int (nI s9), .int (nI r9)])).length) Slot.unset).toArray = ls at hl ⊢
  have hl : lv_has ls 12 [(0, .ref o), (1, .int (nI t9)), (2, .int (nI s9)), (3, .int (nI r9))] := hl
  refine lv_aload_n hx hb dX10_times_0 rfl (lv_at hl 0 rfl) ?_
  refine va_get (D := (dC, dI)) (ci := 13) (v := .ref b1) (C := RX10) (T := TX10) (N := 29) hx hb hts bk0 hown hK hP 0 rfl rfl 3 (by decide) (hts (.fieldLink RX10 18 "GradientDeskModel" "below" "[Z") (List.mem_of_getElem? (i := 1) rfl)) (fun _ h9 => h9) h3 dX10_times_1 ?_
  refine lv_iload_n hx hb dX10_times_4 rfl (lv_at hl 2 rfl) ?_
  refine va_zald hx hb hK hP 3 2 rfl rfl (vp_in_nI (show s9 < 2068 by omega) (by decide)) dX10_times_5 ?_
  refine lv_topi (fun x_1 e_2 => ?_)
  rw [nI_clamp (show s9 < 2 ^ 31 by omega)] at e_2
  obtain rfl : x_1 = nI 0 := e_2.trans (congrArg nI (hB _))
  refine lv_aload_n hx hb dX10_times_6 rfl (lv_at hl 0 rfl) ?_
  refine va_get (D := (dC, dI)) (ci := 13) (v := .ref b1) (C := RX10) (T := TX10) (N := 29) hx hb hts bk0 hown hK hP 0 rfl rfl 3 (by decide) (hts (.fieldLink RX10 18 "GradientDeskModel" "below" "[Z") (List.mem_of_getElem? (i := 1) rfl)) (fun _ h9 => h9) h3 dX10_times_7 ?_
  refine lv_iload_n hx hb dX10_times_10 rfl (lv_at hl 3 rfl) ?_
  refine va_zald hx hb hK hP 3 2 rfl rfl (vp_in_nI (show r9 < 2068 by omega) (by decide)) dX10_times_11 ?_
  refine lv_topi (fun x_3 e_4 => ?_)
  rw [nI_clamp (show r9 < 2 ^ 31 by omega)] at e_4
  obtain rfl : x_3 = nI 0 := e_4.trans (congrArg nI (hB _))
  refine lv_icmp_eq (tgt := 19) hx hb dX10_times_12 (by decide) (fun c_5 => ?_) (fun c_5 => absurd c_5 (by decide))
  refine lv_iconst (v := nI 0) hx hb dX10_times_19 (by decide +kernel) ?_
  refine lv_istore (lv' := [(4, .int (nI 0)), (0, .ref o), (1, .int (nI t9)), (2, .int (nI s9)), (3, .int (nI r9))]) hx hb dX10_times_20 hl (by decide) rfl (fun ls hl => ?_)
  refine lv_aload_n hx hb dX10_times_22 rfl (lv_at hl 1 rfl) ?_
  refine va_get (D := (dC, dI)) (ci := 13) (v := .ref l1) (C := RX10) (T := TX10) (N := 29) hx hb hts bk0 hown hK hP 0 rfl rfl 2 (by decide) (hts (.fieldLink RX10 14 "GradientDeskModel" "length" "[I") (List.mem_of_getElem? (i := 2) rfl)) (fun _ h9 => h9) h2 dX10_times_23 ?_
  refine lv_iload_n hx hb dX10_times_26 rfl (lv_at hl 3 rfl) ?_
  refine va_iald hx hb hK hP 2 1 rfl rfl (vp_in_nI (show s9 < 2068 by omega) (by decide)) dX10_times_27 ?_
  refine lv_topi (fun x_6 e_7 => ?_)
  rw [nI_clamp (show s9 < 2 ^ 31 by omega)] at e_7
  obtain rfl : x_6 = nI 1 := e_7.trans (congrArg nI ha.1)
  refine lv_aload_n hx hb dX10_times_28 rfl (lv_at hl 1 rfl) ?_
  refine va_get (D := (dC, dI)) (ci := 13) (v := .ref l1) (C := RX10) (T := TX10) (N := 29) hx hb hts bk0 hown hK hP 0 rfl rfl 2 (by decide) (hts (.fieldLink RX10 14 "GradientDeskModel" "length" "[I") (List.mem_of_getElem? (i := 2) rfl)) (fun _ h9 => h9) h2 dX10_times_29 ?_
  refine lv_iload_n hx hb dX10_times_32 rfl (lv_at hl 4 rfl) ?_
  refine va_iald hx hb hK hP 2 1 rfl rfl (vp_in_nI (show r9 < 2068 by omega) (by decide)) dX10_times_33 ?_
  refine lv_topi (fun x_8 e_9 => ?_)
  rw [nI_clamp (show r9 < 2 ^ 31 by omega)] at e_9
  obtain rfl : x_8 = nI 1 := e_9.trans (congrArg nI hb9.1)
  refine lv_iadd hx hb dX10_times_34 ?_
  refine lv_topi (fun x_10 e_11 => ?_)
  obtain rfl : x_10 = nI 2 := e_11.trans (nI_add 1 1)
  refine lv_istore (lv' := [(5, .int (nI 2)), (4, .int (nI 0)), (0, .ref o), (1, .int (nI t9)), (2, .int (nI s9)), (3, .int (nI r9))]) hx hb dX10_times_35 hl (by decide) rfl (fun ls hl => ?_)
  refine lv_iconst (v := nI 0) hx hb dX10_times_37 (by decide +kernel) ?_
  refine lv_istore (lv' := [(6, .int (nI 0)), (5, .int (nI 2)), (4, .int (nI 0)), (0, .ref o), (1, .int (nI t9)), (2, .int (nI s9)), (3, .int (nI r9))]) hx hb dX10_times_38 hl (by decide) rfl (fun ls hl => ?_)
  refine lv_iload hx hb dX10_times_40 (lv_at hl 0 rfl) ?_
  refine lv_iload hx hb dX10_times_42 (lv_at hl 1 rfl) ?_
  refine lv_icmp_ge (tgt := 64) hx hb dX10_times_44 (by decide) (fun c_12 => absurd c_12 (by decide)) (fun c_12 => ?_)
  refine lv_aload_n hx hb dX10_times_47 rfl (lv_at hl 3 rfl) ?_
  refine va_get (D := (dC, dI)) (ci := 13) (v := .ref p1) (C := RX10) (T := TX10) (N := 29) hx hb hts bk0 hown hK hP 0 rfl rfl 1 (by decide) (hts (.fieldLink RX10 8 "GradientDeskModel" "pieces" "[J") (List.mem_of_getElem? (i := 3) rfl)) (fun _ h9 => h9) h1 dX10_times_48 ?_
  refine lv_ldc (v := 165280) hx hb hown (hts (.constant RX10 91 (165280)) (List.mem_of_getElem? (i := 4) rfl)) dX10_times_51 ?_
  refine lv_iload hx hb dX10_times_53 (lv_at hl 0 rfl) ?_
  refine lv_iadd hx hb dX10_times_55 ?_
  refine lv_topi (fun x_13 e_14 => ?_)
  obtain rfl : x_13 = nI 165280 := e_14.trans (nI_add 165280 0)
  refine lv_lconst (v := lN 0) hx hb dX10_times_56 (by decide +kernel) ?_
  refine va_last hx hb hK hP hD hS 1 0 rfl rfl (vp_in_nI (show 165280 < 165440 by decide) (by decide)) dX10_times_57 (fun H locs hP hD hS => ?_)
  rw [nI_clamp (show 165280 < 2 ^ 31 by decide)] at hP hD
  rw [k_updL] at hP hD
  have hb_15 : ∀ j, (va_up pn 165280 0) j < 4294967296 := k_up_lt hpn (by omega)
  have hP : va_P (dC, dI) vwCl ([(o, .inr (13, fs)), (p1, .inl (cP, 165440, .inr (.inl (fun j => lN ((va_up pn 165280 0) j))))), (l1, .inl (cL, 2068, .inl (fun j => nI (ln j)))), (b1, .inl (cB, 2068, .inl (fun j => nI (bn j))))]) H := hP
  have hD : va_D A ([(o, .inr (13, fs)), (p1, .inl (cP, 165440, .inr (.inl (fun j => lN ((va_up pn 165280 0) j))))), (l1, .inl (cL, 2068, .inl (fun j => nI (ln j)))), (b1, .inl (cB, 2068, .inl (fun j => nI (bn j))))]) := hD
  refine lv_iinc (v := nI 1) (lv' := [(6, .int (nI 1)), (5, .int (nI 2)), (4, .int (nI 0)), (0, .ref o), (1, .int (nI t9)), (2, .int (nI s9)), (3, .int (nI r9))]) hx hb dX10_times_58 hl (k := 0) rfl (nI_add 0 1) (by decide) rfl (fun ls hl => ?_)
  refine lv_goto (tgt := 40) hx hb dX10_times_61 (by decide) ?_
  refine lv_iload hx hb dX10_times_40 (lv_at hl 0 rfl) ?_
  refine lv_iload hx hb dX10_times_42 (lv_at hl 1 rfl) ?_
  refine lv_icmp_ge (tgt := 64) hx hb dX10_times_44 (by decide) (fun c_18 => absurd c_18 (by decide)) (fun c_18 => ?_)
  refine lv_aload_n hx hb dX10_times_47 rfl (lv_at hl 3 rfl) ?_
  refine va_get (D := (dC, dI)) (ci := 13) (v := .ref p1) (C := RX10) (T := TX10) (N := 29) hx hb hts bk0 hown hK hP 0 rfl rfl 1 (by decide) (hts (.fieldLink RX10 8 "GradientDeskModel" "pieces" "[J") (List.mem_of_getElem? (i := 3) rfl)) (fun _ h9 => h9) h1 dX10_times_48 ?_
  refine lv_ldc (v := 165280) hx hb hown (hts (.constant RX10 91 (165280)) (List.mem_of_getElem? (i := 4) rfl)) dX10_times_51 ?_
  refine lv_iload hx hb dX10_times_53 (lv_at hl 0 rfl) ?_
  refine lv_iadd hx hb dX10_times_55 ?_
  refine lv_topi (fun x_19 e_20 => ?_)
  obtain rfl : x_19 = nI 165281 := e_20.trans (nI_add 165280 1)
  refine lv_lconst (v := lN 0) hx hb dX10_times_56 (by decide +kernel) ?_
  refine va_last hx hb hK hP hD hS 1 0 rfl rfl (vp_in_nI (show 165281 < 165440 by decide) (by decide)) dX10_times_57 (fun H locs hP hD hS => ?_)
  rw [nI_clamp (show 165281 < 2 ^ 31 by decide)] at hP hD
  rw [k_updL] at hP hD
  have hb_21 : ∀ j, (va_up (va_up pn 165280 0) 165281 0) j < 4294967296 := k_up_lt hb_15 (by omega)
  have hP : va_P (dC, dI) vwCl ([(o, .inr (13, fs)), (p1, .inl (cP, 165440, .inr (.inl (fun j => lN ((va_up (va_up pn 165280 0) 165281 0) j))))), (l1, .inl (cL, 2068, .inl (fun j => nI (ln j)))), (b1, .inl (cB, 2068, .inl (fun j => nI (bn j))))]) H := hP
  have hD : va_D A ([(o, .inr (13, fs)), (p1, .inl (cP, 165440, .inr (.inl (fun j => lN ((va_up (va_up pn 165280 0) 165281 0) j))))), (l1, .inl (cL, 2068, .inl (fun j => nI (ln j)))), (b1, .inl (cB, 2068, .inl (fun j => nI (bn j))))]) := hD
  refine lv_iinc (v := nI 2) (lv' := [(6, .int (nI 2)), (5, .int (nI 2)), (4, .int (nI 0)), (0, .ref o), (1, .int (nI t9)), (2, .int (nI s9)), (3, .int (nI r9))]) hx hb dX10_times_58 hl (k := 0) rfl (nI_add 1 1) (by decide) rfl (fun ls hl => ?_)
  refine lv_goto (tgt := 40) hx hb dX10_times_61 (by decide) ?_
  refine lv_iload hx hb dX10_times_40 (lv_at hl 0 rfl) ?_
  refine lv_iload hx hb dX10_times_42 (lv_at hl 1 rfl) ?_
  refine lv_icmp_ge (tgt := 64) hx hb dX10_times_44 (by decide) (fun c_24 => ?_) (fun c_24 => absurd c_24 (by decide))
  refine lv_iconst (v := nI 0) hx hb dX10_times_64 (by decide +kernel) ?_
  refine lv_istore (lv' := [(6, .int (nI 0)), (5, .int (nI 2)), (4, .int (nI 0)), (0, .ref o), (1, .int (nI t9)), (2, .int (nI s9)), (3, .int (nI r9))]) hx hb dX10_times_65 hl (by decide) rfl (fun ls hl => ?_)
  refine lv_iload hx hb dX10_times_67 (lv_at hl 0 rfl) ?_
  refine lv_aload_n hx hb dX10_times_69 rfl (lv_at hl 3 rfl) ?_
  refine va_get (D := (dC, dI)) (ci := 13) (v := .ref l1) (C := RX10) (T := TX10) (N := 29) hx hb hts bk0 hown hK hP 0 rfl rfl 2 (by decide) (hts (.fieldLink RX10 14 "GradientDeskModel" "length" "[I") (List.mem_of_getElem? (i := 2) rfl)) (fun _ h9 => h9) h2 dX10_times_70 ?_
  refine lv_iload_n hx hb dX10_times_73 rfl (lv_at hl 5 rfl) ?_
  refine va_iald hx hb hK hP 2 1 rfl rfl (vp_in_nI (show s9 < 2068 by omega) (by decide)) dX10_times_74 ?_
  refine lv_topi (fun x_25 e_26 => ?_)
  rw [nI_clamp (show s9 < 2 ^ 31 by omega)] at e_26
  obtain rfl : x_25 = nI 1 := e_26.trans (congrArg nI ha.1)
  refine lv_icmp_ge (tgt := 196) hx hb dX10_times_75 (by decide) (fun c_27 => absurd c_27 (by decide)) (fun c_27 => ?_)
  refine lv_lconst (v := lN 0) hx hb dX10_times_78 (by decide +kernel) ?_
  refine lv_lstore (lv' := [(7, .long (lN 0)), (6, .int (nI 0)), (5, .int (nI 2)), (4, .int (nI 0)), (0, .ref o), (1, .int (nI t9)), (2, .int (nI s9)), (3, .int (nI r9))]) hx hb dX10_times_79 hl (by decide) rfl (fun ls hl => ?_)
  refine lv_iconst (v := nI 0) hx hb dX10_times_81 (by decide +kernel) ?_
  refine lv_istore (lv' := [(9, .int (nI 0)), (7, .long (lN 0)), (6, .int (nI 0)), (5, .int (nI 2)), (4, .int (nI 0)), (0, .ref o), (1, .int (nI t9)), (2, .int (nI s9)), (3, .int (nI r9))]) hx hb dX10_times_82 hl (by decide) rfl (fun ls hl => ?_)
  refine lv_iload hx hb dX10_times_84 (lv_at hl 0 rfl) ?_
  refine lv_aload_n hx hb dX10_times_86 rfl (lv_at hl 5 rfl) ?_
  refine va_get (D := (dC, dI)) (ci := 13) (v := .ref l1) (C := RX10) (T := TX10) (N := 29) hx hb hts bk0 hown hK hP 0 rfl rfl 2 (by decide) (hts (.fieldLink RX10 14 "GradientDeskModel" "length" "[I") (List.mem_of_getElem? (i := 2) rfl)) (fun _ h9 => h9) h2 dX10_times_87 ?_
  refine lv_iload_n hx hb dX10_times_90 rfl (lv_at hl 8 rfl) ?_
  refine va_iald hx hb hK hP 2 1 rfl rfl (vp_in_nI (show r9 < 2068 by omega) (by decide)) dX10_times_91 ?_
  refine lv_topi (fun x_28 e_29 => ?_)
  rw [nI_clamp (show r9 < 2 ^ 31 by omega)] at e_29
  obtain rfl : x_28 = nI 1 := e_29.trans (congrArg nI hb9.1)
  refine lv_icmp_ge (tgt := 171) hx hb dX10_times_92 (by decide) (fun c_30 => absurd c_30 (by decide)) (fun c_30 => ?_)
  refine lv_aload_n hx hb dX10_times_95 rfl (lv_at hl 5 rfl) ?_
  refine va_get (D := (dC, dI)) (ci := 13) (v := .ref p1) (C := RX10) (T := TX10) (N := 29) hx hb hts bk0 hown hK hP 0 rfl rfl 1 (by decide) (hts (.fieldLink RX10 8 "GradientDeskModel" "pieces" "[J") (List.mem_of_getElem? (i := 3) rfl)) (fun _ h9 => h9) h1 dX10_times_96 ?_
  refine lv_bipush (v := nI 80) hx hb dX10_times_99 (by decide +kernel) ?_
  refine lv_iload_n hx hb dX10_times_101 rfl (lv_at hl 7 rfl) ?_
  refine lv_imul hx hb dX10_times_102 ?_
  refine lv_topi (fun x_31 e_32 => ?_)
  obtain rfl : x_31 = nI (80 * s9) := e_32.trans (pk_mul 80 s9)
  refine lv_iload hx hb dX10_times_103 (lv_at hl 2 rfl) ?_
  refine lv_iadd hx hb dX10_times_105 ?_
  refine lv_topi (fun x_33 e_34 => ?_)
  obtain rfl : x_33 = nI (80 * s9) := e_34.trans (nI_add (80 * s9) 0)
  refine va_lald hx hb hK hP 1 0 rfl rfl (vp_in_nI (show 80 * s9 < 165440 by omega) (by decide)) dX10_times_106 ?_
  refine lv_topl (fun y_35 e_36 => ?_)
  rw [nI_clamp (show 80 * s9 < 2 ^ 31 by omega)] at e_36
  obtain rfl : y_35 = lN 1 := e_36.trans (congrArg lN (by rw [va_up_ne _ _ (by omega), va_up_ne _ _ (by omega)]; exact ha.2 (by decide)))
  refine lv_aload_n hx hb dX10_times_107 rfl (lv_at hl 5 rfl) ?_
  refine va_get (D := (dC, dI)) (ci := 13) (v := .ref p1) (C := RX10) (T := TX10) (N := 29) hx hb hts bk0 hown hK hP 0 rfl rfl 1 (by decide) (hts (.fieldLink RX10 8 "GradientDeskModel" "pieces" "[J") (List.mem_of_getElem? (i := 3) rfl)) (fun _ h9 => h9) h1 dX10_times_108 ?_
  refine lv_bipush (v := nI 80) hx hb dX10_times_111 (by decide +kernel) ?_
  refine lv_iload_n hx hb dX10_times_113 rfl (lv_at hl 8 rfl) ?_
  refine lv_imul hx hb dX10_times_114 ?_
  refine lv_topi (fun x_37 e_38 => ?_)
  obtain rfl : x_37 = nI (80 * r9) := e_38.trans (pk_mul 80 r9)
  refine lv_iload hx hb dX10_times_115 (lv_at hl 0 rfl) ?_
  refine lv_iadd hx hb dX10_times_117 ?_
  refine lv_topi (fun x_39 e_40 => ?_)
  obtain rfl : x_39 = nI (80 * r9) := e_40.trans (nI_add (80 * r9) 0)
  refine va_lald hx hb hK hP 1 0 rfl rfl (vp_in_nI (show 80 * r9 < 165440 by omega) (by decide)) dX10_times_118 ?_
  refine lv_topl (fun y_41 e_42 => ?_)
  rw [nI_clamp (show 80 * r9 < 2 ^ 31 by omega)] at e_42
  obtain rfl : y_41 = lN 1 := e_42.trans (congrArg lN (by rw [va_up_ne _ _ (by omega), va_up_ne _ _ (by omega)]; exact hb9.2 (by decide)))
  refine lv_lmul hx hb dX10_times_119 ?_
  refine lv_topl (fun y_43 e_44 => ?_)
  obtain rfl : y_43 = lN 1 := e_44.trans (lN_mul 1 1)
  refine lv_aload_n hx hb dX10_times_120 rfl (lv_at hl 5 rfl) ?_
  refine va_get (D := (dC, dI)) (ci := 13) (v := .ref p1) (C := RX10) (T := TX10) (N := 29) hx hb hts bk0 hown hK hP 0 rfl rfl 1 (by decide) (hts (.fieldLink RX10 8 "GradientDeskModel" "pieces" "[J") (List.mem_of_getElem? (i := 3) rfl)) (fun _ h9 => h9) h1 dX10_times_121 ?_
  refine lv_ldc (v := 165280) hx hb hown (hts (.constant RX10 91 (165280)) (List.mem_of_getElem? (i := 4) rfl)) dX10_times_124 ?_
  refine lv_iload hx hb dX10_times_126 (lv_at hl 2 rfl) ?_
  refine lv_iadd hx hb dX10_times_128 ?_
  refine lv_topi (fun x_45 e_46 => ?_)
  obtain rfl : x_45 = nI 165280 := e_46.trans (nI_add 165280 0)
  refine lv_iload hx hb dX10_times_129 (lv_at hl 0 rfl) ?_
  refine lv_iadd hx hb dX10_times_131 ?_
  refine lv_topi (fun x_47 e_48 => ?_)
  obtain rfl : x_47 = nI 165280 := e_48.trans (nI_add 165280 0)
  refine va_lald hx hb hK hP 1 0 rfl rfl (vp_in_nI (show 165280 < 165440 by decide) (by decide)) dX10_times_132 ?_
  refine lv_topl (fun y_49 e_50 => ?_)
  rw [nI_clamp (show 165280 < 2 ^ 31 by decide)] at e_50
  obtain rfl : y_49 = lN 0 := e_50.trans (congrArg lN (by rw [va_up_ne _ _ (by omega), va_up_self]))
  refine lv_ladd hx hb dX10_times_133 ?_
  refine lv_topl (fun y_51 e_52 => ?_)
  obtain rfl : y_51 = lN 1 := e_52.trans (lN_add 1 0)
  refine lv_lload hx hb dX10_times_134 (lv_at hl 1 rfl) ?_
  refine lv_ladd hx hb dX10_times_136 ?_
  refine lv_topl (fun y_53 e_54 => ?_)
  obtain rfl : y_53 = lN 1 := e_54.trans (lN_add 1 0)
  refine lv_lstore (lv' := [(10, .long (lN 1)), (9, .int (nI 0)), (7, .long (lN 0)), (6, .int (nI 0)), (5, .int (nI 2)), (4, .int (nI 0)), (0, .ref o), (1, .int (nI t9)), (2, .int (nI s9)), (3, .int (nI r9))]) hx hb dX10_times_137 hl (by decide) rfl (fun ls hl => ?_)
  refine lv_aload_n hx hb dX10_times_139 rfl (lv_at hl 6 rfl) ?_
  refine va_get (D := (dC, dI)) (ci := 13) (v := .ref p1) (C := RX10) (T := TX10) (N := 29) hx hb hts bk0 hown hK hP 0 rfl rfl 1 (by decide) (hts (.fieldLink RX10 8 "GradientDeskModel" "pieces" "[J") (List.mem_of_getElem? (i := 3) rfl)) (fun _ h9 => h9) h1 dX10_times_140 ?_
  refine lv_ldc (v := 165280) hx hb hown (hts (.constant RX10 91 (165280)) (List.mem_of_getElem? (i := 4) rfl)) dX10_times_143 ?_
  refine lv_iload hx hb dX10_times_145 (lv_at hl 3 rfl) ?_
  refine lv_iadd hx hb dX10_times_147 ?_
  refine lv_topi (fun x_55 e_56 => ?_)
  obtain rfl : x_55 = nI 165280 := e_56.trans (nI_add 165280 0)
  refine lv_iload hx hb dX10_times_148 (lv_at hl 1 rfl) ?_
  refine lv_iadd hx hb dX10_times_150 ?_
  refine lv_topi (fun x_57 e_58 => ?_)
  obtain rfl : x_57 = nI 165280 := e_58.trans (nI_add 165280 0)
  refine lv_lload hx hb dX10_times_151 (lv_at hl 0 rfl) ?_
  refine lv_ldc2 (v := 4294967295) hx hb hown (hts (.constantLong RX10 81 (4294967295)) (List.mem_of_getElem? (i := 5) rfl)) dX10_times_153 ?_
  refine lv_topl (fun y_59 e_60 => ?_)
  obtain rfl : y_59 = lN 4294967295 := e_60
  refine lv_land hx hb dX10_times_156 ?_
  refine lv_topl (fun y_61 e_62 => ?_)
  obtain rfl : y_61 = lN 1 := e_62.trans (g_mask (a := 1) (s := 32) (p := 4294967296) (by decide) (by decide) (by omega))
  refine va_last hx hb hK hP hD hS 1 0 rfl rfl (vp_in_nI (show 165280 < 165440 by decide) (by decide)) dX10_times_157 (fun H locs hP hD hS => ?_)
  rw [nI_clamp (show 165280 < 2 ^ 31 by decide)] at hP hD
  rw [k_updL] at hP hD
  have hb_63 : ∀ j, (va_up (va_up (va_up pn 165280 0) 165281 0) 165280 1) j < 4294967296 := k_up_lt hb_21 (by omega)
  have hP : va_P (dC, dI) vwCl ([(o, .inr (13, fs)), (p1, .inl (cP, 165440, .inr (.inl (fun j => lN ((va_up (va_up (va_up pn 165280 0) 165281 0) 165280 1) j))))), (l1, .inl (cL, 2068, .inl (fun j => nI (ln j)))), (b1, .inl (cB, 2068, .inl (fun j => nI (bn j))))]) H := hP
  have hD : va_D A ([(o, .inr (13, fs)), (p1, .inl (cP, 165440, .inr (.inl (fun j => lN ((va_up (va_up (va_up pn 165280 0) 165281 0) 165280 1) j))))), (l1, .inl (cL, 2068, .inl (fun j => nI (ln j)))), (b1, .inl (cB, 2068, .inl (fun j => nI (bn j))))]) := hD
  refine lv_lload hx hb dX10_times_158 (lv_at hl 0 rfl) ?_
  refine lv_bipush (v := nI 32) hx hb dX10_times_160 (by decide +kernel) ?_
  refine lv_lushr hx hb dX10_times_162 rfl ?_
  refine lv_topl (fun y_64 e_65 => ?_)
  obtain rfl : y_64 = lN 0 := e_65.trans ((wb_shr (n := 1) (k := 32) (by omega) (by decide)).trans rfl)
  refine lv_lstore (lv' := [(7, .long (lN 0)), (10, .long (lN 1)), (9, .int (nI 0)), (6, .int (nI 0)), (5, .int (nI 2)), (4, .int (nI 0)), (0, .ref o), (1, .int (nI t9)), (2, .int (nI s9)), (3, .int (nI r9))]) hx hb dX10_times_163 hl (by decide) rfl (fun ls hl => ?_)
  refine lv_iinc (v := nI 1) (lv' := [(9, .int (nI 1)), (7, .long (lN 0)), (10, .long (lN 1)), (6, .int (nI 0)), (5, .int (nI 2)), (4, .int (nI 0)), (0, .ref o), (1, .int (nI t9)), (2, .int (nI s9)), (3, .int (nI r9))]) hx hb dX10_times_165 hl (k := 2) rfl (nI_add 0 1) (by decide) rfl (fun ls hl => ?_)
  refine lv_goto (tgt := 84) hx hb dX10_times_168 (by decide) ?_
  refine lv_iload hx hb dX10_times_84 (lv_at hl 0 rfl) ?_
  refine lv_aload_n hx hb dX10_times_86 rfl (lv_at hl 6 rfl) ?_
  refine va_get (D := (dC, dI)) (ci := 13) (v := .ref l1) (C := RX10) (T := TX10) (N := 29) hx hb hts bk0 hown hK hP 0 rfl rfl 2 (by decide) (hts (.fieldLink RX10 14 "GradientDeskModel" "length" "[I") (List.mem_of_getElem? (i := 2) rfl)) (fun _ h9 => h9) h2 dX10_times_87 ?_
  refine lv_iload_n hx hb dX10_times_90 rfl (lv_at hl 9 rfl) ?_
  refine va_iald hx hb hK hP 2 1 rfl rfl (vp_in_nI (show r9 < 2068 by omega) (by decide)) dX10_times_91 ?_
  refine lv_topi (fun x_68 e_69 => ?_)
  rw [nI_clamp (show r9 < 2 ^ 31 by omega)] at e_69
  obtain rfl : x_68 = nI 1 := e_69.trans (congrArg nI hb9.1)
  refine lv_icmp_ge (tgt := 171) hx hb dX10_times_92 (by decide) (fun c_70 => ?_) (fun c_70 => absurd c_70 (by decide))
  refine lv_aload_n hx hb dX10_times_171 rfl (lv_at hl 6 rfl) ?_
  refine va_get (D := (dC, dI)) (ci := 13) (v := .ref p1) (C := RX10) (T := TX10) (N := 29) hx hb hts bk0 hown hK hP 0 rfl rfl 1 (by decide) (hts (.fieldLink RX10 8 "GradientDeskModel" "pieces" "[J") (List.mem_of_getElem? (i := 3) rfl)) (fun _ h9 => h9) h1 dX10_times_172 ?_
  refine lv_ldc (v := 165280) hx hb hown (hts (.constant RX10 91 (165280)) (List.mem_of_getElem? (i := 4) rfl)) dX10_times_175 ?_
  refine lv_iload hx hb dX10_times_177 (lv_at hl 3 rfl) ?_
  refine lv_iadd hx hb dX10_times_179 ?_
  refine lv_topi (fun x_71 e_72 => ?_)
  obtain rfl : x_71 = nI 165280 := e_72.trans (nI_add 165280 0)
  refine lv_aload_n hx hb dX10_times_180 rfl (lv_at hl 6 rfl) ?_
  refine va_get (D := (dC, dI)) (ci := 13) (v := .ref l1) (C := RX10) (T := TX10) (N := 29) hx hb hts bk0 hown hK hP 0 rfl rfl 2 (by decide) (hts (.fieldLink RX10 14 "GradientDeskModel" "length" "[I") (List.mem_of_getElem? (i := 2) rfl)) (fun _ h9 => h9) h2 dX10_times_181 ?_
  refine lv_iload_n hx hb dX10_times_184 rfl (lv_at hl 9 rfl) ?_
  refine va_iald hx hb hK hP 2 1 rfl rfl (vp_in_nI (show r9 < 2068 by omega) (by decide)) dX10_times_185 ?_
  refine lv_topi (fun x_73 e_74 => ?_)
  rw [nI_clamp (show r9 < 2 ^ 31 by omega)] at e_74
  obtain rfl : x_73 = nI 1 := e_74.trans (congrArg nI hb9.1)
  refine lv_iadd hx hb dX10_times_186 ?_
  refine lv_topi (fun x_75 e_76 => ?_)
  obtain rfl : x_75 = nI 165281 := e_76.trans (nI_add 165280 1)
  refine lv_lload hx hb dX10_times_187 (lv_at hl 1 rfl) ?_
  refine va_last hx hb hK hP hD hS 1 0 rfl rfl (vp_in_nI (show 165281 < 165440 by decide) (by decide)) dX10_times_189 (fun H locs hP hD hS => ?_)
  rw [nI_clamp (show 165281 < 2 ^ 31 by decide)] at hP hD
  rw [k_updL] at hP hD
  have hb_77 : ∀ j, (va_up (va_up (va_up (va_up pn 165280 0) 165281 0) 165280 1) 165281 0) j < 4294967296 := k_up_lt hb_63 (by omega)
  have hP : va_P (dC, dI) vwCl ([(o, .inr (13, fs)), (p1, .inl (cP, 165440, .inr (.inl (fun j => lN ((va_up (va_up (va_up (va_up pn 165280 0) 165281 0) 165280 1) 165281 0) j))))), (l1, .inl (cL, 2068, .inl (fun j => nI (ln j)))), (b1, .inl (cB, 2068, .inl (fun j => nI (bn j))))]) H := hP
  have hD : va_D A ([(o, .inr (13, fs)), (p1, .inl (cP, 165440, .inr (.inl (fun j => lN ((va_up (va_up (va_up (va_up pn 165280 0) 165281 0) 165280 1) 165281 0) j))))), (l1, .inl (cL, 2068, .inl (fun j => nI (ln j)))), (b1, .inl (cB, 2068, .inl (fun j => nI (bn j))))]) := hD
  refine lv_iinc (v := nI 1) (lv' := [(6, .int (nI 1)), (9, .int (nI 1)), (7, .long (lN 0)), (10, .long (lN 1)), (5, .int (nI 2)), (4, .int (nI 0)), (0, .ref o), (1, .int (nI t9)), (2, .int (nI s9)), (3, .int (nI r9))]) hx hb dX10_times_190 hl (k := 3) rfl (nI_add 0 1) (by decide) rfl (fun ls hl => ?_)
  refine lv_goto (tgt := 67) hx hb dX10_times_193 (by decide) ?_
  refine lv_iload hx hb dX10_times_67 (lv_at hl 0 rfl) ?_
  refine lv_aload_n hx hb dX10_times_69 rfl (lv_at hl 6 rfl) ?_
  refine va_get (D := (dC, dI)) (ci := 13) (v := .ref l1) (C := RX10) (T := TX10) (N := 29) hx hb hts bk0 hown hK hP 0 rfl rfl 2 (by decide) (hts (.fieldLink RX10 14 "GradientDeskModel" "length" "[I") (List.mem_of_getElem? (i := 2) rfl)) (fun _ h9 => h9) h2 dX10_times_70 ?_
  refine lv_iload_n hx hb dX10_times_73 rfl (lv_at hl 8 rfl) ?_
  refine va_iald hx hb hK hP 2 1 rfl rfl (vp_in_nI (show s9 < 2068 by omega) (by decide)) dX10_times_74 ?_
  refine lv_topi (fun x_80 e_81 => ?_)
  rw [nI_clamp (show s9 < 2 ^ 31 by omega)] at e_81
  obtain rfl : x_80 = nI 1 := e_81.trans (congrArg nI ha.1)
  refine lv_icmp_ge (tgt := 196) hx hb dX10_times_75 (by decide) (fun c_82 => ?_) (fun c_82 => absurd c_82 (by decide))
  refine lv_aload_n hx hb dX10_times_196 rfl (lv_at hl 6 rfl) ?_
  refine va_get (D := (dC, dI)) (ci := 13) (v := .ref l1) (C := RX10) (T := TX10) (N := 29) hx hb hts bk0 hown hK hP 0 rfl rfl 2 (by decide) (hts (.fieldLink RX10 14 "GradientDeskModel" "length" "[I") (List.mem_of_getElem? (i := 2) rfl)) (fun _ h9 => h9) h2 dX10_times_197 ?_
  refine lv_sipush (v := nI 2066) hx hb dX10_times_200 (by decide +kernel) ?_
  refine lv_iload hx hb dX10_times_203 (lv_at hl 4 rfl) ?_
  refine va_iast hx hb hK hP hD hS 2 1 rfl rfl (vp_in_nI (show 2066 < 2068 by decide) (by decide)) dX10_times_205 (fun H locs hP hD hS => ?_)
  rw [nI_clamp (show 2066 < 2 ^ 31 by decide)] at hP hD
  rw [k_updI] at hP hD
  have hb_83 : ∀ j, (va_up ln 2066 2) j < 81 := k_up_lt hln (by omega)
  have hP : va_P (dC, dI) vwCl ([(o, .inr (13, fs)), (p1, .inl (cP, 165440, .inr (.inl (fun j => lN ((va_up (va_up (va_up (va_up pn 165280 0) 165281 0) 165280 1) 165281 0) j))))), (l1, .inl (cL, 2068, .inl (fun j => nI ((va_up ln 2066 2) j)))), (b1, .inl (cB, 2068, .inl (fun j => nI (bn j))))]) H := hP
  have hD : va_D A ([(o, .inr (13, fs)), (p1, .inl (cP, 165440, .inr (.inl (fun j => lN ((va_up (va_up (va_up (va_up pn 165280 0) 165281 0) 165280 1) 165281 0) j))))), (l1, .inl (cL, 2068, .inl (fun j => nI ((va_up ln 2066 2) j)))), (b1, .inl (cB, 2068, .inl (fun j => nI (bn j))))]) := hD
  refine lv_aload_n hx hb dX10_times_206 rfl (lv_at hl 6 rfl) ?_
  refine va_get (D := (dC, dI)) (ci := 13) (v := .ref b1) (C := RX10) (T := TX10) (N := 29) hx hb hts bk0 hown hK hP 0 rfl rfl 3 (by decide) (hts (.fieldLink RX10 18 "GradientDeskModel" "below" "[Z") (List.mem_of_getElem? (i := 1) rfl)) (fun _ h9 => h9) h3 dX10_times_207 ?_
  refine lv_sipush (v := nI 2066) hx hb dX10_times_210 (by decide +kernel) ?_
  refine lv_iload hx hb dX10_times_213 (lv_at hl 5 rfl) ?_
  refine va_zast hx hb hK hP hD hS 3 2 rfl rfl (vp_in_nI (show 2066 < 2068 by decide) (by decide)) dX10_times_215 (fun H locs hP hD hS => ?_)
  rw [nI_clamp (show 2066 < 2 ^ 31 by decide)] at hP hD
  rw [k_narZ (show 0 ≤ 1 by omega)] at hP hD
  rw [k_updI] at hP hD
  have hb_84 : ∀ j, (va_up bn 2066 0) j < 2 := k_up_lt hbn (by omega)
  have hP : va_P (dC, dI) vwCl ([(o, .inr (13, fs)), (p1, .inl (cP, 165440, .inr (.inl (fun j => lN ((va_up (va_up (va_up (va_up pn 165280 0) 165281 0) 165280 1) 165281 0) j))))), (l1, .inl (cL, 2068, .inl (fun j => nI ((va_up ln 2066 2) j)))), (b1, .inl (cB, 2068, .inl (fun j => nI ((va_up bn 2066 0) j))))]) H := hP
  have hD : va_D A ([(o, .inr (13, fs)), (p1, .inl (cP, 165440, .inr (.inl (fun j => lN ((va_up (va_up (va_up (va_up pn 165280 0) 165281 0) 165280 1) 165281 0) j))))), (l1, .inl (cL, 2068, .inl (fun j => nI ((va_up ln 2066 2) j)))), (b1, .inl (cB, 2068, .inl (fun j => nI ((va_up bn 2066 0) j))))]) := hD
  refine lv_aload_n hx hb dX10_times_216 rfl (lv_at hl 6 rfl) ?_
  refine lv_sipush (v := nI 2066) hx hb dX10_times_217 (by decide +kernel) ?_
  have hPc := hP.sub (ws' := [(o, .inr (13, fs)), (p1, .inl (cP, 165440, .inr (.inl (fun j => lN ((va_up (va_up (va_up (va_up pn 165280 0) 165281 0) 165280 1) 165281 0) j))))), (l1, .inl (cL, 2068, .inl (fun j => nI ((va_up ln 2066 2) j)))), (b1, .inl (cB, 2068, .inl (fun j => nI ((va_up bn 2066 0) j))))]) [0, 1, 2, 3] rfl
  have hDc := hD.sub (ws' := [(o, .inr (13, fs)), (p1, .inl (cP, 165440, .inr (.inl (fun j => lN ((va_up (va_up (va_up (va_up pn 165280 0) 165281 0) 165280 1) 165281 0) j))))), (l1, .inl (cL, 2068, .inl (fun j => nI ((va_up ln 2066 2) j)))), (b1, .inl (cB, 2068, .inl (fun j => nI ((va_up bn 2066 0) j))))]) [0, 1, 2, 3] (by decide) rfl
  have hKc := hK.sub (tys' := [(cP, .long), (cL, .int), (cB, .boolean)]) [0, 1, 2] rfl
  have hFc := va_free (wc := [(o, .inr (13, fs)), (p1, .inl (cP, 165440, .inr (.inl (fun j => lN ((va_up (va_up (va_up (va_up pn 165280 0) 165281 0) 165280 1) 165281 0) j))))), (l1, .inl (cL, 2068, .inl (fun j => nI ((va_up ln 2066 2) j)))), (b1, .inl (cB, 2068, .inl (fun j => nI ((va_up bn 2066 0) j))))]) hD hS hA [0, 1, 2, 3] rfl
  refine va_callv (va_runV (As := [.int (nI 2066)]) (rest := []) ⟨hx, hb, hml, hown, hts⟩ (c_X10_trim l dC dI (va_A [(o, .inr (13, fs)), (p1, .inl (cP, 165440, .inr (.inl (fun j => lN ((va_up (va_up (va_up (va_up pn 165280 0) 165281 0) 165280 1) 165281 0) j))))), (l1, .inl (cL, 2068, .inl (fun j => nI ((va_up ln 2066 2) j)))), (b1, .inl (cB, 2068, .inl (fun j => nI ((va_up bn 2066 0) j))))] H.size) H.size (fun _ h => Or.inr h) o fs p1 l1 b1 cP cL cB (va_up (va_up (va_up (va_up pn 165280 0) 165281 0) 165280 1) 165281 0) (va_up ln 2066 2) (va_up bn 2066 0) 2066 h1 h2 h3 hb_77 hb_83 hb_84 (by decide)) (cwV 1 hts (goodIn_app (goodIn_r [Cond.methodLink RX10 83 yX10_trim, Cond.instanceMethod yX10_trim, Cond.selects RX10 yX10_trim yX10_trim, Cond.initialized RX10] [6, 7, 8, 9] rfl rfl) (goodIn_sub (fun w9 h9 => bk1 w9 h9) gw_X10_trim)) rfl rfl rfl (by decide +kernel) ⟨Nat.le_of_ble_eq_true rfl, Nat.le_of_ble_eq_true rfl⟩) ⟨fun a U g mk q => by obtain ⟨q0, q1, qP, qK, qD⟩ := q; exact ⟨q0, q1, qP, va_K.moved (u := U) (U := U.calling g mk a) (Vm.Alike.refl U.vm) qK, qD⟩, va_recv hKc hPc (ci := 13) (q0 := 0) rfl rfl, fun U hU hW => ⟨rfl, by rw [hU], by rw [hU]; exact hPc, va_K.moved hW.alike hKc, hDc.self⟩⟩ rfl rfl hl.1 rfl (lv_room (Nat.le_of_ble_eq_true rfl)) dX10_times_220 ⟨(Nat.le_of_ble_eq_true rfl), (Nat.le_of_ble_eq_true rfl)⟩) hS (fun q _ h => hFc q h) hFc (fun u t H1 locs ht hvm hw_85 hB hz1 hk1 hS => ?_)
  obtain ⟨pn2_86, ln2_87, bn2_88⟩ := u
  obtain ⟨hP1, hK1, hD1⟩ := hB
  rw [ht] at hP1
  have hK1 := va_K.moved hvm.symm hK1
  try dsimp only at hw_85
  obtain ⟨hP, hD⟩ := va_join (wr := []) (w1 := [(o, .inr (13, fs)), (p1, .inl (cP, 165440, .inr (.inl (fun j => lN (pn2_86 j))))), (l1, .inl (cL, 2068, .inl (fun j => nI (ln2_87 j)))), (b1, .inl (cB, 2068, .inl (fun j => nI (bn2_88 j))))]) hP hD [0, 1, 2, 3] [] rfl rfl (by decide) (by decide) hk1 hFc hP1 hD1
  have hK := (hK.sub (tys' := []) [] rfl).app hK1
  generalize H1 = H at hP hS ⊢
  have hP : va_P (dC, dI) vwCl ([(o, .inr (13, fs)), (p1, .inl (cP, 165440, .inr (.inl (fun j => lN (pn2_86 j))))), (l1, .inl (cL, 2068, .inl (fun j => nI (ln2_87 j)))), (b1, .inl (cB, 2068, .inl (fun j => nI (bn2_88 j))))]) H := hP
  have hD : va_D A ([(o, .inr (13, fs)), (p1, .inl (cP, 165440, .inr (.inl (fun j => lN (pn2_86 j))))), (l1, .inl (cL, 2068, .inl (fun j => nI (ln2_87 j)))), (b1, .inl (cB, 2068, .inl (fun j => nI (bn2_88 j))))]) := hD
  have hK : va_K (dC, dI) vwCl [(cP, .long), (cL, .int), (cB, .boolean)] s := hK
  obtain ⟨hb_89, hb_90, hb_91, hpq, m9, hm, hz, ht9, rfl, rfl⟩ := hw_85
  obtain rfl := hpq.symm
  have hl9 : (va_up ln 2066 2) 2066 = 2 := va_up_self _ _ _
  have hx9 : (va_up (va_up (va_up (va_up pn 165280 0) 165281 0) 165280 1) 165281 0) (80 * 2066) = 1 := (by simp [va_up])
  have hT : On1 (va_up (va_up (va_up (va_up pn 165280 0) 165281 0) 165280 1) 165281 0) (va_up (va_up ln 2066 2) 2066 m9) 2066 1 := k_On1_eq (k_ltrim (Or.inr ⟨hl9, by simp [va_up]⟩) hm hz ht9) (by rw [hl9, if_neg (show ¬ 2 = 0 by decide), hx9])
  have f9 : Fr9 [2066] pn ln (va_up (va_up (va_up (va_up pn 165280 0) 165281 0) 165280 1) 165281 0) (va_up (va_up ln 2066 2) 2066 m9) := (by intro j hj; simp only [List.mem_cons, List.not_mem_nil, or_false, not_or] at hj; constructor <;> first | rfl | (simp only [va_up]; (repeat' split) <;> first | rfl | omega))
  have zb9 : ∀ j, (va_up (va_up bn 2066 0) 2066 (if m9 = 0 then 0 else (va_up bn 2066 0) 2066)) j = 0 := by intro j; simp only [va_up]; (repeat' split) <;> first | rfl | exact hB _ | omega
  refine lv_aload_n hx hb dX10_times_223 rfl (lv_at hl 6 rfl) ?_
  refine lv_iload_n hx hb dX10_times_224 rfl (lv_at hl 7 rfl) ?_
  refine lv_sipush (v := nI 2066) hx hb dX10_times_225 (by decide +kernel) ?_
  have hPc := hP.sub (ws' := [(o, .inr (13, fs)), (p1, .inl (cP, 165440, .inr (.inl (fun j => lN ((va_up (va_up (va_up (va_up pn 165280 0) 165281 0) 165280 1) 165281 0) j))))), (l1, .inl (cL, 2068, .inl (fun j => nI ((va_up (va_up ln 2066 2) 2066 m9) j)))), (b1, .inl (cB, 2068, .inl (fun j => nI ((va_up (va_up bn 2066 0) 2066 (if m9 = 0 then 0 else (va_up bn 2066 0) 2066)) j))))]) [0, 1, 2, 3] rfl
  have hDc := hD.sub (ws' := [(o, .inr (13, fs)), (p1, .inl (cP, 165440, .inr (.inl (fun j => lN ((va_up (va_up (va_up (va_up pn 165280 0) 165281 0) 165280 1) 165281 0) j))))), (l1, .inl (cL, 2068, .inl (fun j => nI ((va_up (va_up ln 2066 2) 2066 m9) j)))), (b1, .inl (cB, 2068, .inl (fun j => nI ((va_up (va_up bn 2066 0) 2066 (if m9 = 0 then 0 else (va_up bn 2066 0) 2066)) j))))]) [0, 1, 2, 3] (by decide) rfl
  have hKc := hK.sub (tys' := [(cP, .long), (cL, .int), (cB, .boolean)]) [0, 1, 2] rfl
  have hFc := va_free (wc := [(o, .inr (13, fs)), (p1, .inl (cP, 165440, .inr (.inl (fun j => lN ((va_up (va_up (va_up (va_up pn 165280 0) 165281 0) 165280 1) 165281 0) j))))), (l1, .inl (cL, 2068, .inl (fun j => nI ((va_up (va_up ln 2066 2) 2066 m9) j)))), (b1, .inl (cB, 2068, .inl (fun j => nI ((va_up (va_up bn 2066 0) 2066 (if m9 = 0 then 0 else (va_up bn 2066 0) 2066)) j))))]) hD hS hA [0, 1, 2, 3] rfl
  refine va_callv (va_runV (As := [.int (nI t9), .int (nI 2066)]) (rest := []) ⟨hx, hb, hml, hown, hts⟩ (c_X10_copy l dC dI (va_A [(o, .inr (13, fs)), (p1, .inl (cP, 165440, .inr (.inl (fun j => lN ((va_up (va_up (va_up (va_up pn 165280 0) 165281 0) 165280 1) 165281 0) j))))), (l1, .inl (cL, 2068, .inl (fun j => nI ((va_up (va_up ln 2066 2) 2066 m9) j)))), (b1, .inl (cB, 2068, .inl (fun j => nI ((va_up (va_up bn 2066 0) 2066 (if m9 = 0 then 0 else (va_up bn 2066 0) 2066)) j))))] H.size) H.size (fun _ h => Or.inr h) o fs p1 l1 b1 cP cL cB (va_up (va_up (va_up (va_up pn 165280 0) 165281 0) 165280 1) 165281 0) (va_up (va_up ln 2066 2) 2066 m9) (va_up (va_up bn 2066 0) 2066 (if m9 = 0 then 0 else (va_up bn 2066 0) 2066)) t9 2066 1 h1 h2 h3 hb_89 hb_90 hb_91 (by omega) (by decide) hT) (cwV 2 hts (goodIn_app (goodIn_r [Cond.methodLink RX10 92 yX10_copy, Cond.instanceMethod yX10_copy, Cond.selects RX10 yX10_copy yX10_copy, Cond.initialized RX10] [10, 11, 12, 9] rfl rfl) (goodIn_sub (fun w9 h9 => bk2 w9 h9) gw_X10_copy)) rfl rfl rfl (by decide +kernel) ⟨Nat.le_of_ble_eq_true rfl, Nat.le_of_ble_eq_true rfl⟩) ⟨fun a U g mk q => by obtain ⟨q0, q1, qP, qK, qD⟩ := q; exact ⟨q0, q1, qP, va_K.moved (u := U) (U := U.calling g mk a) (Vm.Alike.refl U.vm) qK, qD⟩, va_recv hKc hPc (ci := 13) (q0 := 0) rfl rfl, fun U hU hW => ⟨rfl, by rw [hU], by rw [hU]; exact hPc, va_K.moved hW.alike hKc, hDc.self⟩⟩ rfl rfl hl.1 rfl (lv_room (Nat.le_of_ble_eq_true rfl)) dX10_times_228 ⟨(Nat.le_of_ble_eq_true rfl), (Nat.le_of_ble_eq_true rfl)⟩) hS (fun q _ h => hFc q h) hFc (fun u t H1 locs ht hvm hw_93 hB hz1 hk1 hS => ?_)
  obtain ⟨pn2_94, ln2_95, bn2_96⟩ := u
  obtain ⟨hP1, hK1, hD1⟩ := hB
  rw [ht] at hP1
  have hK1 := va_K.moved hvm.symm hK1
  try dsimp only at hw_93
  obtain ⟨hP, hD⟩ := va_join (wr := []) (w1 := [(o, .inr (13, fs)), (p1, .inl (cP, 165440, .inr (.inl (fun j => lN (pn2_94 j))))), (l1, .inl (cL, 2068, .inl (fun j => nI (ln2_95 j)))), (b1, .inl (cB, 2068, .inl (fun j => nI (bn2_96 j))))]) hP hD [0, 1, 2, 3] [] rfl rfl (by decide) (by decide) hk1 hFc hP1 hD1
  have hK := (hK.sub (tys' := []) [] rfl).app hK1
  generalize H1 = H at hP hS ⊢
  have hP : va_P (dC, dI) vwCl ([(o, .inr (13, fs)), (p1, .inl (cP, 165440, .inr (.inl (fun j => lN (pn2_94 j))))), (l1, .inl (cL, 2068, .inl (fun j => nI (ln2_95 j)))), (b1, .inl (cB, 2068, .inl (fun j => nI (bn2_96 j))))]) H := hP
  have hD : va_D A ([(o, .inr (13, fs)), (p1, .inl (cP, 165440, .inr (.inl (fun j => lN (pn2_94 j))))), (l1, .inl (cL, 2068, .inl (fun j => nI (ln2_95 j)))), (b1, .inl (cB, 2068, .inl (fun j => nI (bn2_96 j))))]) := hD
  have hK : va_K (dC, dI) vwCl [(cP, .long), (cL, .int), (cB, .boolean)] s := hK
  obtain ⟨hb_97, hb_98, hb_99, rel_100⟩ := hw_93
  have rel9 := rel_100
  have st9 := f9.tr (S := [t9, 2066]) rel9.1 (fun j h => by simp at h ⊢; omega) (fun j h => by simp at h ⊢; omega)
  have hP9 := hP.sub (ws' := [(o, .inr (13, fs)), (p1, .inl (cP, 165440, .inr (.inl (fun j => lN (pn2_94 j))))), (l1, .inl (cL, 2068, .inl (fun j => nI (ln2_95 j)))), (b1, .inl (cB, 2068, .inl (fun j => nI (bn2_96 j))))]) [0, 1, 2, 3] rfl
  have hD9 := hD.sub (ws' := [(o, .inr (13, fs)), (p1, .inl (cP, 165440, .inr (.inl (fun j => lN (pn2_94 j))))), (l1, .inl (cL, 2068, .inl (fun j => nI (ln2_95 j)))), (b1, .inl (cB, 2068, .inl (fun j => nI (bn2_96 j))))]) [0, 1, 2, 3] (by decide) rfl
  have hK9 := hK.sub (tys' := [(cP, .long), (cL, .int), (cB, .boolean)]) [0, 1, 2] rfl
  refine W.widen (k := 0) (n := 0) (by omega) (by omega) ?_
  exact W.vret hx hb hr (fun t ht hW => ⟨⟨(pn2_94, ln2_95, bn2_96), rfl, ⟨hb_97, hb_98, hb_99, st9, rel9.2.1, rel9.2.2 zb9⟩, by rw [ht]; exact hP9, va_K.moved hW.alike hK9, hD9⟩, hS.F ht⟩) hS.2.2 dX10_times_231
def wd_X10_addS0 : List Cond := .code yX10_addSizes cX10_addSizes 10 none :: (([.fieldLink RX10 14 "GradientDeskModel" "length" "[I", .methodLink RX10 87 yX10_piece, .instanceMethod yX10_piece, .selects RX10 yX10_piece yX10_piece, .initialized RX10, .fieldLink RX10 8 "GradientDeskModel" "pieces" "[J", .constant RX10 91 (165280), .constantLong RX10 81 (4294967295), .fieldLink RX10 18 "GradientDeskModel" "below" "[Z", .methodLink RX10 83 yX10_trim, .instanceMethod yX10_trim, .selects RX10 yX10_trim yX10_trim, .methodLink RX10 92 yX10_copy, .instanceMethod yX10_copy, .selects RX10 yX10_copy yX10_copy] : List Cond) ++ (u_ws RX10 TX10 29 ++ (wd_X10_piece ++ (wd_X10_trim ++ (wd_X10_copy ++ ([]))))))
theorem gw_X10_addS0 : wd_X10_addS0.all goodWord = true := k_allc rfl (k_all (by decide +kernel) (k_all (gu_X10) (k_all (gw_X10_piece) (k_all (gw_X10_trim) (k_all (gw_X10_copy) (rfl))))))
abbrev at_X10_addS0 (dC : Nat → ClassId) (dI : Nat → Nat → Nat) (A : Nat → Prop) (o : Nat) (fs : List Value) (p1 : Nat) (l1 : Nat) (b1 : Nat) (cP : ClassId) (cL : ClassId) (cB : ClassId) (pn : Nat → Nat) (ln : Nat → Nat) (bn : Nat → Nat) (t9 : Nat) (s9 : Nat) (r9 : Nat) (u : (Nat → Nat) × (Nat → Nat) × (Nat → Nat)) (t : State) : Prop := match u with
  | (pn2, ln2, bn2) => va_P (dC, dI) vwCl [(o, .inr (13, fs)), (p1, .inl (cP, 165440, .inr (.inl (fun j => lN (pn2 j))))), (l1, .inl (cL, 2068, .inl (fun j => nI (ln2 j)))), (b1, .inl (cB, 2068, .inl (fun j => nI (bn2 j))))] t.heap ∧ va_K (dC, dI) vwCl [(cP, .long), (cL, .int), (cB, .boolean)] t ∧ va_D A [(o, .inr (13, fs)), (p1, .inl (cP, 165440, .inr (.inl (fun j => lN (pn2 j))))), (l1, .inl (cL, 2068, .inl (fun j => nI (ln2 j)))), (b1, .inl (cB, 2068, .inl (fun j => nI (bn2 j))))]
set_option maxHeartbeats 4000000 in
set_option maxRecDepth 100000 in
theorem c_X10_addS0 (l : Launch) (dC : Nat → ClassId) (dI : Nat → Nat → Nat) (A : Nat → Prop) (sz : Nat) (hA0 : ∀ q, sz ≤ q → A q) (o : Nat) (fs : List Value) (p1 : Nat) (l1 : Nat) (b1 : Nat) (cP : ClassId) (cL : ClassId) (cB : ClassId) (pn : Nat → Nat) (ln : Nat → Nat) (bn : Nat → Nat) (t9 : Nat) (s9 : Nat) (r9 : Nat) (h1 : fs[1]? = some (.ref p1)) (h2 : fs[2]? = some (.ref l1)) (h3 : fs[3]? = some (.ref b1)) (hpn : ∀ j, pn j < 4294967296) (hln : ∀ j, ln j < 81) (hbn : ∀ j, bn j < 2) (htq : t9 < 2066) (hs : s9 < 2066) (hr9 : r9 < 2066) (ha : On1 pn ln s9 0) (hb9 : On1 pn ln r9 0) (hB : ∀ j, bn j = 0) : Met l yX10_addSizes wd_X10_addS0 ({ frames := 30, cells := 0, slots := 0, locals := 600 }) (va_Pc [.ref o, .int (nI t9), .int (nI s9), .int (nI r9)] (fun U => U.heap.size = sz ∧ va_P (dC, dI) vwCl [(o, .inr (13, fs)), (p1, .inl (cP, 165440, .inr (.inl (fun j => lN (pn j))))), (l1, .inl (cL, 2068, .inl (fun j => nI (ln j)))), (b1, .inl (cB, 2068, .inl (fun j => nI (bn j))))] U.heap ∧ va_K (dC, dI) vwCl [(cP, .long), (cL, .int), (cB, .boolean)] U ∧ va_D A [(o, .inr (13, fs)), (p1, .inl (cP, 165440, .inr (.inl (fun j => lN (pn j))))), (l1, .inl (cL, 2068, .inl (fun j => nI (ln j)))), (b1, .inl (cB, 2068, .inl (fun j => nI (bn j))))])) (va_Qv (fun (u : (Nat → Nat) × (Nat → Nat) × (Nat → Nat)) => match u with | (pn2, ln2, bn2) => (∀ j, pn2 j < 4294967296) ∧ (∀ j, ln2 j < 81) ∧ (∀ j, bn2 j < 2) ∧ (Fr9 [t9, 2066] pn ln pn2 ln2 ∧ On1 pn2 ln2 t9 0 ∧ (∀ j, bn2 j = 0))) (at_X10_addS0 dC dI A o fs p1 l1 b1 cP cL cB pn ln bn t9 s9 r9) A) (0) (0) A := by
  refine Met.ofW (cc := cX10_addSizes) (maxL := 10) (ret := none) (by decide) rfl ?_
  intro p e s m args below meth c s₁ B hml hv
  obtain ⟨rfl, hsz, hP, hK, hD⟩ := hv
  have hx := B.exec
  have hb := B.bytes
  have hr := B.returns
  have hts := atoms_spec (ws := wd_X10_addS0) B.pre
  have hown : s.vm.findClass RX10 = some m.cls := findClass_of_methodNamed B.named
  have hlocks := B.notSynchronized
  have bk0 : ∀ w ∈ u_ws RX10 TX10 29, w ∈ wd_X10_addS0 := fun _ h => List.mem_cons_of_mem _ (List.mem_append_right _ (List.mem_append_left _ h))
  have bk1 : ∀ w ∈ wd_X10_piece, w ∈ wd_X10_addS0 := fun _ h => List.mem_cons_of_mem _ (List.mem_append_right _ (List.mem_append_right _ (List.mem_append_left _ h)))
  have bk2 : ∀ w ∈ wd_X10_trim, w ∈ wd_X10_addS0 := fun _ h => List.mem_cons_of_mem _ (List.mem_append_right _ (List.mem_append_right _ (List.mem_append_right _ (List.mem_append_left _ h))))
  have bk3 : ∀ w ∈ wd_X10_copy, w ∈ wd_X10_addS0 := fun _ h => List.mem_cons_of_mem _ (List.mem_append_right _ (List.mem_append_right _ (List.mem_append_right _ (List.mem_append_right _ (List.mem_append_left _ h)))))
  subst hsz
  have hA : ∀ q : Nat, s.heap.size ≤ q → A q := hA0
  have hS : va_S A s.heap s.heap [] := va_S.rf
  have hl := lv_entry ([.ref o, .int (nI t9), .int (nI s9), .int (nI r9)]) (n := 10) (Nat.le_of_ble_eq_true rfl)
  rw [lg_entry_eq]
  generalize (lg_sl ([.ref o, .int (nI t9), .int (nI s9), .int (nI r9)]) ++ List.replicate (10 - (lg_sl ([.ref o, .int (nI t9), .int (nI s9), .int (nI r9)])).length) Slot.unset).toArray = ls at hl ⊢
  have hl : lv_has ls 10 [(0, .ref o), (1, .int (nI t9)), (2, .int (nI s9)), (3, .int (nI r9))] := hl
  refine lv_aload_n hx hb dX10_addSizes_0 rfl (lv_at hl 0 rfl) ?_
  refine va_get (D := (dC, dI)) (ci := 13) (v := .ref l1) (C := RX10) (T := TX10) (N := 29) hx hb hts bk0 hown hK hP 0 rfl rfl 2 (by decide) (hts (.fieldLink RX10 14 "GradientDeskModel" "length" "[I") (List.mem_of_getElem? (i := 1) rfl)) (fun _ h9 => h9) h2 dX10_addSizes_1 ?_
  refine lv_iload_n hx hb dX10_addSizes_4 rfl (lv_at hl 2 rfl) ?_
  refine va_iald hx hb hK hP 2 1 rfl rfl (vp_in_nI (show s9 < 2068 by omega) (by decide)) dX10_addSizes_5 ?_
  refine lv_topi (fun x_1 e_2 => ?_)
  rw [nI_clamp (show s9 < 2 ^ 31 by omega)] at e_2
  obtain rfl : x_1 = nI 0 := e_2.trans (congrArg nI (ha.zero.mpr rfl))
  refine lv_aload_n hx hb dX10_addSizes_6 rfl (lv_at hl 0 rfl) ?_
  refine va_get (D := (dC, dI)) (ci := 13) (v := .ref l1) (C := RX10) (T := TX10) (N := 29) hx hb hts bk0 hown hK hP 0 rfl rfl 2 (by decide) (hts (.fieldLink RX10 14 "GradientDeskModel" "length" "[I") (List.mem_of_getElem? (i := 1) rfl)) (fun _ h9 => h9) h2 dX10_addSizes_7 ?_
  refine lv_iload_n hx hb dX10_addSizes_10 rfl (lv_at hl 3 rfl) ?_
  refine va_iald hx hb hK hP 2 1 rfl rfl (vp_in_nI (show r9 < 2068 by omega) (by decide)) dX10_addSizes_11 ?_
  refine lv_topi (fun x_3 e_4 => ?_)
  rw [nI_clamp (show r9 < 2 ^ 31 by omega)] at e_4
  obtain rfl : x_3 = nI 0 := e_4.trans (congrArg nI (hb9.zero.mpr rfl))
  refine lv_icmp_le (tgt := 24) hx hb dX10_addSizes_12 (by decide) (fun c_5 => ?_) (fun c_5 => absurd c_5 (by decide))
  refine lv_aload_n hx hb dX10_addSizes_24 rfl (lv_at hl 0 rfl) ?_
  refine va_get (D := (dC, dI)) (ci := 13) (v := .ref l1) (C := RX10) (T := TX10) (N := 29) hx hb hts bk0 hown hK hP 0 rfl rfl 2 (by decide) (hts (.fieldLink RX10 14 "GradientDeskModel" "length" "[I") (List.mem_of_getElem? (i := 1) rfl)) (fun _ h9 => h9) h2 dX10_addSizes_25 ?_
  refine lv_iload_n hx hb dX10_addSizes_28 rfl (lv_at hl 3 rfl) ?_
  refine va_iald hx hb hK hP 2 1 rfl rfl (vp_in_nI (show r9 < 2068 by omega) (by decide)) dX10_addSizes_29 ?_
  refine lv_topi (fun x_6 e_7 => ?_)
  rw [nI_clamp (show r9 < 2 ^ 31 by omega)] at e_7
  obtain rfl : x_6 = nI 0 := e_7.trans (congrArg nI (hb9.zero.mpr rfl))
  refine lv_istore (lv' := [(4, .int (nI 0)), (0, .ref o), (1, .int (nI t9)), (2, .int (nI s9)), (3, .int (nI r9))]) hx hb dX10_addSizes_30 hl (by decide) rfl (fun ls hl => ?_)
  refine lv_lconst (v := lN 0) hx hb dX10_addSizes_32 (by decide +kernel) ?_
  refine lv_lstore (lv' := [(5, .long (lN 0)), (4, .int (nI 0)), (0, .ref o), (1, .int (nI t9)), (2, .int (nI s9)), (3, .int (nI r9))]) hx hb dX10_addSizes_33 hl (by decide) rfl (fun ls hl => ?_)
  refine lv_iconst (v := nI 0) hx hb dX10_addSizes_35 (by decide +kernel) ?_
  refine lv_istore (lv' := [(7, .int (nI 0)), (5, .long (lN 0)), (4, .int (nI 0)), (0, .ref o), (1, .int (nI t9)), (2, .int (nI s9)), (3, .int (nI r9))]) hx hb dX10_addSizes_36 hl (by decide) rfl (fun ls hl => ?_)
  refine lv_iload hx hb dX10_addSizes_38 (lv_at hl 0 rfl) ?_
  refine lv_iload hx hb dX10_addSizes_40 (lv_at hl 2 rfl) ?_
  refine lv_icmp_gt (tgt := 94) hx hb dX10_addSizes_42 (by decide) (fun c_8 => absurd c_8 (by decide)) (fun c_8 => ?_)
  refine lv_aload_n hx hb dX10_addSizes_45 rfl (lv_at hl 3 rfl) ?_
  refine lv_iload_n hx hb dX10_addSizes_46 rfl (lv_at hl 5 rfl) ?_
  refine lv_iload hx hb dX10_addSizes_47 (lv_at hl 0 rfl) ?_
  have hPc := hP.sub (ws' := [(o, .inr (13, fs)), (p1, .inl (cP, 165440, .inr (.inl (fun j => lN (pn j))))), (l1, .inl (cL, 2068, .inl (fun j => nI (ln j)))), (b1, .inl (cB, 2068, .inl (fun j => nI (bn j))))]) [0, 1, 2, 3] rfl
  have hDc := hD.sub (ws' := [(o, .inr (13, fs)), (p1, .inl (cP, 165440, .inr (.inl (fun j => lN (pn j))))), (l1, .inl (cL, 2068, .inl (fun j => nI (ln j)))), (b1, .inl (cB, 2068, .inl (fun j => nI (bn j))))]) [0, 1, 2, 3] (by decide) rfl
  have hKc := hK.sub (tys' := [(cP, .long), (cL, .int), (cB, .boolean)]) [0, 1, 2] rfl
  have hFc := va_free (wc := [(o, .inr (13, fs)), (p1, .inl (cP, 165440, .inr (.inl (fun j => lN (pn j))))), (l1, .inl (cL, 2068, .inl (fun j => nI (ln j)))), (b1, .inl (cB, 2068, .inl (fun j => nI (bn j))))]) hD hS hA [0, 1, 2, 3] rfl
  refine va_calll (va_runV (As := [.int (nI s9), .int (nI 0)]) (rest := []) ⟨hx, hb, hml, hown, hts⟩ (c_X10_piece l dC dI (va_A [(o, .inr (13, fs)), (p1, .inl (cP, 165440, .inr (.inl (fun j => lN (pn j))))), (l1, .inl (cL, 2068, .inl (fun j => nI (ln j)))), (b1, .inl (cB, 2068, .inl (fun j => nI (bn j))))] s.heap.size) s.heap.size (fun _ h => Or.inr h) o fs p1 l1 b1 cP cL cB pn ln bn s9 0 h1 h2 h3 hpn hln hbn (by omega) (by decide)) (cwV 2 hts (goodIn_app (goodIn_r [Cond.methodLink RX10 87 yX10_piece, Cond.instanceMethod yX10_piece, Cond.selects RX10 yX10_piece yX10_piece, Cond.initialized RX10] [2, 3, 4, 5] rfl rfl) (goodIn_sub (fun w9 h9 => bk1 w9 h9) gw_X10_piece)) rfl rfl rfl (by decide +kernel) ⟨Nat.le_of_ble_eq_true rfl, Nat.le_of_ble_eq_true rfl⟩) ⟨fun a U g mk q => by obtain ⟨q0, q1, qP, qK, qD⟩ := q; exact ⟨q0, q1, qP, va_K.moved (u := U) (U := U.calling g mk a) (Vm.Alike.refl U.vm) qK, qD⟩, va_recv hKc hPc (ci := 13) (q0 := 0) rfl rfl, fun U hU hW => ⟨rfl, by rw [hU], by rw [hU]; exact hPc, va_K.moved hW.alike hKc, hDc.self⟩⟩ rfl rfl hl.1 rfl (lv_room (Nat.le_of_ble_eq_true rfl)) dX10_addSizes_49 ⟨(Nat.le_of_ble_eq_true rfl), (Nat.le_of_ble_eq_true rfl)⟩) hS (fun q _ h => hFc q h) hFc (fun r_9 u t H1 locs ht hvm hw_10 hB hz1 hk1 hS => ?_)
  obtain ⟨⟩ := u
  obtain ⟨hP1, hK1, hD1⟩ := hB
  rw [ht] at hP1
  have hK1 := va_K.moved hvm.symm hK1
  try dsimp only at hw_10
  obtain ⟨hP, hD⟩ := va_join (wr := []) (w1 := [(o, .inr (13, fs)), (p1, .inl (cP, 165440, .inr (.inl (fun j => lN (pn j))))), (l1, .inl (cL, 2068, .inl (fun j => nI (ln j)))), (b1, .inl (cB, 2068, .inl (fun j => nI (bn j))))]) hP hD [0, 1, 2, 3] [] rfl rfl (by decide) (by decide) hk1 hFc hP1 hD1
  have hK := (hK.sub (tys' := []) [] rfl).app hK1
  generalize H1 = H at hP hS ⊢
  have hP : va_P (dC, dI) vwCl ([(o, .inr (13, fs)), (p1, .inl (cP, 165440, .inr (.inl (fun j => lN (pn j))))), (l1, .inl (cL, 2068, .inl (fun j => nI (ln j)))), (b1, .inl (cB, 2068, .inl (fun j => nI (bn j))))]) H := hP
  have hD : va_D A ([(o, .inr (13, fs)), (p1, .inl (cP, 165440, .inr (.inl (fun j => lN (pn j))))), (l1, .inl (cL, 2068, .inl (fun j => nI (ln j)))), (b1, .inl (cB, 2068, .inl (fun j => nI (bn j))))]) := hD
  have hK : va_K (dC, dI) vwCl [(cP, .long), (cL, .int), (cB, .boolean)] s := hK
  obtain rfl : r_9 = lN 0 := hw_10.trans (congrArg lN (ha.pc0))
  refine lv_aload_n hx hb dX10_addSizes_52 rfl (lv_at hl 3 rfl) ?_
  refine lv_iload_n hx hb dX10_addSizes_53 rfl (lv_at hl 6 rfl) ?_
  refine lv_iload hx hb dX10_addSizes_54 (lv_at hl 0 rfl) ?_
  have hPc := hP.sub (ws' := [(o, .inr (13, fs)), (p1, .inl (cP, 165440, .inr (.inl (fun j => lN (pn j))))), (l1, .inl (cL, 2068, .inl (fun j => nI (ln j)))), (b1, .inl (cB, 2068, .inl (fun j => nI (bn j))))]) [0, 1, 2, 3] rfl
  have hDc := hD.sub (ws' := [(o, .inr (13, fs)), (p1, .inl (cP, 165440, .inr (.inl (fun j => lN (pn j))))), (l1, .inl (cL, 2068, .inl (fun j => nI (ln j)))), (b1, .inl (cB, 2068, .inl (fun j => nI (bn j))))]) [0, 1, 2, 3] (by decide) rfl
  have hKc := hK.sub (tys' := [(cP, .long), (cL, .int), (cB, .boolean)]) [0, 1, 2] rfl
  have hFc := va_free (wc := [(o, .inr (13, fs)), (p1, .inl (cP, 165440, .inr (.inl (fun j => lN (pn j))))), (l1, .inl (cL, 2068, .inl (fun j => nI (ln j)))), (b1, .inl (cB, 2068, .inl (fun j => nI (bn j))))]) hD hS hA [0, 1, 2, 3] rfl
  refine va_calll (va_runV (As := [.int (nI r9), .int (nI 0)]) (rest := [.long (lN 0)]) ⟨hx, hb, hml, hown, hts⟩ (c_X10_piece l dC dI (va_A [(o, .inr (13, fs)), (p1, .inl (cP, 165440, .inr (.inl (fun j => lN (pn j))))), (l1, .inl (cL, 2068, .inl (fun j => nI (ln j)))), (b1, .inl (cB, 2068, .inl (fun j => nI (bn j))))] H.size) H.size (fun _ h => Or.inr h) o fs p1 l1 b1 cP cL cB pn ln bn r9 0 h1 h2 h3 hpn hln hbn (by omega) (by decide)) (cwV 2 hts (goodIn_app (goodIn_r [Cond.methodLink RX10 87 yX10_piece, Cond.instanceMethod yX10_piece, Cond.selects RX10 yX10_piece yX10_piece, Cond.initialized RX10] [2, 3, 4, 5] rfl rfl) (goodIn_sub (fun w9 h9 => bk1 w9 h9) gw_X10_piece)) rfl rfl rfl (by decide +kernel) ⟨Nat.le_of_ble_eq_true rfl, Nat.le_of_ble_eq_true rfl⟩) ⟨fun a U g mk q => by obtain ⟨q0, q1, qP, qK, qD⟩ := q; exact ⟨q0, q1, qP, va_K.moved (u := U) (U := U.calling g mk a) (Vm.Alike.refl U.vm) qK, qD⟩, va_recv hKc hPc (ci := 13) (q0 := 0) rfl rfl, fun U hU hW => ⟨rfl, by rw [hU], by rw [hU]; exact hPc, va_K.moved hW.alike hKc, hDc.self⟩⟩ rfl rfl hl.1 rfl (lv_room (Nat.le_of_ble_eq_true rfl)) dX10_addSizes_56 ⟨(Nat.le_of_ble_eq_true rfl), (Nat.le_of_ble_eq_true rfl)⟩) hS (fun q _ h => hFc q h) hFc (fun r_11 u t H1 locs ht hvm hw_12 hB hz1 hk1 hS => ?_)
  obtain ⟨⟩ := u
  obtain ⟨hP1, hK1, hD1⟩ := hB
  rw [ht] at hP1
  have hK1 := va_K.moved hvm.symm hK1
  try dsimp only at hw_12
  obtain ⟨hP, hD⟩ := va_join (wr := []) (w1 := [(o, .inr (13, fs)), (p1, .inl (cP, 165440, .inr (.inl (fun j => lN (pn j))))), (l1, .inl (cL, 2068, .inl (fun j => nI (ln j)))), (b1, .inl (cB, 2068, .inl (fun j => nI (bn j))))]) hP hD [0, 1, 2, 3] [] rfl rfl (by decide) (by decide) hk1 hFc hP1 hD1
  have hK := (hK.sub (tys' := []) [] rfl).app hK1
  generalize H1 = H at hP hS ⊢
  have hP : va_P (dC, dI) vwCl ([(o, .inr (13, fs)), (p1, .inl (cP, 165440, .inr (.inl (fun j => lN (pn j))))), (l1, .inl (cL, 2068, .inl (fun j => nI (ln j)))), (b1, .inl (cB, 2068, .inl (fun j => nI (bn j))))]) H := hP
  have hD : va_D A ([(o, .inr (13, fs)), (p1, .inl (cP, 165440, .inr (.inl (fun j => lN (pn j))))), (l1, .inl (cL, 2068, .inl (fun j => nI (ln j)))), (b1, .inl (cB, 2068, .inl (fun j => nI (bn j))))]) := hD
  have hK : va_K (dC, dI) vwCl [(cP, .long), (cL, .int), (cB, .boolean)] s := hK
  obtain rfl : r_11 = lN 0 := hw_12.trans (congrArg lN (hb9.pc0))
  refine lv_ladd hx hb dX10_addSizes_59 ?_
  refine lv_topl (fun y_13 e_14 => ?_)
  obtain rfl : y_13 = lN 0 := e_14.trans (lN_add 0 0)
  refine lv_lload hx hb dX10_addSizes_60 (lv_at hl 1 rfl) ?_
  refine lv_ladd hx hb dX10_addSizes_62 ?_
  refine lv_topl (fun y_15 e_16 => ?_)
  obtain rfl : y_15 = lN 0 := e_16.trans (lN_add 0 0)
  refine lv_lstore (lv' := [(8, .long (lN 0)), (7, .int (nI 0)), (5, .long (lN 0)), (4, .int (nI 0)), (0, .ref o), (1, .int (nI t9)), (2, .int (nI s9)), (3, .int (nI r9))]) hx hb dX10_addSizes_63 hl (by decide) rfl (fun ls hl => ?_)
  refine lv_aload_n hx hb dX10_addSizes_65 rfl (lv_at hl 4 rfl) ?_
  refine va_get (D := (dC, dI)) (ci := 13) (v := .ref p1) (C := RX10) (T := TX10) (N := 29) hx hb hts bk0 hown hK hP 0 rfl rfl 1 (by decide) (hts (.fieldLink RX10 8 "GradientDeskModel" "pieces" "[J") (List.mem_of_getElem? (i := 6) rfl)) (fun _ h9 => h9) h1 dX10_addSizes_66 ?_
  refine lv_ldc (v := 165280) hx hb hown (hts (.constant RX10 91 (165280)) (List.mem_of_getElem? (i := 7) rfl)) dX10_addSizes_69 ?_
  refine lv_iload hx hb dX10_addSizes_71 (lv_at hl 1 rfl) ?_
  refine lv_iadd hx hb dX10_addSizes_73 ?_
  refine lv_topi (fun x_17 e_18 => ?_)
  obtain rfl : x_17 = nI 165280 := e_18.trans (nI_add 165280 0)
  refine lv_lload hx hb dX10_addSizes_74 (lv_at hl 0 rfl) ?_
  refine lv_ldc2 (v := 4294967295) hx hb hown (hts (.constantLong RX10 81 (4294967295)) (List.mem_of_getElem? (i := 8) rfl)) dX10_addSizes_76 ?_
  refine lv_topl (fun y_19 e_20 => ?_)
  obtain rfl : y_19 = lN 4294967295 := e_20
  refine lv_land hx hb dX10_addSizes_79 ?_
  refine lv_topl (fun y_21 e_22 => ?_)
  obtain rfl : y_21 = lN 0 := e_22.trans (g_mask (a := 0) (s := 32) (p := 4294967296) (by decide) (by decide) (by omega))
  refine va_last hx hb hK hP hD hS 1 0 rfl rfl (vp_in_nI (show 165280 < 165440 by decide) (by decide)) dX10_addSizes_80 (fun H locs hP hD hS => ?_)
  rw [nI_clamp (show 165280 < 2 ^ 31 by decide)] at hP hD
  rw [k_updL] at hP hD
  have hb_23 : ∀ j, (va_up pn 165280 0) j < 4294967296 := k_up_lt hpn (by omega)
  have hP : va_P (dC, dI) vwCl ([(o, .inr (13, fs)), (p1, .inl (cP, 165440, .inr (.inl (fun j => lN ((va_up pn 165280 0) j))))), (l1, .inl (cL, 2068, .inl (fun j => nI (ln j)))), (b1, .inl (cB, 2068, .inl (fun j => nI (bn j))))]) H := hP
  have hD : va_D A ([(o, .inr (13, fs)), (p1, .inl (cP, 165440, .inr (.inl (fun j => lN ((va_up pn 165280 0) j))))), (l1, .inl (cL, 2068, .inl (fun j => nI (ln j)))), (b1, .inl (cB, 2068, .inl (fun j => nI (bn j))))]) := hD
  refine lv_lload hx hb dX10_addSizes_81 (lv_at hl 0 rfl) ?_
  refine lv_bipush (v := nI 32) hx hb dX10_addSizes_83 (by decide +kernel) ?_
  refine lv_lushr hx hb dX10_addSizes_85 rfl ?_
  refine lv_topl (fun y_24 e_25 => ?_)
  obtain rfl : y_24 = lN 0 := e_25.trans ((wb_shr (n := 0) (k := 32) (by omega) (by decide)).trans rfl)
  refine lv_lstore (lv' := [(5, .long (lN 0)), (8, .long (lN 0)), (7, .int (nI 0)), (4, .int (nI 0)), (0, .ref o), (1, .int (nI t9)), (2, .int (nI s9)), (3, .int (nI r9))]) hx hb dX10_addSizes_86 hl (by decide) rfl (fun ls hl => ?_)
  refine lv_iinc (v := nI 1) (lv' := [(7, .int (nI 1)), (5, .long (lN 0)), (8, .long (lN 0)), (4, .int (nI 0)), (0, .ref o), (1, .int (nI t9)), (2, .int (nI s9)), (3, .int (nI r9))]) hx hb dX10_addSizes_88 hl (k := 2) rfl (nI_add 0 1) (by decide) rfl (fun ls hl => ?_)
  refine lv_goto (tgt := 38) hx hb dX10_addSizes_91 (by decide) ?_
  refine lv_iload hx hb dX10_addSizes_38 (lv_at hl 0 rfl) ?_
  refine lv_iload hx hb dX10_addSizes_40 (lv_at hl 3 rfl) ?_
  refine lv_icmp_gt (tgt := 94) hx hb dX10_addSizes_42 (by decide) (fun c_28 => ?_) (fun c_28 => absurd c_28 (by decide))
  refine lv_aload_n hx hb dX10_addSizes_94 rfl (lv_at hl 4 rfl) ?_
  refine va_get (D := (dC, dI)) (ci := 13) (v := .ref l1) (C := RX10) (T := TX10) (N := 29) hx hb hts bk0 hown hK hP 0 rfl rfl 2 (by decide) (hts (.fieldLink RX10 14 "GradientDeskModel" "length" "[I") (List.mem_of_getElem? (i := 1) rfl)) (fun _ h9 => h9) h2 dX10_addSizes_95 ?_
  refine lv_sipush (v := nI 2066) hx hb dX10_addSizes_98 (by decide +kernel) ?_
  refine lv_iload hx hb dX10_addSizes_101 (lv_at hl 3 rfl) ?_
  refine lv_iconst (v := nI 1) hx hb dX10_addSizes_103 (by decide +kernel) ?_
  refine lv_iadd hx hb dX10_addSizes_104 ?_
  refine lv_topi (fun x_29 e_30 => ?_)
  obtain rfl : x_29 = nI 1 := e_30.trans (nI_add 0 1)
  refine va_iast hx hb hK hP hD hS 2 1 rfl rfl (vp_in_nI (show 2066 < 2068 by decide) (by decide)) dX10_addSizes_105 (fun H locs hP hD hS => ?_)
  rw [nI_clamp (show 2066 < 2 ^ 31 by decide)] at hP hD
  rw [k_updI] at hP hD
  have hb_31 : ∀ j, (va_up ln 2066 1) j < 81 := k_up_lt hln (by omega)
  have hP : va_P (dC, dI) vwCl ([(o, .inr (13, fs)), (p1, .inl (cP, 165440, .inr (.inl (fun j => lN ((va_up pn 165280 0) j))))), (l1, .inl (cL, 2068, .inl (fun j => nI ((va_up ln 2066 1) j)))), (b1, .inl (cB, 2068, .inl (fun j => nI (bn j))))]) H := hP
  have hD : va_D A ([(o, .inr (13, fs)), (p1, .inl (cP, 165440, .inr (.inl (fun j => lN ((va_up pn 165280 0) j))))), (l1, .inl (cL, 2068, .inl (fun j => nI ((va_up ln 2066 1) j)))), (b1, .inl (cB, 2068, .inl (fun j => nI (bn j))))]) := hD
  refine lv_aload_n hx hb dX10_addSizes_106 rfl (lv_at hl 4 rfl) ?_
  refine va_get (D := (dC, dI)) (ci := 13) (v := .ref b1) (C := RX10) (T := TX10) (N := 29) hx hb hts bk0 hown hK hP 0 rfl rfl 3 (by decide) (hts (.fieldLink RX10 18 "GradientDeskModel" "below" "[Z") (List.mem_of_getElem? (i := 9) rfl)) (fun _ h9 => h9) h3 dX10_addSizes_107 ?_
  refine lv_sipush (v := nI 2066) hx hb dX10_addSizes_110 (by decide +kernel) ?_
  refine lv_iconst (v := nI 0) hx hb dX10_addSizes_113 (by decide +kernel) ?_
  refine va_zast hx hb hK hP hD hS 3 2 rfl rfl (vp_in_nI (show 2066 < 2068 by decide) (by decide)) dX10_addSizes_114 (fun H locs hP hD hS => ?_)
  rw [nI_clamp (show 2066 < 2 ^ 31 by decide)] at hP hD
  rw [k_narZ (show 0 ≤ 1 by omega)] at hP hD
  rw [k_updI] at hP hD
  have hb_32 : ∀ j, (va_up bn 2066 0) j < 2 := k_up_lt hbn (by omega)
  have hP : va_P (dC, dI) vwCl ([(o, .inr (13, fs)), (p1, .inl (cP, 165440, .inr (.inl (fun j => lN ((va_up pn 165280 0) j))))), (l1, .inl (cL, 2068, .inl (fun j => nI ((va_up ln 2066 1) j)))), (b1, .inl (cB, 2068, .inl (fun j => nI ((va_up bn 2066 0) j))))]) H := hP
  have hD : va_D A ([(o, .inr (13, fs)), (p1, .inl (cP, 165440, .inr (.inl (fun j => lN ((va_up pn 165280 0) j))))), (l1, .inl (cL, 2068, .inl (fun j => nI ((va_up ln 2066 1) j)))), (b1, .inl (cB, 2068, .inl (fun j => nI ((va_up bn 2066 0) j))))]) := hD
  refine lv_aload_n hx hb dX10_addSizes_115 rfl (lv_at hl 4 rfl) ?_
  refine lv_sipush (v := nI 2066) hx hb dX10_addSizes_116 (by decide +kernel) ?_
  have hPc := hP.sub (ws' := [(o, .inr (13, fs)), (p1, .inl (cP, 165440, .inr (.inl (fun j => lN ((va_up pn 165280 0) j))))), (l1, .inl (cL, 2068, .inl (fun j => nI ((va_up ln 2066 1) j)))), (b1, .inl (cB, 2068, .inl (fun j => nI ((va_up bn 2066 0) j))))]) [0, 1, 2, 3] rfl
  have hDc := hD.sub (ws' := [(o, .inr (13, fs)), (p1, .inl (cP, 165440, .inr (.inl (fun j => lN ((va_up pn 165280 0) j))))), (l1, .inl (cL, 2068, .inl (fun j => nI ((va_up ln 2066 1) j)))), (b1, .inl (cB, 2068, .inl (fun j => nI ((va_up bn 2066 0) j))))]) [0, 1, 2, 3] (by decide) rfl
  have hKc := hK.sub (tys' := [(cP, .long), (cL, .int), (cB, .boolean)]) [0, 1, 2] rfl
  have hFc := va_free (wc := [(o, .inr (13, fs)), (p1, .inl (cP, 165440, .inr (.inl (fun j => lN ((va_up pn 165280 0) j))))), (l1, .inl (cL, 2068, .inl (fun j => nI ((va_up ln 2066 1) j)))), (b1, .inl (cB, 2068, .inl (fun j => nI ((va_up bn 2066 0) j))))]) hD hS hA [0, 1, 2, 3] rfl
  refine va_callv (va_runV (As := [.int (nI 2066)]) (rest := []) ⟨hx, hb, hml, hown, hts⟩ (c_X10_trim l dC dI (va_A [(o, .inr (13, fs)), (p1, .inl (cP, 165440, .inr (.inl (fun j => lN ((va_up pn 165280 0) j))))), (l1, .inl (cL, 2068, .inl (fun j => nI ((va_up ln 2066 1) j)))), (b1, .inl (cB, 2068, .inl (fun j => nI ((va_up bn 2066 0) j))))] H.size) H.size (fun _ h => Or.inr h) o fs p1 l1 b1 cP cL cB (va_up pn 165280 0) (va_up ln 2066 1) (va_up bn 2066 0) 2066 h1 h2 h3 hb_23 hb_31 hb_32 (by decide)) (cwV 1 hts (goodIn_app (goodIn_r [Cond.methodLink RX10 83 yX10_trim, Cond.instanceMethod yX10_trim, Cond.selects RX10 yX10_trim yX10_trim, Cond.initialized RX10] [10, 11, 12, 5] rfl rfl) (goodIn_sub (fun w9 h9 => bk2 w9 h9) gw_X10_trim)) rfl rfl rfl (by decide +kernel) ⟨Nat.le_of_ble_eq_true rfl, Nat.le_of_ble_eq_true rfl⟩) ⟨fun a U g mk q => by obtain ⟨q0, q1, qP, qK, qD⟩ := q; exact ⟨q0, q1, qP, va_K.moved (u := U) (U := U.calling g mk a) (Vm.Alike.refl U.vm) qK, qD⟩, va_recv hKc hPc (ci := 13) (q0 := 0) rfl rfl, fun U hU hW => ⟨rfl, by rw [hU], by rw [hU]; exact hPc, va_K.moved hW.alike hKc, hDc.self⟩⟩ rfl rfl hl.1 rfl (lv_room (Nat.le_of_ble_eq_true rfl)) dX10_addSizes_119 ⟨(Nat.le_of_ble_eq_true rfl), (Nat.le_of_ble_eq_true rfl)⟩) hS (fun q _ h => hFc q h) hFc (fun u t H1 locs ht hvm hw_33 hB hz1 hk1 hS => ?_)
  obtain ⟨pn2_34, ln2_35, bn2_36⟩ := u
  obtain ⟨hP1, hK1, hD1⟩ := hB
  rw [ht] at hP1
  have hK1 := va_K.moved hvm.symm hK1
  try dsimp only at hw_33
  obtain ⟨hP, hD⟩ := va_join (wr := []) (w1 := [(o, .inr (13, fs)), (p1, .inl (cP, 165440, .inr (.inl (fun j => lN (pn2_34 j))))), (l1, .inl (cL, 2068, .inl (fun j => nI (ln2_35 j)))), (b1, .inl (cB, 2068, .inl (fun j => nI (bn2_36 j))))]) hP hD [0, 1, 2, 3] [] rfl rfl (by decide) (by decide) hk1 hFc hP1 hD1
  have hK := (hK.sub (tys' := []) [] rfl).app hK1
  generalize H1 = H at hP hS ⊢
  have hP : va_P (dC, dI) vwCl ([(o, .inr (13, fs)), (p1, .inl (cP, 165440, .inr (.inl (fun j => lN (pn2_34 j))))), (l1, .inl (cL, 2068, .inl (fun j => nI (ln2_35 j)))), (b1, .inl (cB, 2068, .inl (fun j => nI (bn2_36 j))))]) H := hP
  have hD : va_D A ([(o, .inr (13, fs)), (p1, .inl (cP, 165440, .inr (.inl (fun j => lN (pn2_34 j))))), (l1, .inl (cL, 2068, .inl (fun j => nI (ln2_35 j)))), (b1, .inl (cB, 2068, .inl (fun j => nI (bn2_36 j))))]) := hD
  have hK : va_K (dC, dI) vwCl [(cP, .long), (cL, .int), (cB, .boolean)] s := hK
  obtain ⟨hb_37, hb_38, hb_39, hpq, m9, hm, hz, ht9, rfl, rfl⟩ := hw_33
  obtain rfl := hpq.symm
  have hl9 : (va_up ln 2066 1) 2066 = 1 := va_up_self _ _ _
  have hx9 : (va_up pn 165280 0) (80 * 2066) = 0 := (by simp [va_up])
  have hT : On1 (va_up pn 165280 0) (va_up (va_up ln 2066 1) 2066 m9) 2066 0 := k_On1_eq (k_ltrim (Or.inl (by omega)) hm hz ht9) (by rw [hl9, if_neg (show ¬ 1 = 0 by decide), hx9])
  have f9 : Fr9 [2066] pn ln (va_up pn 165280 0) (va_up (va_up ln 2066 1) 2066 m9) := (by intro j hj; simp only [List.mem_cons, List.not_mem_nil, or_false, not_or] at hj; constructor <;> first | rfl | (simp only [va_up]; (repeat' split) <;> first | rfl | omega))
  have zb9 : ∀ j, (va_up (va_up bn 2066 0) 2066 (if m9 = 0 then 0 else (va_up bn 2066 0) 2066)) j = 0 := by intro j; simp only [va_up]; (repeat' split) <;> first | rfl | exact hB _ | omega
  refine lv_aload_n hx hb dX10_addSizes_122 rfl (lv_at hl 4 rfl) ?_
  refine lv_iload_n hx hb dX10_addSizes_123 rfl (lv_at hl 5 rfl) ?_
  refine lv_sipush (v := nI 2066) hx hb dX10_addSizes_124 (by decide +kernel) ?_
  have hPc := hP.sub (ws' := [(o, .inr (13, fs)), (p1, .inl (cP, 165440, .inr (.inl (fun j => lN ((va_up pn 165280 0) j))))), (l1, .inl (cL, 2068, .inl (fun j => nI ((va_up (va_up ln 2066 1) 2066 m9) j)))), (b1, .inl (cB, 2068, .inl (fun j => nI ((va_up (va_up bn 2066 0) 2066 (if m9 = 0 then 0 else (va_up bn 2066 0) 2066)) j))))]) [0, 1, 2, 3] rfl
  have hDc := hD.sub (ws' := [(o, .inr (13, fs)), (p1, .inl (cP, 165440, .inr (.inl (fun j => lN ((va_up pn 165280 0) j))))), (l1, .inl (cL, 2068, .inl (fun j => nI ((va_up (va_up ln 2066 1) 2066 m9) j)))), (b1, .inl (cB, 2068, .inl (fun j => nI ((va_up (va_up bn 2066 0) 2066 (if m9 = 0 then 0 else (va_up bn 2066 0) 2066)) j))))]) [0, 1, 2, 3] (by decide) rfl
  have hKc := hK.sub (tys' := [(cP, .long), (cL, .int), (cB, .boolean)]) [0, 1, 2] rfl
  have hFc := va_free (wc := [(o, .inr (13, fs)), (p1, .inl (cP, 165440, .inr (.inl (fun j => lN ((va_up pn 165280 0) j))))), (l1, .inl (cL, 2068, .inl (fun j => nI ((va_up (va_up ln 2066 1) 2066 m9) j)))), (b1, .inl (cB, 2068, .inl (fun j => nI ((va_up (va_up bn 2066 0) 2066 (if m9 = 0 then 0 else (va_up bn 2066 0) 2066)) j))))]) hD hS hA [0, 1, 2, 3] rfl
  refine va_callv (va_runV (As := [.int (nI t9), .int (nI 2066)]) (rest := []) ⟨hx, hb, hml, hown, hts⟩ (c_X10_copy l dC dI (va_A [(o, .inr (13, fs)), (p1, .inl (cP, 165440, .inr (.inl (fun j => lN ((va_up pn 165280 0) j))))), (l1, .inl (cL, 2068, .inl (fun j => nI ((va_up (va_up ln 2066 1) 2066 m9) j)))), (b1, .inl (cB, 2068, .inl (fun j => nI ((va_up (va_up bn 2066 0) 2066 (if m9 = 0 then 0 else (va_up bn 2066 0) 2066)) j))))] H.size) H.size (fun _ h => Or.inr h) o fs p1 l1 b1 cP cL cB (va_up pn 165280 0) (va_up (va_up ln 2066 1) 2066 m9) (va_up (va_up bn 2066 0) 2066 (if m9 = 0 then 0 else (va_up bn 2066 0) 2066)) t9 2066 0 h1 h2 h3 hb_37 hb_38 hb_39 (by omega) (by decide) hT) (cwV 2 hts (goodIn_app (goodIn_r [Cond.methodLink RX10 92 yX10_copy, Cond.instanceMethod yX10_copy, Cond.selects RX10 yX10_copy yX10_copy, Cond.initialized RX10] [13, 14, 15, 5] rfl rfl) (goodIn_sub (fun w9 h9 => bk3 w9 h9) gw_X10_copy)) rfl rfl rfl (by decide +kernel) ⟨Nat.le_of_ble_eq_true rfl, Nat.le_of_ble_eq_true rfl⟩) ⟨fun a U g mk q => by obtain ⟨q0, q1, qP, qK, qD⟩ := q; exact ⟨q0, q1, qP, va_K.moved (u := U) (U := U.calling g mk a) (Vm.Alike.refl U.vm) qK, qD⟩, va_recv hKc hPc (ci := 13) (q0 := 0) rfl rfl, fun U hU hW => ⟨rfl, by rw [hU], by rw [hU]; exact hPc, va_K.moved hW.alike hKc, hDc.self⟩⟩ rfl rfl hl.1 rfl (lv_room (Nat.le_of_ble_eq_true rfl)) dX10_addSizes_127 ⟨(Nat.le_of_ble_eq_true rfl), (Nat.le_of_ble_eq_true rfl)⟩) hS (fun q _ h => hFc q h) hFc (fun u t H1 locs ht hvm hw_41 hB hz1 hk1 hS => ?_)
  obtain ⟨pn2_42, ln2_43, bn2_44⟩ := u
  obtain ⟨hP1, hK1, hD1⟩ := hB
  rw [ht] at hP1
  have hK1 := va_K.moved hvm.symm hK1
  try dsimp only at hw_41
  obtain ⟨hP, hD⟩ := va_join (wr := []) (w1 := [(o, .inr (13, fs)), (p1, .inl (cP, 165440, .inr (.inl (fun j => lN (pn2_42 j))))), (l1, .inl (cL, 2068, .inl (fun j => nI (ln2_43 j)))), (b1, .inl (cB, 2068, .inl (fun j => nI (bn2_44 j))))]) hP hD [0, 1, 2, 3] [] rfl rfl (by decide) (by decide) hk1 hFc hP1 hD1
  have hK := (hK.sub (tys' := []) [] rfl).app hK1
  generalize H1 = H at hP hS ⊢
  have hP : va_P (dC, dI) vwCl ([(o, .inr (13, fs)), (p1, .inl (cP, 165440, .inr (.inl (fun j => lN (pn2_42 j))))), (l1, .inl (cL, 2068, .inl (fun j => nI (ln2_43 j)))), (b1, .inl (cB, 2068, .inl (fun j => nI (bn2_44 j))))]) H := hP
  have hD : va_D A ([(o, .inr (13, fs)), (p1, .inl (cP, 165440, .inr (.inl (fun j => lN (pn2_42 j))))), (l1, .inl (cL, 2068, .inl (fun j => nI (ln2_43 j)))), (b1, .inl (cB, 2068, .inl (fun j => nI (bn2_44 j))))]) := hD
  have hK : va_K (dC, dI) vwCl [(cP, .long), (cL, .int), (cB, .boolean)] s := hK
  obtain ⟨hb_45, hb_46, hb_47, rel_48⟩ := hw_41
  have rel9 := rel_48
  have st9 := f9.tr (S := [t9, 2066]) rel9.1 (fun j h => by simp at h ⊢; omega) (fun j h => by simp at h ⊢; omega)
  have hP9 := hP.sub (ws' := [(o, .inr (13, fs)), (p1, .inl (cP, 165440, .inr (.inl (fun j => lN (pn2_42 j))))), (l1, .inl (cL, 2068, .inl (fun j => nI (ln2_43 j)))), (b1, .inl (cB, 2068, .inl (fun j => nI (bn2_44 j))))]) [0, 1, 2, 3] rfl
  have hD9 := hD.sub (ws' := [(o, .inr (13, fs)), (p1, .inl (cP, 165440, .inr (.inl (fun j => lN (pn2_42 j))))), (l1, .inl (cL, 2068, .inl (fun j => nI (ln2_43 j)))), (b1, .inl (cB, 2068, .inl (fun j => nI (bn2_44 j))))]) [0, 1, 2, 3] (by decide) rfl
  have hK9 := hK.sub (tys' := [(cP, .long), (cL, .int), (cB, .boolean)]) [0, 1, 2] rfl
  refine W.widen (k := 0) (n := 0) (by omega) (by omega) ?_
  exact W.vret hx hb hr (fun t ht hW => ⟨⟨(pn2_42, ln2_43, bn2_44), rfl, ⟨hb_45, hb_46, hb_47, st9, rel9.2.1, rel9.2.2 zb9⟩, by rw [ht]; exact hP9, va_K.moved hW.alike hK9, hD9⟩, hS.F ht⟩) hS.2.2 dX10_addSizes_130
def wd_X10_add0 : List Cond := .code yX10_add cX10_add 6 none :: (([.fieldLink RX10 18 "GradientDeskModel" "below" "[Z", .methodLink RX10 96 yX10_addSizes, .instanceMethod yX10_addSizes, .selects RX10 yX10_addSizes yX10_addSizes, .initialized RX10, .methodLink RX10 83 yX10_trim, .instanceMethod yX10_trim, .selects RX10 yX10_trim yX10_trim] : List Cond) ++ (u_ws RX10 TX10 29 ++ (wd_X10_addS0 ++ (wd_X10_trim ++ ([])))))
theorem gw_X10_add0 : wd_X10_add0.all goodWord = true := k_allc rfl (k_all (by decide +kernel) (k_all (gu_X10) (k_all (gw_X10_addS0) (k_all (gw_X10_trim) (rfl)))))
abbrev at_X10_add0 (dC : Nat → ClassId) (dI : Nat → Nat → Nat) (A : Nat → Prop) (o : Nat) (fs : List Value) (p1 : Nat) (l1 : Nat) (b1 : Nat) (cP : ClassId) (cL : ClassId) (cB : ClassId) (pn : Nat → Nat) (ln : Nat → Nat) (bn : Nat → Nat) (t9 : Nat) (s9 : Nat) (r9 : Nat) (u : (Nat → Nat) × (Nat → Nat) × (Nat → Nat)) (t : State) : Prop := match u with
  | (pn2, ln2, bn2) => va_P (dC, dI) vwCl [(o, .inr (13, fs)), (p1, .inl (cP, 165440, .inr (.inl (fun j => lN (pn2 j))))), (l1, .inl (cL, 2068, .inl (fun j => nI (ln2 j)))), (b1, .inl (cB, 2068, .inl (fun j => nI (bn2 j))))] t.heap ∧ va_K (dC, dI) vwCl [(cP, .long), (cL, .int), (cB, .boolean)] t ∧ va_D A [(o, .inr (13, fs)), (p1, .inl (cP, 165440, .inr (.inl (fun j => lN (pn2 j))))), (l1, .inl (cL, 2068, .inl (fun j => nI (ln2 j)))), (b1, .inl (cB, 2068, .inl (fun j => nI (bn2 j))))]
set_option maxHeartbeats 4000000 in
set_option maxRecDepth 100000 in
theorem c_X10_add0 (l : Launch) (dC : Nat → ClassId) (dI : Nat → Nat → Nat) (A : Nat → Prop) (sz : Nat) (hA0 : ∀ q, sz ≤ q → A q) (o : Nat) (fs : List Value) (p1 : Nat) (l1 : Nat) (b1 : Nat) (cP : ClassId) (cL : ClassId) (cB : ClassId) (pn : Nat → Nat) (ln : Nat → Nat) (bn : Nat → Nat) (t9 : Nat) (s9 : Nat) (r9 : Nat) (h1 : fs[1]? = some (.ref p1)) (h2 : fs[2]? = some (.ref l1)) (h3 : fs[3]? = some (.ref b1)) (hpn : ∀ j, pn j < 4294967296) (hln : ∀ j, ln j < 81) (hbn : ∀ j, bn j < 2) (htq : t9 < 2066) (hs : s9 < 2066) (hr9 : r9 < 2066) (ha : On1 pn ln s9 0) (hb9 : On1 pn ln r9 0) (hB : ∀ j, bn j = 0) : Met l yX10_add wd_X10_add0 ({ frames := 40, cells := 0, slots := 0, locals := 800 }) (va_Pc [.ref o, .int (nI t9), .int (nI s9), .int (nI r9)] (fun U => U.heap.size = sz ∧ va_P (dC, dI) vwCl [(o, .inr (13, fs)), (p1, .inl (cP, 165440, .inr (.inl (fun j => lN (pn j))))), (l1, .inl (cL, 2068, .inl (fun j => nI (ln j)))), (b1, .inl (cB, 2068, .inl (fun j => nI (bn j))))] U.heap ∧ va_K (dC, dI) vwCl [(cP, .long), (cL, .int), (cB, .boolean)] U ∧ va_D A [(o, .inr (13, fs)), (p1, .inl (cP, 165440, .inr (.inl (fun j => lN (pn j))))), (l1, .inl (cL, 2068, .inl (fun j => nI (ln j)))), (b1, .inl (cB, 2068, .inl (fun j => nI (bn j))))])) (va_Qv (fun (u : (Nat → Nat) × (Nat → Nat) × (Nat → Nat)) => match u with | (pn2, ln2, bn2) => (∀ j, pn2 j < 4294967296) ∧ (∀ j, ln2 j < 81) ∧ (∀ j, bn2 j < 2) ∧ (Fr9 [t9, 2066] pn ln pn2 ln2 ∧ On1 pn2 ln2 t9 0 ∧ (∀ j, bn2 j = 0))) (at_X10_add0 dC dI A o fs p1 l1 b1 cP cL cB pn ln bn t9 s9 r9) A) (0) (0) A := by
  refine Met.ofW (cc := cX10_add) (maxL := 6) (ret := none) (by decide) rfl ?_
  intro p e s m args below meth c s₁ B hml hv
  obtain ⟨rfl, hsz, hP, hK, hD⟩ := hv
  have hx := B.exec
  have hb := B.bytes
  have hr := B.returns
  have hts := atoms_spec (ws := wd_X10_add0) B.pre
  have hown : s.vm.findClass RX10 = some m.cls := findClass_of_methodNamed B.named
  have hlocks := B.notSynchronized
  have bk0 : ∀ w ∈ u_ws RX10 TX10 29, w ∈ wd_X10_add0 := fun _ h => List.mem_cons_of_mem _ (List.mem_append_right _ (List.mem_append_left _ h))
  have bk1 : ∀ w ∈ wd_X10_addS0, w ∈ wd_X10_add0 := fun _ h => List.mem_cons_of_mem _ (List.mem_append_right _ (List.mem_append_right _ (List.mem_append_left _ h)))
  have bk2 : ∀ w ∈ wd_X10_trim, w ∈ wd_X10_add0 := fun _ h => List.mem_cons_of_mem _ (List.mem_append_right _ (List.mem_append_right _ (List.mem_append_right _ (List.mem_append_left _ h))))
  subst hsz
  have hA : ∀ q : Nat, s.heap.size ≤ q → A q := hA0
  have hS : va_S A s.heap s.heap [] := va_S.rf
  have hl := lv_entry ([.ref o, .int (nI t9), .int (nI s9), .int (nI r9)]) (n := 6) (Nat.le_of_ble_eq_true rfl)
  rw [lg_entry_eq]
  generalize (lg_sl ([.ref o, .int (nI t9), .int (nI s9), .int (nI r9)]) ++ List.replicate (6 - (lg_sl ([.ref o, .int (nI t9), .int (nI s9), .int (nI r9)])).length) Slot.unset).toArray = ls at hl ⊢
  have hl : lv_has ls 6 [(0, .ref o), (1, .int (nI t9)), (2, .int (nI s9)), (3, .int (nI r9))] := hl
  refine lv_aload_n hx hb dX10_add_0 rfl (lv_at hl 0 rfl) ?_
  refine va_get (D := (dC, dI)) (ci := 13) (v := .ref b1) (C := RX10) (T := TX10) (N := 29) hx hb hts bk0 hown hK hP 0 rfl rfl 3 (by decide) (hts (.fieldLink RX10 18 "GradientDeskModel" "below" "[Z") (List.mem_of_getElem? (i := 1) rfl)) (fun _ h9 => h9) h3 dX10_add_1 ?_
  refine lv_iload_n hx hb dX10_add_4 rfl (lv_at hl 2 rfl) ?_
  refine va_zald hx hb hK hP 3 2 rfl rfl (vp_in_nI (show s9 < 2068 by omega) (by decide)) dX10_add_5 ?_
  refine lv_topi (fun x_1 e_2 => ?_)
  rw [nI_clamp (show s9 < 2 ^ 31 by omega)] at e_2
  obtain rfl : x_1 = nI 0 := e_2.trans (congrArg nI (hB _))
  refine lv_istore (lv' := [(4, .int (nI 0)), (0, .ref o), (1, .int (nI t9)), (2, .int (nI s9)), (3, .int (nI r9))]) hx hb dX10_add_6 hl (by decide) rfl (fun ls hl => ?_)
  refine lv_aload_n hx hb dX10_add_8 rfl (lv_at hl 1 rfl) ?_
  refine va_get (D := (dC, dI)) (ci := 13) (v := .ref b1) (C := RX10) (T := TX10) (N := 29) hx hb hts bk0 hown hK hP 0 rfl rfl 3 (by decide) (hts (.fieldLink RX10 18 "GradientDeskModel" "below" "[Z") (List.mem_of_getElem? (i := 1) rfl)) (fun _ h9 => h9) h3 dX10_add_9 ?_
  refine lv_iload_n hx hb dX10_add_12 rfl (lv_at hl 4 rfl) ?_
  refine va_zald hx hb hK hP 3 2 rfl rfl (vp_in_nI (show r9 < 2068 by omega) (by decide)) dX10_add_13 ?_
  refine lv_topi (fun x_3 e_4 => ?_)
  rw [nI_clamp (show r9 < 2 ^ 31 by omega)] at e_4
  obtain rfl : x_3 = nI 0 := e_4.trans (congrArg nI (hB _))
  refine lv_istore (lv' := [(5, .int (nI 0)), (4, .int (nI 0)), (0, .ref o), (1, .int (nI t9)), (2, .int (nI s9)), (3, .int (nI r9))]) hx hb dX10_add_14 hl (by decide) rfl (fun ls hl => ?_)
  refine lv_iload hx hb dX10_add_16 (lv_at hl 1 rfl) ?_
  refine lv_iload hx hb dX10_add_18 (lv_at hl 0 rfl) ?_
  refine lv_icmp_ne (tgt := 41) hx hb dX10_add_20 (by decide) (fun c_5 => absurd c_5 (by decide)) (fun c_5 => ?_)
  refine lv_aload_n hx hb dX10_add_23 rfl (lv_at hl 2 rfl) ?_
  refine lv_iload_n hx hb dX10_add_24 rfl (lv_at hl 3 rfl) ?_
  refine lv_iload_n hx hb dX10_add_25 rfl (lv_at hl 4 rfl) ?_
  refine lv_iload_n hx hb dX10_add_26 rfl (lv_at hl 5 rfl) ?_
  have hPc := hP.sub (ws' := [(o, .inr (13, fs)), (p1, .inl (cP, 165440, .inr (.inl (fun j => lN (pn j))))), (l1, .inl (cL, 2068, .inl (fun j => nI (ln j)))), (b1, .inl (cB, 2068, .inl (fun j => nI (bn j))))]) [0, 1, 2, 3] rfl
  have hDc := hD.sub (ws' := [(o, .inr (13, fs)), (p1, .inl (cP, 165440, .inr (.inl (fun j => lN (pn j))))), (l1, .inl (cL, 2068, .inl (fun j => nI (ln j)))), (b1, .inl (cB, 2068, .inl (fun j => nI (bn j))))]) [0, 1, 2, 3] (by decide) rfl
  have hKc := hK.sub (tys' := [(cP, .long), (cL, .int), (cB, .boolean)]) [0, 1, 2] rfl
  have hFc := va_free (wc := [(o, .inr (13, fs)), (p1, .inl (cP, 165440, .inr (.inl (fun j => lN (pn j))))), (l1, .inl (cL, 2068, .inl (fun j => nI (ln j)))), (b1, .inl (cB, 2068, .inl (fun j => nI (bn j))))]) hD hS hA [0, 1, 2, 3] rfl
  refine va_callv (va_runV (As := [.int (nI t9), .int (nI s9), .int (nI r9)]) (rest := []) ⟨hx, hb, hml, hown, hts⟩ (c_X10_addS0 l dC dI (va_A [(o, .inr (13, fs)), (p1, .inl (cP, 165440, .inr (.inl (fun j => lN (pn j))))), (l1, .inl (cL, 2068, .inl (fun j => nI (ln j)))), (b1, .inl (cB, 2068, .inl (fun j => nI (bn j))))] s.heap.size) s.heap.size (fun _ h => Or.inr h) o fs p1 l1 b1 cP cL cB pn ln bn t9 s9 r9 h1 h2 h3 hpn hln hbn htq hs hr9 ha hb9 hB) (cwV 3 hts (goodIn_app (goodIn_r [Cond.methodLink RX10 96 yX10_addSizes, Cond.instanceMethod yX10_addSizes, Cond.selects RX10 yX10_addSizes yX10_addSizes, Cond.initialized RX10] [2, 3, 4, 5] rfl rfl) (goodIn_sub (fun w9 h9 => bk1 w9 h9) gw_X10_addS0)) rfl rfl rfl (by decide +kernel) ⟨Nat.le_of_ble_eq_true rfl, Nat.le_of_ble_eq_true rfl⟩) ⟨fun a U g mk q => by obtain ⟨q0, q1, qP, qK, qD⟩ := q; exact ⟨q0, q1, qP, va_K.moved (u := U) (U := U.calling g mk a) (Vm.Alike.refl U.vm) qK, qD⟩, va_recv hKc hPc (ci := 13) (q0 := 0) rfl rfl, fun U hU hW => ⟨rfl, by rw [hU], by rw [hU]; exact hPc, va_K.moved hW.alike hKc, hDc.self⟩⟩ rfl rfl hl.1 rfl (lv_room (Nat.le_of_ble_eq_true rfl)) dX10_add_27 ⟨(Nat.le_of_ble_eq_true rfl), (Nat.le_of_ble_eq_true rfl)⟩) hS (fun q _ h => hFc q h) hFc (fun u t H1 locs ht hvm hw_6 hB hz1 hk1 hS => ?_)
  obtain ⟨pn2_7, ln2_8, bn2_9⟩ := u
  obtain ⟨hP1, hK1, hD1⟩ := hB
  rw [ht] at hP1
  have hK1 := va_K.moved hvm.symm hK1
  try dsimp only at hw_6
  obtain ⟨hP, hD⟩ := va_join (wr := []) (w1 := [(o, .inr (13, fs)), (p1, .inl (cP, 165440, .inr (.inl (fun j => lN (pn2_7 j))))), (l1, .inl (cL, 2068, .inl (fun j => nI (ln2_8 j)))), (b1, .inl (cB, 2068, .inl (fun j => nI (bn2_9 j))))]) hP hD [0, 1, 2, 3] [] rfl rfl (by decide) (by decide) hk1 hFc hP1 hD1
  have hK := (hK.sub (tys' := []) [] rfl).app hK1
  generalize H1 = H at hP hS ⊢
  have hP : va_P (dC, dI) vwCl ([(o, .inr (13, fs)), (p1, .inl (cP, 165440, .inr (.inl (fun j => lN (pn2_7 j))))), (l1, .inl (cL, 2068, .inl (fun j => nI (ln2_8 j)))), (b1, .inl (cB, 2068, .inl (fun j => nI (bn2_9 j))))]) H := hP
  have hD : va_D A ([(o, .inr (13, fs)), (p1, .inl (cP, 165440, .inr (.inl (fun j => lN (pn2_7 j))))), (l1, .inl (cL, 2068, .inl (fun j => nI (ln2_8 j)))), (b1, .inl (cB, 2068, .inl (fun j => nI (bn2_9 j))))]) := hD
  have hK : va_K (dC, dI) vwCl [(cP, .long), (cL, .int), (cB, .boolean)] s := hK
  obtain ⟨hb_10, hb_11, hb_12, rel_13⟩ := hw_6
  obtain ⟨f9, ot, zb8⟩ := rel_13
  refine lv_aload_n hx hb dX10_add_30 rfl (lv_at hl 2 rfl) ?_
  refine va_get (D := (dC, dI)) (ci := 13) (v := .ref b1) (C := RX10) (T := TX10) (N := 29) hx hb hts bk0 hown hK hP 0 rfl rfl 3 (by decide) (hts (.fieldLink RX10 18 "GradientDeskModel" "below" "[Z") (List.mem_of_getElem? (i := 1) rfl)) (fun _ h9 => h9) h3 dX10_add_31 ?_
  refine lv_iload_n hx hb dX10_add_34 rfl (lv_at hl 3 rfl) ?_
  refine lv_iload hx hb dX10_add_35 (lv_at hl 1 rfl) ?_
  refine va_zast hx hb hK hP hD hS 3 2 rfl rfl (vp_in_nI (show t9 < 2068 by omega) (by decide)) dX10_add_37 (fun H locs hP hD hS => ?_)
  rw [nI_clamp (show t9 < 2 ^ 31 by omega)] at hP hD
  rw [k_narZ (show 0 ≤ 1 by omega)] at hP hD
  rw [k_updI] at hP hD
  have hb_14 : ∀ j, (va_up bn2_9 t9 0) j < 2 := k_up_lt hb_12 (by omega)
  have hP : va_P (dC, dI) vwCl ([(o, .inr (13, fs)), (p1, .inl (cP, 165440, .inr (.inl (fun j => lN (pn2_7 j))))), (l1, .inl (cL, 2068, .inl (fun j => nI (ln2_8 j)))), (b1, .inl (cB, 2068, .inl (fun j => nI ((va_up bn2_9 t9 0) j))))]) H := hP
  have hD : va_D A ([(o, .inr (13, fs)), (p1, .inl (cP, 165440, .inr (.inl (fun j => lN (pn2_7 j))))), (l1, .inl (cL, 2068, .inl (fun j => nI (ln2_8 j)))), (b1, .inl (cB, 2068, .inl (fun j => nI ((va_up bn2_9 t9 0) j))))]) := hD
  refine lv_goto (tgt := 83) hx hb dX10_add_38 (by decide) ?_
  refine lv_aload_n hx hb dX10_add_83 rfl (lv_at hl 2 rfl) ?_
  refine lv_iload_n hx hb dX10_add_84 rfl (lv_at hl 3 rfl) ?_
  have hPc := hP.sub (ws' := [(o, .inr (13, fs)), (p1, .inl (cP, 165440, .inr (.inl (fun j => lN (pn2_7 j))))), (l1, .inl (cL, 2068, .inl (fun j => nI (ln2_8 j)))), (b1, .inl (cB, 2068, .inl (fun j => nI ((va_up bn2_9 t9 0) j))))]) [0, 1, 2, 3] rfl
  have hDc := hD.sub (ws' := [(o, .inr (13, fs)), (p1, .inl (cP, 165440, .inr (.inl (fun j => lN (pn2_7 j))))), (l1, .inl (cL, 2068, .inl (fun j => nI (ln2_8 j)))), (b1, .inl (cB, 2068, .inl (fun j => nI ((va_up bn2_9 t9 0) j))))]) [0, 1, 2, 3] (by decide) rfl
  have hKc := hK.sub (tys' := [(cP, .long), (cL, .int), (cB, .boolean)]) [0, 1, 2] rfl
  have hFc := va_free (wc := [(o, .inr (13, fs)), (p1, .inl (cP, 165440, .inr (.inl (fun j => lN (pn2_7 j))))), (l1, .inl (cL, 2068, .inl (fun j => nI (ln2_8 j)))), (b1, .inl (cB, 2068, .inl (fun j => nI ((va_up bn2_9 t9 0) j))))]) hD hS hA [0, 1, 2, 3] rfl
  refine va_callv (va_runV (As := [.int (nI t9)]) (rest := []) ⟨hx, hb, hml, hown, hts⟩ (c_X10_trim l dC dI (va_A [(o, .inr (13, fs)), (p1, .inl (cP, 165440, .inr (.inl (fun j => lN (pn2_7 j))))), (l1, .inl (cL, 2068, .inl (fun j => nI (ln2_8 j)))), (b1, .inl (cB, 2068, .inl (fun j => nI ((va_up bn2_9 t9 0) j))))] H.size) H.size (fun _ h => Or.inr h) o fs p1 l1 b1 cP cL cB pn2_7 ln2_8 (va_up bn2_9 t9 0) t9 h1 h2 h3 hb_10 hb_11 hb_14 (by omega)) (cwV 1 hts (goodIn_app (goodIn_r [Cond.methodLink RX10 83 yX10_trim, Cond.instanceMethod yX10_trim, Cond.selects RX10 yX10_trim yX10_trim, Cond.initialized RX10] [6, 7, 8, 5] rfl rfl) (goodIn_sub (fun w9 h9 => bk2 w9 h9) gw_X10_trim)) rfl rfl rfl (by decide +kernel) ⟨Nat.le_of_ble_eq_true rfl, Nat.le_of_ble_eq_true rfl⟩) ⟨fun a U g mk q => by obtain ⟨q0, q1, qP, qK, qD⟩ := q; exact ⟨q0, q1, qP, va_K.moved (u := U) (U := U.calling g mk a) (Vm.Alike.refl U.vm) qK, qD⟩, va_recv hKc hPc (ci := 13) (q0 := 0) rfl rfl, fun U hU hW => ⟨rfl, by rw [hU], by rw [hU]; exact hPc, va_K.moved hW.alike hKc, hDc.self⟩⟩ rfl rfl hl.1 rfl (lv_room (Nat.le_of_ble_eq_true rfl)) dX10_add_85 ⟨(Nat.le_of_ble_eq_true rfl), (Nat.le_of_ble_eq_true rfl)⟩) hS (fun q _ h => hFc q h) hFc (fun u t H1 locs ht hvm hw_15 hB hz1 hk1 hS => ?_)
  obtain ⟨pn2_16, ln2_17, bn2_18⟩ := u
  obtain ⟨hP1, hK1, hD1⟩ := hB
  rw [ht] at hP1
  have hK1 := va_K.moved hvm.symm hK1
  try dsimp only at hw_15
  obtain ⟨hP, hD⟩ := va_join (wr := []) (w1 := [(o, .inr (13, fs)), (p1, .inl (cP, 165440, .inr (.inl (fun j => lN (pn2_16 j))))), (l1, .inl (cL, 2068, .inl (fun j => nI (ln2_17 j)))), (b1, .inl (cB, 2068, .inl (fun j => nI (bn2_18 j))))]) hP hD [0, 1, 2, 3] [] rfl rfl (by decide) (by decide) hk1 hFc hP1 hD1
  have hK := (hK.sub (tys' := []) [] rfl).app hK1
  generalize H1 = H at hP hS ⊢
  have hP : va_P (dC, dI) vwCl ([(o, .inr (13, fs)), (p1, .inl (cP, 165440, .inr (.inl (fun j => lN (pn2_16 j))))), (l1, .inl (cL, 2068, .inl (fun j => nI (ln2_17 j)))), (b1, .inl (cB, 2068, .inl (fun j => nI (bn2_18 j))))]) H := hP
  have hD : va_D A ([(o, .inr (13, fs)), (p1, .inl (cP, 165440, .inr (.inl (fun j => lN (pn2_16 j))))), (l1, .inl (cL, 2068, .inl (fun j => nI (ln2_17 j)))), (b1, .inl (cB, 2068, .inl (fun j => nI (bn2_18 j))))]) := hD
  have hK : va_K (dC, dI) vwCl [(cP, .long), (cL, .int), (cB, .boolean)] s := hK
  obtain ⟨hb_19, hb_20, hb_21, hpq, m9, hm, hz, ht9, rfl, rfl⟩ := hw_15
  obtain rfl := hpq.symm
  have hl9 : ln2_8 t9 = 0 := ot.zero.mpr rfl
  have hT : On1 pn2_7 (va_up ln2_8 t9 m9) t9 0 := k_On1_eq (k_ltrim (Or.inl (by omega)) hm hz ht9) (by rw [hl9]; rfl)
  have f7 : Fr9 [t9] pn2_7 ln2_8 pn2_7 (va_up ln2_8 t9 m9) := (by intro j hj; simp only [List.mem_cons, List.not_mem_nil, or_false, not_or] at hj; constructor <;> first | rfl | (simp only [va_up]; (repeat' split) <;> first | rfl | omega))
  have f8 := f9.tr (S := [t9, 2066]) f7 (fun j h => by simp at h ⊢; omega) (fun j h => by simp at h ⊢; omega)
  have zb9 : ∀ j, (va_up (va_up bn2_9 t9 0) t9 (if m9 = 0 then 0 else (va_up bn2_9 t9 0) t9)) j = 0 := by intro j; simp only [va_up]; (repeat' split) <;> first | rfl | exact zb8 _ | omega
  have hP9 := hP.sub (ws' := [(o, .inr (13, fs)), (p1, .inl (cP, 165440, .inr (.inl (fun j => lN (pn2_7 j))))), (l1, .inl (cL, 2068, .inl (fun j => nI ((va_up ln2_8 t9 m9) j)))), (b1, .inl (cB, 2068, .inl (fun j => nI ((va_up (va_up bn2_9 t9 0) t9 (if m9 = 0 then 0 else (va_up bn2_9 t9 0) t9)) j))))]) [0, 1, 2, 3] rfl
  have hD9 := hD.sub (ws' := [(o, .inr (13, fs)), (p1, .inl (cP, 165440, .inr (.inl (fun j => lN (pn2_7 j))))), (l1, .inl (cL, 2068, .inl (fun j => nI ((va_up ln2_8 t9 m9) j)))), (b1, .inl (cB, 2068, .inl (fun j => nI ((va_up (va_up bn2_9 t9 0) t9 (if m9 = 0 then 0 else (va_up bn2_9 t9 0) t9)) j))))]) [0, 1, 2, 3] (by decide) rfl
  have hK9 := hK.sub (tys' := [(cP, .long), (cL, .int), (cB, .boolean)]) [0, 1, 2] rfl
  refine W.widen (k := 0) (n := 0) (by omega) (by omega) ?_
  exact W.vret hx hb hr (fun t ht hW => ⟨⟨(pn2_7, va_up ln2_8 t9 m9, va_up (va_up bn2_9 t9 0) t9 (if m9 = 0 then 0 else (va_up bn2_9 t9 0) t9)), rfl, ⟨hb_19, hb_20, hb_21, f8, hT, zb9⟩, by rw [ht]; exact hP9, va_K.moved hW.alike hK9, hD9⟩, hS.F ht⟩) hS.2.2 dX10_add_88
def wd_X10_copyF : List Cond := .code yX10_copyFraction cX10_copyFraction 3 none :: (([.methodLink RX10 92 yX10_copy, .instanceMethod yX10_copy, .selects RX10 yX10_copy yX10_copy, .initialized RX10] : List Cond) ++ (wd_X10_copy ++ ([])))
theorem gw_X10_copyF : wd_X10_copyF.all goodWord = true := k_allc rfl (k_all (by decide +kernel) (k_all (gw_X10_copy) (rfl)))
abbrev at_X10_copyF (dC : Nat → ClassId) (dI : Nat → Nat → Nat) (A : Nat → Prop) (o : Nat) (fs : List Value) (p1 : Nat) (l1 : Nat) (b1 : Nat) (cP : ClassId) (cL : ClassId) (cB : ClassId) (pn : Nat → Nat) (ln : Nat → Nat) (bn : Nat → Nat) (t9 : Nat) (f9 : Nat) (v9 : Nat) (w9 : Nat) (u : (Nat → Nat) × (Nat → Nat) × (Nat → Nat)) (t : State) : Prop := match u with
  | (pn2, ln2, bn2) => va_P (dC, dI) vwCl [(o, .inr (13, fs)), (p1, .inl (cP, 165440, .inr (.inl (fun j => lN (pn2 j))))), (l1, .inl (cL, 2068, .inl (fun j => nI (ln2 j)))), (b1, .inl (cB, 2068, .inl (fun j => nI (bn2 j))))] t.heap ∧ va_K (dC, dI) vwCl [(cP, .long), (cL, .int), (cB, .boolean)] t ∧ va_D A [(o, .inr (13, fs)), (p1, .inl (cP, 165440, .inr (.inl (fun j => lN (pn2 j))))), (l1, .inl (cL, 2068, .inl (fun j => nI (ln2 j)))), (b1, .inl (cB, 2068, .inl (fun j => nI (bn2 j))))]
set_option maxHeartbeats 4000000 in
set_option maxRecDepth 100000 in
theorem c_X10_copyF (l : Launch) (dC : Nat → ClassId) (dI : Nat → Nat → Nat) (A : Nat → Prop) (sz : Nat) (hA0 : ∀ q, sz ≤ q → A q) (o : Nat) (fs : List Value) (p1 : Nat) (l1 : Nat) (b1 : Nat) (cP : ClassId) (cL : ClassId) (cB : ClassId) (pn : Nat → Nat) (ln : Nat → Nat) (bn : Nat → Nat) (t9 : Nat) (f9 : Nat) (v9 : Nat) (w9 : Nat) (h1 : fs[1]? = some (.ref p1)) (h2 : fs[2]? = some (.ref l1)) (h3 : fs[3]? = some (.ref b1)) (hpn : ∀ j, pn j < 4294967296) (hln : ∀ j, ln j < 81) (hbn : ∀ j, bn j < 2) (htq : t9 < 1034) (hf : f9 < 1034) (ha : On1 pn ln (2 * f9) v9) (hb9 : On1 pn ln (2 * f9 + 1) w9) : Met l yX10_copyFraction wd_X10_copyF ({ frames := 30, cells := 0, slots := 0, locals := 600 }) (va_Pc [.ref o, .int (nI t9), .int (nI f9)] (fun U => U.heap.size = sz ∧ va_P (dC, dI) vwCl [(o, .inr (13, fs)), (p1, .inl (cP, 165440, .inr (.inl (fun j => lN (pn j))))), (l1, .inl (cL, 2068, .inl (fun j => nI (ln j)))), (b1, .inl (cB, 2068, .inl (fun j => nI (bn j))))] U.heap ∧ va_K (dC, dI) vwCl [(cP, .long), (cL, .int), (cB, .boolean)] U ∧ va_D A [(o, .inr (13, fs)), (p1, .inl (cP, 165440, .inr (.inl (fun j => lN (pn j))))), (l1, .inl (cL, 2068, .inl (fun j => nI (ln j)))), (b1, .inl (cB, 2068, .inl (fun j => nI (bn j))))])) (va_Qv (fun (u : (Nat → Nat) × (Nat → Nat) × (Nat → Nat)) => match u with | (pn2, ln2, bn2) => (∀ j, pn2 j < 4294967296) ∧ (∀ j, ln2 j < 81) ∧ (∀ j, bn2 j < 2) ∧ (Fr9 [2 * t9, 2 * t9 + 1] pn ln pn2 ln2 ∧ On1 pn2 ln2 (2 * t9) v9 ∧ On1 pn2 ln2 (2 * t9 + 1) w9 ∧ ((∀ j, bn j = 0) → ∀ j, bn2 j = 0))) (at_X10_copyF dC dI A o fs p1 l1 b1 cP cL cB pn ln bn t9 f9 v9 w9) A) (0) (0) A := by
  refine Met.ofW (cc := cX10_copyFraction) (maxL := 3) (ret := none) (by decide) rfl ?_
  intro p e s m args below meth c s₁ B hml hv
  obtain ⟨rfl, hsz, hP, hK, hD⟩ := hv
  have hx := B.exec
  have hb := B.bytes
  have hr := B.returns
  have hts := atoms_spec (ws := wd_X10_copyF) B.pre
  have hown : s.vm.findClass RX10 = some m.cls := findClass_of_methodNamed B.named
  have hlocks := B.notSynchronized
  have bk0 : ∀ w ∈ wd_X10_copy, w ∈ wd_X10_copyF := fun _ h => List.mem_cons_of_mem _ (List.mem_append_right _ (List.mem_append_left _ h))
  subst hsz
  have hA : ∀ q : Nat, s.heap.size ≤ q → A q := hA0
  have hS : va_S A s.heap s.heap [] := va_S.rf
  have hl := lv_entry ([.ref o, .int (nI t9), .int (nI f9)]) (n := 3) (Nat.le_of_ble_eq_true rfl)
  rw [lg_entry_eq]
  generalize (lg_sl ([.ref o, .int (nI t9), .int (nI f9)]) ++ List.replicate (3 - (lg_sl ([.ref o, .int (nI t9), .int (nI f9)])).length) Slot.unset).toArray = ls at hl ⊢
  have hl : lv_has ls 3 [(0, .ref o), (1, .int (nI t9)), (2, .int (nI f9))] := hl
  refine lv_aload_n hx hb dX10_copyFraction_0 rfl (lv_at hl 0 rfl) ?_
  refine lv_iconst (v := nI 2) hx hb dX10_copyFraction_1 (by decide +kernel) ?_
  refine lv_iload_n hx hb dX10_copyFraction_2 rfl (lv_at hl 1 rfl) ?_
  refine lv_imul hx hb dX10_copyFraction_3 ?_
  refine lv_topi (fun x_1 e_2 => ?_)
  obtain rfl : x_1 = nI (2 * t9) := e_2.trans (pk_mul 2 t9)
  refine lv_iconst (v := nI 2) hx hb dX10_copyFraction_4 (by decide +kernel) ?_
  refine lv_iload_n hx hb dX10_copyFraction_5 rfl (lv_at hl 2 rfl) ?_
  refine lv_imul hx hb dX10_copyFraction_6 ?_
  refine lv_topi (fun x_3 e_4 => ?_)
  obtain rfl : x_3 = nI (2 * f9) := e_4.trans (pk_mul 2 f9)
  have hPc := hP.sub (ws' := [(o, .inr (13, fs)), (p1, .inl (cP, 165440, .inr (.inl (fun j => lN (pn j))))), (l1, .inl (cL, 2068, .inl (fun j => nI (ln j)))), (b1, .inl (cB, 2068, .inl (fun j => nI (bn j))))]) [0, 1, 2, 3] rfl
  have hDc := hD.sub (ws' := [(o, .inr (13, fs)), (p1, .inl (cP, 165440, .inr (.inl (fun j => lN (pn j))))), (l1, .inl (cL, 2068, .inl (fun j => nI (ln j)))), (b1, .inl (cB, 2068, .inl (fun j => nI (bn j))))]) [0, 1, 2, 3] (by decide) rfl
  have hKc := hK.sub (tys' := [(cP, .long), (cL, .int), (cB, .boolean)]) [0, 1, 2] rfl
  have hFc := va_free (wc := [(o, .inr (13, fs)), (p1, .inl (cP, 165440, .inr (.inl (fun j => lN (pn j))))), (l1, .inl (cL, 2068, .inl (fun j => nI (ln j)))), (b1, .inl (cB, 2068, .inl (fun j => nI (bn j))))]) hD hS hA [0, 1, 2, 3] rfl
  refine va_callv (va_runV (As := [.int (nI (2 * t9)), .int (nI (2 * f9))]) (rest := []) ⟨hx, hb, hml, hown, hts⟩ (c_X10_copy l dC dI (va_A [(o, .inr (13, fs)), (p1, .inl (cP, 165440, .inr (.inl (fun j => lN (pn j))))), (l1, .inl (cL, 2068, .inl (fun j => nI (ln j)))), (b1, .inl (cB, 2068, .inl (fun j => nI (bn j))))] s.heap.size) s.heap.size (fun _ h => Or.inr h) o fs p1 l1 b1 cP cL cB pn ln bn (2 * t9) (2 * f9) v9 h1 h2 h3 hpn hln hbn (by omega) (by omega) ha) (cwV 2 hts (goodIn_app (goodIn_r [Cond.methodLink RX10 92 yX10_copy, Cond.instanceMethod yX10_copy, Cond.selects RX10 yX10_copy yX10_copy, Cond.initialized RX10] [1, 2, 3, 4] rfl rfl) (goodIn_sub (fun w9 h9 => bk0 w9 h9) gw_X10_copy)) rfl rfl rfl (by decide +kernel) ⟨Nat.le_of_ble_eq_true rfl, Nat.le_of_ble_eq_true rfl⟩) ⟨fun a U g mk q => by obtain ⟨q0, q1, qP, qK, qD⟩ := q; exact ⟨q0, q1, qP, va_K.moved (u := U) (U := U.calling g mk a) (Vm.Alike.refl U.vm) qK, qD⟩, va_recv hKc hPc (ci := 13) (q0 := 0) rfl rfl, fun U hU hW => ⟨rfl, by rw [hU], by rw [hU]; exact hPc, va_K.moved hW.alike hKc, hDc.self⟩⟩ rfl rfl hl.1 rfl (lv_room (Nat.le_of_ble_eq_true rfl)) dX10_copyFraction_7 ⟨(Nat.le_of_ble_eq_true rfl), (Nat.le_of_ble_eq_true rfl)⟩) hS (fun q _ h => hFc q h) hFc (fun u t H1 locs ht hvm hw_5 hB hz1 hk1 hS => ?_)
  obtain ⟨pn2_6, ln2_7, bn2_8⟩ := u
  obtain ⟨hP1, hK1, hD1⟩ := hB
  rw [ht] at hP1
  have hK1 := va_K.moved hvm.symm hK1
  try dsimp only at hw_5
  obtain ⟨hP, hD⟩ := va_join (wr := []) (w1 := [(o, .inr (13, fs)), (p1, .inl (cP, 165440, .inr (.inl (fun j => lN (pn2_6 j))))), (l1, .inl (cL, 2068, .inl (fun j => nI (ln2_7 j)))), (b1, .inl (cB, 2068, .inl (fun j => nI (bn2_8 j))))]) hP hD [0, 1, 2, 3] [] rfl rfl (by decide) (by decide) hk1 hFc hP1 hD1
  have hK := (hK.sub (tys' := []) [] rfl).app hK1
  generalize H1 = H at hP hS ⊢
  have hP : va_P (dC, dI) vwCl ([(o, .inr (13, fs)), (p1, .inl (cP, 165440, .inr (.inl (fun j => lN (pn2_6 j))))), (l1, .inl (cL, 2068, .inl (fun j => nI (ln2_7 j)))), (b1, .inl (cB, 2068, .inl (fun j => nI (bn2_8 j))))]) H := hP
  have hD : va_D A ([(o, .inr (13, fs)), (p1, .inl (cP, 165440, .inr (.inl (fun j => lN (pn2_6 j))))), (l1, .inl (cL, 2068, .inl (fun j => nI (ln2_7 j)))), (b1, .inl (cB, 2068, .inl (fun j => nI (bn2_8 j))))]) := hD
  have hK : va_K (dC, dI) vwCl [(cP, .long), (cL, .int), (cB, .boolean)] s := hK
  obtain ⟨hb_9, hb_10, hb_11, rel_12⟩ := hw_5
  obtain ⟨f1, o1, z1⟩ := rel_12
  have hb8 := hb9.fr f1 (by simp only [List.mem_cons, List.not_mem_nil, or_false]; omega)
  refine lv_aload_n hx hb dX10_copyFraction_10 rfl (lv_at hl 0 rfl) ?_
  refine lv_iconst (v := nI 2) hx hb dX10_copyFraction_11 (by decide +kernel) ?_
  refine lv_iload_n hx hb dX10_copyFraction_12 rfl (lv_at hl 1 rfl) ?_
  refine lv_imul hx hb dX10_copyFraction_13 ?_
  refine lv_topi (fun x_13 e_14 => ?_)
  obtain rfl : x_13 = nI (2 * t9) := e_14.trans (pk_mul 2 t9)
  refine lv_iconst (v := nI 1) hx hb dX10_copyFraction_14 (by decide +kernel) ?_
  refine lv_iadd hx hb dX10_copyFraction_15 ?_
  refine lv_topi (fun x_15 e_16 => ?_)
  obtain rfl : x_15 = nI (2 * t9 + 1) := e_16.trans (nI_add (2 * t9) 1)
  refine lv_iconst (v := nI 2) hx hb dX10_copyFraction_16 (by decide +kernel) ?_
  refine lv_iload_n hx hb dX10_copyFraction_17 rfl (lv_at hl 2 rfl) ?_
  refine lv_imul hx hb dX10_copyFraction_18 ?_
  refine lv_topi (fun x_17 e_18 => ?_)
  obtain rfl : x_17 = nI (2 * f9) := e_18.trans (pk_mul 2 f9)
  refine lv_iconst (v := nI 1) hx hb dX10_copyFraction_19 (by decide +kernel) ?_
  refine lv_iadd hx hb dX10_copyFraction_20 ?_
  refine lv_topi (fun x_19 e_20 => ?_)
  obtain rfl : x_19 = nI (2 * f9 + 1) := e_20.trans (nI_add (2 * f9) 1)
  have hPc := hP.sub (ws' := [(o, .inr (13, fs)), (p1, .inl (cP, 165440, .inr (.inl (fun j => lN (pn2_6 j))))), (l1, .inl (cL, 2068, .inl (fun j => nI (ln2_7 j)))), (b1, .inl (cB, 2068, .inl (fun j => nI (bn2_8 j))))]) [0, 1, 2, 3] rfl
  have hDc := hD.sub (ws' := [(o, .inr (13, fs)), (p1, .inl (cP, 165440, .inr (.inl (fun j => lN (pn2_6 j))))), (l1, .inl (cL, 2068, .inl (fun j => nI (ln2_7 j)))), (b1, .inl (cB, 2068, .inl (fun j => nI (bn2_8 j))))]) [0, 1, 2, 3] (by decide) rfl
  have hKc := hK.sub (tys' := [(cP, .long), (cL, .int), (cB, .boolean)]) [0, 1, 2] rfl
  have hFc := va_free (wc := [(o, .inr (13, fs)), (p1, .inl (cP, 165440, .inr (.inl (fun j => lN (pn2_6 j))))), (l1, .inl (cL, 2068, .inl (fun j => nI (ln2_7 j)))), (b1, .inl (cB, 2068, .inl (fun j => nI (bn2_8 j))))]) hD hS hA [0, 1, 2, 3] rfl
  refine va_callv (va_runV (As := [.int (nI (2 * t9 + 1)), .int (nI (2 * f9 + 1))]) (rest := []) ⟨hx, hb, hml, hown, hts⟩ (c_X10_copy l dC dI (va_A [(o, .inr (13, fs)), (p1, .inl (cP, 165440, .inr (.inl (fun j => lN (pn2_6 j))))), (l1, .inl (cL, 2068, .inl (fun j => nI (ln2_7 j)))), (b1, .inl (cB, 2068, .inl (fun j => nI (bn2_8 j))))] H.size) H.size (fun _ h => Or.inr h) o fs p1 l1 b1 cP cL cB pn2_6 ln2_7 bn2_8 (2 * t9 + 1) (2 * f9 + 1) w9 h1 h2 h3 hb_9 hb_10 hb_11 (by omega) (by omega) hb8) (cwV 2 hts (goodIn_app (goodIn_r [Cond.methodLink RX10 92 yX10_copy, Cond.instanceMethod yX10_copy, Cond.selects RX10 yX10_copy yX10_copy, Cond.initialized RX10] [1, 2, 3, 4] rfl rfl) (goodIn_sub (fun w9 h9 => bk0 w9 h9) gw_X10_copy)) rfl rfl rfl (by decide +kernel) ⟨Nat.le_of_ble_eq_true rfl, Nat.le_of_ble_eq_true rfl⟩) ⟨fun a U g mk q => by obtain ⟨q0, q1, qP, qK, qD⟩ := q; exact ⟨q0, q1, qP, va_K.moved (u := U) (U := U.calling g mk a) (Vm.Alike.refl U.vm) qK, qD⟩, va_recv hKc hPc (ci := 13) (q0 := 0) rfl rfl, fun U hU hW => ⟨rfl, by rw [hU], by rw [hU]; exact hPc, va_K.moved hW.alike hKc, hDc.self⟩⟩ rfl rfl hl.1 rfl (lv_room (Nat.le_of_ble_eq_true rfl)) dX10_copyFraction_21 ⟨(Nat.le_of_ble_eq_true rfl), (Nat.le_of_ble_eq_true rfl)⟩) hS (fun q _ h => hFc q h) hFc (fun u t H1 locs ht hvm hw_21 hB hz1 hk1 hS => ?_)
  obtain ⟨pn2_22, ln2_23, bn2_24⟩ := u
  obtain ⟨hP1, hK1, hD1⟩ := hB
  rw [ht] at hP1
  have hK1 := va_K.moved hvm.symm hK1
  try dsimp only at hw_21
  obtain ⟨hP, hD⟩ := va_join (wr := []) (w1 := [(o, .inr (13, fs)), (p1, .inl (cP, 165440, .inr (.inl (fun j => lN (pn2_22 j))))), (l1, .inl (cL, 2068, .inl (fun j => nI (ln2_23 j)))), (b1, .inl (cB, 2068, .inl (fun j => nI (bn2_24 j))))]) hP hD [0, 1, 2, 3] [] rfl rfl (by decide) (by decide) hk1 hFc hP1 hD1
  have hK := (hK.sub (tys' := []) [] rfl).app hK1
  generalize H1 = H at hP hS ⊢
  have hP : va_P (dC, dI) vwCl ([(o, .inr (13, fs)), (p1, .inl (cP, 165440, .inr (.inl (fun j => lN (pn2_22 j))))), (l1, .inl (cL, 2068, .inl (fun j => nI (ln2_23 j)))), (b1, .inl (cB, 2068, .inl (fun j => nI (bn2_24 j))))]) H := hP
  have hD : va_D A ([(o, .inr (13, fs)), (p1, .inl (cP, 165440, .inr (.inl (fun j => lN (pn2_22 j))))), (l1, .inl (cL, 2068, .inl (fun j => nI (ln2_23 j)))), (b1, .inl (cB, 2068, .inl (fun j => nI (bn2_24 j))))]) := hD
  have hK : va_K (dC, dI) vwCl [(cP, .long), (cL, .int), (cB, .boolean)] s := hK
  obtain ⟨hb_25, hb_26, hb_27, rel_28⟩ := hw_21
  obtain ⟨f2, o2, z2⟩ := rel_28
  have o3 := o1.fr f2 (by simp only [List.mem_cons, List.not_mem_nil, or_false]; omega)
  have f3 := f1.tr (S := [2 * t9, 2 * t9 + 1]) f2 (fun j h => by simp at h ⊢; omega) (fun j h => by simp at h ⊢; omega)
  have hP9 := hP.sub (ws' := [(o, .inr (13, fs)), (p1, .inl (cP, 165440, .inr (.inl (fun j => lN (pn2_22 j))))), (l1, .inl (cL, 2068, .inl (fun j => nI (ln2_23 j)))), (b1, .inl (cB, 2068, .inl (fun j => nI (bn2_24 j))))]) [0, 1, 2, 3] rfl
  have hD9 := hD.sub (ws' := [(o, .inr (13, fs)), (p1, .inl (cP, 165440, .inr (.inl (fun j => lN (pn2_22 j))))), (l1, .inl (cL, 2068, .inl (fun j => nI (ln2_23 j)))), (b1, .inl (cB, 2068, .inl (fun j => nI (bn2_24 j))))]) [0, 1, 2, 3] (by decide) rfl
  have hK9 := hK.sub (tys' := [(cP, .long), (cL, .int), (cB, .boolean)]) [0, 1, 2] rfl
  refine W.widen (k := 0) (n := 0) (by omega) (by omega) ?_
  exact W.vret hx hb hr (fun t ht hW => ⟨⟨(pn2_22, ln2_23, bn2_24), rfl, ⟨hb_25, hb_26, hb_27, f3, o3, o2, fun h => z2 (z1 h)⟩, by rw [ht]; exact hP9, va_K.moved hW.alike hK9, hD9⟩, hS.F ht⟩) hS.2.2 dX10_copyFraction_24
def wd_X10_red0r : List Cond := .code yX10_reduce cX10_reduce 2 none :: (([.fieldLink RX10 14 "GradientDeskModel" "length" "[I", .methodLink RX10 74 yX10_assign, .instanceMethod yX10_assign, .selects RX10 yX10_assign yX10_assign, .initialized RX10] : List Cond) ++ (u_ws RX10 TX10 29 ++ (wd_X10_assign ++ ([]))))
theorem gw_X10_red0r : wd_X10_red0r.all goodWord = true := k_allc rfl (k_all (by decide +kernel) (k_all (gu_X10) (k_all (gw_X10_assign) (rfl))))
abbrev at_X10_red0r (dC : Nat → ClassId) (dI : Nat → Nat → Nat) (A : Nat → Prop) (o : Nat) (fs : List Value) (p1 : Nat) (l1 : Nat) (b1 : Nat) (cP : ClassId) (cL : ClassId) (cB : ClassId) (pn : Nat → Nat) (ln : Nat → Nat) (bn : Nat → Nat) (f9 : Nat) (u : (Nat → Nat) × (Nat → Nat) × (Nat → Nat)) (t : State) : Prop := match u with
  | (pn2, ln2, bn2) => va_P (dC, dI) vwCl [(o, .inr (13, fs)), (p1, .inl (cP, 165440, .inr (.inl (fun j => lN (pn2 j))))), (l1, .inl (cL, 2068, .inl (fun j => nI (ln2 j)))), (b1, .inl (cB, 2068, .inl (fun j => nI (bn2 j))))] t.heap ∧ va_K (dC, dI) vwCl [(cP, .long), (cL, .int), (cB, .boolean)] t ∧ va_D A [(o, .inr (13, fs)), (p1, .inl (cP, 165440, .inr (.inl (fun j => lN (pn2 j))))), (l1, .inl (cL, 2068, .inl (fun j => nI (ln2 j)))), (b1, .inl (cB, 2068, .inl (fun j => nI (bn2 j))))]
set_option maxHeartbeats 4000000 in
set_option maxRecDepth 100000 in
theorem c_X10_red0r (l : Launch) (dC : Nat → ClassId) (dI : Nat → Nat → Nat) (A : Nat → Prop) (sz : Nat) (hA0 : ∀ q, sz ≤ q → A q) (o : Nat) (fs : List Value) (p1 : Nat) (l1 : Nat) (b1 : Nat) (cP : ClassId) (cL : ClassId) (cB : ClassId) (pn : Nat → Nat) (ln : Nat → Nat) (bn : Nat → Nat) (f9 : Nat) (h1 : fs[1]? = some (.ref p1)) (h2 : fs[2]? = some (.ref l1)) (h3 : fs[3]? = some (.ref b1)) (hpn : ∀ j, pn j < 4294967296) (hln : ∀ j, ln j < 81) (hbn : ∀ j, bn j < 2) (hf : f9 < 1034) (ha : On1 pn ln (2 * f9) 0) : Met l yX10_reduce wd_X10_red0r ({ frames := 30, cells := 0, slots := 0, locals := 600 }) (va_Pc [.ref o, .int (nI f9)] (fun U => U.heap.size = sz ∧ va_P (dC, dI) vwCl [(o, .inr (13, fs)), (p1, .inl (cP, 165440, .inr (.inl (fun j => lN (pn j))))), (l1, .inl (cL, 2068, .inl (fun j => nI (ln j)))), (b1, .inl (cB, 2068, .inl (fun j => nI (bn j))))] U.heap ∧ va_K (dC, dI) vwCl [(cP, .long), (cL, .int), (cB, .boolean)] U ∧ va_D A [(o, .inr (13, fs)), (p1, .inl (cP, 165440, .inr (.inl (fun j => lN (pn j))))), (l1, .inl (cL, 2068, .inl (fun j => nI (ln j)))), (b1, .inl (cB, 2068, .inl (fun j => nI (bn j))))])) (va_Qv (fun (u : (Nat → Nat) × (Nat → Nat) × (Nat → Nat)) => match u with | (pn2, ln2, bn2) => (∀ j, pn2 j < 4294967296) ∧ (∀ j, ln2 j < 81) ∧ (∀ j, bn2 j < 2) ∧ (Fr9 [2 * f9 + 1] pn ln pn2 ln2 ∧ On1 pn2 ln2 (2 * f9 + 1) 1 ∧ ((∀ j, bn j = 0) → ∀ j, bn2 j = 0))) (at_X10_red0r dC dI A o fs p1 l1 b1 cP cL cB pn ln bn f9) A) (0) (0) A := by
  refine Met.ofW (cc := cX10_reduce) (maxL := 2) (ret := none) (by decide) rfl ?_
  intro p e s m args below meth c s₁ B hml hv
  obtain ⟨rfl, hsz, hP, hK, hD⟩ := hv
  have hx := B.exec
  have hb := B.bytes
  have hr := B.returns
  have hts := atoms_spec (ws := wd_X10_red0r) B.pre
  have hown : s.vm.findClass RX10 = some m.cls := findClass_of_methodNamed B.named
  have hlocks := B.notSynchronized
  have bk0 : ∀ w ∈ u_ws RX10 TX10 29, w ∈ wd_X10_red0r := fun _ h => List.mem_cons_of_mem _ (List.mem_append_right _ (List.mem_append_left _ h))
  have bk1 : ∀ w ∈ wd_X10_assign, w ∈ wd_X10_red0r := fun _ h => List.mem_cons_of_mem _ (List.mem_append_right _ (List.mem_append_right _ (List.mem_append_left _ h)))
  subst hsz
  have hA : ∀ q : Nat, s.heap.size ≤ q → A q := hA0
  have hS : va_S A s.heap s.heap [] := va_S.rf
  have hl := lv_entry ([.ref o, .int (nI f9)]) (n := 2) (Nat.le_of_ble_eq_true rfl)
  rw [lg_entry_eq]
  generalize (lg_sl ([.ref o, .int (nI f9)]) ++ List.replicate (2 - (lg_sl ([.ref o, .int (nI f9)])).length) Slot.unset).toArray = ls at hl ⊢
  have hl : lv_has ls 2 [(0, .ref o), (1, .int (nI f9))] := hl
  refine lv_aload_n hx hb dX10_reduce_0 rfl (lv_at hl 0 rfl) ?_
  refine va_get (D := (dC, dI)) (ci := 13) (v := .ref l1) (C := RX10) (T := TX10) (N := 29) hx hb hts bk0 hown hK hP 0 rfl rfl 2 (by decide) (hts (.fieldLink RX10 14 "GradientDeskModel" "length" "[I") (List.mem_of_getElem? (i := 1) rfl)) (fun _ h9 => h9) h2 dX10_reduce_1 ?_
  refine lv_iconst (v := nI 2) hx hb dX10_reduce_4 (by decide +kernel) ?_
  refine lv_iload_n hx hb dX10_reduce_5 rfl (lv_at hl 1 rfl) ?_
  refine lv_imul hx hb dX10_reduce_6 ?_
  refine lv_topi (fun x_1 e_2 => ?_)
  obtain rfl : x_1 = nI (2 * f9) := e_2.trans (pk_mul 2 f9)
  refine va_iald hx hb hK hP 2 1 rfl rfl (vp_in_nI (show 2 * f9 < 2068 by omega) (by decide)) dX10_reduce_7 ?_
  refine lv_topi (fun x_3 e_4 => ?_)
  rw [nI_clamp (show 2 * f9 < 2 ^ 31 by omega)] at e_4
  obtain rfl : x_3 = nI 0 := e_4.trans (congrArg nI (ha.zero.mpr rfl))
  refine lv_if_ne (tgt := 22) hx hb dX10_reduce_8 (by decide) (fun c_5 => absurd c_5 (by decide)) (fun c_5 => ?_)
  refine lv_aload_n hx hb dX10_reduce_11 rfl (lv_at hl 0 rfl) ?_
  refine lv_iconst (v := nI 2) hx hb dX10_reduce_12 (by decide +kernel) ?_
  refine lv_iload_n hx hb dX10_reduce_13 rfl (lv_at hl 1 rfl) ?_
  refine lv_imul hx hb dX10_reduce_14 ?_
  refine lv_topi (fun x_6 e_7 => ?_)
  obtain rfl : x_6 = nI (2 * f9) := e_7.trans (pk_mul 2 f9)
  refine lv_iconst (v := nI 1) hx hb dX10_reduce_15 (by decide +kernel) ?_
  refine lv_iadd hx hb dX10_reduce_16 ?_
  refine lv_topi (fun x_8 e_9 => ?_)
  obtain rfl : x_8 = nI (2 * f9 + 1) := e_9.trans (nI_add (2 * f9) 1)
  refine lv_lconst (v := lN 1) hx hb dX10_reduce_17 (by decide +kernel) ?_
  have hPc := hP.sub (ws' := [(o, .inr (13, fs)), (p1, .inl (cP, 165440, .inr (.inl (fun j => lN (pn j))))), (l1, .inl (cL, 2068, .inl (fun j => nI (ln j)))), (b1, .inl (cB, 2068, .inl (fun j => nI (bn j))))]) [0, 1, 2, 3] rfl
  have hDc := hD.sub (ws' := [(o, .inr (13, fs)), (p1, .inl (cP, 165440, .inr (.inl (fun j => lN (pn j))))), (l1, .inl (cL, 2068, .inl (fun j => nI (ln j)))), (b1, .inl (cB, 2068, .inl (fun j => nI (bn j))))]) [0, 1, 2, 3] (by decide) rfl
  have hKc := hK.sub (tys' := [(cP, .long), (cL, .int), (cB, .boolean)]) [0, 1, 2] rfl
  have hFc := va_free (wc := [(o, .inr (13, fs)), (p1, .inl (cP, 165440, .inr (.inl (fun j => lN (pn j))))), (l1, .inl (cL, 2068, .inl (fun j => nI (ln j)))), (b1, .inl (cB, 2068, .inl (fun j => nI (bn j))))]) hD hS hA [0, 1, 2, 3] rfl
  refine va_callv (va_runV (As := [.int (nI (2 * f9 + 1)), .long (lN 1)]) (rest := []) ⟨hx, hb, hml, hown, hts⟩ (c_X10_assign l dC dI (va_A [(o, .inr (13, fs)), (p1, .inl (cP, 165440, .inr (.inl (fun j => lN (pn j))))), (l1, .inl (cL, 2068, .inl (fun j => nI (ln j)))), (b1, .inl (cB, 2068, .inl (fun j => nI (bn j))))] s.heap.size) s.heap.size (fun _ h => Or.inr h) o fs p1 l1 b1 cP cL cB pn ln bn (2 * f9 + 1) 1 h1 h2 h3 hpn hln hbn (by omega) (by decide)) (cwV 2 hts (goodIn_app (goodIn_r [Cond.methodLink RX10 74 yX10_assign, Cond.instanceMethod yX10_assign, Cond.selects RX10 yX10_assign yX10_assign, Cond.initialized RX10] [2, 3, 4, 5] rfl rfl) (goodIn_sub (fun w9 h9 => bk1 w9 h9) gw_X10_assign)) rfl rfl rfl (by decide +kernel) ⟨Nat.le_of_ble_eq_true rfl, Nat.le_of_ble_eq_true rfl⟩) ⟨fun a U g mk q => by obtain ⟨q0, q1, qP, qK, qD⟩ := q; exact ⟨q0, q1, qP, va_K.moved (u := U) (U := U.calling g mk a) (Vm.Alike.refl U.vm) qK, qD⟩, va_recv hKc hPc (ci := 13) (q0 := 0) rfl rfl, fun U hU hW => ⟨rfl, by rw [hU], by rw [hU]; exact hPc, va_K.moved hW.alike hKc, hDc.self⟩⟩ rfl rfl hl.1 rfl (lv_room (Nat.le_of_ble_eq_true rfl)) dX10_reduce_18 ⟨(Nat.le_of_ble_eq_true rfl), (Nat.le_of_ble_eq_true rfl)⟩) hS (fun q _ h => hFc q h) hFc (fun u t H1 locs ht hvm hw_10 hB hz1 hk1 hS => ?_)
  obtain ⟨pn2_11, ln2_12, bn2_13⟩ := u
  obtain ⟨hP1, hK1, hD1⟩ := hB
  rw [ht] at hP1
  have hK1 := va_K.moved hvm.symm hK1
  try dsimp only at hw_10
  obtain ⟨hP, hD⟩ := va_join (wr := []) (w1 := [(o, .inr (13, fs)), (p1, .inl (cP, 165440, .inr (.inl (fun j => lN (pn2_11 j))))), (l1, .inl (cL, 2068, .inl (fun j => nI (ln2_12 j)))), (b1, .inl (cB, 2068, .inl (fun j => nI (bn2_13 j))))]) hP hD [0, 1, 2, 3] [] rfl rfl (by decide) (by decide) hk1 hFc hP1 hD1
  have hK := (hK.sub (tys' := []) [] rfl).app hK1
  generalize H1 = H at hP hS ⊢
  have hP : va_P (dC, dI) vwCl ([(o, .inr (13, fs)), (p1, .inl (cP, 165440, .inr (.inl (fun j => lN (pn2_11 j))))), (l1, .inl (cL, 2068, .inl (fun j => nI (ln2_12 j)))), (b1, .inl (cB, 2068, .inl (fun j => nI (bn2_13 j))))]) H := hP
  have hD : va_D A ([(o, .inr (13, fs)), (p1, .inl (cP, 165440, .inr (.inl (fun j => lN (pn2_11 j))))), (l1, .inl (cL, 2068, .inl (fun j => nI (ln2_12 j)))), (b1, .inl (cB, 2068, .inl (fun j => nI (bn2_13 j))))]) := hD
  have hK : va_K (dC, dI) vwCl [(cP, .long), (cL, .int), (cB, .boolean)] s := hK
  obtain ⟨hb_14, hb_15, hb_16, rfl, rfl, rfl⟩ := hw_10
  have hP9 := hP.sub (ws' := [(o, .inr (13, fs)), (p1, .inl (cP, 165440, .inr (.inl (fun j => lN ((va_up (va_up pn (80 * (2 * f9 + 1)) 1) (80 * (2 * f9 + 1) + 1) 0) j))))), (l1, .inl (cL, 2068, .inl (fun j => nI ((va_up ln (2 * f9 + 1) (if 1 = 0 then 0 else 1)) j)))), (b1, .inl (cB, 2068, .inl (fun j => nI ((va_up bn (2 * f9 + 1) 0) j))))]) [0, 1, 2, 3] rfl
  have hD9 := hD.sub (ws' := [(o, .inr (13, fs)), (p1, .inl (cP, 165440, .inr (.inl (fun j => lN ((va_up (va_up pn (80 * (2 * f9 + 1)) 1) (80 * (2 * f9 + 1) + 1) 0) j))))), (l1, .inl (cL, 2068, .inl (fun j => nI ((va_up ln (2 * f9 + 1) (if 1 = 0 then 0 else 1)) j)))), (b1, .inl (cB, 2068, .inl (fun j => nI ((va_up bn (2 * f9 + 1) 0) j))))]) [0, 1, 2, 3] (by decide) rfl
  have hK9 := hK.sub (tys' := [(cP, .long), (cL, .int), (cB, .boolean)]) [0, 1, 2] rfl
  refine W.widen (k := 0) (n := 0) (by omega) (by omega) ?_
  exact W.vret hx hb hr (fun t ht hW => ⟨⟨(va_up (va_up pn (80 * (2 * f9 + 1)) 1) (80 * (2 * f9 + 1) + 1) 0, va_up ln (2 * f9 + 1) (if 1 = 0 then 0 else 1), va_up bn (2 * f9 + 1) 0), rfl, ⟨hb_14, hb_15, hb_16, k_asg.2, k_asg.1, fun h j => by simp only [va_up]; split; rfl; exact h _⟩, by rw [ht]; exact hP9, va_K.moved hW.alike hK9, hD9⟩, hS.F ht⟩) hS.2.2 dX10_reduce_21
def wd_X10_addF0 : List Cond := .code yX10_addFractions cX10_addFractions 4 none :: (([.methodLink RX10 130 yX10_times, .instanceMethod yX10_times, .selects RX10 yX10_times yX10_times, .initialized RX10, .methodLink RX10 133 yX10_add, .instanceMethod yX10_add, .selects RX10 yX10_add yX10_add, .methodLink RX10 121 yX10_reduce, .instanceMethod yX10_reduce, .selects RX10 yX10_reduce yX10_reduce, .methodLink RX10 136 yX10_copyFraction, .instanceMethod yX10_copyFraction, .selects RX10 yX10_copyFraction yX10_copyFraction] : List Cond) ++ (wd_X10_times01 ++ (wd_X10_times11 ++ (wd_X10_add0 ++ (wd_X10_red0r ++ (wd_X10_copyF ++ ([])))))))
theorem gw_X10_addF0 : wd_X10_addF0.all goodWord = true := k_allc rfl (k_all (by decide +kernel) (k_all (gw_X10_times01) (k_all (gw_X10_times11) (k_all (gw_X10_add0) (k_all (gw_X10_red0r) (k_all (gw_X10_copyF) (rfl)))))))
abbrev at_X10_addF0 (dC : Nat → ClassId) (dI : Nat → Nat → Nat) (A : Nat → Prop) (o : Nat) (fs : List Value) (p1 : Nat) (l1 : Nat) (b1 : Nat) (cP : ClassId) (cL : ClassId) (cB : ClassId) (pn : Nat → Nat) (ln : Nat → Nat) (bn : Nat → Nat) (t9 : Nat) (s9 : Nat) (r9 : Nat) (u : (Nat → Nat) × (Nat → Nat) × (Nat → Nat)) (t : State) : Prop := match u with
  | (pn2, ln2, bn2) => va_P (dC, dI) vwCl [(o, .inr (13, fs)), (p1, .inl (cP, 165440, .inr (.inl (fun j => lN (pn2 j))))), (l1, .inl (cL, 2068, .inl (fun j => nI (ln2 j)))), (b1, .inl (cB, 2068, .inl (fun j => nI (bn2 j))))] t.heap ∧ va_K (dC, dI) vwCl [(cP, .long), (cL, .int), (cB, .boolean)] t ∧ va_D A [(o, .inr (13, fs)), (p1, .inl (cP, 165440, .inr (.inl (fun j => lN (pn2 j))))), (l1, .inl (cL, 2068, .inl (fun j => nI (ln2 j)))), (b1, .inl (cB, 2068, .inl (fun j => nI (bn2 j))))]
set_option maxHeartbeats 4000000 in
set_option maxRecDepth 100000 in
theorem c_X10_addF0 (l : Launch) (dC : Nat → ClassId) (dI : Nat → Nat → Nat) (A : Nat → Prop) (sz : Nat) (hA0 : ∀ q, sz ≤ q → A q) (o : Nat) (fs : List Value) (p1 : Nat) (l1 : Nat) (b1 : Nat) (cP : ClassId) (cL : ClassId) (cB : ClassId) (pn : Nat → Nat) (ln : Nat → Nat) (bn : Nat → Nat) (t9 : Nat) (s9 : Nat) (r9 : Nat) (h1 : fs[1]? = some (.ref p1)) (h2 : fs[2]? = some (.ref l1)) (h3 : fs[3]? = some (.ref b1)) (hpn : ∀ j, pn j < 4294967296) (hln : ∀ j, ln j < 81) (hbn : ∀ j, bn j < 2) (htq : t9 < 1016) (hs : s9 < 1016) (hr9 : r9 < 1016) (oa0 : On1 pn ln (2 * s9) 0) (oa1 : On1 pn ln (2 * s9 + 1) 1) (ob0 : On1 pn ln (2 * r9) 0) (ob1 : On1 pn ln (2 * r9 + 1) 1) (hB : ∀ j, bn j = 0) : Met l yX10_addFractions wd_X10_addF0 ({ frames := 50, cells := 0, slots := 0, locals := 1000 }) (va_Pc [.ref o, .int (nI t9), .int (nI s9), .int (nI r9)] (fun U => U.heap.size = sz ∧ va_P (dC, dI) vwCl [(o, .inr (13, fs)), (p1, .inl (cP, 165440, .inr (.inl (fun j => lN (pn j))))), (l1, .inl (cL, 2068, .inl (fun j => nI (ln j)))), (b1, .inl (cB, 2068, .inl (fun j => nI (bn j))))] U.heap ∧ va_K (dC, dI) vwCl [(cP, .long), (cL, .int), (cB, .boolean)] U ∧ va_D A [(o, .inr (13, fs)), (p1, .inl (cP, 165440, .inr (.inl (fun j => lN (pn j))))), (l1, .inl (cL, 2068, .inl (fun j => nI (ln j)))), (b1, .inl (cB, 2068, .inl (fun j => nI (bn j))))])) (va_Qv (fun (u : (Nat → Nat) × (Nat → Nat) × (Nat → Nat)) => match u with | (pn2, ln2, bn2) => (∀ j, pn2 j < 4294967296) ∧ (∀ j, ln2 j < 81) ∧ (∀ j, bn2 j < 2) ∧ (Fr9 [2 * t9, 2 * t9 + 1, 2032, 2033, 2064, 2065, 2066] pn ln pn2 ln2 ∧ On1 pn2 ln2 (2 * t9) 0 ∧ On1 pn2 ln2 (2 * t9 + 1) 1 ∧ (∀ j, bn2 j = 0))) (at_X10_addF0 dC dI A o fs p1 l1 b1 cP cL cB pn ln bn t9 s9 r9) A) (0) (0) A := by
  refine Met.ofW (cc := cX10_addFractions) (maxL := 4) (ret := none) (by decide) rfl ?_
  intro p e s m args below meth c s₁ B hml hv
  obtain ⟨rfl, hsz, hP, hK, hD⟩ := hv
  have hx := B.exec
  have hb := B.bytes
  have hr := B.returns
  have hts := atoms_spec (ws := wd_X10_addF0) B.pre
  have hown : s.vm.findClass RX10 = some m.cls := findClass_of_methodNamed B.named
  have hlocks := B.notSynchronized
  have bk0 : ∀ w ∈ wd_X10_times01, w ∈ wd_X10_addF0 := fun _ h => List.mem_cons_of_mem _ (List.mem_append_right _ (List.mem_append_left _ h))
  have bk1 : ∀ w ∈ wd_X10_times11, w ∈ wd_X10_addF0 := fun _ h => List.mem_cons_of_mem _ (List.mem_append_right _ (List.mem_append_right _ (List.mem_append_left _ h)))
  have bk2 : ∀ w ∈ wd_X10_add0, w ∈ wd_X10_addF0 := fun _ h => List.mem_cons_of_mem _ (List.mem_append_right _ (List.mem_append_right _ (List.mem_append_right _ (List.mem_append_left _ h))))
  have bk3 : ∀ w ∈ wd_X10_red0r, w ∈ wd_X10_addF0 := fun _ h => List.mem_cons_of_mem _ (List.mem_append_right _ (List.mem_append_right _ (List.mem_append_right _ (List.mem_append_right _ (List.mem_append_left _ h)))))
  have bk4 : ∀ w ∈ wd_X10_copyF, w ∈ wd_X10_addF0 := fun _ h => List.mem_cons_of_mem _ (List.mem_append_right _ (List.mem_append_right _ (List.mem_append_right _ (List.mem_append_right _ (List.mem_append_right _ (List.mem_append_left _ h))))))
  subst hsz
  have hA : ∀ q : Nat, s.heap.size ≤ q → A q := hA0
  have hS : va_S A s.heap s.heap [] := va_S.rf
  have hl := lv_entry ([.ref o, .int (nI t9), .int (nI s9), .int (nI r9)]) (n := 4) (Nat.le_of_ble_eq_true rfl)
  rw [lg_entry_eq]
  generalize (lg_sl ([.ref o, .int (nI t9), .int (nI s9), .int (nI r9)]) ++ List.replicate (4 - (lg_sl ([.ref o, .int (nI t9), .int (nI s9), .int (nI r9)])).length) Slot.unset).toArray = ls at hl ⊢
  have hl : lv_has ls 4 [(0, .ref o), (1, .int (nI t9)), (2, .int (nI s9)), (3, .int (nI r9))] := hl
  refine lv_aload_n hx hb dX10_addFractions_0 rfl (lv_at hl 0 rfl) ?_
  refine lv_sipush (v := nI 2064) hx hb dX10_addFractions_1 (by decide +kernel) ?_
  refine lv_iconst (v := nI 2) hx hb dX10_addFractions_4 (by decide +kernel) ?_
  refine lv_iload_n hx hb dX10_addFractions_5 rfl (lv_at hl 2 rfl) ?_
  refine lv_imul hx hb dX10_addFractions_6 ?_
  refine lv_topi (fun x_1 e_2 => ?_)
  obtain rfl : x_1 = nI (2 * s9) := e_2.trans (pk_mul 2 s9)
  refine lv_iconst (v := nI 2) hx hb dX10_addFractions_7 (by decide +kernel) ?_
  refine lv_iload_n hx hb dX10_addFractions_8 rfl (lv_at hl 3 rfl) ?_
  refine lv_imul hx hb dX10_addFractions_9 ?_
  refine lv_topi (fun x_3 e_4 => ?_)
  obtain rfl : x_3 = nI (2 * r9) := e_4.trans (pk_mul 2 r9)
  refine lv_iconst (v := nI 1) hx hb dX10_addFractions_10 (by decide +kernel) ?_
  refine lv_iadd hx hb dX10_addFractions_11 ?_
  refine lv_topi (fun x_5 e_6 => ?_)
  obtain rfl : x_5 = nI (2 * r9 + 1) := e_6.trans (nI_add (2 * r9) 1)
  have hPc := hP.sub (ws' := [(o, .inr (13, fs)), (p1, .inl (cP, 165440, .inr (.inl (fun j => lN (pn j))))), (l1, .inl (cL, 2068, .inl (fun j => nI (ln j)))), (b1, .inl (cB, 2068, .inl (fun j => nI (bn j))))]) [0, 1, 2, 3] rfl
  have hDc := hD.sub (ws' := [(o, .inr (13, fs)), (p1, .inl (cP, 165440, .inr (.inl (fun j => lN (pn j))))), (l1, .inl (cL, 2068, .inl (fun j => nI (ln j)))), (b1, .inl (cB, 2068, .inl (fun j => nI (bn j))))]) [0, 1, 2, 3] (by decide) rfl
  have hKc := hK.sub (tys' := [(cP, .long), (cL, .int), (cB, .boolean)]) [0, 1, 2] rfl
  have hFc := va_free (wc := [(o, .inr (13, fs)), (p1, .inl (cP, 165440, .inr (.inl (fun j => lN (pn j))))), (l1, .inl (cL, 2068, .inl (fun j => nI (ln j)))), (b1, .inl (cB, 2068, .inl (fun j => nI (bn j))))]) hD hS hA [0, 1, 2, 3] rfl
  refine va_callv (va_runV (As := [.int (nI 2064), .int (nI (2 * s9)), .int (nI (2 * r9 + 1))]) (rest := []) ⟨hx, hb, hml, hown, hts⟩ (c_X10_times01 l dC dI (va_A [(o, .inr (13, fs)), (p1, .inl (cP, 165440, .inr (.inl (fun j => lN (pn j))))), (l1, .inl (cL, 2068, .inl (fun j => nI (ln j)))), (b1, .inl (cB, 2068, .inl (fun j => nI (bn j))))] s.heap.size) s.heap.size (fun _ h => Or.inr h) o fs p1 l1 b1 cP cL cB pn ln bn 2064 (2 * s9) (2 * r9 + 1) h1 h2 h3 hpn hln hbn (by omega) (by omega) (by omega) oa0 ob1 hB) (cwV 3 hts (goodIn_app (goodIn_r [Cond.methodLink RX10 130 yX10_times, Cond.instanceMethod yX10_times, Cond.selects RX10 yX10_times yX10_times, Cond.initialized RX10] [1, 2, 3, 4] rfl rfl) (goodIn_sub (fun w9 h9 => bk0 w9 h9) gw_X10_times01)) rfl rfl rfl (by decide +kernel) ⟨Nat.le_of_ble_eq_true rfl, Nat.le_of_ble_eq_true rfl⟩) ⟨fun a U g mk q => by obtain ⟨q0, q1, qP, qK, qD⟩ := q; exact ⟨q0, q1, qP, va_K.moved (u := U) (U := U.calling g mk a) (Vm.Alike.refl U.vm) qK, qD⟩, va_recv hKc hPc (ci := 13) (q0 := 0) rfl rfl, fun U hU hW => ⟨rfl, by rw [hU], by rw [hU]; exact hPc, va_K.moved hW.alike hKc, hDc.self⟩⟩ rfl rfl hl.1 rfl (lv_room (Nat.le_of_ble_eq_true rfl)) dX10_addFractions_12 ⟨(Nat.le_of_ble_eq_true rfl), (Nat.le_of_ble_eq_true rfl)⟩) hS (fun q _ h => hFc q h) hFc (fun u t H1 locs ht hvm hw_7 hB hz1 hk1 hS => ?_)
  obtain ⟨pn2_8, ln2_9, bn2_10⟩ := u
  obtain ⟨hP1, hK1, hD1⟩ := hB
  rw [ht] at hP1
  have hK1 := va_K.moved hvm.symm hK1
  try dsimp only at hw_7
  obtain ⟨hP, hD⟩ := va_join (wr := []) (w1 := [(o, .inr (13, fs)), (p1, .inl (cP, 165440, .inr (.inl (fun j => lN (pn2_8 j))))), (l1, .inl (cL, 2068, .inl (fun j => nI (ln2_9 j)))), (b1, .inl (cB, 2068, .inl (fun j => nI (bn2_10 j))))]) hP hD [0, 1, 2, 3] [] rfl rfl (by decide) (by decide) hk1 hFc hP1 hD1
  have hK := (hK.sub (tys' := []) [] rfl).app hK1
  generalize H1 = H at hP hS ⊢
  have hP : va_P (dC, dI) vwCl ([(o, .inr (13, fs)), (p1, .inl (cP, 165440, .inr (.inl (fun j => lN (pn2_8 j))))), (l1, .inl (cL, 2068, .inl (fun j => nI (ln2_9 j)))), (b1, .inl (cB, 2068, .inl (fun j => nI (bn2_10 j))))]) H := hP
  have hD : va_D A ([(o, .inr (13, fs)), (p1, .inl (cP, 165440, .inr (.inl (fun j => lN (pn2_8 j))))), (l1, .inl (cL, 2068, .inl (fun j => nI (ln2_9 j)))), (b1, .inl (cB, 2068, .inl (fun j => nI (bn2_10 j))))]) := hD
  have hK : va_K (dC, dI) vwCl [(cP, .long), (cL, .int), (cB, .boolean)] s := hK
  obtain ⟨hb_11, hb_12, hb_13, rel_14⟩ := hw_7
  obtain ⟨fr_15, on_16, zz_17⟩ := rel_14
  have on_18 := oa0.fr fr_15 (by simp only [List.mem_cons, List.not_mem_nil, or_false]; omega)
  have on_19 := oa1.fr fr_15 (by simp only [List.mem_cons, List.not_mem_nil, or_false]; omega)
  have on_20 := ob0.fr fr_15 (by simp only [List.mem_cons, List.not_mem_nil, or_false]; omega)
  have on_21 := ob1.fr fr_15 (by simp only [List.mem_cons, List.not_mem_nil, or_false]; omega)
  refine lv_aload_n hx hb dX10_addFractions_15 rfl (lv_at hl 0 rfl) ?_
  refine lv_sipush (v := nI 2065) hx hb dX10_addFractions_16 (by decide +kernel) ?_
  refine lv_iconst (v := nI 2) hx hb dX10_addFractions_19 (by decide +kernel) ?_
  refine lv_iload_n hx hb dX10_addFractions_20 rfl (lv_at hl 3 rfl) ?_
  refine lv_imul hx hb dX10_addFractions_21 ?_
  refine lv_topi (fun x_22 e_23 => ?_)
  obtain rfl : x_22 = nI (2 * r9) := e_23.trans (pk_mul 2 r9)
  refine lv_iconst (v := nI 2) hx hb dX10_addFractions_22 (by decide +kernel) ?_
  refine lv_iload_n hx hb dX10_addFractions_23 rfl (lv_at hl 2 rfl) ?_
  refine lv_imul hx hb dX10_addFractions_24 ?_
  refine lv_topi (fun x_24 e_25 => ?_)
  obtain rfl : x_24 = nI (2 * s9) := e_25.trans (pk_mul 2 s9)
  refine lv_iconst (v := nI 1) hx hb dX10_addFractions_25 (by decide +kernel) ?_
  refine lv_iadd hx hb dX10_addFractions_26 ?_
  refine lv_topi (fun x_26 e_27 => ?_)
  obtain rfl : x_26 = nI (2 * s9 + 1) := e_27.trans (nI_add (2 * s9) 1)
  have hPc := hP.sub (ws' := [(o, .inr (13, fs)), (p1, .inl (cP, 165440, .inr (.inl (fun j => lN (pn2_8 j))))), (l1, .inl (cL, 2068, .inl (fun j => nI (ln2_9 j)))), (b1, .inl (cB, 2068, .inl (fun j => nI (bn2_10 j))))]) [0, 1, 2, 3] rfl
  have hDc := hD.sub (ws' := [(o, .inr (13, fs)), (p1, .inl (cP, 165440, .inr (.inl (fun j => lN (pn2_8 j))))), (l1, .inl (cL, 2068, .inl (fun j => nI (ln2_9 j)))), (b1, .inl (cB, 2068, .inl (fun j => nI (bn2_10 j))))]) [0, 1, 2, 3] (by decide) rfl
  have hKc := hK.sub (tys' := [(cP, .long), (cL, .int), (cB, .boolean)]) [0, 1, 2] rfl
  have hFc := va_free (wc := [(o, .inr (13, fs)), (p1, .inl (cP, 165440, .inr (.inl (fun j => lN (pn2_8 j))))), (l1, .inl (cL, 2068, .inl (fun j => nI (ln2_9 j)))), (b1, .inl (cB, 2068, .inl (fun j => nI (bn2_10 j))))]) hD hS hA [0, 1, 2, 3] rfl
  refine va_callv (va_runV (As := [.int (nI 2065), .int (nI (2 * r9)), .int (nI (2 * s9 + 1))]) (rest := []) ⟨hx, hb, hml, hown, hts⟩ (c_X10_times01 l dC dI (va_A [(o, .inr (13, fs)), (p1, .inl (cP, 165440, .inr (.inl (fun j => lN (pn2_8 j))))), (l1, .inl (cL, 2068, .inl (fun j => nI (ln2_9 j)))), (b1, .inl (cB, 2068, .inl (fun j => nI (bn2_10 j))))] H.size) H.size (fun _ h => Or.inr h) o fs p1 l1 b1 cP cL cB pn2_8 ln2_9 bn2_10 2065 (2 * r9) (2 * s9 + 1) h1 h2 h3 hb_11 hb_12 hb_13 (by omega) (by omega) (by omega) on_20 on_19 zz_17) (cwV 3 hts (goodIn_app (goodIn_r [Cond.methodLink RX10 130 yX10_times, Cond.instanceMethod yX10_times, Cond.selects RX10 yX10_times yX10_times, Cond.initialized RX10] [1, 2, 3, 4] rfl rfl) (goodIn_sub (fun w9 h9 => bk0 w9 h9) gw_X10_times01)) rfl rfl rfl (by decide +kernel) ⟨Nat.le_of_ble_eq_true rfl, Nat.le_of_ble_eq_true rfl⟩) ⟨fun a U g mk q => by obtain ⟨q0, q1, qP, qK, qD⟩ := q; exact ⟨q0, q1, qP, va_K.moved (u := U) (U := U.calling g mk a) (Vm.Alike.refl U.vm) qK, qD⟩, va_recv hKc hPc (ci := 13) (q0 := 0) rfl rfl, fun U hU hW => ⟨rfl, by rw [hU], by rw [hU]; exact hPc, va_K.moved hW.alike hKc, hDc.self⟩⟩ rfl rfl hl.1 rfl (lv_room (Nat.le_of_ble_eq_true rfl)) dX10_addFractions_27 ⟨(Nat.le_of_ble_eq_true rfl), (Nat.le_of_ble_eq_true rfl)⟩) hS (fun q _ h => hFc q h) hFc (fun u t H1 locs ht hvm hw_28 hB hz1 hk1 hS => ?_)
  obtain ⟨pn2_29, ln2_30, bn2_31⟩ := u
  obtain ⟨hP1, hK1, hD1⟩ := hB
  rw [ht] at hP1
  have hK1 := va_K.moved hvm.symm hK1
  try dsimp only at hw_28
  obtain ⟨hP, hD⟩ := va_join (wr := []) (w1 := [(o, .inr (13, fs)), (p1, .inl (cP, 165440, .inr (.inl (fun j => lN (pn2_29 j))))), (l1, .inl (cL, 2068, .inl (fun j => nI (ln2_30 j)))), (b1, .inl (cB, 2068, .inl (fun j => nI (bn2_31 j))))]) hP hD [0, 1, 2, 3] [] rfl rfl (by decide) (by decide) hk1 hFc hP1 hD1
  have hK := (hK.sub (tys' := []) [] rfl).app hK1
  generalize H1 = H at hP hS ⊢
  have hP : va_P (dC, dI) vwCl ([(o, .inr (13, fs)), (p1, .inl (cP, 165440, .inr (.inl (fun j => lN (pn2_29 j))))), (l1, .inl (cL, 2068, .inl (fun j => nI (ln2_30 j)))), (b1, .inl (cB, 2068, .inl (fun j => nI (bn2_31 j))))]) H := hP
  have hD : va_D A ([(o, .inr (13, fs)), (p1, .inl (cP, 165440, .inr (.inl (fun j => lN (pn2_29 j))))), (l1, .inl (cL, 2068, .inl (fun j => nI (ln2_30 j)))), (b1, .inl (cB, 2068, .inl (fun j => nI (bn2_31 j))))]) := hD
  have hK : va_K (dC, dI) vwCl [(cP, .long), (cL, .int), (cB, .boolean)] s := hK
  obtain ⟨hb_32, hb_33, hb_34, rel_35⟩ := hw_28
  obtain ⟨fr_36, on_37, zz_38⟩ := rel_35
  have on_39 := on_18.fr fr_36 (by simp only [List.mem_cons, List.not_mem_nil, or_false]; omega)
  have on_40 := on_19.fr fr_36 (by simp only [List.mem_cons, List.not_mem_nil, or_false]; omega)
  have on_41 := on_20.fr fr_36 (by simp only [List.mem_cons, List.not_mem_nil, or_false]; omega)
  have on_42 := on_21.fr fr_36 (by simp only [List.mem_cons, List.not_mem_nil, or_false]; omega)
  have on_43 := on_16.fr fr_36 (by simp only [List.mem_cons, List.not_mem_nil, or_false]; omega)
  have F_44 := fr_15.tr (S := [2064, 2066, 2065]) fr_36 (fun j h => by simp at h ⊢; omega) (fun j h => by simp at h ⊢; omega)
  refine lv_aload_n hx hb dX10_addFractions_30 rfl (lv_at hl 0 rfl) ?_
  refine lv_sipush (v := nI 2033) hx hb dX10_addFractions_31 (by decide +kernel) ?_
  refine lv_iconst (v := nI 2) hx hb dX10_addFractions_34 (by decide +kernel) ?_
  refine lv_iload_n hx hb dX10_addFractions_35 rfl (lv_at hl 2 rfl) ?_
  refine lv_imul hx hb dX10_addFractions_36 ?_
  refine lv_topi (fun x_45 e_46 => ?_)
  obtain rfl : x_45 = nI (2 * s9) := e_46.trans (pk_mul 2 s9)
  refine lv_iconst (v := nI 1) hx hb dX10_addFractions_37 (by decide +kernel) ?_
  refine lv_iadd hx hb dX10_addFractions_38 ?_
  refine lv_topi (fun x_47 e_48 => ?_)
  obtain rfl : x_47 = nI (2 * s9 + 1) := e_48.trans (nI_add (2 * s9) 1)
  refine lv_iconst (v := nI 2) hx hb dX10_addFractions_39 (by decide +kernel) ?_
  refine lv_iload_n hx hb dX10_addFractions_40 rfl (lv_at hl 3 rfl) ?_
  refine lv_imul hx hb dX10_addFractions_41 ?_
  refine lv_topi (fun x_49 e_50 => ?_)
  obtain rfl : x_49 = nI (2 * r9) := e_50.trans (pk_mul 2 r9)
  refine lv_iconst (v := nI 1) hx hb dX10_addFractions_42 (by decide +kernel) ?_
  refine lv_iadd hx hb dX10_addFractions_43 ?_
  refine lv_topi (fun x_51 e_52 => ?_)
  obtain rfl : x_51 = nI (2 * r9 + 1) := e_52.trans (nI_add (2 * r9) 1)
  have hPc := hP.sub (ws' := [(o, .inr (13, fs)), (p1, .inl (cP, 165440, .inr (.inl (fun j => lN (pn2_29 j))))), (l1, .inl (cL, 2068, .inl (fun j => nI (ln2_30 j)))), (b1, .inl (cB, 2068, .inl (fun j => nI (bn2_31 j))))]) [0, 1, 2, 3] rfl
  have hDc := hD.sub (ws' := [(o, .inr (13, fs)), (p1, .inl (cP, 165440, .inr (.inl (fun j => lN (pn2_29 j))))), (l1, .inl (cL, 2068, .inl (fun j => nI (ln2_30 j)))), (b1, .inl (cB, 2068, .inl (fun j => nI (bn2_31 j))))]) [0, 1, 2, 3] (by decide) rfl
  have hKc := hK.sub (tys' := [(cP, .long), (cL, .int), (cB, .boolean)]) [0, 1, 2] rfl
  have hFc := va_free (wc := [(o, .inr (13, fs)), (p1, .inl (cP, 165440, .inr (.inl (fun j => lN (pn2_29 j))))), (l1, .inl (cL, 2068, .inl (fun j => nI (ln2_30 j)))), (b1, .inl (cB, 2068, .inl (fun j => nI (bn2_31 j))))]) hD hS hA [0, 1, 2, 3] rfl
  refine va_callv (va_runV (As := [.int (nI 2033), .int (nI (2 * s9 + 1)), .int (nI (2 * r9 + 1))]) (rest := []) ⟨hx, hb, hml, hown, hts⟩ (c_X10_times11 l dC dI (va_A [(o, .inr (13, fs)), (p1, .inl (cP, 165440, .inr (.inl (fun j => lN (pn2_29 j))))), (l1, .inl (cL, 2068, .inl (fun j => nI (ln2_30 j)))), (b1, .inl (cB, 2068, .inl (fun j => nI (bn2_31 j))))] H.size) H.size (fun _ h => Or.inr h) o fs p1 l1 b1 cP cL cB pn2_29 ln2_30 bn2_31 2033 (2 * s9 + 1) (2 * r9 + 1) h1 h2 h3 hb_32 hb_33 hb_34 (by omega) (by omega) (by omega) on_40 on_42 zz_38) (cwV 3 hts (goodIn_app (goodIn_r [Cond.methodLink RX10 130 yX10_times, Cond.instanceMethod yX10_times, Cond.selects RX10 yX10_times yX10_times, Cond.initialized RX10] [1, 2, 3, 4] rfl rfl) (goodIn_sub (fun w9 h9 => bk1 w9 h9) gw_X10_times11)) rfl rfl rfl (by decide +kernel) ⟨Nat.le_of_ble_eq_true rfl, Nat.le_of_ble_eq_true rfl⟩) ⟨fun a U g mk q => by obtain ⟨q0, q1, qP, qK, qD⟩ := q; exact ⟨q0, q1, qP, va_K.moved (u := U) (U := U.calling g mk a) (Vm.Alike.refl U.vm) qK, qD⟩, va_recv hKc hPc (ci := 13) (q0 := 0) rfl rfl, fun U hU hW => ⟨rfl, by rw [hU], by rw [hU]; exact hPc, va_K.moved hW.alike hKc, hDc.self⟩⟩ rfl rfl hl.1 rfl (lv_room (Nat.le_of_ble_eq_true rfl)) dX10_addFractions_44 ⟨(Nat.le_of_ble_eq_true rfl), (Nat.le_of_ble_eq_true rfl)⟩) hS (fun q _ h => hFc q h) hFc (fun u t H1 locs ht hvm hw_53 hB hz1 hk1 hS => ?_)
  obtain ⟨pn2_54, ln2_55, bn2_56⟩ := u
  obtain ⟨hP1, hK1, hD1⟩ := hB
  rw [ht] at hP1
  have hK1 := va_K.moved hvm.symm hK1
  try dsimp only at hw_53
  obtain ⟨hP, hD⟩ := va_join (wr := []) (w1 := [(o, .inr (13, fs)), (p1, .inl (cP, 165440, .inr (.inl (fun j => lN (pn2_54 j))))), (l1, .inl (cL, 2068, .inl (fun j => nI (ln2_55 j)))), (b1, .inl (cB, 2068, .inl (fun j => nI (bn2_56 j))))]) hP hD [0, 1, 2, 3] [] rfl rfl (by decide) (by decide) hk1 hFc hP1 hD1
  have hK := (hK.sub (tys' := []) [] rfl).app hK1
  generalize H1 = H at hP hS ⊢
  have hP : va_P (dC, dI) vwCl ([(o, .inr (13, fs)), (p1, .inl (cP, 165440, .inr (.inl (fun j => lN (pn2_54 j))))), (l1, .inl (cL, 2068, .inl (fun j => nI (ln2_55 j)))), (b1, .inl (cB, 2068, .inl (fun j => nI (bn2_56 j))))]) H := hP
  have hD : va_D A ([(o, .inr (13, fs)), (p1, .inl (cP, 165440, .inr (.inl (fun j => lN (pn2_54 j))))), (l1, .inl (cL, 2068, .inl (fun j => nI (ln2_55 j)))), (b1, .inl (cB, 2068, .inl (fun j => nI (bn2_56 j))))]) := hD
  have hK : va_K (dC, dI) vwCl [(cP, .long), (cL, .int), (cB, .boolean)] s := hK
  obtain ⟨hb_57, hb_58, hb_59, rel_60⟩ := hw_53
  obtain ⟨fr_61, on_62, zz_63⟩ := rel_60
  have on_64 := on_39.fr fr_61 (by simp only [List.mem_cons, List.not_mem_nil, or_false]; omega)
  have on_65 := on_40.fr fr_61 (by simp only [List.mem_cons, List.not_mem_nil, or_false]; omega)
  have on_66 := on_41.fr fr_61 (by simp only [List.mem_cons, List.not_mem_nil, or_false]; omega)
  have on_67 := on_42.fr fr_61 (by simp only [List.mem_cons, List.not_mem_nil, or_false]; omega)
  have on_68 := on_43.fr fr_61 (by simp only [List.mem_cons, List.not_mem_nil, or_false]; omega)
  have on_69 := on_37.fr fr_61 (by simp only [List.mem_cons, List.not_mem_nil, or_false]; omega)
  have F_70 := F_44.tr (S := [2064, 2066, 2065, 2033]) fr_61 (fun j h => by simp at h ⊢; omega) (fun j h => by simp at h ⊢; omega)
  refine lv_aload_n hx hb dX10_addFractions_47 rfl (lv_at hl 0 rfl) ?_
  refine lv_sipush (v := nI 2032) hx hb dX10_addFractions_48 (by decide +kernel) ?_
  refine lv_sipush (v := nI 2064) hx hb dX10_addFractions_51 (by decide +kernel) ?_
  refine lv_sipush (v := nI 2065) hx hb dX10_addFractions_54 (by decide +kernel) ?_
  have hPc := hP.sub (ws' := [(o, .inr (13, fs)), (p1, .inl (cP, 165440, .inr (.inl (fun j => lN (pn2_54 j))))), (l1, .inl (cL, 2068, .inl (fun j => nI (ln2_55 j)))), (b1, .inl (cB, 2068, .inl (fun j => nI (bn2_56 j))))]) [0, 1, 2, 3] rfl
  have hDc := hD.sub (ws' := [(o, .inr (13, fs)), (p1, .inl (cP, 165440, .inr (.inl (fun j => lN (pn2_54 j))))), (l1, .inl (cL, 2068, .inl (fun j => nI (ln2_55 j)))), (b1, .inl (cB, 2068, .inl (fun j => nI (bn2_56 j))))]) [0, 1, 2, 3] (by decide) rfl
  have hKc := hK.sub (tys' := [(cP, .long), (cL, .int), (cB, .boolean)]) [0, 1, 2] rfl
  have hFc := va_free (wc := [(o, .inr (13, fs)), (p1, .inl (cP, 165440, .inr (.inl (fun j => lN (pn2_54 j))))), (l1, .inl (cL, 2068, .inl (fun j => nI (ln2_55 j)))), (b1, .inl (cB, 2068, .inl (fun j => nI (bn2_56 j))))]) hD hS hA [0, 1, 2, 3] rfl
  refine va_callv (va_runV (As := [.int (nI 2032), .int (nI 2064), .int (nI 2065)]) (rest := []) ⟨hx, hb, hml, hown, hts⟩ (c_X10_add0 l dC dI (va_A [(o, .inr (13, fs)), (p1, .inl (cP, 165440, .inr (.inl (fun j => lN (pn2_54 j))))), (l1, .inl (cL, 2068, .inl (fun j => nI (ln2_55 j)))), (b1, .inl (cB, 2068, .inl (fun j => nI (bn2_56 j))))] H.size) H.size (fun _ h => Or.inr h) o fs p1 l1 b1 cP cL cB pn2_54 ln2_55 bn2_56 2032 2064 2065 h1 h2 h3 hb_57 hb_58 hb_59 (by omega) (by omega) (by omega) on_68 on_69 zz_63) (cwV 3 hts (goodIn_app (goodIn_r [Cond.methodLink RX10 133 yX10_add, Cond.instanceMethod yX10_add, Cond.selects RX10 yX10_add yX10_add, Cond.initialized RX10] [5, 6, 7, 4] rfl rfl) (goodIn_sub (fun w9 h9 => bk2 w9 h9) gw_X10_add0)) rfl rfl rfl (by decide +kernel) ⟨Nat.le_of_ble_eq_true rfl, Nat.le_of_ble_eq_true rfl⟩) ⟨fun a U g mk q => by obtain ⟨q0, q1, qP, qK, qD⟩ := q; exact ⟨q0, q1, qP, va_K.moved (u := U) (U := U.calling g mk a) (Vm.Alike.refl U.vm) qK, qD⟩, va_recv hKc hPc (ci := 13) (q0 := 0) rfl rfl, fun U hU hW => ⟨rfl, by rw [hU], by rw [hU]; exact hPc, va_K.moved hW.alike hKc, hDc.self⟩⟩ rfl rfl hl.1 rfl (lv_room (Nat.le_of_ble_eq_true rfl)) dX10_addFractions_57 ⟨(Nat.le_of_ble_eq_true rfl), (Nat.le_of_ble_eq_true rfl)⟩) hS (fun q _ h => hFc q h) hFc (fun u t H1 locs ht hvm hw_71 hB hz1 hk1 hS => ?_)
  obtain ⟨pn2_72, ln2_73, bn2_74⟩ := u
  obtain ⟨hP1, hK1, hD1⟩ := hB
  rw [ht] at hP1
  have hK1 := va_K.moved hvm.symm hK1
  try dsimp only at hw_71
  obtain ⟨hP, hD⟩ := va_join (wr := []) (w1 := [(o, .inr (13, fs)), (p1, .inl (cP, 165440, .inr (.inl (fun j => lN (pn2_72 j))))), (l1, .inl (cL, 2068, .inl (fun j => nI (ln2_73 j)))), (b1, .inl (cB, 2068, .inl (fun j => nI (bn2_74 j))))]) hP hD [0, 1, 2, 3] [] rfl rfl (by decide) (by decide) hk1 hFc hP1 hD1
  have hK := (hK.sub (tys' := []) [] rfl).app hK1
  generalize H1 = H at hP hS ⊢
  have hP : va_P (dC, dI) vwCl ([(o, .inr (13, fs)), (p1, .inl (cP, 165440, .inr (.inl (fun j => lN (pn2_72 j))))), (l1, .inl (cL, 2068, .inl (fun j => nI (ln2_73 j)))), (b1, .inl (cB, 2068, .inl (fun j => nI (bn2_74 j))))]) H := hP
  have hD : va_D A ([(o, .inr (13, fs)), (p1, .inl (cP, 165440, .inr (.inl (fun j => lN (pn2_72 j))))), (l1, .inl (cL, 2068, .inl (fun j => nI (ln2_73 j)))), (b1, .inl (cB, 2068, .inl (fun j => nI (bn2_74 j))))]) := hD
  have hK : va_K (dC, dI) vwCl [(cP, .long), (cL, .int), (cB, .boolean)] s := hK
  obtain ⟨hb_75, hb_76, hb_77, rel_78⟩ := hw_71
  obtain ⟨fr_79, on_80, zz_81⟩ := rel_78
  have on_82 := on_64.fr fr_79 (by simp only [List.mem_cons, List.not_mem_nil, or_false]; omega)
  have on_83 := on_65.fr fr_79 (by simp only [List.mem_cons, List.not_mem_nil, or_false]; omega)
  have on_84 := on_66.fr fr_79 (by simp only [List.mem_cons, List.not_mem_nil, or_false]; omega)
  have on_85 := on_67.fr fr_79 (by simp only [List.mem_cons, List.not_mem_nil, or_false]; omega)
  have on_86 := on_68.fr fr_79 (by simp only [List.mem_cons, List.not_mem_nil, or_false]; omega)
  have on_87 := on_69.fr fr_79 (by simp only [List.mem_cons, List.not_mem_nil, or_false]; omega)
  have on_88 := on_62.fr fr_79 (by simp only [List.mem_cons, List.not_mem_nil, or_false]; omega)
  have F_89 := F_70.tr (S := [2064, 2066, 2065, 2033, 2032]) fr_79 (fun j h => by simp at h ⊢; omega) (fun j h => by simp at h ⊢; omega)
  refine lv_aload_n hx hb dX10_addFractions_60 rfl (lv_at hl 0 rfl) ?_
  refine lv_sipush (v := nI 1016) hx hb dX10_addFractions_61 (by decide +kernel) ?_
  have hPc := hP.sub (ws' := [(o, .inr (13, fs)), (p1, .inl (cP, 165440, .inr (.inl (fun j => lN (pn2_72 j))))), (l1, .inl (cL, 2068, .inl (fun j => nI (ln2_73 j)))), (b1, .inl (cB, 2068, .inl (fun j => nI (bn2_74 j))))]) [0, 1, 2, 3] rfl
  have hDc := hD.sub (ws' := [(o, .inr (13, fs)), (p1, .inl (cP, 165440, .inr (.inl (fun j => lN (pn2_72 j))))), (l1, .inl (cL, 2068, .inl (fun j => nI (ln2_73 j)))), (b1, .inl (cB, 2068, .inl (fun j => nI (bn2_74 j))))]) [0, 1, 2, 3] (by decide) rfl
  have hKc := hK.sub (tys' := [(cP, .long), (cL, .int), (cB, .boolean)]) [0, 1, 2] rfl
  have hFc := va_free (wc := [(o, .inr (13, fs)), (p1, .inl (cP, 165440, .inr (.inl (fun j => lN (pn2_72 j))))), (l1, .inl (cL, 2068, .inl (fun j => nI (ln2_73 j)))), (b1, .inl (cB, 2068, .inl (fun j => nI (bn2_74 j))))]) hD hS hA [0, 1, 2, 3] rfl
  refine va_callv (va_runV (As := [.int (nI 1016)]) (rest := []) ⟨hx, hb, hml, hown, hts⟩ (c_X10_red0r l dC dI (va_A [(o, .inr (13, fs)), (p1, .inl (cP, 165440, .inr (.inl (fun j => lN (pn2_72 j))))), (l1, .inl (cL, 2068, .inl (fun j => nI (ln2_73 j)))), (b1, .inl (cB, 2068, .inl (fun j => nI (bn2_74 j))))] H.size) H.size (fun _ h => Or.inr h) o fs p1 l1 b1 cP cL cB pn2_72 ln2_73 bn2_74 1016 h1 h2 h3 hb_75 hb_76 hb_77 (by decide) on_80) (cwV 1 hts (goodIn_app (goodIn_r [Cond.methodLink RX10 121 yX10_reduce, Cond.instanceMethod yX10_reduce, Cond.selects RX10 yX10_reduce yX10_reduce, Cond.initialized RX10] [8, 9, 10, 4] rfl rfl) (goodIn_sub (fun w9 h9 => bk3 w9 h9) gw_X10_red0r)) rfl rfl rfl (by decide +kernel) ⟨Nat.le_of_ble_eq_true rfl, Nat.le_of_ble_eq_true rfl⟩) ⟨fun a U g mk q => by obtain ⟨q0, q1, qP, qK, qD⟩ := q; exact ⟨q0, q1, qP, va_K.moved (u := U) (U := U.calling g mk a) (Vm.Alike.refl U.vm) qK, qD⟩, va_recv hKc hPc (ci := 13) (q0 := 0) rfl rfl, fun U hU hW => ⟨rfl, by rw [hU], by rw [hU]; exact hPc, va_K.moved hW.alike hKc, hDc.self⟩⟩ rfl rfl hl.1 rfl (lv_room (Nat.le_of_ble_eq_true rfl)) dX10_addFractions_64 ⟨(Nat.le_of_ble_eq_true rfl), (Nat.le_of_ble_eq_true rfl)⟩) hS (fun q _ h => hFc q h) hFc (fun u t H1 locs ht hvm hw_90 hB hz1 hk1 hS => ?_)
  obtain ⟨pn2_91, ln2_92, bn2_93⟩ := u
  obtain ⟨hP1, hK1, hD1⟩ := hB
  rw [ht] at hP1
  have hK1 := va_K.moved hvm.symm hK1
  try dsimp only at hw_90
  obtain ⟨hP, hD⟩ := va_join (wr := []) (w1 := [(o, .inr (13, fs)), (p1, .inl (cP, 165440, .inr (.inl (fun j => lN (pn2_91 j))))), (l1, .inl (cL, 2068, .inl (fun j => nI (ln2_92 j)))), (b1, .inl (cB, 2068, .inl (fun j => nI (bn2_93 j))))]) hP hD [0, 1, 2, 3] [] rfl rfl (by decide) (by decide) hk1 hFc hP1 hD1
  have hK := (hK.sub (tys' := []) [] rfl).app hK1
  generalize H1 = H at hP hS ⊢
  have hP : va_P (dC, dI) vwCl ([(o, .inr (13, fs)), (p1, .inl (cP, 165440, .inr (.inl (fun j => lN (pn2_91 j))))), (l1, .inl (cL, 2068, .inl (fun j => nI (ln2_92 j)))), (b1, .inl (cB, 2068, .inl (fun j => nI (bn2_93 j))))]) H := hP
  have hD : va_D A ([(o, .inr (13, fs)), (p1, .inl (cP, 165440, .inr (.inl (fun j => lN (pn2_91 j))))), (l1, .inl (cL, 2068, .inl (fun j => nI (ln2_92 j)))), (b1, .inl (cB, 2068, .inl (fun j => nI (bn2_93 j))))]) := hD
  have hK : va_K (dC, dI) vwCl [(cP, .long), (cL, .int), (cB, .boolean)] s := hK
  obtain ⟨hb_94, hb_95, hb_96, rel_97⟩ := hw_90
  obtain ⟨fr_98, on_99, zz_100⟩ := rel_97
  have zb_101 := zz_100 zz_81
  have on_102 := on_82.fr fr_98 (by simp only [List.mem_cons, List.not_mem_nil, or_false]; omega)
  have on_103 := on_83.fr fr_98 (by simp only [List.mem_cons, List.not_mem_nil, or_false]; omega)
  have on_104 := on_84.fr fr_98 (by simp only [List.mem_cons, List.not_mem_nil, or_false]; omega)
  have on_105 := on_85.fr fr_98 (by simp only [List.mem_cons, List.not_mem_nil, or_false]; omega)
  have on_106 := on_86.fr fr_98 (by simp only [List.mem_cons, List.not_mem_nil, or_false]; omega)
  have on_107 := on_87.fr fr_98 (by simp only [List.mem_cons, List.not_mem_nil, or_false]; omega)
  have on_108 := on_80.fr fr_98 (by simp only [List.mem_cons, List.not_mem_nil, or_false]; omega)
  have F_109 := F_89.tr (S := [2064, 2066, 2065, 2033, 2032]) fr_98 (fun j h => by simp at h ⊢; omega) (fun j h => by simp at h ⊢; omega)
  refine lv_aload_n hx hb dX10_addFractions_67 rfl (lv_at hl 0 rfl) ?_
  refine lv_iload_n hx hb dX10_addFractions_68 rfl (lv_at hl 1 rfl) ?_
  refine lv_sipush (v := nI 1016) hx hb dX10_addFractions_69 (by decide +kernel) ?_
  have hPc := hP.sub (ws' := [(o, .inr (13, fs)), (p1, .inl (cP, 165440, .inr (.inl (fun j => lN (pn2_91 j))))), (l1, .inl (cL, 2068, .inl (fun j => nI (ln2_92 j)))), (b1, .inl (cB, 2068, .inl (fun j => nI (bn2_93 j))))]) [0, 1, 2, 3] rfl
  have hDc := hD.sub (ws' := [(o, .inr (13, fs)), (p1, .inl (cP, 165440, .inr (.inl (fun j => lN (pn2_91 j))))), (l1, .inl (cL, 2068, .inl (fun j => nI (ln2_92 j)))), (b1, .inl (cB, 2068, .inl (fun j => nI (bn2_93 j))))]) [0, 1, 2, 3] (by decide) rfl
  have hKc := hK.sub (tys' := [(cP, .long), (cL, .int), (cB, .boolean)]) [0, 1, 2] rfl
  have hFc := va_free (wc := [(o, .inr (13, fs)), (p1, .inl (cP, 165440, .inr (.inl (fun j => lN (pn2_91 j))))), (l1, .inl (cL, 2068, .inl (fun j => nI (ln2_92 j)))), (b1, .inl (cB, 2068, .inl (fun j => nI (bn2_93 j))))]) hD hS hA [0, 1, 2, 3] rfl
  refine va_callv (va_runV (As := [.int (nI t9), .int (nI 1016)]) (rest := []) ⟨hx, hb, hml, hown, hts⟩ (c_X10_copyF l dC dI (va_A [(o, .inr (13, fs)), (p1, .inl (cP, 165440, .inr (.inl (fun j => lN (pn2_91 j))))), (l1, .inl (cL, 2068, .inl (fun j => nI (ln2_92 j)))), (b1, .inl (cB, 2068, .inl (fun j => nI (bn2_93 j))))] H.size) H.size (fun _ h => Or.inr h) o fs p1 l1 b1 cP cL cB pn2_91 ln2_92 bn2_93 t9 1016 0 1 h1 h2 h3 hb_94 hb_95 hb_96 (by omega) (by decide) on_108 on_99) (cwV 2 hts (goodIn_app (goodIn_r [Cond.methodLink RX10 136 yX10_copyFraction, Cond.instanceMethod yX10_copyFraction, Cond.selects RX10 yX10_copyFraction yX10_copyFraction, Cond.initialized RX10] [11, 12, 13, 4] rfl rfl) (goodIn_sub (fun w9 h9 => bk4 w9 h9) gw_X10_copyF)) rfl rfl rfl (by decide +kernel) ⟨Nat.le_of_ble_eq_true rfl, Nat.le_of_ble_eq_true rfl⟩) ⟨fun a U g mk q => by obtain ⟨q0, q1, qP, qK, qD⟩ := q; exact ⟨q0, q1, qP, va_K.moved (u := U) (U := U.calling g mk a) (Vm.Alike.refl U.vm) qK, qD⟩, va_recv hKc hPc (ci := 13) (q0 := 0) rfl rfl, fun U hU hW => ⟨rfl, by rw [hU], by rw [hU]; exact hPc, va_K.moved hW.alike hKc, hDc.self⟩⟩ rfl rfl hl.1 rfl (lv_room (Nat.le_of_ble_eq_true rfl)) dX10_addFractions_72 ⟨(Nat.le_of_ble_eq_true rfl), (Nat.le_of_ble_eq_true rfl)⟩) hS (fun q _ h => hFc q h) hFc (fun u t H1 locs ht hvm hw_110 hB hz1 hk1 hS => ?_)
  obtain ⟨pn2_111, ln2_112, bn2_113⟩ := u
  obtain ⟨hP1, hK1, hD1⟩ := hB
  rw [ht] at hP1
  have hK1 := va_K.moved hvm.symm hK1
  try dsimp only at hw_110
  obtain ⟨hP, hD⟩ := va_join (wr := []) (w1 := [(o, .inr (13, fs)), (p1, .inl (cP, 165440, .inr (.inl (fun j => lN (pn2_111 j))))), (l1, .inl (cL, 2068, .inl (fun j => nI (ln2_112 j)))), (b1, .inl (cB, 2068, .inl (fun j => nI (bn2_113 j))))]) hP hD [0, 1, 2, 3] [] rfl rfl (by decide) (by decide) hk1 hFc hP1 hD1
  have hK := (hK.sub (tys' := []) [] rfl).app hK1
  generalize H1 = H at hP hS ⊢
  have hP : va_P (dC, dI) vwCl ([(o, .inr (13, fs)), (p1, .inl (cP, 165440, .inr (.inl (fun j => lN (pn2_111 j))))), (l1, .inl (cL, 2068, .inl (fun j => nI (ln2_112 j)))), (b1, .inl (cB, 2068, .inl (fun j => nI (bn2_113 j))))]) H := hP
  have hD : va_D A ([(o, .inr (13, fs)), (p1, .inl (cP, 165440, .inr (.inl (fun j => lN (pn2_111 j))))), (l1, .inl (cL, 2068, .inl (fun j => nI (ln2_112 j)))), (b1, .inl (cB, 2068, .inl (fun j => nI (bn2_113 j))))]) := hD
  have hK : va_K (dC, dI) vwCl [(cP, .long), (cL, .int), (cB, .boolean)] s := hK
  obtain ⟨hb_114, hb_115, hb_116, rel_117⟩ := hw_110
  obtain ⟨fr_118, on_119, on_120, zz_121⟩ := rel_117
  have zb_122 := zz_121 zb_101
  have F_123 := F_109.tr (S := [2064, 2066, 2065, 2033, 2032, 2 * t9, 2 * t9 + 1]) fr_118 (fun j h => by simp at h ⊢; omega) (fun j h => by simp at h ⊢; omega)
  have hP9 := hP.sub (ws' := [(o, .inr (13, fs)), (p1, .inl (cP, 165440, .inr (.inl (fun j => lN (pn2_111 j))))), (l1, .inl (cL, 2068, .inl (fun j => nI (ln2_112 j)))), (b1, .inl (cB, 2068, .inl (fun j => nI (bn2_113 j))))]) [0, 1, 2, 3] rfl
  have hD9 := hD.sub (ws' := [(o, .inr (13, fs)), (p1, .inl (cP, 165440, .inr (.inl (fun j => lN (pn2_111 j))))), (l1, .inl (cL, 2068, .inl (fun j => nI (ln2_112 j)))), (b1, .inl (cB, 2068, .inl (fun j => nI (bn2_113 j))))]) [0, 1, 2, 3] (by decide) rfl
  have hK9 := hK.sub (tys' := [(cP, .long), (cL, .int), (cB, .boolean)]) [0, 1, 2] rfl
  refine W.widen (k := 0) (n := 0) (by omega) (by omega) ?_
  exact W.vret hx hb hr (fun t ht hW => ⟨⟨(pn2_111, ln2_112, bn2_113), rfl, ⟨hb_114, hb_115, hb_116, fun j hj => F_123 j (fun h => hj (by simp at h ⊢; omega)), on_119, on_120, zb_122⟩, by rw [ht]; exact hP9, va_K.moved hW.alike hK9, hD9⟩, hS.F ht⟩) hS.2.2 dX10_addFractions_75
def wd_X10_timesF0 : List Cond := .code yX10_timesFractions cX10_timesFractions 4 none :: (([.methodLink RX10 130 yX10_times, .instanceMethod yX10_times, .selects RX10 yX10_times yX10_times, .initialized RX10, .methodLink RX10 121 yX10_reduce, .instanceMethod yX10_reduce, .selects RX10 yX10_reduce yX10_reduce, .methodLink RX10 136 yX10_copyFraction, .instanceMethod yX10_copyFraction, .selects RX10 yX10_copyFraction yX10_copyFraction] : List Cond) ++ (wd_X10_times00 ++ (wd_X10_times11 ++ (wd_X10_red0r ++ (wd_X10_copyF ++ ([]))))))
theorem gw_X10_timesF0 : wd_X10_timesF0.all goodWord = true := k_allc rfl (k_all (by decide +kernel) (k_all (gw_X10_times00) (k_all (gw_X10_times11) (k_all (gw_X10_red0r) (k_all (gw_X10_copyF) (rfl))))))
abbrev at_X10_timesF0 (dC : Nat → ClassId) (dI : Nat → Nat → Nat) (A : Nat → Prop) (o : Nat) (fs : List Value) (p1 : Nat) (l1 : Nat) (b1 : Nat) (cP : ClassId) (cL : ClassId) (cB : ClassId) (pn : Nat → Nat) (ln : Nat → Nat) (bn : Nat → Nat) (t9 : Nat) (s9 : Nat) (r9 : Nat) (u : (Nat → Nat) × (Nat → Nat) × (Nat → Nat)) (t : State) : Prop := match u with
  | (pn2, ln2, bn2) => va_P (dC, dI) vwCl [(o, .inr (13, fs)), (p1, .inl (cP, 165440, .inr (.inl (fun j => lN (pn2 j))))), (l1, .inl (cL, 2068, .inl (fun j => nI (ln2 j)))), (b1, .inl (cB, 2068, .inl (fun j => nI (bn2 j))))] t.heap ∧ va_K (dC, dI) vwCl [(cP, .long), (cL, .int), (cB, .boolean)] t ∧ va_D A [(o, .inr (13, fs)), (p1, .inl (cP, 165440, .inr (.inl (fun j => lN (pn2 j))))), (l1, .inl (cL, 2068, .inl (fun j => nI (ln2 j)))), (b1, .inl (cB, 2068, .inl (fun j => nI (bn2 j))))]
set_option maxHeartbeats 4000000 in
set_option maxRecDepth 100000 in
theorem c_X10_timesF0 (l : Launch) (dC : Nat → ClassId) (dI : Nat → Nat → Nat) (A : Nat → Prop) (sz : Nat) (hA0 : ∀ q, sz ≤ q → A q) (o : Nat) (fs : List Value) (p1 : Nat) (l1 : Nat) (b1 : Nat) (cP : ClassId) (cL : ClassId) (cB : ClassId) (pn : Nat → Nat) (ln : Nat → Nat) (bn : Nat → Nat) (t9 : Nat) (s9 : Nat) (r9 : Nat) (h1 : fs[1]? = some (.ref p1)) (h2 : fs[2]? = some (.ref l1)) (h3 : fs[3]? = some (.ref b1)) (hpn : ∀ j, pn j < 4294967296) (hln : ∀ j, ln j < 81) (hbn : ∀ j, bn j < 2) (htq : t9 < 1016) (hs : s9 < 1016) (hr9 : r9 < 1016) (oa0 : On1 pn ln (2 * s9) 0) (oa1 : On1 pn ln (2 * s9 + 1) 1) (ob0 : On1 pn ln (2 * r9) 0) (ob1 : On1 pn ln (2 * r9 + 1) 1) (hB : ∀ j, bn j = 0) : Met l yX10_timesFractions wd_X10_timesF0 ({ frames := 50, cells := 0, slots := 0, locals := 1000 }) (va_Pc [.ref o, .int (nI t9), .int (nI s9), .int (nI r9)] (fun U => U.heap.size = sz ∧ va_P (dC, dI) vwCl [(o, .inr (13, fs)), (p1, .inl (cP, 165440, .inr (.inl (fun j => lN (pn j))))), (l1, .inl (cL, 2068, .inl (fun j => nI (ln j)))), (b1, .inl (cB, 2068, .inl (fun j => nI (bn j))))] U.heap ∧ va_K (dC, dI) vwCl [(cP, .long), (cL, .int), (cB, .boolean)] U ∧ va_D A [(o, .inr (13, fs)), (p1, .inl (cP, 165440, .inr (.inl (fun j => lN (pn j))))), (l1, .inl (cL, 2068, .inl (fun j => nI (ln j)))), (b1, .inl (cB, 2068, .inl (fun j => nI (bn j))))])) (va_Qv (fun (u : (Nat → Nat) × (Nat → Nat) × (Nat → Nat)) => match u with | (pn2, ln2, bn2) => (∀ j, pn2 j < 4294967296) ∧ (∀ j, ln2 j < 81) ∧ (∀ j, bn2 j < 2) ∧ (Fr9 [2 * t9, 2 * t9 + 1, 2032, 2033, 2064, 2065, 2066] pn ln pn2 ln2 ∧ On1 pn2 ln2 (2 * t9) 0 ∧ On1 pn2 ln2 (2 * t9 + 1) 1 ∧ (∀ j, bn2 j = 0))) (at_X10_timesF0 dC dI A o fs p1 l1 b1 cP cL cB pn ln bn t9 s9 r9) A) (0) (0) A := by
  refine Met.ofW (cc := cX10_timesFractions) (maxL := 4) (ret := none) (by decide) rfl ?_
  intro p e s m args below meth c s₁ B hml hv
  obtain ⟨rfl, hsz, hP, hK, hD⟩ := hv
  have hx := B.exec
  have hb := B.bytes
  have hr := B.returns
  have hts := atoms_spec (ws := wd_X10_timesF0) B.pre
  have hown : s.vm.findClass RX10 = some m.cls := findClass_of_methodNamed B.named
  have hlocks := B.notSynchronized
  have bk0 : ∀ w ∈ wd_X10_times00, w ∈ wd_X10_timesF0 := fun _ h => List.mem_cons_of_mem _ (List.mem_append_right _ (List.mem_append_left _ h))
  have bk1 : ∀ w ∈ wd_X10_times11, w ∈ wd_X10_timesF0 := fun _ h => List.mem_cons_of_mem _ (List.mem_append_right _ (List.mem_append_right _ (List.mem_append_left _ h)))
  have bk2 : ∀ w ∈ wd_X10_red0r, w ∈ wd_X10_timesF0 := fun _ h => List.mem_cons_of_mem _ (List.mem_append_right _ (List.mem_append_right _ (List.mem_append_right _ (List.mem_append_left _ h))))
  have bk3 : ∀ w ∈ wd_X10_copyF, w ∈ wd_X10_timesF0 := fun _ h => List.mem_cons_of_mem _ (List.mem_append_right _ (List.mem_append_right _ (List.mem_append_right _ (List.mem_append_right _ (List.mem_append_left _ h)))))
  subst hsz
  have hA : ∀ q : Nat, s.heap.size ≤ q → A q := hA0
  have hS : va_S A s.heap s.heap [] := va_S.rf
  have hl := lv_entry ([.ref o, .int (nI t9), .int (nI s9), .int (nI r9)]) (n := 4) (Nat.le_of_ble_eq_true rfl)
  rw [lg_entry_eq]
  generalize (lg_sl ([.ref o, .int (nI t9), .int (nI s9), .int (nI r9)]) ++ List.replicate (4 - (lg_sl ([.ref o, .int (nI t9), .int (nI s9), .int (nI r9)])).length) Slot.unset).toArray = ls at hl ⊢
  have hl : lv_has ls 4 [(0, .ref o), (1, .int (nI t9)), (2, .int (nI s9)), (3, .int (nI r9))] := hl
  refine lv_aload_n hx hb dX10_timesFractions_0 rfl (lv_at hl 0 rfl) ?_
  refine lv_sipush (v := nI 2032) hx hb dX10_timesFractions_1 (by decide +kernel) ?_
  refine lv_iconst (v := nI 2) hx hb dX10_timesFractions_4 (by decide +kernel) ?_
  refine lv_iload_n hx hb dX10_timesFractions_5 rfl (lv_at hl 2 rfl) ?_
  refine lv_imul hx hb dX10_timesFractions_6 ?_
  refine lv_topi (fun x_1 e_2 => ?_)
  obtain rfl : x_1 = nI (2 * s9) := e_2.trans (pk_mul 2 s9)
  refine lv_iconst (v := nI 2) hx hb dX10_timesFractions_7 (by decide +kernel) ?_
  refine lv_iload_n hx hb dX10_timesFractions_8 rfl (lv_at hl 3 rfl) ?_
  refine lv_imul hx hb dX10_timesFractions_9 ?_
  refine lv_topi (fun x_3 e_4 => ?_)
  obtain rfl : x_3 = nI (2 * r9) := e_4.trans (pk_mul 2 r9)
  have hPc := hP.sub (ws' := [(o, .inr (13, fs)), (p1, .inl (cP, 165440, .inr (.inl (fun j => lN (pn j))))), (l1, .inl (cL, 2068, .inl (fun j => nI (ln j)))), (b1, .inl (cB, 2068, .inl (fun j => nI (bn j))))]) [0, 1, 2, 3] rfl
  have hDc := hD.sub (ws' := [(o, .inr (13, fs)), (p1, .inl (cP, 165440, .inr (.inl (fun j => lN (pn j))))), (l1, .inl (cL, 2068, .inl (fun j => nI (ln j)))), (b1, .inl (cB, 2068, .inl (fun j => nI (bn j))))]) [0, 1, 2, 3] (by decide) rfl
  have hKc := hK.sub (tys' := [(cP, .long), (cL, .int), (cB, .boolean)]) [0, 1, 2] rfl
  have hFc := va_free (wc := [(o, .inr (13, fs)), (p1, .inl (cP, 165440, .inr (.inl (fun j => lN (pn j))))), (l1, .inl (cL, 2068, .inl (fun j => nI (ln j)))), (b1, .inl (cB, 2068, .inl (fun j => nI (bn j))))]) hD hS hA [0, 1, 2, 3] rfl
  refine va_callv (va_runV (As := [.int (nI 2032), .int (nI (2 * s9)), .int (nI (2 * r9))]) (rest := []) ⟨hx, hb, hml, hown, hts⟩ (c_X10_times00 l dC dI (va_A [(o, .inr (13, fs)), (p1, .inl (cP, 165440, .inr (.inl (fun j => lN (pn j))))), (l1, .inl (cL, 2068, .inl (fun j => nI (ln j)))), (b1, .inl (cB, 2068, .inl (fun j => nI (bn j))))] s.heap.size) s.heap.size (fun _ h => Or.inr h) o fs p1 l1 b1 cP cL cB pn ln bn 2032 (2 * s9) (2 * r9) h1 h2 h3 hpn hln hbn (by omega) (by omega) (by omega) oa0 ob0 hB) (cwV 3 hts (goodIn_app (goodIn_r [Cond.methodLink RX10 130 yX10_times, Cond.instanceMethod yX10_times, Cond.selects RX10 yX10_times yX10_times, Cond.initialized RX10] [1, 2, 3, 4] rfl rfl) (goodIn_sub (fun w9 h9 => bk0 w9 h9) gw_X10_times00)) rfl rfl rfl (by decide +kernel) ⟨Nat.le_of_ble_eq_true rfl, Nat.le_of_ble_eq_true rfl⟩) ⟨fun a U g mk q => by obtain ⟨q0, q1, qP, qK, qD⟩ := q; exact ⟨q0, q1, qP, va_K.moved (u := U) (U := U.calling g mk a) (Vm.Alike.refl U.vm) qK, qD⟩, va_recv hKc hPc (ci := 13) (q0 := 0) rfl rfl, fun U hU hW => ⟨rfl, by rw [hU], by rw [hU]; exact hPc, va_K.moved hW.alike hKc, hDc.self⟩⟩ rfl rfl hl.1 rfl (lv_room (Nat.le_of_ble_eq_true rfl)) dX10_timesFractions_10 ⟨(Nat.le_of_ble_eq_true rfl), (Nat.le_of_ble_eq_true rfl)⟩) hS (fun q _ h => hFc q h) hFc (fun u t H1 locs ht hvm hw_5 hB hz1 hk1 hS => ?_)
  obtain ⟨pn2_6, ln2_7, bn2_8⟩ := u
  obtain ⟨hP1, hK1, hD1⟩ := hB
  rw [ht] at hP1
  have hK1 := va_K.moved hvm.symm hK1
  try dsimp only at hw_5
  obtain ⟨hP, hD⟩ := va_join (wr := []) (w1 := [(o, .inr (13, fs)), (p1, .inl (cP, 165440, .inr (.inl (fun j => lN (pn2_6 j))))), (l1, .inl (cL, 2068, .inl (fun j => nI (ln2_7 j)))), (b1, .inl (cB, 2068, .inl (fun j => nI (bn2_8 j))))]) hP hD [0, 1, 2, 3] [] rfl rfl (by decide) (by decide) hk1 hFc hP1 hD1
  have hK := (hK.sub (tys' := []) [] rfl).app hK1
  generalize H1 = H at hP hS ⊢
  have hP : va_P (dC, dI) vwCl ([(o, .inr (13, fs)), (p1, .inl (cP, 165440, .inr (.inl (fun j => lN (pn2_6 j))))), (l1, .inl (cL, 2068, .inl (fun j => nI (ln2_7 j)))), (b1, .inl (cB, 2068, .inl (fun j => nI (bn2_8 j))))]) H := hP
  have hD : va_D A ([(o, .inr (13, fs)), (p1, .inl (cP, 165440, .inr (.inl (fun j => lN (pn2_6 j))))), (l1, .inl (cL, 2068, .inl (fun j => nI (ln2_7 j)))), (b1, .inl (cB, 2068, .inl (fun j => nI (bn2_8 j))))]) := hD
  have hK : va_K (dC, dI) vwCl [(cP, .long), (cL, .int), (cB, .boolean)] s := hK
  obtain ⟨hb_9, hb_10, hb_11, rel_12⟩ := hw_5
  obtain ⟨fr_13, on_14, zz_15⟩ := rel_12
  have on_16 := oa0.fr fr_13 (by simp only [List.mem_cons, List.not_mem_nil, or_false]; omega)
  have on_17 := oa1.fr fr_13 (by simp only [List.mem_cons, List.not_mem_nil, or_false]; omega)
  have on_18 := ob0.fr fr_13 (by simp only [List.mem_cons, List.not_mem_nil, or_false]; omega)
  have on_19 := ob1.fr fr_13 (by simp only [List.mem_cons, List.not_mem_nil, or_false]; omega)
  refine lv_aload_n hx hb dX10_timesFractions_13 rfl (lv_at hl 0 rfl) ?_
  refine lv_sipush (v := nI 2033) hx hb dX10_timesFractions_14 (by decide +kernel) ?_
  refine lv_iconst (v := nI 2) hx hb dX10_timesFractions_17 (by decide +kernel) ?_
  refine lv_iload_n hx hb dX10_timesFractions_18 rfl (lv_at hl 2 rfl) ?_
  refine lv_imul hx hb dX10_timesFractions_19 ?_
  refine lv_topi (fun x_20 e_21 => ?_)
  obtain rfl : x_20 = nI (2 * s9) := e_21.trans (pk_mul 2 s9)
  refine lv_iconst (v := nI 1) hx hb dX10_timesFractions_20 (by decide +kernel) ?_
  refine lv_iadd hx hb dX10_timesFractions_21 ?_
  refine lv_topi (fun x_22 e_23 => ?_)
  obtain rfl : x_22 = nI (2 * s9 + 1) := e_23.trans (nI_add (2 * s9) 1)
  refine lv_iconst (v := nI 2) hx hb dX10_timesFractions_22 (by decide +kernel) ?_
  refine lv_iload_n hx hb dX10_timesFractions_23 rfl (lv_at hl 3 rfl) ?_
  refine lv_imul hx hb dX10_timesFractions_24 ?_
  refine lv_topi (fun x_24 e_25 => ?_)
  obtain rfl : x_24 = nI (2 * r9) := e_25.trans (pk_mul 2 r9)
  refine lv_iconst (v := nI 1) hx hb dX10_timesFractions_25 (by decide +kernel) ?_
  refine lv_iadd hx hb dX10_timesFractions_26 ?_
  refine lv_topi (fun x_26 e_27 => ?_)
  obtain rfl : x_26 = nI (2 * r9 + 1) := e_27.trans (nI_add (2 * r9) 1)
  have hPc := hP.sub (ws' := [(o, .inr (13, fs)), (p1, .inl (cP, 165440, .inr (.inl (fun j => lN (pn2_6 j))))), (l1, .inl (cL, 2068, .inl (fun j => nI (ln2_7 j)))), (b1, .inl (cB, 2068, .inl (fun j => nI (bn2_8 j))))]) [0, 1, 2, 3] rfl
  have hDc := hD.sub (ws' := [(o, .inr (13, fs)), (p1, .inl (cP, 165440, .inr (.inl (fun j => lN (pn2_6 j))))), (l1, .inl (cL, 2068, .inl (fun j => nI (ln2_7 j)))), (b1, .inl (cB, 2068, .inl (fun j => nI (bn2_8 j))))]) [0, 1, 2, 3] (by decide) rfl
  have hKc := hK.sub (tys' := [(cP, .long), (cL, .int), (cB, .boolean)]) [0, 1, 2] rfl
  have hFc := va_free (wc := [(o, .inr (13, fs)), (p1, .inl (cP, 165440, .inr (.inl (fun j => lN (pn2_6 j))))), (l1, .inl (cL, 2068, .inl (fun j => nI (ln2_7 j)))), (b1, .inl (cB, 2068, .inl (fun j => nI (bn2_8 j))))]) hD hS hA [0, 1, 2, 3] rfl
  refine va_callv (va_runV (As := [.int (nI 2033), .int (nI (2 * s9 + 1)), .int (nI (2 * r9 + 1))]) (rest := []) ⟨hx, hb, hml, hown, hts⟩ (c_X10_times11 l dC dI (va_A [(o, .inr (13, fs)), (p1, .inl (cP, 165440, .inr (.inl (fun j => lN (pn2_6 j))))), (l1, .inl (cL, 2068, .inl (fun j => nI (ln2_7 j)))), (b1, .inl (cB, 2068, .inl (fun j => nI (bn2_8 j))))] H.size) H.size (fun _ h => Or.inr h) o fs p1 l1 b1 cP cL cB pn2_6 ln2_7 bn2_8 2033 (2 * s9 + 1) (2 * r9 + 1) h1 h2 h3 hb_9 hb_10 hb_11 (by omega) (by omega) (by omega) on_17 on_19 zz_15) (cwV 3 hts (goodIn_app (goodIn_r [Cond.methodLink RX10 130 yX10_times, Cond.instanceMethod yX10_times, Cond.selects RX10 yX10_times yX10_times, Cond.initialized RX10] [1, 2, 3, 4] rfl rfl) (goodIn_sub (fun w9 h9 => bk1 w9 h9) gw_X10_times11)) rfl rfl rfl (by decide +kernel) ⟨Nat.le_of_ble_eq_true rfl, Nat.le_of_ble_eq_true rfl⟩) ⟨fun a U g mk q => by obtain ⟨q0, q1, qP, qK, qD⟩ := q; exact ⟨q0, q1, qP, va_K.moved (u := U) (U := U.calling g mk a) (Vm.Alike.refl U.vm) qK, qD⟩, va_recv hKc hPc (ci := 13) (q0 := 0) rfl rfl, fun U hU hW => ⟨rfl, by rw [hU], by rw [hU]; exact hPc, va_K.moved hW.alike hKc, hDc.self⟩⟩ rfl rfl hl.1 rfl (lv_room (Nat.le_of_ble_eq_true rfl)) dX10_timesFractions_27 ⟨(Nat.le_of_ble_eq_true rfl), (Nat.le_of_ble_eq_true rfl)⟩) hS (fun q _ h => hFc q h) hFc (fun u t H1 locs ht hvm hw_28 hB hz1 hk1 hS => ?_)
  obtain ⟨pn2_29, ln2_30, bn2_31⟩ := u
  obtain ⟨hP1, hK1, hD1⟩ := hB
  rw [ht] at hP1
  have hK1 := va_K.moved hvm.symm hK1
  try dsimp only at hw_28
  obtain ⟨hP, hD⟩ := va_join (wr := []) (w1 := [(o, .inr (13, fs)), (p1, .inl (cP, 165440, .inr (.inl (fun j => lN (pn2_29 j))))), (l1, .inl (cL, 2068, .inl (fun j => nI (ln2_30 j)))), (b1, .inl (cB, 2068, .inl (fun j => nI (bn2_31 j))))]) hP hD [0, 1, 2, 3] [] rfl rfl (by decide) (by decide) hk1 hFc hP1 hD1
  have hK := (hK.sub (tys' := []) [] rfl).app hK1
  generalize H1 = H at hP hS ⊢
  have hP : va_P (dC, dI) vwCl ([(o, .inr (13, fs)), (p1, .inl (cP, 165440, .inr (.inl (fun j => lN (pn2_29 j))))), (l1, .inl (cL, 2068, .inl (fun j => nI (ln2_30 j)))), (b1, .inl (cB, 2068, .inl (fun j => nI (bn2_31 j))))]) H := hP
  have hD : va_D A ([(o, .inr (13, fs)), (p1, .inl (cP, 165440, .inr (.inl (fun j => lN (pn2_29 j))))), (l1, .inl (cL, 2068, .inl (fun j => nI (ln2_30 j)))), (b1, .inl (cB, 2068, .inl (fun j => nI (bn2_31 j))))]) := hD
  have hK : va_K (dC, dI) vwCl [(cP, .long), (cL, .int), (cB, .boolean)] s := hK
  obtain ⟨hb_32, hb_33, hb_34, rel_35⟩ := hw_28
  obtain ⟨fr_36, on_37, zz_38⟩ := rel_35
  have on_39 := on_16.fr fr_36 (by simp only [List.mem_cons, List.not_mem_nil, or_false]; omega)
  have on_40 := on_17.fr fr_36 (by simp only [List.mem_cons, List.not_mem_nil, or_false]; omega)
  have on_41 := on_18.fr fr_36 (by simp only [List.mem_cons, List.not_mem_nil, or_false]; omega)
  have on_42 := on_19.fr fr_36 (by simp only [List.mem_cons, List.not_mem_nil, or_false]; omega)
  have on_43 := on_14.fr fr_36 (by simp only [List.mem_cons, List.not_mem_nil, or_false]; omega)
  have F_44 := fr_13.tr (S := [2032, 2066, 2033]) fr_36 (fun j h => by simp at h ⊢; omega) (fun j h => by simp at h ⊢; omega)
  refine lv_aload_n hx hb dX10_timesFractions_30 rfl (lv_at hl 0 rfl) ?_
  refine lv_sipush (v := nI 1016) hx hb dX10_timesFractions_31 (by decide +kernel) ?_
  have hPc := hP.sub (ws' := [(o, .inr (13, fs)), (p1, .inl (cP, 165440, .inr (.inl (fun j => lN (pn2_29 j))))), (l1, .inl (cL, 2068, .inl (fun j => nI (ln2_30 j)))), (b1, .inl (cB, 2068, .inl (fun j => nI (bn2_31 j))))]) [0, 1, 2, 3] rfl
  have hDc := hD.sub (ws' := [(o, .inr (13, fs)), (p1, .inl (cP, 165440, .inr (.inl (fun j => lN (pn2_29 j))))), (l1, .inl (cL, 2068, .inl (fun j => nI (ln2_30 j)))), (b1, .inl (cB, 2068, .inl (fun j => nI (bn2_31 j))))]) [0, 1, 2, 3] (by decide) rfl
  have hKc := hK.sub (tys' := [(cP, .long), (cL, .int), (cB, .boolean)]) [0, 1, 2] rfl
  have hFc := va_free (wc := [(o, .inr (13, fs)), (p1, .inl (cP, 165440, .inr (.inl (fun j => lN (pn2_29 j))))), (l1, .inl (cL, 2068, .inl (fun j => nI (ln2_30 j)))), (b1, .inl (cB, 2068, .inl (fun j => nI (bn2_31 j))))]) hD hS hA [0, 1, 2, 3] rfl
  refine va_callv (va_runV (As := [.int (nI 1016)]) (rest := []) ⟨hx, hb, hml, hown, hts⟩ (c_X10_red0r l dC dI (va_A [(o, .inr (13, fs)), (p1, .inl (cP, 165440, .inr (.inl (fun j => lN (pn2_29 j))))), (l1, .inl (cL, 2068, .inl (fun j => nI (ln2_30 j)))), (b1, .inl (cB, 2068, .inl (fun j => nI (bn2_31 j))))] H.size) H.size (fun _ h => Or.inr h) o fs p1 l1 b1 cP cL cB pn2_29 ln2_30 bn2_31 1016 h1 h2 h3 hb_32 hb_33 hb_34 (by decide) on_43) (cwV 1 hts (goodIn_app (goodIn_r [Cond.methodLink RX10 121 yX10_reduce, Cond.instanceMethod yX10_reduce, Cond.selects RX10 yX10_reduce yX10_reduce, Cond.initialized RX10] [5, 6, 7, 4] rfl rfl) (goodIn_sub (fun w9 h9 => bk2 w9 h9) gw_X10_red0r)) rfl rfl rfl (by decide +kernel) ⟨Nat.le_of_ble_eq_true rfl, Nat.le_of_ble_eq_true rfl⟩) ⟨fun a U g mk q => by obtain ⟨q0, q1, qP, qK, qD⟩ := q; exact ⟨q0, q1, qP, va_K.moved (u := U) (U := U.calling g mk a) (Vm.Alike.refl U.vm) qK, qD⟩, va_recv hKc hPc (ci := 13) (q0 := 0) rfl rfl, fun U hU hW => ⟨rfl, by rw [hU], by rw [hU]; exact hPc, va_K.moved hW.alike hKc, hDc.self⟩⟩ rfl rfl hl.1 rfl (lv_room (Nat.le_of_ble_eq_true rfl)) dX10_timesFractions_34 ⟨(Nat.le_of_ble_eq_true rfl), (Nat.le_of_ble_eq_true rfl)⟩) hS (fun q _ h => hFc q h) hFc (fun u t H1 locs ht hvm hw_45 hB hz1 hk1 hS => ?_)
  obtain ⟨pn2_46, ln2_47, bn2_48⟩ := u
  obtain ⟨hP1, hK1, hD1⟩ := hB
  rw [ht] at hP1
  have hK1 := va_K.moved hvm.symm hK1
  try dsimp only at hw_45
  obtain ⟨hP, hD⟩ := va_join (wr := []) (w1 := [(o, .inr (13, fs)), (p1, .inl (cP, 165440, .inr (.inl (fun j => lN (pn2_46 j))))), (l1, .inl (cL, 2068, .inl (fun j => nI (ln2_47 j)))), (b1, .inl (cB, 2068, .inl (fun j => nI (bn2_48 j))))]) hP hD [0, 1, 2, 3] [] rfl rfl (by decide) (by decide) hk1 hFc hP1 hD1
  have hK := (hK.sub (tys' := []) [] rfl).app hK1
  generalize H1 = H at hP hS ⊢
  have hP : va_P (dC, dI) vwCl ([(o, .inr (13, fs)), (p1, .inl (cP, 165440, .inr (.inl (fun j => lN (pn2_46 j))))), (l1, .inl (cL, 2068, .inl (fun j => nI (ln2_47 j)))), (b1, .inl (cB, 2068, .inl (fun j => nI (bn2_48 j))))]) H := hP
  have hD : va_D A ([(o, .inr (13, fs)), (p1, .inl (cP, 165440, .inr (.inl (fun j => lN (pn2_46 j))))), (l1, .inl (cL, 2068, .inl (fun j => nI (ln2_47 j)))), (b1, .inl (cB, 2068, .inl (fun j => nI (bn2_48 j))))]) := hD
  have hK : va_K (dC, dI) vwCl [(cP, .long), (cL, .int), (cB, .boolean)] s := hK
  obtain ⟨hb_49, hb_50, hb_51, rel_52⟩ := hw_45
  obtain ⟨fr_53, on_54, zz_55⟩ := rel_52
  have zb_56 := zz_55 zz_38
  have on_57 := on_39.fr fr_53 (by simp only [List.mem_cons, List.not_mem_nil, or_false]; omega)
  have on_58 := on_40.fr fr_53 (by simp only [List.mem_cons, List.not_mem_nil, or_false]; omega)
  have on_59 := on_41.fr fr_53 (by simp only [List.mem_cons, List.not_mem_nil, or_false]; omega)
  have on_60 := on_42.fr fr_53 (by simp only [List.mem_cons, List.not_mem_nil, or_false]; omega)
  have on_61 := on_43.fr fr_53 (by simp only [List.mem_cons, List.not_mem_nil, or_false]; omega)
  have F_62 := F_44.tr (S := [2032, 2066, 2033]) fr_53 (fun j h => by simp at h ⊢; omega) (fun j h => by simp at h ⊢; omega)
  refine lv_aload_n hx hb dX10_timesFractions_37 rfl (lv_at hl 0 rfl) ?_
  refine lv_iload_n hx hb dX10_timesFractions_38 rfl (lv_at hl 1 rfl) ?_
  refine lv_sipush (v := nI 1016) hx hb dX10_timesFractions_39 (by decide +kernel) ?_
  have hPc := hP.sub (ws' := [(o, .inr (13, fs)), (p1, .inl (cP, 165440, .inr (.inl (fun j => lN (pn2_46 j))))), (l1, .inl (cL, 2068, .inl (fun j => nI (ln2_47 j)))), (b1, .inl (cB, 2068, .inl (fun j => nI (bn2_48 j))))]) [0, 1, 2, 3] rfl
  have hDc := hD.sub (ws' := [(o, .inr (13, fs)), (p1, .inl (cP, 165440, .inr (.inl (fun j => lN (pn2_46 j))))), (l1, .inl (cL, 2068, .inl (fun j => nI (ln2_47 j)))), (b1, .inl (cB, 2068, .inl (fun j => nI (bn2_48 j))))]) [0, 1, 2, 3] (by decide) rfl
  have hKc := hK.sub (tys' := [(cP, .long), (cL, .int), (cB, .boolean)]) [0, 1, 2] rfl
  have hFc := va_free (wc := [(o, .inr (13, fs)), (p1, .inl (cP, 165440, .inr (.inl (fun j => lN (pn2_46 j))))), (l1, .inl (cL, 2068, .inl (fun j => nI (ln2_47 j)))), (b1, .inl (cB, 2068, .inl (fun j => nI (bn2_48 j))))]) hD hS hA [0, 1, 2, 3] rfl
  refine va_callv (va_runV (As := [.int (nI t9), .int (nI 1016)]) (rest := []) ⟨hx, hb, hml, hown, hts⟩ (c_X10_copyF l dC dI (va_A [(o, .inr (13, fs)), (p1, .inl (cP, 165440, .inr (.inl (fun j => lN (pn2_46 j))))), (l1, .inl (cL, 2068, .inl (fun j => nI (ln2_47 j)))), (b1, .inl (cB, 2068, .inl (fun j => nI (bn2_48 j))))] H.size) H.size (fun _ h => Or.inr h) o fs p1 l1 b1 cP cL cB pn2_46 ln2_47 bn2_48 t9 1016 0 1 h1 h2 h3 hb_49 hb_50 hb_51 (by omega) (by decide) on_61 on_54) (cwV 2 hts (goodIn_app (goodIn_r [Cond.methodLink RX10 136 yX10_copyFraction, Cond.instanceMethod yX10_copyFraction, Cond.selects RX10 yX10_copyFraction yX10_copyFraction, Cond.initialized RX10] [8, 9, 10, 4] rfl rfl) (goodIn_sub (fun w9 h9 => bk3 w9 h9) gw_X10_copyF)) rfl rfl rfl (by decide +kernel) ⟨Nat.le_of_ble_eq_true rfl, Nat.le_of_ble_eq_true rfl⟩) ⟨fun a U g mk q => by obtain ⟨q0, q1, qP, qK, qD⟩ := q; exact ⟨q0, q1, qP, va_K.moved (u := U) (U := U.calling g mk a) (Vm.Alike.refl U.vm) qK, qD⟩, va_recv hKc hPc (ci := 13) (q0 := 0) rfl rfl, fun U hU hW => ⟨rfl, by rw [hU], by rw [hU]; exact hPc, va_K.moved hW.alike hKc, hDc.self⟩⟩ rfl rfl hl.1 rfl (lv_room (Nat.le_of_ble_eq_true rfl)) dX10_timesFractions_42 ⟨(Nat.le_of_ble_eq_true rfl), (Nat.le_of_ble_eq_true rfl)⟩) hS (fun q _ h => hFc q h) hFc (fun u t H1 locs ht hvm hw_63 hB hz1 hk1 hS => ?_)
  obtain ⟨pn2_64, ln2_65, bn2_66⟩ := u
  obtain ⟨hP1, hK1, hD1⟩ := hB
  rw [ht] at hP1
  have hK1 := va_K.moved hvm.symm hK1
  try dsimp only at hw_63
  obtain ⟨hP, hD⟩ := va_join (wr := []) (w1 := [(o, .inr (13, fs)), (p1, .inl (cP, 165440, .inr (.inl (fun j => lN (pn2_64 j))))), (l1, .inl (cL, 2068, .inl (fun j => nI (ln2_65 j)))), (b1, .inl (cB, 2068, .inl (fun j => nI (bn2_66 j))))]) hP hD [0, 1, 2, 3] [] rfl rfl (by decide) (by decide) hk1 hFc hP1 hD1
  have hK := (hK.sub (tys' := []) [] rfl).app hK1
  generalize H1 = H at hP hS ⊢
  have hP : va_P (dC, dI) vwCl ([(o, .inr (13, fs)), (p1, .inl (cP, 165440, .inr (.inl (fun j => lN (pn2_64 j))))), (l1, .inl (cL, 2068, .inl (fun j => nI (ln2_65 j)))), (b1, .inl (cB, 2068, .inl (fun j => nI (bn2_66 j))))]) H := hP
  have hD : va_D A ([(o, .inr (13, fs)), (p1, .inl (cP, 165440, .inr (.inl (fun j => lN (pn2_64 j))))), (l1, .inl (cL, 2068, .inl (fun j => nI (ln2_65 j)))), (b1, .inl (cB, 2068, .inl (fun j => nI (bn2_66 j))))]) := hD
  have hK : va_K (dC, dI) vwCl [(cP, .long), (cL, .int), (cB, .boolean)] s := hK
  obtain ⟨hb_67, hb_68, hb_69, rel_70⟩ := hw_63
  obtain ⟨fr_71, on_72, on_73, zz_74⟩ := rel_70
  have zb_75 := zz_74 zb_56
  have F_76 := F_62.tr (S := [2032, 2066, 2033, 2 * t9, 2 * t9 + 1]) fr_71 (fun j h => by simp at h ⊢; omega) (fun j h => by simp at h ⊢; omega)
  have hP9 := hP.sub (ws' := [(o, .inr (13, fs)), (p1, .inl (cP, 165440, .inr (.inl (fun j => lN (pn2_64 j))))), (l1, .inl (cL, 2068, .inl (fun j => nI (ln2_65 j)))), (b1, .inl (cB, 2068, .inl (fun j => nI (bn2_66 j))))]) [0, 1, 2, 3] rfl
  have hD9 := hD.sub (ws' := [(o, .inr (13, fs)), (p1, .inl (cP, 165440, .inr (.inl (fun j => lN (pn2_64 j))))), (l1, .inl (cL, 2068, .inl (fun j => nI (ln2_65 j)))), (b1, .inl (cB, 2068, .inl (fun j => nI (bn2_66 j))))]) [0, 1, 2, 3] (by decide) rfl
  have hK9 := hK.sub (tys' := [(cP, .long), (cL, .int), (cB, .boolean)]) [0, 1, 2] rfl
  refine W.widen (k := 0) (n := 0) (by omega) (by omega) ?_
  exact W.vret hx hb hr (fun t ht hW => ⟨⟨(pn2_64, ln2_65, bn2_66), rfl, ⟨hb_67, hb_68, hb_69, fun j hj => F_76 j (fun h => hj (by simp at h ⊢; omega)), on_72, on_73, zb_75⟩, by rw [ht]; exact hP9, va_K.moved hW.alike hK9, hD9⟩, hS.F ht⟩) hS.2.2 dX10_timesFractions_45
